/-! what the index lacks; the files one by one -/
theorem sI_sI (M : Mem) (i j : Nat) (a b : Int32) : sI (sI M i j a) i j b = sI M i j b := by
  refine Prod.ext (funext fun x => funext fun y => ?_) rfl
  show (if x = i ∧ y = j then b else if x = i ∧ y = j then a else M.1 x y) = if x = i ∧ y = j then b else M.1 x y
  by_cases h : x = i ∧ y = j
  · rw [if_pos h, if_pos h]
  · rw [if_neg h, if_neg h, if_neg h]
theorem sI_self (M : Mem) (i j : Nat) : sI M i j (gI M i j) = M := by
  refine Prod.ext (funext fun x => funext fun y => ?_) rfl
  show (if x = i ∧ y = j then M.1 i j else M.1 x y) = M.1 x y
  by_cases h : x = i ∧ y = j
  · rw [if_pos h, h.1, h.2]
  · rw [if_neg h]
theorem ex_namedBy {X : Mem} {ns s p : Nat} (a4 : gI X 1 6 = nI ns) (hns : ns ≤ 60) (hs : s < ns) (hp : p < 12) : fn_X4_namedBy X (nI s) (nI p) = some (gI X 6 (12 * s + p)) := by
  have h1 : nI 0 ≤ nI p ∧ nI p ≤ nI 11 := rng' (by omega) (by omega) (by omega)
  have e : s * 12 + p = 12 * s + p := by omega
  simp (disch := omega) only [fn_X4_namedBy, ex_hasState a4 hns hs, nx_e, ck_t, ck_ok, bd1_s, bd1_n, bd2_s, oc_n, oc_s, l_0, l_1, l_2, l_3, l_4, l_5, l_6, l_7, l_8, l_11, l_12, l_31, l_39, l_40, l_59, l_60, l_100, l_500, l_1000, l_4095, l_9999, m1_e, ix_nI, ile_t, ile_f, ilt_t, ilt_f, ieq_t, ieq_f, nI_add, pk_mul, nI_sub, ile_m1, ilt_m1, ieq_m1, imle_m1, imlt_m1, imeq_m1, imeq_s, ieq_s, ile_s, ilt_s, gI_s, gI_ne1, gI_ne2, gJ_s, gJ_ne1, gJ_ne2, gI_sJ, gJ_sI, ibI0, ibI1, bI_t, bI_f, decide_true, decide_false, and_self, and_true, true_and, and_false, false_and, reduceIte, if_true, if_false, Nat.add_sub_cancel, e_within, e_in, h1]
  rw [e]
def lkp (Y : Mem) (i : Nat) (x : Int32) (p : Nat) : Bool := hbI x p && decide (gI Y 39 (12 * i + p) = m1)
def rs (lk : Nat → Bool) : Nat → Int32 → Int32
  | 0, v => v
  | p + 1, v => rs lk p (if lk p = true then nI p else v)
theorem rs_n {lk : Nat → Bool} : ∀ {p : Nat} {v : Int32}, (∀ q, q < p → lk q = false) → rs lk p v = v
  | 0, _, _ => rfl
  | p + 1, v, h => by rw [rs, h p (by omega), rs_n (fun q hq => h q (by omega))]; rfl
theorem rs_y {lk : Nat → Bool} {p0 : Nat} (h0 : lk p0 = true) (h1 : ∀ q, q < p0 → lk q = false) : ∀ {p : Nat} {v : Int32}, p0 < p → rs lk p v = nI p0
  | 0, _, hp => by omega
  | p + 1, v, hp => by
    rw [rs]
    by_cases e : p0 = p
    · subst e
      rw [h0, if_pos rfl, rs_n h1]
    · exact rs_y h0 h1 (by omega)
theorem ex_fnn {nm w nf ns tl gr i : Nat} {X Y : Mem} {x : Int32} (h : Inb nm w nf ns tl gr (cb X Y)) (hi : i < ns) : fn_X5_firstNotNamed X (nI i) x = some (rs (lkp Y i x) 12 m1) := by
  obtain ⟨⟨a1, a2, a3, a4, a5, a6⟩, -, c1, c2, c3, c4, c5, c6, c7⟩ := cbb_facts h
  obtain ⟨-, -, s4, -⟩ := shb h
  have hs : ∀ p rc, p < 12 → lq_X5_firstNotNamed_2 X (nI i) x rc (nI p) = if lkp Y i x p = true then some (nI p) else rc (nI (p + 1)) := by
    intro p rc hp
    have e1 := (s4 i p hi hp).1
    simp (disch := omega) only [lq_X5_firstNotNamed_2, bk_X5_firstNotNamed_31, nx_e, ck_t, ck_ok, bd1_s, bd1_n, bd2_s, oc_n, oc_s, l_0, l_1, l_2, l_3, l_4, l_5, l_6, l_7, l_8, l_11, l_12, l_31, l_39, l_40, l_59, l_60, l_100, l_500, l_1000, l_4095, l_9999, m1_e, ix_nI, ile_t, ile_f, ilt_t, ilt_f, ieq_t, ieq_f, nI_add, pk_mul, nI_sub, ile_m1, ilt_m1, ieq_m1, imle_m1, imlt_m1, imeq_m1, imeq_s, ieq_s, ile_s, ilt_s, gI_s, gI_ne1, gI_ne2, gJ_s, gJ_ne1, gJ_ne2, gI_sJ, gJ_sI, ibI0, ibI1, bI_t, bI_f, decide_true, decide_false, and_self, and_true, true_and, and_false, false_and, reduceIte, if_true, if_false, Nat.add_sub_cancel, e_within, e_in, e_isIn, ex_namedBy a4 c5 hi hp, e1]
    unfold lkp
    cases hbI x p with
    | false => rfl
    | true =>
      rw [Bool.true_and]
      by_cases q : gI Y 39 (12 * i + p) = m1
      · rw [if_pos q, decide_eq_true q]
      · rw [if_neg q, decide_eq_false q]
        rfl
  unfold fn_X5_firstNotNamed
  by_cases hex : ∃ p, p < 12 ∧ lkp Y i x p = true
  · obtain ⟨p, hp, g1, g2⟩ := least_ex hex
    rw [rs_y g1 g2 hp]
    exact scanI_y (yes := fun p => some (nI p)) (by omega) hp g1 g2 hs
  · have h0 : ∀ p, p < 12 → lkp Y i x p = false := by
      intro p hp
      cases q : lkp Y i x p with
      | false => rfl
      | true => exact absurd ⟨p, hp, q⟩ hex
    rw [rs_n h0]
    exact scanI_n (yes := fun p => some (nI p)) (by omega) h0 hs (fun rc => by simp (disch := omega) only [lq_X5_firstNotNamed_2, nx_e, ck_t, ck_ok, bd1_s, bd1_n, bd2_s, oc_n, oc_s, l_0, l_1, l_2, l_3, l_4, l_5, l_6, l_7, l_8, l_11, l_12, l_31, l_39, l_40, l_59, l_60, l_100, l_500, l_1000, l_4095, l_9999, m1_e, ix_nI, ile_t, ile_f, ilt_t, ilt_f, ieq_t, ieq_f, nI_add, pk_mul, nI_sub, ile_m1, ilt_m1, ieq_m1, imle_m1, imlt_m1, imeq_m1, imeq_s, ieq_s, ile_s, ilt_s, gI_s, gI_ne1, gI_ne2, gJ_s, gJ_ne1, gJ_ne2, gI_sJ, gJ_sI, ibI0, ibI1, bI_t, bI_f, decide_true, decide_false, and_self, and_true, true_and, and_false, false_and, reduceIte, if_true, if_false, Nat.add_sub_cancel, e_within, e_in])
def pos : Nat → Int32
  | 0 => m1
  | p + 1 => nI p
theorem pos_dec : ∀ {p : Nat}, p < 2147483648 → nI p + m1 = pos p
  | 0, _ => by decide
  | p + 1, h => nI_dec h
theorem dsc {k i : Nat} {x sn : Int32} (hi : i < 60) : ∀ (p : Nat) (Y : Mem) (v : Int32) (n : Nat), p ≤ 12 → p < n → gI Y 35 31 = nI i → (∀ q, q < 12 → gI Y 39 (12 * i + q) = m1 ∨ ∃ f, f < 60 ∧ gI Y 39 (12 * i + q) = nI f) →
    it2 (lq_X6_ask_94 (nI k) x sn) n (sI Y 35 35 v) (pos p) = if rs (lkp Y i x) p v < nI 0 then it2 (lq_X6_ask_151 (nI k) x sn) FU (sI Y 35 35 (rs (lkp Y i x) p v)) (nI 0) else some (nI 2, sI Y 35 35 (rs (lkp Y i x) p v)) := by
  intro p
  induction p with
  | zero =>
    intro Y v n hp hn e hN
    obtain ⟨n, rfl⟩ : ∃ p, n = p + 1 := ⟨n - 1, by omega⟩
    show lq_X6_ask_94 (nI k) x sn _ (sI Y 35 35 v) m1 = _
    unfold lq_X6_ask_94
    rw [if_pos (show m1 < (0 : Int32) by decide), gI_s]
    rfl
  | succ p ih =>
    intro Y v n hp hn e hN
    obtain ⟨n, rfl⟩ : ∃ p, n = p + 1 := ⟨n - 1, by omega⟩
    have hs : lq_X6_ask_94 (nI k) x sn (it2 (lq_X6_ask_94 (nI k) x sn) n) (sI Y 35 35 v) (nI p) = it2 (lq_X6_ask_94 (nI k) x sn) n (sI Y 35 35 (if lkp Y i x p = true then nI p else v)) (pos p) := by
      unfold lkp
      rcases hN p (by omega) with q | ⟨f, hf, q⟩
      · cases hb : hbI x p with
        | true =>
          simp (disch := omega) only [lq_X6_ask_94, bk_X6_ask_133, nx_e, ck_t, ck_ok, bd1_s, bd1_n, bd2_s, oc_n, oc_s, l_0, l_1, l_2, l_3, l_4, l_5, l_6, l_7, l_8, l_11, l_12, l_31, l_39, l_40, l_59, l_60, l_100, l_500, l_1000, l_4095, l_9999, m1_e, ix_nI, ile_t, ile_f, ilt_t, ilt_f, ieq_t, ieq_f, nI_add, pk_mul, nI_sub, ile_m1, ilt_m1, ieq_m1, imle_m1, imlt_m1, imeq_m1, imeq_s, ieq_s, ile_s, ilt_s, gI_s, gI_ne1, gI_ne2, gJ_s, gJ_ne1, gJ_ne2, gI_sJ, gJ_sI, ibI0, ibI1, bI_t, bI_f, decide_true, decide_false, and_self, and_true, true_and, and_false, false_and, reduceIte, if_true, if_false, Nat.add_sub_cancel, e_within, e_in, e_shr2, hb, e, q, pos_dec, sI_sI, Bool.true_and]
        | false =>
          simp (disch := omega) only [lq_X6_ask_94, bk_X6_ask_133, nx_e, ck_t, ck_ok, bd1_s, bd1_n, bd2_s, oc_n, oc_s, l_0, l_1, l_2, l_3, l_4, l_5, l_6, l_7, l_8, l_11, l_12, l_31, l_39, l_40, l_59, l_60, l_100, l_500, l_1000, l_4095, l_9999, m1_e, ix_nI, ile_t, ile_f, ilt_t, ilt_f, ieq_t, ieq_f, nI_add, pk_mul, nI_sub, ile_m1, ilt_m1, ieq_m1, imle_m1, imlt_m1, imeq_m1, imeq_s, ieq_s, ile_s, ilt_s, gI_s, gI_ne1, gI_ne2, gJ_s, gJ_ne1, gJ_ne2, gI_sJ, gJ_sI, ibI0, ibI1, bI_t, bI_f, decide_true, decide_false, and_self, and_true, true_and, and_false, false_and, reduceIte, if_true, if_false, Nat.add_sub_cancel, e_within, e_in, e_shr2, hb, pos_dec, Bool.false_and, Bool.false_eq_true]
      · have z : decide (nI f = m1) = false := decide_eq_false (nI_ne_m1 (by omega))
        cases hb : hbI x p <;>
          simp (disch := omega) only [lq_X6_ask_94, bk_X6_ask_133, nx_e, ck_t, ck_ok, bd1_s, bd1_n, bd2_s, oc_n, oc_s, l_0, l_1, l_2, l_3, l_4, l_5, l_6, l_7, l_8, l_11, l_12, l_31, l_39, l_40, l_59, l_60, l_100, l_500, l_1000, l_4095, l_9999, m1_e, ix_nI, ile_t, ile_f, ilt_t, ilt_f, ieq_t, ieq_f, nI_add, pk_mul, nI_sub, ile_m1, ilt_m1, ieq_m1, imle_m1, imlt_m1, imeq_m1, imeq_s, ieq_s, ile_s, ilt_s, gI_s, gI_ne1, gI_ne2, gJ_s, gJ_ne1, gJ_ne2, gI_sJ, gJ_sI, ibI0, ibI1, bI_t, bI_f, decide_true, decide_false, and_self, and_true, true_and, and_false, false_and, reduceIte, if_true, if_false, Nat.add_sub_cancel, e_within, e_in, e_shr2, hb, e, q, pos_dec, z, Bool.and_false, Bool.false_and, Bool.false_eq_true]
    show lq_X6_ask_94 (nI k) x sn (it2 (lq_X6_ask_94 (nI k) x sn) n) (sI Y 35 35 v) (nI p) = _
    rw [hs, ih Y _ n (by omega) (by omega) e hN]
    rfl
/-! got -/
def FhX (k : Nat) (X X' : Mem) : Prop := (∀ i j, ¬ (i = 31 ∧ 5 ≤ j ∧ j ≤ 7) → ¬ (i = 13 + 3 * k ∧ j = 5) → (i < 32 ∨ 34 < i) → gI X' i j = gI X i j) ∧ ∀ i j, gJ X' i j = gJ X i j
def FhY (k : Nat) (Y Y' : Mem) : Prop := (∀ i j, ¬ (i = 35 ∧ 32 ≤ j ∧ j ≤ 34) → ¬ (i = 57 ∧ j = k) → (i < 59 ∨ 61 < i) → gI Y' i j = gI Y i j) ∧ ∀ i j, gJ Y' i j = gJ Y i j
theorem FhX.rf {k : Nat} {X : Mem} : FhX k X X := ⟨fun _ _ _ _ _ => rfl, fun _ _ => rfl⟩
theorem FhY.rf {k : Nat} {Y : Mem} : FhY k Y Y := ⟨fun _ _ _ _ _ => rfl, fun _ _ => rfl⟩
theorem FhX.tr {k : Nat} {X X' X'' : Mem} (h : FhX k X X') (h2 : FhX k X' X'') : FhX k X X'' := ⟨fun i j a b c => (h2.1 i j a b c).trans (h.1 i j a b c), fun i j => (h2.2 i j).trans (h.2 i j)⟩
theorem FhY.tr {k : Nat} {X X' X'' : Mem} (h : FhY k X X') (h2 : FhY k X' X'') : FhY k X X'' := ⟨fun i j a b c => (h2.1 i j a b c).trans (h.1 i j a b c), fun i j => (h2.2 i j).trans (h.2 i j)⟩
theorem FgX.h {k : Nat} {X X' : Mem} (h : FgX k X X') : FhX k X X' := ⟨fun i j a b _ => h.1 i j (by omega) b, h.2⟩
theorem FgY.h {k : Nat} {X X' : Mem} (h : FgY k X X') : FhY k X X' := ⟨fun i j a b _ => h.1 i j (by omega) b, h.2⟩
def kpX (g : Nat) (a b c : Int32) (X : Mem) : Mem := sI (sI (sI (sI X 32 g a) 33 g b) 34 g c) 31 7 (nI (g + 1))
def kpY (g : Nat) (a b c : Int32) (Y : Mem) : Mem := sI (sI (sI (sI Y 59 g a) 60 g b) 61 g c) 35 34 (nI (g + 1))
theorem ex_keep {X : Mem} {g : Nat} {a b c : Int32} (e : gI X 31 7 = nI g) (hg : g < 12) : fn_X1_keepGot X a b c = some (kpX g a b c X) := by
  unfold kpX
  simp (disch := omega) only [fn_X1_keepGot, nx_e, ck_t, ck_ok, bd1_s, bd1_n, bd2_s, oc_n, oc_s, l_0, l_1, l_2, l_3, l_4, l_5, l_6, l_7, l_8, l_11, l_12, l_31, l_39, l_40, l_59, l_60, l_100, l_500, l_1000, l_4095, l_9999, m1_e, ix_nI, ile_t, ile_f, ilt_t, ilt_f, ieq_t, ieq_f, nI_add, pk_mul, nI_sub, ile_m1, ilt_m1, ieq_m1, imle_m1, imlt_m1, imeq_m1, imeq_s, ieq_s, ile_s, ilt_s, gI_s, gI_ne1, gI_ne2, gJ_s, gJ_ne1, gJ_ne2, gI_sJ, gJ_sI, ibI0, ibI1, bI_t, bI_f, decide_true, decide_false, and_self, and_true, true_and, and_false, false_and, reduceIte, if_true, if_false, Nat.add_sub_cancel, e_within, e_in, e]
theorem kp_aq {nm w nf ns tl gr k g : Nat} {a b c : Int32} {X Y : Mem} (hk : k < 6) (h : Aq nm w nf ns tl gr X Y) : Aq nm w nf ns tl gr (kpX g a b c X) (kpY g a b c Y) ∧ FhX k X (kpX g a b c X) ∧ FhY k Y (kpY g a b c Y) := by
  obtain ⟨h, h1, h2⟩ := h
  unfold kpX kpY
  refine ⟨⟨inb_fr h (fun i j q => (by simp (disch := omega) only [gI_s, gI_ne1, gI_ne2, gJ_s, gJ_ne1, gJ_ne2, gI_sJ, gJ_sI])) (fun i j => rfl) (fun i j q1 q2 => (by simp (disch := omega) only [gI_s, gI_ne1, gI_ne2, gJ_s, gJ_ne1, gJ_ne2, gI_sJ, gJ_sI])) (fun j q => (by simp (disch := omega) only [gI_s, gI_ne1, gI_ne2, gJ_s, gJ_ne1, gJ_ne2, gI_sJ, gJ_sI])) (ik_fr h.2.2.2.2 (fun j m q => (by simp (disch := omega) only [gI_s, gI_ne1, gI_ne2, gJ_s, gJ_ne1, gJ_ne2, gI_sJ, gJ_sI])) (fun j s q1 q2 q3 => (by simp (disch := omega) only [gI_s, gI_ne1, gI_ne2, gJ_s, gJ_ne1, gJ_ne2, gI_sJ, gJ_sI])) (fun i j q1 q2 => (by simp (disch := omega) only [gI_s, gI_ne1, gI_ne2, gJ_s, gJ_ne1, gJ_ne2, gI_sJ, gJ_sI]))), ?_, ?_⟩, ⟨fun i j q1 q2 q3 => ?_, fun i j => rfl⟩, ⟨fun i j q1 q2 q3 => ?_, fun i j => rfl⟩⟩
  · simp (disch := omega) only [gI_s, gI_ne1, gI_ne2, gJ_s, gJ_ne1, gJ_ne2, gI_sJ, gJ_sI]; exact h1
  · simp (disch := omega) only [gI_s, gI_ne1, gI_ne2, gJ_s, gJ_ne1, gJ_ne2, gI_sJ, gJ_sI]; exact h2
  · by_cases e : i = 31
    · subst e
      rw [gI_ne2 (by omega)]
      simp (disch := omega) only [gI_s, gI_ne1, gI_ne2, gJ_s, gJ_ne1, gJ_ne2, gI_sJ, gJ_sI]
    · simp (disch := omega) only [gI_s, gI_ne1, gI_ne2, gJ_s, gJ_ne1, gJ_ne2, gI_sJ, gJ_sI]
  · by_cases e : i = 35
    · subst e
      rw [gI_ne2 (by omega)]
      simp (disch := omega) only [gI_s, gI_ne1, gI_ne2, gJ_s, gJ_ne1, gJ_ne2, gI_sJ, gJ_sI]
    · simp (disch := omega) only [gI_s, gI_ne1, gI_ne2, gJ_s, gJ_ne1, gJ_ne2, gI_sJ, gJ_sI]
def Gt (g : Nat) (X Y : Mem) : Prop := gI X 31 7 = nI g ∧ gI Y 35 34 = nI g ∧ ∀ q, q < g → gI X 32 q = gI Y 59 q ∧ gI X 33 q = gI Y 60 q ∧ gI X 34 q = gI Y 61 q
theorem kp_gt {g : Nat} {a b c : Int32} {X Y : Mem} (h : Gt g X Y) : Gt (g + 1) (kpX g a b c X) (kpY g a b c Y) := by
  unfold kpX kpY
  refine ⟨(by simp (disch := omega) only [gI_s, gI_ne1, gI_ne2, gJ_s, gJ_ne1, gJ_ne2, gI_sJ, gJ_sI]), (by simp (disch := omega) only [gI_s, gI_ne1, gI_ne2, gJ_s, gJ_ne1, gJ_ne2, gI_sJ, gJ_sI]), fun q hq => ?_⟩
  by_cases e : q = g
  · subst e
    simp (disch := omega) only [gI_s, gI_ne1, gI_ne2, gJ_s, gJ_ne1, gJ_ne2, gI_sJ, gJ_sI, true_and]
  · simp (disch := omega) only [gI_s, gI_ne1, gI_ne2, gJ_s, gJ_ne1, gJ_ne2, gI_sJ, gJ_sI]
    exact h.2.2 q (by omega)
theorem Gt_fr {g k : Nat} {X Y X' Y' : Mem} (hk : k < 6) (hx : FgX k X X') (hy : FgY k Y Y') (h : Gt g X Y) : Gt g X' Y' := by
  refine ⟨by rw [hx.1 _ _ (by omega) (by omega)]; exact h.1, by rw [hy.1 _ _ (by omega) (by omega)]; exact h.2.1, fun q hq => ?_⟩
  rw [hx.1 32 q (by omega) (by omega), hx.1 33 q (by omega) (by omega), hx.1 34 q (by omega) (by omega), hy.1 59 q (by omega) (by omega), hy.1 60 q (by omega) (by omega), hy.1 61 q (by omega) (by omega)]
  exact h.2.2 q hq
def Gd (nm w tl k i : Nat) (x : Int32) (p : Nat) (Y : Mem) : Prop := ∀ q, q < p → hbI x q = true → gI Y 59 (cn (hbI x) q) = gI Y 39 (12 * i + q) ∧ ∃ m, m < nm ∧ wans Y w tl k m ∧ ∀ f, f < 60 → gI Y 39 (12 * i + q) = nI f → gI Y 48 (60 * m + f) = nI 1
theorem cn_lt {p : Nat → Bool} {q : Nat} (h : p q = true) : ∀ {n : Nat}, q < n → cn p q < cn p n
  | 0, hq => by omega
  | n + 1, hq => by
    rw [cn]
    by_cases e : q = n
    · subst e
      rw [h, if_pos rfl]
      omega
    · have := cn_lt h (n := n) (by omega)
      omega
theorem Ln_frh {k nm L : Nat} {X Y X' Y' : Mem} (hk : k < 6) (hx : FhX k X X') (hy : FhY k Y Y') (h : Ln k nm L X Y) : Ln k nm L X' Y' := by
  obtain ⟨h1, h2, h3⟩ := h
  refine ⟨by rw [hx.1 _ _ (by omega) (by omega) (by omega)]; exact h1, by rw [hy.1 _ _ (by omega) (by omega) (by omega)]; exact h2, fun q hq => ?_⟩
  rw [hx.1 _ _ (by omega) (by omega) (by omega), hy.1 _ _ (by omega) (by omega) (by omega)]
  obtain ⟨z1, m', z2, z3, z4⟩ := h3 q hq
  exact ⟨z1, m', z2, z3, by rw [hy.1 _ _ (by omega) (by omega) (by omega)]; exact z4⟩
theorem get_rel {nm w nf ns tl gr k L i : Nat} {r x sn : Int32} (hk : k < 6) (hL : L ≤ 8) (hi : i < ns) : ∀ (d : Nat) (X Y : Mem) (p n1 n2 : Nat), p + d = 12 → Aq nm w nf ns tl gr X Y → Ln k nm L X Y → (∀ m, m < 32 → hbI r m = dn tl Y (nI w) m) → gI X 31 4 = nI i → gI Y 35 31 = nI i → (∀ q, q < 12 → lkp Y i x q = false) → Gt (cn (hbI x) p) X Y → Gd nm w tl k i x p Y → d < n1 → d < n2 →
    ∃ X' Y', Aq nm w nf ns tl gr X' Y' ∧ FhX k X X' ∧ FhY k Y Y' ∧ ((it2 (lq_X5_getFiles_3 nm k x r) n1 X (nI p) = some (m1, X') ∧ it2 (lq_X6_ask_151 (nI k) x sn) n2 Y (nI p) = (bd1 (fn_X6_least Y' (nI k) x sn) fun v => some (nI 0, sI Y' 35 36 v)) ∧ Gt (cn (hbI x) 12) X' Y' ∧ Gd nm w tl k i x 12 Y') ∨
      ∃ q g, q < 12 ∧ it2 (lq_X5_getFiles_3 nm k x r) n1 X (nI p) = some (nI q, X') ∧ it2 (lq_X6_ask_151 (nI k) x sn) n2 Y (nI p) = some (nI 3, sI Y' 35 35 (nI q)) ∧ g ≤ 12 ∧ Gt g X' Y') := by
  intro d
  induction d with
  | zero =>
    intro X Y p n1 n2 hd h hl hr e1 e2 hlk hg hgd hn1 hn2
    obtain ⟨p1, rfl⟩ : ∃ p, n1 = p + 1 := ⟨n1 - 1, by omega⟩
    obtain ⟨p2, rfl⟩ : ∃ p, n2 = p + 1 := ⟨n2 - 1, by omega⟩
    obtain rfl : p = 12 := by omega
    refine ⟨X, Y, h, FhX.rf, FhY.rf, Or.inl ⟨?_, ?_, hg, hgd⟩⟩
    · show lq_X5_getFiles_3 nm k x r _ X (nI 12) = _
      unfold lq_X5_getFiles_3
      rw [if_pos (show (12 : Int32) ≤ nI 12 by decide)]
      rfl
    · show lq_X6_ask_151 (nI k) x sn _ Y (nI 12) = _
      unfold lq_X6_ask_151
      rw [if_pos (show (12 : Int32) ≤ nI 12 by decide)]
      rfl
  | succ d ih =>
    intro X Y p n1 n2 hd h hl hr e1 e2 hlk hg hgd hn1 hn2
    obtain ⟨p1, rfl⟩ : ∃ p, n1 = p + 1 := ⟨n1 - 1, by omega⟩
    obtain ⟨p2, rfl⟩ : ∃ p, n2 = p + 1 := ⟨n2 - 1, by omega⟩
    obtain ⟨⟨a1, a2, a3, a4, a5, a6⟩, ⟨b1, b2, b3, b4, b5, b6⟩, c1, c2, c3, c4, c5, c6, c7⟩ := cbb_facts h.1
    have hp : p < 12 := by omega
    show ∃ X' Y', Aq nm w nf ns tl gr X' Y' ∧ FhX k X X' ∧ FhY k Y Y' ∧ ((lq_X5_getFiles_3 nm k x r (it2 (lq_X5_getFiles_3 nm k x r) p1) X (nI p) = some (m1, X') ∧ lq_X6_ask_151 (nI k) x sn (it2 (lq_X6_ask_151 (nI k) x sn) p2) Y (nI p) = (bd1 (fn_X6_least Y' (nI k) x sn) fun v => some (nI 0, sI Y' 35 36 v)) ∧ Gt (cn (hbI x) 12) X' Y' ∧ Gd nm w tl k i x 12 Y') ∨
      ∃ q g, q < 12 ∧ lq_X5_getFiles_3 nm k x r (it2 (lq_X5_getFiles_3 nm k x r) p1) X (nI p) = some (nI q, X') ∧ lq_X6_ask_151 (nI k) x sn (it2 (lq_X6_ask_151 (nI k) x sn) p2) Y (nI p) = some (nI 3, sI Y' 35 35 (nI q)) ∧ g ≤ 12 ∧ Gt g X' Y')
    cases hb : hbI x p with
    | false =>
      have ecn : cn (hbI x) (p + 1) = cn (hbI x) p := by rw [cn, hb]; rfl
      have ex : lq_X5_getFiles_3 nm k x r (it2 (lq_X5_getFiles_3 nm k x r) p1) X (nI p) = it2 (lq_X5_getFiles_3 nm k x r) p1 X (nI (p + 1)) := by
        simp (disch := omega) only [lq_X5_getFiles_3, bk_X5_getFiles_72, nx_e, ck_t, ck_ok, bd1_s, bd1_n, bd2_s, oc_n, oc_s, l_0, l_1, l_2, l_3, l_4, l_5, l_6, l_7, l_8, l_11, l_12, l_31, l_39, l_40, l_59, l_60, l_100, l_500, l_1000, l_4095, l_9999, m1_e, ix_nI, ile_t, ile_f, ilt_t, ilt_f, ieq_t, ieq_f, nI_add, pk_mul, nI_sub, ile_m1, ilt_m1, ieq_m1, imle_m1, imlt_m1, imeq_m1, imeq_s, ieq_s, ile_s, ilt_s, gI_s, gI_ne1, gI_ne2, gJ_s, gJ_ne1, gJ_ne2, gI_sJ, gJ_sI, ibI0, ibI1, bI_t, bI_f, decide_true, decide_false, and_self, and_true, true_and, and_false, false_and, reduceIte, if_true, if_false, Nat.add_sub_cancel, e_within, e_in, e_isIn, hb, Bool.false_eq_true]
      have ey : lq_X6_ask_151 (nI k) x sn (it2 (lq_X6_ask_151 (nI k) x sn) p2) Y (nI p) = it2 (lq_X6_ask_151 (nI k) x sn) p2 Y (nI (p + 1)) := by
        simp (disch := omega) only [lq_X6_ask_151, bk_X6_ask_252, nx_e, ck_t, ck_ok, bd1_s, bd1_n, bd2_s, oc_n, oc_s, l_0, l_1, l_2, l_3, l_4, l_5, l_6, l_7, l_8, l_11, l_12, l_31, l_39, l_40, l_59, l_60, l_100, l_500, l_1000, l_4095, l_9999, m1_e, ix_nI, ile_t, ile_f, ilt_t, ilt_f, ieq_t, ieq_f, nI_add, pk_mul, nI_sub, ile_m1, ilt_m1, ieq_m1, imle_m1, imlt_m1, imeq_m1, imeq_s, ieq_s, ile_s, ilt_s, gI_s, gI_ne1, gI_ne2, gJ_s, gJ_ne1, gJ_ne2, gI_sJ, gJ_sI, ibI0, ibI1, bI_t, bI_f, decide_true, decide_false, and_self, and_true, true_and, and_false, false_and, reduceIte, if_true, if_false, Nat.add_sub_cancel, e_within, e_in, e_shr2, hb, Bool.false_eq_true]
      rw [ex, ey]
      refine ih X Y (p + 1) p1 p2 (by omega) h hl hr e1 e2 hlk (by rw [ecn]; exact hg) (fun q h1 h2 => ?_) (by omega) (by omega)
      by_cases e : q = p
      · subst e; rw [hb] at h2; cases h2
      · exact hgd q (by omega) h2
    | true =>
      have ecn : cn (hbI x) (p + 1) = cn (hbI x) p + 1 := by rw [cn, hb]; rfl
      have hc : cn (hbI x) p < 12 := by have := cn_le (hbI x) p; omega
      obtain ⟨s4, s4'⟩ := (shb h.1).2.2.1 i p hi hp
      obtain ⟨f, hf, ef⟩ : ∃ f, f < 60 ∧ gI Y 39 (12 * i + p) = nI f := by
        rcases s4' with z | ⟨f, hf, z⟩
        · have := hlk p hp
          unfold lkp at this
          rw [hb, z, decide_eq_true rfl] at this
          cases this
        · exact ⟨f, by omega, z⟩
      obtain ⟨rv, X1, Y1, g1, g2, g3, g4, g5, g6⟩ := gv_rel (f := f) hk hf L X Y 0 FU FU (by omega) hL h hl hr (by show L < 1000; omega) (by show L < 1000; omega)
      have g1' : fn_X5_findGiver nm X k (nI f) r = some (rv, X1) := g1
      have g2' : fn_X6_giver Y (nI k) (nI f) = some (rv, Y1) := g2
      have hgt := Gt_fr hk g4 g5 hg
      have ex1 : lq_X5_getFiles_3 nm k x r (it2 (lq_X5_getFiles_3 nm k x r) p1) X (nI p) = if rv = m1 then some (nI p, X1) else bd1 (fn_X1_keepGot X1 (nI f) (nI p) rv) fun M5 => it2 (lq_X5_getFiles_3 nm k x r) p1 M5 (nI (p + 1)) := by
        simp (disch := omega) only [lq_X5_getFiles_3, bk_X5_getFiles_72, nx_e, ck_t, ck_ok, bd1_s, bd1_n, bd2_s, oc_n, oc_s, l_0, l_1, l_2, l_3, l_4, l_5, l_6, l_7, l_8, l_11, l_12, l_31, l_39, l_40, l_59, l_60, l_100, l_500, l_1000, l_4095, l_9999, m1_e, ix_nI, ile_t, ile_f, ilt_t, ilt_f, ieq_t, ieq_f, nI_add, pk_mul, nI_sub, ile_m1, ilt_m1, ieq_m1, imle_m1, imlt_m1, imeq_m1, imeq_s, ieq_s, ile_s, ilt_s, gI_s, gI_ne1, gI_ne2, gJ_s, gJ_ne1, gJ_ne2, gI_sJ, gJ_sI, ibI0, ibI1, bI_t, bI_f, decide_true, decide_false, and_self, and_true, true_and, and_false, false_and, reduceIte, if_true, if_false, Nat.add_sub_cancel, e_within, e_in, e_isIn, hb, e1, ex_namedBy a4 c5 hi hp, s4, ef, g1']
      have ey1 : lq_X6_ask_151 (nI k) x sn (it2 (lq_X6_ask_151 (nI k) x sn) p2) Y (nI p) = if nI 0 ≤ rv then it2 (lq_X6_ask_151 (nI k) x sn) p2 (kpY (cn (hbI x) p) (nI f) (nI p) rv Y1) (nI (p + 1)) else some (nI 3, sI Y1 35 35 (nI p)) := by
        unfold kpY
        simp (disch := omega) only [lq_X6_ask_151, bk_X6_ask_252, nx_e, ck_t, ck_ok, bd1_s, bd1_n, bd2_s, oc_n, oc_s, l_0, l_1, l_2, l_3, l_4, l_5, l_6, l_7, l_8, l_11, l_12, l_31, l_39, l_40, l_59, l_60, l_100, l_500, l_1000, l_4095, l_9999, m1_e, ix_nI, ile_t, ile_f, ilt_t, ilt_f, ieq_t, ieq_f, nI_add, pk_mul, nI_sub, ile_m1, ilt_m1, ieq_m1, imle_m1, imlt_m1, imeq_m1, imeq_s, ieq_s, ile_s, ilt_s, gI_s, gI_ne1, gI_ne2, gJ_s, gJ_ne1, gJ_ne2, gI_sJ, gJ_sI, ibI0, ibI1, bI_t, bI_f, decide_true, decide_false, and_self, and_true, true_and, and_false, false_and, reduceIte, if_true, if_false, Nat.add_sub_cancel, e_within, e_in, e_shr2, hb, e2, ef, g2', hgt.2.1]
      rw [ex1, ey1]
      rcases g6 with g6 | ⟨m, g6, g7, g8, g9⟩
      · subst g6
        rw [if_pos rfl, if_neg (show ¬ nI 0 ≤ m1 by decide)]
        exact ⟨X1, Y1, g3, g4.h, g5.h, Or.inr ⟨p, _, hp, rfl, rfl, by omega, hgt⟩⟩
      · subst g6
        rw [if_neg (nI_ne_m1 (by omega)), if_pos (nI_le (by omega) (by omega)), ex_keep hgt.1 hc, bd1_s]
        obtain ⟨k1, k2, k3⟩ := kp_aq (g := cn (hbI x) p) (a := nI f) (b := nI p) (c := nI m) hk g3
        have fx := g4.h.tr k2
        have fy := g5.h.tr k3
        have fr : ∀ i j, 36 ≤ i → i ≤ 55 → gI (kpY (cn (hbI x) p) (nI f) (nI p) (nI m) Y1) i j = gI Y i j := fun i j z1 z2 => fy.1 i j (by omega) (by omega) (by omega)
        have f39 : ∀ j, gI (kpY (cn (hbI x) p) (nI f) (nI p) (nI m) Y1) 39 j = gI Y 39 j := fun j => fr 39 j (by omega) (by omega)
        have f48 : ∀ j, gI (kpY (cn (hbI x) p) (nI f) (nI p) (nI m) Y1) 48 j = gI Y 48 j := fun j => fr 48 j (by omega) (by omega)
        obtain ⟨X', Y', i1, i2, i3, i4⟩ := ih (kpX (cn (hbI x) p) (nI f) (nI p) (nI m) X1) (kpY (cn (hbI x) p) (nI f) (nI p) (nI m) Y1) (p + 1) p1 p2 (by omega) k1 (Ln_frh hk fx fy hl) (fun m hm => by rw [dn_fr (fun i j z1 z2 => fr i j (by omega) (by omega))]; exact hr m hm) (by rw [fx.1 _ _ (by omega) (by omega) (by omega)]; exact e1) (by rw [fy.1 _ _ (by omega) (by omega) (by omega)]; exact e2) (fun q hq => by unfold lkp; rw [f39]; exact hlk q hq) (by rw [ecn]; exact kp_gt hgt) (fun q h1 h2 => by
          rw [f39]
          simp only [f48]
          by_cases e : q = p
          · subst e
            refine ⟨?_, m, g7, (wans_fr fr).mpr g8, fun f' hf' ef' => ?_⟩
            · unfold kpY
              rw [ef]
              simp (disch := omega) only [gI_s, gI_ne1, gI_ne2, gJ_s, gJ_ne1, gJ_ne2, gI_sJ, gJ_sI]
            · rw [ef] at ef'
              rw [← (nI_eq (by omega) (by omega)).mp ef']
              exact g9
          · obtain ⟨z1, m', z2, z3, z4⟩ := hgd q (by omega) h2
            refine ⟨?_, m', z2, (wans_fr fr).mpr z3, z4⟩
            rw [← z1]
            have := cn_lt h2 (show q < p by omega)
            unfold kpY
            rw [gI_ne1 (by omega), gI_ne1 (by omega), gI_ne1 (by omega), gI_ne2 (by omega)]
            exact g5.1 59 _ (by omega) (by omega)) (by omega) (by omega)
        exact ⟨X', Y', i1, fx.tr i2, fy.tr i3, i4⟩
