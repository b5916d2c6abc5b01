/-! one asking of one mirror -/
theorem iff_f {α : Type} {A B : α} : (if false = true then A else B) = B := rfl
theorem iff_tf {α : Type} {A B : α} : (if true = false then A else B) = B := rfl
def FgX (k : Nat) (X X' : Mem) : Prop := (∀ i j, ¬ (i = 31 ∧ (j = 5 ∨ j = 6)) → ¬ (i = 13 + 3 * k ∧ j = 5) → gI X' i j = gI X i j) ∧ ∀ i j, gJ X' i j = gJ X i j
def FgY (k : Nat) (Y Y' : Mem) : Prop := (∀ i j, ¬ (i = 35 ∧ (j = 32 ∨ j = 33)) → ¬ (i = 57 ∧ j = k) → gI Y' i j = gI Y i j) ∧ ∀ i j, gJ Y' i j = gJ Y i j
theorem FgX.rf {k : Nat} {X : Mem} : FgX k X X := ⟨fun _ _ _ _ => rfl, fun _ _ => rfl⟩
theorem FgY.rf {k : Nat} {Y : Mem} : FgY k Y Y := ⟨fun _ _ _ _ => rfl, fun _ _ => rfl⟩
theorem FgX.tr {k : Nat} {X X' X'' : Mem} (h : FgX k X X') (h2 : FgX k X' X'') : FgX k X X'' := ⟨fun i j a b => (h2.1 i j a b).trans (h.1 i j a b), fun i j => (h2.2 i j).trans (h.2 i j)⟩
theorem FgY.tr {k : Nat} {X X' X'' : Mem} (h : FgY k X X') (h2 : FgY k X' X'') : FgY k X X'' := ⟨fun i j a b => (h2.1 i j a b).trans (h.1 i j a b), fun i j => (h2.2 i j).trans (h.2 i j)⟩
def spX (c : Int32) (X : Mem) : Mem := sI (sI X 31 5 (gI X 31 5 + c)) 31 6 (gI X 31 6 + nI 1)
def spY (c : Int32) (Y : Mem) : Mem := sI (sI Y 35 32 (gI Y 35 32 + c)) 35 33 (gI Y 35 33 + nI 1)
theorem gI_spX {c : Int32} {X : Mem} {i j : Nat} (h : i ≠ 31) : gI (spX c X) i j = gI X i j := by unfold spX; rw [gI_ne1 h, gI_ne1 h]
theorem gJ_spX {c : Int32} {X : Mem} {i j : Nat} : gJ (spX c X) i j = gJ X i j := rfl
theorem gI_spY {c : Int32} {Y : Mem} {i j : Nat} (h : i ≠ 35) : gI (spY c Y) i j = gI Y i j := by unfold spY; rw [gI_ne1 h, gI_ne1 h]
theorem gI_spY2 {c : Int32} {Y : Mem} {i j : Nat} (h : j ≠ 32) (h2 : j ≠ 33) : gI (spY c Y) i j = gI Y i j := by unfold spY; rw [gI_ne2 h2, gI_ne2 h]
theorem spX_f {k : Nat} (c : Int32) (X : Mem) : FgX k X (spX c X) := by
  refine ⟨fun i j a b => ?_, fun i j => rfl⟩
  by_cases e : i = 31
  · subst e
    unfold spX
    rw [gI_ne2 (by omega), gI_ne2 (by omega)]
  · exact gI_spX e
theorem spY_f {k : Nat} (c : Int32) (Y : Mem) : FgY k Y (spY c Y) := by
  refine ⟨fun i j a b => ?_, fun i j => rfl⟩
  by_cases e : i = 35
  · subst e
    exact gI_spY2 (by omega) (by omega)
  · exact gI_spY e
def Aq (nm w nf ns tl gr : Nat) (X Y : Mem) : Prop := Inb nm w nf ns tl gr (cb X Y) ∧ gI X 31 5 = gI Y 35 32 ∧ gI X 31 6 = gI Y 35 33
theorem sp_aq {nm w nf ns tl gr : Nat} {X Y : Mem} (c : Int32) (h : Aq nm w nf ns tl gr X Y) : Aq nm w nf ns tl gr (spX c X) (spY c Y) := by
  obtain ⟨h, h1, h2⟩ := h
  refine ⟨inb_fr h (fun i j q => gI_spX (by omega)) (fun i j => rfl) (fun i j q1 q2 => gI_spY (by omega)) (fun j q => gI_spY2 (by omega) (by omega)) (ik_fr h.2.2.2.2 (fun j m q => gI_spX (by omega)) (fun j s q1 q2 q3 => gI_spX (by omega)) (fun i j q1 q2 => gI_spY (by omega))), ?_, ?_⟩
  · unfold spX spY
    simp (disch := omega) only [gI_s, gI_ne1, gI_ne2, gJ_s, gJ_ne1, gJ_ne2, gI_sJ, gJ_sI]
    rw [h1]
  · unfold spX spY
    simp (disch := omega) only [gI_s, gI_ne1, gI_ne2, gJ_s, gJ_ne1, gJ_ne2, gI_sJ, gJ_sI]
    rw [h2]
theorem or256 : ∀ b : Fin 256, ∀ m : Fin 8, nI b.val ||| b5 m.val = nI (b.val ||| 2 ^ m.val) ∧ b.val ||| 2 ^ m.val < 256 := by decide +kernel
theorem bad_aq {nm w nf ns tl gr k m : Nat} {X Y : Mem} (hk : k < 6) (hm : m < 8) (h : Aq nm w nf ns tl gr X Y) : Aq nm w nf ns tl gr (sI X (13 + 3 * k) 5 (gI Y 57 k ||| b5 m)) (sI Y 57 k (gI Y 57 k ||| b5 m)) ∧ FgX k X (sI X (13 + 3 * k) 5 (gI Y 57 k ||| b5 m)) ∧ FgY k Y (sI Y 57 k (gI Y 57 k ||| b5 m)) := by
  obtain ⟨h, h1, h2⟩ := h
  refine ⟨⟨inb_fr h (fun i j q => (by simp (disch := omega) only [gI_s, gI_ne1, gI_ne2, gJ_s, gJ_ne1, gJ_ne2, gI_sJ, gJ_sI])) (fun i j => rfl) (fun i j q1 q2 => (by simp (disch := omega) only [gI_s, gI_ne1, gI_ne2, gJ_s, gJ_ne1, gJ_ne2, gI_sJ, gJ_sI])) (fun j q => (by simp (disch := omega) only [gI_s, gI_ne1, gI_ne2, gJ_s, gJ_ne1, gJ_ne2, gI_sJ, gJ_sI])) ?_, ?_, ?_⟩, ⟨fun i j a b => ?_, fun i j => rfl⟩, ⟨fun i j a b => ?_, fun i j => rfl⟩⟩
  · intro k' hk'
    have h0 := h.2.2.2.2 k' hk'
    unfold iK1 at *
    by_cases e : k' = k
    · subst e
      simp (disch := omega) only [cb_x, cb_y, gI_s, gI_ne1, gI_ne2, gJ_s, gJ_ne1, gJ_ne2, gI_sJ, gJ_sI, true_and] at *
      refine ⟨h0.1, h0.2.1, h0.2.2.1, ?_⟩
      obtain ⟨-, b, hb, e⟩ := h0.2.2.2
      obtain ⟨o1, o2⟩ := or256 ⟨b, hb⟩ ⟨m, hm⟩
      exact ⟨_, o2, by rw [e]; exact o1⟩
    · simp (disch := omega) only [cb_x, cb_y, gI_s, gI_ne1, gI_ne2, gJ_s, gJ_ne1, gJ_ne2, gI_sJ, gJ_sI] at *
      exact h0
  · simp (disch := omega) only [gI_s, gI_ne1, gI_ne2, gJ_s, gJ_ne1, gJ_ne2, gI_sJ, gJ_sI]; exact h1
  · simp (disch := omega) only [gI_s, gI_ne1, gI_ne2, gJ_s, gJ_ne1, gJ_ne2, gI_sJ, gJ_sI]; exact h2
  · by_cases e : i = 13 + 3 * k
    · subst e
      rw [gI_ne2 (by omega)]
    · rw [gI_ne1 e]
  · by_cases e : i = 57
    · subst e
      rw [gI_ne2 (by omega)]
    · rw [gI_ne1 e]
theorem dn_fr {Y Y' : Mem} (h : ∀ i j, 51 ≤ i → i ≤ 53 → gI Y' i j = gI Y i j) (tl : Nat) (w : Int32) (m : Nat) : dn tl Y' w m = dn tl Y w m := by
  unfold dn
  refine anyB_cong (fun p hp => ?_)
  unfold dnp
  rw [h 51 p (by omega) (by omega), h 52 p (by omega) (by omega), h 53 p (by omega) (by omega)]
theorem e_spend (X : Mem) (c : Int32) : fn_X1_spend X c = some (spX c X) := by
  unfold fn_X1_spend spX
  rw [nx_e, nx_e]
  rw [gI_ne2 (by omega)]
  rfl
theorem ey_tells {Y : Mem} {w tl k m : Nat} (b2 : gI Y 35 0 = nI w) (b5 : gI Y 35 19 = nI tl) (hw : w ≤ 9999) (ht : tl ≤ 40) (hk : k < 6) (hm : m < 8) : fn_X6_tells Y (nI k) (nI m) = some (bI (!dn tl Y (nI w) m), spY (gI Y 54 (8 * k + m)) Y) := by
  have e1 : fn_X6_isFallen (spY (gI Y 54 (8 * k + m)) Y) (nI m) = some (bI (dn tl Y (nI w) m)) := by
    rw [ey_isFallen (w := w) (tl := tl) (by rw [gI_spY2 (by omega) (by omega)]; exact b2) (by rw [gI_spY2 (by omega) (by omega)]; exact b5) hw ht, dn_fr (fun i j q1 q2 => gI_spY (by omega))]
  have e2 : fn_X6_tells Y (nI k) (nI m) = bd1 (fn_X6_isFallen (spY (gI Y 54 (8 * k + m)) Y) (nI m)) fun r_3 => if r_3 = (0 : Int32) then some ((1 : Int32), spY (gI Y 54 (8 * k + m)) Y) else some ((0 : Int32), spY (gI Y 54 (8 * k + m)) Y) := by
    unfold spY
    simp (disch := omega) only [fn_X6_tells, nx_e, ck_t, ck_ok, bd1_s, bd1_n, bd2_s, oc_n, oc_s, l_0, l_1, l_2, l_3, l_4, l_5, l_6, l_7, l_8, l_11, l_12, l_31, l_39, l_40, l_59, l_60, l_100, l_500, l_1000, l_4095, l_9999, m1_e, ix_nI, ile_t, ile_f, ilt_t, ilt_f, ieq_t, ieq_f, nI_add, pk_mul, nI_sub, ile_m1, ilt_m1, ieq_m1, imle_m1, imlt_m1, imeq_m1, imeq_s, ieq_s, ile_s, ilt_s, gI_s, gI_ne1, gI_ne2, gJ_s, gJ_ne1, gJ_ne2, gI_sJ, gJ_sI, ibI0, ibI1, bI_t, bI_f, decide_true, decide_false, and_self, and_true, true_and, and_false, false_and, reduceIte, if_true, if_false, Nat.add_sub_cancel, e_within, e_in]
  rw [e2, e1, bd1_s]
  cases dn tl Y (nI w) m <;> rfl
theorem ex_inLine {X : Mem} {k L p m : Nat} (e2 : gI X (13 + 3 * k) 2 = nI L) (hL : L ≤ 8) (hp : p < L) (e : gI X (13 + 3 * k + 2) p = nI m) : fn_X0_inLine X k (nI p) = some (nI m) := by
  have h1 : nI 0 ≤ nI p ∧ nI p ≤ nI (L - 1) := rng' (by omega) (by omega) (by omega)
  simp (disch := omega) only [fn_X0_inLine, nx_e, ck_t, ck_ok, bd1_s, bd1_n, bd2_s, oc_n, oc_s, l_0, l_1, l_2, l_3, l_4, l_5, l_6, l_7, l_8, l_11, l_12, l_31, l_39, l_40, l_59, l_60, l_100, l_500, l_1000, l_4095, l_9999, m1_e, ix_nI, ile_t, ile_f, ilt_t, ilt_f, ieq_t, ieq_f, nI_add, pk_mul, nI_sub, ile_m1, ilt_m1, ieq_m1, imle_m1, imlt_m1, imeq_m1, imeq_s, ieq_s, ile_s, ilt_s, gI_s, gI_ne1, gI_ne2, gJ_s, gJ_ne1, gJ_ne2, gI_sJ, gJ_sI, ibI0, ibI1, bI_t, bI_f, decide_true, decide_false, and_self, and_true, true_and, and_false, false_and, reduceIte, if_true, if_false, Nat.add_sub_cancel, e_within, e_in, e2, h1, e]
theorem ex_costOf {X : Mem} {k m : Nat} (hm : m < 8) : fn_X0_costOf X k (nI m) = some (gI X (13 + 3 * k + 1) m) := by
  have h1 : nI 0 ≤ nI m ∧ nI m ≤ nI 7 := rng' (by omega) (by omega) (by omega)
  simp (disch := omega) only [fn_X0_costOf, nx_e, ck_t, ck_ok, bd1_s, bd1_n, bd2_s, oc_n, oc_s, l_0, l_1, l_2, l_3, l_4, l_5, l_6, l_7, l_8, l_11, l_12, l_31, l_39, l_40, l_59, l_60, l_100, l_500, l_1000, l_4095, l_9999, m1_e, ix_nI, ile_t, ile_f, ilt_t, ilt_f, ieq_t, ieq_f, nI_add, pk_mul, nI_sub, ile_m1, ilt_m1, ieq_m1, imle_m1, imlt_m1, imeq_m1, imeq_s, ieq_s, ile_s, ilt_s, gI_s, gI_ne1, gI_ne2, gJ_s, gJ_ne1, gJ_ne2, gI_sJ, gJ_sI, ibI0, ibI1, bI_t, bI_f, decide_true, decide_false, and_self, and_true, true_and, and_false, false_and, reduceIte, if_true, if_false, Nat.add_sub_cancel, e_within, e_in, h1]
theorem ex_mark {X : Mem} {k m : Nat} (hm : m < 8) : fn_X0_markBad X k (nI m) = some (sI X (13 + 3 * k) 5 (gI X (13 + 3 * k) 5 ||| b5 m)) := by
  have h1 : nI 0 ≤ nI m ∧ nI m ≤ nI 7 := rng' (by omega) (by omega) (by omega)
  simp (disch := omega) only [fn_X0_markBad, nx_e, ck_t, ck_ok, bd1_s, bd1_n, bd2_s, oc_n, oc_s, l_0, l_1, l_2, l_3, l_4, l_5, l_6, l_7, l_8, l_11, l_12, l_31, l_39, l_40, l_59, l_60, l_100, l_500, l_1000, l_4095, l_9999, m1_e, ix_nI, ile_t, ile_f, ilt_t, ilt_f, ieq_t, ieq_f, nI_add, pk_mul, nI_sub, ile_m1, ilt_m1, ieq_m1, imle_m1, imlt_m1, imeq_m1, imeq_s, ieq_s, ile_s, ilt_s, gI_s, gI_ne1, gI_ne2, gJ_s, gJ_ne1, gJ_ne2, gI_sJ, gJ_sI, ibI0, ibI1, bI_t, bI_f, decide_true, decide_false, and_self, and_true, true_and, and_false, false_and, reduceIte, if_true, if_false, Nat.add_sub_cancel, e_within, e_in, h1, e_shl2]
theorem ex_bad {X : Mem} {k m : Nat} {B : Int32} (hm : m < 8) (e : gI X (13 + 3 * k) 5 = B) : fn_X0_knowsAsBad X k (nI m) = some (bI (hbI B m)) := by
  simp (disch := omega) only [fn_X0_knowsAsBad, e, e_isIn, bd1_s]
def Ln (k nm L : Nat) (X Y : Mem) : Prop := gI X (13 + 3 * k) 2 = nI L ∧ gI Y 35 29 = nI L ∧ ∀ q, q < L → gI X (13 + 3 * k + 2) q = gI Y 58 q ∧ ∃ m', m' < nm ∧ gI Y 58 q = nI m' ∧ gI Y 54 (8 * k + m') ≠ m1
theorem Ln_fr {k nm L : Nat} {X Y X' Y' : Mem} (hk : k < 6) (hx : FgX k X X') (hy : FgY k Y Y') (h : Ln k nm L X Y) : Ln k nm L X' Y' := by
  obtain ⟨h1, h2, h3⟩ := h
  refine ⟨by rw [hx.1 _ _ (by omega) (by omega)]; exact h1, by rw [hy.1 _ _ (by omega) (by omega)]; exact h2, fun q hq => ?_⟩
  rw [hx.1 _ _ (by omega) (by omega), hy.1 _ _ (by omega) (by omega)]
  obtain ⟨z1, m', z2, z3, z4⟩ := h3 q hq
  exact ⟨z1, m', z2, z3, by rw [hy.1 _ _ (by omega) (by omega)]; exact z4⟩
/-- a mirror that would answer -/
def wans (Y : Mem) (w tl k m : Nat) : Prop := gI Y 54 (8 * k + m) ≠ m1 ∧ dn tl Y (nI w) m = false ∧ gI Y 47 m = nI 0
theorem wans_fr {Y Y' : Mem} {w tl k m : Nat} (h : ∀ i j, 36 ≤ i → i ≤ 55 → gI Y' i j = gI Y i j) : wans Y' w tl k m ↔ wans Y w tl k m := by
  unfold wans
  rw [h 54 _ (by omega) (by omega), h 47 _ (by omega) (by omega), dn_fr (fun i j q1 q2 => h i j (by omega) (by omega))]
theorem ix_step_x {nm w nf ns tl gr k m i p L : Nat} {X Y : Mem} {r : Int32} {lb : Bool} (hk : k < 6) (h : Aq nm w nf ns tl gr X Y) (hr : ∀ m, m < 32 → hbI r m = dn tl Y (nI w) m) (hm : m < nm) (hi : i < ns) (e2 : gI X (13 + 3 * k) 2 = nI L) (hL : L ≤ 8) (hp : p < L) (e : gI X (13 + 3 * k + 2) p = nI m) (hb : hbI (gI Y 57 k) m = false) (ei : gI Y 43 m = nI i) (el : gI Y 47 m = bI lb) (rc : Mem → Int32 → Option (Int32 × Mem)) :
    lq_X5_findIndex_2 nm k r rc X (nI p) = if dn tl Y (nI w) m = true then rc (spX (gI Y 54 (8 * k + m)) X) (nI (p + 1)) else if lb = true then rc (sI (spX (gI Y 54 (8 * k + m)) X) (13 + 3 * k) 5 (gI Y 57 k ||| b5 m)) (nI (p + 1)) else if gud Y w ns gr k i (gI Y 56 k) = true then some (nI i, spX (gI Y 54 (8 * k + m)) X) else rc (spX (gI Y 54 (8 * k + m)) X) (nI (p + 1)) := by
  obtain ⟨⟨a1, a2, a3, a4, a5, a6⟩, ⟨b1, b2, b3, b4, b5, b6⟩, c1, c2, c3, c4, c5, c6, c7⟩ := cbb_facts h.1
  obtain ⟨k1, k2, k3, k4⟩ := askb h.1 hk
  obtain ⟨⟨x4, -⟩, ⟨x9, -⟩, -⟩ := mirb h.1 hm
  have g := ex_suits (sn := gI Y 56 k) (sp_aq (gI Y 54 (8 * k + m)) h).1 hk hi
  rw [gI_spY (by omega), gud_fr (fun i j q1 q2 => gI_spY (by omega))] at g
  have hf : fn_X5_isIn r (nI m) = some (bI (dn tl Y (nI w) m)) := by rw [e_isIn (by omega), hr m (by omega)]
  have hm8 : m < 8 := by omega
  cases hd : dn tl Y (nI w) m <;> cases lb <;> cases hg : gud Y w ns gr k i (gI Y 56 k) <;>
    simp (disch := omega) only [lq_X5_findIndex_2, bk_X5_findIndex_110, nx_e, ck_t, ck_ok, bd1_s, bd1_n, bd2_s, oc_n, oc_s, l_0, l_1, l_2, l_3, l_4, l_5, l_6, l_7, l_8, l_11, l_12, l_31, l_39, l_40, l_59, l_60, l_100, l_500, l_1000, l_4095, l_9999, m1_e, ix_nI, ile_t, ile_f, ilt_t, ilt_f, ieq_t, ieq_f, nI_add, pk_mul, nI_sub, ile_m1, ilt_m1, ieq_m1, imle_m1, imlt_m1, imeq_m1, imeq_s, ieq_s, ile_s, ilt_s, gI_s, gI_ne1, gI_ne2, gJ_s, gJ_ne1, gJ_ne2, gI_sJ, gJ_sI, ibI0, ibI1, bI_t, bI_f, decide_true, decide_false, and_self, and_true, true_and, and_false, false_and, reduceIte, if_true, if_false, Nat.add_sub_cancel, e_within, e_in, e2, ex_inLine e2 hL hp e, ex_mirrorAt a1 c1 hm, ex_bad hm8 k4.1, hb, ex_costOf, e_spend, hf, hd, gI_spX, x9, el, x4, ei, k2.1, k3.1, k4.1, g, hg, ex_mark, (k1 m hm8).1, Bool.false_eq_true]
theorem ix_step_y {nm w nf ns tl gr k m i p L : Nat} {X Y : Mem} {lb : Bool} (hk : k < 6) (h : Aq nm w nf ns tl gr X Y) (hm : m < nm) (hi : i < ns) (e2 : gI Y 35 29 = nI L) (hL : L ≤ 8) (hp : p < L) (e : gI Y 58 p = nI m) (ei : gI Y 43 m = nI i) (el : gI Y 47 m = bI lb) (rc : Mem → Int32 → Option (Int32 × Mem)) :
    lq_X6_indexFor_2 (nI k) rc Y (nI p) = if dn tl Y (nI w) m = true then rc (spY (gI Y 54 (8 * k + m)) Y) (nI (p + 1)) else if lb = true then rc (sI (spY (gI Y 54 (8 * k + m)) Y) 57 k (gI Y 57 k ||| b5 m)) (nI (p + 1)) else if gud Y w ns gr k i (gI Y 56 k) = true then some (nI i, spY (gI Y 54 (8 * k + m)) Y) else rc (spY (gI Y 54 (8 * k + m)) Y) (nI (p + 1)) := by
  obtain ⟨⟨a1, a2, a3, a4, a5, a6⟩, ⟨b1, b2, b3, b4, b5', b6⟩, c1, c2, c3, c4, c5, c6, c7⟩ := cbb_facts h.1
  have g := ey_suits (sn := gI Y 56 k) (sp_aq (gI Y 54 (8 * k + m)) h).1 hk hi
  rw [gud_fr (fun i j q1 q2 => gI_spY (by omega))] at g
  have ht := ey_tells b2 b5' c2 c6 hk (show m < 8 by omega)
  cases hd : dn tl Y (nI w) m <;> cases lb <;> cases hg : gud Y w ns gr k i (gI Y 56 k) <;>
    simp (disch := omega) only [lq_X6_indexFor_2, bk_X6_indexFor_80, nx_e, ck_t, ck_ok, bd1_s, bd1_n, bd2_s, oc_n, oc_s, l_0, l_1, l_2, l_3, l_4, l_5, l_6, l_7, l_8, l_11, l_12, l_31, l_39, l_40, l_59, l_60, l_100, l_500, l_1000, l_4095, l_9999, m1_e, ix_nI, ile_t, ile_f, ilt_t, ilt_f, ieq_t, ieq_f, nI_add, pk_mul, nI_sub, ile_m1, ilt_m1, ieq_m1, imle_m1, imlt_m1, imeq_m1, imeq_s, ieq_s, ile_s, ilt_s, gI_s, gI_ne1, gI_ne2, gJ_s, gJ_ne1, gJ_ne2, gI_sJ, gJ_sI, ibI0, ibI1, bI_t, bI_f, decide_true, decide_false, and_self, and_true, true_and, and_false, false_and, reduceIte, if_true, if_false, Nat.add_sub_cancel, e_within, e_in, e2, e, ht, hd, gI_spY, el, ei, g, hg, e_shl2, Bool.false_eq_true, Bool.not_true, Bool.not_false]
theorem idx_rel {nm w nf ns tl gr k L : Nat} {r : Int32} (hk : k < 6) : ∀ (d : Nat) (X Y : Mem) (p n1 n2 : Nat), p + d = L → L ≤ 8 → Aq nm w nf ns tl gr X Y → Ln k nm L X Y → (∀ m, m < 32 → hbI r m = dn tl Y (nI w) m) → (∀ q q', q < L → q' < L → q ≠ q' → gI Y 58 q ≠ gI Y 58 q') → (∀ q m', p ≤ q → q < L → gI Y 58 q = nI m' → m' < 8 → hbI (gI Y 57 k) m' = false) → d < n1 → d < n2 →
    ∃ rv X' Y', it2 (lq_X5_findIndex_2 nm k r) n1 X (nI p) = some (rv, X') ∧ it2 (lq_X6_indexFor_2 (nI k)) n2 Y (nI p) = some (rv, Y') ∧ Aq nm w nf ns tl gr X' Y' ∧ FgX k X X' ∧ FgY k Y Y' ∧ (rv = m1 ∨ ∃ i m, i < ns ∧ rv = nI i ∧ m < nm ∧ wans Y w tl k m ∧ gI Y 43 m = nI i ∧ gud Y w ns gr k i (gI Y 56 k) = true) := by
  intro d
  induction d with
  | zero =>
    intro X Y p n1 n2 hd hL h hl hr hdi hnb hn1 hn2
    obtain ⟨p1, rfl⟩ : ∃ p, n1 = p + 1 := ⟨n1 - 1, by omega⟩
    obtain ⟨p2, rfl⟩ : ∃ p, n2 = p + 1 := ⟨n2 - 1, by omega⟩
    obtain rfl : p = L := by omega
    refine ⟨m1, X, Y, ?_, ?_, h, FgX.rf, FgY.rf, Or.inl rfl⟩
    · show lq_X5_findIndex_2 nm k r _ X (nI p) = _
      unfold lq_X5_findIndex_2
      rw [hl.1, if_pos Int32.le_rfl]
      rfl
    · show lq_X6_indexFor_2 (nI k) _ Y (nI p) = _
      unfold lq_X6_indexFor_2
      rw [hl.2.1, if_pos Int32.le_rfl]
      rfl
  | succ d ih =>
    intro X Y p n1 n2 hd hL h hl hr hdi hnb hn1 hn2
    obtain ⟨p1, rfl⟩ : ∃ p, n1 = p + 1 := ⟨n1 - 1, by omega⟩
    obtain ⟨p2, rfl⟩ : ∃ p, n2 = p + 1 := ⟨n2 - 1, by omega⟩
    have hp : p < L := by omega
    have c1 : nm ≤ 8 := h.1.1.2.2.1
    obtain ⟨z1, m, hm, z3, z4⟩ := hl.2.2 p hp
    obtain ⟨⟨-, i, hi, ei⟩, ⟨-, lb, el⟩, -⟩ := mirb h.1 hm
    have sx := ix_step_x hk h hr hm hi hl.1 hL hp (z1.trans z3) (hnb p m (Nat.le_refl p) hp z3 (by omega)) ei el (it2 (lq_X5_findIndex_2 nm k r) p1)
    have sy := ix_step_y hk h hm hi hl.2.1 hL hp z3 ei el (it2 (lq_X6_indexFor_2 (nI k)) p2)
    show ∃ rv X' Y', lq_X5_findIndex_2 nm k r (it2 (lq_X5_findIndex_2 nm k r) p1) X (nI p) = some (rv, X') ∧ lq_X6_indexFor_2 (nI k) (it2 (lq_X6_indexFor_2 (nI k)) p2) Y (nI p) = some (rv, Y') ∧ _
    rw [sx, sy]
    have hA := sp_aq (gI Y 54 (8 * k + m)) h
    have hfx := spX_f (k := k) (gI Y 54 (8 * k + m)) X
    have hfy := spY_f (k := k) (gI Y 54 (8 * k + m)) Y
    have next : ∀ X1 Y1, Aq nm w nf ns tl gr X1 Y1 → FgX k X X1 → FgY k Y Y1 → (∀ q m', p + 1 ≤ q → q < L → gI Y 58 q = nI m' → m' < 8 → hbI (gI Y1 57 k) m' = false) → ∃ rv X' Y', it2 (lq_X5_findIndex_2 nm k r) p1 X1 (nI (p + 1)) = some (rv, X') ∧ it2 (lq_X6_indexFor_2 (nI k)) p2 Y1 (nI (p + 1)) = some (rv, Y') ∧ Aq nm w nf ns tl gr X' Y' ∧ FgX k X X' ∧ FgY k Y Y' ∧ (rv = m1 ∨ ∃ i m, i < ns ∧ rv = nI i ∧ m < nm ∧ wans Y w tl k m ∧ gI Y 43 m = nI i ∧ gud Y w ns gr k i (gI Y 56 k) = true) := by
      intro X1 Y1 q1 q2 q3 q4
      have fr : ∀ i j, 36 ≤ i → i ≤ 55 → gI Y1 i j = gI Y i j := fun i j z1 z2 => q3.1 i j (by omega) (by omega)
      have e58 : ∀ q, gI Y1 58 q = gI Y 58 q := fun q => q3.1 58 q (by omega) (by omega)
      obtain ⟨rv, X', Y', i1, i2, i3, i4, i5, i6⟩ := ih X1 Y1 (p + 1) p1 p2 (by omega) hL q1 (Ln_fr hk q2 q3 hl) (fun m hm => by rw [dn_fr (fun i j z1 z2 => fr i j (by omega) (by omega))]; exact hr m hm) (fun q q' w1 w2 w3 => by rw [e58, e58]; exact hdi q q' w1 w2 w3) (fun q m' w1 w2 w3 w4 => q4 q m' w1 w2 (by rw [← e58]; exact w3) w4) (by omega) (by omega)
      refine ⟨rv, X', Y', i1, i2, i3, q2.tr i4, q3.tr i5, ?_⟩
      rcases i6 with i6 | ⟨i', m', j1, j2, j3, j4, j5, j6⟩
      · exact Or.inl i6
      · refine Or.inr ⟨i', m', j1, j2, j3, (wans_fr fr).mp j4, by rw [← fr 43 m' (by omega) (by omega)]; exact j5, ?_⟩
        rw [gud_fr fr, q3.1 56 k (by omega) (by omega)] at j6
        exact j6
    have nb0 : ∀ q m', p + 1 ≤ q → q < L → gI Y 58 q = nI m' → m' < 8 → hbI (gI (spY (gI Y 54 (8 * k + m)) Y) 57 k) m' = false := fun q m' w1 w2 w3 w4 => by rw [gI_spY (by omega)]; exact hnb q m' (by omega) w2 w3 w4
    cases hdn : dn tl Y (nI w) m with
    | true =>
      rw [if_pos rfl, if_pos rfl]
      exact next _ _ hA hfx hfy nb0
    | false =>
      rw [iff_f, iff_f]
      cases lb with
      | true =>
        rw [if_pos rfl, if_pos rfl]
        obtain ⟨g1, g2, g3⟩ := bad_aq (m := m) hk (by omega) hA
        rw [gI_spY (show 57 ≠ 35 by omega)] at g1 g2 g3
        refine next _ _ g1 (hfx.tr g2) (hfy.tr g3) (fun q m' w1 w2 w3 w4 => ?_)
        rw [gI_s, hbI_or, hbI_b5 (by omega), hnb q m' (by omega) w2 w3 w4, Bool.false_or]
        refine decide_eq_false (fun z => ?_)
        subst z
        exact hdi q p w2 hp (by omega) (w3.trans z3.symm)
      | false =>
        rw [iff_f, iff_f]
        cases hg : gud Y w ns gr k i (gI Y 56 k) with
        | true =>
          rw [if_pos rfl, if_pos rfl]
          exact ⟨_, _, _, rfl, rfl, hA, hfx, hfy, Or.inr ⟨i, m, hi, rfl, hm, ⟨z4, hdn, el⟩, ei, hg⟩⟩
        | false =>
          rw [iff_f, iff_f]
          exact next _ _ hA hfx hfy nb0
/-! who gives a file -/
theorem gv_step_x {nm w nf ns tl gr k m p L f : Nat} {X Y : Mem} {r : Int32} {lb hf : Bool} (hk : k < 6) (h : Aq nm w nf ns tl gr X Y) (hr : ∀ m, m < 32 → hbI r m = dn tl Y (nI w) m) (hm : m < nm) (hf60 : f < 60) (e2 : gI X (13 + 3 * k) 2 = nI L) (hL : L ≤ 8) (hp : p < L) (e : gI X (13 + 3 * k + 2) p = nI m) (ef : hb (gJ X (62 + 2 * m) 6) f = hf) (el : gI Y 47 m = bI lb) (rc : Mem → Int32 → Option (Int32 × Mem)) :
    lq_X5_findGiver_3 nm k (nI f) r rc X (nI p) = if hbI (gI Y 57 k) m = true then rc X (nI (p + 1)) else if dn tl Y (nI w) m = true then rc (spX (gI Y 54 (8 * k + m)) X) (nI (p + 1)) else if hf = false then rc (spX (gI Y 54 (8 * k + m)) X) (nI (p + 1)) else if lb = true then rc (sI (spX (gI Y 54 (8 * k + m)) X) (13 + 3 * k) 5 (gI Y 57 k ||| b5 m)) (nI (p + 1)) else some (nI m, spX (gI Y 54 (8 * k + m)) X) := by
  obtain ⟨⟨a1, a2, a3, a4, a5, a6⟩, ⟨b1, b2, b3, b4, b5, b6⟩, c1, c2, c3, c4, c5, c6, c7⟩ := cbb_facts h.1
  obtain ⟨k1, k2, k3, k4⟩ := askb h.1 hk
  obtain ⟨-, ⟨x9, -⟩, -⟩ := mirb h.1 hm
  have hfl : fn_X5_isIn r (nI m) = some (bI (dn tl Y (nI w) m)) := by rw [e_isIn (by omega), hr m (by omega)]
  have hho : fn_X3_holds (spX (gI Y 54 (8 * k + m)) X) m (nI f) = some (bI hf) := by rw [e_holds hf60, gJ_spX, ef]
  have hm8 : m < 8 := by omega
  cases hb : hbI (gI Y 57 k) m <;> cases hd : dn tl Y (nI w) m <;> cases lb <;> cases hf <;>
    simp (disch := omega) only [lq_X5_findGiver_3, bk_X5_findGiver_96, nx_e, ck_t, ck_ok, bd1_s, bd1_n, bd2_s, oc_n, oc_s, l_0, l_1, l_2, l_3, l_4, l_5, l_6, l_7, l_8, l_11, l_12, l_31, l_39, l_40, l_59, l_60, l_100, l_500, l_1000, l_4095, l_9999, m1_e, ix_nI, ile_t, ile_f, ilt_t, ilt_f, ieq_t, ieq_f, nI_add, pk_mul, nI_sub, ile_m1, ilt_m1, ieq_m1, imle_m1, imlt_m1, imeq_m1, imeq_s, ieq_s, ile_s, ilt_s, gI_s, gI_ne1, gI_ne2, gJ_s, gJ_ne1, gJ_ne2, gI_sJ, gJ_sI, ibI0, ibI1, bI_t, bI_f, decide_true, decide_false, and_self, and_true, true_and, and_false, false_and, reduceIte, if_true, if_false, Nat.add_sub_cancel, e_within, e_in, e2, ex_inLine e2 hL hp e, ex_mirrorAt a1 c1 hm, ex_bad hm8 k4.1, hb, ex_costOf, e_spend, hfl, hd, gI_spX, x9, el, k4.1, hho, ex_mark, (k1 m hm8).1, Bool.false_eq_true, Bool.true_eq_false]
theorem gv_step_y {nm w nf ns tl gr k m p L f : Nat} {X Y : Mem} {lb hf : Bool} (hk : k < 6) (h : Aq nm w nf ns tl gr X Y) (hm : m < nm) (hf60 : f < 60) (e2 : gI Y 35 29 = nI L) (hL : L ≤ 8) (hp : p < L) (e : gI Y 58 p = nI m) (ef : gI Y 48 (60 * m + f) = bI hf) (el : gI Y 47 m = bI lb) (rc : Mem → Int32 → Option (Int32 × Mem)) :
    lq_X6_giver_2 (nI k) (nI f) rc Y (nI p) = if hbI (gI Y 57 k) m = true then rc Y (nI (p + 1)) else if dn tl Y (nI w) m = true then rc (spY (gI Y 54 (8 * k + m)) Y) (nI (p + 1)) else if hf = false then rc (spY (gI Y 54 (8 * k + m)) Y) (nI (p + 1)) else if lb = true then rc (sI (spY (gI Y 54 (8 * k + m)) Y) 57 k (gI Y 57 k ||| b5 m)) (nI (p + 1)) else some (nI m, spY (gI Y 54 (8 * k + m)) Y) := by
  obtain ⟨⟨a1, a2, a3, a4, a5, a6⟩, ⟨b1, b2, b3, b4, b5', b6⟩, c1, c2, c3, c4, c5, c6, c7⟩ := cbb_facts h.1
  have ht := ey_tells b2 b5' c2 c6 hk (show m < 8 by omega)
  cases hb : hbI (gI Y 57 k) m <;> cases hd : dn tl Y (nI w) m <;> cases lb <;> cases hf <;>
    simp (disch := omega) only [lq_X6_giver_2, bk_X6_giver_87, nx_e, ck_t, ck_ok, bd1_s, bd1_n, bd2_s, oc_n, oc_s, l_0, l_1, l_2, l_3, l_4, l_5, l_6, l_7, l_8, l_11, l_12, l_31, l_39, l_40, l_59, l_60, l_100, l_500, l_1000, l_4095, l_9999, m1_e, ix_nI, ile_t, ile_f, ilt_t, ilt_f, ieq_t, ieq_f, nI_add, pk_mul, nI_sub, ile_m1, ilt_m1, ieq_m1, imle_m1, imlt_m1, imeq_m1, imeq_s, ieq_s, ile_s, ilt_s, gI_s, gI_ne1, gI_ne2, gJ_s, gJ_ne1, gJ_ne2, gI_sJ, gJ_sI, ibI0, ibI1, bI_t, bI_f, decide_true, decide_false, and_self, and_true, true_and, and_false, false_and, reduceIte, if_true, if_false, Nat.add_sub_cancel, e_within, e_in, e2, e, e_shr2, hb, ht, hd, gI_spY, el, ef, e_shl2, Bool.false_eq_true, Bool.true_eq_false, Bool.not_true, Bool.not_false]
theorem gv_rel {nm w nf ns tl gr k L f : Nat} {r : Int32} (hk : k < 6) (hf60 : f < 60) : ∀ (d : Nat) (X Y : Mem) (p n1 n2 : Nat), p + d = L → L ≤ 8 → Aq nm w nf ns tl gr X Y → Ln k nm L X Y → (∀ m, m < 32 → hbI r m = dn tl Y (nI w) m) → d < n1 → d < n2 →
    ∃ rv X' Y', it2 (lq_X5_findGiver_3 nm k (nI f) r) n1 X (nI p) = some (rv, X') ∧ it2 (lq_X6_giver_2 (nI k) (nI f)) n2 Y (nI p) = some (rv, Y') ∧ Aq nm w nf ns tl gr X' Y' ∧ FgX k X X' ∧ FgY k Y Y' ∧ (rv = m1 ∨ ∃ m, rv = nI m ∧ m < nm ∧ wans Y w tl k m ∧ gI Y 48 (60 * m + f) = nI 1) := by
  intro d
  induction d with
  | zero =>
    intro X Y p n1 n2 hd hL h hl hr hn1 hn2
    obtain ⟨p1, rfl⟩ : ∃ p, n1 = p + 1 := ⟨n1 - 1, by omega⟩
    obtain ⟨p2, rfl⟩ : ∃ p, n2 = p + 1 := ⟨n2 - 1, by omega⟩
    obtain rfl : p = L := by omega
    refine ⟨m1, X, Y, ?_, ?_, h, FgX.rf, FgY.rf, Or.inl rfl⟩
    · show lq_X5_findGiver_3 nm k (nI f) r _ X (nI p) = _
      unfold lq_X5_findGiver_3
      rw [hl.1, if_pos Int32.le_rfl]
      rfl
    · show lq_X6_giver_2 (nI k) (nI f) _ Y (nI p) = _
      unfold lq_X6_giver_2
      rw [hl.2.1, if_pos Int32.le_rfl]
      rfl
  | succ d ih =>
    intro X Y p n1 n2 hd hL h hl hr hn1 hn2
    obtain ⟨p1, rfl⟩ : ∃ p, n1 = p + 1 := ⟨n1 - 1, by omega⟩
    obtain ⟨p2, rfl⟩ : ∃ p, n2 = p + 1 := ⟨n2 - 1, by omega⟩
    have hp : p < L := by omega
    have c1 : nm ≤ 8 := h.1.1.2.2.1
    obtain ⟨z1, m, hm, z3, z4⟩ := hl.2.2 p hp
    obtain ⟨-, ⟨-, lb, el⟩, e48⟩ := mirb h.1 hm
    have sx := gv_step_x hk h hr hm hf60 hl.1 hL hp (z1.trans z3) rfl el (it2 (lq_X5_findGiver_3 nm k (nI f) r) p1)
    have sy := gv_step_y hk h hm hf60 hl.2.1 hL hp z3 (e48 f hf60) el (it2 (lq_X6_giver_2 (nI k) (nI f)) p2)
    show ∃ rv X' Y', lq_X5_findGiver_3 nm k (nI f) r (it2 (lq_X5_findGiver_3 nm k (nI f) r) p1) X (nI p) = some (rv, X') ∧ lq_X6_giver_2 (nI k) (nI f) (it2 (lq_X6_giver_2 (nI k) (nI f)) p2) Y (nI p) = some (rv, Y') ∧ _
    rw [sx, sy]
    have hA := sp_aq (gI Y 54 (8 * k + m)) h
    have hfx := spX_f (k := k) (gI Y 54 (8 * k + m)) X
    have hfy := spY_f (k := k) (gI Y 54 (8 * k + m)) Y
    have next : ∀ X1 Y1, Aq nm w nf ns tl gr X1 Y1 → FgX k X X1 → FgY k Y Y1 → ∃ rv X' Y', it2 (lq_X5_findGiver_3 nm k (nI f) r) p1 X1 (nI (p + 1)) = some (rv, X') ∧ it2 (lq_X6_giver_2 (nI k) (nI f)) p2 Y1 (nI (p + 1)) = some (rv, Y') ∧ Aq nm w nf ns tl gr X' Y' ∧ FgX k X X' ∧ FgY k Y Y' ∧ (rv = m1 ∨ ∃ m, rv = nI m ∧ m < nm ∧ wans Y w tl k m ∧ gI Y 48 (60 * m + f) = nI 1) := by
      intro X1 Y1 q1 q2 q3
      have fr : ∀ i j, 36 ≤ i → i ≤ 55 → gI Y1 i j = gI Y i j := fun i j z1 z2 => q3.1 i j (by omega) (by omega)
      obtain ⟨rv, X', Y', i1, i2, i3, i4, i5, i6⟩ := ih X1 Y1 (p + 1) p1 p2 (by omega) hL q1 (Ln_fr hk q2 q3 hl) (fun m hm => by rw [dn_fr (fun i j z1 z2 => fr i j (by omega) (by omega))]; exact hr m hm) (by omega) (by omega)
      refine ⟨rv, X', Y', i1, i2, i3, q2.tr i4, q3.tr i5, ?_⟩
      rcases i6 with i6 | ⟨m', j2, j3, j4, j5⟩
      · exact Or.inl i6
      · exact Or.inr ⟨m', j2, j3, (wans_fr fr).mp j4, by rw [← fr 48 _ (by omega) (by omega)]; exact j5⟩
    cases hbd : hbI (gI Y 57 k) m with
    | true =>
      rw [if_pos rfl, if_pos rfl]
      exact next _ _ h FgX.rf FgY.rf
    | false =>
      rw [iff_f, iff_f]
      cases hdn : dn tl Y (nI w) m with
      | true =>
        rw [if_pos rfl, if_pos rfl]
        exact next _ _ hA hfx hfy
      | false =>
        rw [iff_f, iff_f]
        cases hhf : hb (gJ X (62 + 2 * m) 6) f with
        | false =>
          rw [if_pos rfl, if_pos rfl]
          exact next _ _ hA hfx hfy
        | true =>
          rw [iff_tf, iff_tf]
          cases lb with
          | true =>
            rw [if_pos rfl, if_pos rfl]
            obtain ⟨g1, g2, g3⟩ := bad_aq (m := m) hk (by omega) hA
            rw [gI_spY (show 57 ≠ 35 by omega)] at g1 g2 g3
            exact next _ _ g1 (hfx.tr g2) (hfy.tr g3)
          | false =>
            rw [iff_f, iff_f]
            exact ⟨_, _, _, rfl, rfl, hA, hfx, hfy, Or.inr ⟨m, rfl, hm, ⟨z4, hdn, el⟩, by rw [e48 f hf60, hhf]; rfl⟩⟩
