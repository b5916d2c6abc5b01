/-! two memories: the class's cells of the one, the reference's of the other -/
def cb (X Y : Mem) : Mem := (fun i j => if 35 ≤ i ∧ i ≤ 61 then Y.1 i j else X.1 i j, X.2)
theorem cb_x {X Y : Mem} {i j : Nat} (h : i < 35 ∨ 61 < i) : gI (cb X Y) i j = gI X i j := by
  show (if 35 ≤ i ∧ i ≤ 61 then _ else _) = _
  rw [if_neg (by omega)]
  rfl
theorem cb_y {X Y : Mem} {i j : Nat} (h1 : 35 ≤ i) (h2 : i ≤ 61) : gI (cb X Y) i j = gI Y i j := by
  show (if 35 ≤ i ∧ i ≤ 61 then _ else _) = _
  rw [if_pos (by omega)]
  rfl
theorem cb_J {X Y : Mem} {i j : Nat} : gJ (cb X Y) i j = gJ X i j := rfl
/-- two memories that agree -/
def Ag (M M' : Mem) : Prop := (∀ i j, gI M' i j = gI M i j) ∧ ∀ i j, gJ M' i j = gJ M i j
theorem Inw_ag {nm w nf ns tl gr : Nat} {M M' : Mem} (h : Ag M M') (hI : Inw nm w nf ns tl gr M) : Inw nm w nf ns tl gr M' := by
  obtain ⟨hA, hS, hF, hM, hK, hL⟩ := hI
  refine ⟨?_, iS_fr (fun i j _ => h.1 i j) (fun i j _ => h.2 i j) hS, iF_fr (fun i j _ => h.1 i j) hF, iM_fr hA.2.2.2.2.1 hS (fun i j _ => h.1 i j) (fun i j _ => h.2 i j) hM, iK_fr (fun i j _ => h.1 i j) hK, iL_fr (fun i j _ => h.1 i j) (fun j _ _ => h.1 35 j) hL⟩
  unfold iA
  simp only [h.1]
  exact hA
/-- what the class's own steps leave alone; what the reference's do -/
def FX (X X' : Mem) : Prop := ∀ i j, 1 ≤ i → i ≤ 61 → gI X' i j = gI X i j
def FY (Y Y' : Mem) : Prop := (∀ i j, (i < 35 ∨ 61 < i) → gI Y' i j = gI Y i j) ∧ ∀ i j, gJ Y' i j = gJ Y i j
theorem FX.rf {X : Mem} : FX X X := fun _ _ _ _ => rfl
theorem FY.rf {X : Mem} : FY X X := ⟨fun _ _ _ => rfl, fun _ _ => rfl⟩
theorem FX.tr {X X' X'' : Mem} (h : FX X X') (h2 : FX X' X'') : FX X X'' := fun i j a b => (h2 i j a b).trans (h i j a b)
theorem FY.tr {X X' X'' : Mem} (h : FY X X') (h2 : FY X' X'') : FY X X'' := ⟨fun i j a => (h2.1 i j a).trans (h.1 i j a), fun i j => (h2.2 i j).trans (h.2 i j)⟩
theorem scanI_y {B : Type} {f : (Int32 → Option B) → Int32 → Option B} {n : Nat} {p : Nat → Bool} {yes : Nat → Option B} {k : Nat} (hn : n < 999) (hk : k < n) (hp : p k = true) (hl : ∀ j, j < k → p j = false) (hs : ∀ i rc, i < n → f rc (nI i) = if p i = true then yes i else rc (nI (i + 1))) : it1 f FU (nI 0) = yes k := by
  have L := it1_v (f := f) (fun a => ∃ i, i ≤ k ∧ a = nI i) (fun a => k - ix a) (fun _ => yes k) (by
    rintro a ⟨i, hi, rfl⟩ rc hrc
    rw [hs i rc (by omega)]
    by_cases e : i = k
    · subst e
      rw [if_pos hp]
    · rw [if_neg (by rw [hl i (by omega)]; decide)]
      exact hrc _ ⟨i + 1, by omega, rfl⟩ (by rw [ix_nI (by omega), ix_nI (by omega)]; omega))
  exact L FU (nI 0) ⟨0, by omega, rfl⟩ (by rw [ix_nI (by omega)]; show k - 0 < 1000; omega)
theorem scanI_n {B : Type} {f : (Int32 → Option B) → Int32 → Option B} {n : Nat} {p : Nat → Bool} {yes : Nat → Option B} {no : Option B} (hn : n < 999) (hl : ∀ j, j < n → p j = false) (hs : ∀ i rc, i < n → f rc (nI i) = if p i = true then yes i else rc (nI (i + 1))) (he : ∀ rc, f rc (nI n) = no) : it1 f FU (nI 0) = no := by
  have L := it1_v (f := f) (fun a => ∃ i, i ≤ n ∧ a = nI i) (fun a => n - ix a) (fun _ => no) (by
    rintro a ⟨i, hi, rfl⟩ rc hrc
    by_cases e : i = n
    · subst e
      rw [he]
    · rw [hs i rc (by omega), if_neg (by rw [hl i (by omega)]; decide)]
      exact hrc _ ⟨i + 1, by omega, rfl⟩ (by rw [ix_nI (by omega), ix_nI (by omega)]; omega))
  exact L FU (nI 0) ⟨0, by omega, rfl⟩ (by rw [ix_nI (by omega)]; show n - 0 < 1000; omega)
/-! the class's side, out of its own cells -/
theorem ex_hasState {X : Mem} {ns s : Nat} (a4 : gI X 1 6 = nI ns) (hn : ns ≤ 60) (hs : s < ns) : fn_X4_hasState X (nI s) = some (nI 1) := by
  simp (disch := omega) only [fn_X4_hasState, nx_e, ck_t, ck_ok, bd1_s, bd1_n, bd2_s, oc_n, oc_s, l_0, l_1, l_2, l_3, l_4, l_5, l_6, l_7, l_8, l_11, l_12, l_31, l_39, l_40, l_59, l_60, l_100, l_500, l_1000, l_4095, l_9999, m1_e, ix_nI, ile_t, ile_f, ilt_t, ilt_f, ieq_t, ieq_f, nI_add, pk_mul, nI_sub, ile_m1, ilt_m1, ieq_m1, imle_m1, imlt_m1, imeq_m1, imeq_s, ieq_s, ile_s, ilt_s, gI_s, gI_ne1, gI_ne2, gJ_s, gJ_ne1, gJ_ne2, gI_sJ, gJ_sI, ibI0, ibI1, bI_t, bI_f, decide_true, decide_false, and_self, and_true, true_and, and_false, false_and, reduceIte, if_true, if_false, Nat.add_sub_cancel, e_within, e_in, a4]
theorem ex_filesOf {X : Mem} {ns s : Nat} (a4 : gI X 1 6 = nI ns) (hn : ns ≤ 60) (hs : s < ns) : fn_X4_filesOf X (nI s) = some (gJ X 5 s) := by
  simp (disch := omega) only [fn_X4_filesOf, ex_hasState a4 hn hs, nx_e, ck_t, ck_ok, bd1_s, bd1_n, bd2_s, oc_n, oc_s, l_0, l_1, l_2, l_3, l_4, l_5, l_6, l_7, l_8, l_11, l_12, l_31, l_39, l_40, l_59, l_60, l_100, l_500, l_1000, l_4095, l_9999, m1_e, ix_nI, ile_t, ile_f, ilt_t, ilt_f, ieq_t, ieq_f, nI_add, pk_mul, nI_sub, ile_m1, ilt_m1, ieq_m1, imle_m1, imlt_m1, imeq_m1, imeq_s, ieq_s, ile_s, ilt_s, gI_s, gI_ne1, gI_ne2, gJ_s, gJ_ne1, gJ_ne2, gI_sJ, gJ_sI, ibI0, ibI1, bI_t, bI_f, decide_true, decide_false, and_self, and_true, true_and, and_false, false_and, reduceIte, if_true, if_false, Nat.add_sub_cancel, e_within, e_in]
theorem ex_filesOfm {X : Mem} : fn_X4_filesOf X m1 = some 0 := by
  unfold fn_X4_filesOf fn_X4_hasState
  rw [if_pos (show m1 < (0 : Int32) by decide)]
  rfl
theorem ex_sizeOf {X : Mem} {nf f : Nat} (a3 : gI X 1 5 = nI nf) (hn : nf ≤ 60) (hf : f < nf) : fn_X4_sizeOf X (nI f) = some (gI X 2 f) := by
  simp (disch := omega) only [fn_X4_sizeOf, fn_X4_hasFile, nx_e, ck_t, ck_ok, bd1_s, bd1_n, bd2_s, oc_n, oc_s, l_0, l_1, l_2, l_3, l_4, l_5, l_6, l_7, l_8, l_11, l_12, l_31, l_39, l_40, l_59, l_60, l_100, l_500, l_1000, l_4095, l_9999, m1_e, ix_nI, ile_t, ile_f, ilt_t, ilt_f, ieq_t, ieq_f, nI_add, pk_mul, nI_sub, ile_m1, ilt_m1, ieq_m1, imle_m1, imlt_m1, imeq_m1, imeq_s, ieq_s, ile_s, ilt_s, gI_s, gI_ne1, gI_ne2, gJ_s, gJ_ne1, gJ_ne2, gI_sJ, gJ_sI, ibI0, ibI1, bI_t, bI_f, decide_true, decide_false, and_self, and_true, true_and, and_false, false_and, reduceIte, if_true, if_false, Nat.add_sub_cancel, e_within, e_in, a3]
theorem ex_mirrorAt {X : Mem} {nm m : Nat} (a1 : gI X 0 5 = nI nm) (hn : nm ≤ 8) (hm : m < nm) : fn_X5_mirrorAt nm X (nI m) = some (some m) := by
  have h1 : nI 0 ≤ nI m ∧ nI m ≤ nI (nm - 1) := rng' (by omega) (by omega) (by omega)
  simp (disch := omega) only [fn_X5_mirrorAt, nx_e, ck_t, ck_ok, bd1_s, bd1_n, bd2_s, oc_n, oc_s, l_0, l_1, l_2, l_3, l_4, l_5, l_6, l_7, l_8, l_11, l_12, l_31, l_39, l_40, l_59, l_60, l_100, l_500, l_1000, l_4095, l_9999, m1_e, ix_nI, ile_t, ile_f, ilt_t, ilt_f, ieq_t, ieq_f, nI_add, pk_mul, nI_sub, ile_m1, ilt_m1, ieq_m1, imle_m1, imlt_m1, imeq_m1, imeq_s, ieq_s, ile_s, ilt_s, gI_s, gI_ne1, gI_ne2, gJ_s, gJ_ne1, gJ_ne2, gI_sJ, gJ_sI, ibI0, ibI1, bI_t, bI_f, decide_true, decide_false, and_self, and_true, true_and, and_false, false_and, reduceIte, if_true, if_false, Nat.add_sub_cancel, e_within, e_in, a1, h1, mr, hm]
theorem ex_mirrorAtm {X : Mem} {nm : Nat} : fn_X5_mirrorAt nm X m1 = some none := by
  unfold fn_X5_mirrorAt
  rw [e_within, bd1_s, decide_eq_false (fun q => absurd q.1 (by decide))]
  rfl
theorem ex_missing {X : Mem} {ns m t : Nat} (a4 : gI X 1 6 = nI ns) (hn : ns ≤ 60) (ht : t < ns) (e : gI X (62 + 2 * m) 5 = nI t) : fn_X3_missing X m = some (gJ X 5 t &&& ((gJ X (62 + 2 * m) 6) ^^^ (-1))) := by
  unfold fn_X3_missing
  rw [e, ex_filesOf a4 hn ht, bd1_s]
def dnx (tl : Nat) (X : Mem) (w : Int32) (m : Nat) : Bool := anyB (fun k => decide (gI X 8 k = nI m) && (decide (gI X 9 k ≤ w) && decide (w ≤ gI X 10 k))) tl
theorem ex_downAt {X : Mem} {w tl : Nat} (a5 : gI X 7 3 = nI tl) (ht : tl ≤ 40) (hF : ∀ k, k < tl → ∃ m, m < 32 ∧ gI X 8 k = nI m) : ∃ d, fn_X2_downAt X (nI w) = some d ∧ ∀ m, m < 32 → hbI d m = dnx tl X (nI w) m := by
  have L := it2_h (f := lq_X2_downAt_4 X (nI w)) (fun b c => ∃ i, i ≤ tl ∧ c = nI i ∧ ∀ m, m < 32 → hbI b m = dnx i X (nI w) m) (fun _ c => tl - ix c) (fun _ _ d => ∀ m, m < 32 → hbI d m = dnx tl X (nI w) m) (by
    rintro b c ⟨i, hi, rfl, hb⟩ rc hrc
    by_cases e : i = tl
    · subst e
      refine ⟨b, ?_, hb⟩
      simp (disch := omega) only [lq_X2_downAt_4, nx_e, ck_t, ck_ok, bd1_s, bd1_n, bd2_s, oc_n, oc_s, l_0, l_1, l_2, l_3, l_4, l_5, l_6, l_7, l_8, l_11, l_12, l_31, l_39, l_40, l_59, l_60, l_100, l_500, l_1000, l_4095, l_9999, m1_e, ix_nI, ile_t, ile_f, ilt_t, ilt_f, ieq_t, ieq_f, nI_add, pk_mul, nI_sub, ile_m1, ilt_m1, ieq_m1, imle_m1, imlt_m1, imeq_m1, imeq_s, ieq_s, ile_s, ilt_s, gI_s, gI_ne1, gI_ne2, gJ_s, gJ_ne1, gJ_ne2, gI_sJ, gJ_sI, ibI0, ibI1, bI_t, bI_f, decide_true, decide_false, and_self, and_true, true_and, and_false, false_and, reduceIte, if_true, if_false, Nat.add_sub_cancel, e_within, e_in, a5]
    · obtain ⟨m', hm', f4⟩ := hF i (by omega)
      simp (disch := omega) only [lq_X2_downAt_4, bk_X2_downAt_42, nx_e, ck_t, ck_ok, bd1_s, bd1_n, bd2_s, oc_n, oc_s, l_0, l_1, l_2, l_3, l_4, l_5, l_6, l_7, l_8, l_11, l_12, l_31, l_39, l_40, l_59, l_60, l_100, l_500, l_1000, l_4095, l_9999, m1_e, ix_nI, ile_t, ile_f, ilt_t, ilt_f, ieq_t, ieq_f, nI_add, pk_mul, nI_sub, ile_m1, ilt_m1, ieq_m1, imle_m1, imlt_m1, imeq_m1, imeq_s, ieq_s, ile_s, ilt_s, gI_s, gI_ne1, gI_ne2, gJ_s, gJ_ne1, gJ_ne2, gI_sJ, gJ_sI, ibI0, ibI1, bI_t, bI_f, decide_true, decide_false, and_self, and_true, true_and, and_false, false_and, reduceIte, if_true, if_false, Nat.add_sub_cancel, e_within, e_in, a5, f4, e_shl2]
      by_cases q : gI X 9 i ≤ nI w ∧ nI w ≤ gI X 10 i
      · rw [decide_eq_true q, if_pos rfl]
        refine hrc _ _ ⟨i + 1, by omega, rfl, fun m hm => ?_⟩ (by rw [ix_nI (by omega), ix_nI (by omega)]; omega)
        rw [hbI_or, hb m hm, hbI_b5 (by omega)]
        unfold dnx
        rw [anyB]
        congr 1
        rw [f4, decide_eq_true q.1, decide_eq_true q.2]
        by_cases e2 : m = m'
        · subst e2; simp
        · rw [decide_eq_false e2, decide_eq_false (fun z => e2 ((nI_eq (by omega) (by omega)).mp z).symm)]
          rfl
      · rw [decide_eq_false q, if_neg (by decide)]
        refine hrc _ _ ⟨i + 1, by omega, rfl, fun m hm => ?_⟩ (by rw [ix_nI (by omega), ix_nI (by omega)]; omega)
        rw [hb m hm]
        unfold dnx
        rw [anyB]
        have : (decide (gI X 8 i = nI m) && (decide (gI X 9 i ≤ nI w) && decide (nI w ≤ gI X 10 i))) = false := by
          rw [← Bool.decide_and, decide_eq_false q, Bool.and_false]
        rw [this, Bool.or_false])
  obtain ⟨d, h1, h2⟩ := L FU (nI 0) (nI 0) ⟨0, by omega, rfl, fun m _ => hbI_0 m⟩ (by rw [ix_nI (by omega)]; show tl - 0 < 1000; omega)
  exact ⟨d, h1, h2⟩
/-! the reference's side, out of its own cells -/
theorem ey_isFallen {Y : Mem} {w tl : Nat} (b2 : gI Y 35 0 = nI w) (b5 : gI Y 35 19 = nI tl) (hw : w ≤ 9999) (ht : tl ≤ 40) (m : Nat) : fn_X6_isFallen Y (nI m) = some (bI (dn tl Y (nI w) m)) := by
  have L := scan1 (f := lq_X6_isFallen_2 Y (nI m)) tl (dnp Y (nI w) m) (some (nI 1)) (some (nI 0)) (by omega) (fun i rc hi => by
    simp (disch := omega) only [lq_X6_isFallen_2, bk_X6_isFallen_48, nx_e, ck_t, ck_ok, bd1_s, bd1_n, bd2_s, oc_n, oc_s, l_0, l_1, l_2, l_3, l_4, l_5, l_6, l_7, l_8, l_11, l_12, l_31, l_39, l_40, l_59, l_60, l_100, l_500, l_1000, l_4095, l_9999, m1_e, ix_nI, ile_t, ile_f, ilt_t, ilt_f, ieq_t, ieq_f, nI_add, pk_mul, nI_sub, ile_m1, ilt_m1, ieq_m1, imle_m1, imlt_m1, imeq_m1, imeq_s, ieq_s, ile_s, ilt_s, gI_s, gI_ne1, gI_ne2, gJ_s, gJ_ne1, gJ_ne2, gI_sJ, gJ_sI, ibI0, ibI1, bI_t, bI_f, decide_true, decide_false, and_self, and_true, true_and, and_false, false_and, reduceIte, if_true, if_false, Nat.add_sub_cancel, e_within, e_in, b5, b2]
    unfold dnp
    by_cases q1 : gI Y 51 i = nI m
    · rw [if_pos q1, decide_eq_true q1, Bool.true_and]
      by_cases q2 : nI w < gI Y 52 i
      · rw [if_pos q2, decide_eq_false (Int32.not_le.mpr q2)]
        rfl
      · rw [if_neg q2, decide_eq_true (Int32.not_lt.mp q2), Bool.true_and]
        by_cases q3 : gI Y 53 i < nI w
        · rw [if_pos q3, decide_eq_false (Int32.not_le.mpr q3)]
          rfl
        · rw [if_neg q3, decide_eq_true (Int32.not_lt.mp q3)]
          rfl
    · rw [if_neg q1, decide_eq_false q1]
      rfl) (fun rc => by
    simp (disch := omega) only [lq_X6_isFallen_2, nx_e, ck_t, ck_ok, bd1_s, bd1_n, bd2_s, oc_n, oc_s, l_0, l_1, l_2, l_3, l_4, l_5, l_6, l_7, l_8, l_11, l_12, l_31, l_39, l_40, l_59, l_60, l_100, l_500, l_1000, l_4095, l_9999, m1_e, ix_nI, ile_t, ile_f, ilt_t, ilt_f, ieq_t, ieq_f, nI_add, pk_mul, nI_sub, ile_m1, ilt_m1, ieq_m1, imle_m1, imlt_m1, imeq_m1, imeq_s, ieq_s, ile_s, ilt_s, gI_s, gI_ne1, gI_ne2, gJ_s, gJ_ne1, gJ_ne2, gI_sJ, gJ_sI, ibI0, ibI1, bI_t, bI_f, decide_true, decide_false, and_self, and_true, true_and, and_false, false_and, reduceIte, if_true, if_false, Nat.add_sub_cancel, e_within, e_in, b5])
  unfold fn_X6_isFallen
  show it1 _ FU (nI 0) = _
  rw [L]
  unfold dn
  cases anyB (dnp Y (nI w) m) tl <;> rfl
theorem dnx_dn {nm tl : Nat} {X Y : Mem} (hF : iF nm tl (cb X Y)) (w : Int32) (m : Nat) : dnx tl X w m = dn tl Y w m := by
  refine anyB_cong (fun k hk => ?_)
  obtain ⟨f1, f2, f3, -⟩ := hF k hk
  rw [cb_x (by omega), cb_y (by omega) (by omega)] at f1 f2 f3
  unfold dnp
  rw [f1, f2, f3]
/-- does mirror m of Y lack file f for state t -/
def lck (Y : Mem) (m t f : Nat) : Bool := decide (gI Y 48 (60 * m + f) = nI 0) && nmd Y t f
theorem ey_lack_y {Y : Mem} {nf m t f : Nat} (b3 : gI Y 35 1 = nI nf) (hn : nf ≤ 60) (hm : m < 8) (ht : t < 60) (e : gI Y 44 m = nI t) (hf : f < nf) (h1 : lck Y m t f = true) (h2 : ∀ g, g < f → lck Y m t g = false) : fn_X6_lacking Y (nI m) = some (nI f) := by
  unfold fn_X6_lacking
  refine scanI_y (f := lq_X6_lacking_2 Y (nI m)) (yes := fun i => some (nI i)) (by omega) hf h1 h2 (fun i rc hi => ?_)
  simp (disch := omega) only [lq_X6_lacking_2, bk_X6_lacking_40, nx_e, ck_t, ck_ok, bd1_s, bd1_n, bd2_s, oc_n, oc_s, l_0, l_1, l_2, l_3, l_4, l_5, l_6, l_7, l_8, l_11, l_12, l_31, l_39, l_40, l_59, l_60, l_100, l_500, l_1000, l_4095, l_9999, m1_e, ix_nI, ile_t, ile_f, ilt_t, ilt_f, ieq_t, ieq_f, nI_add, pk_mul, nI_sub, ile_m1, ilt_m1, ieq_m1, imle_m1, imlt_m1, imeq_m1, imeq_s, ieq_s, ile_s, ilt_s, gI_s, gI_ne1, gI_ne2, gJ_s, gJ_ne1, gJ_ne2, gI_sJ, gJ_sI, ibI0, ibI1, bI_t, bI_f, decide_true, decide_false, and_self, and_true, true_and, and_false, false_and, reduceIte, if_true, if_false, Nat.add_sub_cancel, e_within, e_in, b3, e, e_isNamed]
  unfold lck
  by_cases q : gI Y 48 (60 * m + i) = nI 0
  · rw [if_pos q, decide_eq_true q, Bool.true_and]
  · rw [if_neg q, decide_eq_false q]
    rfl
theorem ey_lack_n {Y : Mem} {nf m t : Nat} (b3 : gI Y 35 1 = nI nf) (hn : nf ≤ 60) (hm : m < 8) (ht : t < 60) (e : gI Y 44 m = nI t) (h2 : ∀ g, g < nf → lck Y m t g = false) : fn_X6_lacking Y (nI m) = some m1 := by
  unfold fn_X6_lacking
  refine scanI_n (f := lq_X6_lacking_2 Y (nI m)) (yes := fun i => some (nI i)) (by omega) h2 (fun i rc hi => ?_) (fun rc => ?_)
  · simp (disch := omega) only [lq_X6_lacking_2, bk_X6_lacking_40, nx_e, ck_t, ck_ok, bd1_s, bd1_n, bd2_s, oc_n, oc_s, l_0, l_1, l_2, l_3, l_4, l_5, l_6, l_7, l_8, l_11, l_12, l_31, l_39, l_40, l_59, l_60, l_100, l_500, l_1000, l_4095, l_9999, m1_e, ix_nI, ile_t, ile_f, ilt_t, ilt_f, ieq_t, ieq_f, nI_add, pk_mul, nI_sub, ile_m1, ilt_m1, ieq_m1, imle_m1, imlt_m1, imeq_m1, imeq_s, ieq_s, ile_s, ilt_s, gI_s, gI_ne1, gI_ne2, gJ_s, gJ_ne1, gJ_ne2, gI_sJ, gJ_sI, ibI0, ibI1, bI_t, bI_f, decide_true, decide_false, and_self, and_true, true_and, and_false, false_and, reduceIte, if_true, if_false, Nat.add_sub_cancel, e_within, e_in, b3, e, e_isNamed]
    unfold lck
    by_cases q : gI Y 48 (60 * m + i) = nI 0
    · rw [if_pos q, decide_eq_true q, Bool.true_and]
    · rw [if_neg q, decide_eq_false q]
      rfl
  · simp (disch := omega) only [lq_X6_lacking_2, nx_e, ck_t, ck_ok, bd1_s, bd1_n, bd2_s, oc_n, oc_s, l_0, l_1, l_2, l_3, l_4, l_5, l_6, l_7, l_8, l_11, l_12, l_31, l_39, l_40, l_59, l_60, l_100, l_500, l_1000, l_4095, l_9999, m1_e, ix_nI, ile_t, ile_f, ilt_t, ilt_f, ieq_t, ieq_f, nI_add, pk_mul, nI_sub, ile_m1, ilt_m1, ieq_m1, imle_m1, imlt_m1, imeq_m1, imeq_s, ieq_s, ile_s, ilt_s, gI_s, gI_ne1, gI_ne2, gJ_s, gJ_ne1, gJ_ne2, gI_sJ, gJ_sI, ibI0, ibI1, bI_t, bI_f, decide_true, decide_false, and_self, and_true, true_and, and_false, false_and, reduceIte, if_true, if_false, Nat.add_sub_cancel, e_within, e_in, b3]
