/-! what one who knew would have spent -/
def wb (Y : Mem) (w tl k m : Nat) : Bool := !decide (gI Y 54 (8 * k + m) = m1) && (!dn tl Y (nI w) m && decide (gI Y 47 m = nI 0))
theorem wb_t {Y : Mem} {w tl k m : Nat} (h : wans Y w tl k m) : wb Y w tl k m = true := by
  unfold wb
  rw [decide_eq_false h.1, h.2.1, decide_eq_true h.2.2]
  rfl
theorem bI_eq0 (b : Bool) : decide (bI b = nI 0) = !b := by cases b <;> decide
theorem ex_would {nm w nf ns tl gr k m : Nat} {X Y : Mem} {r : Int32} (hk : k < 6) (h : Inb nm w nf ns tl gr (cb X Y)) (hr : ∀ m, m < 32 → hbI r m = dn tl Y (nI w) m) (hm : m < nm) : fn_X5_wouldAnswer X k m (nI m) r = some (bI (wb Y w tl k m)) := by
  have c1 : nm ≤ 8 := h.1.2.2.1
  obtain ⟨k1, -⟩ := askb h hk
  obtain ⟨-, ⟨x9, lb, el⟩, -⟩ := mirb h hm
  have hf : fn_X5_isIn r (nI m) = some (bI (dn tl Y (nI w) m)) := by rw [e_isIn (by omega), hr m (by omega)]
  unfold wb
  rw [el, bI_eq0]
  by_cases q : gI Y 54 (8 * k + m) = m1
  · rw [decide_eq_true q]
    simp (disch := omega) only [fn_X5_wouldAnswer, ex_costOf, (k1 m (by omega)).1, q, nx_e, ck_t, ck_ok, bd1_s, bd1_n, bd2_s, oc_n, oc_s, l_0, l_1, l_2, l_3, l_4, l_5, l_6, l_7, l_8, l_11, l_12, l_31, l_39, l_40, l_59, l_60, l_100, l_500, l_1000, l_4095, l_9999, m1_e, ix_nI, ile_t, ile_f, ilt_t, ilt_f, ieq_t, ieq_f, nI_add, pk_mul, nI_sub, ile_m1, ilt_m1, ieq_m1, imle_m1, imlt_m1, imeq_m1, imeq_s, ieq_s, ile_s, ilt_s, gI_s, gI_ne1, gI_ne2, gJ_s, gJ_ne1, gJ_ne2, gI_sJ, gJ_sI, ibI0, ibI1, bI_t, bI_f, decide_true, decide_false, and_self, and_true, true_and, and_false, false_and, reduceIte, if_true, if_false, Nat.add_sub_cancel, e_within, e_in, Bool.not_true, Bool.false_and]
  · rw [decide_eq_false q]
    cases hd : dn tl Y (nI w) m <;> cases lb <;>
      simp (disch := omega) only [fn_X5_wouldAnswer, ex_costOf, (k1 m (by omega)).1, q, nx_e, ck_t, ck_ok, bd1_s, bd1_n, bd2_s, oc_n, oc_s, l_0, l_1, l_2, l_3, l_4, l_5, l_6, l_7, l_8, l_11, l_12, l_31, l_39, l_40, l_59, l_60, l_100, l_500, l_1000, l_4095, l_9999, m1_e, ix_nI, ile_t, ile_f, ilt_t, ilt_f, ieq_t, ieq_f, nI_add, pk_mul, nI_sub, ile_m1, ilt_m1, ieq_m1, imle_m1, imlt_m1, imeq_m1, imeq_s, ieq_s, ile_s, ilt_s, gI_s, gI_ne1, gI_ne2, gJ_s, gJ_ne1, gJ_ne2, gI_sJ, gJ_sI, ibI0, ibI1, bI_t, bI_f, decide_true, decide_false, and_self, and_true, true_and, and_false, false_and, reduceIte, if_true, if_false, Nat.add_sub_cancel, e_within, e_in, hf, hd, x9, el, Bool.not_true, Bool.not_false, Bool.false_and, Bool.true_and, Bool.and_false, Bool.and_true, Bool.false_eq_true, Bool.and_self]
def alp (Y : Mem) (i j : Nat) (x : Int32) (p : Nat) : Bool := hbI x p && !decide (gI Y 39 (12 * i + p) = gI Y 39 (12 * j + p))
def alk (Y : Mem) (i j : Nat) (x : Int32) : Bool := !anyB (alp Y i j x) 12
theorem ex_alike {nm w nf ns tl gr i j : Nat} {X Y : Mem} {x : Int32} (h : Inb nm w nf ns tl gr (cb X Y)) (hi : i < ns) (hj : j < ns) : fn_X4_namesAlike X (nI i) (nI j) x = some (bI (alk Y i j x)) := by
  obtain ⟨⟨a1, a2, a3, a4, a5, a6⟩, -, c1, c2, c3, c4, c5, c6, c7⟩ := cbb_facts h
  obtain ⟨-, -, s4, -⟩ := shb h
  have L := scan1 (f := lq_X4_namesAlike_3 X (nI i) (nI j) x) 12 (alp Y i j x) (some (nI 0)) (some (nI 1)) (by omega) (fun p rc hp => by
    simp (disch := omega) only [lq_X4_namesAlike_3, bk_X4_namesAlike_38, nx_e, ck_t, ck_ok, bd1_s, bd1_n, bd2_s, oc_n, oc_s, l_0, l_1, l_2, l_3, l_4, l_5, l_6, l_7, l_8, l_11, l_12, l_31, l_39, l_40, l_59, l_60, l_100, l_500, l_1000, l_4095, l_9999, m1_e, ix_nI, ile_t, ile_f, ilt_t, ilt_f, ieq_t, ieq_f, nI_add, pk_mul, nI_sub, ile_m1, ilt_m1, ieq_m1, imle_m1, imlt_m1, imeq_m1, imeq_s, ieq_s, ile_s, ilt_s, gI_s, gI_ne1, gI_ne2, gJ_s, gJ_ne1, gJ_ne2, gI_sJ, gJ_sI, ibI0, ibI1, bI_t, bI_f, decide_true, decide_false, and_self, and_true, true_and, and_false, false_and, reduceIte, if_true, if_false, Nat.add_sub_cancel, e_within, e_in, e_isIn, ex_namedBy a4 c5 hi hp, ex_namedBy a4 c5 hj hp, (s4 i p hi hp).1, (s4 j p hj hp).1]
    unfold alp
    cases hbI x p with
    | false => rfl
    | true =>
      rw [Bool.true_and]
      by_cases q : gI Y 39 (12 * i + p) = gI Y 39 (12 * j + p)
      · rw [if_pos q, decide_eq_true q]
        rfl
      · rw [if_neg q, decide_eq_false q]
        rfl) (fun rc => by simp (disch := omega) only [lq_X4_namesAlike_3, nx_e, ck_t, ck_ok, bd1_s, bd1_n, bd2_s, oc_n, oc_s, l_0, l_1, l_2, l_3, l_4, l_5, l_6, l_7, l_8, l_11, l_12, l_31, l_39, l_40, l_59, l_60, l_100, l_500, l_1000, l_4095, l_9999, m1_e, ix_nI, ile_t, ile_f, ilt_t, ilt_f, ieq_t, ieq_f, nI_add, pk_mul, nI_sub, ile_m1, ilt_m1, ieq_m1, imle_m1, imlt_m1, imeq_m1, imeq_s, ieq_s, ile_s, ilt_s, gI_s, gI_ne1, gI_ne2, gJ_s, gJ_ne1, gJ_ne2, gI_sJ, gJ_sI, ibI0, ibI1, bI_t, bI_f, decide_true, decide_false, and_self, and_true, true_and, and_false, false_and, reduceIte, if_true, if_false, Nat.add_sub_cancel, e_within, e_in])
  refine L.trans ?_
  unfold alk
  cases anyB (alp Y i j x) 12 <;> rfl
theorem ey_alike {k i j m : Nat} {Y : Mem} {x sn x4 v : Int32} (rc6 : Int32 → Int32 → Option Int32) (hm : m < 8) (hi : i < 60) (hj : j < 60) (ei : gI Y 43 m = nI i) (ej : gI Y 35 31 = nI j) : bk_X6_least_84 rc6 Y (nI k) x sn x4 (nI m) v = rc6 (if alk Y i j x = true then v else x4) (nI (m + 1)) := by
  have L := it2_v (f := lq_X6_least_90 rc6 Y (nI k) x sn x4 (nI m) v) (fun a c => ∃ q, q ≤ 12 ∧ c = nI q ∧ a = bI (!anyB (alp Y i j x) q)) (fun _ c => 12 - ix c) (fun _ _ => rc6 (if alk Y i j x = true then v else x4) (nI (m + 1))) (by
    rintro a c ⟨q, hq, rfl, rfl⟩ rc hrc
    by_cases e : q = 12
    · subst e
      unfold alk
      cases anyB (alp Y i j x) 12 <;>
        simp (disch := omega) only [lq_X6_least_90, bk_X6_least_169, nx_e, ck_t, ck_ok, bd1_s, bd1_n, bd2_s, oc_n, oc_s, l_0, l_1, l_2, l_3, l_4, l_5, l_6, l_7, l_8, l_11, l_12, l_31, l_39, l_40, l_59, l_60, l_100, l_500, l_1000, l_4095, l_9999, m1_e, ix_nI, ile_t, ile_f, ilt_t, ilt_f, ieq_t, ieq_f, nI_add, pk_mul, nI_sub, ile_m1, ilt_m1, ieq_m1, imle_m1, imlt_m1, imeq_m1, imeq_s, ieq_s, ile_s, ilt_s, gI_s, gI_ne1, gI_ne2, gJ_s, gJ_ne1, gJ_ne2, gI_sJ, gJ_sI, ibI0, ibI1, bI_t, bI_f, decide_true, decide_false, and_self, and_true, true_and, and_false, false_and, reduceIte, if_true, if_false, Nat.add_sub_cancel, e_within, e_in, Bool.not_true, Bool.not_false, Bool.false_eq_true]
    · have hs : lq_X6_least_90 rc6 Y (nI k) x sn x4 (nI m) v rc (bI (!anyB (alp Y i j x) q)) (nI q) = rc (bI (!anyB (alp Y i j x) (q + 1))) (nI (q + 1)) := by
        rw [anyB]
        cases anyB (alp Y i j x) q with
        | true => simp (disch := omega) only [lq_X6_least_90, bk_X6_least_151, bk_X6_least_152, nx_e, ck_t, ck_ok, bd1_s, bd1_n, bd2_s, oc_n, oc_s, l_0, l_1, l_2, l_3, l_4, l_5, l_6, l_7, l_8, l_11, l_12, l_31, l_39, l_40, l_59, l_60, l_100, l_500, l_1000, l_4095, l_9999, m1_e, ix_nI, ile_t, ile_f, ilt_t, ilt_f, ieq_t, ieq_f, nI_add, pk_mul, nI_sub, ile_m1, ilt_m1, ieq_m1, imle_m1, imlt_m1, imeq_m1, imeq_s, ieq_s, ile_s, ilt_s, gI_s, gI_ne1, gI_ne2, gJ_s, gJ_ne1, gJ_ne2, gI_sJ, gJ_sI, ibI0, ibI1, bI_t, bI_f, decide_true, decide_false, and_self, and_true, true_and, and_false, false_and, reduceIte, if_true, if_false, Nat.add_sub_cancel, e_within, e_in, Bool.not_true, Bool.true_or]
        | false =>
          unfold alp
          cases hb : hbI x q with
          | false => simp (disch := omega) only [lq_X6_least_90, bk_X6_least_147, bk_X6_least_152, nx_e, ck_t, ck_ok, bd1_s, bd1_n, bd2_s, oc_n, oc_s, l_0, l_1, l_2, l_3, l_4, l_5, l_6, l_7, l_8, l_11, l_12, l_31, l_39, l_40, l_59, l_60, l_100, l_500, l_1000, l_4095, l_9999, m1_e, ix_nI, ile_t, ile_f, ilt_t, ilt_f, ieq_t, ieq_f, nI_add, pk_mul, nI_sub, ile_m1, ilt_m1, ieq_m1, imle_m1, imlt_m1, imeq_m1, imeq_s, ieq_s, ile_s, ilt_s, gI_s, gI_ne1, gI_ne2, gJ_s, gJ_ne1, gJ_ne2, gI_sJ, gJ_sI, ibI0, ibI1, bI_t, bI_f, decide_true, decide_false, and_self, and_true, true_and, and_false, false_and, reduceIte, if_true, if_false, Nat.add_sub_cancel, e_within, e_in, e_shr2, hb, Bool.not_false, Bool.false_and, Bool.or_false, Bool.false_eq_true]
          | true =>
            by_cases z : gI Y 39 (12 * i + q) = gI Y 39 (12 * j + q)
            · simp (disch := omega) only [lq_X6_least_90, bk_X6_least_147, bk_X6_least_152, nx_e, ck_t, ck_ok, bd1_s, bd1_n, bd2_s, oc_n, oc_s, l_0, l_1, l_2, l_3, l_4, l_5, l_6, l_7, l_8, l_11, l_12, l_31, l_39, l_40, l_59, l_60, l_100, l_500, l_1000, l_4095, l_9999, m1_e, ix_nI, ile_t, ile_f, ilt_t, ilt_f, ieq_t, ieq_f, nI_add, pk_mul, nI_sub, ile_m1, ilt_m1, ieq_m1, imle_m1, imlt_m1, imeq_m1, imeq_s, ieq_s, ile_s, ilt_s, gI_s, gI_ne1, gI_ne2, gJ_s, gJ_ne1, gJ_ne2, gI_sJ, gJ_sI, ibI0, ibI1, bI_t, bI_f, decide_true, decide_false, and_self, and_true, true_and, and_false, false_and, reduceIte, if_true, if_false, Nat.add_sub_cancel, e_within, e_in, e_shr2, hb, ei, ej, z, Bool.not_false, Bool.not_true, Bool.true_and, Bool.or_false]
            · simp (disch := omega) only [lq_X6_least_90, bk_X6_least_151, bk_X6_least_152, nx_e, ck_t, ck_ok, bd1_s, bd1_n, bd2_s, oc_n, oc_s, l_0, l_1, l_2, l_3, l_4, l_5, l_6, l_7, l_8, l_11, l_12, l_31, l_39, l_40, l_59, l_60, l_100, l_500, l_1000, l_4095, l_9999, m1_e, ix_nI, ile_t, ile_f, ilt_t, ilt_f, ieq_t, ieq_f, nI_add, pk_mul, nI_sub, ile_m1, ilt_m1, ieq_m1, imle_m1, imlt_m1, imeq_m1, imeq_s, ieq_s, ile_s, ilt_s, gI_s, gI_ne1, gI_ne2, gJ_s, gJ_ne1, gJ_ne2, gI_sJ, gJ_sI, ibI0, ibI1, bI_t, bI_f, decide_true, decide_false, and_self, and_true, true_and, and_false, false_and, reduceIte, if_true, if_false, Nat.add_sub_cancel, e_within, e_in, e_shr2, hb, ei, ej, z, Bool.not_false, Bool.not_true, Bool.true_and, Bool.or_true]
      rw [hs]
      exact hrc _ _ ⟨q + 1, by omega, rfl, rfl⟩ (by rw [ix_nI (by omega), ix_nI (by omega)]; omega))
  exact L FU _ (nI 0) ⟨0, by omega, rfl, rfl⟩ (by rw [ix_nI (by omega)]; show 12 - 0 < 1000; omega)
/-- the least so far: the class begins at 100, the reference at -1 -/
def Rm (P : Nat → Bool) (m : Nat) (ax ay : Int32) : Prop := (ay = m1 ∧ ax = nI 100 ∧ ∀ m', m' < m → P m' = false) ∨ ∃ c, c ≤ 100 ∧ ay = nI c ∧ ax = nI c
def stX (b : Bool) (c a : Int32) : Int32 := if b = true then (if c < a then c else a) else a
def stY (b : Bool) (c a : Int32) : Int32 := if b = true then (if a < nI 0 then c else if c < a then c else a) else a
theorem Rm_st {P : Nat → Bool} {m : Nat} {ax ay : Int32} {cc : Int32} (h : Rm P m ax ay) (hc : P m = true → ∃ c, c ≤ 100 ∧ cc = nI c) : Rm P (m + 1) (stX (P m) cc ax) (stY (P m) cc ay) := by
  unfold stX stY
  cases hp : P m with
  | false =>
    rw [iff_f, iff_f]
    rcases h with ⟨h1, h2, h3⟩ | h
    · refine Or.inl ⟨h1, h2, fun m' hm' => ?_⟩
      by_cases e : m' = m
      · rw [e]; exact hp
      · exact h3 m' (by omega)
    · exact Or.inr h
  | true =>
    rw [if_pos rfl, if_pos rfl]
    obtain ⟨c, hc1, rfl⟩ := hc hp
    refine Or.inr ?_
    rcases h with ⟨rfl, rfl, -⟩ | ⟨d, hd, rfl, rfl⟩
    · rw [if_pos (show m1 < nI 0 by decide)]
      by_cases q : c = 100
      · subst q
        exact ⟨100, by omega, rfl, by decide⟩
      · rw [if_pos (nI_lt (by omega) (by omega))]
        exact ⟨c, hc1, rfl, rfl⟩
    · rw [if_neg (nI_nlt (by omega) (by omega))]
      by_cases q : c < d
      · rw [if_pos (nI_lt q (by omega))]
        exact ⟨c, hc1, rfl, rfl⟩
      · rw [if_neg (nI_nlt (by omega) (by omega))]
        exact ⟨d, hd, rfl, rfl⟩
theorem Rm_end {P : Nat → Bool} {n m : Nat} {ax ay : Int32} (h : Rm P n ax ay) (hm : m < n) (hp : P m = true) : ax = ay := by
  rcases h with ⟨-, -, h3⟩ | ⟨c, -, h1, h2⟩
  · rw [h3 m hm] at hp; cases hp
  · rw [h1, h2]
theorem wb_cost {nm w nf ns tl gr k m : Nat} {X Y : Mem} (hk : k < 6) (h : Inb nm w nf ns tl gr (cb X Y)) (hm : m < nm) (hw : wb Y w tl k m = true) : ∃ c, c ≤ 100 ∧ gI Y 54 (8 * k + m) = nI c := by
  have c1 : nm ≤ 8 := h.1.2.2.1
  rcases ((askb h hk).1 m (by omega)).2 with z | ⟨-, z⟩
  · unfold wb at hw
    rw [decide_eq_true z] at hw
    cases hw
  · exact z
/-! the index -/
def cdI (Y : Mem) (w ns gr tl k j : Nat) (x sn : Int32) (m : Nat) : Bool := wb Y w tl k m && (gud Y w ns gr k (ix (gI Y 43 m)) sn && alk Y (ix (gI Y 43 m)) j x)
theorem li_x {nm w nf ns tl gr k m j : Nat} {X Y : Mem} {r x sn ax : Int32} (hk : k < 6) (h : Inb nm w nf ns tl gr (cb X Y)) (hr : ∀ m, m < 32 → hbI r m = dn tl Y (nI w) m) (hm : m < nm) (hj : j < ns) (ej : gI X 31 4 = nI j) (rc : Int32 → Int32 → Option Int32) : lq_X5_leastForIndex_7 nm X k x sn r rc ax (nI m) = rc (stX (cdI Y w ns gr tl k j x sn m) (gI Y 54 (8 * k + m)) ax) (nI (m + 1)) := by
  obtain ⟨⟨a1, a2, a3, a4, a5, a6⟩, -, c1, c2, c3, c4, c5, c6, c7⟩ := cbb_facts h
  obtain ⟨k1, k2, k3, k4⟩ := askb h hk
  obtain ⟨⟨x4, i, hi, ei⟩, -, -⟩ := mirb h hm
  have hw := ex_would hk h hr hm
  have hg := ex_suits (sn := sn) h hk hi
  have ha := ex_alike (x := x) h hi hj
  unfold stX cdI
  rw [ei, ix_nI (by omega)]
  cases hq1 : wb Y w tl k m with
  | false => simp (disch := omega) only [lq_X5_leastForIndex_7, bk_X5_leastForIndex_95, nx_e, ck_t, ck_ok, bd1_s, bd1_n, bd2_s, oc_n, oc_s, l_0, l_1, l_2, l_3, l_4, l_5, l_6, l_7, l_8, l_11, l_12, l_31, l_39, l_40, l_59, l_60, l_100, l_500, l_1000, l_4095, l_9999, m1_e, ix_nI, ile_t, ile_f, ilt_t, ilt_f, ieq_t, ieq_f, nI_add, pk_mul, nI_sub, ile_m1, ilt_m1, ieq_m1, imle_m1, imlt_m1, imeq_m1, imeq_s, ieq_s, ile_s, ilt_s, gI_s, gI_ne1, gI_ne2, gJ_s, gJ_ne1, gJ_ne2, gI_sJ, gJ_sI, ibI0, ibI1, bI_t, bI_f, decide_true, decide_false, and_self, and_true, true_and, and_false, false_and, reduceIte, if_true, if_false, Nat.add_sub_cancel, e_within, e_in, a1, ex_mirrorAt a1 c1 hm, hw, hq1, Bool.false_and, Bool.false_eq_true]
  | true =>
    cases hq2 : gud Y w ns gr k i sn with
    | false => simp (disch := omega) only [lq_X5_leastForIndex_7, bk_X5_leastForIndex_95, nx_e, ck_t, ck_ok, bd1_s, bd1_n, bd2_s, oc_n, oc_s, l_0, l_1, l_2, l_3, l_4, l_5, l_6, l_7, l_8, l_11, l_12, l_31, l_39, l_40, l_59, l_60, l_100, l_500, l_1000, l_4095, l_9999, m1_e, ix_nI, ile_t, ile_f, ilt_t, ilt_f, ieq_t, ieq_f, nI_add, pk_mul, nI_sub, ile_m1, ilt_m1, ieq_m1, imle_m1, imlt_m1, imeq_m1, imeq_s, ieq_s, ile_s, ilt_s, gI_s, gI_ne1, gI_ne2, gJ_s, gJ_ne1, gJ_ne2, gI_sJ, gJ_sI, ibI0, ibI1, bI_t, bI_f, decide_true, decide_false, and_self, and_true, true_and, and_false, false_and, reduceIte, if_true, if_false, Nat.add_sub_cancel, e_within, e_in, a1, ex_mirrorAt a1 c1 hm, hw, hq1, x4, ei, k2.1, hg, hq2, Bool.false_and, Bool.true_and, Bool.false_eq_true]
    | true =>
      cases hq3 : alk Y i j x with
      | false => simp (disch := omega) only [lq_X5_leastForIndex_7, bk_X5_leastForIndex_95, nx_e, ck_t, ck_ok, bd1_s, bd1_n, bd2_s, oc_n, oc_s, l_0, l_1, l_2, l_3, l_4, l_5, l_6, l_7, l_8, l_11, l_12, l_31, l_39, l_40, l_59, l_60, l_100, l_500, l_1000, l_4095, l_9999, m1_e, ix_nI, ile_t, ile_f, ilt_t, ilt_f, ieq_t, ieq_f, nI_add, pk_mul, nI_sub, ile_m1, ilt_m1, ieq_m1, imle_m1, imlt_m1, imeq_m1, imeq_s, ieq_s, ile_s, ilt_s, gI_s, gI_ne1, gI_ne2, gJ_s, gJ_ne1, gJ_ne2, gI_sJ, gJ_sI, ibI0, ibI1, bI_t, bI_f, decide_true, decide_false, and_self, and_true, true_and, and_false, false_and, reduceIte, if_true, if_false, Nat.add_sub_cancel, e_within, e_in, a1, ex_mirrorAt a1 c1 hm, hw, hq1, x4, ei, k2.1, hg, hq2, ej, ha, hq3, Bool.true_and, Bool.false_eq_true]
      | true => simp (disch := omega) only [lq_X5_leastForIndex_7, bk_X5_leastForIndex_95, nx_e, ck_t, ck_ok, bd1_s, bd1_n, bd2_s, oc_n, oc_s, l_0, l_1, l_2, l_3, l_4, l_5, l_6, l_7, l_8, l_11, l_12, l_31, l_39, l_40, l_59, l_60, l_100, l_500, l_1000, l_4095, l_9999, m1_e, ix_nI, ile_t, ile_f, ilt_t, ilt_f, ieq_t, ieq_f, nI_add, pk_mul, nI_sub, ile_m1, ilt_m1, ieq_m1, imle_m1, imlt_m1, imeq_m1, imeq_s, ieq_s, ile_s, ilt_s, gI_s, gI_ne1, gI_ne2, gJ_s, gJ_ne1, gJ_ne2, gI_sJ, gJ_sI, ibI0, ibI1, bI_t, bI_f, decide_true, decide_false, and_self, and_true, true_and, and_false, false_and, reduceIte, if_true, if_false, Nat.add_sub_cancel, e_within, e_in, a1, ex_mirrorAt a1 c1 hm, hw, hq1, x4, ei, k2.1, hg, hq2, ej, ha, hq3, ex_costOf, (k1 m (by omega)).1, Bool.true_and]
theorem li_y {nm w nf ns tl gr k m j : Nat} {X Y : Mem} {x sn ay : Int32} (hk : k < 6) (h : Inb nm w nf ns tl gr (cb X Y)) (hm : m < nm) (hj : j < ns) (ej : gI Y 35 31 = nI j) (rc : Int32 → Int32 → Option Int32) : lq_X6_least_6 Y (nI k) x sn rc ay (nI m) = rc (stY (cdI Y w ns gr tl k j x sn m) (gI Y 54 (8 * k + m)) ay) (nI (m + 1)) := by
  obtain ⟨-, ⟨b1, b2, b3, b4, b5, b6⟩, c1, c2, c3, c4, c5, c6, c7⟩ := cbb_facts h
  obtain ⟨k1, k2, k3, k4⟩ := askb h hk
  obtain ⟨⟨x4, i, hi, ei⟩, ⟨-, lb, el⟩, -⟩ := mirb h hm
  have hg := ey_suits (sn := sn) h hk hi
  have hf : fn_X6_isFallen Y (nI m) = some (bI (dn tl Y (nI w) m)) := ey_isFallen b2 b5 c2 c6 m
  have ha : ∀ x4 v, bk_X6_least_84 rc Y (nI k) x sn x4 (nI m) v = rc (if alk Y i j x = true then v else x4) (nI (m + 1)) := fun x4 v => ey_alike rc (by omega) (by omega) (by omega) ei ej
  unfold stY cdI wb
  rw [ei, ix_nI (by omega), el, bI_eq0]
  rcases (k1 m (by omega)).2 with z | ⟨-, c, hc, z⟩
  · rw [z, decide_eq_true rfl]
    simp (disch := omega) only [lq_X6_least_6, bk_X6_least_169, nx_e, ck_t, ck_ok, bd1_s, bd1_n, bd2_s, oc_n, oc_s, l_0, l_1, l_2, l_3, l_4, l_5, l_6, l_7, l_8, l_11, l_12, l_31, l_39, l_40, l_59, l_60, l_100, l_500, l_1000, l_4095, l_9999, m1_e, ix_nI, ile_t, ile_f, ilt_t, ilt_f, ieq_t, ieq_f, nI_add, pk_mul, nI_sub, ile_m1, ilt_m1, ieq_m1, imle_m1, imlt_m1, imeq_m1, imeq_s, ieq_s, ile_s, ilt_s, gI_s, gI_ne1, gI_ne2, gJ_s, gJ_ne1, gJ_ne2, gI_sJ, gJ_sI, ibI0, ibI1, bI_t, bI_f, decide_true, decide_false, and_self, and_true, true_and, and_false, false_and, reduceIte, if_true, if_false, Nat.add_sub_cancel, e_within, e_in, b1, z, Bool.not_true, Bool.false_and, Bool.false_eq_true]
  · rw [z, decide_eq_false (nI_ne_m1 (by omega))]
    cases hd : dn tl Y (nI w) m with
    | true => simp (disch := omega) only [lq_X6_least_6, bk_X6_least_169, nx_e, ck_t, ck_ok, bd1_s, bd1_n, bd2_s, oc_n, oc_s, l_0, l_1, l_2, l_3, l_4, l_5, l_6, l_7, l_8, l_11, l_12, l_31, l_39, l_40, l_59, l_60, l_100, l_500, l_1000, l_4095, l_9999, m1_e, ix_nI, ile_t, ile_f, ilt_t, ilt_f, ieq_t, ieq_f, nI_add, pk_mul, nI_sub, ile_m1, ilt_m1, ieq_m1, imle_m1, imlt_m1, imeq_m1, imeq_s, ieq_s, ile_s, ilt_s, gI_s, gI_ne1, gI_ne2, gJ_s, gJ_ne1, gJ_ne2, gI_sJ, gJ_sI, ibI0, ibI1, bI_t, bI_f, decide_true, decide_false, and_self, and_true, true_and, and_false, false_and, reduceIte, if_true, if_false, Nat.add_sub_cancel, e_within, e_in, b1, z, hf, hd, Bool.not_true, Bool.not_false, Bool.false_and, Bool.true_and, Bool.false_eq_true]
    | false =>
      cases lb with
      | true => simp (disch := omega) only [lq_X6_least_6, bk_X6_least_169, nx_e, ck_t, ck_ok, bd1_s, bd1_n, bd2_s, oc_n, oc_s, l_0, l_1, l_2, l_3, l_4, l_5, l_6, l_7, l_8, l_11, l_12, l_31, l_39, l_40, l_59, l_60, l_100, l_500, l_1000, l_4095, l_9999, m1_e, ix_nI, ile_t, ile_f, ilt_t, ilt_f, ieq_t, ieq_f, nI_add, pk_mul, nI_sub, ile_m1, ilt_m1, ieq_m1, imle_m1, imlt_m1, imeq_m1, imeq_s, ieq_s, ile_s, ilt_s, gI_s, gI_ne1, gI_ne2, gJ_s, gJ_ne1, gJ_ne2, gI_sJ, gJ_sI, ibI0, ibI1, bI_t, bI_f, decide_true, decide_false, and_self, and_true, true_and, and_false, false_and, reduceIte, if_true, if_false, Nat.add_sub_cancel, e_within, e_in, b1, z, hf, hd, el, Bool.not_true, Bool.not_false, Bool.false_and, Bool.true_and, Bool.false_eq_true]
      | false =>
        cases hq2 : gud Y w ns gr k i sn with
        | false => simp (disch := omega) only [lq_X6_least_6, bk_X6_least_169, nx_e, ck_t, ck_ok, bd1_s, bd1_n, bd2_s, oc_n, oc_s, l_0, l_1, l_2, l_3, l_4, l_5, l_6, l_7, l_8, l_11, l_12, l_31, l_39, l_40, l_59, l_60, l_100, l_500, l_1000, l_4095, l_9999, m1_e, ix_nI, ile_t, ile_f, ilt_t, ilt_f, ieq_t, ieq_f, nI_add, pk_mul, nI_sub, ile_m1, ilt_m1, ieq_m1, imle_m1, imlt_m1, imeq_m1, imeq_s, ieq_s, ile_s, ilt_s, gI_s, gI_ne1, gI_ne2, gJ_s, gJ_ne1, gJ_ne2, gI_sJ, gJ_sI, ibI0, ibI1, bI_t, bI_f, decide_true, decide_false, and_self, and_true, true_and, and_false, false_and, reduceIte, if_true, if_false, Nat.add_sub_cancel, e_within, e_in, b1, z, hf, hd, el, ei, hg, hq2, Bool.not_false, Bool.false_and, Bool.true_and, Bool.false_eq_true]
        | true =>
          simp (disch := omega) only [lq_X6_least_6, bk_X6_least_169, nx_e, ck_t, ck_ok, bd1_s, bd1_n, bd2_s, oc_n, oc_s, l_0, l_1, l_2, l_3, l_4, l_5, l_6, l_7, l_8, l_11, l_12, l_31, l_39, l_40, l_59, l_60, l_100, l_500, l_1000, l_4095, l_9999, m1_e, ix_nI, ile_t, ile_f, ilt_t, ilt_f, ieq_t, ieq_f, nI_add, pk_mul, nI_sub, ile_m1, ilt_m1, ieq_m1, imle_m1, imlt_m1, imeq_m1, imeq_s, ieq_s, ile_s, ilt_s, gI_s, gI_ne1, gI_ne2, gJ_s, gJ_ne1, gJ_ne2, gI_sJ, gJ_sI, ibI0, ibI1, bI_t, bI_f, decide_true, decide_false, and_self, and_true, true_and, and_false, false_and, reduceIte, if_true, if_false, Nat.add_sub_cancel, e_within, e_in, b1, z, hf, hd, el, ei, hg, hq2, ha, Bool.not_false, Bool.true_and, Bool.false_eq_true]
          cases alk Y i j x with
          | false =>
            rw [iff_f, iff_f]
            split
            · rfl
            · split <;> rfl
          | true =>
            rw [if_pos rfl, if_pos rfl]
            split
            · rfl
            · split <;> rfl
theorem li_rel {nm w nf ns tl gr k j : Nat} {X Y : Mem} {r x sn : Int32} (hk : k < 6) (h : Inb nm w nf ns tl gr (cb X Y)) (hr : ∀ m, m < 32 → hbI r m = dn tl Y (nI w) m) (hj : j < ns) (ejx : gI X 31 4 = nI j) (ejy : gI Y 35 31 = nI j) : ∀ (d m n1 n2 : Nat) (ax ay : Int32), m + d = nm → Rm (cdI Y w ns gr tl k j x sn) m ax ay → d < n1 → d < n2 → ∃ bx bY, it2 (lq_X5_leastForIndex_7 nm X k x sn r) n1 ax (nI m) = some bx ∧ it2 (lq_X6_least_6 Y (nI k) x sn) n2 ay (nI m) = it2 (lq_X6_least_182 Y (nI k)) FU bY (nI 0) ∧ Rm (cdI Y w ns gr tl k j x sn) nm bx bY := by
  obtain ⟨⟨a1, a2, a3, a4, a5, a6⟩, ⟨b1, b2, b3, b4, b5, b6⟩, c1, c2, c3, c4, c5, c6, c7⟩ := cbb_facts h
  intro d
  induction d with
  | zero =>
    intro m n1 n2 ax ay hd hR hn1 hn2
    obtain ⟨p1, rfl⟩ : ∃ p, n1 = p + 1 := ⟨n1 - 1, by omega⟩
    obtain ⟨p2, rfl⟩ : ∃ p, n2 = p + 1 := ⟨n2 - 1, by omega⟩
    obtain rfl : m = nm := by omega
    refine ⟨ax, ay, ?_, ?_, hR⟩
    · show lq_X5_leastForIndex_7 m X k x sn r _ ax (nI m) = _
      unfold lq_X5_leastForIndex_7
      rw [a1, if_pos Int32.le_rfl]
    · show lq_X6_least_6 Y (nI k) x sn _ ay (nI m) = _
      unfold lq_X6_least_6
      rw [b1, if_pos Int32.le_rfl]
      rfl
  | succ d ih =>
    intro m n1 n2 ax ay hd hR hn1 hn2
    obtain ⟨p1, rfl⟩ : ∃ p, n1 = p + 1 := ⟨n1 - 1, by omega⟩
    obtain ⟨p2, rfl⟩ : ∃ p, n2 = p + 1 := ⟨n2 - 1, by omega⟩
    show ∃ bx bY, lq_X5_leastForIndex_7 nm X k x sn r (it2 (lq_X5_leastForIndex_7 nm X k x sn r) p1) ax (nI m) = some bx ∧ lq_X6_least_6 Y (nI k) x sn (it2 (lq_X6_least_6 Y (nI k) x sn) p2) ay (nI m) = _ ∧ _
    rw [li_x hk h hr (by omega) hj ejx, li_y hk h (by omega) hj ejy]
    refine ih (m + 1) p1 p2 _ _ (by omega) (Rm_st hR (fun hp => ?_)) (by omega) (by omega)
    unfold cdI at hp
    rw [Bool.and_eq_true] at hp
    exact wb_cost hk h (by omega) hp.1
/-! a file -/
def cdF (Y : Mem) (w tl k f : Nat) (m : Nat) : Bool := wb Y w tl k m && decide (gI Y 48 (60 * m + f) = nI 1)
theorem bI_eq1 (b : Bool) : decide (bI b = nI 1) = b := by cases b <;> decide
theorem lf_x {nm w nf ns tl gr k m f : Nat} {X Y : Mem} {r ax : Int32} (hk : k < 6) (h : Inb nm w nf ns tl gr (cb X Y)) (hr : ∀ m, m < 32 → hbI r m = dn tl Y (nI w) m) (hm : m < nm) (hf : f < 60) (rc : Int32 → Int32 → Option Int32) : lq_X5_leastForFile_7 nm X k (nI f) r rc ax (nI m) = rc (stX (cdF Y w tl k f m) (gI Y 54 (8 * k + m)) ax) (nI (m + 1)) := by
  obtain ⟨⟨a1, a2, a3, a4, a5, a6⟩, -, c1, c2, c3, c4, c5, c6, c7⟩ := cbb_facts h
  obtain ⟨k1, k2, k3, k4⟩ := askb h hk
  obtain ⟨-, -, e48⟩ := mirb h hm
  have hw := ex_would hk h hr hm
  unfold stX cdF
  rw [e48 f hf, bI_eq1]
  cases hq1 : wb Y w tl k m <;> cases hq2 : hb (gJ X (62 + 2 * m) 6) f <;>
    simp (disch := omega) only [lq_X5_leastForFile_7, bk_X5_leastForFile_63, nx_e, ck_t, ck_ok, bd1_s, bd1_n, bd2_s, oc_n, oc_s, l_0, l_1, l_2, l_3, l_4, l_5, l_6, l_7, l_8, l_11, l_12, l_31, l_39, l_40, l_59, l_60, l_100, l_500, l_1000, l_4095, l_9999, m1_e, ix_nI, ile_t, ile_f, ilt_t, ilt_f, ieq_t, ieq_f, nI_add, pk_mul, nI_sub, ile_m1, ilt_m1, ieq_m1, imle_m1, imlt_m1, imeq_m1, imeq_s, ieq_s, ile_s, ilt_s, gI_s, gI_ne1, gI_ne2, gJ_s, gJ_ne1, gJ_ne2, gI_sJ, gJ_sI, ibI0, ibI1, bI_t, bI_f, decide_true, decide_false, and_self, and_true, true_and, and_false, false_and, reduceIte, if_true, if_false, Nat.add_sub_cancel, e_within, e_in, a1, ex_mirrorAt a1 c1 hm, hw, hq1, e_holds, hq2, ex_costOf, (k1 m (by omega)).1, Bool.false_and, Bool.true_and, Bool.false_eq_true]
theorem lf_y {nm w nf ns tl gr k m f g : Nat} {X Y : Mem} {x5 ay : Int32} (hk : k < 6) (h : Inb nm w nf ns tl gr (cb X Y)) (hm : m < nm) (hf : f < 60) (hg : g < 12) (ef : gI Y 59 g = nI f) (rc182 rc : Int32 → Int32 → Option Int32) : lq_X6_least_197 rc182 Y (nI k) x5 (nI g) rc ay (nI m) = rc (stY (cdF Y w tl k f m) (gI Y 54 (8 * k + m)) ay) (nI (m + 1)) := by
  obtain ⟨-, ⟨b1, b2, b3, b4, b5, b6⟩, c1, c2, c3, c4, c5, c6, c7⟩ := cbb_facts h
  obtain ⟨k1, k2, k3, k4⟩ := askb h hk
  obtain ⟨-, ⟨-, lb, el⟩, e48⟩ := mirb h hm
  have hfl : fn_X6_isFallen Y (nI m) = some (bI (dn tl Y (nI w) m)) := ey_isFallen b2 b5 c2 c6 m
  unfold stY cdF wb
  rw [e48 f hf, bI_eq1, el, bI_eq0]
  rcases (k1 m (by omega)).2 with z | ⟨-, c, hc, z⟩
  · rw [z, decide_eq_true rfl]
    simp (disch := omega) only [lq_X6_least_197, bk_X6_least_284, nx_e, ck_t, ck_ok, bd1_s, bd1_n, bd2_s, oc_n, oc_s, l_0, l_1, l_2, l_3, l_4, l_5, l_6, l_7, l_8, l_11, l_12, l_31, l_39, l_40, l_59, l_60, l_100, l_500, l_1000, l_4095, l_9999, m1_e, ix_nI, ile_t, ile_f, ilt_t, ilt_f, ieq_t, ieq_f, nI_add, pk_mul, nI_sub, ile_m1, ilt_m1, ieq_m1, imle_m1, imlt_m1, imeq_m1, imeq_s, ieq_s, ile_s, ilt_s, gI_s, gI_ne1, gI_ne2, gJ_s, gJ_ne1, gJ_ne2, gI_sJ, gJ_sI, ibI0, ibI1, bI_t, bI_f, decide_true, decide_false, and_self, and_true, true_and, and_false, false_and, reduceIte, if_true, if_false, Nat.add_sub_cancel, e_within, e_in, b1, z, Bool.not_true, Bool.false_and, Bool.false_eq_true]
  · rw [z, decide_eq_false (nI_ne_m1 (by omega))]
    cases hd : dn tl Y (nI w) m with
    | true => simp (disch := omega) only [lq_X6_least_197, bk_X6_least_284, nx_e, ck_t, ck_ok, bd1_s, bd1_n, bd2_s, oc_n, oc_s, l_0, l_1, l_2, l_3, l_4, l_5, l_6, l_7, l_8, l_11, l_12, l_31, l_39, l_40, l_59, l_60, l_100, l_500, l_1000, l_4095, l_9999, m1_e, ix_nI, ile_t, ile_f, ilt_t, ilt_f, ieq_t, ieq_f, nI_add, pk_mul, nI_sub, ile_m1, ilt_m1, ieq_m1, imle_m1, imlt_m1, imeq_m1, imeq_s, ieq_s, ile_s, ilt_s, gI_s, gI_ne1, gI_ne2, gJ_s, gJ_ne1, gJ_ne2, gI_sJ, gJ_sI, ibI0, ibI1, bI_t, bI_f, decide_true, decide_false, and_self, and_true, true_and, and_false, false_and, reduceIte, if_true, if_false, Nat.add_sub_cancel, e_within, e_in, b1, z, hfl, hd, Bool.not_true, Bool.not_false, Bool.false_and, Bool.true_and, Bool.false_eq_true]
    | false =>
      cases lb with
      | true => simp (disch := omega) only [lq_X6_least_197, bk_X6_least_284, nx_e, ck_t, ck_ok, bd1_s, bd1_n, bd2_s, oc_n, oc_s, l_0, l_1, l_2, l_3, l_4, l_5, l_6, l_7, l_8, l_11, l_12, l_31, l_39, l_40, l_59, l_60, l_100, l_500, l_1000, l_4095, l_9999, m1_e, ix_nI, ile_t, ile_f, ilt_t, ilt_f, ieq_t, ieq_f, nI_add, pk_mul, nI_sub, ile_m1, ilt_m1, ieq_m1, imle_m1, imlt_m1, imeq_m1, imeq_s, ieq_s, ile_s, ilt_s, gI_s, gI_ne1, gI_ne2, gJ_s, gJ_ne1, gJ_ne2, gI_sJ, gJ_sI, ibI0, ibI1, bI_t, bI_f, decide_true, decide_false, and_self, and_true, true_and, and_false, false_and, reduceIte, if_true, if_false, Nat.add_sub_cancel, e_within, e_in, b1, z, hfl, hd, el, Bool.not_true, Bool.not_false, Bool.false_and, Bool.true_and, Bool.false_eq_true]
      | false =>
        cases hq2 : hb (gJ X (62 + 2 * m) 6) f with
        | false => simp (disch := omega) only [lq_X6_least_197, bk_X6_least_284, nx_e, ck_t, ck_ok, bd1_s, bd1_n, bd2_s, oc_n, oc_s, l_0, l_1, l_2, l_3, l_4, l_5, l_6, l_7, l_8, l_11, l_12, l_31, l_39, l_40, l_59, l_60, l_100, l_500, l_1000, l_4095, l_9999, m1_e, ix_nI, ile_t, ile_f, ilt_t, ilt_f, ieq_t, ieq_f, nI_add, pk_mul, nI_sub, ile_m1, ilt_m1, ieq_m1, imle_m1, imlt_m1, imeq_m1, imeq_s, ieq_s, ile_s, ilt_s, gI_s, gI_ne1, gI_ne2, gJ_s, gJ_ne1, gJ_ne2, gI_sJ, gJ_sI, ibI0, ibI1, bI_t, bI_f, decide_true, decide_false, and_self, and_true, true_and, and_false, false_and, reduceIte, if_true, if_false, Nat.add_sub_cancel, e_within, e_in, b1, z, hfl, hd, el, ef, e48, hq2, Bool.not_false, Bool.and_false, Bool.true_and, Bool.false_eq_true]
        | true =>
          simp (disch := omega) only [lq_X6_least_197, bk_X6_least_284, bk_X6_least_280, nx_e, ck_t, ck_ok, bd1_s, bd1_n, bd2_s, oc_n, oc_s, l_0, l_1, l_2, l_3, l_4, l_5, l_6, l_7, l_8, l_11, l_12, l_31, l_39, l_40, l_59, l_60, l_100, l_500, l_1000, l_4095, l_9999, m1_e, ix_nI, ile_t, ile_f, ilt_t, ilt_f, ieq_t, ieq_f, nI_add, pk_mul, nI_sub, ile_m1, ilt_m1, ieq_m1, imle_m1, imlt_m1, imeq_m1, imeq_s, ieq_s, ile_s, ilt_s, gI_s, gI_ne1, gI_ne2, gJ_s, gJ_ne1, gJ_ne2, gI_sJ, gJ_sI, ibI0, ibI1, bI_t, bI_f, decide_true, decide_false, and_self, and_true, true_and, and_false, false_and, reduceIte, if_true, if_false, Nat.add_sub_cancel, e_within, e_in, b1, z, hfl, hd, el, ef, e48, hq2, Bool.not_false, Bool.true_and, Bool.and_self, Bool.false_eq_true]
          split
          · rfl
          · split <;> rfl
theorem lf_rel {nm w nf ns tl gr k f g : Nat} {X Y : Mem} {r x5 : Int32} {rc182 : Int32 → Int32 → Option Int32} (hk : k < 6) (h : Inb nm w nf ns tl gr (cb X Y)) (hr : ∀ m, m < 32 → hbI r m = dn tl Y (nI w) m) (hf : f < 60) (hg : g < 12) (ef : gI Y 59 g = nI f) : ∀ (d m n1 n2 : Nat) (ax ay : Int32), m + d = nm → Rm (cdF Y w tl k f) m ax ay → d < n1 → d < n2 → ∃ bx bY, it2 (lq_X5_leastForFile_7 nm X k (nI f) r) n1 ax (nI m) = some bx ∧ it2 (lq_X6_least_197 rc182 Y (nI k) x5 (nI g)) n2 ay (nI m) = rc182 (x5 + bY) (nI (g + 1)) ∧ Rm (cdF Y w tl k f) nm bx bY := by
  obtain ⟨⟨a1, a2, a3, a4, a5, a6⟩, ⟨b1, b2, b3, b4, b5, b6⟩, c1, c2, c3, c4, c5, c6, c7⟩ := cbb_facts h
  intro d
  induction d with
  | zero =>
    intro m n1 n2 ax ay hd hR hn1 hn2
    obtain ⟨p1, rfl⟩ : ∃ p, n1 = p + 1 := ⟨n1 - 1, by omega⟩
    obtain ⟨p2, rfl⟩ : ∃ p, n2 = p + 1 := ⟨n2 - 1, by omega⟩
    obtain rfl : m = nm := by omega
    refine ⟨ax, ay, ?_, ?_, hR⟩
    · show lq_X5_leastForFile_7 m X k (nI f) r _ ax (nI m) = _
      unfold lq_X5_leastForFile_7
      rw [a1, if_pos Int32.le_rfl]
    · show lq_X6_least_197 rc182 Y (nI k) x5 (nI g) _ ay (nI m) = _
      unfold lq_X6_least_197
      rw [b1, if_pos Int32.le_rfl, nx_e, nx_e, show nI g + 1 = nI (g + 1) from nI_add g 1]
  | succ d ih =>
    intro m n1 n2 ax ay hd hR hn1 hn2
    obtain ⟨p1, rfl⟩ : ∃ p, n1 = p + 1 := ⟨n1 - 1, by omega⟩
    obtain ⟨p2, rfl⟩ : ∃ p, n2 = p + 1 := ⟨n2 - 1, by omega⟩
    show ∃ bx bY, lq_X5_leastForFile_7 nm X k (nI f) r (it2 (lq_X5_leastForFile_7 nm X k (nI f) r) p1) ax (nI m) = some bx ∧ lq_X6_least_197 rc182 Y (nI k) x5 (nI g) (it2 (lq_X6_least_197 rc182 Y (nI k) x5 (nI g)) p2) ay (nI m) = _ ∧ _
    rw [lf_x hk h hr (by omega) hf, lf_y hk h (by omega) hf hg ef]
    refine ih (m + 1) p1 p2 _ _ (by omega) (Rm_st hR (fun hp => ?_)) (by omega) (by omega)
    unfold cdF at hp
    rw [Bool.and_eq_true] at hp
    exact wb_cost hk h (by omega) hp.1
/-! all files -/
theorem fo_rel {nm w nf ns tl gr k j : Nat} {X Y : Mem} {r x : Int32} (hk : k < 6) (h : Inb nm w nf ns tl gr (cb X Y)) (hr : ∀ m, m < 32 → hbI r m = dn tl Y (nI w) m) (hj : j < ns) (ejx : gI X 31 4 = nI j) (e34 : gI Y 35 34 = nI (cn (hbI x) 12)) (hlk : ∀ q, q < 12 → lkp Y j x q = false) (hgd : Gd nm w tl k j x 12 Y) : ∀ (d p n1 n2 : Nat) (a : Int32), p + d = 12 → d < n1 → d < n2 → ∃ v, it2 (lq_X5_foresee_14 nm X k x r) n1 a (nI p) = some v ∧ it2 (lq_X6_least_182 Y (nI k)) n2 a (nI (cn (hbI x) p)) = some v := by
  obtain ⟨⟨a1, a2, a3, a4, a5, a6⟩, ⟨b1, b2, b3, b4, b5, b6⟩, c1, c2, c3, c4, c5, c6, c7⟩ := cbb_facts h
  have hc12 := cn_le (hbI x) 12
  intro d
  induction d with
  | zero =>
    intro p n1 n2 a hd hn1 hn2
    obtain ⟨p1, rfl⟩ : ∃ p, n1 = p + 1 := ⟨n1 - 1, by omega⟩
    obtain ⟨p2, rfl⟩ : ∃ p, n2 = p + 1 := ⟨n2 - 1, by omega⟩
    obtain rfl : p = 12 := by omega
    refine ⟨a, ?_, ?_⟩
    · show lq_X5_foresee_14 nm X k x r _ a (nI 12) = _
      unfold lq_X5_foresee_14
      rw [if_pos (show (12 : Int32) ≤ nI 12 by decide)]
    · show lq_X6_least_182 Y (nI k) _ a (nI (cn (hbI x) 12)) = _
      unfold lq_X6_least_182
      rw [e34, if_pos Int32.le_rfl]
  | succ d ih =>
    intro p n1 n2 a hd hn1 hn2
    obtain ⟨p1, rfl⟩ : ∃ p, n1 = p + 1 := ⟨n1 - 1, by omega⟩
    have hp : p < 12 := by omega
    cases hb : hbI x p with
    | false =>
      have ecn : cn (hbI x) (p + 1) = cn (hbI x) p := by rw [cn, hb]; rfl
      have ex : lq_X5_foresee_14 nm X k x r (it2 (lq_X5_foresee_14 nm X k x r) p1) a (nI p) = it2 (lq_X5_foresee_14 nm X k x r) p1 a (nI (p + 1)) := by
        simp (disch := omega) only [lq_X5_foresee_14, bk_X5_foresee_58, nx_e, ck_t, ck_ok, bd1_s, bd1_n, bd2_s, oc_n, oc_s, l_0, l_1, l_2, l_3, l_4, l_5, l_6, l_7, l_8, l_11, l_12, l_31, l_39, l_40, l_59, l_60, l_100, l_500, l_1000, l_4095, l_9999, m1_e, ix_nI, ile_t, ile_f, ilt_t, ilt_f, ieq_t, ieq_f, nI_add, pk_mul, nI_sub, ile_m1, ilt_m1, ieq_m1, imle_m1, imlt_m1, imeq_m1, imeq_s, ieq_s, ile_s, ilt_s, gI_s, gI_ne1, gI_ne2, gJ_s, gJ_ne1, gJ_ne2, gI_sJ, gJ_sI, ibI0, ibI1, bI_t, bI_f, decide_true, decide_false, and_self, and_true, true_and, and_false, false_and, reduceIte, if_true, if_false, Nat.add_sub_cancel, e_within, e_in, e_isIn, hb, Bool.false_eq_true]
      show ∃ v, lq_X5_foresee_14 nm X k x r (it2 (lq_X5_foresee_14 nm X k x r) p1) a (nI p) = some v ∧ _
      rw [ex, ← ecn]
      exact ih (p + 1) p1 n2 a (by omega) (by omega) (by omega)
    | true =>
      obtain ⟨p2, rfl⟩ : ∃ p, n2 = p + 1 := ⟨n2 - 1, by omega⟩
      have ecn : cn (hbI x) (p + 1) = cn (hbI x) p + 1 := by rw [cn, hb]; rfl
      have hlt := cn_lt hb hp
      obtain ⟨s4, s4'⟩ := (shb h).2.2.1 j p hj hp
      obtain ⟨f, hf, ef⟩ : ∃ f, f < 60 ∧ gI Y 39 (12 * j + p) = nI f := by
        rcases s4' with z | ⟨f, hf, z⟩
        · have := hlk p hp
          unfold lkp at this
          rw [hb, z, decide_eq_true rfl] at this
          cases this
        · exact ⟨f, by omega, z⟩
      obtain ⟨z1, m, z2, z3, z4⟩ := hgd p hp hb
      obtain ⟨bx, bY, q1, q2, q3⟩ := lf_rel (rc182 := it2 (lq_X6_least_182 Y (nI k)) p2) (x5 := a) (g := cn (hbI x) p) hk h hr hf (by omega) (z1.trans ef) nm 0 FU FU (nI 100) m1 (by omega) (Or.inl ⟨rfl, rfl, fun m' hm' => by omega⟩) (by show nm < 1000; omega) (by show nm < 1000; omega)
      have eb : bx = bY := Rm_end q3 z2 (by unfold cdF; rw [wb_t z3, z4 f hf ef, decide_eq_true rfl]; rfl)
      subst eb
      have q1' : fn_X5_leastForFile nm X k (nI f) r = some bx := q1
      have ex : lq_X5_foresee_14 nm X k x r (it2 (lq_X5_foresee_14 nm X k x r) p1) a (nI p) = it2 (lq_X5_foresee_14 nm X k x r) p1 (a + bx) (nI (p + 1)) := by
        simp (disch := omega) only [lq_X5_foresee_14, bk_X5_foresee_58, nx_e, ck_t, ck_ok, bd1_s, bd1_n, bd2_s, oc_n, oc_s, l_0, l_1, l_2, l_3, l_4, l_5, l_6, l_7, l_8, l_11, l_12, l_31, l_39, l_40, l_59, l_60, l_100, l_500, l_1000, l_4095, l_9999, m1_e, ix_nI, ile_t, ile_f, ilt_t, ilt_f, ieq_t, ieq_f, nI_add, pk_mul, nI_sub, ile_m1, ilt_m1, ieq_m1, imle_m1, imlt_m1, imeq_m1, imeq_s, ieq_s, ile_s, ilt_s, gI_s, gI_ne1, gI_ne2, gJ_s, gJ_ne1, gJ_ne2, gI_sJ, gJ_sI, ibI0, ibI1, bI_t, bI_f, decide_true, decide_false, and_self, and_true, true_and, and_false, false_and, reduceIte, if_true, if_false, Nat.add_sub_cancel, e_within, e_in, e_isIn, hb, ejx, ex_namedBy a4 c5 hj hp, s4, ef, q1']
      have ey : lq_X6_least_182 Y (nI k) (it2 (lq_X6_least_182 Y (nI k)) p2) a (nI (cn (hbI x) p)) = it2 (lq_X6_least_182 Y (nI k)) p2 (a + bx) (nI (cn (hbI x) (p + 1))) := by
        have e0 : ∀ rc, lq_X6_least_182 Y (nI k) rc a (nI (cn (hbI x) p)) = it2 (lq_X6_least_197 rc Y (nI k) a (nI (cn (hbI x) p))) FU m1 (nI 0) := by
          intro rc
          unfold lq_X6_least_182
          rw [e34, if_neg (nI_ge (by omega) (by omega))]
          rfl
        rw [e0, ecn]
        exact q2
      show ∃ v, lq_X5_foresee_14 nm X k x r (it2 (lq_X5_foresee_14 nm X k x r) p1) a (nI p) = some v ∧ lq_X6_least_182 Y (nI k) (it2 (lq_X6_least_182 Y (nI k)) p2) a (nI (cn (hbI x) p)) = some v
      rw [ex, ey]
      exact ih (p + 1) p1 p2 (a + bx) (by omega) (by omega) (by omega)
theorem least_rel {nm w nf ns tl gr k j m : Nat} {X Y : Mem} {r x sn : Int32} (hk : k < 6) (h : Inb nm w nf ns tl gr (cb X Y)) (hr : ∀ m, m < 32 → hbI r m = dn tl Y (nI w) m) (hj : j < ns) (ejx : gI X 31 4 = nI j) (ejy : gI Y 35 31 = nI j) (e34 : gI Y 35 34 = nI (cn (hbI x) 12)) (hlk : ∀ q, q < 12 → lkp Y j x q = false) (hgd : Gd nm w tl k j x 12 Y) (hm : m < nm) (hw : wans Y w tl k m) (e43 : gI Y 43 m = nI j) (hg : gud Y w ns gr k j sn = true) : ∃ v, fn_X5_foresee nm X k x sn r = some v ∧ fn_X6_least Y (nI k) x sn = some v := by
  obtain ⟨-, -, c1, c2, c3, c4, c5, c6, c7⟩ := cbb_facts h
  obtain ⟨bx, bY, q1, q2, q3⟩ := li_rel (x := x) (sn := sn) hk h hr hj ejx ejy nm 0 FU FU (nI 100) m1 (by omega) (Or.inl ⟨rfl, rfl, fun m' hm' => by omega⟩) (by show nm < 1000; omega) (by show nm < 1000; omega)
  have eb : bx = bY := Rm_end q3 hm (by
    unfold cdI
    rw [wb_t hw, e43, ix_nI (by omega), hg]
    unfold alk
    rw [anyB_f.mpr (fun p hp => by unfold alp; rw [decide_eq_true rfl]; simp)]
    rfl)
  subst eb
  obtain ⟨v, v1, v2⟩ := fo_rel (x := x) hk h hr hj ejx e34 hlk hgd 12 0 FU FU bx (by omega) (by show 12 < 1000; omega) (by show 12 < 1000; omega)
  refine ⟨v, ?_, ?_⟩
  · unfold fn_X5_foresee
    have q1' : fn_X5_leastForIndex nm X k x sn r = some bx := q1
    rw [q1', bd1_s]
    exact v1
  · unfold fn_X6_least
    exact q2.trans v2
