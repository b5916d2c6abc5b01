/-! a target taken: the index turns, what is old is dropped -/
theorem nI_dec {k : Nat} (h : k + 1 < 2147483648) : nI (k + 1) + m1 = nI k := by
  rw [← nI_add k 1, Int32.add_assoc, show nI 1 + m1 = 0 by decide, Int32.add_zero]
theorem xt_s {X : Mem} {m k : Nat} (rc : Mem → Int32 → Option Mem) (hk : k < 2) : lq_X3_takeIndex_2 m rc X (nI (k + 1)) = rc (sI X (62 + 2 * m + 1) (k + 1) (gI X (62 + 2 * m + 1) k)) (nI k) := by
  simp (disch := omega) only [lq_X3_takeIndex_2, nx_e, ck_t, ck_ok, bd1_s, bd1_n, bd2_s, oc_n, oc_s, l_0, l_1, l_2, l_3, l_4, l_5, l_6, l_7, l_8, l_11, l_12, l_31, l_39, l_40, l_59, l_60, l_100, l_500, l_1000, l_4095, l_9999, m1_e, ix_nI, ile_t, ile_f, ilt_t, ilt_f, ieq_t, ieq_f, nI_add, pk_mul, nI_sub, ile_m1, ilt_m1, ieq_m1, imle_m1, imlt_m1, imeq_m1, imeq_s, ieq_s, ile_s, ilt_s, gI_s, gI_ne1, gI_ne2, gJ_s, gJ_ne1, gJ_ne2, gI_sJ, gJ_sI, ibI0, ibI1, bI_t, bI_f, decide_true, decide_false, and_self, and_true, true_and, and_false, false_and, reduceIte, if_true, if_false, Nat.add_sub_cancel, e_within, e_in, nI_dec]
theorem xt_0 {X : Mem} {m : Nat} (rc : Mem → Int32 → Option Mem) : lq_X3_takeIndex_2 m rc X (nI 0) = some (sI (sI (sI X (62 + 2 * m + 1) 0 (gI X (62 + 2 * m) 4)) (62 + 2 * m) 4 (gI X (62 + 2 * m) 5)) (62 + 2 * m) 5 m1) := by
  simp (disch := omega) only [lq_X3_takeIndex_2, nx_e, ck_t, ck_ok, bd1_s, bd1_n, bd2_s, oc_n, oc_s, l_0, l_1, l_2, l_3, l_4, l_5, l_6, l_7, l_8, l_11, l_12, l_31, l_39, l_40, l_59, l_60, l_100, l_500, l_1000, l_4095, l_9999, m1_e, ix_nI, ile_t, ile_f, ilt_t, ilt_f, ieq_t, ieq_f, nI_add, pk_mul, nI_sub, ile_m1, ilt_m1, ieq_m1, imle_m1, imlt_m1, imeq_m1, imeq_s, ieq_s, ile_s, ilt_s, gI_s, gI_ne1, gI_ne2, gJ_s, gJ_ne1, gJ_ne2, gI_sJ, gJ_sI, ibI0, ibI1, bI_t, bI_f, decide_true, decide_false, and_self, and_true, true_and, and_false, false_and, reduceIte, if_true, if_false, Nat.add_sub_cancel, e_within, e_in]
def xtk (X : Mem) (m : Nat) : Mem := sI (sI (sI (sI (sI X (62 + 2 * m + 1) 2 (gI X (62 + 2 * m + 1) 1)) (62 + 2 * m + 1) 1 (gI X (62 + 2 * m + 1) 0)) (62 + 2 * m + 1) 0 (gI X (62 + 2 * m) 4)) (62 + 2 * m) 4 (gI X (62 + 2 * m) 5)) (62 + 2 * m) 5 m1
theorem ex_takeIndex {X : Mem} {m : Nat} : fn_X3_takeIndex X m = some (xtk X m) := by
  have e1 := xt_s (X := X) (m := m) (k := 1) (it2 (lq_X3_takeIndex_2 m) 999) (by omega)
  have e2 := xt_s (X := sI X (62 + 2 * m + 1) 2 (gI X (62 + 2 * m + 1) 1)) (m := m) (k := 0) (it2 (lq_X3_takeIndex_2 m) 998) (by omega)
  have e3 := xt_0 (X := sI (sI X (62 + 2 * m + 1) 2 (gI X (62 + 2 * m + 1) 1)) (62 + 2 * m + 1) 1 (gI X (62 + 2 * m + 1) 0)) (m := m) (it2 (lq_X3_takeIndex_2 m) 997)
  simp (disch := omega) only [gI_s, gI_ne1, gI_ne2, gJ_s, gJ_ne1, gJ_ne2, gI_sJ, gJ_sI] at e2 e3
  exact e1.trans (e2.trans e3)
theorem yt_s {Y : Mem} {m k : Nat} (rc : Mem → Int32 → Option Mem) (hm : m < 8) (hk : k < 2) : lq_X6_turns_2 (nI m) rc Y (nI (k + 1)) = rc (sI Y 49 (3 * m + (k + 1)) (gI Y 49 (3 * m + k))) (nI k) := by
  have e : 3 * m + (k + 1) - 1 = 3 * m + k := by omega
  simp (disch := omega) only [lq_X6_turns_2, nx_e, ck_t, ck_ok, bd1_s, bd1_n, bd2_s, oc_n, oc_s, l_0, l_1, l_2, l_3, l_4, l_5, l_6, l_7, l_8, l_11, l_12, l_31, l_39, l_40, l_59, l_60, l_100, l_500, l_1000, l_4095, l_9999, m1_e, ix_nI, ile_t, ile_f, ilt_t, ilt_f, ieq_t, ieq_f, nI_add, pk_mul, nI_sub, ile_m1, ilt_m1, ieq_m1, imle_m1, imlt_m1, imeq_m1, imeq_s, ieq_s, ile_s, ilt_s, gI_s, gI_ne1, gI_ne2, gJ_s, gJ_ne1, gJ_ne2, gI_sJ, gJ_sI, ibI0, ibI1, bI_t, bI_f, decide_true, decide_false, and_self, and_true, true_and, and_false, false_and, reduceIte, if_true, if_false, Nat.add_sub_cancel, e_within, e_in, nI_dec, e]
def ytl (Y : Mem) (m c : Nat) : Mem := sI (sI (sI (sI (sI Y 49 (3 * m) (gI Y 43 m)) 50 m (nI c)) 43 m (gI Y 44 m)) 44 m m1) 45 m (nI 0)
theorem yt_0 {Y : Mem} {m c : Nat} (rc : Mem → Int32 → Option Mem) (hm : m < 8) (hc : c ≤ 3) (e50 : gI Y 50 m = nI c) : lq_X6_turns_2 (nI m) rc Y (nI 0) = it2 (lq_X6_turns_104 (nI m)) FU (ytl Y m (min (c + 1) 3)) (nI 0) := by
  unfold ytl
  by_cases q : c = 3
  · subst q
    simp (disch := omega) only [lq_X6_turns_2, bk_X6_turns_75, nx_e, ck_t, ck_ok, bd1_s, bd1_n, bd2_s, oc_n, oc_s, l_0, l_1, l_2, l_3, l_4, l_5, l_6, l_7, l_8, l_11, l_12, l_31, l_39, l_40, l_59, l_60, l_100, l_500, l_1000, l_4095, l_9999, m1_e, ix_nI, ile_t, ile_f, ilt_t, ilt_f, ieq_t, ieq_f, nI_add, pk_mul, nI_sub, ile_m1, ilt_m1, ieq_m1, imle_m1, imlt_m1, imeq_m1, imeq_s, ieq_s, ile_s, ilt_s, gI_s, gI_ne1, gI_ne2, gJ_s, gJ_ne1, gJ_ne2, gI_sJ, gJ_sI, ibI0, ibI1, bI_t, bI_f, decide_true, decide_false, and_self, and_true, true_and, and_false, false_and, reduceIte, if_true, if_false, Nat.add_sub_cancel, e_within, e_in, e50]
    rfl
  · have e : min (c + 1) 3 = c + 1 := by omega
    rw [e]
    simp (disch := omega) only [lq_X6_turns_2, bk_X6_turns_75, nx_e, ck_t, ck_ok, bd1_s, bd1_n, bd2_s, oc_n, oc_s, l_0, l_1, l_2, l_3, l_4, l_5, l_6, l_7, l_8, l_11, l_12, l_31, l_39, l_40, l_59, l_60, l_100, l_500, l_1000, l_4095, l_9999, m1_e, ix_nI, ile_t, ile_f, ilt_t, ilt_f, ieq_t, ieq_f, nI_add, pk_mul, nI_sub, ile_m1, ilt_m1, ieq_m1, imle_m1, imlt_m1, imeq_m1, imeq_s, ieq_s, ile_s, ilt_s, gI_s, gI_ne1, gI_ne2, gJ_s, gJ_ne1, gJ_ne2, gI_sJ, gJ_sI, ibI0, ibI1, bI_t, bI_f, decide_true, decide_false, and_self, and_true, true_and, and_false, false_and, reduceIte, if_true, if_false, Nat.add_sub_cancel, e_within, e_in, e50]
def ytk (Y : Mem) (m c : Nat) : Mem := ytl (sI (sI Y 49 (3 * m + 2) (gI Y 49 (3 * m + 1))) 49 (3 * m + 1) (gI Y 49 (3 * m))) m c
theorem ey_turns {Y : Mem} {m c : Nat} (hm : m < 8) (hc : c ≤ 3) (e50 : gI Y 50 m = nI c) : fn_X6_turns Y (nI m) = it2 (lq_X6_turns_104 (nI m)) FU (ytk Y m (min (c + 1) 3)) (nI 0) := by
  have e1 := yt_s (Y := Y) (m := m) (k := 1) (it2 (lq_X6_turns_2 (nI m)) 999) hm (by omega)
  have e2 := yt_s (Y := sI Y 49 (3 * m + 2) (gI Y 49 (3 * m + 1))) (m := m) (k := 0) (it2 (lq_X6_turns_2 (nI m)) 998) hm (by omega)
  have e3 := yt_0 (Y := sI (sI Y 49 (3 * m + 2) (gI Y 49 (3 * m + 1))) 49 (3 * m + 1) (gI Y 49 (3 * m))) (m := m) (c := c) (it2 (lq_X6_turns_2 (nI m)) 997) hm hc (by simp (disch := omega) only [gI_s, gI_ne1, gI_ne2, gJ_s, gJ_ne1, gJ_ne2, gI_sJ, gJ_sI]; exact e50)
  simp (disch := omega) only [gI_s, gI_ne1, gI_ne2, gJ_s, gJ_ne1, gJ_ne2, gI_sJ, gJ_sI] at e2
  exact e1.trans (e2.trans e3)
theorem turn_rel {X Y : Mem} {nm w nf ns tl gr m t c : Nat} (h : Inw nm w nf ns tl gr (cb X Y)) (hm : m < nm) (ht : t < ns) (et : gI X (62 + 2 * m) 5 = nI t) (h0 : ∀ f, f < 60 → mis X m t f = false) (hc : c ≤ 3) (e50 : gI Y 50 m = nI c) : Inw nm w nf ns tl gr (cb (xtk X m) (ytk Y m (min (c + 1) 3))) ∧ FX X (xtk X m) ∧ FY Y (ytk Y m (min (c + 1) 3)) := by
  obtain ⟨-, -, c1, c2, c3, c4, c5, c6, c7⟩ := cb_facts h
  obtain ⟨⟨m1', m2, m3, ⟨m5, i0, hi0, m5'⟩, m6, m7, m8, m9⟩, ⟨n1', n2'⟩, ⟨c', hc', n50, n3, n3'⟩, n4⟩ := mir h hm
  have ec : c' = c := (nI_eq (by omega) (by omega)).mp (n50.symm.trans e50)
  subst ec
  have ety : gI Y 44 m = nI t := m6.symm.trans et
  have ed : gI Y 45 m = nI 0 := by
    rcases n4 with ⟨q, -⟩ | ⟨t', d, q1, q2, q3, q4, q5⟩
    · rw [ety] at q
      exact absurd q (nI_ne_m1 (by omega))
    · rcases q5 with rfl | ⟨f', s', w1, w2, w3, w4, w5, w6⟩
      · exact q4
      · rw [ety] at q2
        have e0 : t = t' := (nI_eq (by omega) (by omega)).mp q2
        subst e0
        have := h0 f' w1
        unfold mis at this
        rw [w2, w3] at this
        cases this
  unfold xtk ytk ytl
  refine ⟨?_, ?_, ?_⟩
  · refine inw_mirror h hm (fun i j q1 q2 q3 => (by simp (disch := omega) only [gI_s, gI_ne1, gI_ne2, gJ_s, gJ_ne1, gJ_ne2, gI_sJ, gJ_sI])) (fun i j q1 => (by simp (disch := omega) only [gI_s, gI_ne1, gI_ne2, gJ_s, gJ_ne1, gJ_ne2, gI_sJ, gJ_sI])) (fun i j q1 q2 q3 => (by simp (disch := omega) only [gI_s, gI_ne1, gI_ne2, gJ_s, gJ_ne1, gJ_ne2, gI_sJ, gJ_sI])) (fun i j q1 q2 q3 q4 q5 => (by simp (disch := omega) only [gI_s, gI_ne1, gI_ne2, gJ_s, gJ_ne1, gJ_ne2, gI_sJ, gJ_sI])) (fun m' f q1 q2 => (by simp (disch := omega) only [gI_s, gI_ne1, gI_ne2, gJ_s, gJ_ne1, gJ_ne2, gI_sJ, gJ_sI])) (fun m' k q1 q2 => (by simp (disch := omega) only [gI_s, gI_ne1, gI_ne2, gJ_s, gJ_ne1, gJ_ne2, gI_sJ, gJ_sI])) (mir_mk ⟨?_, ?_, ?_, ?_⟩)
    · simp (disch := omega) only [gI_s, gI_ne1, gI_ne2, gJ_s, gJ_ne1, gJ_ne2, gI_sJ, gJ_sI, true_and]
      exact ⟨m1', m2, m3, ⟨m6, t, ht, ety⟩, m7.trans ed, m8, m9⟩
    · simp (disch := omega) only [gI_s, gI_ne1, gI_ne2, gJ_s, gJ_ne1, gJ_ne2, gI_sJ, gJ_sI]
      exact ⟨n1', n2'⟩
    · refine ⟨min (c' + 1) 3, by omega, by simp (disch := omega) only [gI_s, gI_ne1, gI_ne2, gJ_s, gJ_ne1, gJ_ne2, gI_sJ, gJ_sI], fun k hk => ?_, fun k h1 h2 => ?_⟩
      · rcases (show k = 0 ∨ k = 1 ∨ k = 2 by omega) with rfl | rfl | rfl
        · simp (disch := omega) only [gI_s, gI_ne1, gI_ne2, gJ_s, gJ_ne1, gJ_ne2, gI_sJ, gJ_sI, Nat.add_zero]
          exact ⟨m5, i0, hi0, m5'⟩
        · simp (disch := omega) only [gI_s, gI_ne1, gI_ne2, gJ_s, gJ_ne1, gJ_ne2, gI_sJ, gJ_sI]
          exact n3 0 (by omega)
        · simp (disch := omega) only [gI_s, gI_ne1, gI_ne2, gJ_s, gJ_ne1, gJ_ne2, gI_sJ, gJ_sI]
          exact n3 1 (by omega)
      · rcases (show k = 0 ∨ k = 1 ∨ k = 2 by omega) with rfl | rfl | rfl
        · omega
        · simp (disch := omega) only [gI_s, gI_ne1, gI_ne2, gJ_s, gJ_ne1, gJ_ne2, gI_sJ, gJ_sI]
          exact n3' 0 (by omega) (by omega)
        · simp (disch := omega) only [gI_s, gI_ne1, gI_ne2, gJ_s, gJ_ne1, gJ_ne2, gI_sJ, gJ_sI]
          exact n3' 1 (by omega) (by omega)
    · refine Or.inl ⟨?_, ?_⟩ <;> simp (disch := omega) only [gI_s, gI_ne1, gI_ne2, gJ_s, gJ_ne1, gJ_ne2, gI_sJ, gJ_sI]
  · intro i j q1 q2
    simp (disch := omega) only [gI_s, gI_ne1, gI_ne2, gJ_s, gJ_ne1, gJ_ne2, gI_sJ, gJ_sI]
  · refine ⟨fun i j q => ?_, fun i j => ?_⟩ <;> simp (disch := omega) only [gI_s, gI_ne1, gI_ne2, gJ_s, gJ_ne1, gJ_ne2, gI_sJ, gJ_sI]
/-- the k-th earlier index -/
def ahf (Y : Mem) (m k : Nat) : Nat := ix (gI Y 49 (3 * m + k))
theorem ey_inner {Y : Mem} {m f kp c : Nat} {b : Bool} (rc : Mem → Int32 → Option Mem) (hm : m < 8) (hf : f < 60) (hk : kp ≤ 3) (hc : c ≤ 3) (e42 : gI Y 42 m = nI kp) (e50 : gI Y 50 m = nI c) (hah : ∀ k, k < c → ahf Y m k < 60 ∧ gI Y 49 (3 * m + k) = nI (ahf Y m k)) : it2 (lq_X6_turns_127 rc Y (nI m) (nI f)) FU (bI b) (nI 0) = bk_X6_turns_184 rc Y (nI m) (nI f) (bI (b || anyB (fun k => nmd Y (ahf Y m k) f) (min kp c))) := by
  have L := it2_v (f := lq_X6_turns_127 rc Y (nI m) (nI f)) (fun a c' => ∃ i, i ≤ min kp c ∧ c' = nI i ∧ a = bI (b || anyB (fun k => nmd Y (ahf Y m k) f) i)) (fun _ c' => min kp c - ix c') (fun _ _ => bk_X6_turns_184 rc Y (nI m) (nI f) (bI (b || anyB (fun k => nmd Y (ahf Y m k) f) (min kp c)))) (by
    rintro a c' ⟨i, hi, rfl, rfl⟩ rc2 hrc
    by_cases e : i = min kp c
    · rw [← e]
      by_cases e2 : kp ≤ i
      · simp (disch := omega) only [lq_X6_turns_127, nx_e, ck_t, ck_ok, bd1_s, bd1_n, bd2_s, oc_n, oc_s, l_0, l_1, l_2, l_3, l_4, l_5, l_6, l_7, l_8, l_11, l_12, l_31, l_39, l_40, l_59, l_60, l_100, l_500, l_1000, l_4095, l_9999, m1_e, ix_nI, ile_t, ile_f, ilt_t, ilt_f, ieq_t, ieq_f, nI_add, pk_mul, nI_sub, ile_m1, ilt_m1, ieq_m1, imle_m1, imlt_m1, imeq_m1, imeq_s, ieq_s, ile_s, ilt_s, gI_s, gI_ne1, gI_ne2, gJ_s, gJ_ne1, gJ_ne2, gI_sJ, gJ_sI, ibI0, ibI1, bI_t, bI_f, decide_true, decide_false, and_self, and_true, true_and, and_false, false_and, reduceIte, if_true, if_false, Nat.add_sub_cancel, e_within, e_in, e42]
      · simp (disch := omega) only [lq_X6_turns_127, nx_e, ck_t, ck_ok, bd1_s, bd1_n, bd2_s, oc_n, oc_s, l_0, l_1, l_2, l_3, l_4, l_5, l_6, l_7, l_8, l_11, l_12, l_31, l_39, l_40, l_59, l_60, l_100, l_500, l_1000, l_4095, l_9999, m1_e, ix_nI, ile_t, ile_f, ilt_t, ilt_f, ieq_t, ieq_f, nI_add, pk_mul, nI_sub, ile_m1, ilt_m1, ieq_m1, imle_m1, imlt_m1, imeq_m1, imeq_s, ieq_s, ile_s, ilt_s, gI_s, gI_ne1, gI_ne2, gJ_s, gJ_ne1, gJ_ne2, gI_sJ, gJ_sI, ibI0, ibI1, bI_t, bI_f, decide_true, decide_false, and_self, and_true, true_and, and_false, false_and, reduceIte, if_true, if_false, Nat.add_sub_cancel, e_within, e_in, e42, e50]
    · obtain ⟨g1, g2⟩ := hah i (by omega)
      have hs : lq_X6_turns_127 rc Y (nI m) (nI f) rc2 (bI (b || anyB (fun k => nmd Y (ahf Y m k) f) i)) (nI i) = rc2 (bI (b || anyB (fun k => nmd Y (ahf Y m k) f) (i + 1))) (nI (i + 1)) := by
        rw [anyB, ← Bool.or_assoc]
        cases (b || anyB (fun k => nmd Y (ahf Y m k) f) i) with
        | true =>
          simp (disch := omega) only [lq_X6_turns_127, bk_X6_turns_177, bk_X6_turns_172, nx_e, ck_t, ck_ok, bd1_s, bd1_n, bd2_s, oc_n, oc_s, l_0, l_1, l_2, l_3, l_4, l_5, l_6, l_7, l_8, l_11, l_12, l_31, l_39, l_40, l_59, l_60, l_100, l_500, l_1000, l_4095, l_9999, m1_e, ix_nI, ile_t, ile_f, ilt_t, ilt_f, ieq_t, ieq_f, nI_add, pk_mul, nI_sub, ile_m1, ilt_m1, ieq_m1, imle_m1, imlt_m1, imeq_m1, imeq_s, ieq_s, ile_s, ilt_s, gI_s, gI_ne1, gI_ne2, gJ_s, gJ_ne1, gJ_ne2, gI_sJ, gJ_sI, ibI0, ibI1, bI_t, bI_f, decide_true, decide_false, and_self, and_true, true_and, and_false, false_and, reduceIte, if_true, if_false, Nat.add_sub_cancel, e_within, e_in, e42, e50, Bool.true_or]
        | false =>
          cases q : nmd Y (ahf Y m i) f with
          | true => simp (disch := omega) only [lq_X6_turns_127, bk_X6_turns_177, bk_X6_turns_172, nx_e, ck_t, ck_ok, bd1_s, bd1_n, bd2_s, oc_n, oc_s, l_0, l_1, l_2, l_3, l_4, l_5, l_6, l_7, l_8, l_11, l_12, l_31, l_39, l_40, l_59, l_60, l_100, l_500, l_1000, l_4095, l_9999, m1_e, ix_nI, ile_t, ile_f, ilt_t, ilt_f, ieq_t, ieq_f, nI_add, pk_mul, nI_sub, ile_m1, ilt_m1, ieq_m1, imle_m1, imlt_m1, imeq_m1, imeq_s, ieq_s, ile_s, ilt_s, gI_s, gI_ne1, gI_ne2, gJ_s, gJ_ne1, gJ_ne2, gI_sJ, gJ_sI, ibI0, ibI1, bI_t, bI_f, decide_true, decide_false, and_self, and_true, true_and, and_false, false_and, reduceIte, if_true, if_false, Nat.add_sub_cancel, e_within, e_in, e42, e50, g2, e_isNamed, q, Bool.false_or]
          | false => simp (disch := omega) only [lq_X6_turns_127, bk_X6_turns_177, bk_X6_turns_172, nx_e, ck_t, ck_ok, bd1_s, bd1_n, bd2_s, oc_n, oc_s, l_0, l_1, l_2, l_3, l_4, l_5, l_6, l_7, l_8, l_11, l_12, l_31, l_39, l_40, l_59, l_60, l_100, l_500, l_1000, l_4095, l_9999, m1_e, ix_nI, ile_t, ile_f, ilt_t, ilt_f, ieq_t, ieq_f, nI_add, pk_mul, nI_sub, ile_m1, ilt_m1, ieq_m1, imle_m1, imlt_m1, imeq_m1, imeq_s, ieq_s, ile_s, ilt_s, gI_s, gI_ne1, gI_ne2, gJ_s, gJ_ne1, gJ_ne2, gI_sJ, gJ_sI, ibI0, ibI1, bI_t, bI_f, decide_true, decide_false, and_self, and_true, true_and, and_false, false_and, reduceIte, if_true, if_false, Nat.add_sub_cancel, e_within, e_in, e42, e50, g2, e_isNamed, q, Bool.false_or]
      rw [hs]
      exact hrc _ _ ⟨i + 1, by omega, rfl, rfl⟩ (by rw [ix_nI (by omega), ix_nI (by omega)]; omega))
  exact L FU _ (nI 0) ⟨0, by omega, rfl, by rw [anyB, Bool.or_false]⟩ (by rw [ix_nI (by omega)]; show min kp c - 0 < 1000; omega)
theorem zbb (b : Bool) : zb (bI b) = bI b := by cases b <;> decide
theorem ey_184 {Y : Mem} {m f : Nat} {o b : Bool} (rc : Mem → Int32 → Option Mem) (hm : m < 8) (hf : f < 60) (e : gI Y 48 (60 * m + f) = bI o) : bk_X6_turns_184 rc Y (nI m) (nI f) (bI b) = rc (sI Y 48 (60 * m + f) (bI (o && b))) (nI (f + 1)) := by
  have z0 : zb (nI 0) = nI 0 := zbb false
  cases o <;> cases b <;> simp (disch := omega) only [bk_X6_turns_184, bk_X6_turns_216, bk_X6_turns_217, nx_e, ck_t, ck_ok, bd1_s, bd1_n, bd2_s, oc_n, oc_s, l_0, l_1, l_2, l_3, l_4, l_5, l_6, l_7, l_8, l_11, l_12, l_31, l_39, l_40, l_59, l_60, l_100, l_500, l_1000, l_4095, l_9999, m1_e, ix_nI, ile_t, ile_f, ilt_t, ilt_f, ieq_t, ieq_f, nI_add, pk_mul, nI_sub, ile_m1, ilt_m1, ieq_m1, imle_m1, imlt_m1, imeq_m1, imeq_s, ieq_s, ile_s, ilt_s, gI_s, gI_ne1, gI_ne2, gJ_s, gJ_ne1, gJ_ne2, gI_sJ, gJ_sI, ibI0, ibI1, bI_t, bI_f, decide_true, decide_false, and_self, and_true, true_and, and_false, false_and, reduceIte, if_true, if_false, Nat.add_sub_cancel, e_within, e_in, e, zb1, z0, Bool.and_true, Bool.and_false, Bool.false_and, Bool.true_and, Bool.and_self, Bool.false_eq_true]
/-- does mirror m of Y want file f -/
def wtd (Y : Mem) (m t kp c f : Nat) : Bool := nmd Y t f || anyB (fun k => nmd Y (ahf Y m k) f) (min kp c)
theorem nmd_fr {Y Y' : Mem} (h : ∀ j, gI Y' 39 j = gI Y 39 j) (s f : Nat) : nmd Y' s f = nmd Y s f := by
  unfold nmd
  exact anyB_cong (fun k hk => by rw [h])
theorem ey_drop {Y : Mem} {m t kp c nf : Nat} {o : Nat → Bool} (hm : m < 8) (b3 : gI Y 35 1 = nI nf) (hnf : nf ≤ 60) (hk : kp ≤ 3) (hc : c ≤ 3) (ht : t < 60) (e43 : gI Y 43 m = nI t) (e42 : gI Y 42 m = nI kp) (e50 : gI Y 50 m = nI c) (hah : ∀ k, k < c → ahf Y m k < 60 ∧ gI Y 49 (3 * m + k) = nI (ahf Y m k)) (ho : ∀ f, f < 60 → gI Y 48 (60 * m + f) = bI (o f)) :
    ∃ Y', it2 (lq_X6_turns_104 (nI m)) FU Y (nI 0) = some Y' ∧ (∀ i j, i ≠ 48 → gI Y' i j = gI Y i j) ∧ (∀ i j, gJ Y' i j = gJ Y i j) ∧ (∀ m' f, m' ≠ m → f < 60 → gI Y' 48 (60 * m' + f) = gI Y 48 (60 * m' + f)) ∧ ∀ f, f < 60 → gI Y' 48 (60 * m + f) = bI (o f && (decide (nf ≤ f) || wtd Y m t kp c f)) := by
  have L := it2_h (f := lq_X6_turns_104 (nI m)) (fun Z c' => ∃ i, i ≤ nf ∧ c' = nI i ∧ (∀ i j, i ≠ 48 → gI Z i j = gI Y i j) ∧ (∀ i j, gJ Z i j = gJ Y i j) ∧ (∀ m' f, m' ≠ m → f < 60 → gI Z 48 (60 * m' + f) = gI Y 48 (60 * m' + f)) ∧ ∀ f, f < 60 → gI Z 48 (60 * m + f) = bI (o f && (decide (i ≤ f) || wtd Y m t kp c f))) (fun _ c' => nf - ix c')
    (fun _ _ Y' => (∀ i j, i ≠ 48 → gI Y' i j = gI Y i j) ∧ (∀ i j, gJ Y' i j = gJ Y i j) ∧ (∀ m' f, m' ≠ m → f < 60 → gI Y' 48 (60 * m' + f) = gI Y 48 (60 * m' + f)) ∧ ∀ f, f < 60 → gI Y' 48 (60 * m + f) = bI (o f && (decide (nf ≤ f) || wtd Y m t kp c f))) (by
    rintro Z c' ⟨i, hi, rfl, h1, h2, h3, h4⟩ rc hrc
    have z3 : gI Z 35 1 = nI nf := by rw [h1 _ _ (by omega)]; exact b3
    by_cases e : i = nf
    · subst e
      refine ⟨Z, ?_, h1, h2, h3, h4⟩
      simp (disch := omega) only [lq_X6_turns_104, nx_e, ck_t, ck_ok, bd1_s, bd1_n, bd2_s, oc_n, oc_s, l_0, l_1, l_2, l_3, l_4, l_5, l_6, l_7, l_8, l_11, l_12, l_31, l_39, l_40, l_59, l_60, l_100, l_500, l_1000, l_4095, l_9999, m1_e, ix_nI, ile_t, ile_f, ilt_t, ilt_f, ieq_t, ieq_f, nI_add, pk_mul, nI_sub, ile_m1, ilt_m1, ieq_m1, imle_m1, imlt_m1, imeq_m1, imeq_s, ieq_s, ile_s, ilt_s, gI_s, gI_ne1, gI_ne2, gJ_s, gJ_ne1, gJ_ne2, gI_sJ, gJ_sI, ibI0, ibI1, bI_t, bI_f, decide_true, decide_false, and_self, and_true, true_and, and_false, false_and, reduceIte, if_true, if_false, Nat.add_sub_cancel, e_within, e_in, z3]
    · have z43 : gI Z 43 m = nI t := by rw [h1 _ _ (by omega)]; exact e43
      have z42 : gI Z 42 m = nI kp := by rw [h1 _ _ (by omega)]; exact e42
      have z50 : gI Z 50 m = nI c := by rw [h1 _ _ (by omega)]; exact e50
      have za : ∀ k, ahf Z m k = ahf Y m k := fun k => by unfold ahf; rw [h1 _ _ (by omega)]
      have zah : ∀ k, k < c → ahf Z m k < 60 ∧ gI Z 49 (3 * m + k) = nI (ahf Z m k) := fun k hk => by rw [za, h1 _ _ (by omega)]; exact hah k hk
      have zo : gI Z 48 (60 * m + i) = bI (o i) := by rw [h4 i (by omega), decide_eq_true (Nat.le_refl i), Bool.true_or, Bool.and_true]
      have zn : ∀ s f, nmd Z s f = nmd Y s f := nmd_fr (fun j => h1 _ _ (by omega))
      have hs : lq_X6_turns_104 (nI m) rc Z (nI i) = rc (sI Z 48 (60 * m + i) (bI (o i && wtd Y m t kp c i))) (nI (i + 1)) := by
        simp (disch := omega) only [lq_X6_turns_104, nx_e, ck_t, ck_ok, bd1_s, bd1_n, bd2_s, oc_n, oc_s, l_0, l_1, l_2, l_3, l_4, l_5, l_6, l_7, l_8, l_11, l_12, l_31, l_39, l_40, l_59, l_60, l_100, l_500, l_1000, l_4095, l_9999, m1_e, ix_nI, ile_t, ile_f, ilt_t, ilt_f, ieq_t, ieq_f, nI_add, pk_mul, nI_sub, ile_m1, ilt_m1, ieq_m1, imle_m1, imlt_m1, imeq_m1, imeq_s, ieq_s, ile_s, ilt_s, gI_s, gI_ne1, gI_ne2, gJ_s, gJ_ne1, gJ_ne2, gI_sJ, gJ_sI, ibI0, ibI1, bI_t, bI_f, decide_true, decide_false, and_self, and_true, true_and, and_false, false_and, reduceIte, if_true, if_false, Nat.add_sub_cancel, e_within, e_in, z3, z43, e_isNamed]
        have e0 := ey_inner (b := nmd Z t i) rc hm (show i < 60 by omega) hk hc z42 z50 zah
        have e1 : it2 (lq_X6_turns_127 rc Z (nI m) (nI i)) FU (bI (nmd Z t i)) (nI 0) = rc (sI Z 48 (60 * m + i) (bI (o i && wtd Y m t kp c i))) (nI (i + 1)) := by
          rw [e0, ey_184 rc hm (by omega) zo]
          unfold wtd
          simp only [zn, za]
        exact e1
      rw [hs]
      refine hrc _ _ ⟨i + 1, by omega, rfl, fun i' j hi' => ?_, fun i' j => ?_, fun m' f q1 q2 => ?_, fun f hf => ?_⟩ (by rw [ix_nI (by omega), ix_nI (by omega)]; omega)
      · rw [gI_ne1 hi', h1 _ _ hi']
      · rw [gJ_sI, h2]
      · rw [gI_ne2 (by omega), h3 m' f q1 q2]
      · by_cases e2 : f = i
        · subst e2
          rw [gI_s, decide_eq_false (by omega), Bool.false_or]
        · rw [gI_ne2 (by omega), h4 f hf]
          congr 3
          exact decide_eq_decide.mpr (by omega))
  exact L FU Y (nI 0) ⟨0, by omega, rfl, fun _ _ _ => rfl, fun _ _ => rfl, fun _ _ _ _ => rfl, fun f hf => by rw [decide_eq_true (Nat.zero_le f), Bool.true_or, Bool.and_true]; exact ho f hf⟩ (by rw [ix_nI (by omega)]; show nf - 0 < 1000; omega)
theorem ex_drop {X : Mem} {ah : Nat → Nat} {m t kp c ns : Nat} (a4 : gI X 1 6 = nI ns) (hns : ns ≤ 60) (hk : kp ≤ 3) (ht : t < ns) (e4 : gI X (62 + 2 * m) 4 = nI t) (e1 : gI X (62 + 2 * m) 1 = nI kp) (hah : ∀ k, k < c → ah k < ns ∧ gI X (62 + 2 * m + 1) k = nI (ah k)) (hah2 : ∀ k, c ≤ k → k < 3 → gI X (62 + 2 * m + 1) k = m1) :
    ∃ y, fn_X3_dropOld X m = some (sJ X (62 + 2 * m) 6 (gJ X (62 + 2 * m) 6 &&& y)) ∧ ∀ f, hb y f = (hb (gJ X 5 t) f || anyB (fun k => decide (k < c) && hb (gJ X 5 (ah k)) f) kp) := by
  have L := it2_h (f := lq_X3_dropOld_12 X m) (fun y c' => ∃ i, i ≤ kp ∧ c' = nI i ∧ ∀ f, hb y f = (hb (gJ X 5 t) f || anyB (fun k => decide (k < c) && hb (gJ X 5 (ah k)) f) i)) (fun _ c' => kp - ix c') (fun _ _ r => ∃ y, r = sJ X (62 + 2 * m) 6 (gJ X (62 + 2 * m) 6 &&& y) ∧ ∀ f, hb y f = (hb (gJ X 5 t) f || anyB (fun k => decide (k < c) && hb (gJ X 5 (ah k)) f) kp)) (by
    rintro y c' ⟨i, hi, rfl, hy⟩ rc hrc
    by_cases e : i = kp
    · subst e
      refine ⟨_, ?_, y, rfl, hy⟩
      simp (disch := omega) only [lq_X3_dropOld_12, bk_X3_dropOld_47, nx_e, ck_t, ck_ok, bd1_s, bd1_n, bd2_s, oc_n, oc_s, l_0, l_1, l_2, l_3, l_4, l_5, l_6, l_7, l_8, l_11, l_12, l_31, l_39, l_40, l_59, l_60, l_100, l_500, l_1000, l_4095, l_9999, m1_e, ix_nI, ile_t, ile_f, ilt_t, ilt_f, ieq_t, ieq_f, nI_add, pk_mul, nI_sub, ile_m1, ilt_m1, ieq_m1, imle_m1, imlt_m1, imeq_m1, imeq_s, ieq_s, ile_s, ilt_s, gI_s, gI_ne1, gI_ne2, gJ_s, gJ_ne1, gJ_ne2, gI_sJ, gJ_sI, ibI0, ibI1, bI_t, bI_f, decide_true, decide_false, and_self, and_true, true_and, and_false, false_and, reduceIte, if_true, if_false, Nat.add_sub_cancel, e_within, e_in, e1]
    · by_cases q : i < c
      · obtain ⟨g1, g2⟩ := hah i q
        have hs : lq_X3_dropOld_12 X m rc y (nI i) = rc (y ||| gJ X 5 (ah i)) (nI (i + 1)) := by
          simp (disch := omega) only [lq_X3_dropOld_12, nx_e, ck_t, ck_ok, bd1_s, bd1_n, bd2_s, oc_n, oc_s, l_0, l_1, l_2, l_3, l_4, l_5, l_6, l_7, l_8, l_11, l_12, l_31, l_39, l_40, l_59, l_60, l_100, l_500, l_1000, l_4095, l_9999, m1_e, ix_nI, ile_t, ile_f, ilt_t, ilt_f, ieq_t, ieq_f, nI_add, pk_mul, nI_sub, ile_m1, ilt_m1, ieq_m1, imle_m1, imlt_m1, imeq_m1, imeq_s, ieq_s, ile_s, ilt_s, gI_s, gI_ne1, gI_ne2, gJ_s, gJ_ne1, gJ_ne2, gI_sJ, gJ_sI, ibI0, ibI1, bI_t, bI_f, decide_true, decide_false, and_self, and_true, true_and, and_false, false_and, reduceIte, if_true, if_false, Nat.add_sub_cancel, e_within, e_in, e1, g2, ex_filesOf a4 hns g1]
        rw [hs]
        refine hrc _ _ ⟨i + 1, by omega, rfl, fun f => ?_⟩ (by rw [ix_nI (by omega), ix_nI (by omega)]; omega)
        rw [hb_or, hy, anyB, decide_eq_true q, Bool.true_and, Bool.or_assoc]
      · have hs : lq_X3_dropOld_12 X m rc y (nI i) = rc (y ||| 0) (nI (i + 1)) := by
          simp (disch := omega) only [lq_X3_dropOld_12, nx_e, ck_t, ck_ok, bd1_s, bd1_n, bd2_s, oc_n, oc_s, l_0, l_1, l_2, l_3, l_4, l_5, l_6, l_7, l_8, l_11, l_12, l_31, l_39, l_40, l_59, l_60, l_100, l_500, l_1000, l_4095, l_9999, m1_e, ix_nI, ile_t, ile_f, ilt_t, ilt_f, ieq_t, ieq_f, nI_add, pk_mul, nI_sub, ile_m1, ilt_m1, ieq_m1, imle_m1, imlt_m1, imeq_m1, imeq_s, ieq_s, ile_s, ilt_s, gI_s, gI_ne1, gI_ne2, gJ_s, gJ_ne1, gJ_ne2, gI_sJ, gJ_sI, ibI0, ibI1, bI_t, bI_f, decide_true, decide_false, and_self, and_true, true_and, and_false, false_and, reduceIte, if_true, if_false, Nat.add_sub_cancel, e_within, e_in, e1, hah2 i (by omega) (by omega), ex_filesOfm]
        rw [hs]
        refine hrc _ _ ⟨i + 1, by omega, rfl, fun f => ?_⟩ (by rw [ix_nI (by omega), ix_nI (by omega)]; omega)
        rw [hb_or, hy, anyB, decide_eq_false q, Bool.false_and, Bool.or_false, hb_0, Bool.or_false])
  obtain ⟨r, h1, y, h2, h3⟩ := L FU (gJ X 5 t) (nI 0) ⟨0, by omega, rfl, fun f => by rw [anyB, Bool.or_false]⟩ (by rw [ix_nI (by omega)]; show kp - 0 < 1000; omega)
  refine ⟨y, ?_, h3⟩
  unfold fn_X3_dropOld
  rw [e4, ex_filesOf a4 hns ht, bd1_s]
  rw [h2] at h1
  exact h1
theorem drop_rel {X Y : Mem} {nm w nf ns tl gr m : Nat} (h : Inw nm w nf ns tl gr (cb X Y)) (hm : m < nm) (e44 : gI Y 44 m = m1) : ∃ X' Y', fn_X3_dropOld X m = some X' ∧ it2 (lq_X6_turns_104 (nI m)) FU Y (nI 0) = some Y' ∧ Inw nm w nf ns tl gr (cb X' Y') ∧ FX X X' ∧ FY Y Y' := by
  obtain ⟨⟨a1, a2, a3, a4, a5, a6⟩, ⟨b1, b2, b3, b4, b5, b6⟩, c1, c2, c3, c4, c5, c6, c7⟩ := cb_facts h
  obtain ⟨⟨m1', ⟨m2, kp, hkp, m2'⟩, m3, ⟨m5, t, ht, m5'⟩, m6, m7, m8, m9⟩, ⟨n1', n2'⟩, ⟨c, hc, n50, n3, n3'⟩, n4⟩ := mir h hm
  have hah : ∀ k, k < c → ahf Y m k < ns ∧ gI Y 49 (3 * m + k) = nI (ahf Y m k) := by
    intro k hk
    obtain ⟨-, i, hi, e⟩ := n3 k hk
    unfold ahf
    rw [e, ix_nI (by omega)]
    exact ⟨hi, rfl⟩
  obtain ⟨y, x1, x2⟩ := ex_drop (X := X) (ah := ahf Y m) (m := m) (c := c) a4 c5 hkp ht (m5.trans m5') (m2.trans m2') (fun k hk => ⟨(hah k hk).1, (n3 k hk).1.trans (hah k hk).2⟩) n3'
  obtain ⟨Y', y1, y2, y3, y4, y5⟩ := ey_drop (Y := Y) (o := hb (gJ X (62 + 2 * m) 6)) (by omega) b3 c3 hkp hc (show t < 60 by omega) m5' m2' n50 (fun k hk => ⟨by have := (hah k hk).1; omega, (hah k hk).2⟩) n1'
  refine ⟨_, Y', x1, y1, ?_, ?_, ?_⟩
  · refine inw_mirror h hm (fun i j q1 q2 q3 => (by simp (disch := omega) only [gI_s, gI_ne1, gI_ne2, gJ_s, gJ_ne1, gJ_ne2, gI_sJ, gJ_sI])) (fun i j q1 => (by simp (disch := omega) only [gI_s, gI_ne1, gI_ne2, gJ_s, gJ_ne1, gJ_ne2, gI_sJ, gJ_sI])) (fun i j q1 q2 q3 => y2 i j (by omega)) (fun i j q1 q2 q3 q4 q5 => y2 i j q3) y4 (fun m' k q1 q2 => y2 _ _ (by omega)) (mir_mk ⟨?_, ⟨fun f hf => ?_, fun f hf => ?_⟩, ?_, ?_⟩)
    · simp (disch := omega) only [gI_s, gI_ne1, gI_ne2, gJ_s, gJ_ne1, gJ_ne2, gI_sJ, gJ_sI, y2]
      exact ⟨m1', ⟨m2, kp, hkp, m2'⟩, m3, ⟨m5, t, ht, m5'⟩, m6, m7, m8, m9⟩
    · rw [y5 f hf, gJ_s, hb_and, x2]
      congr 1
      by_cases q : nf ≤ f
      · rw [n2' f q, Bool.false_and, Bool.false_and]
      · rw [decide_eq_false q, Bool.false_or]
        congr 1
        unfold wtd
        have e3 : ∀ s, s < ns → hb (gJ X 5 s) f = nmd Y s f := by
          intro s hs
          have e2 : hb (gJ X 5 s) f = nmd (cb X Y) s f := hb_nmd h.2.1.2.2.2.2 hs (by omega)
          rw [e2]
          unfold nmd
          exact anyB_cong (fun k hk => by rw [cb_y (by omega) (by omega)])
        rw [e3 t ht]
        congr 1
        refine anyB_eq ⟨?_, ?_⟩
        · rintro ⟨k, hk, q2⟩
          refine ⟨k, by omega, ?_⟩
          rw [decide_eq_true (show k < c by omega), Bool.true_and, e3 _ (hah k (by omega)).1]
          exact q2
        · rintro ⟨k, hk, q2⟩
          rw [Bool.and_eq_true, decide_eq_true_eq] at q2
          refine ⟨k, by omega, ?_⟩
          rw [← e3 _ (hah k q2.1).1]
          exact q2.2
    · rw [gJ_s, hb_and, n2' f hf, Bool.false_and]
    · simp (disch := omega) only [gI_s, gI_ne1, gI_ne2, gJ_s, gJ_ne1, gJ_ne2, gI_sJ, gJ_sI, y2]
      exact ⟨c, hc, n50, n3, n3'⟩
    · refine Or.inl ⟨?_, ?_⟩
      · rw [y2 _ _ (by omega)]; exact e44
      · rw [y2 _ _ (by omega)]
        rcases n4 with ⟨-, q⟩ | ⟨t', d, q1, q2, -⟩
        · exact q
        · rw [e44] at q2
          exact absurd q2.symm (nI_ne_m1 (by omega))
  · intro i j q1 q2
    simp (disch := omega) only [gI_s, gI_ne1, gI_ne2, gJ_s, gJ_ne1, gJ_ne2, gI_sJ, gJ_sI]
  · exact ⟨fun i j q => y2 i j (by omega), y3⟩
