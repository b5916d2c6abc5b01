theorem op_file {nm : Nat} {M : Mem} (h : Inv nm M) (x : Int32) : ∃ r M1 M2, fn_X5_file M x = some (r, M1) ∧ fn_X6_file M1 x = some (r, M2) ∧ Inv nm M2 := by
  obtain ⟨w, nf, ns, tl, gr, hA, hS, hF, hM, hK, hL⟩ := h
  obtain ⟨⟨a1, a2, a3, a4, a5, a6⟩, ⟨b1, b2, b3, b4, b5, b6⟩, c1, c2, c3, c4, c5, c6, c7⟩ := id hA
  by_cases hx : nI 1 ≤ x ∧ x ≤ nI 500
  · by_cases hf : nf < 60
    · obtain ⟨s, s1, s2, rfl⟩ := rng (by omega) hx (by omega)
      have p1 : fn_X5_file M (nI s) = some (nI nf, sI (sI M 2 nf (nI s)) 1 5 (nI (nf + 1))) := by
        simp (disch := omega) only [fn_X5_file, fn_X4_addFile, nx_e, ck_t, ck_ok, bd1_s, bd1_n, bd2_s, oc_n, oc_s, l_0, l_1, l_2, l_3, l_4, l_5, l_6, l_7, l_8, l_11, l_12, l_31, l_39, l_40, l_59, l_60, l_100, l_500, l_1000, l_4095, l_9999, m1_e, ix_nI, ile_t, ile_f, ilt_t, ilt_f, ieq_t, ieq_f, nI_add, pk_mul, nI_sub, ile_m1, ilt_m1, ieq_m1, imle_m1, imlt_m1, imeq_m1, imeq_s, ieq_s, ile_s, ilt_s, gI_s, gI_ne1, gI_ne2, gJ_s, gJ_ne1, gJ_ne2, gI_sJ, gJ_sI, ibI0, ibI1, bI_t, bI_f, decide_true, decide_false, and_self, and_true, true_and, and_false, false_and, reduceIte, if_true, if_false, Nat.add_sub_cancel, e_within, e_in, hx, a3]
      have p2 : fn_X6_file (sI (sI M 2 nf (nI s)) 1 5 (nI (nf + 1))) (nI s) = some (nI nf, sI (sI (sI (sI (sI M 2 nf (nI s)) 1 5 (nI (nf + 1))) 36 nf (nI s)) 37 nf m1) 35 1 (nI (nf + 1))) := by
        simp (disch := omega) only [fn_X6_file, nx_e, ck_t, ck_ok, bd1_s, bd1_n, bd2_s, oc_n, oc_s, l_0, l_1, l_2, l_3, l_4, l_5, l_6, l_7, l_8, l_11, l_12, l_31, l_39, l_40, l_59, l_60, l_100, l_500, l_1000, l_4095, l_9999, m1_e, ix_nI, ile_t, ile_f, ilt_t, ilt_f, ieq_t, ieq_f, nI_add, pk_mul, nI_sub, ile_m1, ilt_m1, ieq_m1, imle_m1, imlt_m1, imeq_m1, imeq_s, ieq_s, ile_s, ilt_s, gI_s, gI_ne1, gI_ne2, gJ_s, gJ_ne1, gJ_ne2, gI_sJ, gJ_sI, ibI0, ibI1, bI_t, bI_f, decide_true, decide_false, and_self, and_true, true_and, and_false, false_and, reduceIte, if_true, if_false, Nat.add_sub_cancel, e_within, e_in, hx, b3]
      refine ⟨_, _, _, p1, p2, w, nf + 1, ns, tl, gr, ?_, ?_, ?_, ?_, ?_, ?_⟩
      · unfold iA
        simp (disch := omega) only [gI_s, gI_ne1, gI_ne2, gJ_s, gJ_ne1, gJ_ne2, gI_sJ, gJ_sI, true_and, and_true, and_self, a1, a2, a4, a5, a6, b1, b2, b4, b5, b6]
        omega
      · obtain ⟨h1, h2, h3, h4, h5⟩ := hS
        refine ⟨fun f hf2 => ?_, ⟨fun f hf2 => ?_, fun f hf2 => ?_⟩, fun q hq => ?_, fun q p hq hp => ?_, fun q f hq hf2 => ?_⟩
        · by_cases e : f = nf
          · subst e
            simp (disch := omega) only [gI_s, gI_ne1, gI_ne2, gJ_s, gJ_ne1, gJ_ne2, gI_sJ, gJ_sI, true_and]
            exact ⟨s, s1, s2, rfl⟩
          · simp (disch := omega) only [gI_s, gI_ne1, gI_ne2, gJ_s, gJ_ne1, gJ_ne2, gI_sJ, gJ_sI]
            exact h1 f (by omega)
        · by_cases e : f = nf
          · subst e
            simp (disch := omega) only [gI_s, gI_ne1, gI_ne2, gJ_s, gJ_ne1, gJ_ne2, gI_sJ, gJ_sI]
            exact Or.inr ⟨h2.2 _ (by omega), trivial⟩
          · simp (disch := omega) only [gI_s, gI_ne1, gI_ne2, gJ_s, gJ_ne1, gJ_ne2, gI_sJ, gJ_sI]
            exact h2.1 f (by omega)
        · simp (disch := omega) only [gI_s, gI_ne1, gI_ne2, gJ_s, gJ_ne1, gJ_ne2, gI_sJ, gJ_sI]
          exact h2.2 f (by omega)
        · simp (disch := omega) only [gI_s, gI_ne1, gI_ne2, gJ_s, gJ_ne1, gJ_ne2, gI_sJ, gJ_sI]
          exact h3 q hq
        · simp (disch := omega) only [gI_s, gI_ne1, gI_ne2, gJ_s, gJ_ne1, gJ_ne2, gI_sJ, gJ_sI]
          obtain ⟨z1, z2⟩ := h4 q p hq hp
          refine ⟨z1, ?_⟩
          rcases z2 with z | ⟨f, z, z3⟩
          · exact Or.inl z
          · exact Or.inr ⟨f, by omega, z3⟩
        · simp (disch := omega) only [gI_s, gI_ne1, gI_ne2, gJ_s, gJ_ne1, gJ_ne2, gI_sJ, gJ_sI]
          exact h5 q f hq hf2
      · exact iF_fr (fun i j hi => by simp (disch := omega) only [gI_s, gI_ne1, gI_ne2, gJ_s, gJ_ne1, gJ_ne2, gI_sJ, gJ_sI]) hF
      · have hn := iS_named c3 hS
        refine ⟨fun m hm => ?_, fun m h1 h2 => ?_⟩
        · have q : iM1 nf ns m _ := iM1_fr (M' := sI (sI (sI (sI (sI M 2 nf (nI s)) 1 5 (nI (nf + 1))) 36 nf (nI s)) 37 nf m1) 35 1 (nI (nf + 1))) (fun s f _ _ => by simp (disch := omega) only [gI_s, gI_ne1, gI_ne2, gJ_s, gJ_ne1, gJ_ne2, gI_sJ, gJ_sI]) (fun f hf2 => by simp (disch := omega) only [gI_s, gI_ne1, gI_ne2, gJ_s, gJ_ne1, gJ_ne2, gI_sJ, gJ_sI]) hn (fun j => by simp (disch := omega) only [gI_s, gI_ne1, gI_ne2, gJ_s, gJ_ne1, gJ_ne2, gI_sJ, gJ_sI]) (fun j => by simp (disch := omega) only [gI_s, gI_ne1, gI_ne2, gJ_s, gJ_ne1, gJ_ne2, gI_sJ, gJ_sI]) (fun j => by simp (disch := omega) only [gI_s, gI_ne1, gI_ne2, gJ_s, gJ_ne1, gJ_ne2, gI_sJ, gJ_sI]) (fun i _ _ => by simp (disch := omega) only [gI_s, gI_ne1, gI_ne2, gJ_s, gJ_ne1, gJ_ne2, gI_sJ, gJ_sI]) (fun f _ => by simp (disch := omega) only [gI_s, gI_ne1, gI_ne2, gJ_s, gJ_ne1, gJ_ne2, gI_sJ, gJ_sI]) (fun k _ => by simp (disch := omega) only [gI_s, gI_ne1, gI_ne2, gJ_s, gJ_ne1, gJ_ne2, gI_sJ, gJ_sI]) (by simp (disch := omega) only [gI_s, gI_ne1, gI_ne2, gJ_s, gJ_ne1, gJ_ne2, gI_sJ, gJ_sI]) (hM.1 m hm)
          obtain ⟨q1, q2, q3, q4⟩ := q
          exact ⟨q1, ⟨q2.1, fun f hf2 => q2.2 f (by omega)⟩, q3, q4⟩
        · have := hM.2 m h1 h2
          unfold iM0 at *
          simp (disch := omega) only [gI_s, gI_ne1, gI_ne2, gJ_s, gJ_ne1, gJ_ne2, gI_sJ, gJ_sI]
          exact this
      · exact iK_fr (fun i j hi => by simp (disch := omega) only [gI_s, gI_ne1, gI_ne2, gJ_s, gJ_ne1, gJ_ne2, gI_sJ, gJ_sI]) hK
      · exact iL_fr (fun i j hi => by simp (disch := omega) only [gI_s, gI_ne1, gI_ne2, gJ_s, gJ_ne1, gJ_ne2, gI_sJ, gJ_sI]) (fun j h1 h2 => by simp (disch := omega) only [gI_s, gI_ne1, gI_ne2, gJ_s, gJ_ne1, gJ_ne2, gI_sJ, gJ_sI]) hL
    · have e : nf = 60 := by omega
      subst e
      have p1 : fn_X5_file M x = some (m1, M) := by
        simp (disch := omega) only [fn_X5_file, fn_X4_addFile, nx_e, ck_t, ck_ok, bd1_s, bd1_n, bd2_s, oc_n, oc_s, l_0, l_1, l_2, l_3, l_4, l_5, l_6, l_7, l_8, l_11, l_12, l_31, l_39, l_40, l_59, l_60, l_100, l_500, l_1000, l_4095, l_9999, m1_e, ix_nI, ile_t, ile_f, ilt_t, ilt_f, ieq_t, ieq_f, nI_add, pk_mul, nI_sub, ile_m1, ilt_m1, ieq_m1, imle_m1, imlt_m1, imeq_m1, imeq_s, ieq_s, ile_s, ilt_s, gI_s, gI_ne1, gI_ne2, gJ_s, gJ_ne1, gJ_ne2, gI_sJ, gJ_sI, ibI0, ibI1, bI_t, bI_f, decide_true, decide_false, and_self, and_true, true_and, and_false, false_and, reduceIte, if_true, if_false, Nat.add_sub_cancel, e_within, e_in, hx, a3]
      have p2 : fn_X6_file M x = some (m1, M) := by
        simp (disch := omega) only [fn_X6_file, nx_e, ck_t, ck_ok, bd1_s, bd1_n, bd2_s, oc_n, oc_s, l_0, l_1, l_2, l_3, l_4, l_5, l_6, l_7, l_8, l_11, l_12, l_31, l_39, l_40, l_59, l_60, l_100, l_500, l_1000, l_4095, l_9999, m1_e, ix_nI, ile_t, ile_f, ilt_t, ilt_f, ieq_t, ieq_f, nI_add, pk_mul, nI_sub, ile_m1, ilt_m1, ieq_m1, imle_m1, imlt_m1, imeq_m1, imeq_s, ieq_s, ile_s, ilt_s, gI_s, gI_ne1, gI_ne2, gJ_s, gJ_ne1, gJ_ne2, gI_sJ, gJ_sI, ibI0, ibI1, bI_t, bI_f, decide_true, decide_false, and_self, and_true, true_and, and_false, false_and, reduceIte, if_true, if_false, Nat.add_sub_cancel, e_within, e_in, b3]
      exact ⟨_, _, _, p1, p2, w, 60, ns, tl, gr, hA, hS, hF, hM, hK, hL⟩
  · have p1 : fn_X5_file M x = some (m1, M) := by
      simp (disch := omega) only [fn_X5_file, nx_e, ck_t, ck_ok, bd1_s, bd1_n, bd2_s, oc_n, oc_s, l_0, l_1, l_2, l_3, l_4, l_5, l_6, l_7, l_8, l_11, l_12, l_31, l_39, l_40, l_59, l_60, l_100, l_500, l_1000, l_4095, l_9999, m1_e, ix_nI, ile_t, ile_f, ilt_t, ilt_f, ieq_t, ieq_f, nI_add, pk_mul, nI_sub, ile_m1, ilt_m1, ieq_m1, imle_m1, imlt_m1, imeq_m1, imeq_s, ieq_s, ile_s, ilt_s, gI_s, gI_ne1, gI_ne2, gJ_s, gJ_ne1, gJ_ne2, gI_sJ, gJ_sI, ibI0, ibI1, bI_t, bI_f, decide_true, decide_false, and_self, and_true, true_and, and_false, false_and, reduceIte, if_true, if_false, Nat.add_sub_cancel, e_within, e_in, hx]
    have p2 : fn_X6_file M x = some (m1, M) := by
      by_cases e : nf = 60
      · simp (disch := omega) only [fn_X6_file, nx_e, ck_t, ck_ok, bd1_s, bd1_n, bd2_s, oc_n, oc_s, l_0, l_1, l_2, l_3, l_4, l_5, l_6, l_7, l_8, l_11, l_12, l_31, l_39, l_40, l_59, l_60, l_100, l_500, l_1000, l_4095, l_9999, m1_e, ix_nI, ile_t, ile_f, ilt_t, ilt_f, ieq_t, ieq_f, nI_add, pk_mul, nI_sub, ile_m1, ilt_m1, ieq_m1, imle_m1, imlt_m1, imeq_m1, imeq_s, ieq_s, ile_s, ilt_s, gI_s, gI_ne1, gI_ne2, gJ_s, gJ_ne1, gJ_ne2, gI_sJ, gJ_sI, ibI0, ibI1, bI_t, bI_f, decide_true, decide_false, and_self, and_true, true_and, and_false, false_and, reduceIte, if_true, if_false, Nat.add_sub_cancel, e_within, e_in, b3, e]
      · simp (disch := omega) only [fn_X6_file, nx_e, ck_t, ck_ok, bd1_s, bd1_n, bd2_s, oc_n, oc_s, l_0, l_1, l_2, l_3, l_4, l_5, l_6, l_7, l_8, l_11, l_12, l_31, l_39, l_40, l_59, l_60, l_100, l_500, l_1000, l_4095, l_9999, m1_e, ix_nI, ile_t, ile_f, ilt_t, ilt_f, ieq_t, ieq_f, nI_add, pk_mul, nI_sub, ile_m1, ilt_m1, ieq_m1, imle_m1, imlt_m1, imeq_m1, imeq_s, ieq_s, ile_s, ilt_s, gI_s, gI_ne1, gI_ne2, gJ_s, gJ_ne1, gJ_ne2, gI_sJ, gJ_sI, ibI0, ibI1, bI_t, bI_f, decide_true, decide_false, and_self, and_true, true_and, and_false, false_and, reduceIte, if_true, if_false, Nat.add_sub_cancel, e_within, e_in, b3, hx]
    exact ⟨_, _, _, p1, p2, w, nf, ns, tl, gr, hA, hS, hF, hM, hK, hL⟩

theorem e_mirrorAt {nm w nf ns tl gr : Nat} {M : Mem} (hA : iA nm w nf ns tl gr M) {m : Nat} (hm : m < nm) : fn_X5_mirrorAt nm M (nI m) = some (some m) := by
  obtain ⟨⟨a1, a2, a3, a4, a5, a6⟩, -, c1, -⟩ := hA
  have h1 : nI 0 ≤ nI m ∧ nI m ≤ nI (nm - 1) := rng' (by omega) (by omega) (by omega)
  simp (disch := omega) only [fn_X5_mirrorAt, nx_e, ck_t, ck_ok, bd1_s, bd1_n, bd2_s, oc_n, oc_s, l_0, l_1, l_2, l_3, l_4, l_5, l_6, l_7, l_8, l_11, l_12, l_31, l_39, l_40, l_59, l_60, l_100, l_500, l_1000, l_4095, l_9999, m1_e, ix_nI, ile_t, ile_f, ilt_t, ilt_f, ieq_t, ieq_f, nI_add, pk_mul, nI_sub, ile_m1, ilt_m1, ieq_m1, imle_m1, imlt_m1, imeq_m1, imeq_s, ieq_s, ile_s, ilt_s, gI_s, gI_ne1, gI_ne2, gJ_s, gJ_ne1, gJ_ne2, gI_sJ, gJ_sI, ibI0, ibI1, bI_t, bI_f, decide_true, decide_false, and_self, and_true, true_and, and_false, false_and, reduceIte, if_true, if_false, Nat.add_sub_cancel, e_within, e_in, a1, h1, mr, hm]
theorem e_mirrorAt0 {nm w nf ns tl gr : Nat} {M : Mem} (hA : iA nm w nf ns tl gr M) {x : Int32} (hx : ¬ ∃ m, m < nm ∧ x = nI m) : fn_X5_mirrorAt nm M x = some none := by
  obtain ⟨⟨a1, a2, a3, a4, a5, a6⟩, -, c1, -⟩ := hA
  have h1 : ¬ (nI 0 ≤ x ∧ x ≤ nI nm - nI 1) := by
    intro h
    by_cases e : nm = 0
    · subst e
      have := h.2
      rw [show nI 0 - nI 1 = m1 from rfl] at this
      have h2 := Int32.le_trans h.1 this
      exact absurd h2 (by decide)
    · rw [nI_sub (by omega)] at h
      obtain ⟨s, s1, s2, rfl⟩ := rng (by omega) h (by omega)
      exact hx ⟨s, by omega, rfl⟩
  simp only [fn_X5_mirrorAt, e_within, bd1_s, l_0, l_1, l_2, l_3, l_4, l_5, l_6, l_7, l_8, l_11, l_12, l_31, l_39, l_40, l_59, l_60, l_100, l_500, l_1000, l_4095, l_9999, m1_e, a1]
  rw [decide_eq_false h1]
  rfl
theorem e_isMirror {nm w nf ns tl gr : Nat} {M : Mem} (hA : iA nm w nf ns tl gr M) {m : Nat} (hm : m < nm) : fn_X6_isMirror M (nI m) = some (nI 1) := by
  obtain ⟨-, ⟨b1, b2, b3, b4, b5, b6⟩, c1, -⟩ := hA
  have h1 : nI 0 ≤ nI m ∧ nI m ≤ nI (nm - 1) := rng' (by omega) (by omega) (by omega)
  simp (disch := omega) only [fn_X6_isMirror, nx_e, ck_t, ck_ok, bd1_s, bd1_n, bd2_s, oc_n, oc_s, l_0, l_1, l_2, l_3, l_4, l_5, l_6, l_7, l_8, l_11, l_12, l_31, l_39, l_40, l_59, l_60, l_100, l_500, l_1000, l_4095, l_9999, m1_e, ix_nI, ile_t, ile_f, ilt_t, ilt_f, ieq_t, ieq_f, nI_add, pk_mul, nI_sub, ile_m1, ilt_m1, ieq_m1, imle_m1, imlt_m1, imeq_m1, imeq_s, ieq_s, ile_s, ilt_s, gI_s, gI_ne1, gI_ne2, gJ_s, gJ_ne1, gJ_ne2, gI_sJ, gJ_sI, ibI0, ibI1, bI_t, bI_f, decide_true, decide_false, and_self, and_true, true_and, and_false, false_and, reduceIte, if_true, if_false, Nat.add_sub_cancel, e_within, e_in, b1, h1]
theorem e_isMirror0 {nm w nf ns tl gr : Nat} {M : Mem} (hA : iA nm w nf ns tl gr M) {x : Int32} (hx : ¬ ∃ m, m < nm ∧ x = nI m) : fn_X6_isMirror M x = some (nI 0) := by
  obtain ⟨-, ⟨b1, b2, b3, b4, b5, b6⟩, c1, -⟩ := hA
  have h1 : ¬ (nI 0 ≤ x ∧ x ≤ nI nm - nI 1) := by
    intro h
    by_cases e : nm = 0
    · subst e
      have := h.2
      rw [show nI 0 - nI 1 = m1 from rfl] at this
      have h2 := Int32.le_trans h.1 this
      exact absurd h2 (by decide)
    · rw [nI_sub (by omega)] at h
      obtain ⟨s, s1, s2, rfl⟩ := rng (by omega) h (by omega)
      exact hx ⟨s, by omega, rfl⟩
  simp only [fn_X6_isMirror, e_in, bd1_s, l_0, l_1, l_2, l_3, l_4, l_5, l_6, l_7, l_8, l_11, l_12, l_31, l_39, l_40, l_59, l_60, l_100, l_500, l_1000, l_4095, l_9999, m1_e, b1]
  rw [decide_eq_false h1]
  rfl
theorem e_isFile {nm w nf ns tl gr : Nat} {M : Mem} (hA : iA nm w nf ns tl gr M) {m : Nat} (hm : m < nf) : fn_X6_isFile M (nI m) = some (nI 1) := by
  obtain ⟨-, ⟨b1, b2, b3, b4, b5, b6⟩, c1, c2, c3, -⟩ := hA
  have h1 : nI 0 ≤ nI m ∧ nI m ≤ nI (nf - 1) := rng' (by omega) (by omega) (by omega)
  simp (disch := omega) only [fn_X6_isFile, nx_e, ck_t, ck_ok, bd1_s, bd1_n, bd2_s, oc_n, oc_s, l_0, l_1, l_2, l_3, l_4, l_5, l_6, l_7, l_8, l_11, l_12, l_31, l_39, l_40, l_59, l_60, l_100, l_500, l_1000, l_4095, l_9999, m1_e, ix_nI, ile_t, ile_f, ilt_t, ilt_f, ieq_t, ieq_f, nI_add, pk_mul, nI_sub, ile_m1, ilt_m1, ieq_m1, imle_m1, imlt_m1, imeq_m1, imeq_s, ieq_s, ile_s, ilt_s, gI_s, gI_ne1, gI_ne2, gJ_s, gJ_ne1, gJ_ne2, gI_sJ, gJ_sI, ibI0, ibI1, bI_t, bI_f, decide_true, decide_false, and_self, and_true, true_and, and_false, false_and, reduceIte, if_true, if_false, Nat.add_sub_cancel, e_within, e_in, b3, h1]
theorem e_isFile0 {nm w nf ns tl gr : Nat} {M : Mem} (hA : iA nm w nf ns tl gr M) {x : Int32} (hx : ¬ ∃ m, m < nf ∧ x = nI m) : fn_X6_isFile M x = some (nI 0) := by
  obtain ⟨-, ⟨b1, b2, b3, b4, b5, b6⟩, c1, c2, c3, -⟩ := hA
  have h1 : ¬ (nI 0 ≤ x ∧ x ≤ nI nf - nI 1) := by
    intro h
    by_cases e : nf = 0
    · subst e
      have := h.2
      rw [show nI 0 - nI 1 = m1 from rfl] at this
      have h2 := Int32.le_trans h.1 this
      exact absurd h2 (by decide)
    · rw [nI_sub (by omega)] at h
      obtain ⟨s, s1, s2, rfl⟩ := rng (by omega) h (by omega)
      exact hx ⟨s, by omega, rfl⟩
  simp only [fn_X6_isFile, e_in, bd1_s, l_0, l_1, l_2, l_3, l_4, l_5, l_6, l_7, l_8, l_11, l_12, l_31, l_39, l_40, l_59, l_60, l_100, l_500, l_1000, l_4095, l_9999, m1_e, b3]
  rw [decide_eq_false h1]
  rfl
theorem e_hasFile {nm w nf ns tl gr : Nat} {M : Mem} (hA : iA nm w nf ns tl gr M) {m : Nat} (hm : m < nf) : fn_X4_hasFile M (nI m) = some (nI 1) := by
  obtain ⟨⟨a1, a2, a3, a4, a5, a6⟩, -, c1, c2, c3, -⟩ := hA
  simp (disch := omega) only [fn_X4_hasFile, nx_e, ck_t, ck_ok, bd1_s, bd1_n, bd2_s, oc_n, oc_s, l_0, l_1, l_2, l_3, l_4, l_5, l_6, l_7, l_8, l_11, l_12, l_31, l_39, l_40, l_59, l_60, l_100, l_500, l_1000, l_4095, l_9999, m1_e, ix_nI, ile_t, ile_f, ilt_t, ilt_f, ieq_t, ieq_f, nI_add, pk_mul, nI_sub, ile_m1, ilt_m1, ieq_m1, imle_m1, imlt_m1, imeq_m1, imeq_s, ieq_s, ile_s, ilt_s, gI_s, gI_ne1, gI_ne2, gJ_s, gJ_ne1, gJ_ne2, gI_sJ, gJ_sI, ibI0, ibI1, bI_t, bI_f, decide_true, decide_false, and_self, and_true, true_and, and_false, false_and, reduceIte, if_true, if_false, Nat.add_sub_cancel, e_within, e_in, a3]
theorem not_ix {x : Int32} {n : Nat} (hn : n < 2147483648) (h : ¬ ∃ m, m < n ∧ x = nI m) : x < nI 0 ∨ (¬ x < nI 0 ∧ nI n ≤ x) := by
  rcases ar_cases x n hn with q | q | q
  · exact Or.inl q
  · exact Or.inr ⟨fun z => (of_lt0 z hn).1 q, q⟩
  · exact absurd q h
theorem e_hasFile0 {nm w nf ns tl gr : Nat} {M : Mem} (hA : iA nm w nf ns tl gr M) {x : Int32} (hx : ¬ ∃ m, m < nf ∧ x = nI m) : fn_X4_hasFile M x = some (nI 0) := by
  obtain ⟨⟨a1, a2, a3, a4, a5, a6⟩, -, c1, c2, c3, -⟩ := hA
  rcases not_ix (by omega) hx with q | ⟨q1, q⟩
  · simp only [fn_X4_hasFile, l_0, l_1, l_2, l_3, l_4, l_5, l_6, l_7, l_8, l_11, l_12, l_31, l_39, l_40, l_59, l_60, l_100, l_500, l_1000, l_4095, l_9999, m1_e, q, if_true]
  · simp only [fn_X4_hasFile, l_0, l_1, l_2, l_3, l_4, l_5, l_6, l_7, l_8, l_11, l_12, l_31, l_39, l_40, l_59, l_60, l_100, l_500, l_1000, l_4095, l_9999, m1_e, a3, q1, q, if_true, if_false]
theorem e_hasState {nm w nf ns tl gr : Nat} {M : Mem} (hA : iA nm w nf ns tl gr M) {m : Nat} (hm : m < ns) : fn_X4_hasState M (nI m) = some (nI 1) := by
  obtain ⟨⟨a1, a2, a3, a4, a5, a6⟩, -, c1, c2, c3, c4, c5, -⟩ := hA
  simp (disch := omega) only [fn_X4_hasState, nx_e, ck_t, ck_ok, bd1_s, bd1_n, bd2_s, oc_n, oc_s, l_0, l_1, l_2, l_3, l_4, l_5, l_6, l_7, l_8, l_11, l_12, l_31, l_39, l_40, l_59, l_60, l_100, l_500, l_1000, l_4095, l_9999, m1_e, ix_nI, ile_t, ile_f, ilt_t, ilt_f, ieq_t, ieq_f, nI_add, pk_mul, nI_sub, ile_m1, ilt_m1, ieq_m1, imle_m1, imlt_m1, imeq_m1, imeq_s, ieq_s, ile_s, ilt_s, gI_s, gI_ne1, gI_ne2, gJ_s, gJ_ne1, gJ_ne2, gI_sJ, gJ_sI, ibI0, ibI1, bI_t, bI_f, decide_true, decide_false, and_self, and_true, true_and, and_false, false_and, reduceIte, if_true, if_false, Nat.add_sub_cancel, e_within, e_in, a4]
theorem e_hasState0 {nm w nf ns tl gr : Nat} {M : Mem} (hA : iA nm w nf ns tl gr M) {x : Int32} (hx : ¬ ∃ m, m < ns ∧ x = nI m) : fn_X4_hasState M x = some (nI 0) := by
  obtain ⟨⟨a1, a2, a3, a4, a5, a6⟩, -, c1, c2, c3, c4, c5, -⟩ := hA
  rcases not_ix (by omega) hx with q | ⟨q1, q⟩
  · simp only [fn_X4_hasState, l_0, l_1, l_2, l_3, l_4, l_5, l_6, l_7, l_8, l_11, l_12, l_31, l_39, l_40, l_59, l_60, l_100, l_500, l_1000, l_4095, l_9999, m1_e, q, if_true]
  · simp only [fn_X4_hasState, l_0, l_1, l_2, l_3, l_4, l_5, l_6, l_7, l_8, l_11, l_12, l_31, l_39, l_40, l_59, l_60, l_100, l_500, l_1000, l_4095, l_9999, m1_e, a4, q1, q, if_true, if_false]
theorem e_inK {n : Nat} {k : Nat} (hn : 0 < n) (hn2 : n < 2147483648) (hk : k < n) : (nI 0 ≤ nI k ∧ nI k ≤ nI (n - 1)) := rng' (by omega) (by omega) (by omega)
theorem e_inK0 {n : Nat} {x : Int32} (hn : 0 < n) (hn2 : n < 2147483648) (hx : ¬ ∃ m, m < n ∧ x = nI m) : ¬ (nI 0 ≤ x ∧ x ≤ nI (n - 1)) := by
  intro h
  obtain ⟨s, s1, s2, rfl⟩ := rng (by omega) h (by omega)
  exact hx ⟨s, by omega, rfl⟩
theorem e_askerAt {nm : Nat} {M : Mem} {k : Nat} (hk : k < 6) : fn_X5_askerAt nm M (nI k) = some (some k) := by
  have h1 : nI 0 ≤ nI k ∧ nI k ≤ nI 5 := rng' (by omega) (by omega) (by omega)
  simp (disch := omega) only [fn_X5_askerAt, nx_e, ck_t, ck_ok, bd1_s, bd1_n, bd2_s, oc_n, oc_s, l_0, l_1, l_2, l_3, l_4, l_5, l_6, l_7, l_8, l_11, l_12, l_31, l_39, l_40, l_59, l_60, l_100, l_500, l_1000, l_4095, l_9999, m1_e, ix_nI, ile_t, ile_f, ilt_t, ilt_f, ieq_t, ieq_f, nI_add, pk_mul, nI_sub, ile_m1, ilt_m1, ieq_m1, imle_m1, imlt_m1, imeq_m1, imeq_s, ieq_s, ile_s, ilt_s, gI_s, gI_ne1, gI_ne2, gJ_s, gJ_ne1, gJ_ne2, gI_sJ, gJ_sI, ibI0, ibI1, bI_t, bI_f, decide_true, decide_false, and_self, and_true, true_and, and_false, false_and, reduceIte, if_true, if_false, Nat.add_sub_cancel, e_within, e_in, h1]
theorem e_askerAt0 {nm : Nat} {M : Mem} {x : Int32} (hx : ¬ ∃ m, m < 6 ∧ x = nI m) : fn_X5_askerAt nm M x = some none := by
  have h1 := e_inK0 (n := 6) (by omega) (by omega) hx
  simp (disch := omega) only [fn_X5_askerAt, nx_e, ck_t, ck_ok, bd1_s, bd1_n, bd2_s, oc_n, oc_s, l_0, l_1, l_2, l_3, l_4, l_5, l_6, l_7, l_8, l_11, l_12, l_31, l_39, l_40, l_59, l_60, l_100, l_500, l_1000, l_4095, l_9999, m1_e, ix_nI, ile_t, ile_f, ilt_t, ilt_f, ieq_t, ieq_f, nI_add, pk_mul, nI_sub, ile_m1, ilt_m1, ieq_m1, imle_m1, imlt_m1, imeq_m1, imeq_s, ieq_s, ile_s, ilt_s, gI_s, gI_ne1, gI_ne2, gJ_s, gJ_ne1, gJ_ne2, gI_sJ, gJ_sI, ibI0, ibI1, bI_t, bI_f, decide_true, decide_false, and_self, and_true, true_and, and_false, false_and, reduceIte, if_true, if_false, Nat.add_sub_cancel, e_within, e_in]
  simp only [h1, decide_false]
  rfl
theorem e_isAsker {k : Nat} (hk : k < 6) : fn_X6_isAsker (nI k) = some (nI 1) := by
  have h1 : nI 0 ≤ nI k ∧ nI k ≤ nI 5 := rng' (by omega) (by omega) (by omega)
  simp (disch := omega) only [fn_X6_isAsker, nx_e, ck_t, ck_ok, bd1_s, bd1_n, bd2_s, oc_n, oc_s, l_0, l_1, l_2, l_3, l_4, l_5, l_6, l_7, l_8, l_11, l_12, l_31, l_39, l_40, l_59, l_60, l_100, l_500, l_1000, l_4095, l_9999, m1_e, ix_nI, ile_t, ile_f, ilt_t, ilt_f, ieq_t, ieq_f, nI_add, pk_mul, nI_sub, ile_m1, ilt_m1, ieq_m1, imle_m1, imlt_m1, imeq_m1, imeq_s, ieq_s, ile_s, ilt_s, gI_s, gI_ne1, gI_ne2, gJ_s, gJ_ne1, gJ_ne2, gI_sJ, gJ_sI, ibI0, ibI1, bI_t, bI_f, decide_true, decide_false, and_self, and_true, true_and, and_false, false_and, reduceIte, if_true, if_false, Nat.add_sub_cancel, e_within, e_in, h1]
theorem e_isAsker0 {x : Int32} (hx : ¬ ∃ m, m < 6 ∧ x = nI m) : fn_X6_isAsker x = some (nI 0) := by
  have h1 := e_inK0 (n := 6) (by omega) (by omega) hx
  simp (disch := omega) only [fn_X6_isAsker, nx_e, ck_t, ck_ok, bd1_s, bd1_n, bd2_s, oc_n, oc_s, l_0, l_1, l_2, l_3, l_4, l_5, l_6, l_7, l_8, l_11, l_12, l_31, l_39, l_40, l_59, l_60, l_100, l_500, l_1000, l_4095, l_9999, m1_e, ix_nI, ile_t, ile_f, ilt_t, ilt_f, ieq_t, ieq_f, nI_add, pk_mul, nI_sub, ile_m1, ilt_m1, ieq_m1, imle_m1, imlt_m1, imeq_m1, imeq_s, ieq_s, ile_s, ilt_s, gI_s, gI_ne1, gI_ne2, gJ_s, gJ_ne1, gJ_ne2, gI_sJ, gJ_sI, ibI0, ibI1, bI_t, bI_f, decide_true, decide_false, and_self, and_true, true_and, and_false, false_and, reduceIte, if_true, if_false, Nat.add_sub_cancel, e_within, e_in]
  simp only [h1, decide_false]
  rfl
theorem op_grace {nm : Nat} {M : Mem} (h : Inv nm M) (x : Int32) : ∃ r M1 M2, fn_X5_grace M x = some (r, M1) ∧ fn_X6_grace M1 x = some (r, M2) ∧ Inv nm M2 := by
  obtain ⟨w, nf, ns, tl, gr, hA, hS, hF, hM, hK, hL⟩ := h
  obtain ⟨⟨a1, a2, a3, a4, a5, a6⟩, ⟨b1, b2, b3, b4, b5, b6⟩, c1, c2, c3, c4, c5, c6, c7⟩ := id hA
  by_cases hx : nI 0 ≤ x ∧ x ≤ nI 9999
  · obtain ⟨s, s1, s2, rfl⟩ := rng (by omega) hx (by omega)
    have p1 : fn_X5_grace M (nI s) = some (nI gr, sI M 0 7 (nI s)) := by
      simp (disch := omega) only [fn_X5_grace, nx_e, ck_t, ck_ok, bd1_s, bd1_n, bd2_s, oc_n, oc_s, l_0, l_1, l_2, l_3, l_4, l_5, l_6, l_7, l_8, l_11, l_12, l_31, l_39, l_40, l_59, l_60, l_100, l_500, l_1000, l_4095, l_9999, m1_e, ix_nI, ile_t, ile_f, ilt_t, ilt_f, ieq_t, ieq_f, nI_add, pk_mul, nI_sub, ile_m1, ilt_m1, ieq_m1, imle_m1, imlt_m1, imeq_m1, imeq_s, ieq_s, ile_s, ilt_s, gI_s, gI_ne1, gI_ne2, gJ_s, gJ_ne1, gJ_ne2, gI_sJ, gJ_sI, ibI0, ibI1, bI_t, bI_f, decide_true, decide_false, and_self, and_true, true_and, and_false, false_and, reduceIte, if_true, if_false, Nat.add_sub_cancel, e_within, e_in, hx, a6]
    have p2 : fn_X6_grace (sI M 0 7 (nI s)) (nI s) = some (nI gr, sI (sI M 0 7 (nI s)) 35 23 (nI s)) := by
      simp (disch := omega) only [fn_X6_grace, nx_e, ck_t, ck_ok, bd1_s, bd1_n, bd2_s, oc_n, oc_s, l_0, l_1, l_2, l_3, l_4, l_5, l_6, l_7, l_8, l_11, l_12, l_31, l_39, l_40, l_59, l_60, l_100, l_500, l_1000, l_4095, l_9999, m1_e, ix_nI, ile_t, ile_f, ilt_t, ilt_f, ieq_t, ieq_f, nI_add, pk_mul, nI_sub, ile_m1, ilt_m1, ieq_m1, imle_m1, imlt_m1, imeq_m1, imeq_s, ieq_s, ile_s, ilt_s, gI_s, gI_ne1, gI_ne2, gJ_s, gJ_ne1, gJ_ne2, gI_sJ, gJ_sI, ibI0, ibI1, bI_t, bI_f, decide_true, decide_false, and_self, and_true, true_and, and_false, false_and, reduceIte, if_true, if_false, Nat.add_sub_cancel, e_within, e_in, hx, b6]
    refine ⟨_, _, _, p1, p2, w, nf, ns, tl, s, ?_, iS_fr (fun i j hi => by simp (disch := omega) only [gI_s, gI_ne1, gI_ne2, gJ_s, gJ_ne1, gJ_ne2, gI_sJ, gJ_sI]) (fun i j hi => by simp (disch := omega) only [gI_s, gI_ne1, gI_ne2, gJ_s, gJ_ne1, gJ_ne2, gI_sJ, gJ_sI]) hS, iF_fr (fun i j hi => by simp (disch := omega) only [gI_s, gI_ne1, gI_ne2, gJ_s, gJ_ne1, gJ_ne2, gI_sJ, gJ_sI]) hF, iM_fr c3 hS (fun i j hi => by simp (disch := omega) only [gI_s, gI_ne1, gI_ne2, gJ_s, gJ_ne1, gJ_ne2, gI_sJ, gJ_sI]) (fun i j hi => by simp (disch := omega) only [gI_s, gI_ne1, gI_ne2, gJ_s, gJ_ne1, gJ_ne2, gI_sJ, gJ_sI]) hM, iK_fr (fun i j hi => by simp (disch := omega) only [gI_s, gI_ne1, gI_ne2, gJ_s, gJ_ne1, gJ_ne2, gI_sJ, gJ_sI]) hK, iL_fr (fun i j hi => by simp (disch := omega) only [gI_s, gI_ne1, gI_ne2, gJ_s, gJ_ne1, gJ_ne2, gI_sJ, gJ_sI]) (fun j h1 h2 => (by simp (disch := omega) only [gI_s, gI_ne1, gI_ne2, gJ_s, gJ_ne1, gJ_ne2, gI_sJ, gJ_sI])) hL⟩
    unfold iA
    simp (disch := omega) only [gI_s, gI_ne1, gI_ne2, gJ_s, gJ_ne1, gJ_ne2, gI_sJ, gJ_sI, true_and, and_true, and_self, a1, a2, a3, a4, a5, b1, b2, b3, b4, b5]
    omega
  · have p1 : fn_X5_grace M x = some (m1, M) := by simp (disch := omega) only [fn_X5_grace, nx_e, ck_t, ck_ok, bd1_s, bd1_n, bd2_s, oc_n, oc_s, l_0, l_1, l_2, l_3, l_4, l_5, l_6, l_7, l_8, l_11, l_12, l_31, l_39, l_40, l_59, l_60, l_100, l_500, l_1000, l_4095, l_9999, m1_e, ix_nI, ile_t, ile_f, ilt_t, ilt_f, ieq_t, ieq_f, nI_add, pk_mul, nI_sub, ile_m1, ilt_m1, ieq_m1, imle_m1, imlt_m1, imeq_m1, imeq_s, ieq_s, ile_s, ilt_s, gI_s, gI_ne1, gI_ne2, gJ_s, gJ_ne1, gJ_ne2, gI_sJ, gJ_sI, ibI0, ibI1, bI_t, bI_f, decide_true, decide_false, and_self, and_true, true_and, and_false, false_and, reduceIte, if_true, if_false, Nat.add_sub_cancel, e_within, e_in, hx]
    have p2 : fn_X6_grace M x = some (m1, M) := by simp (disch := omega) only [fn_X6_grace, nx_e, ck_t, ck_ok, bd1_s, bd1_n, bd2_s, oc_n, oc_s, l_0, l_1, l_2, l_3, l_4, l_5, l_6, l_7, l_8, l_11, l_12, l_31, l_39, l_40, l_59, l_60, l_100, l_500, l_1000, l_4095, l_9999, m1_e, ix_nI, ile_t, ile_f, ilt_t, ilt_f, ieq_t, ieq_f, nI_add, pk_mul, nI_sub, ile_m1, ilt_m1, ieq_m1, imle_m1, imlt_m1, imeq_m1, imeq_s, ieq_s, ile_s, ilt_s, gI_s, gI_ne1, gI_ne2, gJ_s, gJ_ne1, gJ_ne2, gI_sJ, gJ_sI, ibI0, ibI1, bI_t, bI_f, decide_true, decide_false, and_self, and_true, true_and, and_false, false_and, reduceIte, if_true, if_false, Nat.add_sub_cancel, e_within, e_in, hx]
    exact ⟨_, _, _, p1, p2, w, nf, ns, tl, gr, hA, hS, hF, hM, hK, hL⟩
