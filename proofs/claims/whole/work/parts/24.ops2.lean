theorem iK1_fr {nm ns k : Nat} {M M' : Mem} (h1 : ∀ m, m < 8 → gI M' (13 + 3 * k + 1) m = gI M (13 + 3 * k + 1) m) (h54 : ∀ m, m < 8 → gI M' 54 (8 * k + m) = gI M 54 (8 * k + m)) (h3 : gI M' (13 + 3 * k) 3 = gI M (13 + 3 * k) 3) (h4 : gI M' (13 + 3 * k) 4 = gI M (13 + 3 * k) 4) (h5 : gI M' (13 + 3 * k) 5 = gI M (13 + 3 * k) 5) (h55 : gI M' 55 k = gI M 55 k) (h56 : gI M' 56 k = gI M 56 k) (h57 : gI M' 57 k = gI M 57 k) (h : iK1 nm ns k M) : iK1 nm ns k M' := by
  obtain ⟨q1, q2, q3, q4⟩ := h
  refine ⟨fun m hm => ?_, ?_, ?_, ?_⟩
  · rw [h1 m hm, h54 m hm]; exact q1 m hm
  · rw [h3, h55]; exact q2
  · rw [h4, h56]; exact q3
  · rw [h5, h57]; exact q4
theorem op_bears {nm : Nat} {M : Mem} (h : Inv nm M) (x y : Int32) : ∃ r M1 M2, fn_X5_bears nm M x y = some (r, M1) ∧ fn_X6_bears M1 x y = some (r, M2) ∧ Inv nm M2 := by
  obtain ⟨w, nf, ns, tl, gr, hA, hS, hF, hM, hK, hL⟩ := h
  obtain ⟨⟨a1, a2, a3, a4, a5, a6⟩, ⟨b1, b2, b3, b4, b5, b6⟩, c1, c2, c3, c4, c5, c6, c7⟩ := id hA
  by_cases hk : ∃ k, k < 6 ∧ x = nI k
  · obtain ⟨k, hk, rfl⟩ := hk
    obtain ⟨k1, ⟨k2, b, kb, k3⟩, k4, k5⟩ := hK k hk
    by_cases hy : nI 0 ≤ y ∧ y ≤ nI 9999
    · obtain ⟨s, s1, s2, rfl⟩ := rng (by omega) hy (by omega)
      have p1 : fn_X5_bears nm M (nI k) (nI s) = some (nI b, sI M (13 + 3 * k) 3 (nI s)) := by
        simp (disch := omega) only [fn_X5_bears, e_askerAt, nx_e, ck_t, ck_ok, bd1_s, bd1_n, bd2_s, oc_n, oc_s, l_0, l_1, l_2, l_3, l_4, l_5, l_6, l_7, l_8, l_11, l_12, l_31, l_39, l_40, l_59, l_60, l_100, l_500, l_1000, l_4095, l_9999, m1_e, ix_nI, ile_t, ile_f, ilt_t, ilt_f, ieq_t, ieq_f, nI_add, pk_mul, nI_sub, ile_m1, ilt_m1, ieq_m1, imle_m1, imlt_m1, imeq_m1, imeq_s, ieq_s, ile_s, ilt_s, gI_s, gI_ne1, gI_ne2, gJ_s, gJ_ne1, gJ_ne2, gI_sJ, gJ_sI, ibI0, ibI1, bI_t, bI_f, decide_true, decide_false, and_self, and_true, true_and, and_false, false_and, reduceIte, if_true, if_false, Nat.add_sub_cancel, e_within, e_in, hy, k2, k3]
      have p2 : fn_X6_bears (sI M (13 + 3 * k) 3 (nI s)) (nI k) (nI s) = some (nI b, sI (sI M (13 + 3 * k) 3 (nI s)) 55 k (nI s)) := by
        simp (disch := omega) only [fn_X6_bears, e_isAsker, nx_e, ck_t, ck_ok, bd1_s, bd1_n, bd2_s, oc_n, oc_s, l_0, l_1, l_2, l_3, l_4, l_5, l_6, l_7, l_8, l_11, l_12, l_31, l_39, l_40, l_59, l_60, l_100, l_500, l_1000, l_4095, l_9999, m1_e, ix_nI, ile_t, ile_f, ilt_t, ilt_f, ieq_t, ieq_f, nI_add, pk_mul, nI_sub, ile_m1, ilt_m1, ieq_m1, imle_m1, imlt_m1, imeq_m1, imeq_s, ieq_s, ile_s, ilt_s, gI_s, gI_ne1, gI_ne2, gJ_s, gJ_ne1, gJ_ne2, gI_sJ, gJ_sI, ibI0, ibI1, bI_t, bI_f, decide_true, decide_false, and_self, and_true, true_and, and_false, false_and, reduceIte, if_true, if_false, Nat.add_sub_cancel, e_within, e_in, hy, k3]
      refine ⟨_, _, _, p1, p2, w, nf, ns, tl, gr, ?_, iS_fr (fun i j hi => by simp (disch := omega) only [gI_s, gI_ne1, gI_ne2, gJ_s, gJ_ne1, gJ_ne2, gI_sJ, gJ_sI]) (fun i j hi => by simp (disch := omega) only [gI_s, gI_ne1, gI_ne2, gJ_s, gJ_ne1, gJ_ne2, gI_sJ, gJ_sI]) hS, iF_fr (fun i j hi => by simp (disch := omega) only [gI_s, gI_ne1, gI_ne2, gJ_s, gJ_ne1, gJ_ne2, gI_sJ, gJ_sI]) hF, iM_fr c3 hS (fun i j hi => by simp (disch := omega) only [gI_s, gI_ne1, gI_ne2, gJ_s, gJ_ne1, gJ_ne2, gI_sJ, gJ_sI]) (fun i j hi => by simp (disch := omega) only [gI_s, gI_ne1, gI_ne2, gJ_s, gJ_ne1, gJ_ne2, gI_sJ, gJ_sI]) hM, ?_, iL_fr (fun i j hi => by simp (disch := omega) only [gI_s, gI_ne1, gI_ne2, gJ_s, gJ_ne1, gJ_ne2, gI_sJ, gJ_sI]) (fun j h1 h2 => (by simp (disch := omega) only [gI_s, gI_ne1, gI_ne2, gJ_s, gJ_ne1, gJ_ne2, gI_sJ, gJ_sI])) hL⟩
      · unfold iA
        simp (disch := omega) only [gI_s, gI_ne1, gI_ne2, gJ_s, gJ_ne1, gJ_ne2, gI_sJ, gJ_sI, true_and, and_true, and_self, a1, a2, a3, a4, a5, a6, b1, b2, b3, b4, b5, b6]
        omega
      · intro k' hk'
        by_cases e : k' = k
        · subst e
          refine ⟨fun m hm => ?_, ?_, ?_, ?_⟩
          · simp (disch := omega) only [gI_s, gI_ne1, gI_ne2, gJ_s, gJ_ne1, gJ_ne2, gI_sJ, gJ_sI]; exact k1 m hm
          · simp (disch := omega) only [gI_s, gI_ne1, gI_ne2, gJ_s, gJ_ne1, gJ_ne2, gI_sJ, gJ_sI, true_and]; exact ⟨s, s2, rfl⟩
          · simp (disch := omega) only [gI_s, gI_ne1, gI_ne2, gJ_s, gJ_ne1, gJ_ne2, gI_sJ, gJ_sI]; exact k4
          · simp (disch := omega) only [gI_s, gI_ne1, gI_ne2, gJ_s, gJ_ne1, gJ_ne2, gI_sJ, gJ_sI]; exact k5
        · exact iK1_fr (fun m _ => (by simp (disch := omega) only [gI_s, gI_ne1, gI_ne2, gJ_s, gJ_ne1, gJ_ne2, gI_sJ, gJ_sI])) (fun m _ => (by simp (disch := omega) only [gI_s, gI_ne1, gI_ne2, gJ_s, gJ_ne1, gJ_ne2, gI_sJ, gJ_sI])) (by simp (disch := omega) only [gI_s, gI_ne1, gI_ne2, gJ_s, gJ_ne1, gJ_ne2, gI_sJ, gJ_sI]) (by simp (disch := omega) only [gI_s, gI_ne1, gI_ne2, gJ_s, gJ_ne1, gJ_ne2, gI_sJ, gJ_sI]) (by simp (disch := omega) only [gI_s, gI_ne1, gI_ne2, gJ_s, gJ_ne1, gJ_ne2, gI_sJ, gJ_sI]) (by simp (disch := omega) only [gI_s, gI_ne1, gI_ne2, gJ_s, gJ_ne1, gJ_ne2, gI_sJ, gJ_sI]) (by simp (disch := omega) only [gI_s, gI_ne1, gI_ne2, gJ_s, gJ_ne1, gJ_ne2, gI_sJ, gJ_sI]) (by simp (disch := omega) only [gI_s, gI_ne1, gI_ne2, gJ_s, gJ_ne1, gJ_ne2, gI_sJ, gJ_sI]) (hK k' hk')
    · have p1 : fn_X5_bears nm M (nI k) y = some (m1, M) := by simp (disch := omega) only [fn_X5_bears, e_askerAt, nx_e, ck_t, ck_ok, bd1_s, bd1_n, bd2_s, oc_n, oc_s, l_0, l_1, l_2, l_3, l_4, l_5, l_6, l_7, l_8, l_11, l_12, l_31, l_39, l_40, l_59, l_60, l_100, l_500, l_1000, l_4095, l_9999, m1_e, ix_nI, ile_t, ile_f, ilt_t, ilt_f, ieq_t, ieq_f, nI_add, pk_mul, nI_sub, ile_m1, ilt_m1, ieq_m1, imle_m1, imlt_m1, imeq_m1, imeq_s, ieq_s, ile_s, ilt_s, gI_s, gI_ne1, gI_ne2, gJ_s, gJ_ne1, gJ_ne2, gI_sJ, gJ_sI, ibI0, ibI1, bI_t, bI_f, decide_true, decide_false, and_self, and_true, true_and, and_false, false_and, reduceIte, if_true, if_false, Nat.add_sub_cancel, e_within, e_in, hy]
      have p2 : fn_X6_bears M (nI k) y = some (m1, M) := by simp (disch := omega) only [fn_X6_bears, e_isAsker, nx_e, ck_t, ck_ok, bd1_s, bd1_n, bd2_s, oc_n, oc_s, l_0, l_1, l_2, l_3, l_4, l_5, l_6, l_7, l_8, l_11, l_12, l_31, l_39, l_40, l_59, l_60, l_100, l_500, l_1000, l_4095, l_9999, m1_e, ix_nI, ile_t, ile_f, ilt_t, ilt_f, ieq_t, ieq_f, nI_add, pk_mul, nI_sub, ile_m1, ilt_m1, ieq_m1, imle_m1, imlt_m1, imeq_m1, imeq_s, ieq_s, ile_s, ilt_s, gI_s, gI_ne1, gI_ne2, gJ_s, gJ_ne1, gJ_ne2, gI_sJ, gJ_sI, ibI0, ibI1, bI_t, bI_f, decide_true, decide_false, and_self, and_true, true_and, and_false, false_and, reduceIte, if_true, if_false, Nat.add_sub_cancel, e_within, e_in, hy]
      exact ⟨_, _, _, p1, p2, w, nf, ns, tl, gr, hA, hS, hF, hM, hK, hL⟩
  · have p1 : fn_X5_bears nm M x y = some (m1, M) := by simp (disch := omega) only [fn_X5_bears, e_askerAt0 hk, nx_e, ck_t, ck_ok, bd1_s, bd1_n, bd2_s, oc_n, oc_s, l_0, l_1, l_2, l_3, l_4, l_5, l_6, l_7, l_8, l_11, l_12, l_31, l_39, l_40, l_59, l_60, l_100, l_500, l_1000, l_4095, l_9999, m1_e, ix_nI, ile_t, ile_f, ilt_t, ilt_f, ieq_t, ieq_f, nI_add, pk_mul, nI_sub, ile_m1, ilt_m1, ieq_m1, imle_m1, imlt_m1, imeq_m1, imeq_s, ieq_s, ile_s, ilt_s, gI_s, gI_ne1, gI_ne2, gJ_s, gJ_ne1, gJ_ne2, gI_sJ, gJ_sI, ibI0, ibI1, bI_t, bI_f, decide_true, decide_false, and_self, and_true, true_and, and_false, false_and, reduceIte, if_true, if_false, Nat.add_sub_cancel, e_within, e_in]
    have p2 : fn_X6_bears M x y = some (m1, M) := by simp (disch := omega) only [fn_X6_bears, e_isAsker0 hk, nx_e, ck_t, ck_ok, bd1_s, bd1_n, bd2_s, oc_n, oc_s, l_0, l_1, l_2, l_3, l_4, l_5, l_6, l_7, l_8, l_11, l_12, l_31, l_39, l_40, l_59, l_60, l_100, l_500, l_1000, l_4095, l_9999, m1_e, ix_nI, ile_t, ile_f, ilt_t, ilt_f, ieq_t, ieq_f, nI_add, pk_mul, nI_sub, ile_m1, ilt_m1, ieq_m1, imle_m1, imlt_m1, imeq_m1, imeq_s, ieq_s, ile_s, ilt_s, gI_s, gI_ne1, gI_ne2, gJ_s, gJ_ne1, gJ_ne2, gI_sJ, gJ_sI, ibI0, ibI1, bI_t, bI_f, decide_true, decide_false, and_self, and_true, true_and, and_false, false_and, reduceIte, if_true, if_false, Nat.add_sub_cancel, e_within, e_in]
    exact ⟨_, _, _, p1, p2, w, nf, ns, tl, gr, hA, hS, hF, hM, hK, hL⟩
theorem e_costOf {M : Mem} {k m : Nat} (hm : m < 8) : fn_X0_costOf M k (nI m) = some (gI M (13 + 3 * k + 1) m) := by
  have h1 : nI 0 ≤ nI m ∧ nI m ≤ nI 7 := rng' (by omega) (by omega) (by omega)
  simp (disch := omega) only [fn_X0_costOf, nx_e, ck_t, ck_ok, bd1_s, bd1_n, bd2_s, oc_n, oc_s, l_0, l_1, l_2, l_3, l_4, l_5, l_6, l_7, l_8, l_11, l_12, l_31, l_39, l_40, l_59, l_60, l_100, l_500, l_1000, l_4095, l_9999, m1_e, ix_nI, ile_t, ile_f, ilt_t, ilt_f, ieq_t, ieq_f, nI_add, pk_mul, nI_sub, ile_m1, ilt_m1, ieq_m1, imle_m1, imlt_m1, imeq_m1, imeq_s, ieq_s, ile_s, ilt_s, gI_s, gI_ne1, gI_ne2, gJ_s, gJ_ne1, gJ_ne2, gI_sJ, gJ_sI, ibI0, ibI1, bI_t, bI_f, decide_true, decide_false, and_self, and_true, true_and, and_false, false_and, reduceIte, if_true, if_false, Nat.add_sub_cancel, e_within, e_in, h1]
theorem op_cost {nm : Nat} {M : Mem} (h : Inv nm M) (x y v : Int32) : ∃ r M1 M2, fn_X5_cost nm M x y v = some (r, M1) ∧ fn_X6_cost M1 x y v = some (r, M2) ∧ Inv nm M2 := by
  obtain ⟨w, nf, ns, tl, gr, hA, hS, hF, hM, hK, hL⟩ := h
  obtain ⟨⟨a1, a2, a3, a4, a5, a6⟩, ⟨b1, b2, b3, b4, b5, b6⟩, c1, c2, c3, c4, c5, c6, c7⟩ := id hA
  by_cases hk : ∃ k, k < 6 ∧ x = nI k
  · obtain ⟨k, hk, rfl⟩ := hk
    by_cases hm : ∃ m, m < nm ∧ y = nI m
    · obtain ⟨m, hm, rfl⟩ := hm
      have hm8 : m < 8 := by omega
      obtain ⟨k1, k2, k4, k5⟩ := hK k hk
      by_cases hv : m1 ≤ v ∧ v ≤ nI 100
      · have g1 : nI 0 ≤ nI m ∧ nI m ≤ nI 7 := rng' (by omega) (by omega) (by omega)
        have p1 : fn_X5_cost nm M (nI k) (nI m) v = some (gI M 54 (8 * k + m), sI M (13 + 3 * k + 1) m v) := by
          simp (disch := omega) only [fn_X5_cost, e_askerAt, e_mirrorAt hA hm, e_costOf hm8, fn_X0_setCost, nx_e, ck_t, ck_ok, bd1_s, bd1_n, bd2_s, oc_n, oc_s, l_0, l_1, l_2, l_3, l_4, l_5, l_6, l_7, l_8, l_11, l_12, l_31, l_39, l_40, l_59, l_60, l_100, l_500, l_1000, l_4095, l_9999, m1_e, ix_nI, ile_t, ile_f, ilt_t, ilt_f, ieq_t, ieq_f, nI_add, pk_mul, nI_sub, ile_m1, ilt_m1, ieq_m1, imle_m1, imlt_m1, imeq_m1, imeq_s, ieq_s, ile_s, ilt_s, gI_s, gI_ne1, gI_ne2, gJ_s, gJ_ne1, gJ_ne2, gI_sJ, gJ_sI, ibI0, ibI1, bI_t, bI_f, decide_true, decide_false, and_self, and_true, true_and, and_false, false_and, reduceIte, if_true, if_false, Nat.add_sub_cancel, e_within, e_in, hv, g1, (k1 m hm8).1]
        have p2 : fn_X6_cost (sI M (13 + 3 * k + 1) m v) (nI k) (nI m) v = some (gI M 54 (8 * k + m), sI (sI M (13 + 3 * k + 1) m v) 54 (8 * k + m) v) := by
          have hA' : iA nm w nf ns tl gr (sI M (13 + 3 * k + 1) m v) := by
            unfold iA
            simp (disch := omega) only [gI_s, gI_ne1, gI_ne2, gJ_s, gJ_ne1, gJ_ne2, gI_sJ, gJ_sI]
            exact hA
          simp (disch := omega) only [fn_X6_cost, e_isAsker, e_isMirror hA' hm, nx_e, ck_t, ck_ok, bd1_s, bd1_n, bd2_s, oc_n, oc_s, l_0, l_1, l_2, l_3, l_4, l_5, l_6, l_7, l_8, l_11, l_12, l_31, l_39, l_40, l_59, l_60, l_100, l_500, l_1000, l_4095, l_9999, m1_e, ix_nI, ile_t, ile_f, ilt_t, ilt_f, ieq_t, ieq_f, nI_add, pk_mul, nI_sub, ile_m1, ilt_m1, ieq_m1, imle_m1, imlt_m1, imeq_m1, imeq_s, ieq_s, ile_s, ilt_s, gI_s, gI_ne1, gI_ne2, gJ_s, gJ_ne1, gJ_ne2, gI_sJ, gJ_sI, ibI0, ibI1, bI_t, bI_f, decide_true, decide_false, and_self, and_true, true_and, and_false, false_and, reduceIte, if_true, if_false, Nat.add_sub_cancel, e_within, e_in, hv]
        refine ⟨_, _, _, p1, p2, w, nf, ns, tl, gr, ?_, iS_fr (fun i j hi => by simp (disch := omega) only [gI_s, gI_ne1, gI_ne2, gJ_s, gJ_ne1, gJ_ne2, gI_sJ, gJ_sI]) (fun i j hi => by simp (disch := omega) only [gI_s, gI_ne1, gI_ne2, gJ_s, gJ_ne1, gJ_ne2, gI_sJ, gJ_sI]) hS, iF_fr (fun i j hi => by simp (disch := omega) only [gI_s, gI_ne1, gI_ne2, gJ_s, gJ_ne1, gJ_ne2, gI_sJ, gJ_sI]) hF, iM_fr c3 hS (fun i j hi => by simp (disch := omega) only [gI_s, gI_ne1, gI_ne2, gJ_s, gJ_ne1, gJ_ne2, gI_sJ, gJ_sI]) (fun i j hi => by simp (disch := omega) only [gI_s, gI_ne1, gI_ne2, gJ_s, gJ_ne1, gJ_ne2, gI_sJ, gJ_sI]) hM, ?_, iL_fr (fun i j hi => by simp (disch := omega) only [gI_s, gI_ne1, gI_ne2, gJ_s, gJ_ne1, gJ_ne2, gI_sJ, gJ_sI]) (fun j h1 h2 => (by simp (disch := omega) only [gI_s, gI_ne1, gI_ne2, gJ_s, gJ_ne1, gJ_ne2, gI_sJ, gJ_sI])) hL⟩
        · unfold iA
          simp (disch := omega) only [gI_s, gI_ne1, gI_ne2, gJ_s, gJ_ne1, gJ_ne2, gI_sJ, gJ_sI, true_and, and_true, and_self, a1, a2, a3, a4, a5, a6, b1, b2, b3, b4, b5, b6]
          omega
        · intro k' hk'
          by_cases e : k' = k
          · subst e
            refine ⟨fun m' hm' => ?_, ?_, ?_, ?_⟩
            · by_cases em : m' = m
              · subst em
                simp (disch := omega) only [gI_s, gI_ne1, gI_ne2, gJ_s, gJ_ne1, gJ_ne2, gI_sJ, gJ_sI, true_and]
                by_cases e1 : v = m1
                · exact Or.inl e1
                · refine Or.inr ⟨hm, ?_⟩
                  have h0 : ¬ v < nI 0 := by
                    intro z
                    have z1 := hv.1
                    rw [Int32.lt_iff_toInt_lt, nI_toInt (by omega)] at z
                    rw [Int32.le_iff_toInt_le, show m1.toInt = -1 from rfl] at z1
                    refine e1 (Int32.toInt_inj.mp ?_)
                    rw [show m1.toInt = -1 from rfl]
                    omega
                  obtain ⟨c, hc, rfl⟩ := nI_of h0
                  exact ⟨c, (nI_leI (by omega) (by omega)).mp hv.2, rfl⟩
              · simp (disch := omega) only [gI_s, gI_ne1, gI_ne2, gJ_s, gJ_ne1, gJ_ne2, gI_sJ, gJ_sI]; exact k1 m' hm'
            · simp (disch := omega) only [gI_s, gI_ne1, gI_ne2, gJ_s, gJ_ne1, gJ_ne2, gI_sJ, gJ_sI]; exact k2
            · simp (disch := omega) only [gI_s, gI_ne1, gI_ne2, gJ_s, gJ_ne1, gJ_ne2, gI_sJ, gJ_sI]; exact k4
            · simp (disch := omega) only [gI_s, gI_ne1, gI_ne2, gJ_s, gJ_ne1, gJ_ne2, gI_sJ, gJ_sI]; exact k5
          · exact iK1_fr (fun m _ => (by simp (disch := omega) only [gI_s, gI_ne1, gI_ne2, gJ_s, gJ_ne1, gJ_ne2, gI_sJ, gJ_sI])) (fun m _ => (by simp (disch := omega) only [gI_s, gI_ne1, gI_ne2, gJ_s, gJ_ne1, gJ_ne2, gI_sJ, gJ_sI])) (by simp (disch := omega) only [gI_s, gI_ne1, gI_ne2, gJ_s, gJ_ne1, gJ_ne2, gI_sJ, gJ_sI]) (by simp (disch := omega) only [gI_s, gI_ne1, gI_ne2, gJ_s, gJ_ne1, gJ_ne2, gI_sJ, gJ_sI]) (by simp (disch := omega) only [gI_s, gI_ne1, gI_ne2, gJ_s, gJ_ne1, gJ_ne2, gI_sJ, gJ_sI]) (by simp (disch := omega) only [gI_s, gI_ne1, gI_ne2, gJ_s, gJ_ne1, gJ_ne2, gI_sJ, gJ_sI]) (by simp (disch := omega) only [gI_s, gI_ne1, gI_ne2, gJ_s, gJ_ne1, gJ_ne2, gI_sJ, gJ_sI]) (by simp (disch := omega) only [gI_s, gI_ne1, gI_ne2, gJ_s, gJ_ne1, gJ_ne2, gI_sJ, gJ_sI]) (hK k' hk')
      · have p1 : fn_X5_cost nm M (nI k) (nI m) v = some (-2, M) := by simp (disch := omega) only [fn_X5_cost, bk_X5_cost_30, e_askerAt, e_mirrorAt hA hm, nx_e, ck_t, ck_ok, bd1_s, bd1_n, bd2_s, oc_n, oc_s, l_0, l_1, l_2, l_3, l_4, l_5, l_6, l_7, l_8, l_11, l_12, l_31, l_39, l_40, l_59, l_60, l_100, l_500, l_1000, l_4095, l_9999, m1_e, ix_nI, ile_t, ile_f, ilt_t, ilt_f, ieq_t, ieq_f, nI_add, pk_mul, nI_sub, ile_m1, ilt_m1, ieq_m1, imle_m1, imlt_m1, imeq_m1, imeq_s, ieq_s, ile_s, ilt_s, gI_s, gI_ne1, gI_ne2, gJ_s, gJ_ne1, gJ_ne2, gI_sJ, gJ_sI, ibI0, ibI1, bI_t, bI_f, decide_true, decide_false, and_self, and_true, true_and, and_false, false_and, reduceIte, if_true, if_false, Nat.add_sub_cancel, e_within, e_in, hv]
        have p2 : fn_X6_cost M (nI k) (nI m) v = some (-2, M) := by simp (disch := omega) only [fn_X6_cost, bk_X6_cost_25, e_isAsker, e_isMirror hA hm, nx_e, ck_t, ck_ok, bd1_s, bd1_n, bd2_s, oc_n, oc_s, l_0, l_1, l_2, l_3, l_4, l_5, l_6, l_7, l_8, l_11, l_12, l_31, l_39, l_40, l_59, l_60, l_100, l_500, l_1000, l_4095, l_9999, m1_e, ix_nI, ile_t, ile_f, ilt_t, ilt_f, ieq_t, ieq_f, nI_add, pk_mul, nI_sub, ile_m1, ilt_m1, ieq_m1, imle_m1, imlt_m1, imeq_m1, imeq_s, ieq_s, ile_s, ilt_s, gI_s, gI_ne1, gI_ne2, gJ_s, gJ_ne1, gJ_ne2, gI_sJ, gJ_sI, ibI0, ibI1, bI_t, bI_f, decide_true, decide_false, and_self, and_true, true_and, and_false, false_and, reduceIte, if_true, if_false, Nat.add_sub_cancel, e_within, e_in, hv]
        exact ⟨_, _, _, p1, p2, w, nf, ns, tl, gr, hA, hS, hF, hM, hK, hL⟩
    · have p1 : fn_X5_cost nm M (nI k) y v = some (-2, M) := by simp (disch := omega) only [fn_X5_cost, bk_X5_cost_30, e_askerAt, e_mirrorAt0 hA hm, nx_e, ck_t, ck_ok, bd1_s, bd1_n, bd2_s, oc_n, oc_s, l_0, l_1, l_2, l_3, l_4, l_5, l_6, l_7, l_8, l_11, l_12, l_31, l_39, l_40, l_59, l_60, l_100, l_500, l_1000, l_4095, l_9999, m1_e, ix_nI, ile_t, ile_f, ilt_t, ilt_f, ieq_t, ieq_f, nI_add, pk_mul, nI_sub, ile_m1, ilt_m1, ieq_m1, imle_m1, imlt_m1, imeq_m1, imeq_s, ieq_s, ile_s, ilt_s, gI_s, gI_ne1, gI_ne2, gJ_s, gJ_ne1, gJ_ne2, gI_sJ, gJ_sI, ibI0, ibI1, bI_t, bI_f, decide_true, decide_false, and_self, and_true, true_and, and_false, false_and, reduceIte, if_true, if_false, Nat.add_sub_cancel, e_within, e_in]
      have p2 : fn_X6_cost M (nI k) y v = some (-2, M) := by simp (disch := omega) only [fn_X6_cost, bk_X6_cost_25, e_isAsker, e_isMirror0 hA hm, nx_e, ck_t, ck_ok, bd1_s, bd1_n, bd2_s, oc_n, oc_s, l_0, l_1, l_2, l_3, l_4, l_5, l_6, l_7, l_8, l_11, l_12, l_31, l_39, l_40, l_59, l_60, l_100, l_500, l_1000, l_4095, l_9999, m1_e, ix_nI, ile_t, ile_f, ilt_t, ilt_f, ieq_t, ieq_f, nI_add, pk_mul, nI_sub, ile_m1, ilt_m1, ieq_m1, imle_m1, imlt_m1, imeq_m1, imeq_s, ieq_s, ile_s, ilt_s, gI_s, gI_ne1, gI_ne2, gJ_s, gJ_ne1, gJ_ne2, gI_sJ, gJ_sI, ibI0, ibI1, bI_t, bI_f, decide_true, decide_false, and_self, and_true, true_and, and_false, false_and, reduceIte, if_true, if_false, Nat.add_sub_cancel, e_within, e_in]
      exact ⟨_, _, _, p1, p2, w, nf, ns, tl, gr, hA, hS, hF, hM, hK, hL⟩
  · have p1 : fn_X5_cost nm M x y v = some (-2, M) := by simp (disch := omega) only [fn_X5_cost, bk_X5_cost_30, e_askerAt0 hk, nx_e, ck_t, ck_ok, bd1_s, bd1_n, bd2_s, oc_n, oc_s, l_0, l_1, l_2, l_3, l_4, l_5, l_6, l_7, l_8, l_11, l_12, l_31, l_39, l_40, l_59, l_60, l_100, l_500, l_1000, l_4095, l_9999, m1_e, ix_nI, ile_t, ile_f, ilt_t, ilt_f, ieq_t, ieq_f, nI_add, pk_mul, nI_sub, ile_m1, ilt_m1, ieq_m1, imle_m1, imlt_m1, imeq_m1, imeq_s, ieq_s, ile_s, ilt_s, gI_s, gI_ne1, gI_ne2, gJ_s, gJ_ne1, gJ_ne2, gI_sJ, gJ_sI, ibI0, ibI1, bI_t, bI_f, decide_true, decide_false, and_self, and_true, true_and, and_false, false_and, reduceIte, if_true, if_false, Nat.add_sub_cancel, e_within, e_in]
    have p2 : fn_X6_cost M x y v = some (-2, M) := by simp (disch := omega) only [fn_X6_cost, bk_X6_cost_25, e_isAsker0 hk, nx_e, ck_t, ck_ok, bd1_s, bd1_n, bd2_s, oc_n, oc_s, l_0, l_1, l_2, l_3, l_4, l_5, l_6, l_7, l_8, l_11, l_12, l_31, l_39, l_40, l_59, l_60, l_100, l_500, l_1000, l_4095, l_9999, m1_e, ix_nI, ile_t, ile_f, ilt_t, ilt_f, ieq_t, ieq_f, nI_add, pk_mul, nI_sub, ile_m1, ilt_m1, ieq_m1, imle_m1, imlt_m1, imeq_m1, imeq_s, ieq_s, ile_s, ilt_s, gI_s, gI_ne1, gI_ne2, gJ_s, gJ_ne1, gJ_ne2, gI_sJ, gJ_sI, ibI0, ibI1, bI_t, bI_f, decide_true, decide_false, and_self, and_true, true_and, and_false, false_and, reduceIte, if_true, if_false, Nat.add_sub_cancel, e_within, e_in]
    exact ⟨_, _, _, p1, p2, w, nf, ns, tl, gr, hA, hS, hF, hM, hK, hL⟩
theorem e_forg {M : Mem} {k b : Nat} (hk : k < 6) (hb : gI M 57 k = nI b) : fn_X6_forgives M (nI k) = some (nI (cn (hbI (nI b)) 8), sI M 57 k (nI 0)) := by
  have L : ∀ (n : Nat) (a1 a2 : Int32), (∃ i, i ≤ 8 ∧ a2 = nI i ∧ a1 = nI (cn (hbI (nI b)) i)) → 8 - ix a2 < n → it2 (lq_X6_forgives_13 M (nI k)) n a1 a2 = some (nI (cn (hbI (nI b)) 8), sI M 57 k (nI 0)) := by
    refine it2_v (fun a1 a2 => ∃ i, i ≤ 8 ∧ a2 = nI i ∧ a1 = nI (cn (hbI (nI b)) i)) (fun _ a2 => 8 - ix a2) (fun _ _ => some (nI (cn (hbI (nI b)) 8), sI M 57 k (nI 0))) ?_
    rintro a1 a2 ⟨i, hi, rfl, rfl⟩ rc hrc
    by_cases e : i = 8
    · subst e
      simp (disch := omega) only [lq_X6_forgives_13, nx_e, ck_t, ck_ok, bd1_s, bd1_n, bd2_s, oc_n, oc_s, l_0, l_1, l_2, l_3, l_4, l_5, l_6, l_7, l_8, l_11, l_12, l_31, l_39, l_40, l_59, l_60, l_100, l_500, l_1000, l_4095, l_9999, m1_e, ix_nI, ile_t, ile_f, ilt_t, ilt_f, ieq_t, ieq_f, nI_add, pk_mul, nI_sub, ile_m1, ilt_m1, ieq_m1, imle_m1, imlt_m1, imeq_m1, imeq_s, ieq_s, ile_s, ilt_s, gI_s, gI_ne1, gI_ne2, gJ_s, gJ_ne1, gJ_ne2, gI_sJ, gJ_sI, ibI0, ibI1, bI_t, bI_f, decide_true, decide_false, and_self, and_true, true_and, and_false, false_and, reduceIte, if_true, if_false, Nat.add_sub_cancel, e_within, e_in]
    · simp (disch := omega) only [lq_X6_forgives_13, nx_e, ck_t, ck_ok, bd1_s, bd1_n, bd2_s, oc_n, oc_s, l_0, l_1, l_2, l_3, l_4, l_5, l_6, l_7, l_8, l_11, l_12, l_31, l_39, l_40, l_59, l_60, l_100, l_500, l_1000, l_4095, l_9999, m1_e, ix_nI, ile_t, ile_f, ilt_t, ilt_f, ieq_t, ieq_f, nI_add, pk_mul, nI_sub, ile_m1, ilt_m1, ieq_m1, imle_m1, imlt_m1, imeq_m1, imeq_s, ieq_s, ile_s, ilt_s, gI_s, gI_ne1, gI_ne2, gJ_s, gJ_ne1, gJ_ne2, gI_sJ, gJ_sI, ibI0, ibI1, bI_t, bI_f, decide_true, decide_false, and_self, and_true, true_and, and_false, false_and, reduceIte, if_true, if_false, Nat.add_sub_cancel, e_within, e_in, hb, e_shr2]
      refine hrc _ _ ⟨i + 1, by omega, rfl, ?_⟩ (by simp (disch := omega) only [ix_nI]; omega)
      rw [cn]
      cases hbI (nI b) i <;> simp [bI, nI_add, l_0, l_1]
  simp (disch := omega) only [fn_X6_forgives, e_isAsker, nx_e, ck_t, ck_ok, bd1_s, bd1_n, bd2_s, oc_n, oc_s, l_0, l_1, l_2, l_3, l_4, l_5, l_6, l_7, l_8, l_11, l_12, l_31, l_39, l_40, l_59, l_60, l_100, l_500, l_1000, l_4095, l_9999, m1_e, ix_nI, ile_t, ile_f, ilt_t, ilt_f, ieq_t, ieq_f, nI_add, pk_mul, nI_sub, ile_m1, ilt_m1, ieq_m1, imle_m1, imlt_m1, imeq_m1, imeq_s, ieq_s, ile_s, ilt_s, gI_s, gI_ne1, gI_ne2, gJ_s, gJ_ne1, gJ_ne2, gI_sJ, gJ_sI, ibI0, ibI1, bI_t, bI_f, decide_true, decide_false, and_self, and_true, true_and, and_false, false_and, reduceIte, if_true, if_false, Nat.add_sub_cancel, e_within, e_in]
  exact L FU _ _ ⟨0, by omega, rfl, rfl⟩ (by simp (disch := omega) only [ix_nI, FU]; omega)
theorem op_forgives {nm : Nat} {M : Mem} (h : Inv nm M) (x : Int32) : ∃ r M1 M2, fn_X5_forgives nm M x = some (r, M1) ∧ fn_X6_forgives M1 x = some (r, M2) ∧ Inv nm M2 := by
  obtain ⟨w, nf, ns, tl, gr, hA, hS, hF, hM, hK, hL⟩ := h
  obtain ⟨⟨a1, a2, a3, a4, a5, a6⟩, ⟨b1, b2, b3, b4, b5, b6⟩, c1, c2, c3, c4, c5, c6, c7⟩ := id hA
  by_cases hk : ∃ k, k < 6 ∧ x = nI k
  · obtain ⟨k, hk, rfl⟩ := hk
    obtain ⟨k1, k2, k4, ⟨k5, b, kb, k6⟩⟩ := hK k hk
    have p1 : fn_X5_forgives nm M (nI k) = some (nI (cn (hbI (nI b)) 8), sI M (13 + 3 * k) 5 (nI 0)) := by
      have := bc256 ⟨b, kb⟩
      dsimp only at this
      simp (disch := omega) only [fn_X5_forgives, e_askerAt, nx_e, ck_t, ck_ok, bd1_s, bd1_n, bd2_s, oc_n, oc_s, l_0, l_1, l_2, l_3, l_4, l_5, l_6, l_7, l_8, l_11, l_12, l_31, l_39, l_40, l_59, l_60, l_100, l_500, l_1000, l_4095, l_9999, m1_e, ix_nI, ile_t, ile_f, ilt_t, ilt_f, ieq_t, ieq_f, nI_add, pk_mul, nI_sub, ile_m1, ilt_m1, ieq_m1, imle_m1, imlt_m1, imeq_m1, imeq_s, ieq_s, ile_s, ilt_s, gI_s, gI_ne1, gI_ne2, gJ_s, gJ_ne1, gJ_ne2, gI_sJ, gJ_sI, ibI0, ibI1, bI_t, bI_f, decide_true, decide_false, and_self, and_true, true_and, and_false, false_and, reduceIte, if_true, if_false, Nat.add_sub_cancel, e_within, e_in, k5, k6, this]
    have p2 : fn_X6_forgives (sI M (13 + 3 * k) 5 (nI 0)) (nI k) = some (nI (cn (hbI (nI b)) 8), sI (sI M (13 + 3 * k) 5 (nI 0)) 57 k (nI 0)) := e_forg hk (by simp (disch := omega) only [gI_s, gI_ne1, gI_ne2, gJ_s, gJ_ne1, gJ_ne2, gI_sJ, gJ_sI]; exact k6)
    refine ⟨_, _, _, p1, p2, w, nf, ns, tl, gr, ?_, iS_fr (fun i j hi => by simp (disch := omega) only [gI_s, gI_ne1, gI_ne2, gJ_s, gJ_ne1, gJ_ne2, gI_sJ, gJ_sI]) (fun i j hi => by simp (disch := omega) only [gI_s, gI_ne1, gI_ne2, gJ_s, gJ_ne1, gJ_ne2, gI_sJ, gJ_sI]) hS, iF_fr (fun i j hi => by simp (disch := omega) only [gI_s, gI_ne1, gI_ne2, gJ_s, gJ_ne1, gJ_ne2, gI_sJ, gJ_sI]) hF, iM_fr c3 hS (fun i j hi => by simp (disch := omega) only [gI_s, gI_ne1, gI_ne2, gJ_s, gJ_ne1, gJ_ne2, gI_sJ, gJ_sI]) (fun i j hi => by simp (disch := omega) only [gI_s, gI_ne1, gI_ne2, gJ_s, gJ_ne1, gJ_ne2, gI_sJ, gJ_sI]) hM, ?_, iL_fr (fun i j hi => by simp (disch := omega) only [gI_s, gI_ne1, gI_ne2, gJ_s, gJ_ne1, gJ_ne2, gI_sJ, gJ_sI]) (fun j h1 h2 => (by simp (disch := omega) only [gI_s, gI_ne1, gI_ne2, gJ_s, gJ_ne1, gJ_ne2, gI_sJ, gJ_sI])) hL⟩
    · unfold iA
      simp (disch := omega) only [gI_s, gI_ne1, gI_ne2, gJ_s, gJ_ne1, gJ_ne2, gI_sJ, gJ_sI, true_and, and_true, and_self, a1, a2, a3, a4, a5, a6, b1, b2, b3, b4, b5, b6]
      omega
    · intro k' hk'
      by_cases e : k' = k
      · subst e
        refine ⟨fun m hm => ?_, ?_, ?_, ?_⟩
        · simp (disch := omega) only [gI_s, gI_ne1, gI_ne2, gJ_s, gJ_ne1, gJ_ne2, gI_sJ, gJ_sI]; exact k1 m hm
        · simp (disch := omega) only [gI_s, gI_ne1, gI_ne2, gJ_s, gJ_ne1, gJ_ne2, gI_sJ, gJ_sI]; exact k2
        · simp (disch := omega) only [gI_s, gI_ne1, gI_ne2, gJ_s, gJ_ne1, gJ_ne2, gI_sJ, gJ_sI]; exact k4
        · simp (disch := omega) only [gI_s, gI_ne1, gI_ne2, gJ_s, gJ_ne1, gJ_ne2, gI_sJ, gJ_sI, true_and]; exact ⟨0, by omega, rfl⟩
      · exact iK1_fr (fun m _ => (by simp (disch := omega) only [gI_s, gI_ne1, gI_ne2, gJ_s, gJ_ne1, gJ_ne2, gI_sJ, gJ_sI])) (fun m _ => (by simp (disch := omega) only [gI_s, gI_ne1, gI_ne2, gJ_s, gJ_ne1, gJ_ne2, gI_sJ, gJ_sI])) (by simp (disch := omega) only [gI_s, gI_ne1, gI_ne2, gJ_s, gJ_ne1, gJ_ne2, gI_sJ, gJ_sI]) (by simp (disch := omega) only [gI_s, gI_ne1, gI_ne2, gJ_s, gJ_ne1, gJ_ne2, gI_sJ, gJ_sI]) (by simp (disch := omega) only [gI_s, gI_ne1, gI_ne2, gJ_s, gJ_ne1, gJ_ne2, gI_sJ, gJ_sI]) (by simp (disch := omega) only [gI_s, gI_ne1, gI_ne2, gJ_s, gJ_ne1, gJ_ne2, gI_sJ, gJ_sI]) (by simp (disch := omega) only [gI_s, gI_ne1, gI_ne2, gJ_s, gJ_ne1, gJ_ne2, gI_sJ, gJ_sI]) (by simp (disch := omega) only [gI_s, gI_ne1, gI_ne2, gJ_s, gJ_ne1, gJ_ne2, gI_sJ, gJ_sI]) (hK k' hk')
  · have p1 : fn_X5_forgives nm M x = some (m1, M) := by simp (disch := omega) only [fn_X5_forgives, e_askerAt0 hk, nx_e, ck_t, ck_ok, bd1_s, bd1_n, bd2_s, oc_n, oc_s, l_0, l_1, l_2, l_3, l_4, l_5, l_6, l_7, l_8, l_11, l_12, l_31, l_39, l_40, l_59, l_60, l_100, l_500, l_1000, l_4095, l_9999, m1_e, ix_nI, ile_t, ile_f, ilt_t, ilt_f, ieq_t, ieq_f, nI_add, pk_mul, nI_sub, ile_m1, ilt_m1, ieq_m1, imle_m1, imlt_m1, imeq_m1, imeq_s, ieq_s, ile_s, ilt_s, gI_s, gI_ne1, gI_ne2, gJ_s, gJ_ne1, gJ_ne2, gI_sJ, gJ_sI, ibI0, ibI1, bI_t, bI_f, decide_true, decide_false, and_self, and_true, true_and, and_false, false_and, reduceIte, if_true, if_false, Nat.add_sub_cancel, e_within, e_in]
    have p2 : fn_X6_forgives M x = some (m1, M) := by simp (disch := omega) only [fn_X6_forgives, e_isAsker0 hk, nx_e, ck_t, ck_ok, bd1_s, bd1_n, bd2_s, oc_n, oc_s, l_0, l_1, l_2, l_3, l_4, l_5, l_6, l_7, l_8, l_11, l_12, l_31, l_39, l_40, l_59, l_60, l_100, l_500, l_1000, l_4095, l_9999, m1_e, ix_nI, ile_t, ile_f, ilt_t, ilt_f, ieq_t, ieq_f, nI_add, pk_mul, nI_sub, ile_m1, ilt_m1, ieq_m1, imle_m1, imlt_m1, imeq_m1, imeq_s, ieq_s, ile_s, ilt_s, gI_s, gI_ne1, gI_ne2, gJ_s, gJ_ne1, gJ_ne2, gI_sJ, gJ_sI, ibI0, ibI1, bI_t, bI_f, decide_true, decide_false, and_self, and_true, true_and, and_false, false_and, reduceIte, if_true, if_false, Nat.add_sub_cancel, e_within, e_in]
    exact ⟨_, _, _, p1, p2, w, nf, ns, tl, gr, hA, hS, hF, hM, hK, hL⟩
/-! mirrors -/
theorem iM_at {nm nf ns m : Nat} {M M' : Mem} (hm : m < nm) (h5 : ∀ s f, s < ns → f < 60 → hb (gJ M' 5 s) f = hb (gJ M 5 s) f) (h36 : ∀ f, f < nf → gI M' 36 f = gI M 36 f) (hnf : ∀ s f, s < ns → f < 60 → hb (gJ M 5 s) f = true → f < nf)
    (hI : ∀ i j, 62 ≤ i → i ≠ 62 + 2 * m → i ≠ 62 + 2 * m + 1 → gI M' i j = gI M i j) (hJ : ∀ i j, 62 ≤ i → i ≠ 62 + 2 * m → gJ M' i j = gJ M i j)
    (h40 : ∀ i j, 40 ≤ i → i ≤ 50 → i ≠ 48 → i ≠ 49 → j ≠ m → gI M' i j = gI M i j) (h48 : ∀ m' f, m' ≠ m → f < 60 → gI M' 48 (60 * m' + f) = gI M 48 (60 * m' + f)) (h49 : ∀ m' k, m' ≠ m → k < 3 → gI M' 49 (3 * m' + k) = gI M 49 (3 * m' + k))
    (h : iM nm nf ns M) (h1 : iM1 nf ns m M') : iM nm nf ns M' := by
  refine ⟨fun m' hm' => ?_, fun m' g1 g2 => ?_⟩
  · by_cases e : m' = m
    · subst e; exact h1
    · exact iM1_fr h5 h36 hnf (fun j => hI _ j (by omega) (by omega) (by omega)) (fun j => hJ _ j (by omega) (by omega)) (fun j => hI _ j (by omega) (by omega) (by omega)) (fun i q1 q2 => h40 i m' (by omega) (by omega) (by omega) (by omega) e) (fun f hf => h48 m' f e hf) (fun k hk => h49 m' k e hk) (h40 50 m' (by omega) (by omega) (by omega) (by omega) e) (h.1 m' hm')
  · have e : m' ≠ m := by omega
    have := h.2 m' g1 g2
    unfold iM0 at *
    rw [h40 43 m' (by omega) (by omega) (by omega) (by omega) e, h40 45 m' (by omega) (by omega) (by omega) (by omega) e, h40 46 m' (by omega) (by omega) (by omega) (by omega) e, h40 47 m' (by omega) (by omega) (by omega) (by omega) e, h40 50 m' (by omega) (by omega) (by omega) (by omega) e]
    exact ⟨this.1, this.2.1, this.2.2.1, this.2.2.2.1, fun f hf => by rw [h48 m' f e hf]; exact this.2.2.2.2.1 f hf, this.2.2.2.2.2⟩
theorem op_speed {nm : Nat} {M : Mem} (h : Inv nm M) (x y : Int32) : ∃ r M1 M2, fn_X5_speed nm M x y = some (r, M1) ∧ fn_X6_speed M1 x y = some (r, M2) ∧ Inv nm M2 := by
  obtain ⟨w, nf, ns, tl, gr, hA, hS, hF, hM, hK, hL⟩ := h
  obtain ⟨⟨a1, a2, a3, a4, a5, a6⟩, ⟨b1, b2, b3, b4, b5, b6⟩, c1, c2, c3, c4, c5, c6, c7⟩ := id hA
  by_cases hm : ∃ m, m < nm ∧ x = nI m
  · obtain ⟨m, hm, rfl⟩ := hm
    by_cases hy : nI 1 ≤ y ∧ y ≤ nI 1000
    · obtain ⟨s, s1, s2, rfl⟩ := rng (by omega) hy (by omega)
      obtain ⟨⟨m1, m2, ⟨m3, v, v1, v2, m4⟩, m5, m6, m7, m8, m9⟩, n1, n2, n3⟩ := hM.1 m hm
      have p1 : fn_X5_speed nm M (nI m) (nI s) = some (nI v, sI M (62 + 2 * m) 3 (nI s)) := by
        simp (disch := omega) only [fn_X5_speed, e_mirrorAt hA hm, nx_e, ck_t, ck_ok, bd1_s, bd1_n, bd2_s, oc_n, oc_s, l_0, l_1, l_2, l_3, l_4, l_5, l_6, l_7, l_8, l_11, l_12, l_31, l_39, l_40, l_59, l_60, l_100, l_500, l_1000, l_4095, l_9999, m1_e, ix_nI, ile_t, ile_f, ilt_t, ilt_f, ieq_t, ieq_f, nI_add, pk_mul, nI_sub, ile_m1, ilt_m1, ieq_m1, imle_m1, imlt_m1, imeq_m1, imeq_s, ieq_s, ile_s, ilt_s, gI_s, gI_ne1, gI_ne2, gJ_s, gJ_ne1, gJ_ne2, gI_sJ, gJ_sI, ibI0, ibI1, bI_t, bI_f, decide_true, decide_false, and_self, and_true, true_and, and_false, false_and, reduceIte, if_true, if_false, Nat.add_sub_cancel, e_within, e_in, hy, m3, m4]
      have hA' : iA nm w nf ns tl gr (sI M (62 + 2 * m) 3 (nI s)) := by
        unfold iA
        simp (disch := omega) only [gI_s, gI_ne1, gI_ne2, gJ_s, gJ_ne1, gJ_ne2, gI_sJ, gJ_sI]
        exact hA
      have p2 : fn_X6_speed (sI M (62 + 2 * m) 3 (nI s)) (nI m) (nI s) = some (nI v, sI (sI M (62 + 2 * m) 3 (nI s)) 41 m (nI s)) := by
        simp (disch := omega) only [fn_X6_speed, e_isMirror hA' hm, nx_e, ck_t, ck_ok, bd1_s, bd1_n, bd2_s, oc_n, oc_s, l_0, l_1, l_2, l_3, l_4, l_5, l_6, l_7, l_8, l_11, l_12, l_31, l_39, l_40, l_59, l_60, l_100, l_500, l_1000, l_4095, l_9999, m1_e, ix_nI, ile_t, ile_f, ilt_t, ilt_f, ieq_t, ieq_f, nI_add, pk_mul, nI_sub, ile_m1, ilt_m1, ieq_m1, imle_m1, imlt_m1, imeq_m1, imeq_s, ieq_s, ile_s, ilt_s, gI_s, gI_ne1, gI_ne2, gJ_s, gJ_ne1, gJ_ne2, gI_sJ, gJ_sI, ibI0, ibI1, bI_t, bI_f, decide_true, decide_false, and_self, and_true, true_and, and_false, false_and, reduceIte, if_true, if_false, Nat.add_sub_cancel, e_within, e_in, hy, m4]
      refine ⟨_, _, _, p1, p2, w, nf, ns, tl, gr, ?_, iS_fr (fun i j hi => by simp (disch := omega) only [gI_s, gI_ne1, gI_ne2, gJ_s, gJ_ne1, gJ_ne2, gI_sJ, gJ_sI]) (fun i j hi => by simp (disch := omega) only [gI_s, gI_ne1, gI_ne2, gJ_s, gJ_ne1, gJ_ne2, gI_sJ, gJ_sI]) hS, iF_fr (fun i j hi => by simp (disch := omega) only [gI_s, gI_ne1, gI_ne2, gJ_s, gJ_ne1, gJ_ne2, gI_sJ, gJ_sI]) hF, ?_, iK_fr (fun i j hi => by simp (disch := omega) only [gI_s, gI_ne1, gI_ne2, gJ_s, gJ_ne1, gJ_ne2, gI_sJ, gJ_sI]) hK, iL_fr (fun i j hi => by simp (disch := omega) only [gI_s, gI_ne1, gI_ne2, gJ_s, gJ_ne1, gJ_ne2, gI_sJ, gJ_sI]) (fun j h1 h2 => (by simp (disch := omega) only [gI_s, gI_ne1, gI_ne2, gJ_s, gJ_ne1, gJ_ne2, gI_sJ, gJ_sI])) hL⟩
      · unfold iA
        simp (disch := omega) only [gI_s, gI_ne1, gI_ne2, gJ_s, gJ_ne1, gJ_ne2, gI_sJ, gJ_sI, true_and, and_true, and_self, a1, a2, a3, a4, a5, a6, b1, b2, b3, b4, b5, b6]
        omega
      · refine iM_at hm (fun s f _ _ => (by simp (disch := omega) only [gI_s, gI_ne1, gI_ne2, gJ_s, gJ_ne1, gJ_ne2, gI_sJ, gJ_sI])) (fun f _ => (by simp (disch := omega) only [gI_s, gI_ne1, gI_ne2, gJ_s, gJ_ne1, gJ_ne2, gI_sJ, gJ_sI])) (iS_named c3 hS) (fun i j _ _ _ => (by simp (disch := omega) only [gI_s, gI_ne1, gI_ne2, gJ_s, gJ_ne1, gJ_ne2, gI_sJ, gJ_sI])) (fun i j _ _ => (by simp (disch := omega) only [gI_s, gI_ne1, gI_ne2, gJ_s, gJ_ne1, gJ_ne2, gI_sJ, gJ_sI])) (fun i j _ _ _ _ _ => (by simp (disch := omega) only [gI_s, gI_ne1, gI_ne2, gJ_s, gJ_ne1, gJ_ne2, gI_sJ, gJ_sI])) (fun m' f _ _ => (by simp (disch := omega) only [gI_s, gI_ne1, gI_ne2, gJ_s, gJ_ne1, gJ_ne2, gI_sJ, gJ_sI])) (fun m' k _ _ => (by simp (disch := omega) only [gI_s, gI_ne1, gI_ne2, gJ_s, gJ_ne1, gJ_ne2, gI_sJ, gJ_sI])) hM ⟨?_, ?_, ?_, ?_⟩
        · unfold iM1a
          simp (disch := omega) only [gI_s, gI_ne1, gI_ne2, gJ_s, gJ_ne1, gJ_ne2, gI_sJ, gJ_sI, true_and]
          exact ⟨m1, m2, ⟨s, s1, s2, rfl⟩, m5, m6, m7, m8, m9⟩
        · unfold iM1b
          simp (disch := omega) only [gI_s, gI_ne1, gI_ne2, gJ_s, gJ_ne1, gJ_ne2, gI_sJ, gJ_sI]
          exact n1
        · unfold iM1c
          simp (disch := omega) only [gI_s, gI_ne1, gI_ne2, gJ_s, gJ_ne1, gJ_ne2, gI_sJ, gJ_sI]
          exact n2
        · unfold iM1d iMd
          simp (disch := omega) only [gI_s, gI_ne1, gI_ne2, gJ_s, gJ_ne1, gJ_ne2, gI_sJ, gJ_sI]
          exact n3
    · have p1 : fn_X5_speed nm M (nI m) y = some (m1, M) := by simp (disch := omega) only [fn_X5_speed, e_mirrorAt hA hm, nx_e, ck_t, ck_ok, bd1_s, bd1_n, bd2_s, oc_n, oc_s, l_0, l_1, l_2, l_3, l_4, l_5, l_6, l_7, l_8, l_11, l_12, l_31, l_39, l_40, l_59, l_60, l_100, l_500, l_1000, l_4095, l_9999, m1_e, ix_nI, ile_t, ile_f, ilt_t, ilt_f, ieq_t, ieq_f, nI_add, pk_mul, nI_sub, ile_m1, ilt_m1, ieq_m1, imle_m1, imlt_m1, imeq_m1, imeq_s, ieq_s, ile_s, ilt_s, gI_s, gI_ne1, gI_ne2, gJ_s, gJ_ne1, gJ_ne2, gI_sJ, gJ_sI, ibI0, ibI1, bI_t, bI_f, decide_true, decide_false, and_self, and_true, true_and, and_false, false_and, reduceIte, if_true, if_false, Nat.add_sub_cancel, e_within, e_in, hy]
      have p2 : fn_X6_speed M (nI m) y = some (m1, M) := by simp (disch := omega) only [fn_X6_speed, e_isMirror hA hm, nx_e, ck_t, ck_ok, bd1_s, bd1_n, bd2_s, oc_n, oc_s, l_0, l_1, l_2, l_3, l_4, l_5, l_6, l_7, l_8, l_11, l_12, l_31, l_39, l_40, l_59, l_60, l_100, l_500, l_1000, l_4095, l_9999, m1_e, ix_nI, ile_t, ile_f, ilt_t, ilt_f, ieq_t, ieq_f, nI_add, pk_mul, nI_sub, ile_m1, ilt_m1, ieq_m1, imle_m1, imlt_m1, imeq_m1, imeq_s, ieq_s, ile_s, ilt_s, gI_s, gI_ne1, gI_ne2, gJ_s, gJ_ne1, gJ_ne2, gI_sJ, gJ_sI, ibI0, ibI1, bI_t, bI_f, decide_true, decide_false, and_self, and_true, true_and, and_false, false_and, reduceIte, if_true, if_false, Nat.add_sub_cancel, e_within, e_in, hy]
      exact ⟨_, _, _, p1, p2, w, nf, ns, tl, gr, hA, hS, hF, hM, hK, hL⟩
  · have p1 : fn_X5_speed nm M x y = some (m1, M) := by simp (disch := omega) only [fn_X5_speed, e_mirrorAt0 hA hm, nx_e, ck_t, ck_ok, bd1_s, bd1_n, bd2_s, oc_n, oc_s, l_0, l_1, l_2, l_3, l_4, l_5, l_6, l_7, l_8, l_11, l_12, l_31, l_39, l_40, l_59, l_60, l_100, l_500, l_1000, l_4095, l_9999, m1_e, ix_nI, ile_t, ile_f, ilt_t, ilt_f, ieq_t, ieq_f, nI_add, pk_mul, nI_sub, ile_m1, ilt_m1, ieq_m1, imle_m1, imlt_m1, imeq_m1, imeq_s, ieq_s, ile_s, ilt_s, gI_s, gI_ne1, gI_ne2, gJ_s, gJ_ne1, gJ_ne2, gI_sJ, gJ_sI, ibI0, ibI1, bI_t, bI_f, decide_true, decide_false, and_self, and_true, true_and, and_false, false_and, reduceIte, if_true, if_false, Nat.add_sub_cancel, e_within, e_in]
    have p2 : fn_X6_speed M x y = some (m1, M) := by simp (disch := omega) only [fn_X6_speed, e_isMirror0 hA hm, nx_e, ck_t, ck_ok, bd1_s, bd1_n, bd2_s, oc_n, oc_s, l_0, l_1, l_2, l_3, l_4, l_5, l_6, l_7, l_8, l_11, l_12, l_31, l_39, l_40, l_59, l_60, l_100, l_500, l_1000, l_4095, l_9999, m1_e, ix_nI, ile_t, ile_f, ilt_t, ilt_f, ieq_t, ieq_f, nI_add, pk_mul, nI_sub, ile_m1, ilt_m1, ieq_m1, imle_m1, imlt_m1, imeq_m1, imeq_s, ieq_s, ile_s, ilt_s, gI_s, gI_ne1, gI_ne2, gJ_s, gJ_ne1, gJ_ne2, gI_sJ, gJ_sI, ibI0, ibI1, bI_t, bI_f, decide_true, decide_false, and_self, and_true, true_and, and_false, false_and, reduceIte, if_true, if_false, Nat.add_sub_cancel, e_within, e_in]
    exact ⟨_, _, _, p1, p2, w, nf, ns, tl, gr, hA, hS, hF, hM, hK, hL⟩
theorem zb_b (b : Bool) : zb (bI b) = bI b := by cases b <;> rfl
theorem op_lies {nm : Nat} {M : Mem} (h : Inv nm M) (x : Int32) (b : Bool) : ∃ r M1 M2, fn_X5_lies nm M x (bI b) = some (r, M1) ∧ fn_X6_lies M1 x (bI b) = some (r, M2) ∧ Inv nm M2 := by
  obtain ⟨w, nf, ns, tl, gr, hA, hS, hF, hM, hK, hL⟩ := h
  obtain ⟨⟨a1, a2, a3, a4, a5, a6⟩, ⟨b1, b2, b3, b4, b5, b6⟩, c1, c2, c3, c4, c5, c6, c7⟩ := id hA
  by_cases hm : ∃ m, m < nm ∧ x = nI m
  · obtain ⟨m, hm, rfl⟩ := hm
    obtain ⟨⟨m1, m2, m3, m5, m6, m7, m8, ⟨m9, b', m10⟩⟩, n1, n2, n3⟩ := hM.1 m hm
    by_cases hy : bI b' = bI b
    · have p1 : fn_X5_lies nm M (nI m) (bI b) = some (nI 0, M) := by
        simp (disch := omega) only [fn_X5_lies, e_mirrorAt hA hm, nx_e, ck_t, ck_ok, bd1_s, bd1_n, bd2_s, oc_n, oc_s, l_0, l_1, l_2, l_3, l_4, l_5, l_6, l_7, l_8, l_11, l_12, l_31, l_39, l_40, l_59, l_60, l_100, l_500, l_1000, l_4095, l_9999, m1_e, ix_nI, ile_t, ile_f, ilt_t, ilt_f, ieq_t, ieq_f, nI_add, pk_mul, nI_sub, ile_m1, ilt_m1, ieq_m1, imle_m1, imlt_m1, imeq_m1, imeq_s, ieq_s, ile_s, ilt_s, gI_s, gI_ne1, gI_ne2, gJ_s, gJ_ne1, gJ_ne2, gI_sJ, gJ_sI, ibI0, ibI1, bI_t, bI_f, decide_true, decide_false, and_self, and_true, true_and, and_false, false_and, reduceIte, if_true, if_false, Nat.add_sub_cancel, e_within, e_in, m9, m10, hy]
      have p2 : fn_X6_lies M (nI m) (bI b) = some (nI 0, M) := by
        simp (disch := omega) only [fn_X6_lies, e_isMirror hA hm, nx_e, ck_t, ck_ok, bd1_s, bd1_n, bd2_s, oc_n, oc_s, l_0, l_1, l_2, l_3, l_4, l_5, l_6, l_7, l_8, l_11, l_12, l_31, l_39, l_40, l_59, l_60, l_100, l_500, l_1000, l_4095, l_9999, m1_e, ix_nI, ile_t, ile_f, ilt_t, ilt_f, ieq_t, ieq_f, nI_add, pk_mul, nI_sub, ile_m1, ilt_m1, ieq_m1, imle_m1, imlt_m1, imeq_m1, imeq_s, ieq_s, ile_s, ilt_s, gI_s, gI_ne1, gI_ne2, gJ_s, gJ_ne1, gJ_ne2, gI_sJ, gJ_sI, ibI0, ibI1, bI_t, bI_f, decide_true, decide_false, and_self, and_true, true_and, and_false, false_and, reduceIte, if_true, if_false, Nat.add_sub_cancel, e_within, e_in, m10, hy]
      exact ⟨_, _, _, p1, p2, w, nf, ns, tl, gr, hA, hS, hF, hM, hK, hL⟩
    · have p1 : fn_X5_lies nm M (nI m) (bI b) = some (nI 1, sI M (62 + 2 * m) 9 (bI b)) := by
        simp (disch := omega) only [fn_X5_lies, e_mirrorAt hA hm, nx_e, ck_t, ck_ok, bd1_s, bd1_n, bd2_s, oc_n, oc_s, l_0, l_1, l_2, l_3, l_4, l_5, l_6, l_7, l_8, l_11, l_12, l_31, l_39, l_40, l_59, l_60, l_100, l_500, l_1000, l_4095, l_9999, m1_e, ix_nI, ile_t, ile_f, ilt_t, ilt_f, ieq_t, ieq_f, nI_add, pk_mul, nI_sub, ile_m1, ilt_m1, ieq_m1, imle_m1, imlt_m1, imeq_m1, imeq_s, ieq_s, ile_s, ilt_s, gI_s, gI_ne1, gI_ne2, gJ_s, gJ_ne1, gJ_ne2, gI_sJ, gJ_sI, ibI0, ibI1, bI_t, bI_f, decide_true, decide_false, and_self, and_true, true_and, and_false, false_and, reduceIte, if_true, if_false, Nat.add_sub_cancel, e_within, e_in, m9, m10, hy]
      have hA' : iA nm w nf ns tl gr (sI M (62 + 2 * m) 9 (bI b)) := by
        unfold iA
        simp (disch := omega) only [gI_s, gI_ne1, gI_ne2, gJ_s, gJ_ne1, gJ_ne2, gI_sJ, gJ_sI]
        exact hA
      have p2 : fn_X6_lies (sI M (62 + 2 * m) 9 (bI b)) (nI m) (bI b) = some (nI 1, sI (sI M (62 + 2 * m) 9 (bI b)) 47 m (bI b)) := by
        simp (disch := omega) only [fn_X6_lies, e_isMirror hA' hm, nx_e, ck_t, ck_ok, bd1_s, bd1_n, bd2_s, oc_n, oc_s, l_0, l_1, l_2, l_3, l_4, l_5, l_6, l_7, l_8, l_11, l_12, l_31, l_39, l_40, l_59, l_60, l_100, l_500, l_1000, l_4095, l_9999, m1_e, ix_nI, ile_t, ile_f, ilt_t, ilt_f, ieq_t, ieq_f, nI_add, pk_mul, nI_sub, ile_m1, ilt_m1, ieq_m1, imle_m1, imlt_m1, imeq_m1, imeq_s, ieq_s, ile_s, ilt_s, gI_s, gI_ne1, gI_ne2, gJ_s, gJ_ne1, gJ_ne2, gI_sJ, gJ_sI, ibI0, ibI1, bI_t, bI_f, decide_true, decide_false, and_self, and_true, true_and, and_false, false_and, reduceIte, if_true, if_false, Nat.add_sub_cancel, e_within, e_in, m10, hy, zb_b]
      refine ⟨_, _, _, p1, p2, w, nf, ns, tl, gr, ?_, iS_fr (fun i j hi => by simp (disch := omega) only [gI_s, gI_ne1, gI_ne2, gJ_s, gJ_ne1, gJ_ne2, gI_sJ, gJ_sI]) (fun i j hi => by simp (disch := omega) only [gI_s, gI_ne1, gI_ne2, gJ_s, gJ_ne1, gJ_ne2, gI_sJ, gJ_sI]) hS, iF_fr (fun i j hi => by simp (disch := omega) only [gI_s, gI_ne1, gI_ne2, gJ_s, gJ_ne1, gJ_ne2, gI_sJ, gJ_sI]) hF, ?_, iK_fr (fun i j hi => by simp (disch := omega) only [gI_s, gI_ne1, gI_ne2, gJ_s, gJ_ne1, gJ_ne2, gI_sJ, gJ_sI]) hK, iL_fr (fun i j hi => by simp (disch := omega) only [gI_s, gI_ne1, gI_ne2, gJ_s, gJ_ne1, gJ_ne2, gI_sJ, gJ_sI]) (fun j h1 h2 => (by simp (disch := omega) only [gI_s, gI_ne1, gI_ne2, gJ_s, gJ_ne1, gJ_ne2, gI_sJ, gJ_sI])) hL⟩
      · unfold iA
        simp (disch := omega) only [gI_s, gI_ne1, gI_ne2, gJ_s, gJ_ne1, gJ_ne2, gI_sJ, gJ_sI, true_and, and_true, and_self, a1, a2, a3, a4, a5, a6, b1, b2, b3, b4, b5, b6]
        omega
      · refine iM_at hm (fun s f _ _ => (by simp (disch := omega) only [gI_s, gI_ne1, gI_ne2, gJ_s, gJ_ne1, gJ_ne2, gI_sJ, gJ_sI])) (fun f _ => (by simp (disch := omega) only [gI_s, gI_ne1, gI_ne2, gJ_s, gJ_ne1, gJ_ne2, gI_sJ, gJ_sI])) (iS_named c3 hS) (fun i j _ _ _ => (by simp (disch := omega) only [gI_s, gI_ne1, gI_ne2, gJ_s, gJ_ne1, gJ_ne2, gI_sJ, gJ_sI])) (fun i j _ _ => (by simp (disch := omega) only [gI_s, gI_ne1, gI_ne2, gJ_s, gJ_ne1, gJ_ne2, gI_sJ, gJ_sI])) (fun i j _ _ _ _ _ => (by simp (disch := omega) only [gI_s, gI_ne1, gI_ne2, gJ_s, gJ_ne1, gJ_ne2, gI_sJ, gJ_sI])) (fun m' f _ _ => (by simp (disch := omega) only [gI_s, gI_ne1, gI_ne2, gJ_s, gJ_ne1, gJ_ne2, gI_sJ, gJ_sI])) (fun m' k _ _ => (by simp (disch := omega) only [gI_s, gI_ne1, gI_ne2, gJ_s, gJ_ne1, gJ_ne2, gI_sJ, gJ_sI])) hM ⟨?_, ?_, ?_, ?_⟩
        · unfold iM1a
          simp (disch := omega) only [gI_s, gI_ne1, gI_ne2, gJ_s, gJ_ne1, gJ_ne2, gI_sJ, gJ_sI, true_and]
          exact ⟨m1, m2, m3, m5, m6, m7, m8, ⟨b, rfl⟩⟩
        · unfold iM1b
          simp (disch := omega) only [gI_s, gI_ne1, gI_ne2, gJ_s, gJ_ne1, gJ_ne2, gI_sJ, gJ_sI]
          exact n1
        · unfold iM1c
          simp (disch := omega) only [gI_s, gI_ne1, gI_ne2, gJ_s, gJ_ne1, gJ_ne2, gI_sJ, gJ_sI]
          exact n2
        · unfold iM1d iMd
          simp (disch := omega) only [gI_s, gI_ne1, gI_ne2, gJ_s, gJ_ne1, gJ_ne2, gI_sJ, gJ_sI]
          exact n3
  · have p1 : fn_X5_lies nm M x (bI b) = some (nI 0, M) := by simp (disch := omega) only [fn_X5_lies, e_mirrorAt0 hA hm, nx_e, ck_t, ck_ok, bd1_s, bd1_n, bd2_s, oc_n, oc_s, l_0, l_1, l_2, l_3, l_4, l_5, l_6, l_7, l_8, l_11, l_12, l_31, l_39, l_40, l_59, l_60, l_100, l_500, l_1000, l_4095, l_9999, m1_e, ix_nI, ile_t, ile_f, ilt_t, ilt_f, ieq_t, ieq_f, nI_add, pk_mul, nI_sub, ile_m1, ilt_m1, ieq_m1, imle_m1, imlt_m1, imeq_m1, imeq_s, ieq_s, ile_s, ilt_s, gI_s, gI_ne1, gI_ne2, gJ_s, gJ_ne1, gJ_ne2, gI_sJ, gJ_sI, ibI0, ibI1, bI_t, bI_f, decide_true, decide_false, and_self, and_true, true_and, and_false, false_and, reduceIte, if_true, if_false, Nat.add_sub_cancel, e_within, e_in]
    have p2 : fn_X6_lies M x (bI b) = some (nI 0, M) := by simp (disch := omega) only [fn_X6_lies, e_isMirror0 hA hm, nx_e, ck_t, ck_ok, bd1_s, bd1_n, bd2_s, oc_n, oc_s, l_0, l_1, l_2, l_3, l_4, l_5, l_6, l_7, l_8, l_11, l_12, l_31, l_39, l_40, l_59, l_60, l_100, l_500, l_1000, l_4095, l_9999, m1_e, ix_nI, ile_t, ile_f, ilt_t, ilt_f, ieq_t, ieq_f, nI_add, pk_mul, nI_sub, ile_m1, ilt_m1, ieq_m1, imle_m1, imlt_m1, imeq_m1, imeq_s, ieq_s, ile_s, ilt_s, gI_s, gI_ne1, gI_ne2, gJ_s, gJ_ne1, gJ_ne2, gI_sJ, gJ_sI, ibI0, ibI1, bI_t, bI_f, decide_true, decide_false, and_self, and_true, true_and, and_false, false_and, reduceIte, if_true, if_false, Nat.add_sub_cancel, e_within, e_in]
    exact ⟨_, _, _, p1, p2, w, nf, ns, tl, gr, hA, hS, hF, hM, hK, hL⟩
