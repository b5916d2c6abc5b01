theorem op_yank {nm : Nat} {M : Mem} (h : Inv nm M) (x : Int32) : ∃ r M1 M2, fn_X5_yank M x = some (r, M1) ∧ fn_X6_yank M1 x = some (r, M2) ∧ Inv nm M2 := by
  obtain ⟨w, nf, ns, tl, gr, hI⟩ := h
  obtain ⟨hA, hS, hF, hM, hK, hL⟩ := id hI
  obtain ⟨⟨a1, a2, a3, a4, a5, a6⟩, ⟨b1, b2, b3, b4, b5, b6⟩, c1, c2, c3, c4, c5, c6, c7⟩ := id hA
  have stay : fn_X4_addYank M x (nI w) = some (m1, M) → fn_X6_yank M x = some (m1, M) → ∃ r M1 M2, fn_X5_yank M x = some (r, M1) ∧ fn_X6_yank M1 x = some (r, M2) ∧ Inv nm M2 := fun p1 p2 => ⟨m1, M, M, by unfold fn_X5_yank; rw [a2, p1]; rfl, p2, w, nf, ns, tl, gr, hI⟩
  by_cases hn : ns < 60
  · by_cases hf : ∃ f, f < nf ∧ x = nI f
    · obtain ⟨f, hf, rfl⟩ := hf
      rcases hS.2.1.1 f hf with ⟨q1, q2, t, q3, q4⟩ | ⟨q1, q2⟩
      · refine stay ?_ ?_
        · simp (disch := omega) only [fn_X4_addYank, nx_e, ck_t, ck_ok, bd1_s, bd1_n, bd2_s, oc_n, oc_s, l_0, l_1, l_2, l_3, l_4, l_5, l_6, l_7, l_8, l_11, l_12, l_31, l_39, l_40, l_59, l_60, l_100, l_500, l_1000, l_4095, l_9999, m1_e, ix_nI, ile_t, ile_f, ilt_t, ilt_f, ieq_t, ieq_f, nI_add, pk_mul, nI_sub, ile_m1, ilt_m1, ieq_m1, imle_m1, imlt_m1, imeq_m1, imeq_s, ieq_s, ile_s, ilt_s, gI_s, gI_ne1, gI_ne2, gJ_s, gJ_ne1, gJ_ne2, gI_sJ, gJ_sI, ibI0, ibI1, bI_t, bI_f, decide_true, decide_false, and_self, and_true, true_and, and_false, false_and, reduceIte, if_true, if_false, Nat.add_sub_cancel, e_within, e_in, e_may hA hf hn, q1, Bool.not_true]
        · simp (disch := omega) only [fn_X6_yank, nx_e, ck_t, ck_ok, bd1_s, bd1_n, bd2_s, oc_n, oc_s, l_0, l_1, l_2, l_3, l_4, l_5, l_6, l_7, l_8, l_11, l_12, l_31, l_39, l_40, l_59, l_60, l_100, l_500, l_1000, l_4095, l_9999, m1_e, ix_nI, ile_t, ile_f, ilt_t, ilt_f, ieq_t, ieq_f, nI_add, pk_mul, nI_sub, ile_m1, ilt_m1, ieq_m1, imle_m1, imlt_m1, imeq_m1, imeq_s, ieq_s, ile_s, ilt_s, gI_s, gI_ne1, gI_ne2, gJ_s, gJ_ne1, gJ_ne2, gI_sJ, gJ_sI, ibI0, ibI1, bI_t, bI_f, decide_true, decide_false, and_self, and_true, true_and, and_false, false_and, reduceIte, if_true, if_false, Nat.add_sub_cancel, e_within, e_in, b4, e_isFile hA hf, q4]
      · obtain ⟨Ma, eMa⟩ : ∃ Ma, Ma = sI (sI (cpI (sI (sJ M 1 7 (gJ M 1 7 ||| bt f)) 3 f (nI w)) 6 (12 * (ns - 1)) (12 * ns) 12) 4 ns (nI w)) 1 6 (nI (ns + 1)) := ⟨_, rfl⟩
        obtain ⟨N, eN⟩ : ∃ N : Nat → Int32, N = fun p' => if gI M 39 (12 * (ns - 1) + p') = nI f then m1 else gI M 39 (12 * (ns - 1) + p') := ⟨_, rfl⟩
        have hN : ∀ p', p' < 12 → N p' = m1 ∨ ∃ f, f < nf ∧ N p' = nI f := by
          intro p' hp'
          rw [eN]
          by_cases e : gI M 39 (12 * (ns - 1) + p') = nI f
          · simp only [e, if_true, true_or]
          · simp only [e, if_false]
            exact (hS.2.2.2.1 (ns - 1) p' (by omega) hp').2
        have k16 : gI Ma 1 6 = nI (ns + 1) := by rw [eMa]; simp (disch := omega) only [gI_s, gI_ne1, gI_ne2, gJ_s, gJ_ne1, gJ_ne2, gI_sJ, gJ_sI]
        have r6 : ∀ p', p' < 12 → gI Ma 6 (12 * ns + p') = gI M 39 (12 * (ns - 1) + p') := by
          intro p' hp'
          rw [eMa, gI_if, if_neg (by omega), gI_if, if_neg (by omega), gI_cp, if_pos ⟨rfl, by omega, by omega⟩, gI_if, if_neg (by omega), gI_sJ, show 12 * (ns - 1) + (12 * ns + p' - 12 * ns) = 12 * (ns - 1) + p' by omega]
          exact (hS.2.2.2.1 (ns - 1) p' (by omega) hp').1
        have LX := it2_h (f := lq_X4_addYank_42 (nI f) (nI ns)) (fun K c => ∃ i, i ≤ 12 ∧ c = nI (12 * ns + i) ∧ (∀ a j, gI K a j = if a = 6 ∧ 12 * ns ≤ j ∧ j < 12 * ns + i then N (j - 12 * ns) else gI Ma a j) ∧ ∀ a j, gJ K a j = gJ Ma a j) (fun _ c => 12 * ns + 12 - ix c)
          (fun _ _ r => ∃ K yy, r = (nI ns, sJ K 5 ns yy) ∧ (∀ a j, gI K a j = if a = 6 ∧ 12 * ns ≤ j ∧ j < 12 * ns + 12 then N (j - 12 * ns) else gI Ma a j) ∧ (∀ a j, gJ K a j = gJ Ma a j) ∧ ∀ g, g < 64 → hb yy g = anyB (fun p => decide (N p = nI g)) 12) (by
          rintro K c ⟨i, hi, rfl, hk, hkJ⟩ rc hrc
          by_cases e : i = 12
          · subst e
            have kk : gI K 1 6 = nI (ns + 1) := by rw [hk, if_neg (by omega)]; exact k16
            have kr : ∀ p', p' < 12 → gI K 6 (12 * ns + p') = N p' := fun p' hp' => by
              rw [hk, if_pos ⟨rfl, by omega, by omega⟩]
              congr 1
              omega
            obtain ⟨yy, g3, g4⟩ := e_gather (M := K) (ns := ns + 1) (s := ns) kk (by omega) (by omega) (fun p' hp' => by
              rw [kr p' hp']
              rcases hN p' hp' with z | ⟨f', z1, z2⟩
              · exact Or.inl z
              · exact Or.inr ⟨f', by omega, z2⟩)
            refine ⟨_, ?_, K, yy, rfl, hk, hkJ, fun g hg => ?_⟩
            · have e12 : (ns + 1) * 12 = 12 * ns + 12 := by omega
              simp (disch := omega) only [lq_X4_addYank_42, nx_e, ck_t, ck_ok, bd1_s, bd1_n, bd2_s, oc_n, oc_s, l_0, l_1, l_2, l_3, l_4, l_5, l_6, l_7, l_8, l_11, l_12, l_31, l_39, l_40, l_59, l_60, l_100, l_500, l_1000, l_4095, l_9999, m1_e, ix_nI, ile_t, ile_f, ilt_t, ilt_f, ieq_t, ieq_f, nI_add, pk_mul, nI_sub, ile_m1, ilt_m1, ieq_m1, imle_m1, imlt_m1, imeq_m1, imeq_s, ieq_s, ile_s, ilt_s, gI_s, gI_ne1, gI_ne2, gJ_s, gJ_ne1, gJ_ne2, gI_sJ, gJ_sI, ibI0, ibI1, bI_t, bI_f, decide_true, decide_false, and_self, and_true, true_and, and_false, false_and, reduceIte, if_true, if_false, Nat.add_sub_cancel, e_within, e_in, e12, g3]
            · rw [g4 g hg]
              exact anyB_cong (fun k hk2 => by rw [kr k hk2])
          · have kc : gI K 6 (12 * ns + i) = gI M 39 (12 * (ns - 1) + i) := by
              rw [hk, if_neg (by omega)]
              exact r6 i (by omega)
            by_cases z : gI M 39 (12 * (ns - 1) + i) = nI f
            · simp (disch := omega) only [lq_X4_addYank_42, bk_X4_addYank_72, nx_e, ck_t, ck_ok, bd1_s, bd1_n, bd2_s, oc_n, oc_s, l_0, l_1, l_2, l_3, l_4, l_5, l_6, l_7, l_8, l_11, l_12, l_31, l_39, l_40, l_59, l_60, l_100, l_500, l_1000, l_4095, l_9999, m1_e, ix_nI, ile_t, ile_f, ilt_t, ilt_f, ieq_t, ieq_f, nI_add, pk_mul, nI_sub, ile_m1, ilt_m1, ieq_m1, imle_m1, imlt_m1, imeq_m1, imeq_s, ieq_s, ile_s, ilt_s, gI_s, gI_ne1, gI_ne2, gJ_s, gJ_ne1, gJ_ne2, gI_sJ, gJ_sI, ibI0, ibI1, bI_t, bI_f, decide_true, decide_false, and_self, and_true, true_and, and_false, false_and, reduceIte, if_true, if_false, Nat.add_sub_cancel, e_within, e_in, kc, z]
              refine hrc _ _ ⟨i + 1, by omega, by congr 1, fun a j => ?_, fun a j => hkJ a j⟩ (by rw [ix_nI (by omega), ix_nI (by omega)]; omega)
              rw [gI_if, hk]
              by_cases y1 : a = 6 ∧ j = 12 * ns + i
              · rw [if_pos y1, if_pos (by omega), eN, y1.2, show 12 * ns + i - 12 * ns = i by omega]
                simp only [z, if_true]
              · rw [if_neg y1]
                by_cases y2 : a = 6 ∧ 12 * ns ≤ j ∧ j < 12 * ns + i
                · rw [if_pos y2, if_pos (by omega)]
                · rw [if_neg y2, if_neg (by omega)]
            · simp (disch := omega) only [lq_X4_addYank_42, bk_X4_addYank_72, nx_e, ck_t, ck_ok, bd1_s, bd1_n, bd2_s, oc_n, oc_s, l_0, l_1, l_2, l_3, l_4, l_5, l_6, l_7, l_8, l_11, l_12, l_31, l_39, l_40, l_59, l_60, l_100, l_500, l_1000, l_4095, l_9999, m1_e, ix_nI, ile_t, ile_f, ilt_t, ilt_f, ieq_t, ieq_f, nI_add, pk_mul, nI_sub, ile_m1, ilt_m1, ieq_m1, imle_m1, imlt_m1, imeq_m1, imeq_s, ieq_s, ile_s, ilt_s, gI_s, gI_ne1, gI_ne2, gJ_s, gJ_ne1, gJ_ne2, gI_sJ, gJ_sI, ibI0, ibI1, bI_t, bI_f, decide_true, decide_false, and_self, and_true, true_and, and_false, false_and, reduceIte, if_true, if_false, Nat.add_sub_cancel, e_within, e_in, kc, z]
              refine hrc _ _ ⟨i + 1, by omega, by congr 1, fun a j => ?_, hkJ⟩ (by rw [ix_nI (by omega), ix_nI (by omega)]; omega)
              rw [hk]
              by_cases y1 : a = 6 ∧ j = 12 * ns + i
              · rw [if_neg (by omega), if_pos (by omega), eN, y1.1, y1.2, show 12 * ns + i - 12 * ns = i by omega, r6 i (by omega)]
                simp only [z, if_false]
              · by_cases y2 : a = 6 ∧ 12 * ns ≤ j ∧ j < 12 * ns + i
                · rw [if_pos y2, if_pos (by omega)]
                · rw [if_neg y2, if_neg (by omega)])
        obtain ⟨rr, x1, K, yy, rfl, hk, hkJ, hyy⟩ := LX FU Ma (nI (12 * ns)) ⟨0, by omega, rfl, fun a j => by rw [if_neg (by omega)], fun _ _ => rfl⟩ (by rw [ix_nI (by omega)]; show 12 * ns + 12 - 12 * ns < 1000; omega)
        have e12 : ns * 12 = 12 * ns := by omega
        have a4' : gI (sI (sJ M 1 7 (gJ M 1 7 ||| bt f)) 3 f (nI w)) 1 6 = nI ns := by rw [gI_if, if_neg (by omega), gI_sJ]; exact a4
        have p1 : fn_X5_yank M (nI f) = some (nI ns, sJ K 5 ns yy) := by
          simp (disch := omega) only [fn_X5_yank, fn_X4_addYank, nx_e, ck_t, ck_ok, bd1_s, bd1_n, bd2_s, oc_n, oc_s, l_0, l_1, l_2, l_3, l_4, l_5, l_6, l_7, l_8, l_11, l_12, l_31, l_39, l_40, l_59, l_60, l_100, l_500, l_1000, l_4095, l_9999, m1_e, ix_nI, ile_t, ile_f, ilt_t, ilt_f, ieq_t, ieq_f, nI_add, pk_mul, nI_sub, ile_m1, ilt_m1, ieq_m1, imle_m1, imlt_m1, imeq_m1, imeq_s, ieq_s, ile_s, ilt_s, gI_s, gI_ne1, gI_ne2, gJ_s, gJ_ne1, gJ_ne2, gI_sJ, gJ_sI, ibI0, ibI1, bI_t, bI_f, decide_true, decide_false, and_self, and_true, true_and, and_false, false_and, reduceIte, if_true, if_false, Nat.add_sub_cancel, e_within, e_in, a2, e_may hA hf hn, q1, Bool.not_false, e_bitOf, e_addState a4' c4 hn]
          rw [e12, ← eMa, x1]
          rfl
        have kI : ∀ i j, i ≠ 3 → i ≠ 4 → i ≠ 6 → ¬ (i = 1 ∧ j = 6) → gI (sJ K 5 ns yy) i j = gI M i j := by
          intro i j i3 i4 i6 i16
          rw [gI_sJ, hk, if_neg (by omega), eMa, gI_if, if_neg (by omega), gI_if, if_neg (by omega), gI_cpn (by omega), gI_if, if_neg (by omega), gI_sJ]
        obtain ⟨M1, eM1⟩ : ∃ M1, M1 = sJ K 5 ns yy := ⟨_, rfl⟩
        rw [← eM1] at p1 kI
        have k4 : gI M1 35 4 = nI ns := by rw [kI 35 4 (by omega) (by omega) (by omega) (by omega)]; exact b4
        have k0 : gI M1 35 0 = nI w := by rw [kI 35 0 (by omega) (by omega) (by omega) (by omega)]; exact b2
        have k1 : gI M1 35 1 = nI nf := by rw [kI 35 1 (by omega) (by omega) (by omega) (by omega)]; exact b3
        have k37 : gI M1 37 f = m1 := by rw [kI 37 f (by omega) (by omega) (by omega) (by omega)]; exact q2
        have k39 : ∀ j, gI M1 39 j = gI M 39 j := fun j => kI 39 j (by omega) (by omega) (by omega) (by omega)
        obtain ⟨M', z1, z2, z3⟩ := e_comes k4 k0 c4 hn
        have kf : fn_X6_isFile M1 (nI f) = some (nI 1) := by
          have h1 : nI 0 ≤ nI f ∧ nI f ≤ nI (nf - 1) := rng' (by omega) (by omega) (by omega)
          simp (disch := omega) only [fn_X6_isFile, nx_e, ck_t, ck_ok, bd1_s, bd1_n, bd2_s, oc_n, oc_s, l_0, l_1, l_2, l_3, l_4, l_5, l_6, l_7, l_8, l_11, l_12, l_31, l_39, l_40, l_59, l_60, l_100, l_500, l_1000, l_4095, l_9999, m1_e, ix_nI, ile_t, ile_f, ilt_t, ilt_f, ieq_t, ieq_f, nI_add, pk_mul, nI_sub, ile_m1, ilt_m1, ieq_m1, imle_m1, imlt_m1, imeq_m1, imeq_s, ieq_s, ile_s, ilt_s, gI_s, gI_ne1, gI_ne2, gJ_s, gJ_ne1, gJ_ne2, gI_sJ, gJ_sI, ibI0, ibI1, bI_t, bI_f, decide_true, decide_false, and_self, and_true, true_and, and_false, false_and, reduceIte, if_true, if_false, Nat.add_sub_cancel, e_within, e_in, h1, k1]
        have k4' : gI M' 35 4 = nI (ns + 1) := by rw [z2, if_neg (by omega), if_neg (by omega), if_pos ⟨rfl, rfl⟩]
        have k0' : gI M' 35 0 = nI w := by rw [z2, if_neg (by omega), if_neg (by omega), if_neg (by omega)]; exact k0
        obtain ⟨Mc, eMc⟩ : ∃ Mc, Mc = sI M' 37 f (nI w) := ⟨_, rfl⟩
        have LM := it2_h (f := lq_X6_yank_45 (nI f)) (fun K c => ∃ i, i ≤ 12 ∧ c = nI i ∧ (∀ a j, gI K a j = if a = 39 ∧ 12 * ns ≤ j ∧ j < 12 * ns + i then N (j - 12 * ns) else gI Mc a j) ∧ ∀ a j, gJ K a j = gJ Mc a j) (fun _ c => 12 - ix c)
          (fun _ _ r => ∃ K, r = (nI ns, K) ∧ (∀ a j, gI K a j = if a = 39 ∧ 12 * ns ≤ j ∧ j < 12 * ns + 12 then N (j - 12 * ns) else gI Mc a j) ∧ ∀ a j, gJ K a j = gJ Mc a j) (by
          rintro K c ⟨i, hi, rfl, hk, hkJ⟩ rc hrc
          have kk : gI K 35 4 = nI (ns + 1) := by rw [hk, if_neg (by omega), eMc, gI_if, if_neg (by omega)]; exact k4'
          by_cases e : i = 12
          · subst e
            refine ⟨_, ?_, K, rfl, hk, hkJ⟩
            simp (disch := omega) only [lq_X6_yank_45, nx_e, ck_t, ck_ok, bd1_s, bd1_n, bd2_s, oc_n, oc_s, l_0, l_1, l_2, l_3, l_4, l_5, l_6, l_7, l_8, l_11, l_12, l_31, l_39, l_40, l_59, l_60, l_100, l_500, l_1000, l_4095, l_9999, m1_e, ix_nI, ile_t, ile_f, ilt_t, ilt_f, ieq_t, ieq_f, nI_add, pk_mul, nI_sub, ile_m1, ilt_m1, ieq_m1, imle_m1, imlt_m1, imeq_m1, imeq_s, ieq_s, ile_s, ilt_s, gI_s, gI_ne1, gI_ne2, gJ_s, gJ_ne1, gJ_ne2, gI_sJ, gJ_sI, ibI0, ibI1, bI_t, bI_f, decide_true, decide_false, and_self, and_true, true_and, and_false, false_and, reduceIte, if_true, if_false, Nat.add_sub_cancel, e_within, e_in, kk]
          · have kc : gI K 39 (12 * ns + i) = gI M 39 (12 * (ns - 1) + i) := by
              rw [hk, if_neg (by omega), eMc, gI_if, if_neg (by omega), z2, if_pos ⟨rfl, by omega, by omega⟩, k39]
              congr 1
              omega
            by_cases z : gI M 39 (12 * (ns - 1) + i) = nI f
            · simp (disch := omega) only [lq_X6_yank_45, bk_X6_yank_88, nx_e, ck_t, ck_ok, bd1_s, bd1_n, bd2_s, oc_n, oc_s, l_0, l_1, l_2, l_3, l_4, l_5, l_6, l_7, l_8, l_11, l_12, l_31, l_39, l_40, l_59, l_60, l_100, l_500, l_1000, l_4095, l_9999, m1_e, ix_nI, ile_t, ile_f, ilt_t, ilt_f, ieq_t, ieq_f, nI_add, pk_mul, nI_sub, ile_m1, ilt_m1, ieq_m1, imle_m1, imlt_m1, imeq_m1, imeq_s, ieq_s, ile_s, ilt_s, gI_s, gI_ne1, gI_ne2, gJ_s, gJ_ne1, gJ_ne2, gI_sJ, gJ_sI, ibI0, ibI1, bI_t, bI_f, decide_true, decide_false, and_self, and_true, true_and, and_false, false_and, reduceIte, if_true, if_false, Nat.add_sub_cancel, e_within, e_in, kk, kc, z]
              refine hrc _ _ ⟨i + 1, by omega, rfl, fun a j => ?_, fun a j => hkJ a j⟩ (by rw [ix_nI (by omega), ix_nI (by omega)]; omega)
              rw [gI_if, hk]
              by_cases y1 : a = 39 ∧ j = 12 * ns + i
              · rw [if_pos y1, if_pos (by omega), eN, y1.2, show 12 * ns + i - 12 * ns = i by omega]
                simp only [z, if_true]
              · rw [if_neg y1]
                by_cases y2 : a = 39 ∧ 12 * ns ≤ j ∧ j < 12 * ns + i
                · rw [if_pos y2, if_pos (by omega)]
                · rw [if_neg y2, if_neg (by omega)]
            · simp (disch := omega) only [lq_X6_yank_45, bk_X6_yank_88, nx_e, ck_t, ck_ok, bd1_s, bd1_n, bd2_s, oc_n, oc_s, l_0, l_1, l_2, l_3, l_4, l_5, l_6, l_7, l_8, l_11, l_12, l_31, l_39, l_40, l_59, l_60, l_100, l_500, l_1000, l_4095, l_9999, m1_e, ix_nI, ile_t, ile_f, ilt_t, ilt_f, ieq_t, ieq_f, nI_add, pk_mul, nI_sub, ile_m1, ilt_m1, ieq_m1, imle_m1, imlt_m1, imeq_m1, imeq_s, ieq_s, ile_s, ilt_s, gI_s, gI_ne1, gI_ne2, gJ_s, gJ_ne1, gJ_ne2, gI_sJ, gJ_sI, ibI0, ibI1, bI_t, bI_f, decide_true, decide_false, and_self, and_true, true_and, and_false, false_and, reduceIte, if_true, if_false, Nat.add_sub_cancel, e_within, e_in, kk, kc, z]
              refine hrc _ _ ⟨i + 1, by omega, rfl, fun a j => ?_, hkJ⟩ (by rw [ix_nI (by omega), ix_nI (by omega)]; omega)
              by_cases y1 : a = 39 ∧ j = 12 * ns + i
              · rw [if_pos (by omega), eN, y1.1, y1.2, kc, show 12 * ns + i - 12 * ns = i by omega]
                simp only [z, if_false]
              · rw [hk]
                by_cases y2 : a = 39 ∧ 12 * ns ≤ j ∧ j < 12 * ns + i
                · rw [if_pos y2, if_pos (by omega)]
                · rw [if_neg y2, if_neg (by omega)])
        obtain ⟨rr, x2, K2, rfl, hk2, hkJ2⟩ := LM FU Mc (nI 0) ⟨0, by omega, rfl, fun a j => by rw [if_neg (by omega)], fun _ _ => rfl⟩ (by rw [ix_nI (by omega)]; show 12 - 0 < 1000; omega)
        have p2 : fn_X6_yank M1 (nI f) = some (nI ns, K2) := by
          simp (disch := omega) only [fn_X6_yank, nx_e, ck_t, ck_ok, bd1_s, bd1_n, bd2_s, oc_n, oc_s, l_0, l_1, l_2, l_3, l_4, l_5, l_6, l_7, l_8, l_11, l_12, l_31, l_39, l_40, l_59, l_60, l_100, l_500, l_1000, l_4095, l_9999, m1_e, ix_nI, ile_t, ile_f, ilt_t, ilt_f, ieq_t, ieq_f, nI_add, pk_mul, nI_sub, ile_m1, ilt_m1, ieq_m1, imle_m1, imlt_m1, imeq_m1, imeq_s, ieq_s, ile_s, ilt_s, gI_s, gI_ne1, gI_ne2, gJ_s, gJ_ne1, gJ_ne2, gI_sJ, gJ_sI, ibI0, ibI1, bI_t, bI_f, decide_true, decide_false, and_self, and_true, true_and, and_false, false_and, reduceIte, if_true, if_false, Nat.add_sub_cancel, e_within, e_in, k4, kf, k37, z1, k0']
          rw [← eMc, x2]
        have g1 : ∀ i j, i ≠ 39 → i ≠ 38 → i ≠ 37 → ¬ (i = 35 ∧ j = 4) → gI K2 i j = gI M1 i j := by
          intro i j i39 i38 i37 i354
          rw [hk2, if_neg (by omega), eMc, gI_if, if_neg (by omega), z2, if_neg (by omega), if_neg (by omega), if_neg (by omega)]
        have gj : ∀ i j, gJ K2 i j = gJ M1 i j := by
          intro i j
          rw [hkJ2, eMc]
          exact z3 i j
        refine ⟨_, _, _, p1, p2, w, nf, ns + 1, tl, gr, inv_newstate hI hn N ?_ ?_ ?_ ?_ ?_ ?_ ?_ ?_ ?_ ?_ ?_ hN ?_ ?_ ?_⟩
        · intro i j i3 i4 i6 i37 i38 i39 i16 i354
          rw [g1 i j (by omega) (by omega) (by omega) (by omega), kI i j (by omega) (by omega) (by omega) (by omega)]
        · rw [g1 1 6 (by omega) (by omega) (by omega) (by omega), eM1, gI_sJ, hk, if_neg (by omega)]
          exact k16
        · rw [hk2, if_neg (by omega), eMc, gI_if, if_neg (by omega)]
          exact k4'
        · intro s hs
          rw [g1 4 s (by omega) (by omega) (by omega) (by omega), eM1, gI_sJ, hk, if_neg (by omega), eMa]
          simp (disch := omega) only [gI_s, gI_ne1, gI_ne2, gJ_s, gJ_ne1, gJ_ne2, gI_sJ, gJ_sI, gI_cpn]
        · rw [g1 4 ns (by omega) (by omega) (by omega) (by omega), eM1, gI_sJ, hk, if_neg (by omega), eMa]
          simp (disch := omega) only [gI_s, gI_ne1, gI_ne2, gJ_s, gJ_ne1, gJ_ne2, gI_sJ, gJ_sI]
        · intro s hs
          rw [hk2, if_neg (by omega), eMc, gI_if, if_neg (by omega), z2, if_neg (by omega), if_neg (by omega), if_neg (by omega)]
          exact kI 38 s (by omega) (by omega) (by omega) (by omega)
        · rw [hk2, if_neg (by omega), eMc, gI_if, if_neg (by omega), z2, if_neg (by omega), if_pos ⟨rfl, rfl⟩]
        · intro s p' hs hp'
          rw [g1 6 _ (by omega) (by omega) (by omega) (by omega), eM1, gI_sJ, hk, if_neg (by omega), eMa, gI_if, if_neg (by omega), gI_if, if_neg (by omega), gI_cp, if_neg (by omega), gI_if, if_neg (by omega), gI_sJ]
        · intro p' hp'
          rw [g1 6 _ (by omega) (by omega) (by omega) (by omega), eM1, gI_sJ, hk, if_pos ⟨rfl, by omega, by omega⟩]
          congr 1
          omega
        · intro s p' hs hp'
          rw [hk2, if_neg (by omega), eMc, gI_if, if_neg (by omega), z2, if_neg (by omega), if_neg (by omega), if_neg (by omega)]
          exact k39 _
        · intro p' hp'
          rw [hk2, if_pos ⟨rfl, by omega, by omega⟩]
          congr 1
          omega
        · intro i j i1 i5
          rw [gj, eM1, gJ_if, if_neg (by omega), hkJ, eMa]
          show gJ (sJ M 1 7 (gJ M 1 7 ||| bt f)) i j = _
          rw [gJ_if, if_neg (by omega)]
        · intro g hg
          rw [gj, eM1, gJ_s]
          exact hyy g hg
        · have ej : gJ K2 1 7 = gJ M 1 7 ||| bt f := by
            rw [gj, eM1, gJ_if, if_neg (by omega), hkJ, eMa]
            show gJ (sJ M 1 7 (gJ M 1 7 ||| bt f)) 1 7 = _
            rw [gJ_s]
          have e3 : ∀ j, gI K2 3 j = if j = f then nI w else gI M 3 j := by
            intro j
            rw [g1 3 j (by omega) (by omega) (by omega) (by omega), eM1, gI_sJ, hk, if_neg (by omega), eMa, gI_if, if_neg (by omega), gI_if, if_neg (by omega), gI_cpn (by omega), gI_if]
            by_cases e : j = f
            · rw [if_pos ⟨rfl, e⟩, if_pos e]
            · rw [if_neg (by omega), if_neg e, gI_sJ]
          have e37 : ∀ j, gI K2 37 j = if j = f then nI w else gI M 37 j := by
            intro j
            rw [hk2, if_neg (by omega), eMc, gI_if]
            by_cases e : j = f
            · rw [if_pos ⟨rfl, e⟩, if_pos e]
            · rw [if_neg (by omega), if_neg e, z2, if_neg (by omega), if_neg (by omega), if_neg (by omega)]
              exact kI 37 j (by omega) (by omega) (by omega) (by omega)
          refine ⟨fun g hg => ?_, fun g hg => ?_⟩
          · rw [ej, e3, e37, hb_or, hb_bt (by omega)]
            by_cases e : g = f
            · subst e
              rw [decide_eq_true rfl, if_pos rfl, if_pos rfl]
              exact Or.inl ⟨by rw [Bool.or_true], rfl, w, by omega, rfl⟩
            · rw [decide_eq_false e, if_neg e, if_neg e, Bool.or_false]
              exact hS.2.1.1 g hg
          · rw [ej, hb_or, hb_bt (by omega), decide_eq_false (by omega), Bool.or_false]
            exact hS.2.1.2 g hg
    · refine stay ?_ ?_
      · simp (disch := omega) only [fn_X4_addYank, nx_e, ck_t, ck_ok, bd1_s, bd1_n, bd2_s, oc_n, oc_s, l_0, l_1, l_2, l_3, l_4, l_5, l_6, l_7, l_8, l_11, l_12, l_31, l_39, l_40, l_59, l_60, l_100, l_500, l_1000, l_4095, l_9999, m1_e, ix_nI, ile_t, ile_f, ilt_t, ilt_f, ieq_t, ieq_f, nI_add, pk_mul, nI_sub, ile_m1, ilt_m1, ieq_m1, imle_m1, imlt_m1, imeq_m1, imeq_s, ieq_s, ile_s, ilt_s, gI_s, gI_ne1, gI_ne2, gJ_s, gJ_ne1, gJ_ne2, gI_sJ, gJ_sI, ibI0, ibI1, bI_t, bI_f, decide_true, decide_false, and_self, and_true, true_and, and_false, false_and, reduceIte, if_true, if_false, Nat.add_sub_cancel, e_within, e_in, e_may0 hA hf]
      · simp (disch := omega) only [fn_X6_yank, nx_e, ck_t, ck_ok, bd1_s, bd1_n, bd2_s, oc_n, oc_s, l_0, l_1, l_2, l_3, l_4, l_5, l_6, l_7, l_8, l_11, l_12, l_31, l_39, l_40, l_59, l_60, l_100, l_500, l_1000, l_4095, l_9999, m1_e, ix_nI, ile_t, ile_f, ilt_t, ilt_f, ieq_t, ieq_f, nI_add, pk_mul, nI_sub, ile_m1, ilt_m1, ieq_m1, imle_m1, imlt_m1, imeq_m1, imeq_s, ieq_s, ile_s, ilt_s, gI_s, gI_ne1, gI_ne2, gJ_s, gJ_ne1, gJ_ne2, gI_sJ, gJ_sI, ibI0, ibI1, bI_t, bI_f, decide_true, decide_false, and_self, and_true, true_and, and_false, false_and, reduceIte, if_true, if_false, Nat.add_sub_cancel, e_within, e_in, b4, e_isFile0 hA hf]
  · have e : ns = 60 := by omega
    refine stay ?_ ?_
    · simp (disch := omega) only [fn_X4_addYank, nx_e, ck_t, ck_ok, bd1_s, bd1_n, bd2_s, oc_n, oc_s, l_0, l_1, l_2, l_3, l_4, l_5, l_6, l_7, l_8, l_11, l_12, l_31, l_39, l_40, l_59, l_60, l_100, l_500, l_1000, l_4095, l_9999, m1_e, ix_nI, ile_t, ile_f, ilt_t, ilt_f, ieq_t, ieq_f, nI_add, pk_mul, nI_sub, ile_m1, ilt_m1, ieq_m1, imle_m1, imlt_m1, imeq_m1, imeq_s, ieq_s, ile_s, ilt_s, gI_s, gI_ne1, gI_ne2, gJ_s, gJ_ne1, gJ_ne2, gI_sJ, gJ_sI, ibI0, ibI1, bI_t, bI_f, decide_true, decide_false, and_self, and_true, true_and, and_false, false_and, reduceIte, if_true, if_false, Nat.add_sub_cancel, e_within, e_in, e_may60 hA _ e]
    · simp (disch := omega) only [fn_X6_yank, nx_e, ck_t, ck_ok, bd1_s, bd1_n, bd2_s, oc_n, oc_s, l_0, l_1, l_2, l_3, l_4, l_5, l_6, l_7, l_8, l_11, l_12, l_31, l_39, l_40, l_59, l_60, l_100, l_500, l_1000, l_4095, l_9999, m1_e, ix_nI, ile_t, ile_f, ilt_t, ilt_f, ieq_t, ieq_f, nI_add, pk_mul, nI_sub, ile_m1, ilt_m1, ieq_m1, imle_m1, imlt_m1, imeq_m1, imeq_s, ieq_s, ile_s, ilt_s, gI_s, gI_ne1, gI_ne2, gJ_s, gJ_ne1, gJ_ne2, gI_sJ, gJ_sI, ibI0, ibI1, bI_t, bI_f, decide_true, decide_false, and_self, and_true, true_and, and_false, false_and, reduceIte, if_true, if_false, Nat.add_sub_cancel, e_within, e_in, b4, e]
