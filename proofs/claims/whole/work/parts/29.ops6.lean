theorem e_may60 {nm w nf ns tl gr : Nat} {M : Mem} (hA : iA nm w nf ns tl gr M) (x : Int32) (hn : ns = 60) : fn_X4_mayChange M x = some (nI 0) := by
  obtain ⟨⟨a1, a2, a3, a4, a5, a6⟩, -⟩ := id hA
  unfold fn_X4_mayChange
  rw [if_pos (show (60 : Int32) ≤ gI M 1 6 by rw [a4, hn]; decide)]
  rfl
theorem e_may0 {nm w nf ns tl gr : Nat} {M : Mem} (hA : iA nm w nf ns tl gr M) {x : Int32} (hf : ¬ ∃ f, f < nf ∧ x = nI f) : fn_X4_mayChange M x = some (nI 0) := by
  unfold fn_X4_mayChange
  rw [e_hasFile0 hA hf, bd1_s]
  split <;> rfl
theorem e_latest {nm w nf ns tl gr : Nat} {M : Mem} (hA : iA nm w nf ns tl gr M) : fn_X4_latestState M = some (nI (ns - 1)) := by
  obtain ⟨⟨a1, a2, a3, a4, a5, a6⟩, -, c1, c2, c3, c4, c5, c6, c7⟩ := id hA
  simp (disch := omega) only [fn_X4_latestState, nx_e, ck_t, ck_ok, bd1_s, bd1_n, bd2_s, oc_n, oc_s, l_0, l_1, l_2, l_3, l_4, l_5, l_6, l_7, l_8, l_11, l_12, l_31, l_39, l_40, l_59, l_60, l_100, l_500, l_1000, l_4095, l_9999, m1_e, ix_nI, ile_t, ile_f, ilt_t, ilt_f, ieq_t, ieq_f, nI_add, pk_mul, nI_sub, ile_m1, ilt_m1, ieq_m1, imle_m1, imlt_m1, imeq_m1, imeq_s, ieq_s, ile_s, ilt_s, gI_s, gI_ne1, gI_ne2, gJ_s, gJ_ne1, gJ_ne2, gI_sJ, gJ_sI, ibI0, ibI1, bI_t, bI_f, decide_true, decide_false, and_self, and_true, true_and, and_false, false_and, reduceIte, if_true, if_false, Nat.add_sub_cancel, e_within, e_in, a4]
theorem op_put {nm : Nat} {M : Mem} (h : Inv nm M) (x y : Int32) : ∃ r M1 M2, fn_X5_put M x y = some (r, M1) ∧ fn_X6_put M1 x y = some (r, M2) ∧ Inv nm M2 := by
  obtain ⟨w, nf, ns, tl, gr, hI⟩ := h
  obtain ⟨hA, hS, hF, hM, hK, hL⟩ := id hI
  obtain ⟨⟨a1, a2, a3, a4, a5, a6⟩, ⟨b1, b2, b3, b4, b5, b6⟩, c1, c2, c3, c4, c5, c6, c7⟩ := id hA
  have stay : fn_X4_addPut M x y (nI w) = some (m1, M) → fn_X6_put M x y = some (m1, M) → ∃ r M1 M2, fn_X5_put M x y = some (r, M1) ∧ fn_X6_put M1 x y = some (r, M2) ∧ Inv nm M2 := fun p1 p2 => ⟨m1, M, M, by unfold fn_X5_put; rw [a2, p1]; rfl, p2, w, nf, ns, tl, gr, hI⟩
  by_cases hp : ∃ p, p < 12 ∧ x = nI p
  · obtain ⟨p, hp, rfl⟩ := hp
    have g2 : nI 0 ≤ nI p ∧ nI p ≤ nI 11 := rng' (by omega) (by omega) (by omega)
    by_cases hn : ns < 60
    · by_cases hf : ∃ f, f < nf ∧ y = nI f
      · obtain ⟨f, hf, rfl⟩ := hf
        rcases hS.2.1.1 f hf with ⟨q1, q2, t, q3, q4⟩ | ⟨q1, q2⟩
        · refine stay ?_ ?_
          · simp (disch := omega) only [fn_X4_addPut, nx_e, ck_t, ck_ok, bd1_s, bd1_n, bd2_s, oc_n, oc_s, l_0, l_1, l_2, l_3, l_4, l_5, l_6, l_7, l_8, l_11, l_12, l_31, l_39, l_40, l_59, l_60, l_100, l_500, l_1000, l_4095, l_9999, m1_e, ix_nI, ile_t, ile_f, ilt_t, ilt_f, ieq_t, ieq_f, nI_add, pk_mul, nI_sub, ile_m1, ilt_m1, ieq_m1, imle_m1, imlt_m1, imeq_m1, imeq_s, ieq_s, ile_s, ilt_s, gI_s, gI_ne1, gI_ne2, gJ_s, gJ_ne1, gJ_ne2, gI_sJ, gJ_sI, ibI0, ibI1, bI_t, bI_f, decide_true, decide_false, and_self, and_true, true_and, and_false, false_and, reduceIte, if_true, if_false, Nat.add_sub_cancel, e_within, e_in, g2, e_may hA hf hn, q1, Bool.not_true]
          · simp (disch := omega) only [fn_X6_put, nx_e, ck_t, ck_ok, bd1_s, bd1_n, bd2_s, oc_n, oc_s, l_0, l_1, l_2, l_3, l_4, l_5, l_6, l_7, l_8, l_11, l_12, l_31, l_39, l_40, l_59, l_60, l_100, l_500, l_1000, l_4095, l_9999, m1_e, ix_nI, ile_t, ile_f, ilt_t, ilt_f, ieq_t, ieq_f, nI_add, pk_mul, nI_sub, ile_m1, ilt_m1, ieq_m1, imle_m1, imlt_m1, imeq_m1, imeq_s, ieq_s, ile_s, ilt_s, gI_s, gI_ne1, gI_ne2, gJ_s, gJ_ne1, gJ_ne2, gI_sJ, gJ_sI, ibI0, ibI1, bI_t, bI_f, decide_true, decide_false, and_self, and_true, true_and, and_false, false_and, reduceIte, if_true, if_false, Nat.add_sub_cancel, e_within, e_in, g2, b4, e_isFile hA hf, q4]
        · have nb : fn_X4_namedBy M (nI (ns - 1)) (nI p) = some (gI M 39 (12 * (ns - 1) + p)) := by
            rw [e_namedBy hA (show ns - 1 < ns by omega) hp, (hS.2.2.2.1 (ns - 1) p (by omega) hp).1]
          by_cases hc : gI M 39 (12 * (ns - 1) + p) = nI f
          · refine stay ?_ ?_
            · simp (disch := omega) only [fn_X4_addPut, nx_e, ck_t, ck_ok, bd1_s, bd1_n, bd2_s, oc_n, oc_s, l_0, l_1, l_2, l_3, l_4, l_5, l_6, l_7, l_8, l_11, l_12, l_31, l_39, l_40, l_59, l_60, l_100, l_500, l_1000, l_4095, l_9999, m1_e, ix_nI, ile_t, ile_f, ilt_t, ilt_f, ieq_t, ieq_f, nI_add, pk_mul, nI_sub, ile_m1, ilt_m1, ieq_m1, imle_m1, imlt_m1, imeq_m1, imeq_s, ieq_s, ile_s, ilt_s, gI_s, gI_ne1, gI_ne2, gJ_s, gJ_ne1, gJ_ne2, gI_sJ, gJ_sI, ibI0, ibI1, bI_t, bI_f, decide_true, decide_false, and_self, and_true, true_and, and_false, false_and, reduceIte, if_true, if_false, Nat.add_sub_cancel, e_within, e_in, g2, e_may hA hf hn, q1, Bool.not_false, e_latest hA, nb, hc]
            · simp (disch := omega) only [fn_X6_put, nx_e, ck_t, ck_ok, bd1_s, bd1_n, bd2_s, oc_n, oc_s, l_0, l_1, l_2, l_3, l_4, l_5, l_6, l_7, l_8, l_11, l_12, l_31, l_39, l_40, l_59, l_60, l_100, l_500, l_1000, l_4095, l_9999, m1_e, ix_nI, ile_t, ile_f, ilt_t, ilt_f, ieq_t, ieq_f, nI_add, pk_mul, nI_sub, ile_m1, ilt_m1, ieq_m1, imle_m1, imlt_m1, imeq_m1, imeq_s, ieq_s, ile_s, ilt_s, gI_s, gI_ne1, gI_ne2, gJ_s, gJ_ne1, gJ_ne2, gI_sJ, gJ_sI, ibI0, ibI1, bI_t, bI_f, decide_true, decide_false, and_self, and_true, true_and, and_false, false_and, reduceIte, if_true, if_false, Nat.add_sub_cancel, e_within, e_in, g2, b4, e_isFile hA hf, q2, hc]
          · obtain ⟨Mb, eMb⟩ : ∃ Mb, Mb = sI (sI (sI (cpI M 6 (12 * (ns - 1)) (12 * ns) 12) 4 ns (nI w)) 1 6 (nI (ns + 1))) 6 (12 * ns + p) (nI f) := ⟨_, rfl⟩
            obtain ⟨N, eN⟩ : ∃ N : Nat → Int32, N = fun p' => if p' = p then nI f else gI M 39 (12 * (ns - 1) + p') := ⟨_, rfl⟩
            have r6 : ∀ p', p' < 12 → gI Mb 6 (12 * ns + p') = N p' := by
              intro p' hp'
              rw [eMb, eN]
              by_cases e : p' = p
              · subst e
                simp (disch := omega) only [gI_s, gI_ne1, gI_ne2, gJ_s, gJ_ne1, gJ_ne2, gI_sJ, gJ_sI, if_true]
              · simp (disch := omega) only [gI_s, gI_ne1, gI_ne2, gJ_s, gJ_ne1, gJ_ne2, gI_sJ, gJ_sI, e, if_false, gI_cp]
                rw [if_pos (by first | exact ⟨trivial, by omega, by omega⟩ | exact ⟨rfl, by omega, by omega⟩ | omega), show 12 * (ns - 1) + (12 * ns + p' - 12 * ns) = 12 * (ns - 1) + p' by omega]
                exact (hS.2.2.2.1 (ns - 1) p' (by omega) hp').1
            have hN : ∀ p', p' < 12 → N p' = m1 ∨ ∃ f, f < nf ∧ N p' = nI f := by
              intro p' hp'
              rw [eN]
              by_cases e : p' = p
              · exact Or.inr ⟨f, hf, by simp only [e, if_true]⟩
              · simp only [e, if_false]
                exact (hS.2.2.2.1 (ns - 1) p' (by omega) hp').2
            have k16 : gI Mb 1 6 = nI (ns + 1) := by rw [eMb]; simp (disch := omega) only [gI_s, gI_ne1, gI_ne2, gJ_s, gJ_ne1, gJ_ne2, gI_sJ, gJ_sI]
            obtain ⟨yy, g3, g4⟩ := e_gather (M := Mb) (ns := ns + 1) (s := ns) k16 (by omega) (by omega) (fun p' hp' => by
              rw [r6 p' hp']
              rcases hN p' hp' with z | ⟨f', z1, z2⟩
              · exact Or.inl z
              · exact Or.inr ⟨f', by omega, z2⟩)
            have e12 : ns * 12 + p = 12 * ns + p := by omega
            have p1 : fn_X5_put M (nI p) (nI f) = some (nI ns, sJ Mb 5 ns yy) := by
              simp (disch := omega) only [fn_X5_put, fn_X4_addPut, nx_e, ck_t, ck_ok, bd1_s, bd1_n, bd2_s, oc_n, oc_s, l_0, l_1, l_2, l_3, l_4, l_5, l_6, l_7, l_8, l_11, l_12, l_31, l_39, l_40, l_59, l_60, l_100, l_500, l_1000, l_4095, l_9999, m1_e, ix_nI, ile_t, ile_f, ilt_t, ilt_f, ieq_t, ieq_f, nI_add, pk_mul, nI_sub, ile_m1, ilt_m1, ieq_m1, imle_m1, imlt_m1, imeq_m1, imeq_s, ieq_s, ile_s, ilt_s, gI_s, gI_ne1, gI_ne2, gJ_s, gJ_ne1, gJ_ne2, gI_sJ, gJ_sI, ibI0, ibI1, bI_t, bI_f, decide_true, decide_false, and_self, and_true, true_and, and_false, false_and, reduceIte, if_true, if_false, Nat.add_sub_cancel, e_within, e_in, a2, g2, e_may hA hf hn, q1, Bool.not_false, e_latest hA, nb, hc, e_addState a4 c4 hn]
              rw [e12, ← eMb, g3]
              rfl
            have k4 : gI (sJ Mb 5 ns yy) 35 4 = nI ns := by rw [eMb]; simp (disch := omega) only [gI_s, gI_ne1, gI_ne2, gJ_s, gJ_ne1, gJ_ne2, gI_sJ, gJ_sI, gI_cpn]; exact b4
            have k0 : gI (sJ Mb 5 ns yy) 35 0 = nI w := by rw [eMb]; simp (disch := omega) only [gI_s, gI_ne1, gI_ne2, gJ_s, gJ_ne1, gJ_ne2, gI_sJ, gJ_sI, gI_cpn]; exact b2
            have k1 : gI (sJ Mb 5 ns yy) 35 1 = nI nf := by rw [eMb]; simp (disch := omega) only [gI_s, gI_ne1, gI_ne2, gJ_s, gJ_ne1, gJ_ne2, gI_sJ, gJ_sI, gI_cpn]; exact b3
            have k37 : gI (sJ Mb 5 ns yy) 37 f = m1 := by rw [eMb]; simp (disch := omega) only [gI_s, gI_ne1, gI_ne2, gJ_s, gJ_ne1, gJ_ne2, gI_sJ, gJ_sI, gI_cpn]; exact q2
            have k39 : ∀ j, gI (sJ Mb 5 ns yy) 39 j = gI M 39 j := by intro j; rw [eMb]; simp (disch := omega) only [gI_s, gI_ne1, gI_ne2, gJ_s, gJ_ne1, gJ_ne2, gI_sJ, gJ_sI, gI_cpn]
            obtain ⟨M', z1, z2, z3⟩ := e_comes k4 k0 c4 hn
            have kf : fn_X6_isFile (sJ Mb 5 ns yy) (nI f) = some (nI 1) := by
              have h1 : nI 0 ≤ nI f ∧ nI f ≤ nI (nf - 1) := rng' (by omega) (by omega) (by omega)
              simp (disch := omega) only [fn_X6_isFile, nx_e, ck_t, ck_ok, bd1_s, bd1_n, bd2_s, oc_n, oc_s, l_0, l_1, l_2, l_3, l_4, l_5, l_6, l_7, l_8, l_11, l_12, l_31, l_39, l_40, l_59, l_60, l_100, l_500, l_1000, l_4095, l_9999, m1_e, ix_nI, ile_t, ile_f, ilt_t, ilt_f, ieq_t, ieq_f, nI_add, pk_mul, nI_sub, ile_m1, ilt_m1, ieq_m1, imle_m1, imlt_m1, imeq_m1, imeq_s, ieq_s, ile_s, ilt_s, gI_s, gI_ne1, gI_ne2, gJ_s, gJ_ne1, gJ_ne2, gI_sJ, gJ_sI, ibI0, ibI1, bI_t, bI_f, decide_true, decide_false, and_self, and_true, true_and, and_false, false_and, reduceIte, if_true, if_false, Nat.add_sub_cancel, e_within, e_in, h1, k1]
            have k4' : gI M' 35 4 = nI (ns + 1) := by rw [z2, if_neg (by omega), if_neg (by omega), if_pos ⟨rfl, rfl⟩]
            have p2 : fn_X6_put (sJ Mb 5 ns yy) (nI p) (nI f) = some (nI ns, sI M' 39 (12 * ns + p) (nI f)) := by
              generalize sJ Mb 5 ns yy = M1 at *
              simp (disch := omega) only [fn_X6_put, nx_e, ck_t, ck_ok, bd1_s, bd1_n, bd2_s, oc_n, oc_s, l_0, l_1, l_2, l_3, l_4, l_5, l_6, l_7, l_8, l_11, l_12, l_31, l_39, l_40, l_59, l_60, l_100, l_500, l_1000, l_4095, l_9999, m1_e, ix_nI, ile_t, ile_f, ilt_t, ilt_f, ieq_t, ieq_f, nI_add, pk_mul, nI_sub, ile_m1, ilt_m1, ieq_m1, imle_m1, imlt_m1, imeq_m1, imeq_s, ieq_s, ile_s, ilt_s, gI_s, gI_ne1, gI_ne2, gJ_s, gJ_ne1, gJ_ne2, gI_sJ, gJ_sI, ibI0, ibI1, bI_t, bI_f, decide_true, decide_false, and_self, and_true, true_and, and_false, false_and, reduceIte, if_true, if_false, Nat.add_sub_cancel, e_within, e_in, g2, k4, kf, k37, k39, hc, z1, k4']
            refine ⟨_, _, _, p1, p2, w, nf, ns + 1, tl, gr, inv_newstate hI hn N ?_ ?_ ?_ ?_ ?_ ?_ ?_ ?_ ?_ ?_ ?_ hN ?_ ?_ ?_⟩
            · intro i j i3 i4 i6 i37 i38 i39 i16 i354
              rw [gI_if, if_neg (by omega), z2, if_neg (by omega), if_neg (by omega), if_neg (by omega), gI_sJ, eMb, gI_if, if_neg (by omega), gI_if, if_neg (by omega), gI_if, if_neg (by omega), gI_cpn (by omega)]
            · rw [gI_if, if_neg (by omega), z2, if_neg (by omega), if_neg (by omega), if_neg (by omega), gI_sJ]
              exact k16
            · rw [gI_if, if_neg (by omega)]
              exact k4'
            · intro s hs
              rw [gI_if, if_neg (by omega), z2, if_neg (by omega), if_neg (by omega), if_neg (by omega), gI_sJ, eMb]
              simp (disch := omega) only [gI_s, gI_ne1, gI_ne2, gJ_s, gJ_ne1, gJ_ne2, gI_sJ, gJ_sI, gI_cpn]
            · rw [gI_if, if_neg (by omega), z2, if_neg (by omega), if_neg (by omega), if_neg (by omega), gI_sJ, eMb]
              simp (disch := omega) only [gI_s, gI_ne1, gI_ne2, gJ_s, gJ_ne1, gJ_ne2, gI_sJ, gJ_sI]
            · intro s hs
              rw [gI_if, if_neg (by omega), z2, if_neg (by omega), if_neg (by omega), if_neg (by omega), gI_sJ, eMb]
              simp (disch := omega) only [gI_s, gI_ne1, gI_ne2, gJ_s, gJ_ne1, gJ_ne2, gI_sJ, gJ_sI, gI_cpn]
            · rw [gI_if, if_neg (by omega), z2, if_neg (by omega), if_pos ⟨rfl, rfl⟩]
            · intro s p' hs hp'
              rw [gI_if, if_neg (by omega), z2, if_neg (by omega), if_neg (by omega), if_neg (by omega), gI_sJ, eMb]
              simp (disch := omega) only [gI_s, gI_ne1, gI_ne2, gJ_s, gJ_ne1, gJ_ne2, gI_sJ, gJ_sI, gI_cp]
              rw [if_neg (by omega)]
            · intro p' hp'
              rw [gI_if, if_neg (by omega), z2, if_neg (by omega), if_neg (by omega), if_neg (by omega), gI_sJ]
              exact r6 p' hp'
            · intro s p' hs hp'
              rw [gI_if, if_neg (by omega), z2, if_neg (by omega), if_neg (by omega), if_neg (by omega)]
              exact k39 _
            · intro p' hp'
              rw [eN]
              by_cases e : p' = p
              · subst e
                rw [gI_if, if_pos ⟨rfl, rfl⟩]
                simp only [if_true]
              · rw [gI_if, if_neg (by omega), z2, if_pos (by omega), k39]
                simp only [e, if_false]
                congr 1
                omega
            · intro i j i1 i5
              show gJ M' i j = _
              rw [z3, gJ_if, if_neg (by omega), eMb]
              rfl
            · intro g hg
              show hb (gJ M' 5 ns) g = _
              rw [z3, gJ_s, g4 g hg]
              exact anyB_cong (fun k hk => by rw [r6 k hk])
            · have ej : gJ (sI M' 39 (12 * ns + p) (nI f)) 1 7 = gJ M 1 7 := by
                show gJ M' 1 7 = _
                rw [z3, gJ_if, if_neg (by omega), eMb]
                rfl
              have e3 : ∀ j, gI (sI M' 39 (12 * ns + p) (nI f)) 3 j = gI M 3 j := by
                intro j
                rw [gI_if, if_neg (by omega), z2, if_neg (by omega), if_neg (by omega), if_neg (by omega), gI_sJ, eMb]
                simp (disch := omega) only [gI_s, gI_ne1, gI_ne2, gJ_s, gJ_ne1, gJ_ne2, gI_sJ, gJ_sI, gI_cpn]
              have e37 : ∀ j, gI (sI M' 39 (12 * ns + p) (nI f)) 37 j = gI M 37 j := by
                intro j
                rw [gI_if, if_neg (by omega), z2, if_neg (by omega), if_neg (by omega), if_neg (by omega), gI_sJ, eMb]
                simp (disch := omega) only [gI_s, gI_ne1, gI_ne2, gJ_s, gJ_ne1, gJ_ne2, gI_sJ, gJ_sI, gI_cpn]
              unfold iS2
              simp only [ej, e3, e37]
              exact hS.2.1
      · refine stay ?_ ?_
        · simp (disch := omega) only [fn_X4_addPut, nx_e, ck_t, ck_ok, bd1_s, bd1_n, bd2_s, oc_n, oc_s, l_0, l_1, l_2, l_3, l_4, l_5, l_6, l_7, l_8, l_11, l_12, l_31, l_39, l_40, l_59, l_60, l_100, l_500, l_1000, l_4095, l_9999, m1_e, ix_nI, ile_t, ile_f, ilt_t, ilt_f, ieq_t, ieq_f, nI_add, pk_mul, nI_sub, ile_m1, ilt_m1, ieq_m1, imle_m1, imlt_m1, imeq_m1, imeq_s, ieq_s, ile_s, ilt_s, gI_s, gI_ne1, gI_ne2, gJ_s, gJ_ne1, gJ_ne2, gI_sJ, gJ_sI, ibI0, ibI1, bI_t, bI_f, decide_true, decide_false, and_self, and_true, true_and, and_false, false_and, reduceIte, if_true, if_false, Nat.add_sub_cancel, e_within, e_in, g2, e_may0 hA hf]
        · simp (disch := omega) only [fn_X6_put, nx_e, ck_t, ck_ok, bd1_s, bd1_n, bd2_s, oc_n, oc_s, l_0, l_1, l_2, l_3, l_4, l_5, l_6, l_7, l_8, l_11, l_12, l_31, l_39, l_40, l_59, l_60, l_100, l_500, l_1000, l_4095, l_9999, m1_e, ix_nI, ile_t, ile_f, ilt_t, ilt_f, ieq_t, ieq_f, nI_add, pk_mul, nI_sub, ile_m1, ilt_m1, ieq_m1, imle_m1, imlt_m1, imeq_m1, imeq_s, ieq_s, ile_s, ilt_s, gI_s, gI_ne1, gI_ne2, gJ_s, gJ_ne1, gJ_ne2, gI_sJ, gJ_sI, ibI0, ibI1, bI_t, bI_f, decide_true, decide_false, and_self, and_true, true_and, and_false, false_and, reduceIte, if_true, if_false, Nat.add_sub_cancel, e_within, e_in, g2, b4, e_isFile0 hA hf]
    · have e : ns = 60 := by omega
      refine stay ?_ ?_
      · simp (disch := omega) only [fn_X4_addPut, nx_e, ck_t, ck_ok, bd1_s, bd1_n, bd2_s, oc_n, oc_s, l_0, l_1, l_2, l_3, l_4, l_5, l_6, l_7, l_8, l_11, l_12, l_31, l_39, l_40, l_59, l_60, l_100, l_500, l_1000, l_4095, l_9999, m1_e, ix_nI, ile_t, ile_f, ilt_t, ilt_f, ieq_t, ieq_f, nI_add, pk_mul, nI_sub, ile_m1, ilt_m1, ieq_m1, imle_m1, imlt_m1, imeq_m1, imeq_s, ieq_s, ile_s, ilt_s, gI_s, gI_ne1, gI_ne2, gJ_s, gJ_ne1, gJ_ne2, gI_sJ, gJ_sI, ibI0, ibI1, bI_t, bI_f, decide_true, decide_false, and_self, and_true, true_and, and_false, false_and, reduceIte, if_true, if_false, Nat.add_sub_cancel, e_within, e_in, g2, e_may60 hA _ e]
      · simp (disch := omega) only [fn_X6_put, nx_e, ck_t, ck_ok, bd1_s, bd1_n, bd2_s, oc_n, oc_s, l_0, l_1, l_2, l_3, l_4, l_5, l_6, l_7, l_8, l_11, l_12, l_31, l_39, l_40, l_59, l_60, l_100, l_500, l_1000, l_4095, l_9999, m1_e, ix_nI, ile_t, ile_f, ilt_t, ilt_f, ieq_t, ieq_f, nI_add, pk_mul, nI_sub, ile_m1, ilt_m1, ieq_m1, imle_m1, imlt_m1, imeq_m1, imeq_s, ieq_s, ile_s, ilt_s, gI_s, gI_ne1, gI_ne2, gJ_s, gJ_ne1, gJ_ne2, gI_sJ, gJ_sI, ibI0, ibI1, bI_t, bI_f, decide_true, decide_false, and_self, and_true, true_and, and_false, false_and, reduceIte, if_true, if_false, Nat.add_sub_cancel, e_within, e_in, b4, e]
  · have g2 := e_inK0 (n := 12) (by omega) (by omega) hp
    refine stay ?_ ?_
    · simp (disch := omega) only [fn_X4_addPut, nx_e, ck_t, ck_ok, bd1_s, bd1_n, bd2_s, oc_n, oc_s, l_0, l_1, l_2, l_3, l_4, l_5, l_6, l_7, l_8, l_11, l_12, l_31, l_39, l_40, l_59, l_60, l_100, l_500, l_1000, l_4095, l_9999, m1_e, ix_nI, ile_t, ile_f, ilt_t, ilt_f, ieq_t, ieq_f, nI_add, pk_mul, nI_sub, ile_m1, ilt_m1, ieq_m1, imle_m1, imlt_m1, imeq_m1, imeq_s, ieq_s, ile_s, ilt_s, gI_s, gI_ne1, gI_ne2, gJ_s, gJ_ne1, gJ_ne2, gI_sJ, gJ_sI, ibI0, ibI1, bI_t, bI_f, decide_true, decide_false, and_self, and_true, true_and, and_false, false_and, reduceIte, if_true, if_false, Nat.add_sub_cancel, e_within, e_in, g2]
    · by_cases e : ns = 60
      · simp (disch := omega) only [fn_X6_put, nx_e, ck_t, ck_ok, bd1_s, bd1_n, bd2_s, oc_n, oc_s, l_0, l_1, l_2, l_3, l_4, l_5, l_6, l_7, l_8, l_11, l_12, l_31, l_39, l_40, l_59, l_60, l_100, l_500, l_1000, l_4095, l_9999, m1_e, ix_nI, ile_t, ile_f, ilt_t, ilt_f, ieq_t, ieq_f, nI_add, pk_mul, nI_sub, ile_m1, ilt_m1, ieq_m1, imle_m1, imlt_m1, imeq_m1, imeq_s, ieq_s, ile_s, ilt_s, gI_s, gI_ne1, gI_ne2, gJ_s, gJ_ne1, gJ_ne2, gI_sJ, gJ_sI, ibI0, ibI1, bI_t, bI_f, decide_true, decide_false, and_self, and_true, true_and, and_false, false_and, reduceIte, if_true, if_false, Nat.add_sub_cancel, e_within, e_in, b4, e]
      · simp (disch := omega) only [fn_X6_put, nx_e, ck_t, ck_ok, bd1_s, bd1_n, bd2_s, oc_n, oc_s, l_0, l_1, l_2, l_3, l_4, l_5, l_6, l_7, l_8, l_11, l_12, l_31, l_39, l_40, l_59, l_60, l_100, l_500, l_1000, l_4095, l_9999, m1_e, ix_nI, ile_t, ile_f, ilt_t, ilt_f, ieq_t, ieq_f, nI_add, pk_mul, nI_sub, ile_m1, ilt_m1, ieq_m1, imle_m1, imlt_m1, imeq_m1, imeq_s, ieq_s, ile_s, ilt_s, gI_s, gI_ne1, gI_ne2, gJ_s, gJ_ne1, gJ_ne2, gI_sJ, gJ_sI, ibI0, ibI1, bI_t, bI_f, decide_true, decide_false, and_self, and_true, true_and, and_false, false_and, reduceIte, if_true, if_false, Nat.add_sub_cancel, e_within, e_in, b4, g2]
