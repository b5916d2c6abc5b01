theorem iM1_up {nf ns ns' m : Nat} {M : Mem} (hn : ns ≤ ns') (h : iM1 nf ns m M) : iM1 nf ns' m M := by
  obtain ⟨⟨m1', m2, m3, ⟨m5, i, hi, m6⟩, m7⟩, hB, ⟨c, hc, c1, c2, c3⟩, hD⟩ := h
  refine ⟨⟨m1', m2, m3, ⟨m5, i, by omega, m6⟩, m7⟩, hB, ⟨c, hc, c1, fun k hk => ?_, c3⟩, ?_⟩
  · obtain ⟨q1, i, q2, q3⟩ := c2 k hk
    exact ⟨q1, i, by omega, q3⟩
  · rcases hD with q | ⟨t, d, q1, q2, q3⟩
    · exact Or.inl q
    · exact Or.inr ⟨t, d, by omega, q2, q3⟩
theorem inv_newstate {nm w nf ns tl gr : Nat} {M M2 : Mem} (h : Inw nm w nf ns tl gr M) (hn : ns < 60) (N : Nat → Int32)
    (hI : ∀ i j, i ≠ 3 → i ≠ 4 → i ≠ 6 → i ≠ 37 → i ≠ 38 → i ≠ 39 → ¬ (i = 1 ∧ j = 6) → ¬ (i = 35 ∧ j = 4) → gI M2 i j = gI M i j)
    (h16 : gI M2 1 6 = nI (ns + 1)) (h354 : gI M2 35 4 = nI (ns + 1)) (h4 : ∀ s, s < ns → gI M2 4 s = gI M 4 s) (h4n : gI M2 4 ns = nI w) (h38 : ∀ s, s < ns → gI M2 38 s = gI M 38 s) (h38n : gI M2 38 ns = nI w)
    (h6 : ∀ s p, s < ns → p < 12 → gI M2 6 (12 * s + p) = gI M 6 (12 * s + p)) (h6n : ∀ p, p < 12 → gI M2 6 (12 * ns + p) = N p) (h39 : ∀ s p, s < ns → p < 12 → gI M2 39 (12 * s + p) = gI M 39 (12 * s + p)) (h39n : ∀ p, p < 12 → gI M2 39 (12 * ns + p) = N p)
    (hN : ∀ p, p < 12 → N p = m1 ∨ ∃ f, f < nf ∧ N p = nI f) (hJ : ∀ i j, ¬ (i = 1 ∧ j = 7) → ¬ (i = 5 ∧ j = ns) → gJ M2 i j = gJ M i j) (h5 : ∀ f, f < 64 → hb (gJ M2 5 ns) f = anyB (fun p => decide (N p = nI f)) 12) (hy : iS2 w nf M2) : Inw nm w nf (ns + 1) tl gr M2 := by
  obtain ⟨hA, hS, hF, hM, hK, hL⟩ := h
  obtain ⟨⟨a1, a2, a3, a4, a5, a6⟩, ⟨b1, b2, b3, b4, b5, b6⟩, c1, c2, c3, c4, c5, c6, c7⟩ := id hA
  refine ⟨⟨⟨?_, ?_, ?_, h16, ?_, ?_⟩, ⟨?_, ?_, ?_, h354, ?_, ?_⟩, c1, c2, c3, by omega, by omega, c6, c7⟩, ⟨?_, hy, ?_, ?_, ?_⟩, ?_, ⟨?_, ?_⟩, ?_, ?_⟩
  · rw [hI 0 5 (by omega) (by omega) (by omega) (by omega) (by omega) (by omega) (by omega) (by omega)]; exact a1
  · rw [hI 0 6 (by omega) (by omega) (by omega) (by omega) (by omega) (by omega) (by omega) (by omega)]; exact a2
  · rw [hI 1 5 (by omega) (by omega) (by omega) (by omega) (by omega) (by omega) (by omega) (by omega)]; exact a3
  · rw [hI 7 3 (by omega) (by omega) (by omega) (by omega) (by omega) (by omega) (by omega) (by omega)]; exact a5
  · rw [hI 0 7 (by omega) (by omega) (by omega) (by omega) (by omega) (by omega) (by omega) (by omega)]; exact a6
  · rw [hI 35 7 (by omega) (by omega) (by omega) (by omega) (by omega) (by omega) (by omega) (by omega)]; exact b1
  · rw [hI 35 0 (by omega) (by omega) (by omega) (by omega) (by omega) (by omega) (by omega) (by omega)]; exact b2
  · rw [hI 35 1 (by omega) (by omega) (by omega) (by omega) (by omega) (by omega) (by omega) (by omega)]; exact b3
  · rw [hI 35 19 (by omega) (by omega) (by omega) (by omega) (by omega) (by omega) (by omega) (by omega)]; exact b5
  · rw [hI 35 23 (by omega) (by omega) (by omega) (by omega) (by omega) (by omega) (by omega) (by omega)]; exact b6
  · intro f hf
    rw [hI 2 f (by omega) (by omega) (by omega) (by omega) (by omega) (by omega) (by omega) (by omega), hI 36 f (by omega) (by omega) (by omega) (by omega) (by omega) (by omega) (by omega) (by omega)]
    exact hS.1 f hf
  · intro s hs
    by_cases e : s = ns
    · subst e
      rw [h4n, h38n]
      exact ⟨rfl, w, by omega, rfl⟩
    · rw [h4 s (by omega), h38 s (by omega)]
      exact hS.2.2.1 s (by omega)
  · intro s p hs hp
    by_cases e : s = ns
    · subst e
      rw [h6n p hp, h39n p hp]
      exact ⟨rfl, hN p hp⟩
    · rw [h6 s p (by omega) hp, h39 s p (by omega) hp]
      exact hS.2.2.2.1 s p (by omega) hp
  · intro s f hs hf
    by_cases e : s = ns
    · subst e
      rw [h5 f hf, anyB_iff]
      constructor
      · rintro ⟨p, hp, q⟩
        exact ⟨p, hp, by rw [h39n p hp]; exact of_decide_eq_true q⟩
      · rintro ⟨p, hp, q⟩
        rw [h39n p hp] at q
        exact ⟨p, hp, decide_eq_true q⟩
    · rw [hJ 5 s (by omega) (by omega), hS.2.2.2.2 s f (by omega) hf]
      constructor
      · rintro ⟨p, hp, q⟩
        exact ⟨p, hp, by rw [h39 s p (by omega) hp]; exact q⟩
      · rintro ⟨p, hp, q⟩
        rw [h39 s p (by omega) hp] at q
        exact ⟨p, hp, q⟩
  · exact iF_fr (fun i j hi => hI i j (by omega) (by omega) (by omega) (by omega) (by omega) (by omega) (by omega) (by omega)) hF
  · intro m hm
    refine iM1_up (ns := ns) (by omega) (iM1_fr (fun s f hs _ => by rw [hJ 5 s (by omega) (by omega)]) (fun f _ => hI 36 f (by omega) (by omega) (by omega) (by omega) (by omega) (by omega) (by omega) (by omega)) (iS_named c3 hS) (fun j => hI _ j (by omega) (by omega) (by omega) (by omega) (by omega) (by omega) (by omega) (by omega)) (fun j => hJ _ j (by omega) (by omega)) (fun j => hI _ j (by omega) (by omega) (by omega) (by omega) (by omega) (by omega) (by omega) (by omega)) (fun i _ _ => hI i m (by omega) (by omega) (by omega) (by omega) (by omega) (by omega) (by omega) (by omega)) (fun f _ => hI 48 _ (by omega) (by omega) (by omega) (by omega) (by omega) (by omega) (by omega) (by omega)) (fun k _ => hI 49 _ (by omega) (by omega) (by omega) (by omega) (by omega) (by omega) (by omega) (by omega)) (hI 50 m (by omega) (by omega) (by omega) (by omega) (by omega) (by omega) (by omega) (by omega)) (hM.1 m hm))
  · intro m g1 g2
    have := hM.2 m g1 g2
    unfold iM0 at *
    rw [hI 43 m (by omega) (by omega) (by omega) (by omega) (by omega) (by omega) (by omega) (by omega), hI 45 m (by omega) (by omega) (by omega) (by omega) (by omega) (by omega) (by omega) (by omega), hI 46 m (by omega) (by omega) (by omega) (by omega) (by omega) (by omega) (by omega) (by omega), hI 47 m (by omega) (by omega) (by omega) (by omega) (by omega) (by omega) (by omega) (by omega), hI 50 m (by omega) (by omega) (by omega) (by omega) (by omega) (by omega) (by omega) (by omega)]
    exact ⟨this.1, this.2.1, this.2.2.1, this.2.2.2.1, fun f hf => by rw [hI 48 _ (by omega) (by omega) (by omega) (by omega) (by omega) (by omega) (by omega) (by omega)]; exact this.2.2.2.2.1 f hf, this.2.2.2.2.2⟩
  · exact iK_up (by omega) (by omega) (iK_fr (fun i j hi => hI i j (by omega) (by omega) (by omega) (by omega) (by omega) (by omega) (by omega) (by omega)) hK)
  · exact iL_fr (fun i j hi => hI i j (by omega) (by omega) (by omega) (by omega) (by omega) (by omega) (by omega) (by omega)) (fun j _ _ => hI 35 j (by omega) (by omega) (by omega) (by omega) (by omega) (by omega) (by omega) (by omega)) hL
theorem e_addState {M : Mem} {ns : Nat} (a4 : gI M 1 6 = nI ns) (h1 : 1 ≤ ns) (hn : ns < 60) (x : Int32) : fn_X4_addState M x = some (nI ns, sI (sI (cpI M 6 (12 * (ns - 1)) (12 * ns) 12) 4 ns x) 1 6 (nI (ns + 1))) := by
  have e0 : okc (nI ((ns - 1) * 12)) (nI (ns * 12)) (nI 12) 720 = true := by
    unfold okc
    rw [ix_nI (by omega), ix_nI (by omega), ix_nI (by omega), decide_eq_true (nI_pos (by omega)), decide_eq_true (nI_pos (by omega)), decide_eq_true (nI_pos (by omega)), decide_eq_true (by omega), decide_eq_true (by omega)]
    rfl
  have e1 : (ns - 1) * 12 = 12 * (ns - 1) := by omega
  have e2 : ns * 12 = 12 * ns := by omega
  simp (disch := omega) only [fn_X4_addState, nx_e, ck_t, ck_ok, bd1_s, bd1_n, bd2_s, oc_n, oc_s, l_0, l_1, l_2, l_3, l_4, l_5, l_6, l_7, l_8, l_11, l_12, l_31, l_39, l_40, l_59, l_60, l_100, l_500, l_1000, l_4095, l_9999, m1_e, ix_nI, ile_t, ile_f, ilt_t, ilt_f, ieq_t, ieq_f, nI_add, pk_mul, nI_sub, ile_m1, ilt_m1, ieq_m1, imle_m1, imlt_m1, imeq_m1, imeq_s, ieq_s, ile_s, ilt_s, gI_s, gI_ne1, gI_ne2, gJ_s, gJ_ne1, gJ_ne2, gI_sJ, gJ_sI, ibI0, ibI1, bI_t, bI_f, decide_true, decide_false, and_self, and_true, true_and, and_false, false_and, reduceIte, if_true, if_false, Nat.add_sub_cancel, e_within, e_in, a4, e0, gI_cpn]
  rw [e1, e2]
theorem e_gather {M : Mem} {ns s : Nat} (a4 : gI M 1 6 = nI ns) (hn : ns ≤ 60) (hs : s < ns) (hN : ∀ p, p < 12 → gI M 6 (12 * s + p) = m1 ∨ ∃ f, f < 60 ∧ gI M 6 (12 * s + p) = nI f) : ∃ y, fn_X4_gatherFiles M (nI s) = some (sJ M 5 s y) ∧ ∀ f, f < 64 → hb y f = anyB (fun p => decide (gI M 6 (12 * s + p) = nI f)) 12 := by
  have nb : ∀ p, p < 12 → fn_X4_namedBy M (nI s) (nI p) = some (gI M 6 (12 * s + p)) := by
    intro p hp
    have h1 : nI 0 ≤ nI p ∧ nI p ≤ nI 11 := rng' (by omega) (by omega) (by omega)
    have e : s * 12 + p = 12 * s + p := by omega
    simp (disch := omega) only [fn_X4_namedBy, fn_X4_hasState, nx_e, ck_t, ck_ok, bd1_s, bd1_n, bd2_s, oc_n, oc_s, l_0, l_1, l_2, l_3, l_4, l_5, l_6, l_7, l_8, l_11, l_12, l_31, l_39, l_40, l_59, l_60, l_100, l_500, l_1000, l_4095, l_9999, m1_e, ix_nI, ile_t, ile_f, ilt_t, ilt_f, ieq_t, ieq_f, nI_add, pk_mul, nI_sub, ile_m1, ilt_m1, ieq_m1, imle_m1, imlt_m1, imeq_m1, imeq_s, ieq_s, ile_s, ilt_s, gI_s, gI_ne1, gI_ne2, gJ_s, gJ_ne1, gJ_ne2, gI_sJ, gJ_sI, ibI0, ibI1, bI_t, bI_f, decide_true, decide_false, and_self, and_true, true_and, and_false, false_and, reduceIte, if_true, if_false, Nat.add_sub_cancel, e_within, e_in, h1, a4]
    rw [e]
  have L := it2_h (f := lq_X4_gatherFiles_5 M (nI s)) (fun b c => ∃ i, i ≤ 12 ∧ c = nI i ∧ ∀ f, f < 64 → hb b f = anyB (fun p => decide (gI M 6 (12 * s + p) = nI f)) i) (fun _ c => 12 - ix c) (fun _ _ r => ∃ y, r = sJ M 5 s y ∧ ∀ f, f < 64 → hb y f = anyB (fun p => decide (gI M 6 (12 * s + p) = nI f)) 12) (by
    rintro b c ⟨i, hi, rfl, hb'⟩ rc hrc
    by_cases e : i = 12
    · subst e
      refine ⟨_, ?_, b, rfl, hb'⟩
      simp (disch := omega) only [lq_X4_gatherFiles_5, nx_e, ck_t, ck_ok, bd1_s, bd1_n, bd2_s, oc_n, oc_s, l_0, l_1, l_2, l_3, l_4, l_5, l_6, l_7, l_8, l_11, l_12, l_31, l_39, l_40, l_59, l_60, l_100, l_500, l_1000, l_4095, l_9999, m1_e, ix_nI, ile_t, ile_f, ilt_t, ilt_f, ieq_t, ieq_f, nI_add, pk_mul, nI_sub, ile_m1, ilt_m1, ieq_m1, imle_m1, imlt_m1, imeq_m1, imeq_s, ieq_s, ile_s, ilt_s, gI_s, gI_ne1, gI_ne2, gJ_s, gJ_ne1, gJ_ne2, gI_sJ, gJ_sI, ibI0, ibI1, bI_t, bI_f, decide_true, decide_false, and_self, and_true, true_and, and_false, false_and, reduceIte, if_true, if_false, Nat.add_sub_cancel, e_within, e_in]
    · rcases hN i (by omega) with q | ⟨f, hf, q⟩
      · simp (disch := omega) only [lq_X4_gatherFiles_5, nx_e, ck_t, ck_ok, bd1_s, bd1_n, bd2_s, oc_n, oc_s, l_0, l_1, l_2, l_3, l_4, l_5, l_6, l_7, l_8, l_11, l_12, l_31, l_39, l_40, l_59, l_60, l_100, l_500, l_1000, l_4095, l_9999, m1_e, ix_nI, ile_t, ile_f, ilt_t, ilt_f, ieq_t, ieq_f, nI_add, pk_mul, nI_sub, ile_m1, ilt_m1, ieq_m1, imle_m1, imlt_m1, imeq_m1, imeq_s, ieq_s, ile_s, ilt_s, gI_s, gI_ne1, gI_ne2, gJ_s, gJ_ne1, gJ_ne2, gI_sJ, gJ_sI, ibI0, ibI1, bI_t, bI_f, decide_true, decide_false, and_self, and_true, true_and, and_false, false_and, reduceIte, if_true, if_false, Nat.add_sub_cancel, e_within, e_in, nb, q, e_bitOfm]
        refine hrc _ _ ⟨i + 1, by omega, rfl, fun g hg => ?_⟩ (by rw [ix_nI (by omega), ix_nI (by omega)]; omega)
        rw [hb_or, hb' g hg, hb_0, anyB, q, decide_eq_false (fun z => nI_ne_m1 (by omega) z.symm)]
      · simp (disch := omega) only [lq_X4_gatherFiles_5, nx_e, ck_t, ck_ok, bd1_s, bd1_n, bd2_s, oc_n, oc_s, l_0, l_1, l_2, l_3, l_4, l_5, l_6, l_7, l_8, l_11, l_12, l_31, l_39, l_40, l_59, l_60, l_100, l_500, l_1000, l_4095, l_9999, m1_e, ix_nI, ile_t, ile_f, ilt_t, ilt_f, ieq_t, ieq_f, nI_add, pk_mul, nI_sub, ile_m1, ilt_m1, ieq_m1, imle_m1, imlt_m1, imeq_m1, imeq_s, ieq_s, ile_s, ilt_s, gI_s, gI_ne1, gI_ne2, gJ_s, gJ_ne1, gJ_ne2, gI_sJ, gJ_sI, ibI0, ibI1, bI_t, bI_f, decide_true, decide_false, and_self, and_true, true_and, and_false, false_and, reduceIte, if_true, if_false, Nat.add_sub_cancel, e_within, e_in, nb, q, e_bitOf]
        refine hrc _ _ ⟨i + 1, by omega, rfl, fun g hg => ?_⟩ (by rw [ix_nI (by omega), ix_nI (by omega)]; omega)
        rw [hb_or, hb' g hg, hb_bt (by omega), anyB, q]
        congr 1
        by_cases e2 : g = f
        · subst e2; simp
        · rw [decide_eq_false e2, decide_eq_false (fun z => e2 ((nI_eq (by omega) (by omega)).mp z).symm)])
  obtain ⟨r, h1, y, rfl, h2⟩ := L FU 0 (nI 0) ⟨0, by omega, rfl, fun f _ => hb_0 f⟩ (by rw [ix_nI (by omega)]; show 12 - 0 < 1000; omega)
  exact ⟨y, h1, h2⟩
theorem e_comes {M : Mem} {w ns : Nat} (b4 : gI M 35 4 = nI ns) (b2 : gI M 35 0 = nI w) (h1 : 1 ≤ ns) (hn : ns < 60) : ∃ M', fn_X6_comes M = some M' ∧ (∀ i j, gI M' i j = if i = 39 ∧ 12 * ns ≤ j ∧ j < 12 * ns + 12 then gI M 39 (j - 12) else if i = 38 ∧ j = ns then nI w else if i = 35 ∧ j = 4 then nI (ns + 1) else gI M i j) ∧ ∀ i j, gJ M' i j = gJ M i j := by
  have L := it2_h (f := lq_X6_comes_2) (fun K c => ∃ i, i ≤ 12 ∧ c = nI i ∧ (∀ a j, gI K a j = if a = 39 ∧ 12 * ns ≤ j ∧ j < 12 * ns + i then gI M 39 (j - 12) else gI M a j) ∧ ∀ a j, gJ K a j = gJ M a j) (fun _ c => 12 - ix c) (fun _ _ M' => (∀ i j, gI M' i j = if i = 39 ∧ 12 * ns ≤ j ∧ j < 12 * ns + 12 then gI M 39 (j - 12) else if i = 38 ∧ j = ns then nI w else if i = 35 ∧ j = 4 then nI (ns + 1) else gI M i j) ∧ ∀ i j, gJ M' i j = gJ M i j) (by
    rintro K c ⟨i, hi, rfl, hk, hkJ⟩ rc hrc
    have k4 : gI K 35 4 = nI ns := by rw [hk, if_neg (by omega)]; exact b4
    have k0 : gI K 35 0 = nI w := by rw [hk, if_neg (by omega)]; exact b2
    by_cases e : i = 12
    · subst e
      refine ⟨sI (sI K 38 ns (nI w)) 35 4 (nI (ns + 1)), ?_, fun a j => ?_, fun a j => hkJ a j⟩
      · simp (disch := omega) only [lq_X6_comes_2, nx_e, ck_t, ck_ok, bd1_s, bd1_n, bd2_s, oc_n, oc_s, l_0, l_1, l_2, l_3, l_4, l_5, l_6, l_7, l_8, l_11, l_12, l_31, l_39, l_40, l_59, l_60, l_100, l_500, l_1000, l_4095, l_9999, m1_e, ix_nI, ile_t, ile_f, ilt_t, ilt_f, ieq_t, ieq_f, nI_add, pk_mul, nI_sub, ile_m1, ilt_m1, ieq_m1, imle_m1, imlt_m1, imeq_m1, imeq_s, ieq_s, ile_s, ilt_s, gI_s, gI_ne1, gI_ne2, gJ_s, gJ_ne1, gJ_ne2, gI_sJ, gJ_sI, ibI0, ibI1, bI_t, bI_f, decide_true, decide_false, and_self, and_true, true_and, and_false, false_and, reduceIte, if_true, if_false, Nat.add_sub_cancel, e_within, e_in, k4, k0]
      · rw [gI_if, gI_if, hk]
        by_cases z1 : a = 35 ∧ j = 4
        · rw [if_pos z1, if_neg (by omega), if_neg (by omega), if_pos z1]
        · rw [if_neg z1]
          by_cases z2 : a = 38 ∧ j = ns
          · rw [if_pos z2, if_neg (by omega), if_pos z2]
          · rw [if_neg z2]
            by_cases z3 : a = 39 ∧ 12 * ns ≤ j ∧ j < 12 * ns + 12
            · rw [if_pos z3, if_pos z3]
            · rw [if_neg z3, if_neg z3, if_neg z2, if_neg z1]
    · simp (disch := omega) only [lq_X6_comes_2, nx_e, ck_t, ck_ok, bd1_s, bd1_n, bd2_s, oc_n, oc_s, l_0, l_1, l_2, l_3, l_4, l_5, l_6, l_7, l_8, l_11, l_12, l_31, l_39, l_40, l_59, l_60, l_100, l_500, l_1000, l_4095, l_9999, m1_e, ix_nI, ile_t, ile_f, ilt_t, ilt_f, ieq_t, ieq_f, nI_add, pk_mul, nI_sub, ile_m1, ilt_m1, ieq_m1, imle_m1, imlt_m1, imeq_m1, imeq_s, ieq_s, ile_s, ilt_s, gI_s, gI_ne1, gI_ne2, gJ_s, gJ_ne1, gJ_ne2, gI_sJ, gJ_sI, ibI0, ibI1, bI_t, bI_f, decide_true, decide_false, and_self, and_true, true_and, and_false, false_and, reduceIte, if_true, if_false, Nat.add_sub_cancel, e_within, e_in, k4]
      refine hrc _ _ ⟨i + 1, by omega, rfl, fun a j => ?_, fun a j => hkJ a j⟩ (by rw [ix_nI (by omega), ix_nI (by omega)]; omega)
      rw [gI_if, hk, hk]
      by_cases z1 : a = 39 ∧ j = 12 * ns + i
      · rw [if_pos z1, if_neg (by omega), if_pos (by omega), show j - 12 = 12 * (ns - 1) + i by omega]
      · rw [if_neg z1]
        by_cases z2 : a = 39 ∧ 12 * ns ≤ j ∧ j < 12 * ns + i
        · rw [if_pos z2, if_pos (by omega)]
        · rw [if_neg z2, if_neg (by omega)])
  obtain ⟨r, q1, q2⟩ := L FU M (nI 0) ⟨0, by omega, rfl, fun a j => by rw [if_neg (by omega)], fun _ _ => rfl⟩ (by rw [ix_nI (by omega)]; show 12 - 0 < 1000; omega)
  exact ⟨r, q1, q2⟩
theorem e_may {nm w nf ns tl gr : Nat} {M : Mem} (hA : iA nm w nf ns tl gr M) {f : Nat} (hf : f < nf) (hn : ns < 60) : fn_X4_mayChange M (nI f) = some (bI (!hb (gJ M 1 7) f)) := by
  obtain ⟨⟨a1, a2, a3, a4, a5, a6⟩, ⟨b1, b2, b3, b4, b5, b6⟩, c1, c2, c3, c4, c5, c6, c7⟩ := id hA
  simp (disch := omega) only [fn_X4_mayChange, e_hasFile hA hf, nx_e, ck_t, ck_ok, bd1_s, bd1_n, bd2_s, oc_n, oc_s, l_0, l_1, l_2, l_3, l_4, l_5, l_6, l_7, l_8, l_11, l_12, l_31, l_39, l_40, l_59, l_60, l_100, l_500, l_1000, l_4095, l_9999, m1_e, ix_nI, ile_t, ile_f, ilt_t, ilt_f, ieq_t, ieq_f, nI_add, pk_mul, nI_sub, ile_m1, ilt_m1, ieq_m1, imle_m1, imlt_m1, imeq_m1, imeq_s, ieq_s, ile_s, ilt_s, gI_s, gI_ne1, gI_ne2, gJ_s, gJ_ne1, gJ_ne2, gI_sJ, gJ_sI, ibI0, ibI1, bI_t, bI_f, decide_true, decide_false, and_self, and_true, true_and, and_false, false_and, reduceIte, if_true, if_false, Nat.add_sub_cancel, e_within, e_in, a4, e_bitOf]
  rw [icmpb (by omega)]
  cases hb (gJ M 1 7) f <;> rfl
