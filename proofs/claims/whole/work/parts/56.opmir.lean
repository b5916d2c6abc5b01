/-! mirror: the pure side -/
theorem gI_mnw {nm : Nat} {x1 x2 x3 : Int32} {M : Mem} {i j : Nat} (h : i ≠ 62 + 2 * nm) (h2 : i ≠ 62 + 2 * nm + 1) : gI (mnw nm x1 x2 x3 M) i j = gI M i j := by
  show (mnw nm x1 x2 x3 M).1 i j = M.1 i j
  rw [mnw_I h h2]
theorem gJ_mnw {nm : Nat} {x1 x2 x3 : Int32} {M : Mem} {i j : Nat} (h : i ≠ 62 + 2 * nm) : gJ (mnw nm x1 x2 x3 M) i j = gJ M i j := by
  show (mnw nm x1 x2 x3 M).2 i j = M.2 i j
  rw [mnw_J h]
theorem gI_mnw1 {nm : Nat} {x1 x2 x3 : Int32} {M : Mem} (j : Nat) : gI (mnw nm x1 x2 x3 M) (62 + 2 * nm) j = (if j = 0 then x1 else if j = 1 then x3 else if j = 3 then x2 else if j = 5 then -1 else 0) := mnw_1 j
theorem gJ_mnw1 {nm : Nat} {x1 x2 x3 : Int32} {M : Mem} (j : Nat) : gJ (mnw nm x1 x2 x3 M) (62 + 2 * nm) j = 0 := mnw_3 j
theorem gI_mnw2 {nm : Nat} {x1 x2 x3 : Int32} {M : Mem} {k : Nat} (hk : k < 3) : gI (mnw nm x1 x2 x3 M) (62 + 2 * nm + 1) k = m1 := by
  show (mnw nm x1 x2 x3 M).1 (62 + 2 * nm + 1) k = m1
  rw [mnw_2]
  show (if k < 3 then (-1 : Int32) else 0) = m1
  rw [if_pos hk]
  rfl
theorem rngm {x : Int32} {n : Nat} (h : m1 ≤ x ∧ x ≤ nI n - nI 1) (hn : n ≤ 8) : x = m1 ∨ ∃ j, j < n ∧ x = nI j := by
  obtain ⟨h1, h2⟩ := h
  by_cases hx : x < 0
  · left
    rw [Int32.lt_iff_toInt_lt, show (0 : Int32).toInt = 0 from rfl] at hx
    rw [Int32.le_iff_toInt_le, show m1.toInt = -1 from rfl] at h1
    rw [← Int32.toInt_inj, show m1.toInt = -1 from rfl]
    omega
  · right
    obtain ⟨j, hj, rfl⟩ := nI_of hx
    rcases Nat.eq_zero_or_pos n with h0 | h0
    · subst h0
      rw [show nI 0 - nI 1 = m1 by decide] at h2
      exact absurd h2 (nI_nle_m1 (by omega))
    · rw [nI_sub (by omega)] at h2
      have := (nI_leI (by omega) (by omega)).mp h2
      exact ⟨j, by omega, rfl⟩
theorem mirOk_is {nm : Nat} {x1 x2 x3 : Int32} : mirOk nm x1 x2 x3 ↔ nm < 8 ∧ (m1 ≤ x1 ∧ x1 ≤ nI nm - nI 1) ∧ (nI 1 ≤ x2 ∧ x2 ≤ nI 1000) ∧ (nI 0 ≤ x3 ∧ x3 ≤ nI 3) := Iff.rfl
theorem op_mirrorN {nm : Nat} {M : Mem} (h : Inv nm M) (x1 x2 x3 : Int32) (hno : ¬ mirOk nm x1 x2 x3) : fn_X6_mirror M x1 x2 x3 = some (-1, M) := by
  obtain ⟨w, nf, ns, tl, gr, hA, hS, hF, hM, hK, hL⟩ := h
  obtain ⟨⟨a1, a2, a3, a4, a5, a6⟩, ⟨b1, b2, b3, b4, b5, b6⟩, c1, c2, c3, c4, c5, c6, c7⟩ := id hA
  rw [mirOk_is] at hno
  by_cases e8 : nm = 8
  · simp (disch := omega) only [fn_X6_mirror, nx_e, ck_t, ck_ok, bd1_s, bd1_n, bd2_s, oc_n, oc_s, l_0, l_1, l_2, l_3, l_4, l_5, l_6, l_7, l_8, l_11, l_12, l_31, l_39, l_40, l_59, l_60, l_100, l_500, l_1000, l_4095, l_9999, m1_e, ix_nI, ile_t, ile_f, ilt_t, ilt_f, ieq_t, ieq_f, nI_add, pk_mul, nI_sub, ile_m1, ilt_m1, ieq_m1, imle_m1, imlt_m1, imeq_m1, imeq_s, ieq_s, ile_s, ilt_s, gI_s, gI_ne1, gI_ne2, gJ_s, gJ_ne1, gJ_ne2, gI_sJ, gJ_sI, ibI0, ibI1, bI_t, bI_f, decide_true, decide_false, and_self, and_true, true_and, and_false, false_and, reduceIte, if_true, if_false, Nat.add_sub_cancel, e_within, e_in, b1, e8]
  · by_cases q1 : m1 ≤ x1 ∧ x1 ≤ nI nm - nI 1
    · by_cases q2 : nI 1 ≤ x2 ∧ x2 ≤ nI 1000
      · by_cases q3 : nI 0 ≤ x3 ∧ x3 ≤ nI 3
        · exact absurd ⟨by omega, q1, q2, q3⟩ hno
        · simp (disch := omega) only [fn_X6_mirror, nx_e, ck_t, ck_ok, bd1_s, bd1_n, bd2_s, oc_n, oc_s, l_0, l_1, l_2, l_3, l_4, l_5, l_6, l_7, l_8, l_11, l_12, l_31, l_39, l_40, l_59, l_60, l_100, l_500, l_1000, l_4095, l_9999, m1_e, ix_nI, ieq_t, ieq_f, gI_s, gI_ne1, gI_ne2, gJ_s, gJ_ne1, gJ_ne2, gI_sJ, gJ_sI, ibI0, ibI1, bI_t, bI_f, decide_true, decide_false, and_self, and_true, true_and, and_false, false_and, reduceIte, if_true, if_false, Nat.add_sub_cancel, e_within, e_in, b1, q1, q2, q3, Bool.false_eq_true]
      · simp (disch := omega) only [fn_X6_mirror, nx_e, ck_t, ck_ok, bd1_s, bd1_n, bd2_s, oc_n, oc_s, l_0, l_1, l_2, l_3, l_4, l_5, l_6, l_7, l_8, l_11, l_12, l_31, l_39, l_40, l_59, l_60, l_100, l_500, l_1000, l_4095, l_9999, m1_e, ix_nI, ieq_t, ieq_f, gI_s, gI_ne1, gI_ne2, gJ_s, gJ_ne1, gJ_ne2, gI_sJ, gJ_sI, ibI0, ibI1, bI_t, bI_f, decide_true, decide_false, and_self, and_true, true_and, and_false, false_and, reduceIte, if_true, if_false, Nat.add_sub_cancel, e_within, e_in, b1, q1, q2, Bool.false_eq_true]
    · simp (disch := omega) only [fn_X6_mirror, nx_e, ck_t, ck_ok, bd1_s, bd1_n, bd2_s, oc_n, oc_s, l_0, l_1, l_2, l_3, l_4, l_5, l_6, l_7, l_8, l_11, l_12, l_31, l_39, l_40, l_59, l_60, l_100, l_500, l_1000, l_4095, l_9999, m1_e, ix_nI, ieq_t, ieq_f, gI_s, gI_ne1, gI_ne2, gJ_s, gJ_ne1, gJ_ne2, gI_sJ, gJ_sI, ibI0, ibI1, bI_t, bI_f, decide_true, decide_false, and_self, and_true, true_and, and_false, false_and, reduceIte, if_true, if_false, Nat.add_sub_cancel, e_within, e_in, b1, q1, Bool.false_eq_true]
def mx2 (nm : Nat) (x1 x2 x3 : Int32) (M : Mem) : Mem := sI (sI (sI (sI (sI (sI (mnw nm x1 x2 x3 M) 0 5 (nI (nm + 1))) 40 nm x1) 41 nm x2) 42 nm x3) 44 nm m1) 35 7 (nI (nm + 1))
theorem op_mirrorY {nm : Nat} {M : Mem} (h : Inv nm M) (x1 x2 x3 : Int32) (hok : mirOk nm x1 x2 x3) : fn_X6_mirror (sI (mnw nm x1 x2 x3 M) 0 5 (nI (nm + 1))) x1 x2 x3 = some (nI nm, mx2 nm x1 x2 x3 M) ∧ Inv (nm + 1) (mx2 nm x1 x2 x3 M) := by
  obtain ⟨w, nf, ns, tl, gr, hA, hS, hF, hM, hK, hL⟩ := h
  obtain ⟨⟨a1, a2, a3, a4, a5, a6⟩, ⟨b1, b2, b3, b4, b5, b6⟩, c1, c2, c3, c4, c5, c6, c7⟩ := id hA
  rw [mirOk_is] at hok
  obtain ⟨q0, q1, q2, q3⟩ := hok
  have r1 := rngm q1 c1
  have r2 := rng (by omega) q2 (by omega)
  have r3 := rng (by omega) q3 (by omega)
  refine ⟨?_, w, nf, ns, tl, gr, ?_, ?_, ?_, ?_, ?_, ?_⟩
  · have p1 : nI (nm + 1) - nI 1 = nI nm := nI_sub (by omega)
    simp (disch := omega) only [fn_X6_mirror, mx2, nx_e, ck_t, ck_ok, bd1_s, bd1_n, bd2_s, oc_n, oc_s, l_0, l_1, l_2, l_3, l_4, l_5, l_6, l_7, l_8, l_11, l_12, l_31, l_39, l_40, l_59, l_60, l_100, l_500, l_1000, l_4095, l_9999, m1_e, ix_nI, ieq_t, ieq_f, nI_add, gI_s, gI_ne1, gI_ne2, gJ_s, gJ_ne1, gJ_ne2, gI_sJ, gJ_sI, ibI0, ibI1, bI_t, bI_f, decide_true, decide_false, and_self, and_true, true_and, and_false, false_and, reduceIte, if_true, if_false, Nat.add_sub_cancel, e_within, e_in, gI_mnw, b1, q1, q2, q3, p1]
  · unfold iA mx2
    simp (disch := omega) only [gI_s, gI_ne1, gI_ne2, gJ_s, gJ_ne1, gJ_ne2, gI_sJ, gJ_sI, true_and, and_true, and_self, gI_mnw, a1, a2, a3, a4, a5, a6, b1, b2, b3, b4, b5, b6]
    omega
  · unfold mx2
    exact iS_fr (fun i j hi => by simp (disch := omega) only [gI_s, gI_ne1, gI_ne2, gJ_s, gJ_ne1, gJ_ne2, gI_sJ, gJ_sI, gI_mnw]) (fun i j hi => by simp (disch := omega) only [gI_s, gI_ne1, gI_ne2, gJ_s, gJ_ne1, gJ_ne2, gI_sJ, gJ_sI, gJ_mnw]) hS
  · unfold mx2
    intro k hk
    simp (disch := omega) only [gI_s, gI_ne1, gI_ne2, gJ_s, gJ_ne1, gJ_ne2, gI_sJ, gJ_sI, gI_mnw]
    obtain ⟨f1, f2, f3, m, f4, f5⟩ := hF k hk
    exact ⟨f1, f2, f3, m, by omega, f5⟩
  · refine ⟨fun m hm => ?_, fun m h1 h2 => ?_⟩
    · by_cases e : m = nm
      · subst e
        obtain ⟨z1, z2, z3, z4, z5, z6⟩ := hM.2 m (by omega) (by omega)
        refine ⟨?_, ?_, ?_, ?_⟩
        · unfold iM1a mx2
          simp (disch := omega) only [gI_s, gI_ne1, gI_ne2, gJ_s, gJ_ne1, gJ_ne2, gI_sJ, gJ_sI, gI_mnw, gI_mnw1, z1, z2, z3, z4]
          exact ⟨⟨rfl, r1⟩, ⟨rfl, by obtain ⟨k, _, k2, k3⟩ := r3; exact ⟨k, k2, k3⟩⟩, ⟨rfl, r2⟩, ⟨rfl, 0, by omega, rfl⟩, rfl, rfl, rfl, rfl, false, rfl⟩
        · unfold iM1b mx2
          refine ⟨fun f hf => ?_, fun f hf => ?_⟩
          · simp (disch := omega) only [gI_s, gI_ne1, gI_ne2, gJ_s, gJ_ne1, gJ_ne2, gI_sJ, gJ_sI, gI_mnw, gJ_mnw1, hb_0, z5 f hf, bI_f]
          · simp (disch := omega) only [gI_s, gI_ne1, gI_ne2, gJ_s, gJ_ne1, gJ_ne2, gI_sJ, gJ_sI, gJ_mnw1, hb_0]
        · unfold iM1c mx2
          refine ⟨0, by omega, ?_, fun k hk => absurd hk (by omega), fun k _ hk => ?_⟩
          · simp (disch := omega) only [gI_s, gI_ne1, gI_ne2, gJ_s, gJ_ne1, gJ_ne2, gI_sJ, gJ_sI, gI_mnw, z6]
          · simp (disch := omega) only [gI_s, gI_ne1, gI_ne2, gJ_s, gJ_ne1, gJ_ne2, gI_sJ, gJ_sI, gI_mnw2]
        · unfold iM1d mx2
          left
          simp (disch := omega) only [gI_s, gI_ne1, gI_ne2, gJ_s, gJ_ne1, gJ_ne2, gI_sJ, gJ_sI, gI_mnw, z2, true_and, and_true, and_self]
      · unfold mx2
        exact iM1_fr (fun s f _ _ => by simp (disch := omega) only [gI_s, gI_ne1, gI_ne2, gJ_s, gJ_ne1, gJ_ne2, gI_sJ, gJ_sI, gJ_mnw]) (fun f _ => by simp (disch := omega) only [gI_s, gI_ne1, gI_ne2, gJ_s, gJ_ne1, gJ_ne2, gI_sJ, gJ_sI, gI_mnw]) (iS_named c3 hS) (fun j => by simp (disch := omega) only [gI_s, gI_ne1, gI_ne2, gJ_s, gJ_ne1, gJ_ne2, gI_sJ, gJ_sI, gI_mnw]) (fun j => by simp (disch := omega) only [gI_s, gI_ne1, gI_ne2, gJ_s, gJ_ne1, gJ_ne2, gI_sJ, gJ_sI, gJ_mnw]) (fun j => by simp (disch := omega) only [gI_s, gI_ne1, gI_ne2, gJ_s, gJ_ne1, gJ_ne2, gI_sJ, gJ_sI, gI_mnw]) (fun i h1 h2 => by simp (disch := omega) only [gI_s, gI_ne1, gI_ne2, gJ_s, gJ_ne1, gJ_ne2, gI_sJ, gJ_sI, gI_mnw]) (fun f _ => by simp (disch := omega) only [gI_s, gI_ne1, gI_ne2, gJ_s, gJ_ne1, gJ_ne2, gI_sJ, gJ_sI, gI_mnw]) (fun k _ => by simp (disch := omega) only [gI_s, gI_ne1, gI_ne2, gJ_s, gJ_ne1, gJ_ne2, gI_sJ, gJ_sI, gI_mnw]) (by simp (disch := omega) only [gI_s, gI_ne1, gI_ne2, gJ_s, gJ_ne1, gJ_ne2, gI_sJ, gJ_sI, gI_mnw]) (hM.1 m (by omega))
    · have hz := hM.2 m (by omega) h2
      unfold mx2 iM0 at *
      simp (disch := omega) only [gI_s, gI_ne1, gI_ne2, gJ_s, gJ_ne1, gJ_ne2, gI_sJ, gJ_sI, gI_mnw]
      exact hz
  · unfold mx2
    exact iK_up (show nm ≤ nm + 1 by omega) (Nat.le_refl ns) (iK_fr (fun i j hi => by simp (disch := omega) only [gI_s, gI_ne1, gI_ne2, gJ_s, gJ_ne1, gJ_ne2, gI_sJ, gJ_sI, gI_mnw]) hK)
  · unfold mx2
    exact iL_fr (fun i j hi => by simp (disch := omega) only [gI_s, gI_ne1, gI_ne2, gJ_s, gJ_ne1, gJ_ne2, gI_sJ, gJ_sI, gI_mnw]) (fun j h1 h2 => by simp (disch := omega) only [gI_s, gI_ne1, gI_ne2, gJ_s, gJ_ne1, gJ_ne2, gI_sJ, gJ_sI, gI_mnw]) hL
