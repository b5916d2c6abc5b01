/-! one mirror's tick -/
theorem bI_f0 : bI false = (0 : Int32) := rfl
theorem step21_rel {X Y : Mem} {nm w nf ns tl gr m : Nat} {y2 : Int64} (h : Inw nm w nf ns tl gr (cb X Y)) (hm : m < nm) (hO : Off Y nf m y2) : ∃ X' Y', bk_X3_step_21 X m y2 = some X' ∧ bk_X6_goes_96 Y (nI m) = some Y' ∧ Inw nm w nf ns tl gr (cb X' Y') ∧ FX X X' ∧ FY Y Y' := by
  obtain ⟨⟨a1, a2, a3, a4, a5, a6⟩, ⟨b1, b2, b3, b4, b5, b6⟩, c1, c2, c3, c4, c5, c6, c7⟩ := cb_facts h
  obtain ⟨⟨m1', m2, ⟨m3, v, v1, v2, m3'⟩, m5, m6, m7, m8, m9⟩, n1, n3, n4⟩ := mir h hm
  rcases n4 with ⟨q, -⟩ | ⟨t, d, ht, q, -⟩
  · refine ⟨X, Y, ?_, ?_, h, FX.rf, FY.rf⟩
    · unfold bk_X3_step_21
      rw [m6, q]
      exact if_pos rfl
    · unfold bk_X6_goes_96
      rw [ck_ok (by omega) (by omega), ix_nI (by omega), q]
      exact if_pos rfl
  · have et : gI X (62 + 2 * m) 5 = nI t := m6.trans q
    obtain ⟨X1, Y1, r, i1, i2, i3, i4, i5, i6, i7⟩ := copy_rel (y2 := y2) hm ht 60 X Y v 0 FU FU h et hO (cn_le _ 60) (by omega) v2 (by show 61 < 1000; omega) (by show 61 < 1000; omega)
    have ex : fn_X3_copyFiles X m y2 = some X1 := by
      unfold fn_X3_copyFiles
      rw [m3, m3']
      exact i1
    have ey : fn_X6_copies Y (nI m) = some (bI r, Y1) := by
      unfold fn_X6_copies
      rw [ck_ok (by omega) (by omega), ix_nI (by omega), m3']
      exact i2
    have x1 : bk_X3_step_21 X m y2 = (if gI X1 (62 + 2 * m) 5 = m1 then some X1 else bd1 (fn_X3_missing X1 m) fun r_2 => if (lg_cmp r_2 (0 : Int64)) = (0 : Int32) then bd1 (fn_X3_takeIndex X1 m) fun M_3 => bd1 (fn_X3_dropOld M_3 m) fun M_4 => some M_4 else some X1) := by
      unfold bk_X3_step_21
      rw [et, if_neg (show ¬ nI t = -1 from nI_ne_m1 (by omega)), ex]
      rfl
    have y1 : bk_X6_goes_96 Y (nI m) = (if bI r = (0 : Int32) then some Y1 else bd1 (fn_X6_lacking Y1 (nI m)) fun r_4 => if (0 : Int32) ≤ r_4 then some Y1 else bd1 (fn_X6_turns Y1 (nI m)) fun M_5 => some M_5) := by
      unfold bk_X6_goes_96
      rw [ck_ok (by omega) (by omega), ix_nI (by omega), q, if_neg (show ¬ nI t = -1 from nI_ne_m1 (by omega)), ey]
      rfl
    rw [x1, y1]
    cases r with
    | false =>
      rw [i7 rfl, if_pos rfl, if_pos bI_f0]
      exact ⟨_, _, rfl, rfl, i3, i4, i5⟩
    | true =>
      have et1 := i6 rfl
      obtain ⟨⟨a1', a2', a3', a4', a5', a6'⟩, ⟨b1', b2', b3', b4', b5', b6'⟩, -⟩ := cb_facts i3
      obtain ⟨⟨-, -, -, -, k6, -, -, -⟩, -, ⟨c, hc, n50, -⟩, -⟩ := mir i3 hm
      have ety1 : gI Y1 44 m = nI t := k6.symm.trans et1
      rw [et1, if_neg (nI_ne_m1 (by omega)), if_neg (show ¬ bI true = (0 : Int32) by decide), ex_missing a4' c5 ht et1, bd1_s]
      by_cases h0 : ∀ f, f < 60 → mis X1 m t f = false
      · rw [ey_lack_n b3' c3 (by omega) (by omega) ety1 (fun g hg => by rw [mis_lck i3 hm ht (by omega)]; exact h0 g (by omega)), bd1_s]
        rw [if_neg (show ¬ (0 : Int32) ≤ m1 by decide), (mis_0 i3 ht).mpr h0, if_pos (show lg_cmp (0 : Int64) 0 = 0 by decide), ex_takeIndex, bd1_s]
        obtain ⟨j1, j2, j3⟩ := turn_rel i3 hm ht et1 h0 hc n50
        obtain ⟨X2, Y2, l1, l2, l3, l4, l5⟩ := drop_rel j1 hm (by unfold ytk ytl; simp (disch := omega) only [gI_s, gI_ne1, gI_ne2, gJ_s, gJ_ne1, gJ_ne2, gI_sJ, gJ_sI])
        rw [l1, ey_turns (by omega) hc n50, l2]
        exact ⟨X2, Y2, rfl, rfl, l3, (i4.tr j2).tr l4, (i5.tr j3).tr l5⟩
      · have hex : ∃ f, f < 60 ∧ mis X1 m t f = true := by
          apply Classical.byContradiction
          intro hn
          apply h0
          intro f hf
          cases z : mis X1 m t f with
          | false => rfl
          | true => exact absurd ⟨f, hf, z⟩ hn
        obtain ⟨f, hf, g1, g2⟩ := least_ex hex
        have hfn := mis_nf i3 ht hf g1
        rw [ey_lack_y b3' c3 (by omega) (by omega) ety1 hfn (by rw [mis_lck i3 hm ht hf]; exact g1) (fun g hg => by rw [mis_lck i3 hm ht (by omega)]; exact g2 g hg), bd1_s]
        rw [if_pos (show (0 : Int32) ≤ nI f from nI_le (a := 0) (by omega) (by omega))]
        rw [if_neg (show ¬ lg_cmp (gJ X1 5 t &&& (gJ X1 (62 + 2 * m) 6 ^^^ -1)) 0 = (0 : Int32) from fun z => h0 ((mis_0 i3 ht).mp ((cmp0 _).mp z)))]
        exact ⟨_, _, rfl, rfl, i3, i4, i5⟩
theorem step_rel {X Y : Mem} {nm w nf ns tl gr m s : Nat} {y2 : Int64} (h : Inw nm w nf ns tl gr (cb X Y)) (hm : m < nm) (hO : Off Y nf m y2) (hs : s < ns) : ∃ X' Y', fn_X3_step X m (nI s) y2 = some X' ∧ (if gI Y 44 m = m1 then bk_X6_goes_78 Y (nI m) (nI s) else bk_X6_goes_96 Y (nI m)) = some Y' ∧ Inw nm w nf ns tl gr (cb X' Y') ∧ FX X X' ∧ FY Y Y' := by
  obtain ⟨⟨a1, a2, a3, a4, a5, a6⟩, ⟨b1, b2, b3, b4, b5, b6⟩, c1, c2, c3, c4, c5, c6, c7⟩ := cb_facts h
  obtain ⟨⟨m1', m2, m3, ⟨m5, i, hi, m5'⟩, m6, m7, m8, m9⟩, ⟨n1', n2'⟩, n3, n4⟩ := mir h hm
  obtain ⟨X1, Y1, e1, e2, e3, e4, e5⟩ := step21_rel h hm hO
  rcases n4 with ⟨q, q2⟩ | ⟨t, d, ht, q, -⟩
  · rw [if_pos q]
    unfold fn_X3_step bk_X6_goes_78
    rw [m6, q, if_pos (show m1 = -1 from rfl), ck_ok (by omega) (by omega), ix_nI (by omega), m5, m5']
    by_cases z : s ≤ i
    · rw [if_pos (nI_le z (by omega)), if_pos (nI_le z (by omega))]
      exact ⟨X1, Y1, e1, e2, e3, e4, e5⟩
    · rw [if_neg (nI_ge (by omega) (by omega)), if_neg (nI_ge (by omega) (by omega)), ck_ok (by omega) (by omega), nx_e, nx_e]
      have h2 : Inw nm w nf ns tl gr (cb (sI X (62 + 2 * m) 5 (nI s)) (sI Y 44 m (nI s))) := by
        refine inw_mirror h hm (fun i j q1 q2 q3 => (by simp (disch := omega) only [gI_s, gI_ne1, gI_ne2, gJ_s, gJ_ne1, gJ_ne2, gI_sJ, gJ_sI])) (fun i j q1 => (by simp (disch := omega) only [gI_s, gI_ne1, gI_ne2, gJ_s, gJ_ne1, gJ_ne2, gI_sJ, gJ_sI])) (fun i j q1 q2 q3 => (by simp (disch := omega) only [gI_s, gI_ne1, gI_ne2, gJ_s, gJ_ne1, gJ_ne2, gI_sJ, gJ_sI])) (fun i j q1 q2 q3 q4 q5 => (by simp (disch := omega) only [gI_s, gI_ne1, gI_ne2, gJ_s, gJ_ne1, gJ_ne2, gI_sJ, gJ_sI])) (fun m' f q1 q2 => (by simp (disch := omega) only [gI_s, gI_ne1, gI_ne2, gJ_s, gJ_ne1, gJ_ne2, gI_sJ, gJ_sI])) (fun m' k q1 q2 => (by simp (disch := omega) only [gI_s, gI_ne1, gI_ne2, gJ_s, gJ_ne1, gJ_ne2, gI_sJ, gJ_sI])) (mir_mk ⟨?_, ?_, ?_, ?_⟩)
        · simp (disch := omega) only [gI_s, gI_ne1, gI_ne2, gJ_s, gJ_ne1, gJ_ne2, gI_sJ, gJ_sI, true_and]
          exact ⟨m1', m2, m3, ⟨m5, i, hi, m5'⟩, m7, m8, m9⟩
        · simp (disch := omega) only [gI_s, gI_ne1, gI_ne2, gJ_s, gJ_ne1, gJ_ne2, gI_sJ, gJ_sI]
          exact ⟨n1', n2'⟩
        · simp (disch := omega) only [gI_s, gI_ne1, gI_ne2, gJ_s, gJ_ne1, gJ_ne2, gI_sJ, gJ_sI]
          exact n3
        · simp (disch := omega) only [gI_s, gI_ne1, gI_ne2, gJ_s, gJ_ne1, gJ_ne2, gI_sJ, gJ_sI]
          exact Or.inr ⟨s, 0, hs, rfl, by omega, q2, Or.inl rfl⟩
      have hO2 : Off (sI Y 44 m (nI s)) nf m y2 := by
        rcases hO with ⟨o1, o2⟩ | ⟨j, hj, o1, o2⟩
        · refine Or.inl ⟨?_, o2⟩
          simp (disch := omega) only [gI_s, gI_ne1, gI_ne2, gJ_s, gJ_ne1, gJ_ne2, gI_sJ, gJ_sI]; exact o1
        · refine Or.inr ⟨j, hj, ?_, fun f' hf' => ?_⟩
          · simp (disch := omega) only [gI_s, gI_ne1, gI_ne2, gJ_s, gJ_ne1, gJ_ne2, gI_sJ, gJ_sI]; exact o1
          · simp (disch := omega) only [gI_s, gI_ne1, gI_ne2, gJ_s, gJ_ne1, gJ_ne2, gI_sJ, gJ_sI]; exact o2 f' hf'
      obtain ⟨X2, Y2, f1, f2, f3, f4, f5⟩ := step21_rel h2 hm hO2
      refine ⟨X2, Y2, f1, f2, f3, FX.tr ?_ f4, FY.tr ?_ f5⟩
      · intro i j q1 q2
        simp (disch := omega) only [gI_s, gI_ne1, gI_ne2, gJ_s, gJ_ne1, gJ_ne2, gI_sJ, gJ_sI]
      · refine ⟨fun i j q => ?_, fun i j => ?_⟩ <;> simp (disch := omega) only [gI_s, gI_ne1, gI_ne2, gJ_s, gJ_ne1, gJ_ne2, gI_sJ, gJ_sI]
  · rw [if_neg (by rw [q]; exact nI_ne_m1 (by omega))]
    unfold fn_X3_step
    rw [m6, q, if_neg (show ¬ nI t = -1 from nI_ne_m1 (by omega))]
    exact ⟨X1, Y1, e1, e2, e3, e4, e5⟩
theorem stop_rel {X Y : Mem} {nm w nf ns tl gr m : Nat} (h : Inw nm w nf ns tl gr (cb X Y)) (hm : m < nm) : Inw nm w nf ns tl gr (cb (sI X (62 + 2 * m) 7 (nI 0)) (sI Y 45 m (nI 0))) ∧ FX X (sI X (62 + 2 * m) 7 (nI 0)) ∧ FY Y (sI Y 45 m (nI 0)) := by
  obtain ⟨-, -, c1, c2, c3, c4, c5, c6, c7⟩ := cb_facts h
  obtain ⟨⟨m1', m2, m3, m5, m6, m7, m8, m9⟩, ⟨n1', n2'⟩, n3, n4⟩ := mir h hm
  refine ⟨?_, ?_, ?_⟩
  · refine inw_mirror h hm (fun i j q1 q2 q3 => (by simp (disch := omega) only [gI_s, gI_ne1, gI_ne2, gJ_s, gJ_ne1, gJ_ne2, gI_sJ, gJ_sI])) (fun i j q1 => (by simp (disch := omega) only [gI_s, gI_ne1, gI_ne2, gJ_s, gJ_ne1, gJ_ne2, gI_sJ, gJ_sI])) (fun i j q1 q2 q3 => (by simp (disch := omega) only [gI_s, gI_ne1, gI_ne2, gJ_s, gJ_ne1, gJ_ne2, gI_sJ, gJ_sI])) (fun i j q1 q2 q3 q4 q5 => (by simp (disch := omega) only [gI_s, gI_ne1, gI_ne2, gJ_s, gJ_ne1, gJ_ne2, gI_sJ, gJ_sI])) (fun m' f q1 q2 => (by simp (disch := omega) only [gI_s, gI_ne1, gI_ne2, gJ_s, gJ_ne1, gJ_ne2, gI_sJ, gJ_sI])) (fun m' k q1 q2 => (by simp (disch := omega) only [gI_s, gI_ne1, gI_ne2, gJ_s, gJ_ne1, gJ_ne2, gI_sJ, gJ_sI])) (mir_mk ⟨?_, ?_, ?_, ?_⟩)
    · simp (disch := omega) only [gI_s, gI_ne1, gI_ne2, gJ_s, gJ_ne1, gJ_ne2, gI_sJ, gJ_sI, true_and]
      exact ⟨m1', m2, m3, m5, m6, m8, m9⟩
    · simp (disch := omega) only [gI_s, gI_ne1, gI_ne2, gJ_s, gJ_ne1, gJ_ne2, gI_sJ, gJ_sI]
      exact ⟨n1', n2'⟩
    · simp (disch := omega) only [gI_s, gI_ne1, gI_ne2, gJ_s, gJ_ne1, gJ_ne2, gI_sJ, gJ_sI]
      exact n3
    · simp (disch := omega) only [gI_s, gI_ne1, gI_ne2, gJ_s, gJ_ne1, gJ_ne2, gI_sJ, gJ_sI]
      rcases n4 with ⟨q, -⟩ | ⟨t, d, ht, q, -⟩
      · exact Or.inl ⟨q, trivial⟩
      · exact Or.inr ⟨t, 0, ht, q, by omega, rfl, Or.inl rfl⟩
  · intro i j q1 q2
    simp (disch := omega) only [gI_s, gI_ne1, gI_ne2, gJ_s, gJ_ne1, gJ_ne2, gI_sJ, gJ_sI]
  · refine ⟨fun i j q => ?_, fun i j => ?_⟩ <;> simp (disch := omega) only [gI_s, gI_ne1, gI_ne2, gJ_s, gJ_ne1, gJ_ne2, gI_sJ, gJ_sI]
theorem one_rel {X Y : Mem} {nm w nf ns tl gr m : Nat} {r : Int32} (h : Inw nm w nf ns tl gr (cb X Y)) (hm : m < nm) (hr : ∀ m, m < 32 → hbI r m = dnx tl X (nI w) m) : ∃ X' Y', (∀ rc, lq_X5_stepAll_14 nm r rc X (nI m) = rc X' (nI (m + 1))) ∧ fn_X6_goes Y (nI m) = some Y' ∧ Inw nm w nf ns tl gr (cb X' Y') ∧ FX X X' ∧ FY Y Y' := by
  obtain ⟨⟨a1, a2, a3, a4, a5, a6⟩, ⟨b1, b2, b3, b4, b5, b6⟩, c1, c2, c3, c4, c5, c6, c7⟩ := cb_facts h
  obtain ⟨⟨⟨e0, e40⟩, m2, m3, m5, m6, m7, m8, m9⟩, ⟨n1', n2'⟩, n3, n4⟩ := mir h hm
  have fx : ∀ m, m < 8 → fn_X5_isIn r (nI m) = some (bI (dn tl Y (nI w) m)) := fun m hm => by rw [e_isIn (by omega), hr m (by omega), dnx_dn h.2.2.1]
  have fy : ∀ m, fn_X6_isFallen Y (nI m) = some (bI (dn tl Y (nI w) m)) := fun m => ey_isFallen b2 b5 c2 c6 m
  have hx1 : ∀ rc, lq_X5_stepAll_14 nm r rc X (nI m) = (bd1 (fn_X5_mirrorAt nm X (gI Y 40 m)) fun o_6 => oc o_6 (
      bd1 (fn_X5_isIn r (nI m)) fun r_7 =>
      if r_7 = (0 : Int32) then
        bd1 (fn_X4_latestState X) fun r_8 =>
        bd1 (fn_X4_allFiles X) fun r_9 =>
        bd1 (fn_X3_step X m r_8 r_9) fun M_10 => rc M_10 (nI (m + 1))
      else rc (sI X (62 + 2 * m) 7 (nI 0)) (nI (m + 1))) (fun q_5 =>
      bd1 (fn_X5_isIn r (nI m)) fun r_12 =>
      if r_12 = (0 : Int32) then
        bd1 (fn_X5_isIn r (gI Y 40 m)) fun r_13 =>
        if r_13 = (0 : Int32) then
          bd1 (fn_X3_step X m (gI X (62 + 2 * q_5) 4) (gJ X (62 + 2 * q_5) 6)) fun M_14 => rc M_14 (nI (m + 1))
        else rc X (nI (m + 1))
      else rc (sI X (62 + 2 * m) 7 (nI 0)) (nI (m + 1)))) := by
    intro rc
    unfold lq_X5_stepAll_14 bk_X5_stepAll_120
    rw [a1, if_neg (nI_ge (by omega) (by omega)), ex_mirrorAt a1 c1 hm, bd1_s, oc_s, e0, show nI m + 1 = nI (m + 1) from nI_add m 1]
    rfl
  have hy1 : fn_X6_goes Y (nI m) = if bI (dn tl Y (nI w) m) = (0 : Int32) then (if (gI Y 40 m) < (0 : Int32) then bk_X6_goes_39 Y (nI m) else bd1 (fn_X6_isFallen Y (gI Y 40 m)) fun r_7 => if r_7 = (0 : Int32) then bk_X6_goes_39 Y (nI m) else some Y) else some (sI Y 45 m (nI 0)) := by
    unfold fn_X6_goes
    rw [fy, bd1_s, ck_ok (by omega) (by omega), ck_ok (by omega) (by omega), ck_ok (by omega) (by omega), ix_nI (by omega)]
    rfl
  rw [hy1]
  cases hd : dn tl Y (nI w) m with
  | true =>
    obtain ⟨s1, s2, s3⟩ := stop_rel h hm
    rw [if_neg (by decide)]
    refine ⟨_, _, fun rc => ?_, rfl, s1, s2, s3⟩
    rw [hx1]
    rcases e40 with e40 | ⟨j, hj, e40⟩
    · rw [e40, ex_mirrorAtm, bd1_s, oc_n, fx m (by omega), hd]
      rfl
    · rw [e40, ex_mirrorAt a1 c1 (show j < nm by omega), bd1_s, oc_s, fx m (by omega), hd]
      rfl
  | false =>
    rw [if_pos bI_f0]
    rcases e40 with e40 | ⟨j, hj, e40⟩
    · obtain ⟨X', Y', s1, s2, s3, s4, s5⟩ := step_rel (s := ns - 1) (y2 := ((1 : Int64) <<< ((nI nf).toInt64 &&& 63)) - (1 : Int64)) h hm (Or.inl ⟨e40, fun f hf => by rw [hb_all c3]; exact decide_eq_true hf⟩) (by omega)
      refine ⟨X', Y', fun rc => ?_, ?_, s3, s4, s5⟩
      · rw [hx1, e40, ex_mirrorAtm, bd1_s, oc_n, fx m (by omega), hd, bd1_s, if_pos bI_f0]
        unfold fn_X4_latestState fn_X4_allFiles
        rw [a4, a3, bd1_s, bd1_s, show nI ns - 1 = nI (ns - 1) from nI_sub (b := 1) (by omega), s1]
        rfl
      · rw [e40, if_pos (by decide)]
        unfold bk_X6_goes_39
        rw [ck_ok (by omega) (by omega), ck_ok (by omega) (by omega), ix_nI (by omega), e40, if_neg (show ¬ (0 : Int32) ≤ m1 by decide), b4, show nI ns - 1 = nI (ns - 1) from nI_sub (b := 1) (by omega)]
        exact s2
    · have hjn : j < nm := by omega
      obtain ⟨⟨-, -, -, ⟨k5, i, hi, k5'⟩, -⟩, ⟨k1, -⟩, -⟩ := mir h hjn
      have nj : ¬ nI j < (0 : Int32) := nI_nlt (b := 0) (by omega) (by omega)
      obtain ⟨X', Y', s1, s2, s3, s4, s5⟩ := step_rel (s := i) (y2 := gJ X (62 + 2 * j) 6) h hm (Or.inr ⟨j, hj, e40, k1⟩) hi
      rw [e40, if_neg nj, fy, bd1_s]
      cases hd2 : dn tl Y (nI w) j with
      | true =>
        rw [if_neg (by decide)]
        refine ⟨X, Y, fun rc => ?_, rfl, h, FX.rf, FY.rf⟩
        rw [hx1, e40, ex_mirrorAt a1 c1 hjn, bd1_s, oc_s, fx m (by omega), hd, bd1_s, if_pos bI_f0, fx j (by omega), hd2]
        rfl
      | false =>
        rw [if_pos bI_f0]
        refine ⟨X', Y', fun rc => ?_, ?_, s3, s4, s5⟩
        · rw [hx1, e40, ex_mirrorAt a1 c1 hjn, bd1_s, oc_s, fx m (by omega), hd, bd1_s, if_pos bI_f0, fx j (by omega), hd2, bd1_s, if_pos bI_f0, k5, k5', s1]
          rfl
        · unfold bk_X6_goes_39
          rw [ck_ok (by omega) (by omega), ck_ok (by omega) (by omega), ck_ok (by omega) (by omega), ix_nI (by omega), e40, if_pos (show (0 : Int32) ≤ nI j from nI_le (a := 0) (by omega) (by omega)), ck_ok (by omega) (by omega), ix_nI (by omega), k5']
          exact s2
/-! a tick -/
theorem dnx_fr {X X' : Mem} (h : FX X X') (tl : Nat) (w : Int32) (m : Nat) : dnx tl X' w m = dnx tl X w m := by
  unfold dnx
  exact anyB_cong (fun k hk => by rw [h 8 k (by omega) (by omega), h 9 k (by omega) (by omega), h 10 k (by omega) (by omega)])
theorem all_rel {nm w nf ns tl gr : Nat} {r : Int32} {rc27 : Mem → Int32 → Option (Int32 × Mem)} {x1 x2 : Int32} : ∀ (d : Nat) (X Y : Mem) (m n1 n2 : Nat), m + d = nm → Inw nm w nf ns tl gr (cb X Y) → (∀ m, m < 32 → hbI r m = dnx tl X (nI w) m) → d < n1 → d < n2 →
    ∃ X' Y', it2 (lq_X5_stepAll_14 nm r) n1 X (nI m) = some X' ∧ it2 (lq_X6_pass_34 rc27 x1 x2) n2 Y (nI m) = rc27 (sI Y' 35 0 (nI (w + 1))) (x2 + 1) ∧ Inw nm w nf ns tl gr (cb X' Y') ∧ FX X X' ∧ FY Y Y' := by
  intro d
  induction d with
  | zero =>
    intro X Y m n1 n2 hd h hr hn1 hn2
    obtain ⟨⟨a1, a2, a3, a4, a5, a6⟩, ⟨b1, b2, b3, b4, b5, b6⟩, c1, c2, c3, c4, c5, c6, c7⟩ := cb_facts h
    obtain ⟨p1, rfl⟩ : ∃ p, n1 = p + 1 := ⟨n1 - 1, by omega⟩
    obtain ⟨p2, rfl⟩ : ∃ p, n2 = p + 1 := ⟨n2 - 1, by omega⟩
    obtain rfl : m = nm := by omega
    refine ⟨X, Y, ?_, ?_, h, FX.rf, FY.rf⟩
    · show lq_X5_stepAll_14 m r _ X (nI m) = _
      unfold lq_X5_stepAll_14
      rw [a1, if_pos Int32.le_rfl]
    · show lq_X6_pass_34 rc27 x1 x2 _ Y (nI m) = _
      unfold lq_X6_pass_34
      rw [b1, if_pos Int32.le_rfl, b2, show nI w + 1 = nI (w + 1) from nI_add w 1]
      rfl
  | succ d ih =>
    intro X Y m n1 n2 hd h hr hn1 hn2
    obtain ⟨⟨a1, a2, a3, a4, a5, a6⟩, ⟨b1, b2, b3, b4, b5, b6⟩, c1, c2, c3, c4, c5, c6, c7⟩ := cb_facts h
    obtain ⟨p1, rfl⟩ : ∃ p, n1 = p + 1 := ⟨n1 - 1, by omega⟩
    obtain ⟨p2, rfl⟩ : ∃ p, n2 = p + 1 := ⟨n2 - 1, by omega⟩
    obtain ⟨X1, Y1, e1, e2, e3, e4, e5⟩ := one_rel h (show m < nm by omega) hr
    obtain ⟨X', Y', i1, i2, i3, i4, i5⟩ := ih X1 Y1 (m + 1) p1 p2 (by omega) e3 (fun m hm => by rw [dnx_fr e4]; exact hr m hm) (by omega) (by omega)
    refine ⟨X', Y', ?_, ?_, i3, e4.tr i4, e5.tr i5⟩
    · show lq_X5_stepAll_14 nm r _ X (nI m) = _
      rw [e1]
      exact i1
    · show lq_X6_pass_34 rc27 x1 x2 _ Y (nI m) = _
      unfold lq_X6_pass_34
      rw [b1, if_neg (nI_ge (by omega) (by omega)), e2, bd1_s, nx_e, show nI m + 1 = nI (m + 1) from nI_add m 1]
      exact i2
theorem now_rel {X Y : Mem} {nm w nf ns tl gr : Nat} (h : Inw nm w nf ns tl gr (cb X Y)) (hw : w + 1 ≤ 9999) : Inw nm (w + 1) nf ns tl gr (cb (sI X 0 6 (nI (w + 1))) (sI Y 35 0 (nI (w + 1)))) := by
  obtain ⟨hA, hS, hF, hM, hK, hL⟩ := h
  have c3 : nf ≤ 60 := hA.2.2.2.2.1
  have f0 : ∀ i j, i ≠ 0 → i ≠ 35 → gI (cb (sI X 0 6 (nI (w + 1))) (sI Y 35 0 (nI (w + 1)))) i j = gI (cb X Y) i j := by
    intro i j h1 h2
    by_cases q : 35 ≤ i ∧ i ≤ 61
    · rw [cb_y (by omega) (by omega), cb_y (by omega) (by omega), gI_ne1 h2]
    · rw [cb_x (by omega), cb_x (by omega), gI_ne1 h1]
  refine ⟨?_, iS_up (Nat.le_succ w) (iS_fr (fun i j hi => f0 i j (by omega) (by omega)) (fun i j hi => rfl) hS), iF_fr (fun i j hi => f0 i j (by omega) (by omega)) hF, iM_fr c3 hS (fun i j hi => f0 i j (by omega) (by omega)) (fun i j hi => rfl) hM, iK_fr (fun i j hi => f0 i j (by omega) (by omega)) hK, iL_fr (fun i j hi => f0 i j (by omega) (by omega)) (fun j h1 h2 => by rw [cb_y (by omega) (by omega), cb_y (by omega) (by omega), gI_ne2 (by omega)]) hL⟩
  unfold iA at *
  simp (disch := omega) only [cb_x, cb_y, gI_s, gI_ne1, gI_ne2, gJ_s, gJ_ne1, gJ_ne2, gI_sJ, gJ_sI, true_and] at *
  refine ⟨⟨hA.1.1, hA.1.2.2⟩, ⟨hA.2.1.1, hA.2.1.2.2⟩, hA.2.2.1, hw, hA.2.2.2.2⟩
theorem pass_rel {nm nf ns tl gr T : Nat} (hT : T ≤ 500) : ∀ (d w : Nat) (X Y : Mem) (i n1 n2 : Nat), i + d = T → w + d ≤ 9999 → Inw nm w nf ns tl gr (cb X Y) → d < n1 → d < n2 →
    ∃ X' Y', it2 (lq_X5_pass_27 nm (nI T)) n1 X (nI i) = some (nI (w + d), X') ∧ it2 (lq_X6_pass_27 (nI T)) n2 Y (nI i) = some (nI (w + d), Y') ∧ Inw nm (w + d) nf ns tl gr (cb X' Y') ∧ FX X X' ∧ FY Y Y' := by
  intro d
  induction d with
  | zero =>
    intro w X Y i n1 n2 hd hw h hn1 hn2
    obtain ⟨⟨a1, a2, a3, a4, a5, a6⟩, ⟨b1, b2, b3, b4, b5, b6⟩, c1, c2, c3, c4, c5, c6, c7⟩ := cb_facts h
    obtain ⟨p1, rfl⟩ : ∃ p, n1 = p + 1 := ⟨n1 - 1, by omega⟩
    obtain ⟨p2, rfl⟩ : ∃ p, n2 = p + 1 := ⟨n2 - 1, by omega⟩
    obtain rfl : i = T := by omega
    refine ⟨X, Y, ?_, ?_, h, FX.rf, FY.rf⟩
    · show lq_X5_pass_27 nm (nI i) _ X (nI i) = _
      unfold lq_X5_pass_27
      rw [if_pos Int32.le_rfl, a2]
      rfl
    · show lq_X6_pass_27 (nI i) _ Y (nI i) = _
      unfold lq_X6_pass_27
      rw [if_pos Int32.le_rfl, b2]
      rfl
  | succ d ih =>
    intro w X Y i n1 n2 hd hw h hn1 hn2
    obtain ⟨⟨a1, a2, a3, a4, a5, a6⟩, ⟨b1, b2, b3, b4, b5, b6⟩, c1, c2, c3, c4, c5, c6, c7⟩ := cb_facts h
    obtain ⟨p1, rfl⟩ : ∃ p, n1 = p + 1 := ⟨n1 - 1, by omega⟩
    obtain ⟨p2, rfl⟩ : ∃ p, n2 = p + 1 := ⟨n2 - 1, by omega⟩
    have hfl : ∀ k, k < tl → ∃ m, m < 32 ∧ gI X 8 k = nI m := by
      intro k hk
      obtain ⟨f1, -, -, m, f2, f3⟩ := h.2.2.1 k hk
      rw [cb_x (by omega)] at f1
      exact ⟨m, by omega, f1.trans f3⟩
    obtain ⟨r, r1, r2⟩ := ex_downAt (w := w) a5 c6 hfl
    obtain ⟨X1, Y1, e1, e2, e3, e4, e5⟩ := all_rel (rc27 := it2 (lq_X6_pass_27 (nI T)) p2) (x1 := nI T) (x2 := nI i) nm X Y 0 FU FU (by omega) h r2 (by show nm < 1000; omega) (by show nm < 1000; omega)
    obtain ⟨⟨a1', a2', -⟩, -⟩ := cb_facts e3
    have h3 := now_rel e3 (by omega)
    obtain ⟨X', Y', i1, i2, i3, i4, i5⟩ := ih (w + 1) _ _ (i + 1) p1 p2 (by omega) (by omega) h3 (by omega) (by omega)
    have ew : w + 1 + d = w + (d + 1) := by omega
    rw [ew] at i1 i2 i3
    refine ⟨X', Y', ?_, ?_, i3, FX.tr e4 (FX.tr ?_ i4), FY.tr e5 (FY.tr ?_ i5)⟩
    · show lq_X5_pass_27 nm (nI T) _ X (nI i) = _
      unfold lq_X5_pass_27 fn_X5_stepAll
      rw [if_neg (nI_ge (by omega) (by omega)), a2, r1, bd1_s]
      have e1' : it2 (lq_X5_stepAll_14 nm r) FU X (0 : Int32) = some X1 := e1
      rw [e1', bd1_s, nx_e, nx_e, a2', show nI w + 1 = nI (w + 1) from nI_add w 1, show nI i + 1 = nI (i + 1) from nI_add i 1]
      exact i1
    · show lq_X6_pass_27 (nI T) _ Y (nI i) = _
      unfold lq_X6_pass_27
      rw [if_neg (nI_ge (by omega) (by omega))]
      refine e2.trans ?_
      rw [show nI i + 1 = nI (i + 1) from nI_add i 1]
      exact i2
    · intro i j q1 q2
      simp (disch := omega) only [gI_s, gI_ne1, gI_ne2, gJ_s, gJ_ne1, gJ_ne2, gI_sJ, gJ_sI]
    · refine ⟨fun i j q => ?_, fun i j => ?_⟩ <;> simp (disch := omega) only [gI_s, gI_ne1, gI_ne2, gJ_s, gJ_ne1, gJ_ne2, gI_sJ, gJ_sI]
theorem ag_cb {M X : Mem} (h : ∀ i j, 35 ≤ i → i ≤ 61 → gI X i j = gI M i j) : Ag M (cb M X) := by
  refine ⟨fun i j => ?_, fun i j => rfl⟩
  by_cases q : 35 ≤ i ∧ i ≤ 61
  · rw [cb_y q.1 q.2, h i j q.1 q.2]
  · rw [cb_x (by omega)]
theorem ag_y {X Y : Mem} (h : FY X Y) : Ag (cb X Y) Y := by
  refine ⟨fun i j => ?_, fun i j => h.2 i j⟩
  by_cases q : 35 ≤ i ∧ i ≤ 61
  · rw [cb_y q.1 q.2]
  · rw [cb_x (by omega), h.1 i j (by omega)]
theorem op_pass {nm : Nat} {M : Mem} (h : Inv nm M) (x : Int32) : ∃ r M1 M2, fn_X5_pass nm M x = some (r, M1) ∧ fn_X6_pass M1 x = some (r, M2) ∧ Inv nm M2 := by
  obtain ⟨w, nf, ns, tl, gr, hI⟩ := h
  obtain ⟨⟨a1, a2, a3, a4, a5, a6⟩, ⟨b1, b2, b3, b4, b5, b6⟩, c1, c2, c3, c4, c5, c6, c7⟩ := id hI.1
  by_cases hx : nI 1 ≤ x ∧ x ≤ nI 500
  · obtain ⟨T, t1, t2, rfl⟩ := rng (by omega) hx (by omega)
    have et : decide (nI 1 ≤ nI T ∧ nI T ≤ nI 500) = true := decide_eq_true hx
    by_cases hw : w + T ≤ 9999
    · have h1 : Inw nm w nf ns tl gr (cb M M) := Inw_ag (ag_cb (fun _ _ _ _ => rfl)) hI
      obtain ⟨X', Y', i1, i2, i3, i4, i5⟩ := pass_rel t2 T w M M 0 FU FU (by omega) hw h1 (by show T < 1000; omega) (by show T < 1000; omega)
      have h2 : Inw nm w nf ns tl gr (cb M X') := Inw_ag (ag_cb (fun i j q1 q2 => i4 i j (by omega) q2)) hI
      obtain ⟨X2, Y2, j1, j2, j3, j4, j5⟩ := pass_rel t2 T w M X' 0 FU FU (by omega) hw h2 (by show T < 1000; omega) (by show T < 1000; omega)
      have eX : X2 = X' := by
        rw [i1] at j1
        exact ((Prod.mk.inj (Option.some.inj j1)).2).symm
      subst eX
      have e35 : gI X2 35 0 = nI w := by rw [i4 35 0 (by omega) (by omega)]; exact b2
      refine ⟨nI (w + T), X2, Y2, ?_, ?_, w + T, nf, ns, tl, gr, Inw_ag (ag_y j5) j3⟩
      · unfold fn_X5_pass
        rw [e_within, bd1_s, show decide ((1 : Int32) ≤ nI T ∧ nI T ≤ (500 : Int32)) = true from et, if_neg (by decide), a2, show (9999 : Int32) - nI w = nI (9999 - w) from nI_sub (a := 9999) (by omega), if_pos (nI_le (by omega) (by omega))]
        exact i1
      · unfold fn_X6_pass
        rw [e_in, bd1_s, show decide ((1 : Int32) ≤ nI T ∧ nI T ≤ (500 : Int32)) = true from et, if_neg (by decide), e35, nI_add, if_pos (show nI (w + T) ≤ (9999 : Int32) from nI_le (b := 9999) (by omega) (by omega))]
        exact j2
    · refine ⟨m1, M, M, ?_, ?_, w, nf, ns, tl, gr, hI⟩
      · unfold fn_X5_pass
        rw [e_within, bd1_s, show decide ((1 : Int32) ≤ nI T ∧ nI T ≤ (500 : Int32)) = true from et, if_neg (by decide), a2, show (9999 : Int32) - nI w = nI (9999 - w) from nI_sub (a := 9999) (by omega), if_neg (nI_ge (by omega) (by omega))]
        rfl
      · unfold fn_X6_pass
        rw [e_in, bd1_s, show decide ((1 : Int32) ≤ nI T ∧ nI T ≤ (500 : Int32)) = true from et, if_neg (by decide), b2, nI_add, if_neg (show ¬ nI (w + T) ≤ (9999 : Int32) from nI_ge (a := 9999) (by omega) (by omega))]
        rfl
  · refine ⟨m1, M, M, ?_, ?_, w, nf, ns, tl, gr, hI⟩
    · unfold fn_X5_pass
      rw [e_within, bd1_s, show decide ((1 : Int32) ≤ x ∧ x ≤ (500 : Int32)) = false from decide_eq_false hx, if_pos bI_f0]
      rfl
    · unfold fn_X6_pass
      rw [e_in, bd1_s, show decide ((1 : Int32) ≤ x ∧ x ≤ (500 : Int32)) = false from decide_eq_false hx, if_pos bI_f0]
      rfl
