/-! an asking -/
def FXq (X X' : Mem) : Prop := ∀ i j, 35 ≤ i → i ≤ 61 → gI X' i j = gI X i j
theorem FXq.tr {X X' X'' : Mem} (h : FXq X X') (h2 : FXq X' X'') : FXq X X'' := fun i j a b => (h2 i j a b).trans (h i j a b)
theorem FoX.q {k : Nat} {X X' : Mem} (hk : k < 6) (h : FoX k X X') : FXq X X' := fun i j _ _ => h.1 i j (by omega) (by omega)
theorem FgX.q {k : Nat} {X X' : Mem} (hk : k < 6) (h : FgX k X X') : FXq X X' := fun i j _ _ => h.1 i j (by omega) (by omega)
theorem FhX.q {k : Nat} {X X' : Mem} (hk : k < 6) (h : FhX k X X') : FXq X X' := fun i j _ _ => h.1 i j (by omega) (by omega) (by omega)
theorem FoY.q {Y Y' : Mem} (h : FoY Y Y') : FY Y Y' := ⟨fun i j _ => h.1 i j (by omega) (by omega), h.2⟩
theorem FgY.q {k : Nat} {Y Y' : Mem} (h : FgY k Y Y') : FY Y Y' := ⟨fun i j _ => h.1 i j (by omega) (by omega), h.2⟩
theorem FhY.q {k : Nat} {Y Y' : Mem} (h : FhY k Y Y') : FY Y Y' := ⟨fun i j _ => h.1 i j (by omega) (by omega) (by omega), h.2⟩
theorem mk_inw {nm w nf ns tl gr g : Nat} {X Y : Mem} (h : Aq nm w nf ns tl gr X Y) (h3 : gI X 31 3 = nI 1) (h3' : gI Y 35 30 = nI 1) (h4 : gI X 31 4 = gI Y 35 31) (h8 : gI X 31 8 = gI Y 35 35) (h9 : gI X 31 9 = gI Y 35 36) (hg : g ≤ 12) (hG : Gt g X Y) : Inw nm w nf ns tl gr (cb X Y) := by
  obtain ⟨⟨hA, hS, hF, hM, hK⟩, h5, h6⟩ := h
  refine ⟨hA, hS, hF, hM, hK, ?_⟩
  unfold iL
  simp (disch := omega) only [cb_x, cb_y]
  refine ⟨⟨h3.trans h3'.symm, h4, h5, h6, hG.1.trans hG.2.1.symm, h8, h9⟩, true, h3', g, hg, hG.2.1, fun z => (by cases z), hG.2.2⟩
theorem seen_aq {nm w nf ns tl gr k i : Nat} {X Y : Mem} (hk : k < 6) (hi : i < ns) (h : Aq nm w nf ns tl gr X Y) : Aq nm w nf ns tl gr (sI X (13 + 3 * k) 4 (nI i)) (sI Y 56 k (nI i)) := by
  obtain ⟨h, h1, h2⟩ := h
  refine ⟨inb_fr h (fun i j q => (by simp (disch := omega) only [gI_s, gI_ne1, gI_ne2, gJ_s, gJ_ne1, gJ_ne2, gI_sJ, gJ_sI])) (fun i j => rfl) (fun i j q1 q2 => (by simp (disch := omega) only [gI_s, gI_ne1, gI_ne2, gJ_s, gJ_ne1, gJ_ne2, gI_sJ, gJ_sI])) (fun j q => (by simp (disch := omega) only [gI_s, gI_ne1, gI_ne2, gJ_s, gJ_ne1, gJ_ne2, gI_sJ, gJ_sI])) ?_, ?_, ?_⟩
  · intro k' hk'
    have h0 := h.2.2.2.2 k' hk'
    unfold iK1 at *
    by_cases e : k' = k
    · subst e
      simp (disch := omega) only [cb_x, cb_y, gI_s, gI_ne1, gI_ne2, gJ_s, gJ_ne1, gJ_ne2, gI_sJ, gJ_sI, true_and] at *
      exact ⟨h0.1, h0.2.1, Or.inr ⟨i, hi, rfl⟩, h0.2.2.2⟩
    · simp (disch := omega) only [cb_x, cb_y, gI_s, gI_ne1, gI_ne2, gJ_s, gJ_ne1, gJ_ne2, gI_sJ, gJ_sI] at *
      exact h0
  · simp (disch := omega) only [gI_s, gI_ne1, gI_ne2, gJ_s, gJ_ne1, gJ_ne2, gI_sJ, gJ_sI]; exact h1
  · simp (disch := omega) only [gI_s, gI_ne1, gI_ne2, gJ_s, gJ_ne1, gJ_ne2, gI_sJ, gJ_sI]; exact h2
/-- a change of what is kept of the asking -/
theorem kept_aq {nm w nf ns tl gr : Nat} {X Y : Mem} (j j' : Nat) (v v' : Int32) (hj : j ≠ 5) (hj2 : j ≠ 6) (hj' : 29 ≤ j') (hj3 : j' ≠ 32) (hj4 : j' ≠ 33) (h : Aq nm w nf ns tl gr X Y) : Aq nm w nf ns tl gr (sI X 31 j v) (sI Y 35 j' v') := by
  obtain ⟨h, h1, h2⟩ := h
  refine ⟨inb_fr h (fun i j q => (by simp (disch := omega) only [gI_s, gI_ne1, gI_ne2, gJ_s, gJ_ne1, gJ_ne2, gI_sJ, gJ_sI])) (fun i j => rfl) (fun i j q1 q2 => (by simp (disch := omega) only [gI_s, gI_ne1, gI_ne2, gJ_s, gJ_ne1, gJ_ne2, gI_sJ, gJ_sI])) (fun j q => (by simp (disch := omega) only [gI_s, gI_ne1, gI_ne2, gJ_s, gJ_ne1, gJ_ne2, gI_sJ, gJ_sI])) (ik_fr h.2.2.2.2 (fun j m q => (by simp (disch := omega) only [gI_s, gI_ne1, gI_ne2, gJ_s, gJ_ne1, gJ_ne2, gI_sJ, gJ_sI])) (fun j s q1 q2 q3 => (by simp (disch := omega) only [gI_s, gI_ne1, gI_ne2, gJ_s, gJ_ne1, gJ_ne2, gI_sJ, gJ_sI])) (fun i j q1 q2 => (by simp (disch := omega) only [gI_s, gI_ne1, gI_ne2, gJ_s, gJ_ne1, gJ_ne2, gI_sJ, gJ_sI]))), ?_, ?_⟩
  · simp (disch := omega) only [gI_s, gI_ne1, gI_ne2, gJ_s, gJ_ne1, gJ_ne2, gI_sJ, gJ_sI]; exact h1
  · simp (disch := omega) only [gI_s, gI_ne1, gI_ne2, gJ_s, gJ_ne1, gJ_ne2, gI_sJ, gJ_sI]; exact h2
theorem kept_x {nm w nf ns tl gr : Nat} {X Y : Mem} (j : Nat) (v : Int32) (hj : j ≠ 5) (hj2 : j ≠ 6) (h : Aq nm w nf ns tl gr X Y) : Aq nm w nf ns tl gr (sI X 31 j v) Y := by
  have := kept_aq j 36 v (gI Y 35 36) hj hj2 (by omega) (by omega) (by omega) h
  rw [sI_self] at this
  exact this
theorem kept_y {nm w nf ns tl gr : Nat} {X Y : Mem} (j' : Nat) (v' : Int32) (hj' : 29 ≤ j') (hj3 : j' ≠ 32) (hj4 : j' ≠ 33) (h : Aq nm w nf ns tl gr X Y) : Aq nm w nf ns tl gr X (sI Y 35 j' v') := by
  have := kept_aq 9 j' (gI X 31 9) v' (by omega) (by omega) hj' hj3 hj4 h
  rw [sI_self] at this
  exact this
def bgX (X : Mem) : Mem := sI (sI (sI (sI (sI (sI (sI X 31 3 (nI 1)) 31 4 m1) 31 5 (nI 0)) 31 6 (nI 0)) 31 7 (nI 0)) 31 8 m1) 31 9 m1
def bgY (Y : Mem) : Mem := sI (sI (sI (sI (sI (sI Y 35 30 (nI 1)) 35 32 (nI 0)) 35 33 (nI 0)) 35 34 (nI 0)) 35 35 m1) 35 36 m1
theorem bg_aq {nm w nf ns tl gr : Nat} {X Y : Mem} (h : Inb nm w nf ns tl gr (cb X Y)) : Aq nm w nf ns tl gr (bgX X) (bgY Y) := by
  unfold bgX bgY
  refine ⟨inb_fr h (fun i j q => (by simp (disch := omega) only [gI_s, gI_ne1, gI_ne2, gJ_s, gJ_ne1, gJ_ne2, gI_sJ, gJ_sI])) (fun i j => rfl) (fun i j q1 q2 => (by simp (disch := omega) only [gI_s, gI_ne1, gI_ne2, gJ_s, gJ_ne1, gJ_ne2, gI_sJ, gJ_sI])) (fun j q => (by simp (disch := omega) only [gI_s, gI_ne1, gI_ne2, gJ_s, gJ_ne1, gJ_ne2, gI_sJ, gJ_sI])) (ik_fr h.2.2.2.2 (fun j m q => (by simp (disch := omega) only [gI_s, gI_ne1, gI_ne2, gJ_s, gJ_ne1, gJ_ne2, gI_sJ, gJ_sI])) (fun j s q1 q2 q3 => (by simp (disch := omega) only [gI_s, gI_ne1, gI_ne2, gJ_s, gJ_ne1, gJ_ne2, gI_sJ, gJ_sI])) (fun i j q1 q2 => (by simp (disch := omega) only [gI_s, gI_ne1, gI_ne2, gJ_s, gJ_ne1, gJ_ne2, gI_sJ, gJ_sI]))), ?_, ?_⟩
  · simp (disch := omega) only [gI_s, gI_ne1, gI_ne2, gJ_s, gJ_ne1, gJ_ne2, gI_sJ, gJ_sI]
  · simp (disch := omega) only [gI_s, gI_ne1, gI_ne2, gJ_s, gJ_ne1, gJ_ne2, gI_sJ, gJ_sI]
theorem carry_rel {nm w nf ns tl gr k L : Nat} {X Y : Mem} {r x sn : Int32} (hk : k < 6) (hL : L ≤ 8) (h : Aq nm w nf ns tl gr X Y) (hl : Ln k nm L X Y) (hr : ∀ m, m < 32 → hbI r m = dn tl Y (nI w) m) (hdi : ∀ q q', q < L → q' < L → q ≠ q' → gI Y 58 q ≠ gI Y 58 q') (hnb : ∀ q m', q < L → gI Y 58 q = nI m' → m' < 8 → hbI (gI Y 57 k) m' = false)
    (hsn : gI Y 56 k = sn) (f3 : gI X 31 3 = nI 1) (f3' : gI Y 35 30 = nI 1) (f7 : gI X 31 7 = nI 0) (f7' : gI Y 35 34 = nI 0) (f8 : gI X 31 8 = m1) (f8' : gI Y 35 35 = m1) (f9 : gI X 31 9 = m1) (f9' : gI Y 35 36 = m1) :
    ∃ rv X' Y', (bd2 (fn_X5_carryOut nm X k x r) fun r_9 M_8 => if r_9 = (0 : Int32) then bd1 (fn_X5_foresee nm M_8 k x sn r) fun r_10 => some (r_9, sI M_8 31 9 r_10) else some (r_9, M_8)) = some (rv, X') ∧
      (bd2 (fn_X6_indexFor Y (nI k)) fun r_12 M_11 => nx (sI M_11 35 31 r_12) fun M_13 => if (0 : Int32) ≤ (gI M_13 35 31) then nx (sI M_13 56 k (gI M_13 35 31)) fun M_14 => it2 (lq_X6_ask_94 (nI k) x sn) FU M_14 (nI 11) else some ((1 : Int32), M_13)) = some (rv, Y') ∧ Inw nm w nf ns tl gr (cb X' Y') ∧ FXq X X' ∧ FY Y Y' := by
  obtain ⟨-, -, c1, c2, c3, c4, c5, c6, c7⟩ := cbb_facts h.1
  obtain ⟨rv, X3, Y3, i1, i2, i3, i4, i5, i6⟩ := idx_rel (r := r) hk L X Y 0 FU FU (by omega) hL h hl hr hdi (fun q m' _ w2 w3 w4 => hnb q m' w2 w3 w4) (by show L < 1000; omega) (by show L < 1000; omega)
  have j1 : fn_X5_findIndex nm X k r = some (rv, X3) := i1
  have j2 : fn_X6_indexFor Y (nI k) = some (rv, Y3) := i2
  have q3 : gI X3 31 3 = nI 1 := by rw [i4.1 _ _ (by omega) (by omega)]; exact f3
  have q3' : gI Y3 35 30 = nI 1 := by rw [i5.1 _ _ (by omega) (by omega)]; exact f3'
  have q7 : gI X3 31 7 = nI 0 := by rw [i4.1 _ _ (by omega) (by omega)]; exact f7
  have q7' : gI Y3 35 34 = nI 0 := by rw [i5.1 _ _ (by omega) (by omega)]; exact f7'
  have q8 : gI X3 31 8 = m1 := by rw [i4.1 _ _ (by omega) (by omega)]; exact f8
  have q8' : gI Y3 35 35 = m1 := by rw [i5.1 _ _ (by omega) (by omega)]; exact f8'
  have q9 : gI X3 31 9 = m1 := by rw [i4.1 _ _ (by omega) (by omega)]; exact f9
  have q9' : gI Y3 35 36 = m1 := by rw [i5.1 _ _ (by omega) (by omega)]; exact f9'
  have hA4 := kept_aq 4 31 rv rv (by omega) (by omega) (by omega) (by omega) (by omega) i3
  rw [j2, bd2_s, nx_e, gI_s]
  unfold fn_X5_carryOut
  rw [j1, bd2_s, nx_e, gI_s]
  rcases i6 with i6 | ⟨i, mi, hi, i6, hmi, hwa, e43, hgd⟩
  · subst i6
    rw [if_pos (show m1 = (-1 : Int32) from rfl), if_neg (show ¬ (0 : Int32) ≤ m1 by decide), bd2_s, if_neg (show ¬ (1 : Int32) = 0 by decide)]
    refine ⟨_, _, _, rfl, rfl, mk_inw (g := 0) hA4 ?_ ?_ ?_ ?_ ?_ (by omega) ⟨?_, ?_, fun q hq => by omega⟩, FXq.tr (i4.q hk) ?_, FY.tr i5.q ⟨?_, ?_⟩⟩
    · simp (disch := omega) only [gI_s, gI_ne1, gI_ne2, gJ_s, gJ_ne1, gJ_ne2, gI_sJ, gJ_sI]; exact q3
    · simp (disch := omega) only [gI_s, gI_ne1, gI_ne2, gJ_s, gJ_ne1, gJ_ne2, gI_sJ, gJ_sI]; exact q3'
    · simp (disch := omega) only [gI_s, gI_ne1, gI_ne2, gJ_s, gJ_ne1, gJ_ne2, gI_sJ, gJ_sI]
    · simp (disch := omega) only [gI_s, gI_ne1, gI_ne2, gJ_s, gJ_ne1, gJ_ne2, gI_sJ, gJ_sI]; exact q8.trans q8'.symm
    · simp (disch := omega) only [gI_s, gI_ne1, gI_ne2, gJ_s, gJ_ne1, gJ_ne2, gI_sJ, gJ_sI]; exact q9.trans q9'.symm
    · simp (disch := omega) only [gI_s, gI_ne1, gI_ne2, gJ_s, gJ_ne1, gJ_ne2, gI_sJ, gJ_sI]; exact q7
    · simp (disch := omega) only [gI_s, gI_ne1, gI_ne2, gJ_s, gJ_ne1, gJ_ne2, gI_sJ, gJ_sI]; exact q7'
    · intro i j a b; simp (disch := omega) only [gI_s, gI_ne1, gI_ne2, gJ_s, gJ_ne1, gJ_ne2, gI_sJ, gJ_sI]
    · intro i j a; simp (disch := omega) only [gI_s, gI_ne1, gI_ne2, gJ_s, gJ_ne1, gJ_ne2, gI_sJ, gJ_sI]
    · intro i j; simp (disch := omega) only [gI_s, gI_ne1, gI_ne2, gJ_s, gJ_ne1, gJ_ne2, gI_sJ, gJ_sI]
  · subst i6
    have hA5 := seen_aq hk hi hA4
    obtain ⟨X4, eX4⟩ : ∃ Z, Z = sI (sI X3 31 4 (nI i)) (13 + 3 * k) 4 (nI i) := ⟨_, rfl⟩
    obtain ⟨Y4, eY4⟩ : ∃ Z, Z = sI (sI Y3 35 31 (nI i)) 56 k (nI i) := ⟨_, rfl⟩
    rw [← eX4, ← eY4] at hA5
    have s4 : gI X4 31 4 = nI i := by rw [eX4]; simp (disch := omega) only [gI_s, gI_ne1, gI_ne2, gJ_s, gJ_ne1, gJ_ne2, gI_sJ, gJ_sI]
    have s4' : gI Y4 35 31 = nI i := by rw [eY4]; simp (disch := omega) only [gI_s, gI_ne1, gI_ne2, gJ_s, gJ_ne1, gJ_ne2, gI_sJ, gJ_sI]
    have s8' : gI Y4 35 35 = m1 := by rw [eY4]; simp (disch := omega) only [gI_s, gI_ne1, gI_ne2, gJ_s, gJ_ne1, gJ_ne2, gI_sJ, gJ_sI]; exact q8'
    have s3 : gI X4 31 3 = nI 1 := by rw [eX4]; simp (disch := omega) only [gI_s, gI_ne1, gI_ne2, gJ_s, gJ_ne1, gJ_ne2, gI_sJ, gJ_sI]; exact q3
    have s3' : gI Y4 35 30 = nI 1 := by rw [eY4]; simp (disch := omega) only [gI_s, gI_ne1, gI_ne2, gJ_s, gJ_ne1, gJ_ne2, gI_sJ, gJ_sI]; exact q3'
    have s7 : gI X4 31 7 = nI 0 := by rw [eX4]; simp (disch := omega) only [gI_s, gI_ne1, gI_ne2, gJ_s, gJ_ne1, gJ_ne2, gI_sJ, gJ_sI]; exact q7
    have s7' : gI Y4 35 34 = nI 0 := by rw [eY4]; simp (disch := omega) only [gI_s, gI_ne1, gI_ne2, gJ_s, gJ_ne1, gJ_ne2, gI_sJ, gJ_sI]; exact q7'
    have s9 : gI X4 31 9 = m1 := by rw [eX4]; simp (disch := omega) only [gI_s, gI_ne1, gI_ne2, gJ_s, gJ_ne1, gJ_ne2, gI_sJ, gJ_sI]; exact q9
    have s9' : gI Y4 35 36 = m1 := by rw [eY4]; simp (disch := omega) only [gI_s, gI_ne1, gI_ne2, gJ_s, gJ_ne1, gJ_ne2, gI_sJ, gJ_sI]; exact q9'
    have fX4 : FXq X X4 := FXq.tr (i4.q hk) (by intro i j a b; rw [eX4]; simp (disch := omega) only [gI_s, gI_ne1, gI_ne2, gJ_s, gJ_ne1, gJ_ne2, gI_sJ, gJ_sI])
    have fY4 : FY Y Y4 := FY.tr i5.q ⟨by intro i j a; rw [eY4]; simp (disch := omega) only [gI_s, gI_ne1, gI_ne2, gJ_s, gJ_ne1, gJ_ne2, gI_sJ, gJ_sI], by intro i j; rw [eY4]; simp (disch := omega) only [gI_s, gI_ne1, gI_ne2, gJ_s, gJ_ne1, gJ_ne2, gI_sJ, gJ_sI]⟩
    have fr4 : ∀ i j, 36 ≤ i → i ≤ 55 → gI Y4 i j = gI Y i j := by
      intro i j a b
      rw [eY4]
      simp (disch := omega) only [gI_s, gI_ne1, gI_ne2, gJ_s, gJ_ne1, gJ_ne2, gI_sJ, gJ_sI]
      exact i5.1 i j (by omega) (by omega)
    have hl4 : Ln k nm L X4 Y4 := by
      obtain ⟨l1, l2, l3⟩ := Ln_fr hk i4 i5 hl
      rw [eX4, eY4]
      refine ⟨?_, ?_, fun q hq => ?_⟩
      · simp (disch := omega) only [gI_s, gI_ne1, gI_ne2, gJ_s, gJ_ne1, gJ_ne2, gI_sJ, gJ_sI]; exact l1
      · simp (disch := omega) only [gI_s, gI_ne1, gI_ne2, gJ_s, gJ_ne1, gJ_ne2, gI_sJ, gJ_sI]; exact l2
      · simp (disch := omega) only [gI_s, gI_ne1, gI_ne2, gJ_s, gJ_ne1, gJ_ne2, gI_sJ, gJ_sI]; exact l3 q hq
    have hr4 : ∀ m, m < 32 → hbI r m = dn tl Y4 (nI w) m := fun m hm => by rw [dn_fr (fun i j a b => fr4 i j (by omega) (by omega))]; exact hr m hm
    have hnn : ∀ q, q < 12 → gI Y4 39 (12 * i + q) = m1 ∨ ∃ f, f < 60 ∧ gI Y4 39 (12 * i + q) = nI f := by
      intro q hq
      rcases ((shb hA5.1).2.2.1 i q hi hq).2 with z | ⟨f, hf, z⟩
      · exact Or.inl z
      · exact Or.inr ⟨f, by omega, z⟩
    have hd := dsc (k := k) (x := x) (sn := sn) (show i < 60 by omega) 12 Y4 m1 FU (by omega) (by show 12 < 1000; omega) s4' hnn
    have e35 : sI Y4 35 35 m1 = Y4 := by
      have := sI_self Y4 35 35
      rw [s8'] at this
      exact this
    rw [e35] at hd
    have hd' : it2 (lq_X6_ask_94 (nI k) x sn) FU Y4 (nI 11) = _ := hd
    rw [if_neg (show ¬ nI i = (-1 : Int32) from nI_ne_m1 (by omega)), if_pos (show (0 : Int32) ≤ nI i from nI_le (a := 0) (by omega) (by omega)), nx_e, nx_e, ← eX4, ← eY4, hd', s4, ex_fnn (x := x) hA5.1 hi, bd1_s, nx_e, gI_s]
    by_cases hex : ∃ p, p < 12 ∧ lkp Y4 i x p = true
    · obtain ⟨p, hp, g1, g2⟩ := least_ex hex
      rw [rs_y g1 g2 hp, if_neg (show ¬ nI p = (-1 : Int32) from nI_ne_m1 (by omega)), if_neg (show ¬ nI p < nI 0 from nI_nlt (by omega) (by omega)), bd2_s, if_neg (show ¬ (2 : Int32) = 0 by decide)]
      refine ⟨_, _, _, rfl, rfl, mk_inw (g := 0) (kept_aq 8 35 _ _ (by omega) (by omega) (by omega) (by omega) (by omega) hA5) ?_ ?_ ?_ ?_ ?_ (by omega) ⟨?_, ?_, fun q hq => by omega⟩, FXq.tr fX4 ?_, FY.tr fY4 ⟨?_, ?_⟩⟩
      · simp (disch := omega) only [gI_s, gI_ne1, gI_ne2, gJ_s, gJ_ne1, gJ_ne2, gI_sJ, gJ_sI]; exact s3
      · simp (disch := omega) only [gI_s, gI_ne1, gI_ne2, gJ_s, gJ_ne1, gJ_ne2, gI_sJ, gJ_sI]; exact s3'
      · simp (disch := omega) only [gI_s, gI_ne1, gI_ne2, gJ_s, gJ_ne1, gJ_ne2, gI_sJ, gJ_sI]; exact s4.trans s4'.symm
      · simp (disch := omega) only [gI_s, gI_ne1, gI_ne2, gJ_s, gJ_ne1, gJ_ne2, gI_sJ, gJ_sI]
      · simp (disch := omega) only [gI_s, gI_ne1, gI_ne2, gJ_s, gJ_ne1, gJ_ne2, gI_sJ, gJ_sI]; exact s9.trans s9'.symm
      · simp (disch := omega) only [gI_s, gI_ne1, gI_ne2, gJ_s, gJ_ne1, gJ_ne2, gI_sJ, gJ_sI]; exact s7
      · simp (disch := omega) only [gI_s, gI_ne1, gI_ne2, gJ_s, gJ_ne1, gJ_ne2, gI_sJ, gJ_sI]; exact s7'
      · intro i j a b; simp (disch := omega) only [gI_s, gI_ne1, gI_ne2, gJ_s, gJ_ne1, gJ_ne2, gI_sJ, gJ_sI]
      · intro i j a; simp (disch := omega) only [gI_s, gI_ne1, gI_ne2, gJ_s, gJ_ne1, gJ_ne2, gI_sJ, gJ_sI]
      · intro i j; simp (disch := omega) only [gI_s, gI_ne1, gI_ne2, gJ_s, gJ_ne1, gJ_ne2, gI_sJ, gJ_sI]
    · have h0 : ∀ p, p < 12 → lkp Y4 i x p = false := by
        intro p hp
        cases q : lkp Y4 i x p with
        | false => rfl
        | true => exact absurd ⟨p, hp, q⟩ hex
      rw [rs_n h0, if_pos (show m1 = (-1 : Int32) from rfl), if_pos (show m1 < nI 0 by decide), e35]
      have hA6 := kept_x 8 m1 (by omega) (by omega) hA5
      have hl6 : Ln k nm L (sI X4 31 8 m1) Y4 := by
        refine ⟨?_, hl4.2.1, fun q hq => ?_⟩
        · simp (disch := omega) only [gI_s, gI_ne1, gI_ne2, gJ_s, gJ_ne1, gJ_ne2, gI_sJ, gJ_sI]; exact hl4.1
        · simp (disch := omega) only [gI_s, gI_ne1, gI_ne2, gJ_s, gJ_ne1, gJ_ne2, gI_sJ, gJ_sI]; exact hl4.2.2 q hq
      obtain ⟨X6, Y6, g1, g2, g3, g4⟩ := get_rel (r := r) (x := x) (sn := sn) hk hL hi 12 (sI X4 31 8 m1) Y4 0 FU FU (by omega) hA6 hl6 hr4 (by simp (disch := omega) only [gI_s, gI_ne1, gI_ne2, gJ_s, gJ_ne1, gJ_ne2, gI_sJ, gJ_sI]; exact s4) s4' h0 ⟨by simp (disch := omega) only [gI_s, gI_ne1, gI_ne2, gJ_s, gJ_ne1, gJ_ne2, gI_sJ, gJ_sI]; exact s7, s7', fun q hq => absurd hq (Nat.not_lt_zero q)⟩ (fun q hq => absurd hq (Nat.not_lt_zero q)) (by show 12 < 1000; omega) (by show 12 < 1000; omega)
      have t3 : gI X6 31 3 = nI 1 := by rw [g2.1 _ _ (by omega) (by omega) (by omega)]; simp (disch := omega) only [gI_s, gI_ne1, gI_ne2, gJ_s, gJ_ne1, gJ_ne2, gI_sJ, gJ_sI]; exact s3
      have t3' : gI Y6 35 30 = nI 1 := by rw [g3.1 _ _ (by omega) (by omega) (by omega)]; exact s3'
      have t4 : gI X6 31 4 = nI i := by rw [g2.1 _ _ (by omega) (by omega) (by omega)]; simp (disch := omega) only [gI_s, gI_ne1, gI_ne2, gJ_s, gJ_ne1, gJ_ne2, gI_sJ, gJ_sI]; exact s4
      have t4' : gI Y6 35 31 = nI i := by rw [g3.1 _ _ (by omega) (by omega) (by omega)]; exact s4'
      have t8' : gI Y6 35 35 = m1 := by rw [g3.1 _ _ (by omega) (by omega) (by omega)]; exact s8'
      have t9 : gI X6 31 9 = m1 := by rw [g2.1 _ _ (by omega) (by omega) (by omega)]; simp (disch := omega) only [gI_s, gI_ne1, gI_ne2, gJ_s, gJ_ne1, gJ_ne2, gI_sJ, gJ_sI]; exact s9
      have t9' : gI Y6 35 36 = m1 := by rw [g3.1 _ _ (by omega) (by omega) (by omega)]; exact s9'
      have fX6 : FXq X X6 := FXq.tr fX4 (FXq.tr (by intro i j a b; simp (disch := omega) only [gI_s, gI_ne1, gI_ne2, gJ_s, gJ_ne1, gJ_ne2, gI_sJ, gJ_sI]) (g2.q hk))
      have fY6 : FY Y Y6 := FY.tr fY4 g3.q
      have fr6 : ∀ i j, 36 ≤ i → i ≤ 55 → gI Y6 i j = gI Y i j := fun i j a b => (g3.1 i j (by omega) (by omega) (by omega)).trans (fr4 i j a b)
      rcases g4 with ⟨v1, v2, v3, v4⟩ | ⟨q, g, hq, v1, v2, hg, v3⟩
      · have v1' : fn_X5_getFiles nm (sI X4 31 8 m1) k x r = some (m1, X6) := v1
        rw [v2, v1', bd2_s, nx_e, gI_s, if_pos (show m1 = (-1 : Int32) from rfl), bd2_s, if_pos (show (0 : Int32) = 0 from rfl)]
        have hA7 := kept_x 8 m1 (by omega) (by omega) g1
        obtain ⟨v, u1, u2⟩ := least_rel (X := sI X6 31 8 m1) (Y := Y6) (r := r) (x := x) (sn := sn) (m := mi) hk hA7.1 (fun m hm => by rw [dn_fr (fun i j a b => fr6 i j (by omega) (by omega))]; exact hr m hm) hi (by simp (disch := omega) only [gI_s, gI_ne1, gI_ne2, gJ_s, gJ_ne1, gJ_ne2, gI_sJ, gJ_sI]; exact t4) t4' v3.2.1 (fun q hq => by unfold lkp; rw [g3.1 39 _ (by omega) (by omega) (by omega)]; exact h0 q hq) v4 hmi ((wans_fr fr6).mpr hwa) (by rw [fr6 43 _ (by omega) (by omega)]; exact e43) (by rw [gud_fr fr6, ← hsn]; exact hgd)
        rw [u1, u2, bd1_s, bd1_s]
        refine ⟨_, _, _, rfl, rfl, mk_inw (g := cn (hbI x) 12) (kept_aq 9 36 v v (by omega) (by omega) (by omega) (by omega) (by omega) hA7) ?_ ?_ ?_ ?_ ?_ (cn_le _ 12) ⟨?_, ?_, fun q hq => ?_⟩, FXq.tr fX6 ?_, FY.tr fY6 ⟨?_, ?_⟩⟩
        · simp (disch := omega) only [gI_s, gI_ne1, gI_ne2, gJ_s, gJ_ne1, gJ_ne2, gI_sJ, gJ_sI]; exact t3
        · simp (disch := omega) only [gI_s, gI_ne1, gI_ne2, gJ_s, gJ_ne1, gJ_ne2, gI_sJ, gJ_sI]; exact t3'
        · simp (disch := omega) only [gI_s, gI_ne1, gI_ne2, gJ_s, gJ_ne1, gJ_ne2, gI_sJ, gJ_sI]; exact t4.trans t4'.symm
        · simp (disch := omega) only [gI_s, gI_ne1, gI_ne2, gJ_s, gJ_ne1, gJ_ne2, gI_sJ, gJ_sI]; exact t8'.symm
        · simp (disch := omega) only [gI_s, gI_ne1, gI_ne2, gJ_s, gJ_ne1, gJ_ne2, gI_sJ, gJ_sI]
        · simp (disch := omega) only [gI_s, gI_ne1, gI_ne2, gJ_s, gJ_ne1, gJ_ne2, gI_sJ, gJ_sI]; exact v3.1
        · simp (disch := omega) only [gI_s, gI_ne1, gI_ne2, gJ_s, gJ_ne1, gJ_ne2, gI_sJ, gJ_sI]; exact v3.2.1
        · simp (disch := omega) only [gI_s, gI_ne1, gI_ne2, gJ_s, gJ_ne1, gJ_ne2, gI_sJ, gJ_sI]; exact v3.2.2 q hq
        · intro i j a b; simp (disch := omega) only [gI_s, gI_ne1, gI_ne2, gJ_s, gJ_ne1, gJ_ne2, gI_sJ, gJ_sI]
        · intro i j a; simp (disch := omega) only [gI_s, gI_ne1, gI_ne2, gJ_s, gJ_ne1, gJ_ne2, gI_sJ, gJ_sI]
        · intro i j; simp (disch := omega) only [gI_s, gI_ne1, gI_ne2, gJ_s, gJ_ne1, gJ_ne2, gI_sJ, gJ_sI]
      · have v1' : fn_X5_getFiles nm (sI X4 31 8 m1) k x r = some (nI q, X6) := v1
        rw [v2, v1', bd2_s, nx_e, gI_s, if_neg (show ¬ nI q = (-1 : Int32) from nI_ne_m1 (by omega)), bd2_s, if_neg (show ¬ (3 : Int32) = 0 by decide)]
        refine ⟨_, _, _, rfl, rfl, mk_inw (g := g) (kept_aq 8 35 _ _ (by omega) (by omega) (by omega) (by omega) (by omega) g1) ?_ ?_ ?_ ?_ ?_ hg ⟨?_, ?_, fun q hq => ?_⟩, FXq.tr fX6 ?_, FY.tr fY6 ⟨?_, ?_⟩⟩
        · simp (disch := omega) only [gI_s, gI_ne1, gI_ne2, gJ_s, gJ_ne1, gJ_ne2, gI_sJ, gJ_sI]; exact t3
        · simp (disch := omega) only [gI_s, gI_ne1, gI_ne2, gJ_s, gJ_ne1, gJ_ne2, gI_sJ, gJ_sI]; exact t3'
        · simp (disch := omega) only [gI_s, gI_ne1, gI_ne2, gJ_s, gJ_ne1, gJ_ne2, gI_sJ, gJ_sI]; exact t4.trans t4'.symm
        · simp (disch := omega) only [gI_s, gI_ne1, gI_ne2, gJ_s, gJ_ne1, gJ_ne2, gI_sJ, gJ_sI]
        · simp (disch := omega) only [gI_s, gI_ne1, gI_ne2, gJ_s, gJ_ne1, gJ_ne2, gI_sJ, gJ_sI]; exact t9.trans t9'.symm
        · simp (disch := omega) only [gI_s, gI_ne1, gI_ne2, gJ_s, gJ_ne1, gJ_ne2, gI_sJ, gJ_sI]; exact v3.1
        · simp (disch := omega) only [gI_s, gI_ne1, gI_ne2, gJ_s, gJ_ne1, gJ_ne2, gI_sJ, gJ_sI]; exact v3.2.1
        · simp (disch := omega) only [gI_s, gI_ne1, gI_ne2, gJ_s, gJ_ne1, gJ_ne2, gI_sJ, gJ_sI]; exact v3.2.2 q hq
        · intro i j a b; simp (disch := omega) only [gI_s, gI_ne1, gI_ne2, gJ_s, gJ_ne1, gJ_ne2, gI_sJ, gJ_sI]
        · intro i j a; simp (disch := omega) only [gI_s, gI_ne1, gI_ne2, gJ_s, gJ_ne1, gJ_ne2, gI_sJ, gJ_sI]
        · intro i j; simp (disch := omega) only [gI_s, gI_ne1, gI_ne2, gJ_s, gJ_ne1, gJ_ne2, gI_sJ, gJ_sI]
theorem ask_rel {nm w nf ns tl gr k : Nat} {X Y : Mem} {x : Int32} (hk : k < 6) (h : Inb nm w nf ns tl gr (cb X Y)) (hx : nI 1 ≤ x ∧ x ≤ nI 4095) : ∃ rv X' Y', fn_X5_ask nm X (nI k) x = some (rv, X') ∧ fn_X6_ask Y (nI k) x = some (rv, Y') ∧ Inw nm w nf ns tl gr (cb X' Y') ∧ FXq X X' ∧ FY Y Y' := by
  obtain ⟨⟨a1, a2, a3, a4, a5, a6⟩, ⟨b1, b2, b3, b4, b5, b6⟩, c1, c2, c3, c4, c5, c6, c7⟩ := cbb_facts h
  have hfl : ∀ k, k < tl → ∃ m, m < 32 ∧ gI X 8 k = nI m := by
    intro k hk
    obtain ⟨f1, -, -, m, f2, f3⟩ := h.2.2.1 k hk
    rw [cb_x (by omega)] at f1
    exact ⟨m, by omega, f1.trans f3⟩
  obtain ⟨r, r1, r2⟩ := ex_downAt (w := w) a5 c6 hfl
  have hA1 := bg_aq h
  obtain ⟨X2, Y2, L, l1, l2, l3, l4, l5, l6, l7, l8⟩ := line_rel hk hA1.1
  have hA2 : Aq nm w nf ns tl gr X2 Y2 := by
    refine ⟨inb_fo hk hA1.1 l7 l8, ?_, ?_⟩
    · rw [l7.1 _ _ (by omega) (by omega), l8.1 _ _ (by omega) (by omega)]; exact hA1.2.1
    · rw [l7.1 _ _ (by omega) (by omega), l8.1 _ _ (by omega) (by omega)]; exact hA1.2.2
  have fy2 : ∀ i j, 36 ≤ i → i ≤ 57 → gI Y2 i j = gI Y i j := by
    intro i j q1 q2
    rw [l8.1 _ _ (by omega) (by omega)]
    unfold bgY
    simp (disch := omega) only [gI_s, gI_ne1, gI_ne2, gJ_s, gJ_ne1, gJ_ne2, gI_sJ, gJ_sI]
  have g1 : ∀ s, s ≤ 9 → gI X2 31 s = gI (bgX X) 31 s := fun s _ => l7.1 31 s (by omega) (by omega)
  have g2 : ∀ s, 30 ≤ s → gI Y2 35 s = gI (bgY Y) 35 s := fun s _ => l8.1 35 s (by omega) (by omega)
  obtain ⟨rv, X', Y', e1, e2, e3, e4, e5⟩ := carry_rel (r := r) (x := x) (sn := gI Y 56 k) hk (show L ≤ 8 by omega) hA2 ⟨l4, l5, fun q hq => by
      obtain ⟨z1, m', z2, z3, z4, -⟩ := l6.1 q (by omega) (by omega)
      exact ⟨z1, m', z2, z3, z4⟩⟩ (fun m hm => by rw [r2 m hm, dnx_dn h.2.2.1, dn_fr (fun i j q1 q2 => fy2 i j (by omega) (by omega))]) (fun q q' w1 w2 w3 => l6.2 q q' (by omega) (by omega) (by omega) (by omega) w3) (fun q m' w1 w2 w3 => by
      obtain ⟨-, m'', z2, z3, -, z5⟩ := l6.1 q (by omega) (by omega)
      rw [w2] at z3
      rw [(nI_eq (by omega) (by omega)).mp z3]
      exact z5) (fy2 56 k (by omega) (by omega))
    (by rw [g1 3 (by omega)]; unfold bgX; simp (disch := omega) only [gI_s, gI_ne1, gI_ne2, gJ_s, gJ_ne1, gJ_ne2, gI_sJ, gJ_sI]) (by rw [g2 30 (by omega)]; unfold bgY; simp (disch := omega) only [gI_s, gI_ne1, gI_ne2, gJ_s, gJ_ne1, gJ_ne2, gI_sJ, gJ_sI]) (by rw [g1 7 (by omega)]; unfold bgX; simp (disch := omega) only [gI_s, gI_ne1, gI_ne2, gJ_s, gJ_ne1, gJ_ne2, gI_sJ, gJ_sI]) (by rw [g2 34 (by omega)]; unfold bgY; simp (disch := omega) only [gI_s, gI_ne1, gI_ne2, gJ_s, gJ_ne1, gJ_ne2, gI_sJ, gJ_sI]) (by rw [g1 8 (by omega)]; unfold bgX; simp (disch := omega) only [gI_s, gI_ne1, gI_ne2, gJ_s, gJ_ne1, gJ_ne2, gI_sJ, gJ_sI]) (by rw [g2 35 (by omega)]; unfold bgY; simp (disch := omega) only [gI_s, gI_ne1, gI_ne2, gJ_s, gJ_ne1, gJ_ne2, gI_sJ, gJ_sI]) (by rw [g1 9 (by omega)]; unfold bgX; simp (disch := omega) only [gI_s, gI_ne1, gI_ne2, gJ_s, gJ_ne1, gJ_ne2, gI_sJ, gJ_sI]) (by rw [g2 36 (by omega)]; unfold bgY; simp (disch := omega) only [gI_s, gI_ne1, gI_ne2, gJ_s, gJ_ne1, gJ_ne2, gI_sJ, gJ_sI])
  have et : decide (nI 1 ≤ x ∧ x ≤ nI 4095) = true := decide_eq_true hx
  refine ⟨rv, X', Y', ?_, ?_, e3, FXq.tr ?_ (FXq.tr (l7.q hk) e4), FY.tr ?_ (FY.tr l8.q e5)⟩
  · have hb : fn_X1_begin X = some (bgX X) := rfl
    unfold fn_X5_ask bk_X5_ask_85
    rw [e_askerAt hk, bd1_s, oc_s, e_within, bd1_s, show decide ((1 : Int32) ≤ x ∧ x ≤ (4095 : Int32)) = true from et, if_neg (show ¬ bI true = (0 : Int32) by decide), nx_e, a2, r1, bd1_s, hb, bd1_s, l1, bd1_s, (askb h hk).2.2.1.1]
    exact e1
  · unfold fn_X6_ask
    rw [e_isAsker hk, bd1_s, if_neg (show ¬ nI 1 = (0 : Int32) by decide), e_in, bd1_s, show decide ((1 : Int32) ≤ x ∧ x ≤ (4095 : Int32)) = true from et, if_neg (show ¬ bI true = (0 : Int32) by decide)]
    simp only [nx_e]
    have hY : sI (sI (sI (sI (sI (sI Y 35 30 1) 35 32 0) 35 33 0) 35 34 0) 35 35 (-1)) 35 36 (-1) = bgY Y := rfl
    rw [hY, ck_ok (by omega) (by omega), ix_nI (by omega), l2, bd1_s, show gI (bgY Y) 56 k = gI Y 56 k by unfold bgY; simp (disch := omega) only [gI_s, gI_ne1, gI_ne2, gJ_s, gJ_ne1, gJ_ne2, gI_sJ, gJ_sI]]
    simp only [ck_ok hk (show 6 < 2147483648 by omega)]
    exact e2
  · intro i j q1 q2
    unfold bgX
    simp (disch := omega) only [gI_s, gI_ne1, gI_ne2, gJ_s, gJ_ne1, gJ_ne2, gI_sJ, gJ_sI]
  · unfold bgY
    refine ⟨fun i j q => ?_, fun i j => ?_⟩ <;> simp (disch := omega) only [gI_s, gI_ne1, gI_ne2, gJ_s, gJ_ne1, gJ_ne2, gI_sJ, gJ_sI]
theorem op_ask {nm : Nat} {M : Mem} (h : Inv nm M) (x y : Int32) : ∃ r M1 M2, fn_X5_ask nm M x y = some (r, M1) ∧ fn_X6_ask M1 x y = some (r, M2) ∧ Inv nm M2 := by
  obtain ⟨w, nf, ns, tl, gr, hI⟩ := h
  by_cases hk : ∃ k, k < 6 ∧ x = nI k
  · obtain ⟨k, hk, rfl⟩ := hk
    by_cases hy : nI 1 ≤ y ∧ y ≤ nI 4095
    · have nb : ∀ {Z : Mem}, Inw nm w nf ns tl gr Z → Inb nm w nf ns tl gr Z := fun q => ⟨q.1, q.2.1, q.2.2.1, q.2.2.2.1, q.2.2.2.2.1⟩
      have h1 : Inw nm w nf ns tl gr (cb M M) := Inw_ag (ag_cb (fun _ _ _ _ => rfl)) hI
      obtain ⟨r1, X', Y', i1, i2, i3, i4, i5⟩ := ask_rel hk (nb h1) hy
      have h2 : Inw nm w nf ns tl gr (cb M X') := Inw_ag (ag_cb i4) hI
      obtain ⟨r2, X2, Y2, j1, j2, j3, j4, j5⟩ := ask_rel hk (nb h2) hy
      rw [i1] at j1
      obtain ⟨e1, e2⟩ := Prod.mk.inj (Option.some.inj j1)
      subst e1
      subst e2
      exact ⟨r1, X', Y2, i1, j2, w, nf, ns, tl, gr, Inw_ag (ag_y j5) j3⟩
    · have p1 : fn_X5_ask nm M (nI k) y = some (m1, M) := by
        unfold fn_X5_ask
        rw [e_askerAt hk, bd1_s, oc_s, e_within, bd1_s, show decide ((1 : Int32) ≤ y ∧ y ≤ (4095 : Int32)) = false from decide_eq_false hy, if_pos bI_f0]
        rfl
      have p2 : fn_X6_ask M (nI k) y = some (m1, M) := by
        unfold fn_X6_ask
        rw [e_isAsker hk, bd1_s, if_neg (show ¬ nI 1 = (0 : Int32) by decide), e_in, bd1_s, show decide ((1 : Int32) ≤ y ∧ y ≤ (4095 : Int32)) = false from decide_eq_false hy, if_pos bI_f0]
        rfl
      exact ⟨_, _, _, p1, p2, w, nf, ns, tl, gr, hI⟩
  · have p1 : fn_X5_ask nm M x y = some (m1, M) := by
      unfold fn_X5_ask
      rw [e_askerAt0 hk]
      rfl
    have p2 : fn_X6_ask M x y = some (m1, M) := by
      unfold fn_X6_ask
      rw [e_isAsker0 hk, bd1_s, if_pos (show nI 0 = (0 : Int32) from rfl)]
      rfl
    exact ⟨_, _, _, p1, p2, w, nf, ns, tl, gr, hI⟩
