/-! asking: what holds while an asking is carried out -/
def Inb (nm w nf ns tl gr : Nat) (M : Mem) : Prop := iA nm w nf ns tl gr M ∧ iS w nf ns M ∧ iF nm tl M ∧ iM nm nf ns M ∧ iK nm ns M
theorem cbb_facts {nm w nf ns tl gr : Nat} {X Y : Mem} (h : Inb nm w nf ns tl gr (cb X Y)) : (gI X 0 5 = nI nm ∧ gI X 0 6 = nI w ∧ gI X 1 5 = nI nf ∧ gI X 1 6 = nI ns ∧ gI X 7 3 = nI tl ∧ gI X 0 7 = nI gr) ∧ (gI Y 35 7 = nI nm ∧ gI Y 35 0 = nI w ∧ gI Y 35 1 = nI nf ∧ gI Y 35 4 = nI ns ∧ gI Y 35 19 = nI tl ∧ gI Y 35 23 = nI gr) ∧ nm ≤ 8 ∧ w ≤ 9999 ∧ nf ≤ 60 ∧ 1 ≤ ns ∧ ns ≤ 60 ∧ tl ≤ 40 ∧ gr ≤ 9999 := by
  have hA := h.1
  unfold iA at hA
  simp (disch := omega) only [cb_x, cb_y] at hA
  exact hA
theorem mirb {nm w nf ns tl gr m : Nat} {X Y : Mem} (h : Inb nm w nf ns tl gr (cb X Y)) (hm : m < nm) :
    (gI X (62 + 2 * m) 4 = gI Y 43 m ∧ ∃ i, i < ns ∧ gI Y 43 m = nI i) ∧ (gI X (62 + 2 * m) 9 = gI Y 47 m ∧ ∃ b, gI Y 47 m = bI b) ∧ (∀ f, f < 60 → gI Y 48 (60 * m + f) = bI (hb (gJ X (62 + 2 * m) 6) f)) := by
  have h1 := h.2.2.2.1.1 m hm
  unfold iM1 iM1a iM1b at h1
  simp (disch := omega) only [cb_x, cb_y, cb_J] at h1
  exact ⟨h1.1.2.2.2.1, h1.1.2.2.2.2.2.2.2, h1.2.1.1⟩
theorem askb {nm w nf ns tl gr k : Nat} {X Y : Mem} (h : Inb nm w nf ns tl gr (cb X Y)) (hk : k < 6) :
    (∀ m, m < 8 → gI X (13 + 3 * k + 1) m = gI Y 54 (8 * k + m) ∧ (gI Y 54 (8 * k + m) = m1 ∨ (m < nm ∧ ∃ c, c ≤ 100 ∧ gI Y 54 (8 * k + m) = nI c))) ∧
    (gI X (13 + 3 * k) 3 = gI Y 55 k ∧ ∃ b, b ≤ 9999 ∧ gI Y 55 k = nI b) ∧
    (gI X (13 + 3 * k) 4 = gI Y 56 k ∧ (gI Y 56 k = m1 ∨ ∃ i, i < ns ∧ gI Y 56 k = nI i)) ∧
    (gI X (13 + 3 * k) 5 = gI Y 57 k ∧ ∃ b, b < 256 ∧ gI Y 57 k = nI b) := by
  have h1 := h.2.2.2.2 k hk
  unfold iK1 at h1
  simp (disch := omega) only [cb_x, cb_y] at h1
  exact h1
theorem shb {nm w nf ns tl gr : Nat} {X Y : Mem} (h : Inb nm w nf ns tl gr (cb X Y)) :
    ((∀ f, f < nf → (hb (gJ X 1 7) f = true ∧ gI X 3 f = gI Y 37 f ∧ ∃ t, t ≤ w ∧ gI Y 37 f = nI t) ∨ (hb (gJ X 1 7) f = false ∧ gI Y 37 f = m1)) ∧ ∀ f, nf ≤ f → hb (gJ X 1 7) f = false) ∧
    (∀ s, s < ns → gI X 4 s = gI Y 38 s ∧ ∃ t, t ≤ w ∧ gI Y 38 s = nI t) ∧
    (∀ s p, s < ns → p < 12 → gI X 6 (12 * s + p) = gI Y 39 (12 * s + p) ∧ (gI Y 39 (12 * s + p) = m1 ∨ ∃ f, f < nf ∧ gI Y 39 (12 * s + p) = nI f)) ∧
    (∀ s f, s < ns → f < 64 → (hb (gJ X 5 s) f = true ↔ ∃ p, p < 12 ∧ gI Y 39 (12 * s + p) = nI f)) := by
  have h1 := h.2.1
  unfold iS iS1 iS2 iS3 iS4 iS5 at h1
  simp (disch := omega) only [cb_x, cb_y, cb_J] at h1
  exact h1.2
theorem inb_fr {nm w nf ns tl gr : Nat} {X Y X' Y' : Mem} (h : Inb nm w nf ns tl gr (cb X Y)) (hx : ∀ i j, (i < 13 ∨ 61 < i) → gI X' i j = gI X i j) (hxJ : ∀ i j, gJ X' i j = gJ X i j) (hy : ∀ i j, 36 ≤ i → i ≤ 53 → gI Y' i j = gI Y i j) (hy35 : ∀ j, j < 29 → gI Y' 35 j = gI Y 35 j) (hK : iK nm ns (cb X' Y')) : Inb nm w nf ns tl gr (cb X' Y') := by
  obtain ⟨hA, hS, hF, hM, -⟩ := h
  have c3 : nf ≤ 60 := hA.2.2.2.2.1
  have f1 : ∀ i j, i < 13 ∨ (36 ≤ i ∧ i ≤ 53) ∨ 61 < i → gI (cb X' Y') i j = gI (cb X Y) i j := by
    intro i j hi
    by_cases q : 36 ≤ i ∧ i ≤ 53
    · rw [cb_y (by omega) (by omega), cb_y (by omega) (by omega), hy i j (by omega) (by omega)]
    · rw [cb_x (by omega), cb_x (by omega), hx i j (by omega)]
  have f2 : ∀ j, j < 29 → gI (cb X' Y') 35 j = gI (cb X Y) 35 j := fun j hj => by rw [cb_y (by omega) (by omega), cb_y (by omega) (by omega), hy35 j hj]
  refine ⟨?_, iS_fr (fun i j hi => f1 i j (by omega)) (fun i j hi => hxJ i j) hS, iF_fr (fun i j hi => f1 i j (by omega)) hF, iM_fr c3 hS (fun i j hi => f1 i j (by omega)) (fun i j hi => hxJ i j) hM, hK⟩
  unfold iA
  simp (disch := omega) only [f1 0 _ (by omega), f1 1 _ (by omega), f1 7 _ (by omega), f2]
  exact hA
theorem ik_fr {nm ns : Nat} {X Y X' Y' : Mem} (h : iK nm ns (cb X Y)) (h1 : ∀ j m, j < 6 → gI X' (13 + 3 * j + 1) m = gI X (13 + 3 * j + 1) m) (h2 : ∀ j s, j < 6 → 3 ≤ s → s ≤ 5 → gI X' (13 + 3 * j) s = gI X (13 + 3 * j) s) (hy : ∀ i j, 54 ≤ i → i ≤ 57 → gI Y' i j = gI Y i j) : iK nm ns (cb X' Y') := by
  intro k hk
  have h0 := h k hk
  unfold iK1 at *
  simp (disch := omega) only [cb_x, cb_y, h1, h2, hy] at *
  exact h0
/-! is an index good enough -/
def lyp (Y : Mem) (w gr i p : Nat) : Bool := !decide (gI Y 39 (12 * i + p) < nI 0) && (!decide (gI Y 37 (ix (gI Y 39 (12 * i + p))) = m1) && !decide (nI w - gI Y 37 (ix (gI Y 39 (12 * i + p))) ≤ nI gr))
def agY (Y : Mem) (w ns i : Nat) : Int32 := if i + 1 < ns then nI w - gI Y 38 (i + 1) else nI 0
def gud (Y : Mem) (w ns gr k i : Nat) (sn : Int32) : Bool := !decide (nI i < sn) && (decide (agY Y w ns i ≤ gI Y 55 k) && !anyB (lyp Y w gr i) 12)
theorem gud_fr {Y Y' : Mem} (h : ∀ i j, 36 ≤ i → i ≤ 55 → gI Y' i j = gI Y i j) (w ns gr k i : Nat) (sn : Int32) : gud Y' w ns gr k i sn = gud Y w ns gr k i sn := by
  unfold gud agY
  rw [h 55 k (by omega) (by omega), h 38 (i + 1) (by omega) (by omega)]
  congr 3
  refine anyB_cong (fun p hp => ?_)
  unfold lyp
  simp only [h 39 _ (by omega) (by omega), h 37 _ (by omega) (by omega)]
theorem ilm0 {α : Type} {A B : α} : (if m1 < nI 0 then A else B) = A := if_pos (by decide)
theorem ey_good {Y : Mem} {w ns gr k i : Nat} {sn : Int32} (b2 : gI Y 35 0 = nI w) (b4 : gI Y 35 4 = nI ns) (b6 : gI Y 35 23 = nI gr) (hns : ns ≤ 60) (hk : k < 6) (hi : i < ns) (hN : ∀ p, p < 12 → gI Y 39 (12 * i + p) = m1 ∨ ∃ f, f < 60 ∧ gI Y 39 (12 * i + p) = nI f) : fn_X6_isGood Y (nI k) (nI i) sn = some (bI (gud Y w ns gr k i sn)) := by
  have L := scan1 (f := lq_X6_isGood_24 Y (nI i)) 12 (lyp Y w gr i) (some (nI 0)) (some (nI 1)) (by omega) (fun p rc hp => by
    unfold lyp
    rcases hN p hp with e | ⟨f, hf, e⟩
    · simp (disch := omega) only [lq_X6_isGood_24, bk_X6_isGood_82, nx_e, ck_t, ck_ok, bd1_s, bd1_n, bd2_s, oc_n, oc_s, l_0, l_1, l_2, l_3, l_4, l_5, l_6, l_7, l_8, l_11, l_12, l_31, l_39, l_40, l_59, l_60, l_100, l_500, l_1000, l_4095, l_9999, m1_e, ix_nI, ile_t, ile_f, ilt_t, ilt_f, ieq_t, ieq_f, nI_add, pk_mul, nI_sub, ile_m1, ilt_m1, ieq_m1, imle_m1, imlt_m1, imeq_m1, imeq_s, ieq_s, ile_s, ilt_s, gI_s, gI_ne1, gI_ne2, gJ_s, gJ_ne1, gJ_ne2, gI_sJ, gJ_sI, ibI0, ibI1, bI_t, bI_f, decide_true, decide_false, and_self, and_true, true_and, and_false, false_and, reduceIte, if_true, if_false, Nat.add_sub_cancel, e_within, e_in, e]
      rw [decide_eq_true (show m1 < nI 0 by decide)]
      rfl
    · simp (disch := omega) only [lq_X6_isGood_24, bk_X6_isGood_82, nx_e, ck_t, ck_ok, bd1_s, bd1_n, bd2_s, oc_n, oc_s, l_0, l_1, l_2, l_3, l_4, l_5, l_6, l_7, l_8, l_11, l_12, l_31, l_39, l_40, l_59, l_60, l_100, l_500, l_1000, l_4095, l_9999, m1_e, ix_nI, ile_t, ile_f, ilt_t, ilt_f, ieq_t, ieq_f, nI_add, pk_mul, nI_sub, ile_m1, ilt_m1, ieq_m1, imle_m1, imlt_m1, imeq_m1, imeq_s, ieq_s, ile_s, ilt_s, gI_s, gI_ne1, gI_ne2, gJ_s, gJ_ne1, gJ_ne2, gI_sJ, gJ_sI, ibI0, ibI1, bI_t, bI_f, decide_true, decide_false, and_self, and_true, true_and, and_false, false_and, reduceIte, if_true, if_false, Nat.add_sub_cancel, e_within, e_in, e, b2, b6]
      rw [decide_eq_false (show ¬ nI f < nI 0 from nI_nlt (by omega) (by omega)), Bool.not_false, Bool.true_and]
      by_cases q : gI Y 37 f = m1
      · rw [if_pos q, decide_eq_true q]
        rfl
      · rw [if_neg q, decide_eq_false q, Bool.not_false, Bool.true_and]
        by_cases q2 : nI w - gI Y 37 f ≤ nI gr
        · rw [if_pos q2, decide_eq_true q2]
          rfl
        · rw [if_neg q2, decide_eq_false q2]
          rfl) (fun rc => by
    simp (disch := omega) only [lq_X6_isGood_24, nx_e, ck_t, ck_ok, bd1_s, bd1_n, bd2_s, oc_n, oc_s, l_0, l_1, l_2, l_3, l_4, l_5, l_6, l_7, l_8, l_11, l_12, l_31, l_39, l_40, l_59, l_60, l_100, l_500, l_1000, l_4095, l_9999, m1_e, ix_nI, ile_t, ile_f, ilt_t, ilt_f, ieq_t, ieq_f, nI_add, pk_mul, nI_sub, ile_m1, ilt_m1, ieq_m1, imle_m1, imlt_m1, imeq_m1, imeq_s, ieq_s, ile_s, ilt_s, gI_s, gI_ne1, gI_ne2, gJ_s, gJ_ne1, gJ_ne2, gI_sJ, gJ_sI, ibI0, ibI1, bI_t, bI_f, decide_true, decide_false, and_self, and_true, true_and, and_false, false_and, reduceIte, if_true, if_false, Nat.add_sub_cancel, e_within, e_in])
  have ha : fn_X6_ageOf Y (nI i) = some (agY Y w ns i) := by
    unfold agY
    by_cases q : i + 1 < ns
    · rw [if_pos q]
      simp (disch := omega) only [fn_X6_ageOf, nx_e, ck_t, ck_ok, bd1_s, bd1_n, bd2_s, oc_n, oc_s, l_0, l_1, l_2, l_3, l_4, l_5, l_6, l_7, l_8, l_11, l_12, l_31, l_39, l_40, l_59, l_60, l_100, l_500, l_1000, l_4095, l_9999, m1_e, ix_nI, ile_t, ile_f, ilt_t, ilt_f, ieq_t, ieq_f, nI_add, pk_mul, nI_sub, ile_m1, ilt_m1, ieq_m1, imle_m1, imlt_m1, imeq_m1, imeq_s, ieq_s, ile_s, ilt_s, gI_s, gI_ne1, gI_ne2, gJ_s, gJ_ne1, gJ_ne2, gI_sJ, gJ_sI, ibI0, ibI1, bI_t, bI_f, decide_true, decide_false, and_self, and_true, true_and, and_false, false_and, reduceIte, if_true, if_false, Nat.add_sub_cancel, e_within, e_in, b4, b2]
    · rw [if_neg q]
      simp (disch := omega) only [fn_X6_ageOf, nx_e, ck_t, ck_ok, bd1_s, bd1_n, bd2_s, oc_n, oc_s, l_0, l_1, l_2, l_3, l_4, l_5, l_6, l_7, l_8, l_11, l_12, l_31, l_39, l_40, l_59, l_60, l_100, l_500, l_1000, l_4095, l_9999, m1_e, ix_nI, ile_t, ile_f, ilt_t, ilt_f, ieq_t, ieq_f, nI_add, pk_mul, nI_sub, ile_m1, ilt_m1, ieq_m1, imle_m1, imlt_m1, imeq_m1, imeq_s, ieq_s, ile_s, ilt_s, gI_s, gI_ne1, gI_ne2, gJ_s, gJ_ne1, gJ_ne2, gI_sJ, gJ_sI, ibI0, ibI1, bI_t, bI_f, decide_true, decide_false, and_self, and_true, true_and, and_false, false_and, reduceIte, if_true, if_false, Nat.add_sub_cancel, e_within, e_in, b4, b2]
  unfold fn_X6_isGood
  unfold gud
  by_cases q : nI i < sn
  · rw [if_pos q, decide_eq_true q]
    rfl
  · rw [if_neg q, decide_eq_false q, ha, bd1_s, ck_ok (by omega) (by omega), ix_nI (by omega)]
    by_cases q2 : agY Y w ns i ≤ gI Y 55 k
    · rw [if_pos q2, decide_eq_true q2]
      refine L.trans ?_
      cases anyB (lyp Y w gr i) 12 <;> rfl
    · rw [if_neg q2, decide_eq_false q2]
      rfl
def lxp (X : Mem) (w gr i f : Nat) : Bool := hb (gJ X 5 i &&& gJ X 1 7) f && !decide (nI w - gI X 3 f ≤ nI gr)
theorem ex_nly {X : Mem} {w nf ns gr i : Nat} (a3 : gI X 1 5 = nI nf) (a4 : gI X 1 6 = nI ns) (hnf : nf ≤ 60) (hns : ns ≤ 60) (hi : i < ns) : fn_X4_namesLongYanked X (nI i) (nI w) (nI gr) = some (bI (anyB (lxp X w gr i) nf)) := by
  unfold fn_X4_namesLongYanked
  rw [ex_filesOf a4 hns hi, bd1_s, nx_e]
  by_cases q : gJ X 5 i &&& gJ X 1 7 = 0
  · have h0 : anyB (lxp X w gr i) nf = false := anyB_f.mpr (fun f hf => by unfold lxp; rw [q, hb_0, Bool.false_and])
    rw [h0, q]
    show lq_X4_namesLongYanked_15 X (nI w) (nI gr) 0 _ (nI 0) = _
    unfold lq_X4_namesLongYanked_15
    rw [if_pos (show lg_cmp (0 : Int64) 0 = 0 by decide)]
    split <;> rfl
  · have L := scan1 (f := lq_X4_namesLongYanked_15 X (nI w) (nI gr) (gJ X 5 i &&& gJ X 1 7)) nf (lxp X w gr i) (some (nI 1)) (some (nI 0)) (by omega) (fun f rc hf => by
      unfold lxp
      simp (disch := omega) only [lq_X4_namesLongYanked_15, bk_X4_namesLongYanked_59, nx_e, ck_t, ck_ok, bd1_s, bd1_n, bd2_s, oc_n, oc_s, l_0, l_1, l_2, l_3, l_4, l_5, l_6, l_7, l_8, l_11, l_12, l_31, l_39, l_40, l_59, l_60, l_100, l_500, l_1000, l_4095, l_9999, m1_e, ix_nI, ile_t, ile_f, ilt_t, ilt_f, ieq_t, ieq_f, nI_add, pk_mul, nI_sub, ile_m1, ilt_m1, ieq_m1, imle_m1, imlt_m1, imeq_m1, imeq_s, ieq_s, ile_s, ilt_s, gI_s, gI_ne1, gI_ne2, gJ_s, gJ_ne1, gJ_ne2, gI_sJ, gJ_sI, ibI0, ibI1, bI_t, bI_f, decide_true, decide_false, and_self, and_true, true_and, and_false, false_and, reduceIte, if_true, if_false, Nat.add_sub_cancel, e_within, e_in, a3, icmp0, q, e_bitOf, iabt]
      by_cases q1 : hb (gJ X 5 i &&& gJ X 1 7) f = true
      · rw [if_pos q1, q1, Bool.true_and]
        by_cases q2 : nI w - gI X 3 f ≤ nI gr
        · rw [if_pos q2, decide_eq_true q2]
          rfl
        · rw [if_neg q2, decide_eq_false q2]
          rfl
      · rw [if_neg q1, if_neg (by rw [Bool.and_eq_true]; exact fun z => q1 z.1)]) (fun rc => by
      simp (disch := omega) only [lq_X4_namesLongYanked_15, nx_e, ck_t, ck_ok, bd1_s, bd1_n, bd2_s, oc_n, oc_s, l_0, l_1, l_2, l_3, l_4, l_5, l_6, l_7, l_8, l_11, l_12, l_31, l_39, l_40, l_59, l_60, l_100, l_500, l_1000, l_4095, l_9999, m1_e, ix_nI, ile_t, ile_f, ilt_t, ilt_f, ieq_t, ieq_f, nI_add, pk_mul, nI_sub, ile_m1, ilt_m1, ieq_m1, imle_m1, imlt_m1, imeq_m1, imeq_s, ieq_s, ile_s, ilt_s, gI_s, gI_ne1, gI_ne2, gJ_s, gJ_ne1, gJ_ne2, gI_sJ, gJ_sI, ibI0, ibI1, bI_t, bI_f, decide_true, decide_false, and_self, and_true, true_and, and_false, false_and, reduceIte, if_true, if_false, Nat.add_sub_cancel, e_within, e_in, a3])
    refine L.trans ?_
    cases anyB (lxp X w gr i) nf <;> rfl
theorem lx_ly {nm w nf ns tl gr i : Nat} {X Y : Mem} (h : Inb nm w nf ns tl gr (cb X Y)) (hi : i < ns) : anyB (lxp X w gr i) nf = anyB (lyp Y w gr i) 12 := by
  obtain ⟨-, -, c1, c2, c3, c4, c5, c6, c7⟩ := cbb_facts h
  obtain ⟨⟨s2, s2'⟩, s3, s4, s5⟩ := shb h
  refine anyB_eq ⟨?_, ?_⟩
  · rintro ⟨f, hf, q⟩
    unfold lxp at q
    rw [Bool.and_eq_true, hb_and, Bool.and_eq_true] at q
    obtain ⟨⟨q1, q2⟩, q3⟩ := q
    obtain ⟨p, hp, e⟩ := (s5 i f hi (by omega)).mp q1
    refine ⟨p, hp, ?_⟩
    rcases s2 f hf with ⟨-, e1, t, ht, e2⟩ | ⟨z, -⟩
    · unfold lyp
      rw [e, ix_nI (by omega), decide_eq_false (show ¬ nI f < nI 0 from nI_nlt (by omega) (by omega)), ← e1, q3, e1, e2, decide_eq_false (nI_ne_m1 (by omega))]
      rfl
    · rw [z] at q2; cases q2
  · rintro ⟨p, hp, q⟩
    unfold lyp at q
    rcases (s4 i p hi hp).2 with e | ⟨f, hf, e⟩
    · rw [e, decide_eq_true (show m1 < nI 0 by decide)] at q
      cases q
    · rw [e, ix_nI (by omega), Bool.and_eq_true, Bool.and_eq_true] at q
      refine ⟨f, hf, ?_⟩
      unfold lxp
      rcases s2 f hf with ⟨z, e1, -⟩ | ⟨-, z⟩
      · rw [hb_and, z, (s5 i f hi (by omega)).mpr ⟨p, hp, e⟩, e1, q.2.2]
        rfl
      · rw [z, decide_eq_true rfl] at q
        cases q.2.1
theorem ex_suits {nm w nf ns tl gr i k : Nat} {X Y : Mem} {sn : Int32} (h : Inb nm w nf ns tl gr (cb X Y)) (hk : k < 6) (hi : i < ns) : fn_X5_suits X (nI i) (gI Y 55 k) sn = some (bI (gud Y w ns gr k i sn)) := by
  obtain ⟨⟨a1, a2, a3, a4, a5, a6⟩, -, c1, c2, c3, c4, c5, c6, c7⟩ := cbb_facts h
  obtain ⟨-, s3, -⟩ := shb h
  have ha : fn_X4_ageOf X (nI i) (nI w) = some (agY Y w ns i) := by
    unfold agY
    by_cases q : i + 1 < ns
    · rw [if_pos q, ← (s3 _ q).1]
      simp (disch := omega) only [fn_X4_ageOf, nx_e, ck_t, ck_ok, bd1_s, bd1_n, bd2_s, oc_n, oc_s, l_0, l_1, l_2, l_3, l_4, l_5, l_6, l_7, l_8, l_11, l_12, l_31, l_39, l_40, l_59, l_60, l_100, l_500, l_1000, l_4095, l_9999, m1_e, ix_nI, ile_t, ile_f, ilt_t, ilt_f, ieq_t, ieq_f, nI_add, pk_mul, nI_sub, ile_m1, ilt_m1, ieq_m1, imle_m1, imlt_m1, imeq_m1, imeq_s, ieq_s, ile_s, ilt_s, gI_s, gI_ne1, gI_ne2, gJ_s, gJ_ne1, gJ_ne2, gI_sJ, gJ_sI, ibI0, ibI1, bI_t, bI_f, decide_true, decide_false, and_self, and_true, true_and, and_false, false_and, reduceIte, if_true, if_false, Nat.add_sub_cancel, e_within, e_in, ex_hasState a4 c5 q]
    · rw [if_neg q]
      simp (disch := omega) only [fn_X4_ageOf, fn_X4_hasState, nx_e, ck_t, ck_ok, bd1_s, bd1_n, bd2_s, oc_n, oc_s, l_0, l_1, l_2, l_3, l_4, l_5, l_6, l_7, l_8, l_11, l_12, l_31, l_39, l_40, l_59, l_60, l_100, l_500, l_1000, l_4095, l_9999, m1_e, ix_nI, ile_t, ile_f, ilt_t, ilt_f, ieq_t, ieq_f, nI_add, pk_mul, nI_sub, ile_m1, ilt_m1, ieq_m1, imle_m1, imlt_m1, imeq_m1, imeq_s, ieq_s, ile_s, ilt_s, gI_s, gI_ne1, gI_ne2, gJ_s, gJ_ne1, gJ_ne2, gI_sJ, gJ_sI, ibI0, ibI1, bI_t, bI_f, decide_true, decide_false, and_self, and_true, true_and, and_false, false_and, reduceIte, if_true, if_false, Nat.add_sub_cancel, e_within, e_in, a4]
  unfold fn_X5_suits
  unfold gud
  rw [a2, a6]
  by_cases q : nI i < sn
  · rw [if_pos q, decide_eq_true q]
    rfl
  · rw [if_neg q, decide_eq_false q, ha, bd1_s]
    by_cases q2 : agY Y w ns i ≤ gI Y 55 k
    · rw [if_neg (Int32.not_lt.mpr q2), decide_eq_true q2, ex_nly a3 a4 c3 c5 hi, bd1_s, lx_ly h hi]
      cases anyB (lyp Y w gr i) 12 <;> rfl
    · rw [if_pos (Int32.not_le.mp q2), decide_eq_false q2]
      rfl
theorem ey_suits {nm w nf ns tl gr i k : Nat} {X Y : Mem} {sn : Int32} (h : Inb nm w nf ns tl gr (cb X Y)) (hk : k < 6) (hi : i < ns) : fn_X6_isGood Y (nI k) (nI i) sn = some (bI (gud Y w ns gr k i sn)) := by
  obtain ⟨-, ⟨b1, b2, b3, b4, b5, b6⟩, c1, c2, c3, c4, c5, c6, c7⟩ := cbb_facts h
  refine ey_good b2 b4 b6 c5 hk hi (fun p hp => ?_)
  rcases ((shb h).2.2.1 i p hi hp).2 with e | ⟨f, hf, e⟩
  · exact Or.inl e
  · exact Or.inr ⟨f, by omega, e⟩
