/-! loops in closed form -/
def anyB (p : Nat → Bool) : Nat → Bool
  | 0 => false
  | n + 1 => anyB p n || p n
theorem anyB_iff {p : Nat → Bool} : ∀ {n : Nat}, anyB p n = true ↔ ∃ k, k < n ∧ p k = true
  | 0 => ⟨fun h => (by cases h), fun ⟨k, h, _⟩ => (by omega)⟩
  | n + 1 => by
    rw [anyB, Bool.or_eq_true, anyB_iff]
    constructor
    · rintro (⟨k, h1, h2⟩ | h)
      · exact ⟨k, by omega, h2⟩
      · exact ⟨n, by omega, h⟩
    · rintro ⟨k, h1, h2⟩
      by_cases e : k = n
      · subst e; exact Or.inr h2
      · exact Or.inl ⟨k, by omega, h2⟩
theorem anyB_f {p : Nat → Bool} {n : Nat} : anyB p n = false ↔ ∀ k, k < n → p k = false := by
  constructor
  · intro h k hk
    cases q : p k with
    | false => rfl
    | true => rw [anyB_iff.mpr ⟨k, hk, q⟩] at h; cases h
  · intro h
    cases q : anyB p n with
    | false => rfl
    | true =>
      obtain ⟨k, h1, h2⟩ := anyB_iff.mp q
      rw [h k h1] at h2
      cases h2
theorem anyB_cong {p q : Nat → Bool} : ∀ {n : Nat}, (∀ k, k < n → p k = q k) → anyB p n = anyB q n
  | 0, _ => rfl
  | n + 1, h => by rw [anyB, anyB, anyB_cong (fun k hk => h k (by omega)), h n (by omega)]
theorem anyB_eq {p q : Nat → Bool} {n m : Nat} (h : (∃ k, k < n ∧ p k = true) ↔ ∃ k, k < m ∧ q k = true) : anyB p n = anyB q m := by
  cases e : anyB q m with
  | true => exact anyB_iff.mpr (h.mpr (anyB_iff.mp e))
  | false =>
    cases e2 : anyB p n with
    | false => rfl
    | true => rw [anyB_iff.mpr (h.mp (anyB_iff.mp e2))] at e; cases e
theorem scan1 {B : Type} {f : (Int32 → Option B) → Int32 → Option B} (n : Nat) (p : Nat → Bool) (yes no : Option B) (hn : n < 999) (hs : ∀ i rc, i < n → f rc (nI i) = if p i = true then yes else rc (nI (i + 1))) (he : ∀ rc, f rc (nI n) = no) : it1 f FU (nI 0) = if anyB p n = true then yes else no := by
  have L := it1_v (f := f) (fun a => ∃ i, i ≤ n ∧ a = nI i ∧ ∀ j, j < i → p j = false) (fun a => n - ix a) (fun _ => if anyB p n = true then yes else no) (by
    rintro a ⟨i, hi, rfl, hj⟩ rc hrc
    by_cases e : i = n
    · subst e
      rw [he, if_neg (by rw [anyB_f.mpr hj]; decide)]
    · rw [hs i rc (by omega)]
      cases q : p i with
      | true =>
        rw [if_pos rfl, if_pos (anyB_iff.mpr ⟨i, by omega, q⟩)]
      | false =>
        rw [if_neg (by decide)]
        refine hrc _ ⟨i + 1, by omega, rfl, fun j hj2 => ?_⟩ (by rw [ix_nI (by omega), ix_nI (by omega)]; omega)
        by_cases e2 : j = i
        · rw [e2]; exact q
        · exact hj j (by omega))
  exact L FU (nI 0) ⟨0, by omega, rfl, fun j hj => by omega⟩ (by rw [ix_nI (by omega)]; show n - 0 < 1000; omega)
def sumI (g : Nat → Int32) : Nat → Int32 → Int32
  | 0, a => a
  | n + 1, a => sumI g n a + g n
theorem sumI_cong {g h : Nat → Int32} {a : Int32} : ∀ {n : Nat}, (∀ k, k < n → g k = h k) → sumI g n a = sumI h n a
  | 0, _ => rfl
  | n + 1, q => by rw [sumI, sumI, sumI_cong (fun k hk => q k (by omega)), q n (by omega)]
theorem sumI_acc (g : Nat → Int32) (a : Int32) : ∀ n, sumI g n a = a + sumI g n (nI 0)
  | 0 => by rw [sumI, sumI]; exact (Int32.add_zero a).symm
  | n + 1 => by rw [sumI, sumI, sumI_acc g a n, Int32.add_assoc]
theorem sum2 {B : Type} {f : (Int32 → Int32 → Option B) → Int32 → Int32 → Option B} (n : Nat) (g : Nat → Int32) (out : Int32 → Option B) (hn : n < 999) (hs : ∀ i a rc, i < n → f rc a (nI i) = rc (a + g i) (nI (i + 1))) (he : ∀ a rc, f rc a (nI n) = out a) (a : Int32) : it2 f FU a (nI 0) = out (sumI g n a) := by
  have L := it2_v (f := f) (fun b c => ∃ i, i ≤ n ∧ c = nI i ∧ b = sumI g i a) (fun _ c => n - ix c) (fun _ _ => out (sumI g n a)) (by
    rintro b c ⟨i, hi, rfl, rfl⟩ rc hrc
    by_cases e : i = n
    · subst e
      rw [he]
    · rw [hs i _ rc (by omega)]
      exact hrc _ _ ⟨i + 1, by omega, rfl, rfl⟩ (by rw [ix_nI (by omega), ix_nI (by omega)]; omega))
  exact L FU a (nI 0) ⟨0, by omega, rfl, rfl⟩ (by rw [ix_nI (by omega)]; show n - 0 < 1000; omega)
theorem add0 (a : Int32) : a + nI 0 = a := Int32.add_zero a
/-! falls -/
def dnp (M : Mem) (w : Int32) (m k : Nat) : Bool := decide (gI M 51 k = nI m) && (decide (gI M 52 k ≤ w) && decide (w ≤ gI M 53 k))
def dn (tl : Nat) (M : Mem) (w : Int32) (m : Nat) : Bool := anyB (dnp M w m) tl
theorem e_isFallen {nm w nf ns tl gr : Nat} {M : Mem} (hA : iA nm w nf ns tl gr M) (m : Nat) : fn_X6_isFallen M (nI m) = some (bI (dn tl M (nI w) m)) := by
  obtain ⟨-, ⟨b1, b2, b3, b4, b5, b6⟩, c1, c2, c3, c4, c5, c6, c7⟩ := hA
  have L := scan1 (f := lq_X6_isFallen_2 M (nI m)) tl (dnp M (nI w) m) (some (nI 1)) (some (nI 0)) (by omega) (fun i rc hi => by
    simp (disch := omega) only [lq_X6_isFallen_2, bk_X6_isFallen_48, nx_e, ck_t, ck_ok, bd1_s, bd1_n, bd2_s, oc_n, oc_s, l_0, l_1, l_2, l_3, l_4, l_5, l_6, l_7, l_8, l_11, l_12, l_31, l_39, l_40, l_59, l_60, l_100, l_500, l_1000, l_4095, l_9999, m1_e, ix_nI, ile_t, ile_f, ilt_t, ilt_f, ieq_t, ieq_f, nI_add, pk_mul, nI_sub, ile_m1, ilt_m1, ieq_m1, imle_m1, imlt_m1, imeq_m1, imeq_s, ieq_s, ile_s, ilt_s, gI_s, gI_ne1, gI_ne2, gJ_s, gJ_ne1, gJ_ne2, gI_sJ, gJ_sI, ibI0, ibI1, bI_t, bI_f, decide_true, decide_false, and_self, and_true, true_and, and_false, false_and, reduceIte, if_true, if_false, Nat.add_sub_cancel, e_within, e_in, b5, b2]
    unfold dnp
    by_cases q1 : gI M 51 i = nI m
    · rw [if_pos q1, decide_eq_true q1, Bool.true_and]
      by_cases q2 : nI w < gI M 52 i
      · rw [if_pos q2, decide_eq_false (Int32.not_le.mpr q2)]
        rfl
      · rw [if_neg q2, decide_eq_true (Int32.not_lt.mp q2), Bool.true_and]
        by_cases q3 : gI M 53 i < nI w
        · rw [if_pos q3, decide_eq_false (Int32.not_le.mpr q3)]
          rfl
        · rw [if_neg q3, decide_eq_true (Int32.not_lt.mp q3)]
          rfl
    · rw [if_neg q1, decide_eq_false q1]
      rfl) (fun rc => by
    simp (disch := omega) only [lq_X6_isFallen_2, nx_e, ck_t, ck_ok, bd1_s, bd1_n, bd2_s, oc_n, oc_s, l_0, l_1, l_2, l_3, l_4, l_5, l_6, l_7, l_8, l_11, l_12, l_31, l_39, l_40, l_59, l_60, l_100, l_500, l_1000, l_4095, l_9999, m1_e, ix_nI, ile_t, ile_f, ilt_t, ilt_f, ieq_t, ieq_f, nI_add, pk_mul, nI_sub, ile_m1, ilt_m1, ieq_m1, imle_m1, imlt_m1, imeq_m1, imeq_s, ieq_s, ile_s, ilt_s, gI_s, gI_ne1, gI_ne2, gJ_s, gJ_ne1, gJ_ne2, gI_sJ, gJ_sI, ibI0, ibI1, bI_t, bI_f, decide_true, decide_false, and_self, and_true, true_and, and_false, false_and, reduceIte, if_true, if_false, Nat.add_sub_cancel, e_within, e_in, b5])
  unfold fn_X6_isFallen
  show it1 _ FU (nI 0) = _
  rw [L]
  unfold dn
  cases anyB (dnp M (nI w) m) tl <;> rfl
theorem e_downAt {nm w nf ns tl gr : Nat} {M : Mem} (hA : iA nm w nf ns tl gr M) (hF : iF nm tl M) : ∃ d, fn_X2_downAt M (nI w) = some d ∧ ∀ m, m < 32 → hbI d m = dn tl M (nI w) m := by
  obtain ⟨⟨a1, a2, a3, a4, a5, a6⟩, -, c1, c2, c3, c4, c5, c6, c7⟩ := hA
  have L := it2_h (f := lq_X2_downAt_4 M (nI w)) (fun b c => ∃ i, i ≤ tl ∧ c = nI i ∧ ∀ m, m < 32 → hbI b m = anyB (dnp M (nI w) m) i) (fun _ c => tl - ix c) (fun _ _ d => ∀ m, m < 32 → hbI d m = dn tl M (nI w) m) (by
    rintro b c ⟨i, hi, rfl, hb⟩ rc hrc
    by_cases e : i = tl
    · subst e
      refine ⟨b, ?_, hb⟩
      simp (disch := omega) only [lq_X2_downAt_4, nx_e, ck_t, ck_ok, bd1_s, bd1_n, bd2_s, oc_n, oc_s, l_0, l_1, l_2, l_3, l_4, l_5, l_6, l_7, l_8, l_11, l_12, l_31, l_39, l_40, l_59, l_60, l_100, l_500, l_1000, l_4095, l_9999, m1_e, ix_nI, ile_t, ile_f, ilt_t, ilt_f, ieq_t, ieq_f, nI_add, pk_mul, nI_sub, ile_m1, ilt_m1, ieq_m1, imle_m1, imlt_m1, imeq_m1, imeq_s, ieq_s, ile_s, ilt_s, gI_s, gI_ne1, gI_ne2, gJ_s, gJ_ne1, gJ_ne2, gI_sJ, gJ_sI, ibI0, ibI1, bI_t, bI_f, decide_true, decide_false, and_self, and_true, true_and, and_false, false_and, reduceIte, if_true, if_false, Nat.add_sub_cancel, e_within, e_in, a5]
    · obtain ⟨f1, f2, f3, m', hm', f4⟩ := hF i (by omega)
      simp (disch := omega) only [lq_X2_downAt_4, bk_X2_downAt_42, nx_e, ck_t, ck_ok, bd1_s, bd1_n, bd2_s, oc_n, oc_s, l_0, l_1, l_2, l_3, l_4, l_5, l_6, l_7, l_8, l_11, l_12, l_31, l_39, l_40, l_59, l_60, l_100, l_500, l_1000, l_4095, l_9999, m1_e, ix_nI, ile_t, ile_f, ilt_t, ilt_f, ieq_t, ieq_f, nI_add, pk_mul, nI_sub, ile_m1, ilt_m1, ieq_m1, imle_m1, imlt_m1, imeq_m1, imeq_s, ieq_s, ile_s, ilt_s, gI_s, gI_ne1, gI_ne2, gJ_s, gJ_ne1, gJ_ne2, gI_sJ, gJ_sI, ibI0, ibI1, bI_t, bI_f, decide_true, decide_false, and_self, and_true, true_and, and_false, false_and, reduceIte, if_true, if_false, Nat.add_sub_cancel, e_within, e_in, a5, f1, f2, f3, f4, e_shl2]
      by_cases q : gI M 52 i ≤ nI w ∧ nI w ≤ gI M 53 i
      · rw [decide_eq_true q, if_pos rfl]
        refine hrc _ _ ⟨i + 1, by omega, rfl, fun m hm => ?_⟩ (by rw [ix_nI (by omega), ix_nI (by omega)]; omega)
        rw [hbI_or, hb m hm, hbI_b5 (by omega), anyB]
        congr 1
        unfold dnp
        rw [f4, decide_eq_true q.1, decide_eq_true q.2]
        by_cases e2 : m = m'
        · subst e2; simp
        · rw [decide_eq_false e2, decide_eq_false (fun z => e2 ((nI_eq (by omega) (by omega)).mp z).symm)]
          rfl
      · rw [decide_eq_false q, if_neg (by decide)]
        refine hrc _ _ ⟨i + 1, by omega, rfl, fun m hm => ?_⟩ (by rw [ix_nI (by omega), ix_nI (by omega)]; omega)
        rw [hb m hm, anyB]
        have : dnp M (nI w) m i = false := by
          unfold dnp
          rw [← Bool.decide_and, decide_eq_false q, Bool.and_false]
        rw [this, Bool.or_false])
  obtain ⟨d, h1, h2⟩ := L FU (nI 0) (nI 0) ⟨0, by omega, rfl, fun m _ => hbI_0 m⟩ (by rw [ix_nI (by omega)]; show tl - 0 < 1000; omega)
  exact ⟨d, h1, h2⟩
/-! names and bytes -/
def nmd (M : Mem) (s f : Nat) : Bool := anyB (fun p => decide (gI M 39 (12 * s + p) = nI f)) 12
theorem hb_nmd {ns : Nat} {M : Mem} (h : iS5 ns M) {s f : Nat} (hs : s < ns) (hf : f < 64) : hb (gJ M 5 s) f = nmd M s f := by
  have := h s f hs hf
  cases q : nmd M s f with
  | true =>
    obtain ⟨p, h1, h2⟩ := anyB_iff.mp q
    exact this.mpr ⟨p, h1, of_decide_eq_true h2⟩
  | false =>
    cases q2 : hb (gJ M 5 s) f with
    | false => rfl
    | true =>
      obtain ⟨p, h1, h2⟩ := this.mp q2
      have := anyB_f.mp q p h1
      rw [decide_eq_true h2] at this
      cases this
theorem e_isNamed {M : Mem} {s f : Nat} (hs : s < 60) : fn_X6_isNamed M (nI s) (nI f) = some (bI (nmd M s f)) := by
  have L := scan1 (f := lq_X6_isNamed_2 M (nI s) (nI f)) 12 (fun p => decide (gI M 39 (12 * s + p) = nI f)) (some (nI 1)) (some (nI 0)) (by omega) (fun i rc hi => by
    simp (disch := omega) only [lq_X6_isNamed_2, nx_e, ck_t, ck_ok, bd1_s, bd1_n, bd2_s, oc_n, oc_s, l_0, l_1, l_2, l_3, l_4, l_5, l_6, l_7, l_8, l_11, l_12, l_31, l_39, l_40, l_59, l_60, l_100, l_500, l_1000, l_4095, l_9999, m1_e, ix_nI, ile_t, ile_f, ilt_t, ilt_f, ieq_t, ieq_f, nI_add, pk_mul, nI_sub, ile_m1, ilt_m1, ieq_m1, imle_m1, imlt_m1, imeq_m1, imeq_s, ieq_s, ile_s, ilt_s, gI_s, gI_ne1, gI_ne2, gJ_s, gJ_ne1, gJ_ne2, gI_sJ, gJ_sI, ibI0, ibI1, bI_t, bI_f, decide_true, decide_false, and_self, and_true, true_and, and_false, false_and, reduceIte, if_true, if_false, Nat.add_sub_cancel, e_within, e_in]
    by_cases q : gI M 39 (12 * s + i) = nI f
    · rw [if_pos q, decide_eq_true q]; rfl
    · rw [if_neg q, decide_eq_false q]; rfl) (fun rc => by
    simp (disch := omega) only [lq_X6_isNamed_2, nx_e, ck_t, ck_ok, bd1_s, bd1_n, bd2_s, oc_n, oc_s, l_0, l_1, l_2, l_3, l_4, l_5, l_6, l_7, l_8, l_11, l_12, l_31, l_39, l_40, l_59, l_60, l_100, l_500, l_1000, l_4095, l_9999, m1_e, ix_nI, ile_t, ile_f, ilt_t, ilt_f, ieq_t, ieq_f, nI_add, pk_mul, nI_sub, ile_m1, ilt_m1, ieq_m1, imle_m1, imlt_m1, imeq_m1, imeq_s, ieq_s, ile_s, ilt_s, gI_s, gI_ne1, gI_ne2, gJ_s, gJ_ne1, gJ_ne2, gI_sJ, gJ_sI, ibI0, ibI1, bI_t, bI_f, decide_true, decide_false, and_self, and_true, true_and, and_false, false_and, reduceIte, if_true, if_false, Nat.add_sub_cancel, e_within, e_in])
  unfold fn_X6_isNamed
  show it1 _ FU (nI 0) = _
  rw [L]
  unfold nmd
  cases anyB _ 12 <;> rfl
theorem e_bytesOf {nm w nf ns tl gr : Nat} {M : Mem} (hA : iA nm w nf ns tl gr M) (y : Int64) : fn_X4_bytesOf M y = some (sumI (fun f => if hb y f = true then gI M 2 f else nI 0) nf (nI 0)) := by
  obtain ⟨⟨a1, a2, a3, a4, a5, a6⟩, -, c1, c2, c3, c4, c5, c6, c7⟩ := hA
  unfold fn_X4_bytesOf
  refine sum2 (f := lq_X4_bytesOf_5 M y) nf _ some (by omega) (fun i a rc hi => ?_) (fun a rc => ?_) (nI 0)
  · simp (disch := omega) only [lq_X4_bytesOf_5, bk_X4_bytesOf_36, nx_e, ck_t, ck_ok, bd1_s, bd1_n, bd2_s, oc_n, oc_s, l_0, l_1, l_2, l_3, l_4, l_5, l_6, l_7, l_8, l_11, l_12, l_31, l_39, l_40, l_59, l_60, l_100, l_500, l_1000, l_4095, l_9999, m1_e, ix_nI, ile_t, ile_f, ilt_t, ilt_f, ieq_t, ieq_f, nI_add, pk_mul, nI_sub, ile_m1, ilt_m1, ieq_m1, imle_m1, imlt_m1, imeq_m1, imeq_s, ieq_s, ile_s, ilt_s, gI_s, gI_ne1, gI_ne2, gJ_s, gJ_ne1, gJ_ne2, gI_sJ, gJ_sI, ibI0, ibI1, bI_t, bI_f, decide_true, decide_false, and_self, and_true, true_and, and_false, false_and, reduceIte, if_true, if_false, Nat.add_sub_cancel, e_within, e_in, a3, e_bitOf, icmpb]
    cases hb y i with
    | true => rfl
    | false => simp only [add0, Bool.false_eq_true, if_false]
  · simp (disch := omega) only [lq_X4_bytesOf_5, nx_e, ck_t, ck_ok, bd1_s, bd1_n, bd2_s, oc_n, oc_s, l_0, l_1, l_2, l_3, l_4, l_5, l_6, l_7, l_8, l_11, l_12, l_31, l_39, l_40, l_59, l_60, l_100, l_500, l_1000, l_4095, l_9999, m1_e, ix_nI, ile_t, ile_f, ilt_t, ilt_f, ieq_t, ieq_f, nI_add, pk_mul, nI_sub, ile_m1, ilt_m1, ieq_m1, imle_m1, imlt_m1, imeq_m1, imeq_s, ieq_s, ile_s, ilt_s, gI_s, gI_ne1, gI_ne2, gJ_s, gJ_ne1, gJ_ne2, gI_sJ, gJ_sI, ibI0, ibI1, bI_t, bI_f, decide_true, decide_false, and_self, and_true, true_and, and_false, false_and, reduceIte, if_true, if_false, Nat.add_sub_cancel, e_within, e_in, a3]
theorem e_filesOf {nm w nf ns tl gr : Nat} {M : Mem} (hA : iA nm w nf ns tl gr M) {s : Nat} (hs : s < ns) : fn_X4_filesOf M (nI s) = some (gJ M 5 s) := by
  have c5 : ns ≤ 60 := hA.2.2.2.2.2.2.1
  simp (disch := omega) only [fn_X4_filesOf, e_hasState hA hs, nx_e, ck_t, ck_ok, bd1_s, bd1_n, bd2_s, oc_n, oc_s, l_0, l_1, l_2, l_3, l_4, l_5, l_6, l_7, l_8, l_11, l_12, l_31, l_39, l_40, l_59, l_60, l_100, l_500, l_1000, l_4095, l_9999, m1_e, ix_nI, ile_t, ile_f, ilt_t, ilt_f, ieq_t, ieq_f, nI_add, pk_mul, nI_sub, ile_m1, ilt_m1, ieq_m1, imle_m1, imlt_m1, imeq_m1, imeq_s, ieq_s, ile_s, ilt_s, gI_s, gI_ne1, gI_ne2, gJ_s, gJ_ne1, gJ_ne2, gI_sJ, gJ_sI, ibI0, ibI1, bI_t, bI_f, decide_true, decide_false, and_self, and_true, true_and, and_false, false_and, reduceIte, if_true, if_false, Nat.add_sub_cancel, e_within, e_in]
theorem e_filesOfm {nm w nf ns tl gr : Nat} {M : Mem} (hA : iA nm w nf ns tl gr M) : fn_X4_filesOf M m1 = some 0 := by
  have hx : ¬ ∃ m, m < ns ∧ m1 = nI m := fun ⟨m, h, e⟩ => nI_ne_m1 (by have c5 : ns ≤ 60 := hA.2.2.2.2.2.2.1; omega) e.symm
  simp (disch := omega) only [fn_X4_filesOf, e_hasState0 hA hx, nx_e, ck_t, ck_ok, bd1_s, bd1_n, bd2_s, oc_n, oc_s, l_0, l_1, l_2, l_3, l_4, l_5, l_6, l_7, l_8, l_11, l_12, l_31, l_39, l_40, l_59, l_60, l_100, l_500, l_1000, l_4095, l_9999, m1_e, ix_nI, ile_t, ile_f, ilt_t, ilt_f, ieq_t, ieq_f, nI_add, pk_mul, nI_sub, ile_m1, ilt_m1, ieq_m1, imle_m1, imlt_m1, imeq_m1, imeq_s, ieq_s, ile_s, ilt_s, gI_s, gI_ne1, gI_ne2, gJ_s, gJ_ne1, gJ_ne2, gI_sJ, gJ_sI, ibI0, ibI1, bI_t, bI_f, decide_true, decide_false, and_self, and_true, true_and, and_false, false_and, reduceIte, if_true, if_false, Nat.add_sub_cancel, e_within, e_in]
theorem e_namedBy {nm w nf ns tl gr : Nat} {M : Mem} (hA : iA nm w nf ns tl gr M) {s p : Nat} (hs : s < ns) (hp : p < 12) : fn_X4_namedBy M (nI s) (nI p) = some (gI M 6 (12 * s + p)) := by
  have c5 : ns ≤ 60 := hA.2.2.2.2.2.2.1
  have h1 : nI 0 ≤ nI p ∧ nI p ≤ nI 11 := rng' (by omega) (by omega) (by omega)
  have e : s * 12 + p = 12 * s + p := by omega
  simp (disch := omega) only [fn_X4_namedBy, e_hasState hA hs, nx_e, ck_t, ck_ok, bd1_s, bd1_n, bd2_s, oc_n, oc_s, l_0, l_1, l_2, l_3, l_4, l_5, l_6, l_7, l_8, l_11, l_12, l_31, l_39, l_40, l_59, l_60, l_100, l_500, l_1000, l_4095, l_9999, m1_e, ix_nI, ile_t, ile_f, ilt_t, ilt_f, ieq_t, ieq_f, nI_add, pk_mul, nI_sub, ile_m1, ilt_m1, ieq_m1, imle_m1, imlt_m1, imeq_m1, imeq_s, ieq_s, ile_s, ilt_s, gI_s, gI_ne1, gI_ne2, gJ_s, gJ_ne1, gJ_ne2, gI_sJ, gJ_sI, ibI0, ibI1, bI_t, bI_f, decide_true, decide_false, and_self, and_true, true_and, and_false, false_and, reduceIte, if_true, if_false, Nat.add_sub_cancel, e_within, e_in, h1]
  rw [e]
theorem e_holds {M : Mem} {m f : Nat} (hf : f < 60) : fn_X3_holds M m (nI f) = some (bI (hb (gJ M (62 + 2 * m) 6) f)) := by
  simp (disch := omega) only [fn_X3_holds, e_bitOf, nx_e, ck_t, ck_ok, bd1_s, bd1_n, bd2_s, oc_n, oc_s, l_0, l_1, l_2, l_3, l_4, l_5, l_6, l_7, l_8, l_11, l_12, l_31, l_39, l_40, l_59, l_60, l_100, l_500, l_1000, l_4095, l_9999, m1_e, ix_nI, ile_t, ile_f, ilt_t, ilt_f, ieq_t, ieq_f, nI_add, pk_mul, nI_sub, ile_m1, ilt_m1, ieq_m1, imle_m1, imlt_m1, imeq_m1, imeq_s, ieq_s, ile_s, ilt_s, gI_s, gI_ne1, gI_ne2, gJ_s, gJ_ne1, gJ_ne2, gI_sJ, gJ_sI, ibI0, ibI1, bI_t, bI_f, decide_true, decide_false, and_self, and_true, true_and, and_false, false_and, reduceIte, if_true, if_false, Nat.add_sub_cancel, e_within, e_in]
  rw [icmpb (by omega)]
  cases hb (gJ M (62 + 2 * m) 6) f <;> rfl
