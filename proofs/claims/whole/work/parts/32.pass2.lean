theorem cb_facts {nm w nf ns tl gr : Nat} {X Y : Mem} (h : Inw nm w nf ns tl gr (cb X Y)) : (gI X 0 5 = nI nm ∧ gI X 0 6 = nI w ∧ gI X 1 5 = nI nf ∧ gI X 1 6 = nI ns ∧ gI X 7 3 = nI tl ∧ gI X 0 7 = nI gr) ∧ (gI Y 35 7 = nI nm ∧ gI Y 35 0 = nI w ∧ gI Y 35 1 = nI nf ∧ gI Y 35 4 = nI ns ∧ gI Y 35 19 = nI tl ∧ gI Y 35 23 = nI gr) ∧ nm ≤ 8 ∧ w ≤ 9999 ∧ nf ≤ 60 ∧ 1 ≤ ns ∧ ns ≤ 60 ∧ tl ≤ 40 ∧ gr ≤ 9999 := by
  have hA := h.1
  unfold iA at hA
  simp (disch := omega) only [cb_x, cb_y] at hA
  exact hA
/-- a change of one mirror's cells alone -/
theorem inw_mirror {nm w nf ns tl gr m : Nat} {X Y X' Y' : Mem} (h : Inw nm w nf ns tl gr (cb X Y)) (hm : m < nm) (hx : ∀ i j, i ≠ 62 + 2 * m → i ≠ 62 + 2 * m + 1 → (i < 35 ∨ 61 < i) → gI X' i j = gI X i j) (hxJ : ∀ i j, i ≠ 62 + 2 * m → gJ X' i j = gJ X i j)
    (hy : ∀ i j, (i < 40 ∨ 50 < i) → 35 ≤ i → i ≤ 61 → gI Y' i j = gI Y i j) (hy2 : ∀ i j, 40 ≤ i → i ≤ 50 → i ≠ 48 → i ≠ 49 → j ≠ m → gI Y' i j = gI Y i j) (h48 : ∀ m' f, m' ≠ m → f < 60 → gI Y' 48 (60 * m' + f) = gI Y 48 (60 * m' + f)) (h49 : ∀ m' k, m' ≠ m → k < 3 → gI Y' 49 (3 * m' + k) = gI Y 49 (3 * m' + k)) (h1 : iM1 nf ns m (cb X' Y')) : Inw nm w nf ns tl gr (cb X' Y') := by
  obtain ⟨hA, hS, hF, hM, hK, hL⟩ := h
  have c1 : nm ≤ 8 := hA.2.2.1
  have c3 : nf ≤ 60 := hA.2.2.2.2.1
  have f1 : ∀ i j, i < 40 ∨ (50 < i ∧ i ≤ 61) → gI (cb X' Y') i j = gI (cb X Y) i j := by
    intro i j hi
    by_cases q : 35 ≤ i
    · rw [cb_y q (by omega), cb_y q (by omega), hy i j (by omega) q (by omega)]
    · rw [cb_x (by omega), cb_x (by omega), hx i j (by omega) (by omega) (by omega)]
  refine ⟨?_, iS_fr (fun i j hi => f1 i j (by omega)) (fun i j hi => hxJ i j (by omega)) hS, iF_fr (fun i j hi => f1 i j (by omega)) hF, iM_at hm (fun s f _ _ => by rw [cb_J, cb_J, hxJ 5 s (by omega)]) (fun f _ => f1 36 f (by omega)) (iS_named c3 hS) (fun i j q1 q2 q3 => by rw [cb_x (by omega), cb_x (by omega)]; exact hx i j q2 q3 (by omega)) (fun i j q1 q2 => hxJ i j q2) (fun i j q1 q2 q3 q4 q5 => by rw [cb_y (by omega) (by omega), cb_y (by omega) (by omega)]; exact hy2 i j q1 q2 q3 q4 q5) (fun m' f q1 q2 => by rw [cb_y (by omega) (by omega), cb_y (by omega) (by omega)]; exact h48 m' f q1 q2) (fun m' k q1 q2 => by rw [cb_y (by omega) (by omega), cb_y (by omega) (by omega)]; exact h49 m' k q1 q2) hM h1, iK_fr (fun i j hi => f1 i j (by omega)) hK, iL_fr (fun i j hi => f1 i j (by omega)) (fun j _ _ => f1 35 j (by omega)) hL⟩
  unfold iA
  simp only [f1 0 _ (by omega), f1 1 _ (by omega), f1 7 _ (by omega), f1 35 _ (by omega)]
  exact hA
/-- what is known of a mirror -/
theorem mir {nm w nf ns tl gr m : Nat} {X Y : Mem} (h : Inw nm w nf ns tl gr (cb X Y)) (hm : m < nm) :
    ((gI X (62 + 2 * m) 0 = gI Y 40 m ∧ (gI Y 40 m = m1 ∨ ∃ j, j < m ∧ gI Y 40 m = nI j)) ∧
    (gI X (62 + 2 * m) 1 = gI Y 42 m ∧ ∃ k, k ≤ 3 ∧ gI Y 42 m = nI k) ∧
    (gI X (62 + 2 * m) 3 = gI Y 41 m ∧ ∃ v, 1 ≤ v ∧ v ≤ 1000 ∧ gI Y 41 m = nI v) ∧
    (gI X (62 + 2 * m) 4 = gI Y 43 m ∧ ∃ i, i < ns ∧ gI Y 43 m = nI i) ∧
    (gI X (62 + 2 * m) 5 = gI Y 44 m) ∧ (gI X (62 + 2 * m) 7 = gI Y 45 m) ∧ (gI X (62 + 2 * m) 8 = gI Y 46 m) ∧
    (gI X (62 + 2 * m) 9 = gI Y 47 m ∧ ∃ b, gI Y 47 m = bI b)) ∧
    ((∀ f, f < 60 → gI Y 48 (60 * m + f) = bI (hb (gJ X (62 + 2 * m) 6) f)) ∧ ∀ f, nf ≤ f → hb (gJ X (62 + 2 * m) 6) f = false) ∧
    (∃ c, c ≤ 3 ∧ gI Y 50 m = nI c ∧ (∀ k, k < c → gI X (62 + 2 * m + 1) k = gI Y 49 (3 * m + k) ∧ ∃ i, i < ns ∧ gI Y 49 (3 * m + k) = nI i) ∧ ∀ k, c ≤ k → k < 3 → gI X (62 + 2 * m + 1) k = m1) ∧
    ((gI Y 44 m = m1 ∧ gI Y 45 m = nI 0) ∨ ∃ t d, t < ns ∧ gI Y 44 m = nI t ∧ d ≤ 500 ∧ gI Y 45 m = nI d ∧ (d = 0 ∨ ∃ f s, f < 60 ∧ hb (gJ X 5 t) f = true ∧ hb (gJ X (62 + 2 * m) 6) f = false ∧ (∀ g, g < f → hb (gJ X 5 t) g = true → hb (gJ X (62 + 2 * m) 6) g = true) ∧ gI Y 36 f = nI s ∧ d < s ∧ s ≤ 500)) := by
  have h1 := h.2.2.2.1.1 m hm
  unfold iM1 iM1a iM1b iM1c iM1d iMd at h1
  simp (disch := omega) only [cb_x, cb_y, cb_J] at h1
  exact h1
theorem mir_mk {nf ns m : Nat} {X Y : Mem}
    (h : ((gI X (62 + 2 * m) 0 = gI Y 40 m ∧ (gI Y 40 m = m1 ∨ ∃ j, j < m ∧ gI Y 40 m = nI j)) ∧
    (gI X (62 + 2 * m) 1 = gI Y 42 m ∧ ∃ k, k ≤ 3 ∧ gI Y 42 m = nI k) ∧
    (gI X (62 + 2 * m) 3 = gI Y 41 m ∧ ∃ v, 1 ≤ v ∧ v ≤ 1000 ∧ gI Y 41 m = nI v) ∧
    (gI X (62 + 2 * m) 4 = gI Y 43 m ∧ ∃ i, i < ns ∧ gI Y 43 m = nI i) ∧
    (gI X (62 + 2 * m) 5 = gI Y 44 m) ∧ (gI X (62 + 2 * m) 7 = gI Y 45 m) ∧ (gI X (62 + 2 * m) 8 = gI Y 46 m) ∧
    (gI X (62 + 2 * m) 9 = gI Y 47 m ∧ ∃ b, gI Y 47 m = bI b)) ∧
    ((∀ f, f < 60 → gI Y 48 (60 * m + f) = bI (hb (gJ X (62 + 2 * m) 6) f)) ∧ ∀ f, nf ≤ f → hb (gJ X (62 + 2 * m) 6) f = false) ∧
    (∃ c, c ≤ 3 ∧ gI Y 50 m = nI c ∧ (∀ k, k < c → gI X (62 + 2 * m + 1) k = gI Y 49 (3 * m + k) ∧ ∃ i, i < ns ∧ gI Y 49 (3 * m + k) = nI i) ∧ ∀ k, c ≤ k → k < 3 → gI X (62 + 2 * m + 1) k = m1) ∧
    ((gI Y 44 m = m1 ∧ gI Y 45 m = nI 0) ∨ ∃ t d, t < ns ∧ gI Y 44 m = nI t ∧ d ≤ 500 ∧ gI Y 45 m = nI d ∧ (d = 0 ∨ ∃ f s, f < 60 ∧ hb (gJ X 5 t) f = true ∧ hb (gJ X (62 + 2 * m) 6) f = false ∧ (∀ g, g < f → hb (gJ X 5 t) g = true → hb (gJ X (62 + 2 * m) 6) g = true) ∧ gI Y 36 f = nI s ∧ d < s ∧ s ≤ 500))) : iM1 nf ns m (cb X Y) := by
  unfold iM1 iM1a iM1b iM1c iM1d iMd
  simp (disch := omega) only [cb_x, cb_y, cb_J]
  exact h
/-- the file that the target wants and that the mirror lacks -/
def mis (X : Mem) (m t f : Nat) : Bool := hb (gJ X 5 t) f && !hb (gJ X (62 + 2 * m) 6) f
theorem mis_lck {nm w nf ns tl gr m t : Nat} {X Y : Mem} (h : Inw nm w nf ns tl gr (cb X Y)) (hm : m < nm) (ht : t < ns) {f : Nat} (hf : f < 60) : lck Y m t f = mis X m t f := by
  have e1 := (mir h hm).2.1.1 f hf
  have e2 : hb (gJ X 5 t) f = nmd (cb X Y) t f := hb_nmd h.2.1.2.2.2.2 ht (by omega)
  have e3 : nmd (cb X Y) t f = nmd Y t f := by
    unfold nmd
    exact anyB_cong (fun k hk => by rw [cb_y (by omega) (by omega)])
  unfold lck mis
  rw [e1, e2, e3]
  cases hb (gJ X (62 + 2 * m) 6) f with
  | true => rw [show decide (bI true = nI 0) = false from by decide]; simp
  | false => rw [show decide (bI false = nI 0) = true from by decide]; simp
theorem mis_nf {nm w nf ns tl gr m t : Nat} {X Y : Mem} (h : Inw nm w nf ns tl gr (cb X Y)) (ht : t < ns) {f : Nat} (hf : f < 60) (q : mis X m t f = true) : f < nf := by
  unfold mis at q
  rw [Bool.and_eq_true] at q
  exact iS_named h.1.2.2.2.2.1 h.2.1 t f ht hf q.1
theorem mis_0 {nm w nf ns tl gr m t : Nat} {X Y : Mem} (h : Inw nm w nf ns tl gr (cb X Y)) (ht : t < ns) : (gJ X 5 t &&& ((gJ X (62 + 2 * m) 6) ^^^ (-1))) = 0 ↔ ∀ f, f < 60 → mis X m t f = false := by
  have c3 : nf ≤ 60 := h.1.2.2.2.2.1
  have big : ∀ f, 60 ≤ f → f < 64 → hb (gJ X 5 t) f = false := by
    intro f h1 h2
    cases q : hb (gJ X 5 t) f with
    | false => rfl
    | true =>
      obtain ⟨p, hp, e⟩ := (h.2.1.2.2.2.2 t f ht h2).mp q
      rcases (h.2.1.2.2.2.1 t p ht hp).2 with z | ⟨g, hg, z⟩
      · rw [z] at e; exact absurd e.symm (nI_ne_m1 (by omega))
      · rw [z] at e
        have := (nI_eq (by omega) (by omega)).mp e
        omega
  rw [hb_eq0]
  constructor
  · intro q f hf
    have := q f (by omega)
    rw [hb_and, hb_not _ (by omega)] at this
    exact this
  · intro q f hf
    rw [hb_and, hb_not _ (by omega)]
    by_cases z : f < 60
    · exact q f z
    · rw [big f (by omega) hf, Bool.false_and]
theorem cn_less {p q : Nat → Bool} {f : Nat} (hp : p f = true) (hq : q f = false) (h : ∀ g, g ≠ f → q g = p g) : ∀ n, f < n → cn q n + 1 = cn p n
  | 0, hf => by omega
  | n + 1, hf => by
    rw [cn, cn]
    by_cases e : f = n
    · subst e
      rw [hp, hq, cn_cong (p := q) (q := p) (fun k hk => h k (by omega))]
      rfl
    · rw [h n (Ne.symm e), ← cn_less hp hq h n (by omega)]
      omega
/-- what is offered to a mirror -/
def Off (Y : Mem) (nf m : Nat) (y2 : Int64) : Prop := (gI Y 40 m = m1 ∧ ∀ f, f < nf → hb y2 f = true) ∨ ∃ j, j < m ∧ gI Y 40 m = nI j ∧ ∀ f, f < 60 → gI Y 48 (60 * j + f) = bI (hb y2 f)
theorem zb1 : zb (nI 1) = nI 1 := by decide
theorem ey_full {Y : Mem} {rc : Mem → Int32 → Option (Int32 × Mem)} {m f s d L : Nat} {tk : Int32} (hm : m < 8) (hf : f < 60) (e36 : gI Y 36 f = nI s) (e45 : gI Y 45 m = nI d) (e46 : gI Y 46 m = tk) (hd : d < s) (hs : s ≤ 500) (hL : s - d ≤ L) (hL2 : L ≤ 1000) : bk_X6_copies_67 rc Y (nI m) (nI L) (nI f) = rc (sI (sI (sI (sI Y 45 m (nI s)) 46 m (tk + nI (s - d))) 48 (60 * m + f) (nI 1)) 45 m (nI 0)) (nI (L - (s - d))) := by
  have es : d + (s - d) = s := by omega
  by_cases q : L = s - d
  · subst q
    simp (disch := omega) only [bk_X6_copies_67, bk_X6_copies_101, nx_e, ck_t, ck_ok, bd1_s, bd1_n, bd2_s, oc_n, oc_s, l_0, l_1, l_2, l_3, l_4, l_5, l_6, l_7, l_8, l_11, l_12, l_31, l_39, l_40, l_59, l_60, l_100, l_500, l_1000, l_4095, l_9999, m1_e, ix_nI, ile_t, ile_f, ilt_t, ilt_f, ieq_t, ieq_f, nI_add, pk_mul, nI_sub, ile_m1, ilt_m1, ieq_m1, imle_m1, imlt_m1, imeq_m1, imeq_s, ieq_s, ile_s, ilt_s, gI_s, gI_ne1, gI_ne2, gJ_s, gJ_ne1, gJ_ne2, gI_sJ, gJ_sI, ibI0, ibI1, bI_t, bI_f, decide_true, decide_false, and_self, and_true, true_and, and_false, false_and, reduceIte, if_true, if_false, Nat.add_sub_cancel, e_within, e_in, e36, e45, e46, es, zb1]
  · simp (disch := omega) only [bk_X6_copies_67, bk_X6_copies_101, nx_e, ck_t, ck_ok, bd1_s, bd1_n, bd2_s, oc_n, oc_s, l_0, l_1, l_2, l_3, l_4, l_5, l_6, l_7, l_8, l_11, l_12, l_31, l_39, l_40, l_59, l_60, l_100, l_500, l_1000, l_4095, l_9999, m1_e, ix_nI, ile_t, ile_f, ilt_t, ilt_f, ieq_t, ieq_f, nI_add, pk_mul, nI_sub, ile_m1, ilt_m1, ieq_m1, imle_m1, imlt_m1, imeq_m1, imeq_s, ieq_s, ile_s, ilt_s, gI_s, gI_ne1, gI_ne2, gJ_s, gJ_ne1, gJ_ne2, gI_sJ, gJ_sI, ibI0, ibI1, bI_t, bI_f, decide_true, decide_false, and_self, and_true, true_and, and_false, false_and, reduceIte, if_true, if_false, Nat.add_sub_cancel, e_within, e_in, e36, e45, e46, es, zb1]
theorem ey_part {Y : Mem} {rc : Mem → Int32 → Option (Int32 × Mem)} {m f s d L : Nat} {tk : Int32} (hm : m < 8) (hf : f < 60) (e36 : gI Y 36 f = nI s) (e45 : gI Y 45 m = nI d) (e46 : gI Y 46 m = tk) (hs : s ≤ 500) (hL : L < s - d) : bk_X6_copies_67 rc Y (nI m) (nI L) (nI f) = rc (sI (sI Y 45 m (nI (d + L))) 46 m (tk + nI L)) (nI 0) := by
  have e0 : L - L = 0 := by omega
  simp (disch := omega) only [bk_X6_copies_67, bk_X6_copies_101, nx_e, ck_t, ck_ok, bd1_s, bd1_n, bd2_s, oc_n, oc_s, l_0, l_1, l_2, l_3, l_4, l_5, l_6, l_7, l_8, l_11, l_12, l_31, l_39, l_40, l_59, l_60, l_100, l_500, l_1000, l_4095, l_9999, m1_e, ix_nI, ile_t, ile_f, ilt_t, ilt_f, ieq_t, ieq_f, nI_add, pk_mul, nI_sub, ile_m1, ilt_m1, ieq_m1, imle_m1, imlt_m1, imeq_m1, imeq_s, ieq_s, ile_s, ilt_s, gI_s, gI_ne1, gI_ne2, gJ_s, gJ_ne1, gJ_ne2, gI_sJ, gJ_sI, ibI0, ibI1, bI_t, bI_f, decide_true, decide_false, and_self, and_true, true_and, and_false, false_and, reduceIte, if_true, if_false, Nat.add_sub_cancel, e_within, e_in, e36, e45, e46, e0]
theorem ex_full {X : Mem} {m f s d L : Nat} {tk : Int32} (hf : f < 60) (e7 : gI X (62 + 2 * m) 7 = nI d) (e8 : gI X (62 + 2 * m) 8 = tk) (hd : d < s) (hs : s ≤ 500) (hL : s - d ≤ L) (hL2 : L ≤ 1000) : fn_X3_takeBytes X m (nI f) (nI s) (nI L) = some (nI (s - d), sI (sJ (sI (sI X (62 + 2 * m) 8 (tk + nI (s - d))) (62 + 2 * m) 7 (nI s)) (62 + 2 * m) 6 (gJ X (62 + 2 * m) 6 ||| bt f)) (62 + 2 * m) 7 (nI 0)) := by
  have es : d + (s - d) = s := by omega
  by_cases q : L = s - d
  · subst q
    simp (disch := omega) only [fn_X3_takeBytes, bk_X3_takeBytes_60, nx_e, ck_t, ck_ok, bd1_s, bd1_n, bd2_s, oc_n, oc_s, l_0, l_1, l_2, l_3, l_4, l_5, l_6, l_7, l_8, l_11, l_12, l_31, l_39, l_40, l_59, l_60, l_100, l_500, l_1000, l_4095, l_9999, m1_e, ix_nI, ile_t, ile_f, ilt_t, ilt_f, ieq_t, ieq_f, nI_add, pk_mul, nI_sub, ile_m1, ilt_m1, ieq_m1, imle_m1, imlt_m1, imeq_m1, imeq_s, ieq_s, ile_s, ilt_s, gI_s, gI_ne1, gI_ne2, gJ_s, gJ_ne1, gJ_ne2, gI_sJ, gJ_sI, ibI0, ibI1, bI_t, bI_f, decide_true, decide_false, and_self, and_true, true_and, and_false, false_and, reduceIte, if_true, if_false, Nat.add_sub_cancel, e_within, e_in, e7, e8, es, e_bitOf]
  · simp (disch := omega) only [fn_X3_takeBytes, bk_X3_takeBytes_60, nx_e, ck_t, ck_ok, bd1_s, bd1_n, bd2_s, oc_n, oc_s, l_0, l_1, l_2, l_3, l_4, l_5, l_6, l_7, l_8, l_11, l_12, l_31, l_39, l_40, l_59, l_60, l_100, l_500, l_1000, l_4095, l_9999, m1_e, ix_nI, ile_t, ile_f, ilt_t, ilt_f, ieq_t, ieq_f, nI_add, pk_mul, nI_sub, ile_m1, ilt_m1, ieq_m1, imle_m1, imlt_m1, imeq_m1, imeq_s, ieq_s, ile_s, ilt_s, gI_s, gI_ne1, gI_ne2, gJ_s, gJ_ne1, gJ_ne2, gI_sJ, gJ_sI, ibI0, ibI1, bI_t, bI_f, decide_true, decide_false, and_self, and_true, true_and, and_false, false_and, reduceIte, if_true, if_false, Nat.add_sub_cancel, e_within, e_in, e7, e8, es, e_bitOf]
theorem ex_part {X : Mem} {m f s d L : Nat} {tk : Int32} (e7 : gI X (62 + 2 * m) 7 = nI d) (e8 : gI X (62 + 2 * m) 8 = tk) (hs : s ≤ 500) (hL : L < s - d) : fn_X3_takeBytes X m (nI f) (nI s) (nI L) = some (nI L, sI (sI X (62 + 2 * m) 8 (tk + nI L)) (62 + 2 * m) 7 (nI (d + L))) := by
  simp (disch := omega) only [fn_X3_takeBytes, bk_X3_takeBytes_60, nx_e, ck_t, ck_ok, bd1_s, bd1_n, bd2_s, oc_n, oc_s, l_0, l_1, l_2, l_3, l_4, l_5, l_6, l_7, l_8, l_11, l_12, l_31, l_39, l_40, l_59, l_60, l_100, l_500, l_1000, l_4095, l_9999, m1_e, ix_nI, ile_t, ile_f, ilt_t, ilt_f, ieq_t, ieq_f, nI_add, pk_mul, nI_sub, ile_m1, ilt_m1, ieq_m1, imle_m1, imlt_m1, imeq_m1, imeq_s, ieq_s, ile_s, ilt_s, gI_s, gI_ne1, gI_ne2, gJ_s, gJ_ne1, gJ_ne2, gI_sJ, gJ_sI, ibI0, ibI1, bI_t, bI_f, decide_true, decide_false, and_self, and_true, true_and, and_false, false_and, reduceIte, if_true, if_false, Nat.add_sub_cancel, e_within, e_in, e7, e8]
