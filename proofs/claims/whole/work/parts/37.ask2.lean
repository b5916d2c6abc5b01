/-! the line of an asker -/
def FoX (k : Nat) (X X' : Mem) : Prop := (∀ i j, i ≠ 13 + 3 * k + 2 → ¬ (i = 13 + 3 * k ∧ j = 2) → gI X' i j = gI X i j) ∧ ∀ i j, gJ X' i j = gJ X i j
def FoY (Y Y' : Mem) : Prop := (∀ i j, i ≠ 58 → ¬ (i = 35 ∧ j = 29) → gI Y' i j = gI Y i j) ∧ ∀ i j, gJ Y' i j = gJ Y i j
theorem FoX.rf {k : Nat} {X : Mem} : FoX k X X := ⟨fun _ _ _ _ => rfl, fun _ _ => rfl⟩
theorem FoY.rf {Y : Mem} : FoY Y Y := ⟨fun _ _ _ _ => rfl, fun _ _ => rfl⟩
theorem FoX.tr {k : Nat} {X X' X'' : Mem} (h : FoX k X X') (h2 : FoX k X' X'') : FoX k X X'' := ⟨fun i j a b => (h2.1 i j a b).trans (h.1 i j a b), fun i j => (h2.2 i j).trans (h.2 i j)⟩
theorem FoY.tr {X X' X'' : Mem} (h : FoY X X') (h2 : FoY X' X'') : FoY X X'' := ⟨fun i j a b => (h2.1 i j a b).trans (h.1 i j a b), fun i j => (h2.2 i j).trans (h.2 i j)⟩
theorem inb_fo {nm w nf ns tl gr k : Nat} {X Y X' Y' : Mem} (hk : k < 6) (h : Inb nm w nf ns tl gr (cb X Y)) (hx : FoX k X X') (hy : FoY Y Y') : Inb nm w nf ns tl gr (cb X' Y') :=
  inb_fr h (fun i j q => hx.1 i j (by omega) (by omega)) hx.2 (fun i j q1 q2 => hy.1 i j (by omega) (by omega)) (fun j q => hy.1 35 j (by omega) (by omega)) (ik_fr h.2.2.2.2 (fun j m q => hx.1 _ _ (by omega) (by omega)) (fun j s q1 q2 q3 => hx.1 _ _ (by omega) (by omega)) (fun i j q1 q2 => hy.1 i j (by omega) (by omega)))
def LnR (k m L p : Nat) (X Y : Mem) : Prop := (∀ q, q ≤ L → q ≠ p → gI X (13 + 3 * k + 2) q = gI Y 58 q ∧ ∃ m', m' < m ∧ gI Y 58 q = nI m' ∧ gI Y 54 (8 * k + m') ≠ m1 ∧ hbI (gI Y 57 k) m' = false) ∧ ∀ q q', q ≤ L → q' ≤ L → q ≠ p → q' ≠ p → q ≠ q' → gI Y 58 q ≠ gI Y 58 q'
def inX (k m L p : Nat) (X : Mem) : Mem := sI (sI X (13 + 3 * k + 2) p (nI m)) (13 + 3 * k) 2 (nI (L + 1))
def inY (m L p : Nat) (Y : Mem) : Mem := sI (sI Y 58 p (nI m)) 35 29 (nI (L + 1))
theorem ins_stop {k m L p : Nat} {X Y : Mem} (hm : m < 8) (hp : p ≤ L) (h : LnR k m L p X Y) (hc : gI Y 54 (8 * k + m) ≠ m1) (hb : hbI (gI Y 57 k) m = false) : LnR k (m + 1) (L + 1) (L + 1) (inX k m L p X) (inY m L p Y) ∧ FoX k X (inX k m L p X) ∧ FoY Y (inY m L p Y) := by
  unfold inX inY
  refine ⟨⟨fun q q1 q2 => ?_, fun q q' q1 q2 q3 q4 q5 => ?_⟩, ⟨fun i j a b => ?_, fun i j => (by simp (disch := omega) only [gI_s, gI_ne1, gI_ne2, gJ_s, gJ_ne1, gJ_ne2, gI_sJ, gJ_sI])⟩, ⟨fun i j a b => ?_, fun i j => (by simp (disch := omega) only [gI_s, gI_ne1, gI_ne2, gJ_s, gJ_ne1, gJ_ne2, gI_sJ, gJ_sI])⟩⟩
  · by_cases e : q = p
    · subst e
      simp (disch := omega) only [gI_s, gI_ne1, gI_ne2, gJ_s, gJ_ne1, gJ_ne2, gI_sJ, gJ_sI, true_and]
      exact ⟨m, by omega, rfl, hc, hb⟩
    · simp (disch := omega) only [gI_s, gI_ne1, gI_ne2, gJ_s, gJ_ne1, gJ_ne2, gI_sJ, gJ_sI]
      obtain ⟨z1, m', z2, z3⟩ := h.1 q (by omega) e
      exact ⟨z1, m', by omega, z3⟩
  · have key : ∀ q, q ≤ L → q ≠ p → gI Y 58 q ≠ nI m := by
      intro q z1 z2 z3
      obtain ⟨-, m', z4, z5, -⟩ := h.1 q z1 z2
      rw [z3] at z5
      have := (nI_eq (by omega) (by omega)).mp z5
      omega
    by_cases e : q = p
    · subst e
      simp (disch := omega) only [gI_s, gI_ne1, gI_ne2, gJ_s, gJ_ne1, gJ_ne2, gI_sJ, gJ_sI]
      exact fun z => key q' (by omega) (Ne.symm q5) z.symm
    · by_cases e' : q' = p
      · subst e'
        simp (disch := omega) only [gI_s, gI_ne1, gI_ne2, gJ_s, gJ_ne1, gJ_ne2, gI_sJ, gJ_sI]
        exact key q (by omega) e
      · simp (disch := omega) only [gI_s, gI_ne1, gI_ne2, gJ_s, gJ_ne1, gJ_ne2, gI_sJ, gJ_sI]
        exact h.2 q q' (by omega) (by omega) e e' q5
  · by_cases e : i = 13 + 3 * k
    · subst e
      rw [gI_ne2 (by omega), gI_ne1 (by omega)]
    · rw [gI_ne1 (by omega), gI_ne1 (by omega)]
  · by_cases e : i = 35
    · subst e
      rw [gI_ne2 (by omega), gI_ne1 (by omega)]
    · rw [gI_ne1 (by omega), gI_ne1 (by omega)]
theorem ins_x {k m L p : Nat} {X : Mem} (hp : p < 8) (e2 : gI X (13 + 3 * k) 2 = nI L) : bk_X0_putInLine_61 X k (nI m) (nI p) = some (inX k m L p X) := by
  unfold inX
  simp (disch := omega) only [bk_X0_putInLine_61, nx_e, ck_t, ck_ok, bd1_s, bd1_n, bd2_s, oc_n, oc_s, l_0, l_1, l_2, l_3, l_4, l_5, l_6, l_7, l_8, l_11, l_12, l_31, l_39, l_40, l_59, l_60, l_100, l_500, l_1000, l_4095, l_9999, m1_e, ix_nI, ile_t, ile_f, ilt_t, ilt_f, ieq_t, ieq_f, nI_add, pk_mul, nI_sub, ile_m1, ilt_m1, ieq_m1, imle_m1, imlt_m1, imeq_m1, imeq_s, ieq_s, ile_s, ilt_s, gI_s, gI_ne1, gI_ne2, gJ_s, gJ_ne1, gJ_ne2, gI_sJ, gJ_sI, ibI0, ibI1, bI_t, bI_f, decide_true, decide_false, and_self, and_true, true_and, and_false, false_and, reduceIte, if_true, if_false, Nat.add_sub_cancel, e_within, e_in, e2]
theorem ins_y {k m L p : Nat} {Y : Mem} {rc7 : Mem → Int32 → Option Mem} (hp : p < 8) (e2 : gI Y 35 29 = nI L) : bk_X6_orders_107 rc7 Y (nI k) (nI m) (nI p) = rc7 (inY m L p Y) (nI (m + 1)) := by
  unfold inY
  simp (disch := omega) only [bk_X6_orders_107, bk_X6_orders_124, nx_e, ck_t, ck_ok, bd1_s, bd1_n, bd2_s, oc_n, oc_s, l_0, l_1, l_2, l_3, l_4, l_5, l_6, l_7, l_8, l_11, l_12, l_31, l_39, l_40, l_59, l_60, l_100, l_500, l_1000, l_4095, l_9999, m1_e, ix_nI, ile_t, ile_f, ilt_t, ilt_f, ieq_t, ieq_f, nI_add, pk_mul, nI_sub, ile_m1, ilt_m1, ieq_m1, imle_m1, imlt_m1, imeq_m1, imeq_s, ieq_s, ile_s, ilt_s, gI_s, gI_ne1, gI_ne2, gJ_s, gJ_ne1, gJ_ne2, gI_sJ, gJ_sI, ibI0, ibI1, bI_t, bI_f, decide_true, decide_false, and_self, and_true, true_and, and_false, false_and, reduceIte, if_true, if_false, Nat.add_sub_cancel, e_within, e_in, e2]
theorem ins_rel {k m L : Nat} {rc7 : Mem → Int32 → Option Mem} (hk : k < 6) (hm : m < 8) (hL : L < 8) : ∀ (p : Nat) (X Y : Mem) (n1 n2 : Nat), p ≤ L → (∀ m', m' < 8 → gI X (13 + 3 * k + 1) m' = gI Y 54 (8 * k + m')) → gI X (13 + 3 * k) 2 = nI L → gI Y 35 29 = nI L → LnR k m L p X Y → gI Y 54 (8 * k + m) ≠ m1 → hbI (gI Y 57 k) m = false → p < n1 → p < n2 →
    ∃ X' Y', it2 (lq_X0_putInLine_15 k (nI m)) n1 X (nI p) = some X' ∧ it2 (lq_X6_orders_51 rc7 (nI k) (nI m)) n2 Y (nI p) = rc7 Y' (nI (m + 1)) ∧ gI X' (13 + 3 * k) 2 = nI (L + 1) ∧ gI Y' 35 29 = nI (L + 1) ∧ LnR k (m + 1) (L + 1) (L + 1) X' Y' ∧ FoX k X X' ∧ FoY Y Y' := by
  intro p
  induction p with
  | zero =>
    intro X Y n1 n2 hp hc e1 e2 h h1 h2 hn1 hn2
    obtain ⟨p1, rfl⟩ : ∃ p, n1 = p + 1 := ⟨n1 - 1, by omega⟩
    obtain ⟨p2, rfl⟩ : ∃ p, n2 = p + 1 := ⟨n2 - 1, by omega⟩
    obtain ⟨s1, s2, s3⟩ := ins_stop hm hp h h1 h2
    refine ⟨_, _, ?_, ?_, ?_, ?_, s1, s2, s3⟩
    · show lq_X0_putInLine_15 k (nI m) _ X (nI 0) = _
      unfold lq_X0_putInLine_15
      rw [if_pos (show nI 0 ≤ (0 : Int32) by decide), ins_x (by omega) e1]
    · show lq_X6_orders_51 rc7 (nI k) (nI m) _ Y (nI 0) = _
      unfold lq_X6_orders_51
      rw [if_pos (show nI 0 ≤ (0 : Int32) by decide), ins_y (by omega) e2]
    · unfold inX; simp (disch := omega) only [gI_s, gI_ne1, gI_ne2, gJ_s, gJ_ne1, gJ_ne2, gI_sJ, gJ_sI]
    · unfold inY; simp (disch := omega) only [gI_s, gI_ne1, gI_ne2, gJ_s, gJ_ne1, gJ_ne2, gI_sJ, gJ_sI]
  | succ p ih =>
    intro X Y n1 n2 hp hc e1 e2 h h1 h2 hn1 hn2
    obtain ⟨p1, rfl⟩ : ∃ p, n1 = p + 1 := ⟨n1 - 1, by omega⟩
    obtain ⟨p2, rfl⟩ : ∃ p, n2 = p + 1 := ⟨n2 - 1, by omega⟩
    obtain ⟨z1, m', z2, z3, z4, z5⟩ := h.1 p (by omega) (by omega)
    have z1' : gI X (13 + 3 * k + 2) p = nI m' := z1.trans z3
    have ex : lq_X0_putInLine_15 k (nI m) (it2 (lq_X0_putInLine_15 k (nI m)) p1) X (nI (p + 1)) = if gI Y 54 (8 * k + m') ≤ gI Y 54 (8 * k + m) then bk_X0_putInLine_61 X k (nI m) (nI (p + 1)) else it2 (lq_X0_putInLine_15 k (nI m)) p1 (sI X (13 + 3 * k + 2) (p + 1) (nI m')) (nI p) := by
      simp (disch := omega) only [lq_X0_putInLine_15, nx_e, ck_t, ck_ok, bd1_s, bd1_n, bd2_s, oc_n, oc_s, l_0, l_1, l_2, l_3, l_4, l_5, l_6, l_7, l_8, l_11, l_12, l_31, l_39, l_40, l_59, l_60, l_100, l_500, l_1000, l_4095, l_9999, m1_e, ix_nI, ile_t, ile_f, ilt_t, ilt_f, ieq_t, ieq_f, nI_add, pk_mul, nI_sub, ile_m1, ilt_m1, ieq_m1, imle_m1, imlt_m1, imeq_m1, imeq_s, ieq_s, ile_s, ilt_s, gI_s, gI_ne1, gI_ne2, gJ_s, gJ_ne1, gJ_ne2, gI_sJ, gJ_sI, ibI0, ibI1, bI_t, bI_f, decide_true, decide_false, and_self, and_true, true_and, and_false, false_and, reduceIte, if_true, if_false, Nat.add_sub_cancel, e_within, e_in, z1', hc, nI_dec]
    have ey : lq_X6_orders_51 rc7 (nI k) (nI m) (it2 (lq_X6_orders_51 rc7 (nI k) (nI m)) p2) Y (nI (p + 1)) = if gI Y 54 (8 * k + m') ≤ gI Y 54 (8 * k + m) then bk_X6_orders_107 rc7 Y (nI k) (nI m) (nI (p + 1)) else it2 (lq_X6_orders_51 rc7 (nI k) (nI m)) p2 (sI Y 58 (p + 1) (nI m')) (nI p) := by
      simp (disch := omega) only [lq_X6_orders_51, nx_e, ck_t, ck_ok, bd1_s, bd1_n, bd2_s, oc_n, oc_s, l_0, l_1, l_2, l_3, l_4, l_5, l_6, l_7, l_8, l_11, l_12, l_31, l_39, l_40, l_59, l_60, l_100, l_500, l_1000, l_4095, l_9999, m1_e, ix_nI, ile_t, ile_f, ilt_t, ilt_f, ieq_t, ieq_f, nI_add, pk_mul, nI_sub, ile_m1, ilt_m1, ieq_m1, imle_m1, imlt_m1, imeq_m1, imeq_s, ieq_s, ile_s, ilt_s, gI_s, gI_ne1, gI_ne2, gJ_s, gJ_ne1, gJ_ne2, gI_sJ, gJ_sI, ibI0, ibI1, bI_t, bI_f, decide_true, decide_false, and_self, and_true, true_and, and_false, false_and, reduceIte, if_true, if_false, Nat.add_sub_cancel, e_within, e_in, z3, nI_dec]
    show ∃ X' Y', lq_X0_putInLine_15 k (nI m) (it2 (lq_X0_putInLine_15 k (nI m)) p1) X (nI (p + 1)) = some X' ∧ lq_X6_orders_51 rc7 (nI k) (nI m) (it2 (lq_X6_orders_51 rc7 (nI k) (nI m)) p2) Y (nI (p + 1)) = rc7 Y' (nI (m + 1)) ∧ _
    rw [ex, ey]
    by_cases q : gI Y 54 (8 * k + m') ≤ gI Y 54 (8 * k + m)
    · rw [if_pos q, if_pos q, ins_x (by omega) e1, ins_y (by omega) e2]
      obtain ⟨s1, s2, s3⟩ := ins_stop hm hp h h1 h2
      refine ⟨_, _, rfl, rfl, ?_, ?_, s1, s2, s3⟩
      · unfold inX; simp (disch := omega) only [gI_s, gI_ne1, gI_ne2, gJ_s, gJ_ne1, gJ_ne2, gI_sJ, gJ_sI]
      · unfold inY; simp (disch := omega) only [gI_s, gI_ne1, gI_ne2, gJ_s, gJ_ne1, gJ_ne2, gI_sJ, gJ_sI]
    · rw [if_neg q, if_neg q]
      have h' : LnR k m L p (sI X (13 + 3 * k + 2) (p + 1) (nI m')) (sI Y 58 (p + 1) (nI m')) := by
        refine ⟨fun q q1 q2 => ?_, fun q q' q1 q2 q3 q4 q5 => ?_⟩
        · by_cases e : q = p + 1
          · subst e
            simp (disch := omega) only [gI_s, gI_ne1, gI_ne2, gJ_s, gJ_ne1, gJ_ne2, gI_sJ, gJ_sI, true_and]
            exact ⟨m', z2, rfl, z4, z5⟩
          · simp (disch := omega) only [gI_s, gI_ne1, gI_ne2, gJ_s, gJ_ne1, gJ_ne2, gI_sJ, gJ_sI]
            exact h.1 q q1 e
        · by_cases e : q = p + 1
          · subst e
            simp (disch := omega) only [gI_s, gI_ne1, gI_ne2, gJ_s, gJ_ne1, gJ_ne2, gI_sJ, gJ_sI]
            rw [← z3]
            exact h.2 p q' (by omega) q2 (by omega) (by omega) (by omega)
          · by_cases e' : q' = p + 1
            · subst e'
              simp (disch := omega) only [gI_s, gI_ne1, gI_ne2, gJ_s, gJ_ne1, gJ_ne2, gI_sJ, gJ_sI]
              rw [← z3]
              exact h.2 q p q1 (by omega) (by omega) (by omega) (by omega)
            · simp (disch := omega) only [gI_s, gI_ne1, gI_ne2, gJ_s, gJ_ne1, gJ_ne2, gI_sJ, gJ_sI]
              exact h.2 q q' q1 q2 e e' q5
      obtain ⟨X', Y', i1, i2, i3, i4, i5, i6, i7⟩ := ih (sI X (13 + 3 * k + 2) (p + 1) (nI m')) (sI Y 58 (p + 1) (nI m')) p1 p2 (by omega) (fun m' hm' => by simp (disch := omega) only [gI_s, gI_ne1, gI_ne2, gJ_s, gJ_ne1, gJ_ne2, gI_sJ, gJ_sI]; exact hc m' hm') (by simp (disch := omega) only [gI_s, gI_ne1, gI_ne2, gJ_s, gJ_ne1, gJ_ne2, gI_sJ, gJ_sI]; exact e1) (by simp (disch := omega) only [gI_s, gI_ne1, gI_ne2, gJ_s, gJ_ne1, gJ_ne2, gI_sJ, gJ_sI]; exact e2) h' (by simp (disch := omega) only [gI_s, gI_ne1, gI_ne2, gJ_s, gJ_ne1, gJ_ne2, gI_sJ, gJ_sI]; exact h1) (by simp (disch := omega) only [gI_s, gI_ne1, gI_ne2, gJ_s, gJ_ne1, gJ_ne2, gI_sJ, gJ_sI]; exact h2) (by omega) (by omega)
      refine ⟨X', Y', i1, i2, i3, i4, i5, FoX.tr ⟨fun i j a b => ?_, fun i j => ?_⟩ i6, FoY.tr ⟨fun i j a b => ?_, fun i j => ?_⟩ i7⟩
      · rw [gI_ne1 a]
      · rw [gJ_sI]
      · rw [gI_ne1 a]
      · rw [gJ_sI]
theorem up_tail {nm k : Nat} {X Y : Mem} (hm8 : nm ≤ 8) (hc : ∀ m, m < 8 → gI X (13 + 3 * k + 1) m = gI Y 54 (8 * k + m) ∧ (gI Y 54 (8 * k + m) = m1 ∨ (m < nm ∧ ∃ c, c ≤ 100 ∧ gI Y 54 (8 * k + m) = nI c))) : ∀ (d m n : Nat), m + d = 8 → nm ≤ m → d < n → it2 (lq_X0_lineUp_7 k) n X (nI m) = some X := by
  intro d
  induction d with
  | zero =>
    intro m n hd h1 hn
    obtain ⟨p, rfl⟩ : ∃ p, n = p + 1 := ⟨n - 1, by omega⟩
    obtain rfl : m = 8 := by omega
    show lq_X0_lineUp_7 k _ X (nI 8) = _
    unfold lq_X0_lineUp_7
    rw [if_pos (show (8 : Int32) ≤ nI 8 by decide)]
  | succ d ih =>
    intro m n hd h1 hn
    obtain ⟨p, rfl⟩ : ∃ p, n = p + 1 := ⟨n - 1, by omega⟩
    show lq_X0_lineUp_7 k _ X (nI m) = _
    have e : gI X (13 + 3 * k + 1) m = m1 := by
      rcases (hc m (by omega)).2 with z | ⟨z, -⟩
      · exact (hc m (by omega)).1.trans z
      · omega
    have : lq_X0_lineUp_7 k (it2 (lq_X0_lineUp_7 k) p) X (nI m) = it2 (lq_X0_lineUp_7 k) p X (nI (m + 1)) := by
      simp (disch := omega) only [lq_X0_lineUp_7, bk_X0_lineUp_36, nx_e, ck_t, ck_ok, bd1_s, bd1_n, bd2_s, oc_n, oc_s, l_0, l_1, l_2, l_3, l_4, l_5, l_6, l_7, l_8, l_11, l_12, l_31, l_39, l_40, l_59, l_60, l_100, l_500, l_1000, l_4095, l_9999, m1_e, ix_nI, ile_t, ile_f, ilt_t, ilt_f, ieq_t, ieq_f, nI_add, pk_mul, nI_sub, ile_m1, ilt_m1, ieq_m1, imle_m1, imlt_m1, imeq_m1, imeq_s, ieq_s, ile_s, ilt_s, gI_s, gI_ne1, gI_ne2, gJ_s, gJ_ne1, gJ_ne2, gI_sJ, gJ_sI, ibI0, ibI1, bI_t, bI_f, decide_true, decide_false, and_self, and_true, true_and, and_false, false_and, reduceIte, if_true, if_false, Nat.add_sub_cancel, e_within, e_in, e]
    rw [this]
    exact ih (m + 1) p (by omega) (by omega) (by omega)
theorem LnR_up {k m L : Nat} {X Y : Mem} (h : LnR k m L L X Y) : LnR k (m + 1) L L X Y := ⟨fun q q1 q2 => by obtain ⟨a, m', b, c⟩ := h.1 q q1 q2; exact ⟨a, m', by omega, c⟩, h.2⟩
theorem up_rel {nm w nf ns tl gr k : Nat} (hk : k < 6) : ∀ (d : Nat) (X Y : Mem) (m L n1 n2 : Nat), m + d = nm → Inb nm w nf ns tl gr (cb X Y) → L ≤ m → gI X (13 + 3 * k) 2 = nI L → gI Y 35 29 = nI L → LnR k m L L X Y → d + 9 < n1 → d < n2 →
    ∃ X' Y' L', it2 (lq_X0_lineUp_7 k) n1 X (nI m) = some X' ∧ it2 (lq_X6_orders_7 (nI k)) n2 Y (nI m) = some Y' ∧ L' ≤ nm ∧ gI X' (13 + 3 * k) 2 = nI L' ∧ gI Y' 35 29 = nI L' ∧ LnR k nm L' L' X' Y' ∧ FoX k X X' ∧ FoY Y Y' := by
  intro d
  induction d with
  | zero =>
    intro X Y m L n1 n2 hd h hL e1 e2 hl hn1 hn2
    obtain ⟨⟨a1, a2, a3, a4, a5, a6⟩, ⟨b1, b2, b3, b4, b5, b6⟩, c1, c2, c3, c4, c5, c6, c7⟩ := cbb_facts h
    obtain rfl : m = nm := by omega
    obtain ⟨p2, rfl⟩ : ∃ p, n2 = p + 1 := ⟨n2 - 1, by omega⟩
    refine ⟨X, Y, L, up_tail c1 (askb h hk).1 (8 - m) m n1 (by omega) (Nat.le_refl m) (by omega), ?_, hL, e1, e2, hl, FoX.rf, FoY.rf⟩
    show lq_X6_orders_7 (nI k) _ Y (nI m) = _
    unfold lq_X6_orders_7
    rw [b1, if_pos Int32.le_rfl]
  | succ d ih =>
    intro X Y m L n1 n2 hd h hL e1 e2 hl hn1 hn2
    obtain ⟨⟨a1, a2, a3, a4, a5, a6⟩, ⟨b1, b2, b3, b4, b5, b6⟩, c1, c2, c3, c4, c5, c6, c7⟩ := cbb_facts h
    obtain ⟨k1, k2, k3, k4, -⟩ := askb h hk
    obtain ⟨p1, rfl⟩ : ∃ p, n1 = p + 1 := ⟨n1 - 1, by omega⟩
    obtain ⟨p2, rfl⟩ : ∃ p, n2 = p + 1 := ⟨n2 - 1, by omega⟩
    have skip : ∀ (ex : lq_X0_lineUp_7 k (it2 (lq_X0_lineUp_7 k) p1) X (nI m) = it2 (lq_X0_lineUp_7 k) p1 X (nI (m + 1))) (ey : lq_X6_orders_7 (nI k) (it2 (lq_X6_orders_7 (nI k)) p2) Y (nI m) = it2 (lq_X6_orders_7 (nI k)) p2 Y (nI (m + 1))), ∃ X' Y' L', it2 (lq_X0_lineUp_7 k) (p1 + 1) X (nI m) = some X' ∧ it2 (lq_X6_orders_7 (nI k)) (p2 + 1) Y (nI m) = some Y' ∧ L' ≤ nm ∧ gI X' (13 + 3 * k) 2 = nI L' ∧ gI Y' 35 29 = nI L' ∧ LnR k nm L' L' X' Y' ∧ FoX k X X' ∧ FoY Y Y' := by
      intro ex ey
      obtain ⟨X', Y', L', i1, i2, i3⟩ := ih X Y (m + 1) L p1 p2 (by omega) h (by omega) e1 e2 (LnR_up hl) (by omega) (by omega)
      exact ⟨X', Y', L', ex.trans i1, ey.trans i2, i3⟩
    obtain ⟨k11, k12⟩ := k1 m (by omega)
    rcases k12 with ec | ⟨-, c, hc, ec⟩
    · refine skip ?_ ?_
      · simp (disch := omega) only [lq_X0_lineUp_7, bk_X0_lineUp_36, nx_e, ck_t, ck_ok, bd1_s, bd1_n, bd2_s, oc_n, oc_s, l_0, l_1, l_2, l_3, l_4, l_5, l_6, l_7, l_8, l_11, l_12, l_31, l_39, l_40, l_59, l_60, l_100, l_500, l_1000, l_4095, l_9999, m1_e, ix_nI, ile_t, ile_f, ilt_t, ilt_f, ieq_t, ieq_f, nI_add, pk_mul, nI_sub, ile_m1, ilt_m1, ieq_m1, imle_m1, imlt_m1, imeq_m1, imeq_s, ieq_s, ile_s, ilt_s, gI_s, gI_ne1, gI_ne2, gJ_s, gJ_ne1, gJ_ne2, gI_sJ, gJ_sI, ibI0, ibI1, bI_t, bI_f, decide_true, decide_false, and_self, and_true, true_and, and_false, false_and, reduceIte, if_true, if_false, Nat.add_sub_cancel, e_within, e_in, k11, ec]
      · simp (disch := omega) only [lq_X6_orders_7, bk_X6_orders_124, nx_e, ck_t, ck_ok, bd1_s, bd1_n, bd2_s, oc_n, oc_s, l_0, l_1, l_2, l_3, l_4, l_5, l_6, l_7, l_8, l_11, l_12, l_31, l_39, l_40, l_59, l_60, l_100, l_500, l_1000, l_4095, l_9999, m1_e, ix_nI, ile_t, ile_f, ilt_t, ilt_f, ieq_t, ieq_f, nI_add, pk_mul, nI_sub, ile_m1, ilt_m1, ieq_m1, imle_m1, imlt_m1, imeq_m1, imeq_s, ieq_s, ile_s, ilt_s, gI_s, gI_ne1, gI_ne2, gJ_s, gJ_ne1, gJ_ne2, gI_sJ, gJ_sI, ibI0, ibI1, bI_t, bI_f, decide_true, decide_false, and_self, and_true, true_and, and_false, false_and, reduceIte, if_true, if_false, Nat.add_sub_cancel, e_within, e_in, ec, b1]
    · cases hb : hbI (gI Y 57 k) m with
      | true =>
        refine skip ?_ ?_
        · simp (disch := omega) only [lq_X0_lineUp_7, bk_X0_lineUp_36, fn_X0_knowsAsBad, nx_e, ck_t, ck_ok, bd1_s, bd1_n, bd2_s, oc_n, oc_s, l_0, l_1, l_2, l_3, l_4, l_5, l_6, l_7, l_8, l_11, l_12, l_31, l_39, l_40, l_59, l_60, l_100, l_500, l_1000, l_4095, l_9999, m1_e, ix_nI, ile_t, ile_f, ilt_t, ilt_f, ieq_t, ieq_f, nI_add, pk_mul, nI_sub, ile_m1, ilt_m1, ieq_m1, imle_m1, imlt_m1, imeq_m1, imeq_s, ieq_s, ile_s, ilt_s, gI_s, gI_ne1, gI_ne2, gJ_s, gJ_ne1, gJ_ne2, gI_sJ, gJ_sI, ibI0, ibI1, bI_t, bI_f, decide_true, decide_false, and_self, and_true, true_and, and_false, false_and, reduceIte, if_true, if_false, Nat.add_sub_cancel, e_within, e_in, k11, ec, k4, e_isIn, hb]
        · simp (disch := omega) only [lq_X6_orders_7, bk_X6_orders_124, nx_e, ck_t, ck_ok, bd1_s, bd1_n, bd2_s, oc_n, oc_s, l_0, l_1, l_2, l_3, l_4, l_5, l_6, l_7, l_8, l_11, l_12, l_31, l_39, l_40, l_59, l_60, l_100, l_500, l_1000, l_4095, l_9999, m1_e, ix_nI, ile_t, ile_f, ilt_t, ilt_f, ieq_t, ieq_f, nI_add, pk_mul, nI_sub, ile_m1, ilt_m1, ieq_m1, imle_m1, imlt_m1, imeq_m1, imeq_s, ieq_s, ile_s, ilt_s, gI_s, gI_ne1, gI_ne2, gJ_s, gJ_ne1, gJ_ne2, gI_sJ, gJ_sI, ibI0, ibI1, bI_t, bI_f, decide_true, decide_false, and_self, and_true, true_and, and_false, false_and, reduceIte, if_true, if_false, Nat.add_sub_cancel, e_within, e_in, ec, b1, e_shr2, hb]
      | false =>
        obtain ⟨X1, Y1, j1, j2, j3, j4, j5, j6, j7⟩ := ins_rel (rc7 := it2 (lq_X6_orders_7 (nI k)) p2) hk (show m < 8 by omega) (show L < 8 by omega) L X Y FU FU (Nat.le_refl L) (fun m' hm' => (k1 m' hm').1) e1 e2 hl (by rw [ec]; exact nI_ne_m1 (by omega)) hb (by show L < 1000; omega) (by show L < 1000; omega)
        obtain ⟨X', Y', L', i1, i2, i3, i4, i5, i6, i7, i8⟩ := ih X1 Y1 (m + 1) (L + 1) p1 p2 (by omega) (inb_fo hk h j6 j7) (by omega) j3 j4 j5 (by omega) (by omega)
        refine ⟨X', Y', L', ?_, ?_, i3, i4, i5, i6, j6.tr i7, j7.tr i8⟩
        · show lq_X0_lineUp_7 k (it2 (lq_X0_lineUp_7 k) p1) X (nI m) = _
          have ep : fn_X0_putInLine X k (nI m) = some X1 := by
            unfold fn_X0_putInLine
            rw [e1, if_pos (show nI L < (8 : Int32) from nI_lt (b := 8) (by omega) (by omega)), nx_e]
            exact j1
          have : lq_X0_lineUp_7 k (it2 (lq_X0_lineUp_7 k) p1) X (nI m) = it2 (lq_X0_lineUp_7 k) p1 X1 (nI (m + 1)) := by
            simp (disch := omega) only [lq_X0_lineUp_7, bk_X0_lineUp_36, fn_X0_knowsAsBad, nx_e, ck_t, ck_ok, bd1_s, bd1_n, bd2_s, oc_n, oc_s, l_0, l_1, l_2, l_3, l_4, l_5, l_6, l_7, l_8, l_11, l_12, l_31, l_39, l_40, l_59, l_60, l_100, l_500, l_1000, l_4095, l_9999, m1_e, ix_nI, ile_t, ile_f, ilt_t, ilt_f, ieq_t, ieq_f, nI_add, pk_mul, nI_sub, ile_m1, ilt_m1, ieq_m1, imle_m1, imlt_m1, imeq_m1, imeq_s, ieq_s, ile_s, ilt_s, gI_s, gI_ne1, gI_ne2, gJ_s, gJ_ne1, gJ_ne2, gI_sJ, gJ_sI, ibI0, ibI1, bI_t, bI_f, decide_true, decide_false, and_self, and_true, true_and, and_false, false_and, reduceIte, if_true, if_false, Nat.add_sub_cancel, e_within, e_in, k11, ec, k4, e_isIn, hb, ep, Bool.false_eq_true]
          rw [this]
          exact i1
        · show lq_X6_orders_7 (nI k) (it2 (lq_X6_orders_7 (nI k)) p2) Y (nI m) = _
          have : lq_X6_orders_7 (nI k) (it2 (lq_X6_orders_7 (nI k)) p2) Y (nI m) = it2 (lq_X6_orders_51 (it2 (lq_X6_orders_7 (nI k)) p2) (nI k) (nI m)) FU Y (nI L) := by
            simp (disch := omega) only [lq_X6_orders_7, bk_X6_orders_124, nx_e, ck_t, ck_ok, bd1_s, bd1_n, bd2_s, oc_n, oc_s, l_0, l_1, l_2, l_3, l_4, l_5, l_6, l_7, l_8, l_11, l_12, l_31, l_39, l_40, l_59, l_60, l_100, l_500, l_1000, l_4095, l_9999, m1_e, ix_nI, ile_t, ile_f, ilt_t, ilt_f, ieq_t, ieq_f, nI_add, pk_mul, nI_sub, ile_m1, ilt_m1, ieq_m1, imle_m1, imlt_m1, imeq_m1, imeq_s, ieq_s, ile_s, ilt_s, gI_s, gI_ne1, gI_ne2, gJ_s, gJ_ne1, gJ_ne2, gI_sJ, gJ_sI, ibI0, ibI1, bI_t, bI_f, decide_true, decide_false, and_self, and_true, true_and, and_false, false_and, reduceIte, if_true, if_false, Nat.add_sub_cancel, e_within, e_in, ec, b1, e_shr2, hb, e2, Bool.false_eq_true]
          rw [this, j2]
          exact i2
theorem line_rel {nm w nf ns tl gr k : Nat} {X Y : Mem} (hk : k < 6) (h : Inb nm w nf ns tl gr (cb X Y)) : ∃ X' Y' L, fn_X0_lineUp X k = some X' ∧ fn_X6_orders Y (nI k) = some Y' ∧ L ≤ nm ∧ gI X' (13 + 3 * k) 2 = nI L ∧ gI Y' 35 29 = nI L ∧ LnR k nm L L X' Y' ∧ FoX k X X' ∧ FoY Y Y' := by
  have c1 : nm ≤ 8 := h.1.2.2.1
  have f1 : FoX k X (sI X (13 + 3 * k) 2 (nI 0)) := by
    refine ⟨fun i j a b => ?_, fun i j => rfl⟩
    by_cases e : i = 13 + 3 * k
    · subst e
      rw [gI_ne2 (by omega)]
    · rw [gI_ne1 e]
  have f2 : FoY Y (sI Y 35 29 (nI 0)) := by
    refine ⟨fun i j a b => ?_, fun i j => rfl⟩
    by_cases e : i = 35
    · subst e
      rw [gI_ne2 (by omega)]
    · rw [gI_ne1 e]
  obtain ⟨X', Y', L, i1, i2, i3, i4, i5, i6, i7, i8⟩ := up_rel hk nm (sI X (13 + 3 * k) 2 (nI 0)) (sI Y 35 29 (nI 0)) 0 0 FU FU (by omega) (inb_fo hk h f1 f2) (Nat.le_refl 0) (gI_s _ _ _ _) (gI_s _ _ _ _) ⟨fun q q1 q2 => by omega, fun q q' q1 q2 q3 => by omega⟩ (by show nm + 9 < 1000; omega) (by show nm < 1000; omega)
  exact ⟨X', Y', L, i1, i2, i3, i4, i5, i6, f1.tr i7, f2.tr i8⟩
