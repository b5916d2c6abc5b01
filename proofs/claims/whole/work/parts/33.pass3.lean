theorem iabt {α : Type} {y : Int64} {f : Nat} {A B : α} (h : f < 64) : (if y &&& bt f = 0 then A else B) = if hb y f = true then B else A := by
  by_cases q : hb y f = true
  · rw [if_pos q, if_neg (fun z => by rw [and_bt h] at z; rw [z] at q; cases q)]
  · rw [if_neg q, if_pos ((and_bt h).mpr (by cases z : hb y f with | true => exact absurd z q | false => rfl))]
theorem cn_pos {p : Nat → Bool} {f : Nat} (h : p f = true) : ∀ n, f < n → 1 ≤ cn p n
  | 0, hf => by omega
  | n + 1, hf => by
    rw [cn]
    by_cases e : f = n
    · subst e; rw [h]; simp
    · have := cn_pos h n (by omega); omega
theorem lackX {X : Mem} {nm w nf ns tl gr m t f : Nat} {Y : Mem} (h : Inw nm w nf ns tl gr (cb X Y)) (ht : t < ns) (hf : f < 60) (h1 : mis X m t f = true) (h2 : ∀ g, g < f → mis X m t g = false) : fn_X5_leastOf (gJ X 5 t &&& ((gJ X (62 + 2 * m) 6) ^^^ (-1))) = some (nI f) := by
  refine e_leastOf (by omega) ?_ (fun g hg => ?_)
  · rw [hb_and, hb_not _ (by omega)]; exact h1
  · rw [hb_and, hb_not _ (by omega)]; exact h2 g hg
theorem copy_x {X Y : Mem} {nm w nf ns tl gr m t f s L k : Nat} {y2 : Int64} (h : Inw nm w nf ns tl gr (cb X Y)) (ht : t < ns) (et : gI X (62 + 2 * m) 5 = nI t) (hf : f < 60) (h1 : mis X m t f = true) (h2 : ∀ g, g < f → mis X m t g = false) (es : gI X 2 f = nI s) (hL : 1 ≤ L) (hL2 : L ≤ 1000) (hk : k < 60) (rc : Mem → Int32 → Int32 → Option Mem) :
    lq_X3_copyFiles_9 m y2 rc X (nI L) (nI k) = if hb y2 f = true then bd2 (fn_X3_takeBytes X m (nI f) (nI s) (nI L)) (fun r M6 => rc M6 (nI L - r) (nI (k + 1))) else some (sI (sI X (62 + 2 * m) 5 m1) (62 + 2 * m) 7 (nI 0)) := by
  obtain ⟨⟨a1, a2, a3, a4, a5, a6⟩, -, c1, c2, c3, c4, c5, c6, c7⟩ := cb_facts h
  have hne : ¬ (gJ X 5 t &&& ((gJ X (62 + 2 * m) 6) ^^^ (-1))) = 0 := by
    rw [mis_0 h ht]
    intro q
    rw [q f hf] at h1
    cases h1
  have hfn := mis_nf h ht hf h1
  simp (disch := omega) only [lq_X3_copyFiles_9, nx_e, ck_t, ck_ok, bd1_s, bd1_n, bd2_s, oc_n, oc_s, l_0, l_1, l_2, l_3, l_4, l_5, l_6, l_7, l_8, l_11, l_12, l_31, l_39, l_40, l_59, l_60, l_100, l_500, l_1000, l_4095, l_9999, m1_e, ix_nI, ile_t, ile_f, ilt_t, ilt_f, ieq_t, ieq_f, nI_add, pk_mul, nI_sub, ile_m1, ilt_m1, ieq_m1, imle_m1, imlt_m1, imeq_m1, imeq_s, ieq_s, ile_s, ilt_s, gI_s, gI_ne1, gI_ne2, gJ_s, gJ_ne1, gJ_ne2, gI_sJ, gJ_sI, ibI0, ibI1, bI_t, bI_f, decide_true, decide_false, and_self, and_true, true_and, and_false, false_and, reduceIte, if_true, if_false, Nat.add_sub_cancel, e_within, e_in, ex_missing a4 c5 ht et, icmp0, hne, lackX h ht hf h1 h2, e_bitOf, iabt, ex_sizeOf a3 c3 hfn, es]
theorem copy_y {X Y : Mem} {nm w nf ns tl gr m t f L : Nat} {y2 : Int64} (h : Inw nm w nf ns tl gr (cb X Y)) (hm : m < nm) (ht : t < ns) (et : gI Y 44 m = nI t) (hO : Off Y nf m y2) (hf : f < 60) (h1 : mis X m t f = true) (h2 : ∀ g, g < f → mis X m t g = false) (hL : 1 ≤ L) (hL2 : L ≤ 1000) (rc : Mem → Int32 → Option (Int32 × Mem)) :
    lq_X6_copies_7 (nI m) rc Y (nI L) = if hb y2 f = true then bk_X6_copies_67 rc Y (nI m) (nI L) (nI f) else some (nI 0, sI (sI Y 44 m m1) 45 m (nI 0)) := by
  obtain ⟨-, ⟨b1, b2, b3, b4, b5, b6⟩, c1, c2, c3, c4, c5, c6, c7⟩ := cb_facts h
  have hfn := mis_nf h ht hf h1
  have hl : fn_X6_lacking Y (nI m) = some (nI f) := ey_lack_y b3 c3 (by omega) (by omega) et hfn (by rw [mis_lck h hm ht hf]; exact h1) (fun g hg => by rw [mis_lck h hm ht (by omega)]; exact h2 g hg)
  rcases hO with ⟨o1, o2⟩ | ⟨j, hj, o1, o2⟩
  · rw [o2 f hfn, if_pos rfl]
    simp (disch := omega) only [lq_X6_copies_7, nx_e, ck_t, ck_ok, bd1_s, bd1_n, bd2_s, oc_n, oc_s, l_0, l_1, l_2, l_3, l_4, l_5, l_6, l_7, l_8, l_11, l_12, l_31, l_39, l_40, l_59, l_60, l_100, l_500, l_1000, l_4095, l_9999, m1_e, ix_nI, ile_t, ile_f, ilt_t, ilt_f, ieq_t, ieq_f, nI_add, pk_mul, nI_sub, ile_m1, ilt_m1, ieq_m1, imle_m1, imlt_m1, imeq_m1, imeq_s, ieq_s, ile_s, ilt_s, gI_s, gI_ne1, gI_ne2, gJ_s, gJ_ne1, gJ_ne2, gI_sJ, gJ_sI, ibI0, ibI1, bI_t, bI_f, decide_true, decide_false, and_self, and_true, true_and, and_false, false_and, reduceIte, if_true, if_false, Nat.add_sub_cancel, e_within, e_in, hl, o1]
  · simp (disch := omega) only [lq_X6_copies_7, nx_e, ck_t, ck_ok, bd1_s, bd1_n, bd2_s, oc_n, oc_s, l_0, l_1, l_2, l_3, l_4, l_5, l_6, l_7, l_8, l_11, l_12, l_31, l_39, l_40, l_59, l_60, l_100, l_500, l_1000, l_4095, l_9999, m1_e, ix_nI, ile_t, ile_f, ilt_t, ilt_f, ieq_t, ieq_f, nI_add, pk_mul, nI_sub, ile_m1, ilt_m1, ieq_m1, imle_m1, imlt_m1, imeq_m1, imeq_s, ieq_s, ile_s, ilt_s, gI_s, gI_ne1, gI_ne2, gJ_s, gJ_ne1, gJ_ne2, gI_sJ, gJ_sI, ibI0, ibI1, bI_t, bI_f, decide_true, decide_false, and_self, and_true, true_and, and_false, false_and, reduceIte, if_true, if_false, Nat.add_sub_cancel, e_within, e_in, hl, o1, o2]
/-- no bytes to go -/
theorem copy_x0 {X : Mem} {m k : Nat} {y2 : Int64} (n : Nat) (hk : k ≤ 60) : it3 (lq_X3_copyFiles_9 m y2) (n + 1) X (nI 0) (nI k) = some X := by
  show lq_X3_copyFiles_9 m y2 _ X (nI 0) (nI k) = some X
  unfold lq_X3_copyFiles_9
  rw [if_pos (show nI 0 ≤ (0 : Int32) by decide)]
  split <;> rfl
theorem copy_y0 {Y : Mem} {m : Nat} (n : Nat) : it2 (lq_X6_copies_7 (nI m)) (n + 1) Y (nI 0) = some (bI true, Y) := by
  show lq_X6_copies_7 (nI m) _ Y (nI 0) = _
  unfold lq_X6_copies_7
  rw [if_pos (show nI 0 ≤ (0 : Int32) by decide)]
  rfl
theorem copy_none {X Y : Mem} {nm w nf ns tl gr m t L k n1 n2 : Nat} {y2 : Int64} (h : Inw nm w nf ns tl gr (cb X Y)) (hm : m < nm) (ht : t < ns) (et : gI X (62 + 2 * m) 5 = nI t) (h0 : ∀ f, f < 60 → mis X m t f = false) (hL2 : L ≤ 1000) (hk : k ≤ 60) : it3 (lq_X3_copyFiles_9 m y2) (n1 + 1) X (nI L) (nI k) = some X ∧ it2 (lq_X6_copies_7 (nI m)) (n2 + 1) Y (nI L) = some (bI true, Y) := by
  obtain ⟨⟨a1, a2, a3, a4, a5, a6⟩, ⟨b1, b2, b3, b4, b5, b6⟩, c1, c2, c3, c4, c5, c6, c7⟩ := cb_facts h
  have ety : gI Y 44 m = nI t := (mir h hm).1.2.2.2.2.1.symm.trans et
  have hl : fn_X6_lacking Y (nI m) = some m1 := ey_lack_n b3 c3 (by omega) (by omega) ety (fun g hg => by rw [mis_lck h hm ht (by omega)]; exact h0 g (by omega))
  by_cases q : L = 0
  · subst q
    exact ⟨copy_x0 n1 hk, copy_y0 n2⟩
  · constructor
    · show lq_X3_copyFiles_9 m y2 _ X (nI L) (nI k) = some X
      by_cases q2 : k = 60
      · subst q2
        unfold lq_X3_copyFiles_9
        rw [if_pos (show (60 : Int32) ≤ nI 60 by decide)]
      · have hz := (mis_0 h ht (m := m)).mpr h0
        simp (disch := omega) only [lq_X3_copyFiles_9, nx_e, ck_t, ck_ok, bd1_s, bd1_n, bd2_s, oc_n, oc_s, l_0, l_1, l_2, l_3, l_4, l_5, l_6, l_7, l_8, l_11, l_12, l_31, l_39, l_40, l_59, l_60, l_100, l_500, l_1000, l_4095, l_9999, m1_e, ix_nI, ile_t, ile_f, ilt_t, ilt_f, ieq_t, ieq_f, nI_add, pk_mul, nI_sub, ile_m1, ilt_m1, ieq_m1, imle_m1, imlt_m1, imeq_m1, imeq_s, ieq_s, ile_s, ilt_s, gI_s, gI_ne1, gI_ne2, gJ_s, gJ_ne1, gJ_ne2, gI_sJ, gJ_sI, ibI0, ibI1, bI_t, bI_f, decide_true, decide_false, and_self, and_true, true_and, and_false, false_and, reduceIte, if_true, if_false, Nat.add_sub_cancel, e_within, e_in, ex_missing a4 c5 ht et, icmp0, hz]
    · show lq_X6_copies_7 (nI m) _ Y (nI L) = _
      unfold lq_X6_copies_7
      rw [if_neg (show ¬ nI L ≤ (0 : Int32) from nI_ge (a := 0) (by omega) (by omega)), hl, bd1_s, if_neg (show ¬ (0 : Int32) ≤ m1 by decide)]
      rfl
theorem copy_rel {nm w nf ns tl gr m t : Nat} {y2 : Int64} (hm : m < nm) (ht : t < ns) : ∀ (N : Nat) (X Y : Mem) (L k n1 n2 : Nat), Inw nm w nf ns tl gr (cb X Y) → gI X (62 + 2 * m) 5 = nI t → Off Y nf m y2 → cn (mis X m t) 60 ≤ N → N + k ≤ 60 → L ≤ 1000 → N + 1 < n1 → N + 1 < n2 →
    ∃ X' Y' r, it3 (lq_X3_copyFiles_9 m y2) n1 X (nI L) (nI k) = some X' ∧ it2 (lq_X6_copies_7 (nI m)) n2 Y (nI L) = some (bI r, Y') ∧ Inw nm w nf ns tl gr (cb X' Y') ∧ FX X X' ∧ FY Y Y' ∧ (r = true → gI X' (62 + 2 * m) 5 = nI t) ∧ (r = false → gI X' (62 + 2 * m) 5 = m1) := by
  intro N
  induction N with
  | zero =>
    intro X Y L k n1 n2 h et hO hc hk hL hn1 hn2
    have h0 : ∀ f, f < 60 → mis X m t f = false := by
      intro f hf
      cases q : mis X m t f with
      | false => rfl
      | true => have := cn_pos q 60 hf; omega
    obtain ⟨p1, rfl⟩ : ∃ p, n1 = p + 1 := ⟨n1 - 1, by omega⟩
    obtain ⟨p2, rfl⟩ : ∃ p, n2 = p + 1 := ⟨n2 - 1, by omega⟩
    obtain ⟨e1, e2⟩ := copy_none (n1 := p1) (n2 := p2) (y2 := y2) h hm ht et h0 hL (show k ≤ 60 by omega)
    exact ⟨X, Y, true, e1, e2, h, FX.rf, FY.rf, fun _ => et, fun z => (by cases z)⟩
  | succ N ih =>
    intro X Y L k n1 n2 h et hO hc hk hL hn1 hn2
    obtain ⟨p1, rfl⟩ : ∃ p, n1 = p + 1 := ⟨n1 - 1, by omega⟩
    obtain ⟨p2, rfl⟩ : ∃ p, n2 = p + 1 := ⟨n2 - 1, by omega⟩
    by_cases hex : ∃ f, f < 60 ∧ mis X m t f = true
    · by_cases qL : L = 0
      · subst qL
        exact ⟨X, Y, true, copy_x0 p1 (by omega), copy_y0 p2, h, FX.rf, FY.rf, fun _ => et, fun z => (by cases z)⟩
      · obtain ⟨f, hf, g1, g2⟩ := least_ex hex
        obtain ⟨⟨a1, a2, a3, a4, a5, a6⟩, ⟨b1, b2, b3, b4, b5, b6⟩, c1, c2, c3, c4, c5, c6, c7⟩ := cb_facts h
        obtain ⟨⟨m1', m2, m3, m5, m6, m7, m8, m9⟩, ⟨n1', n2'⟩, n3, n4⟩ := mir h hm
        have hfn := mis_nf h ht hf g1
        have g1' : hb (gJ X 5 t) f = true ∧ hb (gJ X (62 + 2 * m) 6) f = false := by
          unfold mis at g1
          rw [Bool.and_eq_true] at g1
          refine ⟨g1.1, ?_⟩
          cases q : hb (gJ X (62 + 2 * m) 6) f with
          | false => rfl
          | true => rw [q] at g1; exact absurd g1.2 (by decide)
        obtain ⟨z1, s, s1, s2, z2⟩ := h.2.1.1 f hfn
        rw [cb_x (by omega), cb_y (by omega) (by omega)] at z1
        rw [cb_y (by omega) (by omega)] at z2
        have es : gI X 2 f = nI s := z1.trans z2
        have ety : gI Y 44 m = nI t := m6.symm.trans et
        obtain ⟨d, hd, ed, hds⟩ : ∃ d, d ≤ 500 ∧ gI Y 45 m = nI d ∧ d < s := by
          rcases n4 with ⟨q, -⟩ | ⟨t', d, q1, q2, q3, q4, q5⟩
          · rw [ety] at q
            exact absurd q (nI_ne_m1 (by omega))
          · rw [ety] at q2
            have e0 : t = t' := (nI_eq (by omega) (by omega)).mp q2
            subst e0
            refine ⟨d, q3, q4, ?_⟩
            rcases q5 with rfl | ⟨f', s', w1, w2, w3, w4, w5, w6⟩
            · omega
            · have ef : f' = f := by
                rcases Nat.lt_trichotomy f' f with z | z | z
                · have := g2 f' z
                  unfold mis at this
                  rw [w2, w3] at this
                  cases this
                · exact z
                · have := w4 f z g1'.1
                  rw [g1'.2] at this
                  cases this
              subst ef
              rw [z2] at w5
              have := (nI_eq (by omega) (by omega)).mp w5
              omega
        have edx : gI X (62 + 2 * m) 7 = nI d := m7.trans ed
        have cx := copy_x (y2 := y2) h ht et hf g1 g2 es (show 1 ≤ L by omega) hL (show k < 60 by omega) (it3 (lq_X3_copyFiles_9 m y2) p1)
        have cy := copy_y h hm ht ety hO hf g1 g2 (show 1 ≤ L by omega) hL (it2 (lq_X6_copies_7 (nI m)) p2)
        show ∃ X' Y' r, lq_X3_copyFiles_9 m y2 (it3 (lq_X3_copyFiles_9 m y2) p1) X (nI L) (nI k) = some X' ∧ lq_X6_copies_7 (nI m) (it2 (lq_X6_copies_7 (nI m)) p2) Y (nI L) = some (bI r, Y') ∧ _
        rw [cx, cy]
        cases ho : hb y2 f with
        | false =>
          rw [if_neg (by decide), if_neg (by decide)]
          refine ⟨_, _, false, rfl, rfl, ?_, ?_, ?_, fun z => (by cases z), fun _ => (by simp (disch := omega) only [gI_s, gI_ne1, gI_ne2, gJ_s, gJ_ne1, gJ_ne2, gI_sJ, gJ_sI])⟩
          · refine inw_mirror h hm (fun i j q1 q2 q3 => (by simp (disch := omega) only [gI_s, gI_ne1, gI_ne2, gJ_s, gJ_ne1, gJ_ne2, gI_sJ, gJ_sI])) (fun i j q1 => (by simp (disch := omega) only [gI_s, gI_ne1, gI_ne2, gJ_s, gJ_ne1, gJ_ne2, gI_sJ, gJ_sI])) (fun i j q1 q2 q3 => (by simp (disch := omega) only [gI_s, gI_ne1, gI_ne2, gJ_s, gJ_ne1, gJ_ne2, gI_sJ, gJ_sI])) (fun i j q1 q2 q3 q4 q5 => (by simp (disch := omega) only [gI_s, gI_ne1, gI_ne2, gJ_s, gJ_ne1, gJ_ne2, gI_sJ, gJ_sI])) (fun m' f q1 q2 => (by simp (disch := omega) only [gI_s, gI_ne1, gI_ne2, gJ_s, gJ_ne1, gJ_ne2, gI_sJ, gJ_sI])) (fun m' k q1 q2 => (by simp (disch := omega) only [gI_s, gI_ne1, gI_ne2, gJ_s, gJ_ne1, gJ_ne2, gI_sJ, gJ_sI])) (mir_mk ⟨?_, ?_, ?_, ?_⟩)
            · simp (disch := omega) only [gI_s, gI_ne1, gI_ne2, gJ_s, gJ_ne1, gJ_ne2, gI_sJ, gJ_sI, true_and]
              exact ⟨m1', m2, m3, m5, m8, m9⟩
            · simp (disch := omega) only [gI_s, gI_ne1, gI_ne2, gJ_s, gJ_ne1, gJ_ne2, gI_sJ, gJ_sI]
              exact ⟨n1', n2'⟩
            · simp (disch := omega) only [gI_s, gI_ne1, gI_ne2, gJ_s, gJ_ne1, gJ_ne2, gI_sJ, gJ_sI]
              exact n3
            · refine Or.inl ⟨?_, ?_⟩ <;> simp (disch := omega) only [gI_s, gI_ne1, gI_ne2, gJ_s, gJ_ne1, gJ_ne2, gI_sJ, gJ_sI]
          · intro i j q1 q2
            simp (disch := omega) only [gI_s, gI_ne1, gI_ne2, gJ_s, gJ_ne1, gJ_ne2, gI_sJ, gJ_sI]
          · refine ⟨fun i j q => ?_, fun i j => ?_⟩ <;> simp (disch := omega) only [gI_s, gI_ne1, gI_ne2, gJ_s, gJ_ne1, gJ_ne2, gI_sJ, gJ_sI]
        | true =>
          rw [if_pos rfl, if_pos rfl]
          by_cases qf : s - d ≤ L
          · rw [ex_full hf edx rfl hds s2 qf hL, bd2_s, ey_full (by omega) hf z2 ed rfl hds s2 qf hL, nI_sub qf]
            obtain ⟨X1, eX1⟩ : ∃ X1, X1 = sI (sJ (sI (sI X (62 + 2 * m) 8 (gI X (62 + 2 * m) 8 + nI (s - d))) (62 + 2 * m) 7 (nI s)) (62 + 2 * m) 6 (gJ X (62 + 2 * m) 6 ||| bt f)) (62 + 2 * m) 7 (nI 0) := ⟨_, rfl⟩
            obtain ⟨Y1, eY1⟩ : ∃ Y1, Y1 = sI (sI (sI (sI Y 45 m (nI s)) 46 m (gI Y 46 m + nI (s - d))) 48 (60 * m + f) (nI 1)) 45 m (nI 0) := ⟨_, rfl⟩
            rw [← eX1, ← eY1]
            have hfx : FX X X1 := by
              intro i j q1 q2
              rw [eX1]
              simp (disch := omega) only [gI_s, gI_ne1, gI_ne2, gJ_s, gJ_ne1, gJ_ne2, gI_sJ, gJ_sI]
            have hfy : FY Y Y1 := by
              rw [eY1]
              refine ⟨fun i j q => ?_, fun i j => ?_⟩ <;> simp (disch := omega) only [gI_s, gI_ne1, gI_ne2, gJ_s, gJ_ne1, gJ_ne2, gI_sJ, gJ_sI]
            have et1 : gI X1 (62 + 2 * m) 5 = nI t := by rw [eX1]; simp (disch := omega) only [gI_s, gI_ne1, gI_ne2, gJ_s, gJ_ne1, gJ_ne2, gI_sJ, gJ_sI]; exact et
            have J6 : gJ X1 (62 + 2 * m) 6 = gJ X (62 + 2 * m) 6 ||| bt f := by rw [eX1]; simp (disch := omega) only [gI_s, gI_ne1, gI_ne2, gJ_s, gJ_ne1, gJ_ne2, gI_sJ, gJ_sI]
            have J5 : ∀ u, gJ X1 5 u = gJ X 5 u := by intro u; rw [eX1]; simp (disch := omega) only [gI_s, gI_ne1, gI_ne2, gJ_s, gJ_ne1, gJ_ne2, gI_sJ, gJ_sI]
            have h1 : Inw nm w nf ns tl gr (cb X1 Y1) := by
              refine inw_mirror h hm (fun i j q1 q2 q3 => by rw [eX1]; simp (disch := omega) only [gI_s, gI_ne1, gI_ne2, gJ_s, gJ_ne1, gJ_ne2, gI_sJ, gJ_sI]) (fun i j q1 => by rw [eX1]; simp (disch := omega) only [gI_s, gI_ne1, gI_ne2, gJ_s, gJ_ne1, gJ_ne2, gI_sJ, gJ_sI]) (fun i j q1 q2 q3 => by rw [eY1]; simp (disch := omega) only [gI_s, gI_ne1, gI_ne2, gJ_s, gJ_ne1, gJ_ne2, gI_sJ, gJ_sI]) (fun i j q1 q2 q3 q4 q5 => by rw [eY1]; simp (disch := omega) only [gI_s, gI_ne1, gI_ne2, gJ_s, gJ_ne1, gJ_ne2, gI_sJ, gJ_sI]) (fun m' f' q1 q2 => by rw [eY1]; simp (disch := omega) only [gI_s, gI_ne1, gI_ne2, gJ_s, gJ_ne1, gJ_ne2, gI_sJ, gJ_sI]) (fun m' k' q1 q2 => by rw [eY1]; simp (disch := omega) only [gI_s, gI_ne1, gI_ne2, gJ_s, gJ_ne1, gJ_ne2, gI_sJ, gJ_sI]) (mir_mk ⟨?_, ⟨fun f' hf' => ?_, fun f' hf' => ?_⟩, ?_, ?_⟩)
              · rw [eX1, eY1]
                simp (disch := omega) only [gI_s, gI_ne1, gI_ne2, gJ_s, gJ_ne1, gJ_ne2, gI_sJ, gJ_sI, true_and]
                exact ⟨m1', m2, m3, m5, m6, by rw [m8], m9⟩
              · rw [J6, hb_or, hb_bt (by omega), eY1]
                by_cases e : f' = f
                · subst e
                  rw [decide_eq_true rfl, Bool.or_true]
                  simp (disch := omega) only [gI_s, gI_ne1, gI_ne2, gJ_s, gJ_ne1, gJ_ne2, gI_sJ, gJ_sI]
                  rfl
                · rw [decide_eq_false e, Bool.or_false]
                  simp (disch := omega) only [gI_s, gI_ne1, gI_ne2, gJ_s, gJ_ne1, gJ_ne2, gI_sJ, gJ_sI]
                  exact n1' f' hf'
              · rw [J6, hb_or, hb_bt (by omega), decide_eq_false (by omega), Bool.or_false]
                exact n2' f' hf'
              · rw [eX1, eY1]
                simp (disch := omega) only [gI_s, gI_ne1, gI_ne2, gJ_s, gJ_ne1, gJ_ne2, gI_sJ, gJ_sI]
                exact n3
              · refine Or.inr ⟨t, 0, ht, ?_, by omega, ?_, Or.inl rfl⟩
                · rw [eY1]; simp (disch := omega) only [gI_s, gI_ne1, gI_ne2, gJ_s, gJ_ne1, gJ_ne2, gI_sJ, gJ_sI]; exact ety
                · rw [eY1]; simp (disch := omega) only [gI_s, gI_ne1, gI_ne2, gJ_s, gJ_ne1, gJ_ne2, gI_sJ, gJ_sI]
            have hO1 : Off Y1 nf m y2 := by
              rcases hO with ⟨o1, o2⟩ | ⟨j, hj, o1, o2⟩
              · refine Or.inl ⟨?_, o2⟩
                rw [eY1]; simp (disch := omega) only [gI_s, gI_ne1, gI_ne2, gJ_s, gJ_ne1, gJ_ne2, gI_sJ, gJ_sI]; exact o1
              · refine Or.inr ⟨j, hj, ?_, fun f' hf' => ?_⟩
                · rw [eY1]; simp (disch := omega) only [gI_s, gI_ne1, gI_ne2, gJ_s, gJ_ne1, gJ_ne2, gI_sJ, gJ_sI]; exact o1
                · rw [eY1]; simp (disch := omega) only [gI_s, gI_ne1, gI_ne2, gJ_s, gJ_ne1, gJ_ne2, gI_sJ, gJ_sI]; exact o2 f' hf'
            have hc1 : cn (mis X1 m t) 60 ≤ N := by
              have : cn (mis X1 m t) 60 + 1 = cn (mis X m t) 60 := by
                refine cn_less g1 ?_ (fun g hg => ?_) 60 hf
                · unfold mis
                  rw [J6, hb_or, hb_bt (by omega), decide_eq_true rfl, Bool.or_true]
                  simp
                · unfold mis
                  rw [J6, J5, hb_or, hb_bt (by omega), decide_eq_false hg, Bool.or_false]
              omega
            obtain ⟨X', Y', r, i1, i2, i3, i4, i5, i6⟩ := ih X1 Y1 (L - (s - d)) (k + 1) p1 p2 h1 et1 hO1 hc1 (by omega) (by omega) (by omega) (by omega)
            exact ⟨X', Y', r, i1, i2, i3, hfx.tr i4, hfy.tr i5, i6⟩
          · rw [ex_part edx rfl s2 (show L < s - d by omega), bd2_s, ey_part (by omega) hf z2 ed rfl s2 (show L < s - d by omega), nI_sub (Nat.le_refl L), Nat.sub_self]
            obtain ⟨q1, rfl⟩ : ∃ q, p1 = q + 1 := ⟨p1 - 1, by omega⟩
            obtain ⟨q2, rfl⟩ : ∃ q, p2 = q + 1 := ⟨p2 - 1, by omega⟩
            refine ⟨_, _, true, copy_x0 q1 (by omega), copy_y0 q2, ?_, ?_, ?_, fun _ => ?_, fun z => (by cases z)⟩
            · refine inw_mirror h hm (fun i j q1 q2 q3 => (by simp (disch := omega) only [gI_s, gI_ne1, gI_ne2, gJ_s, gJ_ne1, gJ_ne2, gI_sJ, gJ_sI])) (fun i j q1 => (by simp (disch := omega) only [gI_s, gI_ne1, gI_ne2, gJ_s, gJ_ne1, gJ_ne2, gI_sJ, gJ_sI])) (fun i j q1 q2 q3 => (by simp (disch := omega) only [gI_s, gI_ne1, gI_ne2, gJ_s, gJ_ne1, gJ_ne2, gI_sJ, gJ_sI])) (fun i j q1 q2 q3 q4 q5 => (by simp (disch := omega) only [gI_s, gI_ne1, gI_ne2, gJ_s, gJ_ne1, gJ_ne2, gI_sJ, gJ_sI])) (fun m' f q1 q2 => (by simp (disch := omega) only [gI_s, gI_ne1, gI_ne2, gJ_s, gJ_ne1, gJ_ne2, gI_sJ, gJ_sI])) (fun m' k q1 q2 => (by simp (disch := omega) only [gI_s, gI_ne1, gI_ne2, gJ_s, gJ_ne1, gJ_ne2, gI_sJ, gJ_sI])) (mir_mk ⟨?_, ?_, ?_, ?_⟩)
              · simp (disch := omega) only [gI_s, gI_ne1, gI_ne2, gJ_s, gJ_ne1, gJ_ne2, gI_sJ, gJ_sI, true_and]
                exact ⟨m1', m2, m3, m5, m6, by rw [m8], m9⟩
              · simp (disch := omega) only [gI_s, gI_ne1, gI_ne2, gJ_s, gJ_ne1, gJ_ne2, gI_sJ, gJ_sI]
                exact ⟨n1', n2'⟩
              · simp (disch := omega) only [gI_s, gI_ne1, gI_ne2, gJ_s, gJ_ne1, gJ_ne2, gI_sJ, gJ_sI]
                exact n3
              · simp (disch := omega) only [gI_s, gI_ne1, gI_ne2, gJ_s, gJ_ne1, gJ_ne2, gI_sJ, gJ_sI]
                refine Or.inr ⟨t, d + L, ht, ety, by omega, rfl, Or.inr ⟨f, s, hf, g1'.1, g1'.2, fun g hg hh => ?_, z2, by omega, s2⟩⟩
                have := g2 g hg
                unfold mis at this
                rw [hh, Bool.true_and] at this
                cases q : hb (gJ X (62 + 2 * m) 6) g with
                | true => rfl
                | false => rw [q] at this; cases this
            · intro i j q1 q2
              simp (disch := omega) only [gI_s, gI_ne1, gI_ne2, gJ_s, gJ_ne1, gJ_ne2, gI_sJ, gJ_sI]
            · refine ⟨fun i j q => ?_, fun i j => ?_⟩ <;> simp (disch := omega) only [gI_s, gI_ne1, gI_ne2, gJ_s, gJ_ne1, gJ_ne2, gI_sJ, gJ_sI]
            · simp (disch := omega) only [gI_s, gI_ne1, gI_ne2, gJ_s, gJ_ne1, gJ_ne2, gI_sJ, gJ_sI]
              exact et
    · have h0 : ∀ f, f < 60 → mis X m t f = false := by
        intro f hf
        cases q : mis X m t f with
        | false => rfl
        | true => exact absurd ⟨f, hf, q⟩ hex
      obtain ⟨e1, e2⟩ := copy_none (n1 := p1) (n2 := p2) (y2 := y2) h hm ht et h0 hL (show k ≤ 60 by omega)
      exact ⟨X, Y, true, e1, e2, h, FX.rf, FY.rf, fun _ => et, fun z => (by cases z)⟩
