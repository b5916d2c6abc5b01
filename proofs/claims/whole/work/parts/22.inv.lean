/-! the invariant: the class's cells beside the reference's -/
def iA (nm w nf ns tl gr : Nat) (M : Mem) : Prop :=
  (gI M 0 5 = nI nm ∧ gI M 0 6 = nI w ∧ gI M 1 5 = nI nf ∧ gI M 1 6 = nI ns ∧ gI M 7 3 = nI tl ∧ gI M 0 7 = nI gr) ∧
  (gI M 35 7 = nI nm ∧ gI M 35 0 = nI w ∧ gI M 35 1 = nI nf ∧ gI M 35 4 = nI ns ∧ gI M 35 19 = nI tl ∧ gI M 35 23 = nI gr) ∧
  nm ≤ 8 ∧ w ≤ 9999 ∧ nf ≤ 60 ∧ 1 ≤ ns ∧ ns ≤ 60 ∧ tl ≤ 40 ∧ gr ≤ 9999
def iS1 (nf : Nat) (M : Mem) : Prop := ∀ f, f < nf → gI M 2 f = gI M 36 f ∧ ∃ s, 1 ≤ s ∧ s ≤ 500 ∧ gI M 36 f = nI s
def iS2 (w nf : Nat) (M : Mem) : Prop := (∀ f, f < nf → (hb (gJ M 1 7) f = true ∧ gI M 3 f = gI M 37 f ∧ ∃ t, t ≤ w ∧ gI M 37 f = nI t) ∨ (hb (gJ M 1 7) f = false ∧ gI M 37 f = m1)) ∧ ∀ f, nf ≤ f → hb (gJ M 1 7) f = false
def iS3 (w ns : Nat) (M : Mem) : Prop := ∀ s, s < ns → gI M 4 s = gI M 38 s ∧ ∃ t, t ≤ w ∧ gI M 38 s = nI t
def iS4 (nf ns : Nat) (M : Mem) : Prop := ∀ s p, s < ns → p < 12 → gI M 6 (12 * s + p) = gI M 39 (12 * s + p) ∧ (gI M 39 (12 * s + p) = m1 ∨ ∃ f, f < nf ∧ gI M 39 (12 * s + p) = nI f)
def iS5 (ns : Nat) (M : Mem) : Prop := ∀ s f, s < ns → f < 64 → (hb (gJ M 5 s) f = true ↔ ∃ p, p < 12 ∧ gI M 39 (12 * s + p) = nI f)
def iS (w nf ns : Nat) (M : Mem) : Prop := iS1 nf M ∧ iS2 w nf M ∧ iS3 w ns M ∧ iS4 nf ns M ∧ iS5 ns M
def iF (nm tl : Nat) (M : Mem) : Prop := ∀ k, k < tl → gI M 8 k = gI M 51 k ∧ gI M 9 k = gI M 52 k ∧ gI M 10 k = gI M 53 k ∧ ∃ m, m < nm ∧ gI M 51 k = nI m
/-- bytes done of a file that the target wants still -/
def iMd (m t d : Nat) (M : Mem) : Prop := ∃ f s, f < 60 ∧ hb (gJ M 5 t) f = true ∧ hb (gJ M (62 + 2 * m) 6) f = false ∧ (∀ g, g < f → hb (gJ M 5 t) g = true → hb (gJ M (62 + 2 * m) 6) g = true) ∧ gI M 36 f = nI s ∧ d < s ∧ s ≤ 500
def iM1a (ns m : Nat) (M : Mem) : Prop :=
  (gI M (62 + 2 * m) 0 = gI M 40 m ∧ (gI M 40 m = m1 ∨ ∃ j, j < m ∧ gI M 40 m = nI j)) ∧
  (gI M (62 + 2 * m) 1 = gI M 42 m ∧ ∃ k, k ≤ 3 ∧ gI M 42 m = nI k) ∧
  (gI M (62 + 2 * m) 3 = gI M 41 m ∧ ∃ v, 1 ≤ v ∧ v ≤ 1000 ∧ gI M 41 m = nI v) ∧
  (gI M (62 + 2 * m) 4 = gI M 43 m ∧ ∃ i, i < ns ∧ gI M 43 m = nI i) ∧
  (gI M (62 + 2 * m) 5 = gI M 44 m) ∧ (gI M (62 + 2 * m) 7 = gI M 45 m) ∧ (gI M (62 + 2 * m) 8 = gI M 46 m) ∧
  (gI M (62 + 2 * m) 9 = gI M 47 m ∧ ∃ b, gI M 47 m = bI b)
def iM1b (nf m : Nat) (M : Mem) : Prop := (∀ f, f < 60 → gI M 48 (60 * m + f) = bI (hb (gJ M (62 + 2 * m) 6) f)) ∧ ∀ f, nf ≤ f → hb (gJ M (62 + 2 * m) 6) f = false
def iM1c (ns m : Nat) (M : Mem) : Prop := ∃ c, c ≤ 3 ∧ gI M 50 m = nI c ∧ (∀ k, k < c → gI M (62 + 2 * m + 1) k = gI M 49 (3 * m + k) ∧ ∃ i, i < ns ∧ gI M 49 (3 * m + k) = nI i) ∧ ∀ k, c ≤ k → k < 3 → gI M (62 + 2 * m + 1) k = m1
def iM1d (ns m : Nat) (M : Mem) : Prop := (gI M 44 m = m1 ∧ gI M 45 m = nI 0) ∨ ∃ t d, t < ns ∧ gI M 44 m = nI t ∧ d ≤ 500 ∧ gI M 45 m = nI d ∧ (d = 0 ∨ iMd m t d M)
def iM1 (nf ns m : Nat) (M : Mem) : Prop := iM1a ns m M ∧ iM1b nf m M ∧ iM1c ns m M ∧ iM1d ns m M
def iM0 (m : Nat) (M : Mem) : Prop := gI M 43 m = nI 0 ∧ gI M 45 m = nI 0 ∧ gI M 46 m = nI 0 ∧ gI M 47 m = nI 0 ∧ (∀ f, f < 60 → gI M 48 (60 * m + f) = nI 0) ∧ gI M 50 m = nI 0
def iM (nm nf ns : Nat) (M : Mem) : Prop := (∀ m, m < nm → iM1 nf ns m M) ∧ ∀ m, nm ≤ m → m < 8 → iM0 m M
def iK1 (nm ns k : Nat) (M : Mem) : Prop :=
  (∀ m, m < 8 → gI M (13 + 3 * k + 1) m = gI M 54 (8 * k + m) ∧ (gI M 54 (8 * k + m) = m1 ∨ (m < nm ∧ ∃ c, c ≤ 100 ∧ gI M 54 (8 * k + m) = nI c))) ∧
  (gI M (13 + 3 * k) 3 = gI M 55 k ∧ ∃ b, b ≤ 9999 ∧ gI M 55 k = nI b) ∧
  (gI M (13 + 3 * k) 4 = gI M 56 k ∧ (gI M 56 k = m1 ∨ ∃ i, i < ns ∧ gI M 56 k = nI i)) ∧
  (gI M (13 + 3 * k) 5 = gI M 57 k ∧ ∃ b, b < 256 ∧ gI M 57 k = nI b)
def iK (nm ns : Nat) (M : Mem) : Prop := ∀ k, k < 6 → iK1 nm ns k M
def iL (M : Mem) : Prop :=
  (gI M 31 3 = gI M 35 30 ∧ gI M 31 4 = gI M 35 31 ∧ gI M 31 5 = gI M 35 32 ∧ gI M 31 6 = gI M 35 33 ∧ gI M 31 7 = gI M 35 34 ∧ gI M 31 8 = gI M 35 35 ∧ gI M 31 9 = gI M 35 36) ∧
  (∃ b, gI M 35 30 = bI b ∧ ∃ g, g ≤ 12 ∧ gI M 35 34 = nI g ∧ (b = false → g = 0) ∧ ∀ k, k < g → gI M 32 k = gI M 59 k ∧ gI M 33 k = gI M 60 k ∧ gI M 34 k = gI M 61 k)
def Inw (nm w nf ns tl gr : Nat) (M : Mem) : Prop := iA nm w nf ns tl gr M ∧ iS w nf ns M ∧ iF nm tl M ∧ iM nm nf ns M ∧ iK nm ns M ∧ iL M
def Inv (nm : Nat) (M : Mem) : Prop := ∃ w nf ns tl gr, Inw nm w nf ns tl gr M
/-! what a change leaves alone -/
def FrI (P : Nat → Prop) (M M' : Mem) : Prop := ∀ i j, P i → gI M' i j = gI M i j
def FrJ (P : Nat → Prop) (M M' : Mem) : Prop := ∀ i j, P i → gJ M' i j = gJ M i j
theorem iS_fr {w nf ns : Nat} {M M' : Mem} (hI : FrI (fun i => (2 ≤ i ∧ i ≤ 6) ∨ (36 ≤ i ∧ i ≤ 39)) M M') (hJ : FrJ (fun i => i = 1 ∨ i = 5) M M') (h : iS w nf ns M) : iS w nf ns M' := by
  have e2 : ∀ j, gI M' 2 j = gI M 2 j := fun j => hI 2 j (by omega)
  have e3 : ∀ j, gI M' 3 j = gI M 3 j := fun j => hI 3 j (by omega)
  have e4 : ∀ j, gI M' 4 j = gI M 4 j := fun j => hI 4 j (by omega)
  have e6 : ∀ j, gI M' 6 j = gI M 6 j := fun j => hI 6 j (by omega)
  have e36 : ∀ j, gI M' 36 j = gI M 36 j := fun j => hI 36 j (by omega)
  have e37 : ∀ j, gI M' 37 j = gI M 37 j := fun j => hI 37 j (by omega)
  have e38 : ∀ j, gI M' 38 j = gI M 38 j := fun j => hI 38 j (by omega)
  have e39 : ∀ j, gI M' 39 j = gI M 39 j := fun j => hI 39 j (by omega)
  have f1 : ∀ j, gJ M' 1 j = gJ M 1 j := fun j => hJ 1 j (by omega)
  have f5 : ∀ j, gJ M' 5 j = gJ M 5 j := fun j => hJ 5 j (by omega)
  unfold iS iS1 iS2 iS3 iS4 iS5
  simp only [e2, e3, e4, e6, e36, e37, e38, e39, f1, f5]
  exact h
theorem iF_fr {nm tl : Nat} {M M' : Mem} (hI : FrI (fun i => (8 ≤ i ∧ i ≤ 10) ∨ (51 ≤ i ∧ i ≤ 53)) M M') (h : iF nm tl M) : iF nm tl M' := by
  have e8 : ∀ j, gI M' 8 j = gI M 8 j := fun j => hI 8 j (by omega)
  have e9 : ∀ j, gI M' 9 j = gI M 9 j := fun j => hI 9 j (by omega)
  have e10 : ∀ j, gI M' 10 j = gI M 10 j := fun j => hI 10 j (by omega)
  have e51 : ∀ j, gI M' 51 j = gI M 51 j := fun j => hI 51 j (by omega)
  have e52 : ∀ j, gI M' 52 j = gI M 52 j := fun j => hI 52 j (by omega)
  have e53 : ∀ j, gI M' 53 j = gI M 53 j := fun j => hI 53 j (by omega)
  unfold iF
  simp only [e8, e9, e10, e51, e52, e53]
  exact h
theorem iM1_fr {nf ns m : Nat} {M M' : Mem} (h5 : ∀ s f, s < ns → f < 60 → hb (gJ M' 5 s) f = hb (gJ M 5 s) f) (h36 : ∀ f, f < nf → gI M' 36 f = gI M 36 f) (hnf : ∀ s f, s < ns → f < 60 → hb (gJ M 5 s) f = true → f < nf)
    (ha : ∀ j, gI M' (62 + 2 * m) j = gI M (62 + 2 * m) j) (haJ : ∀ j, gJ M' (62 + 2 * m) j = gJ M (62 + 2 * m) j) (hb1 : ∀ j, gI M' (62 + 2 * m + 1) j = gI M (62 + 2 * m + 1) j)
    (h40 : ∀ i, 40 ≤ i → i ≤ 47 → gI M' i m = gI M i m) (h48 : ∀ f, f < 60 → gI M' 48 (60 * m + f) = gI M 48 (60 * m + f)) (h49 : ∀ k, k < 3 → gI M' 49 (3 * m + k) = gI M 49 (3 * m + k)) (h50 : gI M' 50 m = gI M 50 m) (h : iM1 nf ns m M) : iM1 nf ns m M' := by
  obtain ⟨hA, hB, hC, hD⟩ := h
  have e40 := h40 40 (by omega) (by omega)
  have e41 := h40 41 (by omega) (by omega)
  have e42 := h40 42 (by omega) (by omega)
  have e43 := h40 43 (by omega) (by omega)
  have e44 := h40 44 (by omega) (by omega)
  have e45 := h40 45 (by omega) (by omega)
  have e46 := h40 46 (by omega) (by omega)
  have e47 := h40 47 (by omega) (by omega)
  refine ⟨?_, ?_, ?_, ?_⟩
  · unfold iM1a
    simp only [ha, e40, e41, e42, e43, e44, e45, e46, e47]
    exact hA
  · refine ⟨fun f hf => ?_, fun f hf => ?_⟩
    · rw [h48 f hf, haJ]; exact hB.1 f hf
    · rw [haJ]; exact hB.2 f hf
  · obtain ⟨c, hc, hc1, hc2, hc3⟩ := hC
    refine ⟨c, hc, by rw [h50]; exact hc1, fun k hk => ?_, fun k h1 h2 => ?_⟩
    · rw [hb1, h49 k (by omega)]; exact hc2 k hk
    · rw [hb1]; exact hc3 k h1 h2
  · rcases hD with ⟨d1, d2⟩ | ⟨t, d, ht, d1, d2, d3, d4⟩
    · exact Or.inl ⟨by rw [e44]; exact d1, by rw [e45]; exact d2⟩
    · refine Or.inr ⟨t, d, ht, by rw [e44]; exact d1, d2, by rw [e45]; exact d3, ?_⟩
      rcases d4 with d4 | ⟨f, s, q1, q2, q3, q4, q5, q6⟩
      · exact Or.inl d4
      · refine Or.inr ⟨f, s, q1, by rw [h5 t f ht q1]; exact q2, by rw [haJ]; exact q3, fun g hg hh => ?_, by rw [h36 f (hnf t f ht q1 q2)]; exact q5, q6⟩
        rw [haJ]
        rw [h5 t g ht (by omega)] at hh
        exact q4 g hg hh
theorem iS_named {w nf ns : Nat} {M : Mem} (hnf : nf ≤ 60) (h : iS w nf ns M) : ∀ s f, s < ns → f < 60 → hb (gJ M 5 s) f = true → f < nf := by
  intro s f hs hf hh
  obtain ⟨p, hp, e⟩ := (h.2.2.2.2 s f hs (by omega)).mp hh
  rcases (h.2.2.2.1 s p hs hp).2 with q | ⟨g, hg, q⟩
  · rw [q] at e
    exact absurd e.symm (nI_ne_m1 (by omega))
  · rw [q] at e
    rw [← (nI_eq (by omega) (by omega)).mp e]
    exact hg
theorem iM_fr {w nm nf ns : Nat} {M M' : Mem} (hnf : nf ≤ 60) (hS : iS w nf ns M) (hI : FrI (fun i => i = 36 ∨ (40 ≤ i ∧ i ≤ 50) ∨ 62 ≤ i) M M') (hJ : FrJ (fun i => i = 5 ∨ 62 ≤ i) M M') (h : iM nm nf ns M) : iM nm nf ns M' := by
  refine ⟨fun m hm => iM1_fr (fun s f _ _ => by rw [hJ 5 s (by omega)]) (fun f _ => hI 36 f (by omega)) (iS_named hnf hS) (fun j => hI _ j (by omega)) (fun j => hJ _ j (by omega)) (fun j => hI _ j (by omega)) (fun i h1 h2 => hI i m (by omega)) (fun f _ => hI 48 _ (by omega)) (fun k _ => hI 49 _ (by omega)) (hI 50 m (by omega)) (h.1 m hm), fun m h1 h2 => ?_⟩
  have := h.2 m h1 h2
  unfold iM0 at *
  rw [hI 43 m (by omega), hI 45 m (by omega), hI 46 m (by omega), hI 47 m (by omega), hI 50 m (by omega)]
  refine ⟨this.1, this.2.1, this.2.2.1, this.2.2.2.1, fun f hf => ?_, this.2.2.2.2.2⟩
  rw [hI 48 _ (by omega)]
  exact this.2.2.2.2.1 f hf
theorem iK_fr {nm ns : Nat} {M M' : Mem} (hI : FrI (fun i => (13 ≤ i ∧ i ≤ 30) ∨ (54 ≤ i ∧ i ≤ 57)) M M') (h : iK nm ns M) : iK nm ns M' := by
  intro k hk
  have e1 : ∀ j, gI M' (13 + 3 * k + 1) j = gI M (13 + 3 * k + 1) j := fun j => hI _ j (by omega)
  have e2 : ∀ j, gI M' (13 + 3 * k) j = gI M (13 + 3 * k) j := fun j => hI _ j (by omega)
  have e54 : ∀ j, gI M' 54 j = gI M 54 j := fun j => hI 54 j (by omega)
  have e55 : ∀ j, gI M' 55 j = gI M 55 j := fun j => hI 55 j (by omega)
  have e56 : ∀ j, gI M' 56 j = gI M 56 j := fun j => hI 56 j (by omega)
  have e57 : ∀ j, gI M' 57 j = gI M 57 j := fun j => hI 57 j (by omega)
  unfold iK1
  simp only [e1, e2, e54, e55, e56, e57]
  exact h k hk
theorem iL_fr {M M' : Mem} (hI : FrI (fun i => (31 ≤ i ∧ i ≤ 34) ∨ (59 ≤ i ∧ i ≤ 61)) M M') (h35 : ∀ j, 30 ≤ j → j ≤ 36 → gI M' 35 j = gI M 35 j) (h : iL M) : iL M' := by
  have e31 : ∀ j, gI M' 31 j = gI M 31 j := fun j => hI 31 j (by omega)
  have e32 : ∀ j, gI M' 32 j = gI M 32 j := fun j => hI 32 j (by omega)
  have e33 : ∀ j, gI M' 33 j = gI M 33 j := fun j => hI 33 j (by omega)
  have e34 : ∀ j, gI M' 34 j = gI M 34 j := fun j => hI 34 j (by omega)
  have e59 : ∀ j, gI M' 59 j = gI M 59 j := fun j => hI 59 j (by omega)
  have e60 : ∀ j, gI M' 60 j = gI M 60 j := fun j => hI 60 j (by omega)
  have e61 : ∀ j, gI M' 61 j = gI M 61 j := fun j => hI 61 j (by omega)
  unfold iL
  simp only [e31, e32, e33, e34, e59, e60, e61, h35 30 (by omega) (by omega), h35 31 (by omega) (by omega), h35 32 (by omega) (by omega), h35 33 (by omega) (by omega), h35 34 (by omega) (by omega), h35 35 (by omega) (by omega), h35 36 (by omega) (by omega)]
  exact h
/-! growing bounds -/
theorem iS_up {w w' nf ns : Nat} {M : Mem} (hw : w ≤ w') (h : iS w nf ns M) : iS w' nf ns M := by
  obtain ⟨h1, h2, h3, h4, h5⟩ := h
  refine ⟨h1, ⟨fun f hf => ?_, h2.2⟩, fun s hs => ?_, h4, h5⟩
  · rcases h2.1 f hf with ⟨q1, q2, t, q3, q4⟩ | q
    · exact Or.inl ⟨q1, q2, t, by omega, q4⟩
    · exact Or.inr q
  · obtain ⟨q1, t, q2, q3⟩ := h3 s hs
    exact ⟨q1, t, by omega, q3⟩
theorem iK_up {nm nm' ns ns' : Nat} {M : Mem} (hm : nm ≤ nm') (hs : ns ≤ ns') (h : iK nm ns M) : iK nm' ns' M := by
  intro k hk
  obtain ⟨h1, h2, h3, h4⟩ := h k hk
  refine ⟨fun m hm8 => ?_, h2, ⟨h3.1, ?_⟩, h4⟩
  · obtain ⟨q1, q2⟩ := h1 m hm8
    refine ⟨q1, ?_⟩
    rcases q2 with q | ⟨q, r⟩
    · exact Or.inl q
    · exact Or.inr ⟨by omega, r⟩
  · rcases h3.2 with q | ⟨i, q, r⟩
    · exact Or.inl q
    · exact Or.inr ⟨i, by omega, r⟩
theorem rng {x : Int32} {a b : Nat} (hb : b < 2147483648) (h : nI a ≤ x ∧ x ≤ nI b) (ha : a < 2147483648) : ∃ s, a ≤ s ∧ s ≤ b ∧ x = nI s := by
  obtain ⟨h1, h2⟩ := h
  have h0 : ¬ x < nI 0 := fun q => (of_lt0 q ha).1 h1
  obtain ⟨j, hj, rfl⟩ := nI_of (x := x) h0
  exact ⟨j, (nI_leI ha (by omega)).mp h1, (nI_leI (by omega) hb).mp h2, rfl⟩
theorem rng' {a b s : Nat} (h1 : a ≤ s) (h2 : s ≤ b) (hb : b < 2147483648) : nI a ≤ nI s ∧ nI s ≤ nI b := ⟨nI_le h1 (by omega), nI_le h2 hb⟩
