/-! a world and one cell more -/
theorem pl_last {D : va_G} {cl : List vw_C} {ws : va_W} {x : Nat × va_E} {H : Heap} (h : va_P D cl (ws ++ [x]) H) : va_P D cl [x] H := by
  intro k q hk
  refine h (ws.length + k) q ?_
  rw [List.getElem?_append_right (by omega), show ws.length + k - ws.length = k by omega]
  exact hk
theorem dl_last {A : Nat → Prop} {ws : va_W} {x : Nat × va_E} (h : va_D A (ws ++ [x])) : va_D A [x] := by
  have key : ∀ (k : Nat) (q : Nat × va_E), [x][k]? = some q → (ws ++ [x])[ws.length + k]? = some q := by
    intro k q hk
    rw [List.getElem?_append_right (by omega), show ws.length + k - ws.length = k by omega]
    exact hk
  refine ⟨fun i j p q hi hj e => ?_, fun k q hk => h.2 _ q (key k q hk)⟩
  have := h.1 _ _ p q (key i p hi) (key j q hj) e
  omega
theorem at_last {ws : va_W} {x : Nat × va_E} : (ws ++ [x])[ws.length]? = some x := by
  rw [List.getElem?_append_right (by omega), Nat.sub_self]
  rfl
theorem one_at {x : Nat × va_E} {k : Nat} {q : Nat × va_E} (h : [x][k]? = some q) : x = q := by
  have hz : k < 1 := (List.getElem?_eq_some_iff.mp h).1
  rw [show k = 0 by omega] at h
  exact Option.some.inj h
theorem free_last {A0 : Nat → Prop} {ws : va_W} {x : Nat × va_E} {H0 H : Heap} {locs : List Loc} (hD : va_D A0 (ws ++ [x])) (hS : va_S A0 H0 H locs) (hA : ∀ q, H0.size ≤ q → A0 q) : ∀ q, va_A [x] H.size q → A0 q := by
  intro q h
  rcases h with ⟨k, e, h⟩ | h
  · have hx := one_at h
    have := hD.2 _ x at_last
    rw [hx] at this
    exact this
  · exact hA q (Nat.le_trans hS.1 h)
theorem join_last {A0 : Nat → Prop} {D : va_G} {cl : List vw_C} {ws w1 : va_W} {x : Nat × va_E} {H H1 : Heap} (hP : va_P D cl (ws ++ [x]) H) (hD : va_D A0 (ws ++ [x])) (hk : ∀ q : Nat, q < H.size → ¬ va_A [x] H.size q → H1[q]? = H[q]?) (hF : ∀ q, va_A [x] H.size q → A0 q) (hP1 : va_P D cl w1 H1) (hD1 : va_D (va_A [x] H.size) w1) : va_P D cl (ws ++ w1) H1 ∧ va_D A0 (ws ++ w1) := by
  have left : ∀ (k : Nat) (q : Nat × va_E), ws[k]? = some q → (ws ++ [x])[k]? = some q := fun k q hk => by
    rw [List.getElem?_append_left (List.getElem?_eq_some_iff.mp hk).1]
    exact hk
  have apart : ∀ (k : Nat) (q : Nat × va_E), ws[k]? = some q → q.1 < H.size ∧ ¬ va_A [x] H.size q.1 := by
    intro k q hq
    have hl := (hP k q (left k q hq)).lt
    refine ⟨hl, fun h => ?_⟩
    rcases h with ⟨k2, e, h⟩ | h
    · have hx := one_at h
      have h1 := hD.1 k ws.length q x (left k q hq) at_last (by rw [hx])
      have h2 := (List.getElem?_eq_some_iff.mp hq).1
      omega
    · omega
  refine ⟨va_P.app (fun k q hq => (hP k q (left k q hq)).kept (hk q.1 (apart k q hq).1 (apart k q hq).2)) hP1, va_D.app ⟨fun i j p q hi hj e => hD.1 i j p q (left i p hi) (left j q hj) e, fun k q hq => hD.2 k q (left k q hq)⟩ (hD1.weaken (fun k q _ h => hF q.1 h)) (fun i j a b ha hb hab => ?_)⟩
  exact (apart i a ha).2 (by rw [hab]; exact hD1.2 j b hb)
/-! a mirror comes -/
def adx (ad : Nat → Nat) (nm q1 q2 : Nat) : Nat → Nat := fun i => if i = 62 + 2 * nm then q1 else if i = 62 + 2 * nm + 1 then q2 else ad i
theorem adx_lt {ad : Nat → Nat} {nm q1 q2 i : Nat} (h : i < 62 + 2 * nm) : adx ad nm q1 q2 i = ad i := by
  unfold adx
  rw [if_neg (by omega), if_neg (by omega)]
theorem adx_1 {ad : Nat → Nat} {nm q1 q2 : Nat} : adx ad nm q1 q2 (62 + 2 * nm) = q1 := by
  unfold adx
  rw [if_pos rfl]
theorem adx_2 {ad : Nat → Nat} {nm q1 q2 : Nat} : adx ad nm q1 q2 (62 + 2 * nm + 1) = q2 := by
  unfold adx
  rw [if_neg (by omega), if_pos rfl]
def mnw (nm : Nat) (x1 x2 x3 : Int32) (M : Mem) : Mem := (fun i j => if i = 62 + 2 * nm then (if j = 0 then x1 else if j = 1 then x3 else if j = 3 then x2 else if j = 5 then -1 else 0) else if i = 62 + 2 * nm + 1 then fl 3 (-1) (fun _ => 0) j else M.1 i j, fun i j => if i = 62 + 2 * nm then 0 else M.2 i j)
theorem mnw_I {nm : Nat} {x1 x2 x3 : Int32} {M : Mem} {i : Nat} (h : i ≠ 62 + 2 * nm) (h2 : i ≠ 62 + 2 * nm + 1) : (mnw nm x1 x2 x3 M).1 i = M.1 i := by
  funext j
  show (if i = 62 + 2 * nm then _ else if i = 62 + 2 * nm + 1 then _ else M.1 i j) = _
  rw [if_neg h, if_neg h2]
theorem mnw_J {nm : Nat} {x1 x2 x3 : Int32} {M : Mem} {i : Nat} (h : i ≠ 62 + 2 * nm) : (mnw nm x1 x2 x3 M).2 i = M.2 i := by
  funext j
  show (if i = 62 + 2 * nm then _ else M.2 i j) = _
  rw [if_neg h]
theorem mnw_1 {nm : Nat} {x1 x2 x3 : Int32} {M : Mem} (j : Nat) : (mnw nm x1 x2 x3 M).1 (62 + 2 * nm) j = (if j = 0 then x1 else if j = 1 then x3 else if j = 3 then x2 else if j = 5 then -1 else 0) := by
  show (if 62 + 2 * nm = 62 + 2 * nm then _ else _) = _
  rw [if_pos rfl]
theorem mnw_2 {nm : Nat} {x1 x2 x3 : Int32} {M : Mem} : (mnw nm x1 x2 x3 M).1 (62 + 2 * nm + 1) = fl 3 (-1) (fun _ => 0) := by
  funext j
  show (if 62 + 2 * nm + 1 = 62 + 2 * nm then _ else if 62 + 2 * nm + 1 = 62 + 2 * nm + 1 then _ else _) = _
  rw [if_neg (by omega), if_pos rfl]
theorem mnw_3 {nm : Nat} {x1 x2 x3 : Int32} {M : Mem} (j : Nat) : (mnw nm x1 x2 x3 M).2 (62 + 2 * nm) j = 0 := by
  show (if 62 + 2 * nm = 62 + 2 * nm then _ else _) = _
  rw [if_pos rfl]
theorem fvs_ad {ad ad' : Nat → Nat} {M M' : Mem} {i : Nat} (h1 : M'.1 i = M.1 i) (h2 : M'.2 i = M.2 i) : ∀ (ts : List Nat) (k : Nat), (∀ r, r + 2 ∈ ts → ad' r = ad r) → fvs ad' M' i k ts = fvs ad M i k ts
  | [], k, _ => rfl
  | t :: ts, k, h => by
    have e : fv ad' M' i k t = fv ad M i k t := by
      match t, h with
      | 0, _ => show Value.int (M'.1 i k) = _; rw [h1]; rfl
      | 1, _ => show Value.long (M'.2 i k) = _; rw [h2]; rfl
      | r + 2, h => show Value.ref (ad' r) = _; rw [h r List.mem_cons_self]; rfl
    simp only [fvs, e, fvs_ad h1 h2 ts (k + 1) (fun r hr => h r (List.mem_cons_of_mem _ hr))]
theorem lay_refs : ∀ k, k < 62 → (lay k).1 < 7 → (lay k).2.all (fun t => decide (t < 64)) = true := by decide +kernel
theorem lay_10 : ∀ k, k < 62 → k ≠ 11 → k ≠ 12 → (lay k).1 < 10 := by decide +kernel
theorem lay_up {k nm : Nat} (h1 : 62 ≤ k) (h2 : k < 62 + 2 * nm) : (∃ m, m < nm ∧ k = 62 + 2 * m) ∨ ∃ m, m < nm ∧ k = 62 + 2 * m + 1 := by
  rcases (show (k - 62) % 2 = 0 ∨ (k - 62) % 2 = 1 by omega) with h | h
  · exact Or.inl ⟨(k - 62) / 2, by omega, by omega⟩
  · exact Or.inr ⟨(k - 62) / 2, by omega, by omega⟩
theorem ce_keep {ad : Nat → Nat} {kc : Nat → ClassId} {nm q1 q2 k : Nat} {x1 x2 x3 : Int32} {M : Mem} (hk : k < 62 + 2 * nm) (h11 : k ≠ 11) (h12 : k ≠ 12) : ce (adx ad nm q1 q2) kc (nm + 1) (mnw nm x1 x2 x3 M) k = ce ad kc nm M k := by
  have r1 : (mnw nm x1 x2 x3 M).1 k = M.1 k := mnw_I (by omega) (by omega)
  have r2 : (mnw nm x1 x2 x3 M).2 k = M.2 k := mnw_J (by omega)
  have hl : (lay k).1 < 10 := by
    by_cases h : k < 62
    · exact lay_10 k h h11 h12
    · rcases lay_up (by omega) hk with ⟨m, _, rfl⟩ | ⟨m, _, rfl⟩
      · rw [lay_mirror]; show 3 < 10; omega
      · rw [lay_mirrorA]; show 7 < 10; omega
  have hr : (lay k).1 < 7 → ∀ r, r + 2 ∈ (lay k).2 → adx ad nm q1 q2 r = ad r := by
    intro h7 r hr
    by_cases h : k < 62
    · have := List.all_eq_true.mp (lay_refs k h h7) _ hr
      have := of_decide_eq_true this
      exact adx_lt (by omega)
    · rcases lay_up (by omega) hk with ⟨m, hm, rfl⟩ | ⟨m, hm, rfl⟩
      · rw [lay_mirror] at hr
        simp only [List.mem_cons, List.not_mem_nil, or_false] at hr
        exact adx_lt (by omega)
      · rw [lay_mirrorA] at h7
        exact absurd h7 (by decide)
  unfold ce
  rw [r1, r2]
  by_cases c7 : (lay k).1 < 7
  · rw [if_pos c7, if_pos c7, fvs_ad r1 r2 _ _ (hr c7)]
  · rw [if_neg c7, if_neg c7]
    by_cases c8 : (lay k).1 = 7
    · rw [if_pos c8, if_pos c8]
    · rw [if_neg c8, if_neg c8]
      by_cases c9 : (lay k).1 = 8
      · rw [if_pos c9, if_pos c9]
      · rw [if_neg c9, if_neg c9, if_pos (by omega), if_pos (by omega)]
theorem arrQ {D : va_G} {a : Nat} {cA : ClassId} {n : Nat} {f g : Nat → Option Nat} {H : Heap} (h : va_at D vwCl (a, .inl (cA, n, .inr (.inr (.inr (.inr f))))) H) (hfg : ∀ j, j < n → f j = g j) : va_at D vwCl (a, .inl (cA, n, .inr (.inr (.inr (.inr g))))) H := by
  have h1 : H[a]? = some (vp_cell cA (n, .inr (.inr (.inr (.inr f))))) := h
  show H[a]? = some (vp_cell cA (n, .inr (.inr (.inr (.inr g)))))
  rw [h1, vp_cell_q, vp_cell_q]
  unfold arrV
  congr 2
  apply Array.ext
  · simp
  · intro i h1 h2
    simp at h1
    simp [hfg i h1]
def mobj (q2 : Nat) (x1 x2 x3 : Int32) : va_E := .inr (3, [.int x1, .int x3, .ref q2, .int x2, .int 0, .int (-1), .long 0, .int 0, .int 0, .int 0])
def marr (kc : Nat → ClassId) : va_E := .inl (kc 0, 3, .inl (fl 3 (-1) (fun _ => 0)))
def mrow (ad : Nat → Nat) (kc : Nat → ClassId) (nm q1 : Nat) : va_E := .inl (kc 3, 8, .inr (.inr (.inr (.inr (va_up (fun j => if j < nm then some (ad (62 + 2 * j)) else none) nm (some q1))))))
def mlist (ad : Nat → Nat) (kc : Nat → ClassId) (nm : Nat) (M : Mem) (q1 q2 : Nat) (x1 x2 x3 : Int32) : va_W := (wl ad kc nm M ++ [(q1, mobj q2 x1 x2 x3), (q2, marr kc)]).set 11 (ad 11, mrow ad kc nm q1)
section ML
variable {D : va_G} {ad : Nat → Nat} {kc : Nat → ClassId} {nm q1 q2 z : Nat} {M : Mem} {x1 x2 x3 : Int32} {H : Heap}
theorem ml_low {k : Nat} (h : k < 62 + 2 * nm) (h11 : k ≠ 11) : (mlist ad kc nm M q1 q2 x1 x2 x3)[k]? = some (ad k, ce ad kc nm M k) := by
  unfold mlist
  rw [List.getElem?_set_ne (Ne.symm h11), List.getElem?_append_left (by rw [wl_len]; exact h), wl_at h]
theorem ml_11 : (mlist ad kc nm M q1 q2 x1 x2 x3)[11]? = some (ad 11, mrow ad kc nm q1) := by
  unfold mlist
  rw [List.getElem?_set_self (by rw [List.length_append, wl_len]; omega)]
theorem ml_1 : (mlist ad kc nm M q1 q2 x1 x2 x3)[62 + 2 * nm]? = some (q1, mobj q2 x1 x2 x3) := by
  unfold mlist
  rw [List.getElem?_set_ne (by omega), List.getElem?_append_right (by rw [wl_len]; omega), wl_len, Nat.sub_self]
  rfl
theorem ml_2 : (mlist ad kc nm M q1 q2 x1 x2 x3)[62 + 2 * nm + 1]? = some (q2, marr kc) := by
  unfold mlist
  rw [List.getElem?_set_ne (by omega), List.getElem?_append_right (by rw [wl_len]; omega), wl_len, show 62 + 2 * nm + 1 - (62 + 2 * nm) = 1 by omega]
  rfl
theorem ml_P (h : va_P D vwCl (mlist ad kc nm M q1 q2 x1 x2 x3) H) : va_P D vwCl (wl (adx ad nm q1 q2) kc (nm + 1) (mnw nm x1 x2 x3 M)) H := by
  intro k q hk
  have hl : k < 62 + 2 * (nm + 1) := by
    have := (List.getElem?_eq_some_iff.mp hk).1
    rwa [wl_len] at this
  rw [wl_at hl] at hk
  cases hk
  by_cases k1 : k = 62 + 2 * nm
  · subst k1
    have h1 := h _ _ ml_1
    rw [adx_1, ce_ob (ob_mirror (show nm < nm + 1 by omega))]
    have e : fvs (adx ad nm q1 q2) (mnw nm x1 x2 x3 M) (62 + 2 * nm) 0 [0, 0, 62 + 2 * nm + 1 + 2, 0, 0, 0, 1, 0, 0, 0] = [.int x1, .int x3, .ref q2, .int x2, .int 0, .int (-1), .long 0, .int 0, .int 0, .int 0] := by
      have a2 : adx ad nm q1 q2 (62 + 2 * nm + 1) = q2 := adx_2
      simp only [fvs, fv, mnw_1, mnw_3, a2]
      rfl
    rw [e]
    exact h1
  · by_cases k2 : k = 62 + 2 * nm + 1
    · subst k2
      have h1 := h _ _ ml_2
      rw [adx_2, ce_ar7 (ar_mirror (show nm < nm + 1 by omega)), mnw_2]
      exact h1
    · rw [adx_lt (by omega)]
      by_cases k11 : k = 11
      · subst k11
        have h1 := h _ _ ml_11
        rw [ce_ar10 ar_11]
        refine arrQ h1 (fun j hj => ?_)
        by_cases e1 : j = nm
        · subst e1
          simp only [va_up, if_pos, show j < j + 1 by omega, adx_1]
        · by_cases e2 : j < nm
          · simp only [va_up, if_neg e1, if_pos e2, if_pos (show j < nm + 1 by omega), adx_lt (show 62 + 2 * j < 62 + 2 * nm by omega)]
          · simp only [va_up, if_neg e1, if_neg e2, if_neg (show ¬ j < nm + 1 by omega)]
      · by_cases k12 : k = 12
        · subst k12
          have h1 := h _ _ (ml_low (k := 12) (by omega) (by omega))
          rw [ce_ar11 ar_12]
          rw [ce_ar11 ar_12] at h1
          refine arrQ h1 (fun j hj => ?_)
          show some (ad (13 + 3 * j)) = some (adx ad nm q1 q2 (13 + 3 * j))
          rw [adx_lt (by omega)]
        · rw [ce_keep (by omega) k11 k12]
          exact h _ _ (ml_low (by omega) k11)
theorem ml_AD (h : va_D (fun q => z ≤ q) (mlist ad kc nm M q1 q2 x1 x2 x3)) : AD (adx ad nm q1 q2) (nm + 1) z := by
  have key : ∀ k, k < 62 + 2 * (nm + 1) → ∃ e, (mlist ad kc nm M q1 q2 x1 x2 x3)[k]? = some (adx ad nm q1 q2 k, e) := by
    intro k hk
    by_cases k1 : k = 62 + 2 * nm
    · subst k1
      rw [adx_1]
      exact ⟨_, ml_1⟩
    · by_cases k2 : k = 62 + 2 * nm + 1
      · subst k2
        rw [adx_2]
        exact ⟨_, ml_2⟩
      · rw [adx_lt (by omega)]
        by_cases k11 : k = 11
        · subst k11
          exact ⟨_, ml_11⟩
        · exact ⟨_, ml_low (by omega) k11⟩
  refine ⟨fun i j hi hj e => ?_, fun i hi => ?_⟩
  · obtain ⟨e1, h1⟩ := key i hi
    obtain ⟨e2, h2⟩ := key j hj
    exact h.1 i j _ _ h1 h2 e
  · obtain ⟨e1, h1⟩ := key i hi
    exact h.2 i _ h1
end ML
/-- what the method mirror finds -/
def GX (D : va_G) (ad : Nat → Nat) (kc : Nat → ClassId) (nm z : Nat) (M : Mem) (U : State) : Prop := GW D ad kc nm z M U ∧ va_AO "MirrorNet$Mirror" U ∧ va_AO "MirrorNet$Asker" U
theorem gx_blind {D : va_G} {ad : Nat → Nat} {kc : Nat → ClassId} {nm z : Nat} {M : Mem} {av : List Value} : FrameBlind (va_Pc av (GX D ad kc nm z M)) := by
  intro a U g mk q
  obtain ⟨q0, ⟨qP, qK, qz, qN⟩, q2, q3⟩ := q
  exact ⟨q0, ⟨qP, va_K.moved (u := U) (U := U.calling g mk a) (Vm.Alike.refl U.vm) qK, qz, fun w hw => va_Nw.same (nest_tab (nest_is hw)) (u := U) (U := U.calling g mk a) rfl (qN w hw)⟩, va_AO.moved (u := U) (U := U.calling g mk a) (Vm.Alike.refl U.vm) q2, va_AO.moved (u := U) (U := U.calling g mk a) (Vm.Alike.refl U.vm) q3⟩
theorem gx_pre {D : va_G} {ad : Nat → Nat} {kc : Nat → ClassId} {nm z : Nat} {M : Mem} {s : State} {H : Heap} (av : List Value) (hK : va_K D vwCl (tysOf kc) s) (hP : va_P D vwCl (wl ad kc nm M) H) (hz : z ≤ H.size) (hN : ∀ w ∈ nestW, va_Nw w s) (h1 : va_AO "MirrorNet$Mirror" s) (h2 : va_AO "MirrorNet$Asker" s) : ∀ U : State, U.heap = H → s.WarmedH U.vm → va_Pc av (GX D ad kc nm z M) av.toArray U :=
  fun U hU hW => ⟨rfl, ⟨by rw [hU]; exact hP, va_K.moved hW.alike hK, by rw [hU]; exact hz, fun w hw => nest_warm1 (nest_is hw) hW (hN w hw)⟩, va_AO.moved hW.alike h1, va_AO.moved hW.alike h2⟩
def mirOk (nm : Nat) (x1 x2 x3 : Int32) : Prop := nm < 8 ∧ ((-1 : Int32) ≤ x1 ∧ x1 ≤ nI nm - 1) ∧ ((1 : Int32) ≤ x2 ∧ x2 ≤ 1000) ∧ ((0 : Int32) ≤ x3 ∧ x3 ≤ 3)
def mirPost (ad : Nat → Nat) (nm z : Nat) (M : Mem) (x1 x2 x3 : Int32) (r : Int32) (u : Nat × (Nat → Nat) × Mem) : Prop := (¬ mirOk nm x1 x2 x3 ∧ r = -1 ∧ u = (nm, ad, M)) ∨ (mirOk nm x1 x2 x3 ∧ r = nI nm ∧ ∃ q1 q2, u = (nm + 1, adx ad nm q1 q2, sI (mnw nm x1 x2 x3 M) 0 5 (nI (nm + 1))) ∧ AD (adx ad nm q1 q2) (nm + 1) z)
def QMir (D : va_G) (ad : Nat → Nat) (kc : Nat → ClassId) (nm z : Nat) (M : Mem) (x1 x2 x3 : Int32) : Array Value → State → Outcome → State → Prop := va_Qi (mirPost ad nm z M x1 x2 x3) (fun u t => va_P D vwCl (wl u.2.1 kc u.1 u.2.2) t.heap) (fun q => z ≤ q)
theorem bI_nz {P : Prop} [Decidable P] (h : ¬ bI (decide P) = 0) : P := by
  by_cases hp : P
  · exact hp
  · rw [decide_eq_false hp] at h
    exact absurd rfl h
theorem bI_z {P : Prop} [Decidable P] (h : bI (decide P) = 0) : ¬ P := by
  intro hp
  rw [decide_eq_true hp] at h
  exact absurd h (by decide)
def rm_X5_mirror : Room := { frames := 2, cells := 2, slots := 13, locals := 46 }
set_option maxHeartbeats 4000000 in
set_option maxRecDepth 100000 in
theorem ct_X5_mirror (l : Launch) {D : va_G} {ad : Nat → Nat} {kc : Nat → ClassId} {nm z : Nat} (hAD : AD ad nm z) {M : Mem} {x1 x2 x3 : Int32} (hnm : gI M 0 5 = nI nm) (hn8 : nm ≤ 8) : Met l yX5_mirror wsX5_mirror rm_X5_mirror (va_Pc [.ref (ad 0), .int x1, .int x2, .int x3] (GX D ad kc nm z M)) (QMir D ad kc nm z M x1 x2 x3) 2 13 (fun q => z ≤ q) := by
  refine q_met (cc := cX5_mirror) (maxL := 4) (ret := (some .int)) (by decide) rfl (Nat.le_of_ble_eq_true rfl) ?_
  intro p e s m args below meth c Q ls hx hb hr hlk hml hown hts hB hQ hl
  obtain ⟨⟨hP, hK, hz, hN⟩, hAM, hAA⟩ := hB
  have hown : s.vm.findClass RX5 = some m.cls := hown
  have hl : lv_has ls 4 [(0, .ref (ad 0)), (1, .int x1), (2, .int x2), (3, .int x3)] := hl
  have hi_X5 : ∀ w ∈ u_ws RX5 TX5 8, w ∈ wsX5_mirror := by decide +kernel
  have hi_X3 : ∀ w ∈ u_ws RX3 TX3 10, w ∈ wsX5_mirror := by decide +kernel
  have hS : va_S (fun q => z ≤ q) s.heap s.heap [] := va_S.rf
  have bad : ¬ mirOk nm x1 x2 x3 → ∀ (pc : Nat) (ls : Array Slot), decode cX5_mirror pc = .ok (.ireturn, 1) → W p l e rm_X5_mirror s m args below meth c s.heap [] 0 0 Q (F0 m pc ls [.int (-1)]) := by
    intro hno pc ls hdg
    rw [hQ]
    refine W.widen (k := 2) (n := 13) (Nat.zero_le _) (Nat.zero_le _) ?_
    exact W.iret hx hb hr (fun t ht _ => ⟨⟨-1, (nm, ad, M), rfl, Or.inl ⟨hno, rfl, rfl⟩, (show va_P D vwCl (wl ad kc nm M) t.heap by rw [ht]; exact hP)⟩, hS.F ht⟩) hS.2.2 hdg hlk
  refine lv_aload_n hx hb dX5_mirror_0 rfl (lv_at hl 0 rfl) ?_
  refine q_getI hx hb hts hi_X5 hown hK hP ob_0 rfl 5 (by decide) rfl (hts (.fieldLink RX5 90 "MirrorNet" "mirrorCount" "I") (by decide +kernel)) (fun _ h9 => h9) dX5_mirror_1 ?_
  rw [hnm]
  refine lv_bipush (v := nI 8) hx hb dX5_mirror_4 (by decide) ?_
  refine lv_icmp_ge (tgt := 23) hx hb dX5_mirror_6 (by decide) (fun c1 => ?_) (fun c1 => ?_)
  · refine lv_iconst (v := -1) hx hb dX5_mirror_23 (by decide) ?_
    exact bad (fun h => absurd c1 (nI_ge h.1 (by omega))) 24 ls dX5_mirror_24
  have hlt : nm < 8 := by
    rcases Nat.lt_or_ge nm 8 with q | q
    · exact q
    · exact absurd (nI_le q (by omega)) c1
  refine lv_iload_n hx hb dX5_mirror_9 rfl (lv_at hl 1 rfl) ?_
  refine lv_iconst (v := -1) hx hb dX5_mirror_10 (by decide) ?_
  refine lv_aload_n hx hb dX5_mirror_11 rfl (lv_at hl 0 rfl) ?_
  refine q_getI hx hb hts hi_X5 hown hK hP ob_0 rfl 5 (by decide) rfl (hts (.fieldLink RX5 90 "MirrorNet" "mirrorCount" "I") (by decide +kernel)) (fun _ h9 => h9) dX5_mirror_12 ?_
  rw [hnm]
  refine lv_iconst (v := 1) hx hb dX5_mirror_15 (by decide) ?_
  refine lv_isub hx hb dX5_mirror_16 ?_
  refine q_cRz (va_runS (As := [.int x1, .int (-1 : Int32), .int (nI nm - (1 : Int32))]) (rest := []) ⟨hx, hb, hml, hown, hts⟩ (ct_X5_isWithin l hAD (M := M) (e_within x1 (-1) (nI nm - 1))) (va_cwS 3 hts gX5_mirror_X5_isWithin rfl rfl rfl (by decide +kernel) ⟨Nat.le_of_ble_eq_true rfl, Nat.le_of_ble_eq_true rfl⟩) ⟨gw_blind, gw_pre _ hK hP hz hN⟩ rfl rfl hl.1 rfl (lv_room (Nat.le_of_ble_eq_true rfl)) dX5_mirror_17 ⟨Nat.zero_le _, Nat.zero_le _⟩) (fun _ => ?_)
  refine lv_if_ne (tgt := 25) hx hb dX5_mirror_20 (by decide) (fun c2 => ?_) (fun c2 => ?_)
  rotate_left
  · refine lv_iconst (v := -1) hx hb dX5_mirror_23 (by decide) ?_
    exact bad (fun h => bI_z c2 h.2.1) 24 ls dX5_mirror_24
  have h1 := bI_nz c2
  refine lv_iload_n hx hb dX5_mirror_25 rfl (lv_at hl 2 rfl) ?_
  refine lv_iconst (v := 1) hx hb dX5_mirror_26 (by decide) ?_
  refine lv_sipush (v := 1000) hx hb dX5_mirror_27 (by decide) ?_
  refine q_cRz (va_runS (As := [.int x2, .int (1 : Int32), .int (1000 : Int32)]) (rest := []) ⟨hx, hb, hml, hown, hts⟩ (ct_X5_isWithin l hAD (M := M) (e_within x2 1 1000)) (va_cwS 3 hts gX5_mirror_X5_isWithin rfl rfl rfl (by decide +kernel) ⟨Nat.le_of_ble_eq_true rfl, Nat.le_of_ble_eq_true rfl⟩) ⟨gw_blind, gw_pre _ hK hP hz hN⟩ rfl rfl hl.1 rfl (lv_room (Nat.le_of_ble_eq_true rfl)) dX5_mirror_30 ⟨Nat.zero_le _, Nat.zero_le _⟩) (fun _ => ?_)
  refine lv_if_eq (tgt := 45) hx hb dX5_mirror_33 (by decide) (fun c3 => ?_) (fun c3 => ?_)
  · refine lv_iconst (v := -1) hx hb dX5_mirror_45 (by decide) ?_
    exact bad (fun h => bI_z c3 h.2.2.1) 46 ls dX5_mirror_46
  have h2 := bI_nz c3
  refine lv_iload_n hx hb dX5_mirror_36 rfl (lv_at hl 3 rfl) ?_
  refine lv_iconst (v := 0) hx hb dX5_mirror_37 (by decide) ?_
  refine lv_iconst (v := 3) hx hb dX5_mirror_38 (by decide) ?_
  refine q_cRz (va_runS (As := [.int x3, .int (0 : Int32), .int (3 : Int32)]) (rest := []) ⟨hx, hb, hml, hown, hts⟩ (ct_X5_isWithin l hAD (M := M) (e_within x3 0 3)) (va_cwS 3 hts gX5_mirror_X5_isWithin rfl rfl rfl (by decide +kernel) ⟨Nat.le_of_ble_eq_true rfl, Nat.le_of_ble_eq_true rfl⟩) ⟨gw_blind, gw_pre _ hK hP hz hN⟩ rfl rfl hl.1 rfl (lv_room (Nat.le_of_ble_eq_true rfl)) dX5_mirror_39 ⟨Nat.zero_le _, Nat.zero_le _⟩) (fun _ => ?_)
  refine lv_if_ne (tgt := 47) hx hb dX5_mirror_42 (by decide) (fun c4 => ?_) (fun c4 => ?_)
  rotate_left
  · refine lv_iconst (v := -1) hx hb dX5_mirror_45 (by decide) ?_
    exact bad (fun h => bI_z c4 h.2.2.2) 46 ls dX5_mirror_46
  have h3 := bI_nz c4
  refine lv_aload_n hx hb dX5_mirror_47 rfl (lv_at hl 0 rfl) ?_
  refine q_getR hx hb hts hi_X5 hown hK hP ob_0 rfl 2 (by decide) rfl (hts (.fieldLink RX5 25 "MirrorNet" "mirrors" "[LMirrorNet$Mirror;") (by decide +kernel)) (fun _ h9 => h9) dX5_mirror_48 ?_
  refine lv_aload_n hx hb dX5_mirror_51 rfl (lv_at hl 0 rfl) ?_
  refine q_getI hx hb hts hi_X5 hown hK hP ob_0 rfl 5 (by decide) rfl (hts (.fieldLink RX5 90 "MirrorNet" "mirrorCount" "I") (by decide +kernel)) (fun _ h9 => h9) dX5_mirror_52 ?_
  rw [hnm]
  have hA : ∀ q : Nat, s.heap.size ≤ q → (fun q => z ≤ q) q := fun q h => Nat.le_trans hz h
  refine va_new (ci := 3) (fs := [.int 0, .int 0, .null, .int 0, .int 0, .int 0, .long 0, .int 0, .int 0, .int 0]) (C := RX3) (T := TX3) (N := 10) hx hb hts hi_X3 tyX3 tyX3_ok hown (hts (.classLink RX5 23 RX3) (by decide +kernel)) (hts (.instantiable RX3 10) (by decide +kernel)) (hts (.initialized RX3) (by decide +kernel)) hK hP (wl_D hAD kc M) hS hA rfl (fun j hj => by rcases (show j = 0 ∨ j = 1 ∨ j = 2 ∨ j = 3 ∨ j = 4 ∨ j = 5 ∨ j = 6 ∨ j = 7 ∨ j = 8 ∨ j = 9 by omega) with rfl | rfl | rfl | rfl | rfl | rfl | rfl | rfl | rfl | rfl <;> rfl) (Nat.le_of_ble_eq_true rfl) (Nat.le_of_ble_eq_true rfl) dX5_mirror_55 (fun q1 H hP1 hD1 hS1 => ?_)
  refine lv_dup hx hb dX5_mirror_58 rfl ?_
  refine lv_iload_n hx hb dX5_mirror_59 rfl (lv_at hl 1 rfl) ?_
  refine lv_iload_n hx hb dX5_mirror_60 rfl (lv_at hl 2 rfl) ?_
  refine lv_iload_n hx hb dX5_mirror_61 rfl (lv_at hl 3 rfl) ?_
  have hFc := free_last hD1 hS1 hA
  refine va_callv (va_runIN (As := [.int x1, .int x2, .int x3]) (rest := [.ref q1, .int (nI nm), .ref (ad 11)]) ⟨hx, hb, hml, hown, hts⟩ (c_X3_init l (D := D) (kc := kc) (h0 := q1) (sz := H.size) (a1 := x1) (a2 := x2) (a3 := x3)) ⟨va_cnB 3 hts gX5_mirror_X3_init_n93 rfl rfl rfl (hN (.methodLinkNest RX5 93 yX3_init "MirrorNet") nw_31) (hts (.initialized RX3) (by decide +kernel)) (by decide +kernel) ⟨Nat.le_of_ble_eq_true rfl, Nat.le_of_ble_eq_true rfl⟩, rfl, hts (.instanceMethod yX3_init) (by decide +kernel)⟩ ⟨pc_blind, pc_pre _ hK (pl_last hP1) (dl_last hD1) hN hAM hAA⟩ rfl rfl hl.1 rfl (lv_room (Nat.le_of_ble_eq_true rfl)) dX5_mirror_62 ⟨Nat.le_of_ble_eq_true rfl, Nat.le_of_ble_eq_true rfl⟩) hS1 (fun q _ h => hFc q h) hFc (fun u t H1 locs ht hvm hw hB hz1 hk1 hS2 => ?_)
  obtain ⟨w1, ⟨q2, rfl⟩, hP2, hD2⟩ := hB
  rw [ht] at hP2
  obtain ⟨hP3, hD3⟩ := join_last hP1 hD1 hk1 hFc hP2 hD2
  refine va_astq hx hb hK hP3 hD3 hS2 11 3 (62 + 2 * nm) 3 (r := (RX3, TX3, 10)) (f := fun j => if j < nm then some (ad (62 + 2 * j)) else none) (n := 8) (cA := kc 3) (vs := [.int x1, .int x3, .ref q2, .int x2, .int 0, .int (-1), .long 0, .int 0, .int 0, .int 0]) (by rw [List.getElem?_append_left (by rw [wl_len]; omega), wl_at (by omega), ce_ar10 ar_11]) rfl (by rw [List.getElem?_append_right (by rw [wl_len]; omega), wl_len, Nat.sub_self]; rfl) rfl (vp_in_nI hlt (by omega)) dX5_mirror_65 (fun H2 locs2 hP4 hD4 hS4 => ?_)
  rw [nI_clamp (by omega)] at hP4 hD4
  have hP5 : va_P D vwCl (wl (adx ad nm q1 q2) kc (nm + 1) (mnw nm x1 x2 x3 M)) H2 := ml_P hP4
  have hAD5 : AD (adx ad nm q1 q2) (nm + 1) z := ml_AD hD4
  have e0 : adx ad nm q1 q2 0 = ad 0 := adx_lt (by omega)
  have hl : lv_has ls 4 [(0, .ref (adx ad nm q1 q2 0)), (1, .int x1), (2, .int x2), (3, .int x3)] := by rw [e0]; exact hl
  have hg5 : gI (mnw nm x1 x2 x3 M) 0 5 = nI nm := by
    show (mnw nm x1 x2 x3 M).1 0 5 = nI nm
    rw [mnw_I (by omega) (by omega)]
    exact hnm
  refine lv_aload_n hx hb dX5_mirror_66 rfl (lv_at hl 0 rfl) ?_
  refine lv_dup hx hb dX5_mirror_67 rfl ?_
  refine q_getI hx hb hts hi_X5 hown hK hP5 ob_0 rfl 5 (by decide) rfl (hts (.fieldLink RX5 90 "MirrorNet" "mirrorCount" "I") (by decide +kernel)) (fun _ h9 => h9) dX5_mirror_68 ?_
  rw [hg5]
  refine lv_iconst (v := 1) hx hb dX5_mirror_71 (by decide) ?_
  refine lv_iadd hx hb dX5_mirror_72 ?_
  rw [show nI nm + (1 : Int32) = nI (nm + 1) from nI_add nm 1]
  refine q_putI hx hb hts hi_X5 tyX5 tyX5_ok nmX5 hown hK hP5 hAD5 hS4 ob_0 rfl 5 (by decide) rfl (hts (.fieldLink RX5 90 "MirrorNet" "mirrorCount" "I") (by decide +kernel)) (fun _ h9 => h9) rfl (ty := .int) (by decide +kernel) rfl rfl dX5_mirror_73 (fun H6 locs6 hP6 hS6 => ?_)
  refine lv_aload_n hx hb dX5_mirror_76 rfl (lv_at hl 0 rfl) ?_
  refine q_getI hx hb hts hi_X5 hown hK hP6 ob_0 rfl 5 (by decide) rfl (hts (.fieldLink RX5 90 "MirrorNet" "mirrorCount" "I") (by decide +kernel)) (fun _ h9 => h9) dX5_mirror_77 ?_
  rw [gI_s]
  refine lv_iconst (v := 1) hx hb dX5_mirror_80 (by decide) ?_
  refine lv_isub hx hb dX5_mirror_81 ?_
  rw [show nI (nm + 1) - (1 : Int32) = nI nm from (nI_sub (by omega) : nI (nm + 1) - nI 1 = nI (nm + 1 - 1))]
  rw [hQ]
  refine W.widen (k := 2) (n := 13) (Nat.le_of_ble_eq_true rfl) (Nat.le_of_ble_eq_true rfl) ?_
  exact W.iret hx hb hr (fun t ht _ => ⟨⟨nI nm, (nm + 1, adx ad nm q1 q2, sI (mnw nm x1 x2 x3 M) 0 5 (nI (nm + 1))), rfl, Or.inr ⟨⟨hlt, h1, h2, h3⟩, rfl, q1, q2, rfl, hAD5⟩, (show va_P D vwCl (wl (adx ad nm q1 q2) kc (nm + 1) (sI (mnw nm x1 x2 x3 M) 0 5 (nI (nm + 1)))) t.heap by rw [ht]; exact hP6)⟩, hS6.F ht⟩) hS6.2.2 dX5_mirror_82 hlk
