theorem nest_any {w : Cond} (h : isNest w = true) {a : Array Value} {s : State} (hw : w.before a s = true) : va_Nw w s := by
  cases w <;> first | exact hw | cases h
theorem arrT_of {s : State} {a : Array Value} {ty : FieldType} (h : (Cond.arrayClass ty).before a s = true) : ∃ cA, ArrOfT s cA ty ∧ s.vm.findClass ("[" ++ ty.toString) = some cA := by
  obtain ⟨cA, kA, comp, h1, h2, h3⟩ := Cond.arrayClass_spec h
  exact ⟨cA, fun N z => ⟨(fun k h => by cases h), kA, h2, comp, h3⟩, h1⟩
theorem arrO_of {s : State} {C : String} (h : va_AO C s) : ∃ cA, ArrOfT s cA (.object C) ∧ va_RA s cA (.object C) := by
  obtain ⟨comp, cA, kA, h1, h2, h3, h4, h5⟩ := Cond.arrayOver_spec h
  exact ⟨cA, fun N z => ⟨(fun k h => by cases h), kA, h3, comp, h4⟩, kA, comp, h3, h4, h1, h5⟩
theorem kc_of {D : va_G} {s : State} {a : Array Value} (hc : ∀ (k : Nat) (q : vw_C), vwCl[k]? = some q → u_Kn s q.1 q.2.1 q.2.2 (D.1 k) (D.2 k)) (h0 : (Cond.arrayClass .int).before a s = true) (h1 : (Cond.arrayClass .long).before a s = true) (h2 : (Cond.arrayClass .boolean).before a s = true) (h3 : va_AO "MirrorNet$Mirror" s) (h4 : va_AO "MirrorNet$Asker" s) : ∃ kc : Nat → ClassId, va_K D vwCl (tysOf kc) s := by
  obtain ⟨k0, p0, r0⟩ := arrT_of h0
  obtain ⟨k1, p1, r1⟩ := arrT_of h1
  obtain ⟨k2, p2, r2⟩ := arrT_of h2
  obtain ⟨k3, p3, r3⟩ := arrO_of h3
  obtain ⟨k4, p4, r4⟩ := arrO_of h4
  refine ⟨fun k => match k with | 0 => k0 | 1 => k1 | 2 => k2 | 3 => k3 | _ => k4, hc, ?_⟩
  intro k q hq
  match k, hq with
  | 0, hq => cases hq; exact ⟨p0, r0⟩
  | 1, hq => cases hq; exact ⟨p1, r1⟩
  | 2, hq => cases hq; exact ⟨p2, r2⟩
  | 3, hq => cases hq; exact ⟨p3, r3⟩
  | 4, hq => cases hq; exact ⟨p4, r4⟩
  | k + 5, hq => simp [tysOf] at hq
set_option maxHeartbeats 4000000 in
set_option maxRecDepth 100000 in
/-- THE LAW, from its entry -/
theorem whole_start {p : Program} {e : Env} {s : State} {m : MethodId} {below : List Frame} {meth : Method} {c : Code} (l : Launch) {b L : Nat} {xs : Nat → Int32} (hL : L ≤ 2048) (C0 : lw_At p s m meth c b L xs) : W p l e room_1 s m #[Value.ref b] below meth c s.heap [] 0 0 (lw_Z below #[Value.ref b] s) (entryFrame m ([Value.ref b] : List Value).toArray 4) := by
  obtain ⟨hx, hb, hr, hml, hown, hts, hX, hbl, hlocks, hgv⟩ := id C0
  have hown : s.vm.findClass RL = some m.cls := hown
  have htsL : ∀ w ∈ wsL_law, w.before #[Value.ref b] s = true := fun w h => hts w (wsL_law_in w h)
  have hA : ∀ q : Nat, s.heap.size ≤ q → (fun q : Nat => s.heap.size ≤ q) q := fun _ h => h
  obtain ⟨c0, iS0, hKn0⟩ := u_known (C := RX0) (T := TX0) (N := 6) (n := 6) hts lin_X0 (hts (.instantiable RX0 6) (by decide +kernel))
  obtain ⟨c1, iS1, hKn1⟩ := u_known (C := RX1) (T := TX1) (N := 10) (n := 10) hts lin_X1 (hts (.instantiable RX1 10) (by decide +kernel))
  obtain ⟨c2, iS2, hKn2⟩ := u_known (C := RX2) (T := TX2) (N := 4) (n := 4) hts lin_X2 (hts (.instantiable RX2 4) (by decide +kernel))
  obtain ⟨c3, iS3, hKn3⟩ := u_known (C := RX3) (T := TX3) (N := 10) (n := 10) hts lin_X3 (hts (.instantiable RX3 10) (by decide +kernel))
  obtain ⟨c4, iS4, hKn4⟩ := u_known (C := RX4) (T := TX4) (N := 8) (n := 8) hts lin_X4 (hts (.instantiable RX4 8) (by decide +kernel))
  obtain ⟨c5, iS5, hKn5⟩ := u_known (C := RX5) (T := TX5) (N := 8) (n := 8) hts lin_X5 (hts (.instantiable RX5 8) (by decide +kernel))
  obtain ⟨c6, iS6, hKn6⟩ := u_known (C := RX6) (T := TX6) (N := 40) (n := 40) hts lin_X6 (hts (.instantiable RX6 40) (by decide +kernel))
  obtain ⟨dC, dI, hKc⟩ : ∃ (dC : Nat → ClassId) (dI : Nat → Nat → Nat), ∀ (k : Nat) (q : vw_C), vwCl[k]? = some q → u_Kn s q.1 q.2.1 q.2.2 (dC k) (dI k) := by
    refine ⟨fun k => match k with | 0 => c0 | 1 => c1 | 2 => c2 | 3 => c3 | 4 => c4 | 5 => c5 | _ => c6, fun k => match k with | 0 => iS0 | 1 => iS1 | 2 => iS2 | 3 => iS3 | 4 => iS4 | 5 => iS5 | _ => iS6, ?_⟩
    intro k q hq
    match k, hq with
    | 0, hq => cases hq; exact hKn0
    | 1, hq => cases hq; exact hKn1
    | 2, hq => cases hq; exact hKn2
    | 3, hq => cases hq; exact hKn3
    | 4, hq => cases hq; exact hKn4
    | 5, hq => cases hq; exact hKn5
    | 6, hq => cases hq; exact hKn6
    | k + 7, hq => simp [vwCl] at hq
  have hAM : va_AO "MirrorNet$Mirror" s := va_AO.of (hts (.arrayOver (.object "MirrorNet$Mirror")) (by decide +kernel))
  have hAA : va_AO "MirrorNet$Asker" s := va_AO.of (hts (.arrayOver (.object "MirrorNet$Asker")) (by decide +kernel))
  have hN : ∀ w ∈ nestW, va_Nw w s := fun w hw => by
    have h1 := hts w (nest_in w hw)
    exact nest_any (nest_is hw) h1
  obtain ⟨kc, hK⟩ := kc_of (D := (dC, dI)) hKc (hts (.arrayClass .int) (by decide +kernel)) (hts (.arrayClass .long) (by decide +kernel)) (hts (.arrayClass .boolean) (by decide +kernel)) hAM hAA
  generalize (dC, dI) = D at hK
  have hS : va_S (fun q : Nat => s.heap.size ≤ q) s.heap s.heap [] := va_S.rf
  have hP : va_P D vwCl [] s.heap := fun k q h => by simp at h
  have hD : va_D (fun q : Nat => s.heap.size ≤ q) [] := ⟨fun i j p q h => by simp at h, fun k q h => by simp at h⟩
  have hl := lv_entry ([.ref b]) (n := 4) (Nat.le_of_ble_eq_true rfl)
  rw [lg_entry_eq]
  generalize (lg_sl ([.ref b]) ++ List.replicate (4 - (lg_sl ([.ref b])).length) Slot.unset).toArray = ls at hl ⊢
  have hl : lv_has ls 4 [(0, .ref b)] := hl
  refine va_new (ci := 5) (fs := [.null, .null, .null, .null, .null, .int 0, .int 0, .int 0]) (C := RX5) (T := TX5) (N := 8) hx hb hts lin_X5 tyX5 tyX5_ok hown (hts (.classLink RL 7 RX5) (by decide +kernel)) (hts (.instantiable RX5 8) (by decide +kernel)) (hts (.initialized RX5) (by decide +kernel)) hK hP hD hS hA rfl (fun j hj => by rcases (show j = 0 ∨ j = 1 ∨ j = 2 ∨ j = 3 ∨ j = 4 ∨ j = 5 ∨ j = 6 ∨ j = 7 by omega) with rfl | rfl | rfl | rfl | rfl | rfl | rfl | rfl <;> rfl) (Nat.le_of_ble_eq_true rfl) (Nat.le_of_ble_eq_true rfl) dL_law_0 (fun q0 H hP hD hS => ?_)
  have hP : va_P D vwCl [(q0, .inr (5, [.null, .null, .null, .null, .null, .int 0, .int 0, .int 0]))] H := hP
  have hD : va_D (fun q : Nat => s.heap.size ≤ q) [(q0, .inr (5, [.null, .null, .null, .null, .null, .int 0, .int 0, .int 0]))] := hD
  refine lv_dup hx hb dL_law_3 rfl ?_
  have hFc := va_free (wc := [(q0, .inr (5, [.null, .null, .null, .null, .null, .int 0, .int 0, .int 0]))]) hD hS hA [0] rfl
  refine va_callv (va_runI (As := []) (rest := [.ref q0]) ⟨hx, hb, hml, hown, htsL⟩ (c_X5_init l (D := D) (kc := kc) (h0 := q0) (sz := H.size)) (cwI 0 htsL gL_law_X5_init rfl rfl rfl (hts (.initialized RX5) (by decide +kernel)) (hts (.methodLink RL 9 yX5_init) (by decide +kernel)) (hts (.instanceMethod yX5_init) (by decide +kernel)) rfl (by decide +kernel) ⟨(Nat.le_of_ble_eq_true rfl), (Nat.le_of_ble_eq_true rfl)⟩) ⟨pc_blind, pc_pre _ hK hP hD hN hAM hAA⟩ rfl rfl hl.1 rfl (lv_room (Nat.le_of_ble_eq_true rfl)) dL_law_4 ⟨(Nat.le_of_ble_eq_true rfl), (Nat.le_of_ble_eq_true rfl)⟩) hS (fun q _ h => hFc q h) hFc (fun u t H1 locs ht hvm hw hB hz1 hk1 hS => ?_)
  obtain ⟨w1, ⟨b5, e0, e5⟩, hP1, hD1⟩ := hB
  have e5 : w1 = w5 kc b5 := e5
  subst e5
  rw [ht] at hP1
  have hP : va_P D vwCl (w5 kc b5) H1 := hP1
  have hD : va_D (fun q : Nat => s.heap.size ≤ q) (w5 kc b5) := hD1.weaken (fun k q _ h => hFc q.1 h)
  clear hP1 hD1 hk1 hFc
  generalize H1 = H at hP hS ⊢
  refine W.widen (k := 35) (n := 1300) (Nat.le_of_ble_eq_true rfl) (Nat.le_of_ble_eq_true rfl) ?_
  refine lv_astore_n (lv' := [(1, .ref q0), (0, .ref b)]) hx hb dL_law_7 rfl hl (by decide) rfl (fun ls hl => ?_)
  refine va_new (ci := 6) (fs := [.int 0, .int 0, .null, .null, .int 0, .null, .null, .int 0, .null, .null, .null, .null, .null, .null, .null, .null, .null, .null, .null, .int 0, .null, .null, .null, .int 0, .null, .null, .null, .null, .null, .int 0, .int 0, .int 0, .int 0, .int 0, .int 0, .int 0, .int 0, .null, .null, .null]) (C := RX6) (T := TX6) (N := 40) hx hb hts lin_X6 tyX6 tyX6_ok hown (hts (.classLink RL 10 RX6) (by decide +kernel)) (hts (.instantiable RX6 40) (by decide +kernel)) (hts (.initialized RX6) (by decide +kernel)) hK hP hD hS hA rfl (fun j hj => by rcases (show j = 0 ∨ j = 1 ∨ j = 2 ∨ j = 3 ∨ j = 4 ∨ j = 5 ∨ j = 6 ∨ j = 7 ∨ j = 8 ∨ j = 9 ∨ j = 10 ∨ j = 11 ∨ j = 12 ∨ j = 13 ∨ j = 14 ∨ j = 15 ∨ j = 16 ∨ j = 17 ∨ j = 18 ∨ j = 19 ∨ j = 20 ∨ j = 21 ∨ j = 22 ∨ j = 23 ∨ j = 24 ∨ j = 25 ∨ j = 26 ∨ j = 27 ∨ j = 28 ∨ j = 29 ∨ j = 30 ∨ j = 31 ∨ j = 32 ∨ j = 33 ∨ j = 34 ∨ j = 35 ∨ j = 36 ∨ j = 37 ∨ j = 38 ∨ j = 39 by omega) with rfl | rfl | rfl | rfl | rfl | rfl | rfl | rfl | rfl | rfl | rfl | rfl | rfl | rfl | rfl | rfl | rfl | rfl | rfl | rfl | rfl | rfl | rfl | rfl | rfl | rfl | rfl | rfl | rfl | rfl | rfl | rfl | rfl | rfl | rfl | rfl | rfl | rfl | rfl | rfl <;> rfl) (Nat.le_of_ble_eq_true rfl) (Nat.le_of_ble_eq_true rfl) dL_law_8 (fun r0 H hP hD hS => ?_)
  refine lv_dup hx hb dL_law_11 rfl ?_
  have hFc := free_last hD hS hA
  refine va_callv (va_runI (As := []) (rest := [.ref r0]) ⟨hx, hb, hml, hown, htsL⟩ (c_X6_init l (D := D) (kc := kc) (h0 := r0) (sz := H.size)) (cwI 0 htsL gL_law_X6_init rfl rfl rfl (hts (.initialized RX6) (by decide +kernel)) (hts (.methodLink RL 12 yX6_init) (by decide +kernel)) (hts (.instanceMethod yX6_init) (by decide +kernel)) rfl (by decide +kernel) ⟨(Nat.le_of_ble_eq_true rfl), (Nat.le_of_ble_eq_true rfl)⟩) ⟨pc_blind, pc_pre _ hK (pl_last hP) (dl_last hD) hN hAM hAA⟩ rfl rfl hl.1 rfl (lv_room (Nat.le_of_ble_eq_true rfl)) dL_law_12 ⟨(Nat.le_of_ble_eq_true rfl), (Nat.le_of_ble_eq_true rfl)⟩) hS (fun q _ h => hFc q h) hFc (fun u t H1 locs ht hvm hw hB hz1 hk1 hS => ?_)
  obtain ⟨w1, ⟨b6, e35, e6⟩, hP1, hD1⟩ := hB
  have e6 : w1 = w6 kc b6 := e6
  subst e6
  rw [ht] at hP1
  obtain ⟨hP, hD⟩ := join_last hP hD hk1 hFc hP1 hD1
  have hP2 := st_P hP
  have hAD := st_AD hD
  refine W.widen (k := 70) (n := 4000) (Nat.le_of_ble_eq_true rfl) (Nat.le_of_ble_eq_true rfl) ?_
  refine lv_astore_n (lv' := [(2, .ref r0), (1, .ref q0), (0, .ref b)]) hx hb dL_law_15 rfl hl (by decide) rfl (fun ls hl => ?_)
  refine lv_iconst (v := nI 0) hx hb dL_law_16 (by decide) ?_
  refine lv_istore_n (lv' := [(3, .int (nI 0)), (2, .ref r0), (1, .ref q0), (0, .ref b)]) hx hb dL_law_17 rfl hl (by decide) rfl (fun ls hl => ?_)
  have a0 : ad0 b5 b6 0 = q0 := e0
  have a35 : ad0 b5 b6 35 = r0 := e35
  have hl : lv_has ls 4 [(0, .ref b), (1, .ref (ad0 b5 b6 0)), (2, .ref (ad0 b5 b6 35)), (3, .int (nI (4 * 0)))] := by
    rw [a0, a35]
    exact lv_sub hl [3, 2, 1, 0] rfl
  exact law_loop hL C0 hK hN hAM hAA (L + 1) 0 (by omega) (by omega) 0 (ad0 b5 b6) M0 H1 locs ls hAD inv_start hP2 hS hl
