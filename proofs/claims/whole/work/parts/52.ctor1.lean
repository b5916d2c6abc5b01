/-- a constructor's contract out of a walk from pc 0 -/
theorem q_metI {l : Launch} {y : MethodName} {ws ws' : List Cond} {rm : Room} {av : List Value} {B : State → Prop} {Qc : Array Value → State → Outcome → State → Prop} {mc ms : Nat} {free : Addr → Prop} {cc : ByteArray} {maxL : Nat} {ret : Option FieldType}
    (hy : plainName y.cls = true) (hw : ws = Cond.code y cc maxL ret :: ws') (hlen : (lg_sl av).length ≤ maxL)
    (body : ∀ (p : Program) (e : Env) (s : State) (m : MethodId) (args : Array Value) (below : List Frame) (meth : Method) (c : Code) (Q : State → Prop) (ls : Array Slot), p.tables.exec = Jvm.exec → c.code = cc → meth.sig.returnType = ret → meth.locks = false → c.maxLocals = maxL → s.vm.findClass y.cls = some m.cls → (∀ w ∈ ws, w.before args s = true) → B s → Q = MQ below Qc args s mc ms free → lv_has ls maxL (lv_args 0 av) → meth.name = y.name →
      W p l e rm s m args below meth c s.heap [] 0 0 Q (F0 m 0 ls [])) : Met l y ws rm (va_Pc av B) Qc mc ms free := by
  refine Met.ofW (cc := cc) (maxL := maxL) (ret := ret) hy hw ?_
  intro p e s m args below meth c s₁ B0 hml hv
  obtain ⟨ha, hB⟩ := hv
  have hl := lv_entry av (n := maxL) hlen
  refine W.eq (g2 := F0 m 0 ((lg_sl av ++ List.replicate (maxL - (lg_sl av).length) Slot.unset).toArray) []) ?_ ?_
  · rw [ha, lg_entry_eq]
  · exact body p e s m args below meth c _ _ B0.exec B0.bytes B0.returns B0.notSynchronized hml (findClass_of_methodNamed B0.named) (atoms_spec (ws := ws) B0.pre) hB rfl hl (name_of_methodNamed B0.named B0.method).1

def rm_X0_init : Room := { frames := 1, cells := 2, slots := 16, locals := 23 }
set_option maxHeartbeats 4000000 in
set_option maxRecDepth 100000 in
theorem c_X0_init (l : Launch) {D : va_G} {kc : Nat → ClassId} {h0 sz : Nat} : Met l yX0_init wsX0_init rm_X0_init (va_Pc [.ref h0] (PreC D kc [(h0, .inr (0, [.null, .null, .int 0, .int 0, .int 0, .int 0]))] sz)) (QC D [(h0, .inr (0, [.null, .null, .int 0, .int 0, .int 0, .int 0]))] sz (fun w => ∃ q7 q23 : Nat, w = [(h0, .inr (0, [.ref q7, .ref q23, .int 0, .int 9999, .int (-1), .int 0])), (q7, .inl (kc 0, 8, .inl (fl 8 (-1) (fun _ => 0)))), (q23, .inl (kc 0, 8, .inl (fun _ => 0)))])) 2 16 (va_A [(h0, .inr (0, [.null, .null, .int 0, .int 0, .int 0, .int 0]))] sz) := by
  refine q_metI (cc := cX0_init) (maxL := 1) (ret := none) (by decide) rfl (Nat.le_of_ble_eq_true rfl) ?_
  intro p e s m args below meth c Q ls hx hb hr hlk hml hown hts hB hQ hl hin
  obtain ⟨hsz, hP, hK, hD0, hN, hAM, hAA⟩ := hB
  subst hsz
  have hin : meth.name = "<init>" := hin
  have hown : s.vm.findClass RX0 = some m.cls := hown
  have hl : lv_has ls 1 [(0, .ref h0)] := hl
  have hi : ∀ w ∈ u_ws RX0 TX0 6, w ∈ wsX0_init := by decide +kernel
  have hD := hD0.self (sz := s.heap.size)
  generalize hAe : va_A [(h0, .inr (0, [.null, .null, .int 0, .int 0, .int 0, .int 0]))] s.heap.size = A at hD hQ ⊢
  have hA : ∀ q : Nat, s.heap.size ≤ q → A q := fun q h => by rw [← hAe]; exact Or.inr h
  have hS : va_S A s.heap s.heap [] := va_S.rf
  refine lv_aload_n hx hb dX0_init_0 rfl (lv_at hl 0 rfl) ?_
  refine W.objInit hx hb hown (hts (.methodLink RX0 3 objectInit) (by decide +kernel)) (hts (.instanceMethod objectInit) (by decide +kernel)) (hts _ (List.mem_of_getElem? (i := 3) rfl)) rfl (by rw [hml]; exact hl.1) rfl dX0_init_1 (Nat.le_of_ble_eq_true rfl) (Nat.le_of_ble_eq_true rfl) ?_
  refine W.eq (g2 := F0 m 4 ls []) rfl ?_
  refine lv_aload_n hx hb dX0_init_4 rfl (lv_at hl 0 rfl) ?_
  refine lv_bipush (v := 8) hx hb dX0_init_5 (by decide) ?_
  refine q_newI (n := 8) (N' := 8) hx hb (hts (.arrayClass .int) (by decide +kernel)) hK hP hD hS hA (by decide) (by decide) (by decide) (Nat.le_of_ble_eq_true rfl) (Nat.le_of_ble_eq_true rfl) dX0_init_7 (fun q7 H hP hD hS => ?_)
  have hP : va_P D vwCl [(h0, .inr (0, [.null, .null, .int 0, .int 0, .int 0, .int 0])), (q7, .inl (kc 0, 8, .inl (fun _ => 0)))] H := hP
  have hD : va_D A [(h0, .inr (0, [.null, .null, .int 0, .int 0, .int 0, .int 0])), (q7, .inl (kc 0, 8, .inl (fun _ => 0)))] := hD
  refine W.widen (k := 1) (n := 8) (Nat.le_of_ble_eq_true rfl) (Nat.le_of_ble_eq_true rfl) ?_
  refine va_putF (D := D) (ci := 0) (v := .ref q7) (ty := .array .int) (C := RX0) (T := TX0) (N := 6) hx hb hts hi tyX0 tyX0_ok nmX0 hown hK hP hD hS 0 rfl rfl 0 (by decide) (hts (.fieldLink RX0 9 "MirrorNet$Asker" "costs" "[I") (by decide +kernel)) (fun _ h9 => h9) rfl hin rfl (by decide +kernel) rfl rfl (Nat.le_of_ble_eq_true rfl) dX0_init_9 (fun H locs hP hD hS => ?_)
  have hP : va_P D vwCl [(h0, .inr (0, [.ref q7, .null, .int 0, .int 0, .int 0, .int 0])), (q7, .inl (kc 0, 8, .inl (fun _ => 0)))] H := hP
  have hD : va_D A [(h0, .inr (0, [.ref q7, .null, .int 0, .int 0, .int 0, .int 0])), (q7, .inl (kc 0, 8, .inl (fun _ => 0)))] := hD
  refine lv_aload_n hx hb dX0_init_12 rfl (lv_at hl 0 rfl) ?_
  refine va_get (D := D) (ci := 0) (v := .ref q7) (C := RX0) (T := TX0) (N := 6) hx hb hts hi hown hK hP 0 rfl rfl 0 (by decide) (hts (.fieldLink RX0 9 "MirrorNet$Asker" "costs" "[I") (by decide +kernel)) (fun _ h9 => h9) rfl dX0_init_13 ?_
  refine lv_iconst (v := -1) hx hb dX0_init_16 (by decide) ?_
  have hPc := hP.sub (ws' := [(q7, .inl (kc 0, 8, .inl (fun _ => 0)))]) [1] rfl
  have hDc := hD.sub (ws' := [(q7, .inl (kc 0, 8, .inl (fun _ => 0)))]) [1] (by decide) rfl
  have hFc := va_free (wc := [(q7, .inl (kc 0, 8, .inl (fun _ => 0)))]) hD hS hA [1] rfl
  refine va_callv (va_runS (As := [.ref q7, .int (-1)]) (rest := []) ⟨hx, hb, hml, hown, hts⟩ (c_fill l (D := D) (kc := kc) (h0 := q7) (sz := H.size) (n := 8) (v := -1) (f := fun _ => 0) (by decide)) (va_cwS 2 hts gX0_init_J7_fill_53178 rfl rfl rfl (by decide +kernel) ⟨Nat.le_of_ble_eq_true rfl, Nat.le_of_ble_eq_true rfl⟩) ⟨pc_blind, pc_pre _ hK hPc hDc hN hAM hAA⟩ rfl rfl hl.1 rfl (lv_room (Nat.le_of_ble_eq_true rfl)) dX0_init_17 ⟨Nat.le_of_ble_eq_true rfl, Nat.le_of_ble_eq_true rfl⟩) hS (fun q _ h => hFc q h) hFc (fun u t H1 locs ht hvm hw hB hz1 hk1 hS => ?_)
  obtain ⟨w1, rfl, hP1, hD1⟩ := hB
  rw [ht] at hP1
  obtain ⟨hP, hD⟩ := va_join (wr := [(h0, .inr (0, [.ref q7, .null, .int 0, .int 0, .int 0, .int 0]))]) hP hD [1] [0] rfl rfl (by decide) (by decide) hk1 hFc hP1 hD1
  generalize H1 = H at hP hS ⊢
  have hP := hP.sub (ws' := [(h0, .inr (0, [.ref q7, .null, .int 0, .int 0, .int 0, .int 0])), (q7, .inl (kc 0, 8, .inl (fl 8 (-1) (fun _ => 0))))]) [0, 1] rfl
  have hD := hD.sub (ws' := [(h0, .inr (0, [.ref q7, .null, .int 0, .int 0, .int 0, .int 0])), (q7, .inl (kc 0, 8, .inl (fl 8 (-1) (fun _ => 0))))]) [0, 1] (by decide) rfl
  refine W.widen (k := 1) (n := 8) (Nat.le_of_ble_eq_true rfl) (Nat.le_of_ble_eq_true rfl) ?_
  refine lv_aload_n hx hb dX0_init_20 rfl (lv_at hl 0 rfl) ?_
  refine lv_bipush (v := 8) hx hb dX0_init_21 (by decide) ?_
  refine q_newI (n := 8) (N' := 8) hx hb (hts (.arrayClass .int) (by decide +kernel)) hK hP hD hS hA (by decide) (by decide) (by decide) (Nat.le_of_ble_eq_true rfl) (Nat.le_of_ble_eq_true rfl) dX0_init_23 (fun q23 H hP hD hS => ?_)
  have hP : va_P D vwCl [(h0, .inr (0, [.ref q7, .null, .int 0, .int 0, .int 0, .int 0])), (q7, .inl (kc 0, 8, .inl (fl 8 (-1) (fun _ => 0)))), (q23, .inl (kc 0, 8, .inl (fun _ => 0)))] H := hP
  have hD : va_D A [(h0, .inr (0, [.ref q7, .null, .int 0, .int 0, .int 0, .int 0])), (q7, .inl (kc 0, 8, .inl (fl 8 (-1) (fun _ => 0)))), (q23, .inl (kc 0, 8, .inl (fun _ => 0)))] := hD
  refine W.widen (k := 2) (n := 16) (Nat.le_of_ble_eq_true rfl) (Nat.le_of_ble_eq_true rfl) ?_
  refine va_putF (D := D) (ci := 0) (v := .ref q23) (ty := .array .int) (C := RX0) (T := TX0) (N := 6) hx hb hts hi tyX0 tyX0_ok nmX0 hown hK hP hD hS 0 rfl rfl 1 (by decide) (hts (.fieldLink RX0 21 "MirrorNet$Asker" "line" "[I") (by decide +kernel)) (fun _ h9 => h9) rfl hin rfl (by decide +kernel) rfl rfl (Nat.le_of_ble_eq_true rfl) dX0_init_25 (fun H locs hP hD hS => ?_)
  have hP : va_P D vwCl [(h0, .inr (0, [.ref q7, .ref q23, .int 0, .int 0, .int 0, .int 0])), (q7, .inl (kc 0, 8, .inl (fl 8 (-1) (fun _ => 0)))), (q23, .inl (kc 0, 8, .inl (fun _ => 0)))] H := hP
  have hD : va_D A [(h0, .inr (0, [.ref q7, .ref q23, .int 0, .int 0, .int 0, .int 0])), (q7, .inl (kc 0, 8, .inl (fl 8 (-1) (fun _ => 0)))), (q23, .inl (kc 0, 8, .inl (fun _ => 0)))] := hD
  refine lv_aload_n hx hb dX0_init_28 rfl (lv_at hl 0 rfl) ?_
  refine lv_sipush (v := 9999) hx hb dX0_init_29 (by decide) ?_
  refine va_put (D := D) (ci := 0) (v := .int 9999) (ty := .int) (C := RX0) (T := TX0) (N := 6) hx hb hts hi tyX0 tyX0_ok nmX0 hown hK hP hD hS 0 rfl rfl 3 (by decide) (hts (.fieldLink RX0 24 "MirrorNet$Asker" "mostAge" "I") (by decide +kernel)) (fun _ h9 => h9) rfl (by decide +kernel) rfl rfl (Nat.le_of_ble_eq_true rfl) dX0_init_32 (fun H locs hP hD hS => ?_)
  have hP : va_P D vwCl [(h0, .inr (0, [.ref q7, .ref q23, .int 0, .int 9999, .int 0, .int 0])), (q7, .inl (kc 0, 8, .inl (fl 8 (-1) (fun _ => 0)))), (q23, .inl (kc 0, 8, .inl (fun _ => 0)))] H := hP
  have hD : va_D A [(h0, .inr (0, [.ref q7, .ref q23, .int 0, .int 9999, .int 0, .int 0])), (q7, .inl (kc 0, 8, .inl (fl 8 (-1) (fun _ => 0)))), (q23, .inl (kc 0, 8, .inl (fun _ => 0)))] := hD
  refine lv_aload_n hx hb dX0_init_35 rfl (lv_at hl 0 rfl) ?_
  refine lv_iconst (v := -1) hx hb dX0_init_36 (by decide) ?_
  refine va_put (D := D) (ci := 0) (v := .int (-1)) (ty := .int) (C := RX0) (T := TX0) (N := 6) hx hb hts hi tyX0 tyX0_ok nmX0 hown hK hP hD hS 0 rfl rfl 4 (by decide) (hts (.fieldLink RX0 28 "MirrorNet$Asker" "last" "I") (by decide +kernel)) (fun _ h9 => h9) rfl (by decide +kernel) rfl rfl (Nat.le_of_ble_eq_true rfl) dX0_init_37 (fun H locs hP hD hS => ?_)
  have hP : va_P D vwCl [(h0, .inr (0, [.ref q7, .ref q23, .int 0, .int 9999, .int (-1), .int 0])), (q7, .inl (kc 0, 8, .inl (fl 8 (-1) (fun _ => 0)))), (q23, .inl (kc 0, 8, .inl (fun _ => 0)))] H := hP
  have hD : va_D A [(h0, .inr (0, [.ref q7, .ref q23, .int 0, .int 9999, .int (-1), .int 0])), (q7, .inl (kc 0, 8, .inl (fl 8 (-1) (fun _ => 0)))), (q23, .inl (kc 0, 8, .inl (fun _ => 0)))] := hD
  rw [hQ]
  exact W.vret hx hb hr (fun t ht hW => ⟨⟨(), rfl, trivial, _, ⟨q7, q23, rfl⟩, by rw [ht]; exact hP, by rw [hAe]; exact hD⟩, by rw [hAe]; exact hS.F ht⟩) hS.2.2 dX0_init_40 hlk

def rm_X1_init : Room := { frames := 1, cells := 3, slots := 36, locals := 23 }
set_option maxHeartbeats 4000000 in
set_option maxRecDepth 100000 in
theorem c_X1_init (l : Launch) {D : va_G} {kc : Nat → ClassId} {h0 sz : Nat} : Met l yX1_init wsX1_init rm_X1_init (va_Pc [.ref h0] (PreC D kc [(h0, .inr (1, [.null, .null, .null, .int 0, .int 0, .int 0, .int 0, .int 0, .int 0, .int 0]))] sz)) (QC D [(h0, .inr (1, [.null, .null, .null, .int 0, .int 0, .int 0, .int 0, .int 0, .int 0, .int 0]))] sz (fun w => ∃ q7 q15 q23 : Nat, w = [(h0, .inr (1, [.ref q7, .ref q15, .ref q23, .int 0, .int 0, .int 0, .int 0, .int 0, .int 0, .int 0])), (q7, .inl (kc 0, 12, .inl (fun _ => 0))), (q15, .inl (kc 0, 12, .inl (fun _ => 0))), (q23, .inl (kc 0, 12, .inl (fun _ => 0)))])) 3 36 (va_A [(h0, .inr (1, [.null, .null, .null, .int 0, .int 0, .int 0, .int 0, .int 0, .int 0, .int 0]))] sz) := by
  refine q_metI (cc := cX1_init) (maxL := 1) (ret := none) (by decide) rfl (Nat.le_of_ble_eq_true rfl) ?_
  intro p e s m args below meth c Q ls hx hb hr hlk hml hown hts hB hQ hl hin
  obtain ⟨hsz, hP, hK, hD0, hN, hAM, hAA⟩ := hB
  subst hsz
  have hin : meth.name = "<init>" := hin
  have hown : s.vm.findClass RX1 = some m.cls := hown
  have hl : lv_has ls 1 [(0, .ref h0)] := hl
  have hi : ∀ w ∈ u_ws RX1 TX1 10, w ∈ wsX1_init := by decide +kernel
  have hD := hD0.self (sz := s.heap.size)
  generalize hAe : va_A [(h0, .inr (1, [.null, .null, .null, .int 0, .int 0, .int 0, .int 0, .int 0, .int 0, .int 0]))] s.heap.size = A at hD hQ ⊢
  have hA : ∀ q : Nat, s.heap.size ≤ q → A q := fun q h => by rw [← hAe]; exact Or.inr h
  have hS : va_S A s.heap s.heap [] := va_S.rf
  refine lv_aload_n hx hb dX1_init_0 rfl (lv_at hl 0 rfl) ?_
  refine W.objInit hx hb hown (hts (.methodLink RX1 3 objectInit) (by decide +kernel)) (hts (.instanceMethod objectInit) (by decide +kernel)) (hts _ (List.mem_of_getElem? (i := 3) rfl)) rfl (by rw [hml]; exact hl.1) rfl dX1_init_1 (Nat.le_of_ble_eq_true rfl) (Nat.le_of_ble_eq_true rfl) ?_
  refine W.eq (g2 := F0 m 4 ls []) rfl ?_
  refine lv_aload_n hx hb dX1_init_4 rfl (lv_at hl 0 rfl) ?_
  refine lv_bipush (v := 12) hx hb dX1_init_5 (by decide) ?_
  refine q_newI (n := 12) (N' := 12) hx hb (hts (.arrayClass .int) (by decide +kernel)) hK hP hD hS hA (by decide) (by decide) (by decide) (Nat.le_of_ble_eq_true rfl) (Nat.le_of_ble_eq_true rfl) dX1_init_7 (fun q7 H hP hD hS => ?_)
  have hP : va_P D vwCl [(h0, .inr (1, [.null, .null, .null, .int 0, .int 0, .int 0, .int 0, .int 0, .int 0, .int 0])), (q7, .inl (kc 0, 12, .inl (fun _ => 0)))] H := hP
  have hD : va_D A [(h0, .inr (1, [.null, .null, .null, .int 0, .int 0, .int 0, .int 0, .int 0, .int 0, .int 0])), (q7, .inl (kc 0, 12, .inl (fun _ => 0)))] := hD
  refine W.widen (k := 1) (n := 12) (Nat.le_of_ble_eq_true rfl) (Nat.le_of_ble_eq_true rfl) ?_
  refine va_putF (D := D) (ci := 1) (v := .ref q7) (ty := .array .int) (C := RX1) (T := TX1) (N := 10) hx hb hts hi tyX1 tyX1_ok nmX1 hown hK hP hD hS 0 rfl rfl 0 (by decide) (hts (.fieldLink RX1 9 "MirrorNet$Asking" "gotFiles" "[I") (by decide +kernel)) (fun _ h9 => h9) rfl hin rfl (by decide +kernel) rfl rfl (Nat.le_of_ble_eq_true rfl) dX1_init_9 (fun H locs hP hD hS => ?_)
  have hP : va_P D vwCl [(h0, .inr (1, [.ref q7, .null, .null, .int 0, .int 0, .int 0, .int 0, .int 0, .int 0, .int 0])), (q7, .inl (kc 0, 12, .inl (fun _ => 0)))] H := hP
  have hD : va_D A [(h0, .inr (1, [.ref q7, .null, .null, .int 0, .int 0, .int 0, .int 0, .int 0, .int 0, .int 0])), (q7, .inl (kc 0, 12, .inl (fun _ => 0)))] := hD
  refine lv_aload_n hx hb dX1_init_12 rfl (lv_at hl 0 rfl) ?_
  refine lv_bipush (v := 12) hx hb dX1_init_13 (by decide) ?_
  refine q_newI (n := 12) (N' := 12) hx hb (hts (.arrayClass .int) (by decide +kernel)) hK hP hD hS hA (by decide) (by decide) (by decide) (Nat.le_of_ble_eq_true rfl) (Nat.le_of_ble_eq_true rfl) dX1_init_15 (fun q15 H hP hD hS => ?_)
  have hP : va_P D vwCl [(h0, .inr (1, [.ref q7, .null, .null, .int 0, .int 0, .int 0, .int 0, .int 0, .int 0, .int 0])), (q7, .inl (kc 0, 12, .inl (fun _ => 0))), (q15, .inl (kc 0, 12, .inl (fun _ => 0)))] H := hP
  have hD : va_D A [(h0, .inr (1, [.ref q7, .null, .null, .int 0, .int 0, .int 0, .int 0, .int 0, .int 0, .int 0])), (q7, .inl (kc 0, 12, .inl (fun _ => 0))), (q15, .inl (kc 0, 12, .inl (fun _ => 0)))] := hD
  refine W.widen (k := 2) (n := 24) (Nat.le_of_ble_eq_true rfl) (Nat.le_of_ble_eq_true rfl) ?_
  refine va_putF (D := D) (ci := 1) (v := .ref q15) (ty := .array .int) (C := RX1) (T := TX1) (N := 10) hx hb hts hi tyX1 tyX1_ok nmX1 hown hK hP hD hS 0 rfl rfl 1 (by decide) (hts (.fieldLink RX1 15 "MirrorNet$Asking" "gotPackages" "[I") (by decide +kernel)) (fun _ h9 => h9) rfl hin rfl (by decide +kernel) rfl rfl (Nat.le_of_ble_eq_true rfl) dX1_init_17 (fun H locs hP hD hS => ?_)
  have hP : va_P D vwCl [(h0, .inr (1, [.ref q7, .ref q15, .null, .int 0, .int 0, .int 0, .int 0, .int 0, .int 0, .int 0])), (q7, .inl (kc 0, 12, .inl (fun _ => 0))), (q15, .inl (kc 0, 12, .inl (fun _ => 0)))] H := hP
  have hD : va_D A [(h0, .inr (1, [.ref q7, .ref q15, .null, .int 0, .int 0, .int 0, .int 0, .int 0, .int 0, .int 0])), (q7, .inl (kc 0, 12, .inl (fun _ => 0))), (q15, .inl (kc 0, 12, .inl (fun _ => 0)))] := hD
  refine lv_aload_n hx hb dX1_init_20 rfl (lv_at hl 0 rfl) ?_
  refine lv_bipush (v := 12) hx hb dX1_init_21 (by decide) ?_
  refine q_newI (n := 12) (N' := 12) hx hb (hts (.arrayClass .int) (by decide +kernel)) hK hP hD hS hA (by decide) (by decide) (by decide) (Nat.le_of_ble_eq_true rfl) (Nat.le_of_ble_eq_true rfl) dX1_init_23 (fun q23 H hP hD hS => ?_)
  have hP : va_P D vwCl [(h0, .inr (1, [.ref q7, .ref q15, .null, .int 0, .int 0, .int 0, .int 0, .int 0, .int 0, .int 0])), (q7, .inl (kc 0, 12, .inl (fun _ => 0))), (q15, .inl (kc 0, 12, .inl (fun _ => 0))), (q23, .inl (kc 0, 12, .inl (fun _ => 0)))] H := hP
  have hD : va_D A [(h0, .inr (1, [.ref q7, .ref q15, .null, .int 0, .int 0, .int 0, .int 0, .int 0, .int 0, .int 0])), (q7, .inl (kc 0, 12, .inl (fun _ => 0))), (q15, .inl (kc 0, 12, .inl (fun _ => 0))), (q23, .inl (kc 0, 12, .inl (fun _ => 0)))] := hD
  refine W.widen (k := 3) (n := 36) (Nat.le_of_ble_eq_true rfl) (Nat.le_of_ble_eq_true rfl) ?_
  refine va_putF (D := D) (ci := 1) (v := .ref q23) (ty := .array .int) (C := RX1) (T := TX1) (N := 10) hx hb hts hi tyX1 tyX1_ok nmX1 hown hK hP hD hS 0 rfl rfl 2 (by decide) (hts (.fieldLink RX1 18 "MirrorNet$Asking" "gotMirrors" "[I") (by decide +kernel)) (fun _ h9 => h9) rfl hin rfl (by decide +kernel) rfl rfl (Nat.le_of_ble_eq_true rfl) dX1_init_25 (fun H locs hP hD hS => ?_)
  have hP : va_P D vwCl [(h0, .inr (1, [.ref q7, .ref q15, .ref q23, .int 0, .int 0, .int 0, .int 0, .int 0, .int 0, .int 0])), (q7, .inl (kc 0, 12, .inl (fun _ => 0))), (q15, .inl (kc 0, 12, .inl (fun _ => 0))), (q23, .inl (kc 0, 12, .inl (fun _ => 0)))] H := hP
  have hD : va_D A [(h0, .inr (1, [.ref q7, .ref q15, .ref q23, .int 0, .int 0, .int 0, .int 0, .int 0, .int 0, .int 0])), (q7, .inl (kc 0, 12, .inl (fun _ => 0))), (q15, .inl (kc 0, 12, .inl (fun _ => 0))), (q23, .inl (kc 0, 12, .inl (fun _ => 0)))] := hD
  rw [hQ]
  exact W.vret hx hb hr (fun t ht hW => ⟨⟨(), rfl, trivial, _, ⟨q7, q15, q23, rfl⟩, by rw [ht]; exact hP, by rw [hAe]; exact hD⟩, by rw [hAe]; exact hS.F ht⟩) hS.2.2 dX1_init_28 hlk

def rm_X2_init : Room := { frames := 1, cells := 3, slots := 120, locals := 23 }
set_option maxHeartbeats 4000000 in
set_option maxRecDepth 100000 in
theorem c_X2_init (l : Launch) {D : va_G} {kc : Nat → ClassId} {h0 sz : Nat} : Met l yX2_init wsX2_init rm_X2_init (va_Pc [.ref h0] (PreC D kc [(h0, .inr (2, [.null, .null, .null, .int 0]))] sz)) (QC D [(h0, .inr (2, [.null, .null, .null, .int 0]))] sz (fun w => ∃ q7 q15 q23 : Nat, w = [(h0, .inr (2, [.ref q7, .ref q15, .ref q23, .int 0])), (q7, .inl (kc 0, 40, .inl (fun _ => 0))), (q15, .inl (kc 0, 40, .inl (fun _ => 0))), (q23, .inl (kc 0, 40, .inl (fun _ => 0)))])) 3 120 (va_A [(h0, .inr (2, [.null, .null, .null, .int 0]))] sz) := by
  refine q_metI (cc := cX2_init) (maxL := 1) (ret := none) (by decide) rfl (Nat.le_of_ble_eq_true rfl) ?_
  intro p e s m args below meth c Q ls hx hb hr hlk hml hown hts hB hQ hl hin
  obtain ⟨hsz, hP, hK, hD0, hN, hAM, hAA⟩ := hB
  subst hsz
  have hin : meth.name = "<init>" := hin
  have hown : s.vm.findClass RX2 = some m.cls := hown
  have hl : lv_has ls 1 [(0, .ref h0)] := hl
  have hi : ∀ w ∈ u_ws RX2 TX2 4, w ∈ wsX2_init := by decide +kernel
  have hD := hD0.self (sz := s.heap.size)
  generalize hAe : va_A [(h0, .inr (2, [.null, .null, .null, .int 0]))] s.heap.size = A at hD hQ ⊢
  have hA : ∀ q : Nat, s.heap.size ≤ q → A q := fun q h => by rw [← hAe]; exact Or.inr h
  have hS : va_S A s.heap s.heap [] := va_S.rf
  refine lv_aload_n hx hb dX2_init_0 rfl (lv_at hl 0 rfl) ?_
  refine W.objInit hx hb hown (hts (.methodLink RX2 3 objectInit) (by decide +kernel)) (hts (.instanceMethod objectInit) (by decide +kernel)) (hts _ (List.mem_of_getElem? (i := 3) rfl)) rfl (by rw [hml]; exact hl.1) rfl dX2_init_1 (Nat.le_of_ble_eq_true rfl) (Nat.le_of_ble_eq_true rfl) ?_
  refine W.eq (g2 := F0 m 4 ls []) rfl ?_
  refine lv_aload_n hx hb dX2_init_4 rfl (lv_at hl 0 rfl) ?_
  refine lv_bipush (v := 40) hx hb dX2_init_5 (by decide) ?_
  refine q_newI (n := 40) (N' := 40) hx hb (hts (.arrayClass .int) (by decide +kernel)) hK hP hD hS hA (by decide) (by decide) (by decide) (Nat.le_of_ble_eq_true rfl) (Nat.le_of_ble_eq_true rfl) dX2_init_7 (fun q7 H hP hD hS => ?_)
  have hP : va_P D vwCl [(h0, .inr (2, [.null, .null, .null, .int 0])), (q7, .inl (kc 0, 40, .inl (fun _ => 0)))] H := hP
  have hD : va_D A [(h0, .inr (2, [.null, .null, .null, .int 0])), (q7, .inl (kc 0, 40, .inl (fun _ => 0)))] := hD
  refine W.widen (k := 1) (n := 40) (Nat.le_of_ble_eq_true rfl) (Nat.le_of_ble_eq_true rfl) ?_
  refine va_putF (D := D) (ci := 2) (v := .ref q7) (ty := .array .int) (C := RX2) (T := TX2) (N := 4) hx hb hts hi tyX2 tyX2_ok nmX2 hown hK hP hD hS 0 rfl rfl 0 (by decide) (hts (.fieldLink RX2 9 "MirrorNet$Falls" "who" "[I") (by decide +kernel)) (fun _ h9 => h9) rfl hin rfl (by decide +kernel) rfl rfl (Nat.le_of_ble_eq_true rfl) dX2_init_9 (fun H locs hP hD hS => ?_)
  have hP : va_P D vwCl [(h0, .inr (2, [.ref q7, .null, .null, .int 0])), (q7, .inl (kc 0, 40, .inl (fun _ => 0)))] H := hP
  have hD : va_D A [(h0, .inr (2, [.ref q7, .null, .null, .int 0])), (q7, .inl (kc 0, 40, .inl (fun _ => 0)))] := hD
  refine lv_aload_n hx hb dX2_init_12 rfl (lv_at hl 0 rfl) ?_
  refine lv_bipush (v := 40) hx hb dX2_init_13 (by decide) ?_
  refine q_newI (n := 40) (N' := 40) hx hb (hts (.arrayClass .int) (by decide +kernel)) hK hP hD hS hA (by decide) (by decide) (by decide) (Nat.le_of_ble_eq_true rfl) (Nat.le_of_ble_eq_true rfl) dX2_init_15 (fun q15 H hP hD hS => ?_)
  have hP : va_P D vwCl [(h0, .inr (2, [.ref q7, .null, .null, .int 0])), (q7, .inl (kc 0, 40, .inl (fun _ => 0))), (q15, .inl (kc 0, 40, .inl (fun _ => 0)))] H := hP
  have hD : va_D A [(h0, .inr (2, [.ref q7, .null, .null, .int 0])), (q7, .inl (kc 0, 40, .inl (fun _ => 0))), (q15, .inl (kc 0, 40, .inl (fun _ => 0)))] := hD
  refine W.widen (k := 2) (n := 80) (Nat.le_of_ble_eq_true rfl) (Nat.le_of_ble_eq_true rfl) ?_
  refine va_putF (D := D) (ci := 2) (v := .ref q15) (ty := .array .int) (C := RX2) (T := TX2) (N := 4) hx hb hts hi tyX2 tyX2_ok nmX2 hown hK hP hD hS 0 rfl rfl 1 (by decide) (hts (.fieldLink RX2 15 "MirrorNet$Falls" "firsts" "[I") (by decide +kernel)) (fun _ h9 => h9) rfl hin rfl (by decide +kernel) rfl rfl (Nat.le_of_ble_eq_true rfl) dX2_init_17 (fun H locs hP hD hS => ?_)
  have hP : va_P D vwCl [(h0, .inr (2, [.ref q7, .ref q15, .null, .int 0])), (q7, .inl (kc 0, 40, .inl (fun _ => 0))), (q15, .inl (kc 0, 40, .inl (fun _ => 0)))] H := hP
  have hD : va_D A [(h0, .inr (2, [.ref q7, .ref q15, .null, .int 0])), (q7, .inl (kc 0, 40, .inl (fun _ => 0))), (q15, .inl (kc 0, 40, .inl (fun _ => 0)))] := hD
  refine lv_aload_n hx hb dX2_init_20 rfl (lv_at hl 0 rfl) ?_
  refine lv_bipush (v := 40) hx hb dX2_init_21 (by decide) ?_
  refine q_newI (n := 40) (N' := 40) hx hb (hts (.arrayClass .int) (by decide +kernel)) hK hP hD hS hA (by decide) (by decide) (by decide) (Nat.le_of_ble_eq_true rfl) (Nat.le_of_ble_eq_true rfl) dX2_init_23 (fun q23 H hP hD hS => ?_)
  have hP : va_P D vwCl [(h0, .inr (2, [.ref q7, .ref q15, .null, .int 0])), (q7, .inl (kc 0, 40, .inl (fun _ => 0))), (q15, .inl (kc 0, 40, .inl (fun _ => 0))), (q23, .inl (kc 0, 40, .inl (fun _ => 0)))] H := hP
  have hD : va_D A [(h0, .inr (2, [.ref q7, .ref q15, .null, .int 0])), (q7, .inl (kc 0, 40, .inl (fun _ => 0))), (q15, .inl (kc 0, 40, .inl (fun _ => 0))), (q23, .inl (kc 0, 40, .inl (fun _ => 0)))] := hD
  refine W.widen (k := 3) (n := 120) (Nat.le_of_ble_eq_true rfl) (Nat.le_of_ble_eq_true rfl) ?_
  refine va_putF (D := D) (ci := 2) (v := .ref q23) (ty := .array .int) (C := RX2) (T := TX2) (N := 4) hx hb hts hi tyX2 tyX2_ok nmX2 hown hK hP hD hS 0 rfl rfl 2 (by decide) (hts (.fieldLink RX2 18 "MirrorNet$Falls" "lasts" "[I") (by decide +kernel)) (fun _ h9 => h9) rfl hin rfl (by decide +kernel) rfl rfl (Nat.le_of_ble_eq_true rfl) dX2_init_25 (fun H locs hP hD hS => ?_)
  have hP : va_P D vwCl [(h0, .inr (2, [.ref q7, .ref q15, .ref q23, .int 0])), (q7, .inl (kc 0, 40, .inl (fun _ => 0))), (q15, .inl (kc 0, 40, .inl (fun _ => 0))), (q23, .inl (kc 0, 40, .inl (fun _ => 0)))] H := hP
  have hD : va_D A [(h0, .inr (2, [.ref q7, .ref q15, .ref q23, .int 0])), (q7, .inl (kc 0, 40, .inl (fun _ => 0))), (q15, .inl (kc 0, 40, .inl (fun _ => 0))), (q23, .inl (kc 0, 40, .inl (fun _ => 0)))] := hD
  rw [hQ]
  exact W.vret hx hb hr (fun t ht hW => ⟨⟨(), rfl, trivial, _, ⟨q7, q15, q23, rfl⟩, by rw [ht]; exact hP, by rw [hAe]; exact hD⟩, by rw [hAe]; exact hS.F ht⟩) hS.2.2 dX2_init_28 hlk

def rm_X4_init : Room := { frames := 1, cells := 5, slots := 960, locals := 23 }
set_option maxHeartbeats 4000000 in
set_option maxRecDepth 100000 in
theorem c_X4_init (l : Launch) {D : va_G} {kc : Nat → ClassId} {h0 sz : Nat} : Met l yX4_init wsX4_init rm_X4_init (va_Pc [.ref h0] (PreC D kc [(h0, .inr (4, [.null, .null, .null, .null, .null, .int 0, .int 0, .long 0]))] sz)) (QC D [(h0, .inr (4, [.null, .null, .null, .null, .null, .int 0, .int 0, .long 0]))] sz (fun w => ∃ q7 q15 q23 q31 q40 : Nat, w = [(h0, .inr (4, [.ref q7, .ref q15, .ref q23, .ref q31, .ref q40, .int 0, .int 1, .long 0])), (q7, .inl (kc 0, 60, .inl (fun _ => 0))), (q15, .inl (kc 0, 60, .inl (fun _ => 0))), (q23, .inl (kc 0, 60, .inl (fun _ => 0))), (q31, .inl (kc 1, 60, .inr (.inl (fun _ => 0)))), (q40, .inl (kc 0, 720, .inl (fl 720 (-1) (fun _ => 0))))])) 5 960 (va_A [(h0, .inr (4, [.null, .null, .null, .null, .null, .int 0, .int 0, .long 0]))] sz) := by
  refine q_metI (cc := cX4_init) (maxL := 1) (ret := none) (by decide) rfl (Nat.le_of_ble_eq_true rfl) ?_
  intro p e s m args below meth c Q ls hx hb hr hlk hml hown hts hB hQ hl hin
  obtain ⟨hsz, hP, hK, hD0, hN, hAM, hAA⟩ := hB
  subst hsz
  have hin : meth.name = "<init>" := hin
  have hown : s.vm.findClass RX4 = some m.cls := hown
  have hl : lv_has ls 1 [(0, .ref h0)] := hl
  have hi : ∀ w ∈ u_ws RX4 TX4 8, w ∈ wsX4_init := by decide +kernel
  have hD := hD0.self (sz := s.heap.size)
  generalize hAe : va_A [(h0, .inr (4, [.null, .null, .null, .null, .null, .int 0, .int 0, .long 0]))] s.heap.size = A at hD hQ ⊢
  have hA : ∀ q : Nat, s.heap.size ≤ q → A q := fun q h => by rw [← hAe]; exact Or.inr h
  have hS : va_S A s.heap s.heap [] := va_S.rf
  refine lv_aload_n hx hb dX4_init_0 rfl (lv_at hl 0 rfl) ?_
  refine W.objInit hx hb hown (hts (.methodLink RX4 3 objectInit) (by decide +kernel)) (hts (.instanceMethod objectInit) (by decide +kernel)) (hts _ (List.mem_of_getElem? (i := 3) rfl)) rfl (by rw [hml]; exact hl.1) rfl dX4_init_1 (Nat.le_of_ble_eq_true rfl) (Nat.le_of_ble_eq_true rfl) ?_
  refine W.eq (g2 := F0 m 4 ls []) rfl ?_
  refine lv_aload_n hx hb dX4_init_4 rfl (lv_at hl 0 rfl) ?_
  refine lv_bipush (v := 60) hx hb dX4_init_5 (by decide) ?_
  refine q_newI (n := 60) (N' := 60) hx hb (hts (.arrayClass .int) (by decide +kernel)) hK hP hD hS hA (by decide) (by decide) (by decide) (Nat.le_of_ble_eq_true rfl) (Nat.le_of_ble_eq_true rfl) dX4_init_7 (fun q7 H hP hD hS => ?_)
  have hP : va_P D vwCl [(h0, .inr (4, [.null, .null, .null, .null, .null, .int 0, .int 0, .long 0])), (q7, .inl (kc 0, 60, .inl (fun _ => 0)))] H := hP
  have hD : va_D A [(h0, .inr (4, [.null, .null, .null, .null, .null, .int 0, .int 0, .long 0])), (q7, .inl (kc 0, 60, .inl (fun _ => 0)))] := hD
  refine W.widen (k := 1) (n := 60) (Nat.le_of_ble_eq_true rfl) (Nat.le_of_ble_eq_true rfl) ?_
  refine va_putF (D := D) (ci := 4) (v := .ref q7) (ty := .array .int) (C := RX4) (T := TX4) (N := 8) hx hb hts hi tyX4 tyX4_ok nmX4 hown hK hP hD hS 0 rfl rfl 0 (by decide) (hts (.fieldLink RX4 9 "MirrorNet$Shelf" "sizes" "[I") (by decide +kernel)) (fun _ h9 => h9) rfl hin rfl (by decide +kernel) rfl rfl (Nat.le_of_ble_eq_true rfl) dX4_init_9 (fun H locs hP hD hS => ?_)
  have hP : va_P D vwCl [(h0, .inr (4, [.ref q7, .null, .null, .null, .null, .int 0, .int 0, .long 0])), (q7, .inl (kc 0, 60, .inl (fun _ => 0)))] H := hP
  have hD : va_D A [(h0, .inr (4, [.ref q7, .null, .null, .null, .null, .int 0, .int 0, .long 0])), (q7, .inl (kc 0, 60, .inl (fun _ => 0)))] := hD
  refine lv_aload_n hx hb dX4_init_12 rfl (lv_at hl 0 rfl) ?_
  refine lv_bipush (v := 60) hx hb dX4_init_13 (by decide) ?_
  refine q_newI (n := 60) (N' := 60) hx hb (hts (.arrayClass .int) (by decide +kernel)) hK hP hD hS hA (by decide) (by decide) (by decide) (Nat.le_of_ble_eq_true rfl) (Nat.le_of_ble_eq_true rfl) dX4_init_15 (fun q15 H hP hD hS => ?_)
  have hP : va_P D vwCl [(h0, .inr (4, [.ref q7, .null, .null, .null, .null, .int 0, .int 0, .long 0])), (q7, .inl (kc 0, 60, .inl (fun _ => 0))), (q15, .inl (kc 0, 60, .inl (fun _ => 0)))] H := hP
  have hD : va_D A [(h0, .inr (4, [.ref q7, .null, .null, .null, .null, .int 0, .int 0, .long 0])), (q7, .inl (kc 0, 60, .inl (fun _ => 0))), (q15, .inl (kc 0, 60, .inl (fun _ => 0)))] := hD
  refine W.widen (k := 2) (n := 120) (Nat.le_of_ble_eq_true rfl) (Nat.le_of_ble_eq_true rfl) ?_
  refine va_putF (D := D) (ci := 4) (v := .ref q15) (ty := .array .int) (C := RX4) (T := TX4) (N := 8) hx hb hts hi tyX4 tyX4_ok nmX4 hown hK hP hD hS 0 rfl rfl 1 (by decide) (hts (.fieldLink RX4 15 "MirrorNet$Shelf" "yankTicks" "[I") (by decide +kernel)) (fun _ h9 => h9) rfl hin rfl (by decide +kernel) rfl rfl (Nat.le_of_ble_eq_true rfl) dX4_init_17 (fun H locs hP hD hS => ?_)
  have hP : va_P D vwCl [(h0, .inr (4, [.ref q7, .ref q15, .null, .null, .null, .int 0, .int 0, .long 0])), (q7, .inl (kc 0, 60, .inl (fun _ => 0))), (q15, .inl (kc 0, 60, .inl (fun _ => 0)))] H := hP
  have hD : va_D A [(h0, .inr (4, [.ref q7, .ref q15, .null, .null, .null, .int 0, .int 0, .long 0])), (q7, .inl (kc 0, 60, .inl (fun _ => 0))), (q15, .inl (kc 0, 60, .inl (fun _ => 0)))] := hD
  refine lv_aload_n hx hb dX4_init_20 rfl (lv_at hl 0 rfl) ?_
  refine lv_bipush (v := 60) hx hb dX4_init_21 (by decide) ?_
  refine q_newI (n := 60) (N' := 60) hx hb (hts (.arrayClass .int) (by decide +kernel)) hK hP hD hS hA (by decide) (by decide) (by decide) (Nat.le_of_ble_eq_true rfl) (Nat.le_of_ble_eq_true rfl) dX4_init_23 (fun q23 H hP hD hS => ?_)
  have hP : va_P D vwCl [(h0, .inr (4, [.ref q7, .ref q15, .null, .null, .null, .int 0, .int 0, .long 0])), (q7, .inl (kc 0, 60, .inl (fun _ => 0))), (q15, .inl (kc 0, 60, .inl (fun _ => 0))), (q23, .inl (kc 0, 60, .inl (fun _ => 0)))] H := hP
  have hD : va_D A [(h0, .inr (4, [.ref q7, .ref q15, .null, .null, .null, .int 0, .int 0, .long 0])), (q7, .inl (kc 0, 60, .inl (fun _ => 0))), (q15, .inl (kc 0, 60, .inl (fun _ => 0))), (q23, .inl (kc 0, 60, .inl (fun _ => 0)))] := hD
  refine W.widen (k := 3) (n := 180) (Nat.le_of_ble_eq_true rfl) (Nat.le_of_ble_eq_true rfl) ?_
  refine va_putF (D := D) (ci := 4) (v := .ref q23) (ty := .array .int) (C := RX4) (T := TX4) (N := 8) hx hb hts hi tyX4 tyX4_ok nmX4 hown hK hP hD hS 0 rfl rfl 2 (by decide) (hts (.fieldLink RX4 18 "MirrorNet$Shelf" "stateTicks" "[I") (by decide +kernel)) (fun _ h9 => h9) rfl hin rfl (by decide +kernel) rfl rfl (Nat.le_of_ble_eq_true rfl) dX4_init_25 (fun H locs hP hD hS => ?_)
  have hP : va_P D vwCl [(h0, .inr (4, [.ref q7, .ref q15, .ref q23, .null, .null, .int 0, .int 0, .long 0])), (q7, .inl (kc 0, 60, .inl (fun _ => 0))), (q15, .inl (kc 0, 60, .inl (fun _ => 0))), (q23, .inl (kc 0, 60, .inl (fun _ => 0)))] H := hP
  have hD : va_D A [(h0, .inr (4, [.ref q7, .ref q15, .ref q23, .null, .null, .int 0, .int 0, .long 0])), (q7, .inl (kc 0, 60, .inl (fun _ => 0))), (q15, .inl (kc 0, 60, .inl (fun _ => 0))), (q23, .inl (kc 0, 60, .inl (fun _ => 0)))] := hD
  refine lv_aload_n hx hb dX4_init_28 rfl (lv_at hl 0 rfl) ?_
  refine lv_bipush (v := 60) hx hb dX4_init_29 (by decide) ?_
  refine q_newJ (n := 60) (N' := 60) hx hb (hts (.arrayClass .long) (by decide +kernel)) hK hP hD hS hA (by decide) (by decide) (by decide) (Nat.le_of_ble_eq_true rfl) (Nat.le_of_ble_eq_true rfl) dX4_init_31 (fun q31 H hP hD hS => ?_)
  have hP : va_P D vwCl [(h0, .inr (4, [.ref q7, .ref q15, .ref q23, .null, .null, .int 0, .int 0, .long 0])), (q7, .inl (kc 0, 60, .inl (fun _ => 0))), (q15, .inl (kc 0, 60, .inl (fun _ => 0))), (q23, .inl (kc 0, 60, .inl (fun _ => 0))), (q31, .inl (kc 1, 60, .inr (.inl (fun _ => 0))))] H := hP
  have hD : va_D A [(h0, .inr (4, [.ref q7, .ref q15, .ref q23, .null, .null, .int 0, .int 0, .long 0])), (q7, .inl (kc 0, 60, .inl (fun _ => 0))), (q15, .inl (kc 0, 60, .inl (fun _ => 0))), (q23, .inl (kc 0, 60, .inl (fun _ => 0))), (q31, .inl (kc 1, 60, .inr (.inl (fun _ => 0))))] := hD
  refine W.widen (k := 4) (n := 240) (Nat.le_of_ble_eq_true rfl) (Nat.le_of_ble_eq_true rfl) ?_
  refine va_putF (D := D) (ci := 4) (v := .ref q31) (ty := .array .long) (C := RX4) (T := TX4) (N := 8) hx hb hts hi tyX4 tyX4_ok nmX4 hown hK hP hD hS 0 rfl rfl 3 (by decide) (hts (.fieldLink RX4 21 "MirrorNet$Shelf" "stateFiles" "[J") (by decide +kernel)) (fun _ h9 => h9) rfl hin rfl (by decide +kernel) rfl rfl (Nat.le_of_ble_eq_true rfl) dX4_init_33 (fun H locs hP hD hS => ?_)
  have hP : va_P D vwCl [(h0, .inr (4, [.ref q7, .ref q15, .ref q23, .ref q31, .null, .int 0, .int 0, .long 0])), (q7, .inl (kc 0, 60, .inl (fun _ => 0))), (q15, .inl (kc 0, 60, .inl (fun _ => 0))), (q23, .inl (kc 0, 60, .inl (fun _ => 0))), (q31, .inl (kc 1, 60, .inr (.inl (fun _ => 0))))] H := hP
  have hD : va_D A [(h0, .inr (4, [.ref q7, .ref q15, .ref q23, .ref q31, .null, .int 0, .int 0, .long 0])), (q7, .inl (kc 0, 60, .inl (fun _ => 0))), (q15, .inl (kc 0, 60, .inl (fun _ => 0))), (q23, .inl (kc 0, 60, .inl (fun _ => 0))), (q31, .inl (kc 1, 60, .inr (.inl (fun _ => 0))))] := hD
  refine lv_aload_n hx hb dX4_init_36 rfl (lv_at hl 0 rfl) ?_
  refine lv_sipush (v := 720) hx hb dX4_init_37 (by decide) ?_
  refine q_newI (n := 720) (N' := 720) hx hb (hts (.arrayClass .int) (by decide +kernel)) hK hP hD hS hA (by decide) (by decide) (by decide) (Nat.le_of_ble_eq_true rfl) (Nat.le_of_ble_eq_true rfl) dX4_init_40 (fun q40 H hP hD hS => ?_)
  have hP : va_P D vwCl [(h0, .inr (4, [.ref q7, .ref q15, .ref q23, .ref q31, .null, .int 0, .int 0, .long 0])), (q7, .inl (kc 0, 60, .inl (fun _ => 0))), (q15, .inl (kc 0, 60, .inl (fun _ => 0))), (q23, .inl (kc 0, 60, .inl (fun _ => 0))), (q31, .inl (kc 1, 60, .inr (.inl (fun _ => 0)))), (q40, .inl (kc 0, 720, .inl (fun _ => 0)))] H := hP
  have hD : va_D A [(h0, .inr (4, [.ref q7, .ref q15, .ref q23, .ref q31, .null, .int 0, .int 0, .long 0])), (q7, .inl (kc 0, 60, .inl (fun _ => 0))), (q15, .inl (kc 0, 60, .inl (fun _ => 0))), (q23, .inl (kc 0, 60, .inl (fun _ => 0))), (q31, .inl (kc 1, 60, .inr (.inl (fun _ => 0)))), (q40, .inl (kc 0, 720, .inl (fun _ => 0)))] := hD
  refine W.widen (k := 5) (n := 960) (Nat.le_of_ble_eq_true rfl) (Nat.le_of_ble_eq_true rfl) ?_
  refine va_putF (D := D) (ci := 4) (v := .ref q40) (ty := .array .int) (C := RX4) (T := TX4) (N := 8) hx hb hts hi tyX4 tyX4_ok nmX4 hown hK hP hD hS 0 rfl rfl 4 (by decide) (hts (.fieldLink RX4 25 "MirrorNet$Shelf" "named" "[I") (by decide +kernel)) (fun _ h9 => h9) rfl hin rfl (by decide +kernel) rfl rfl (Nat.le_of_ble_eq_true rfl) dX4_init_42 (fun H locs hP hD hS => ?_)
  have hP : va_P D vwCl [(h0, .inr (4, [.ref q7, .ref q15, .ref q23, .ref q31, .ref q40, .int 0, .int 0, .long 0])), (q7, .inl (kc 0, 60, .inl (fun _ => 0))), (q15, .inl (kc 0, 60, .inl (fun _ => 0))), (q23, .inl (kc 0, 60, .inl (fun _ => 0))), (q31, .inl (kc 1, 60, .inr (.inl (fun _ => 0)))), (q40, .inl (kc 0, 720, .inl (fun _ => 0)))] H := hP
  have hD : va_D A [(h0, .inr (4, [.ref q7, .ref q15, .ref q23, .ref q31, .ref q40, .int 0, .int 0, .long 0])), (q7, .inl (kc 0, 60, .inl (fun _ => 0))), (q15, .inl (kc 0, 60, .inl (fun _ => 0))), (q23, .inl (kc 0, 60, .inl (fun _ => 0))), (q31, .inl (kc 1, 60, .inr (.inl (fun _ => 0)))), (q40, .inl (kc 0, 720, .inl (fun _ => 0)))] := hD
  refine lv_aload_n hx hb dX4_init_45 rfl (lv_at hl 0 rfl) ?_
  refine va_get (D := D) (ci := 4) (v := .ref q40) (C := RX4) (T := TX4) (N := 8) hx hb hts hi hown hK hP 0 rfl rfl 4 (by decide) (hts (.fieldLink RX4 25 "MirrorNet$Shelf" "named" "[I") (by decide +kernel)) (fun _ h9 => h9) rfl dX4_init_46 ?_
  refine lv_iconst (v := -1) hx hb dX4_init_49 (by decide) ?_
  have hPc := hP.sub (ws' := [(q40, .inl (kc 0, 720, .inl (fun _ => 0)))]) [5] rfl
  have hDc := hD.sub (ws' := [(q40, .inl (kc 0, 720, .inl (fun _ => 0)))]) [5] (by decide) rfl
  have hFc := va_free (wc := [(q40, .inl (kc 0, 720, .inl (fun _ => 0)))]) hD hS hA [5] rfl
  refine va_callv (va_runS (As := [.ref q40, .int (-1)]) (rest := []) ⟨hx, hb, hml, hown, hts⟩ (c_fill l (D := D) (kc := kc) (h0 := q40) (sz := H.size) (n := 720) (v := -1) (f := fun _ => 0) (by decide)) (va_cwS 2 hts gX4_init_J7_fill_53178 rfl rfl rfl (by decide +kernel) ⟨Nat.le_of_ble_eq_true rfl, Nat.le_of_ble_eq_true rfl⟩) ⟨pc_blind, pc_pre _ hK hPc hDc hN hAM hAA⟩ rfl rfl hl.1 rfl (lv_room (Nat.le_of_ble_eq_true rfl)) dX4_init_50 ⟨Nat.le_of_ble_eq_true rfl, Nat.le_of_ble_eq_true rfl⟩) hS (fun q _ h => hFc q h) hFc (fun u t H1 locs ht hvm hw hB hz1 hk1 hS => ?_)
  obtain ⟨w1, rfl, hP1, hD1⟩ := hB
  rw [ht] at hP1
  obtain ⟨hP, hD⟩ := va_join (wr := [(h0, .inr (4, [.ref q7, .ref q15, .ref q23, .ref q31, .ref q40, .int 0, .int 0, .long 0])), (q7, .inl (kc 0, 60, .inl (fun _ => 0))), (q15, .inl (kc 0, 60, .inl (fun _ => 0))), (q23, .inl (kc 0, 60, .inl (fun _ => 0))), (q31, .inl (kc 1, 60, .inr (.inl (fun _ => 0))))]) hP hD [5] [0, 1, 2, 3, 4] rfl rfl (by decide) (by decide) hk1 hFc hP1 hD1
  generalize H1 = H at hP hS ⊢
  have hP := hP.sub (ws' := [(h0, .inr (4, [.ref q7, .ref q15, .ref q23, .ref q31, .ref q40, .int 0, .int 0, .long 0])), (q7, .inl (kc 0, 60, .inl (fun _ => 0))), (q15, .inl (kc 0, 60, .inl (fun _ => 0))), (q23, .inl (kc 0, 60, .inl (fun _ => 0))), (q31, .inl (kc 1, 60, .inr (.inl (fun _ => 0)))), (q40, .inl (kc 0, 720, .inl (fl 720 (-1) (fun _ => 0))))]) [0, 1, 2, 3, 4, 5] rfl
  have hD := hD.sub (ws' := [(h0, .inr (4, [.ref q7, .ref q15, .ref q23, .ref q31, .ref q40, .int 0, .int 0, .long 0])), (q7, .inl (kc 0, 60, .inl (fun _ => 0))), (q15, .inl (kc 0, 60, .inl (fun _ => 0))), (q23, .inl (kc 0, 60, .inl (fun _ => 0))), (q31, .inl (kc 1, 60, .inr (.inl (fun _ => 0)))), (q40, .inl (kc 0, 720, .inl (fl 720 (-1) (fun _ => 0))))]) [0, 1, 2, 3, 4, 5] (by decide) rfl
  refine W.widen (k := 5) (n := 960) (Nat.le_of_ble_eq_true rfl) (Nat.le_of_ble_eq_true rfl) ?_
  refine lv_aload_n hx hb dX4_init_53 rfl (lv_at hl 0 rfl) ?_
  refine lv_iconst (v := 1) hx hb dX4_init_54 (by decide) ?_
  refine va_put (D := D) (ci := 4) (v := .int 1) (ty := .int) (C := RX4) (T := TX4) (N := 8) hx hb hts hi tyX4 tyX4_ok nmX4 hown hK hP hD hS 0 rfl rfl 6 (by decide) (hts (.fieldLink RX4 34 "MirrorNet$Shelf" "stateCount" "I") (by decide +kernel)) (fun _ h9 => h9) rfl (by decide +kernel) rfl rfl (Nat.le_of_ble_eq_true rfl) dX4_init_55 (fun H locs hP hD hS => ?_)
  have hP : va_P D vwCl [(h0, .inr (4, [.ref q7, .ref q15, .ref q23, .ref q31, .ref q40, .int 0, .int 1, .long 0])), (q7, .inl (kc 0, 60, .inl (fun _ => 0))), (q15, .inl (kc 0, 60, .inl (fun _ => 0))), (q23, .inl (kc 0, 60, .inl (fun _ => 0))), (q31, .inl (kc 1, 60, .inr (.inl (fun _ => 0)))), (q40, .inl (kc 0, 720, .inl (fl 720 (-1) (fun _ => 0))))] H := hP
  have hD : va_D A [(h0, .inr (4, [.ref q7, .ref q15, .ref q23, .ref q31, .ref q40, .int 0, .int 1, .long 0])), (q7, .inl (kc 0, 60, .inl (fun _ => 0))), (q15, .inl (kc 0, 60, .inl (fun _ => 0))), (q23, .inl (kc 0, 60, .inl (fun _ => 0))), (q31, .inl (kc 1, 60, .inr (.inl (fun _ => 0)))), (q40, .inl (kc 0, 720, .inl (fl 720 (-1) (fun _ => 0))))] := hD
  rw [hQ]
  exact W.vret hx hb hr (fun t ht hW => ⟨⟨(), rfl, trivial, _, ⟨q7, q15, q23, q31, q40, rfl⟩, by rw [ht]; exact hP, by rw [hAe]; exact hD⟩, by rw [hAe]; exact hS.F ht⟩) hS.2.2 dX4_init_58 hlk

def rm_X3_init : Room := { frames := 1, cells := 1, slots := 3, locals := 23 }
set_option maxHeartbeats 4000000 in
set_option maxRecDepth 100000 in
theorem c_X3_init (l : Launch) {D : va_G} {kc : Nat → ClassId} {h0 sz : Nat} {a1 a2 a3 : Int32} : Met l yX3_init wsX3_init rm_X3_init (va_Pc [.ref h0, .int a1, .int a2, .int a3] (PreC D kc [(h0, .inr (3, [.int 0, .int 0, .null, .int 0, .int 0, .int 0, .long 0, .int 0, .int 0, .int 0]))] sz)) (QC D [(h0, .inr (3, [.int 0, .int 0, .null, .int 0, .int 0, .int 0, .long 0, .int 0, .int 0, .int 0]))] sz (fun w => ∃ q21 : Nat, w = [(h0, .inr (3, [.int a1, .int a3, .ref q21, .int a2, .int 0, .int (-1), .long 0, .int 0, .int 0, .int 0])), (q21, .inl (kc 0, 3, .inl (fl 3 (-1) (fun _ => 0))))])) 1 3 (va_A [(h0, .inr (3, [.int 0, .int 0, .null, .int 0, .int 0, .int 0, .long 0, .int 0, .int 0, .int 0]))] sz) := by
  refine q_metI (cc := cX3_init) (maxL := 4) (ret := none) (by decide) rfl (Nat.le_of_ble_eq_true rfl) ?_
  intro p e s m args below meth c Q ls hx hb hr hlk hml hown hts hB hQ hl hin
  obtain ⟨hsz, hP, hK, hD0, hN, hAM, hAA⟩ := hB
  subst hsz
  have hin : meth.name = "<init>" := hin
  have hown : s.vm.findClass RX3 = some m.cls := hown
  have hl : lv_has ls 4 [(0, .ref h0), (1, .int a1), (2, .int a2), (3, .int a3)] := hl
  have hi : ∀ w ∈ u_ws RX3 TX3 10, w ∈ wsX3_init := by decide +kernel
  have hD := hD0.self (sz := s.heap.size)
  generalize hAe : va_A [(h0, .inr (3, [.int 0, .int 0, .null, .int 0, .int 0, .int 0, .long 0, .int 0, .int 0, .int 0]))] s.heap.size = A at hD hQ ⊢
  have hA : ∀ q : Nat, s.heap.size ≤ q → A q := fun q h => by rw [← hAe]; exact Or.inr h
  have hS : va_S A s.heap s.heap [] := va_S.rf
  refine lv_aload_n hx hb dX3_init_0 rfl (lv_at hl 0 rfl) ?_
  refine W.objInit hx hb hown (hts (.methodLink RX3 3 objectInit) (by decide +kernel)) (hts (.instanceMethod objectInit) (by decide +kernel)) (hts _ (List.mem_of_getElem? (i := 3) rfl)) rfl (by rw [hml]; exact hl.1) rfl dX3_init_1 (Nat.le_of_ble_eq_true rfl) (Nat.le_of_ble_eq_true rfl) ?_
  refine W.eq (g2 := F0 m 4 ls []) rfl ?_
  refine lv_aload_n hx hb dX3_init_4 rfl (lv_at hl 0 rfl) ?_
  refine lv_iload_n hx hb dX3_init_5 rfl (lv_at hl 1 rfl) ?_
  refine va_putF (D := D) (ci := 3) (v := .int a1) (ty := .int) (C := RX3) (T := TX3) (N := 10) hx hb hts hi tyX3 tyX3_ok nmX3 hown hK hP hD hS 0 rfl rfl 0 (by decide) (hts (.fieldLink RX3 9 "MirrorNet$Mirror" "source" "I") (by decide +kernel)) (fun _ h9 => h9) rfl hin rfl (by decide +kernel) rfl rfl (Nat.le_of_ble_eq_true rfl) dX3_init_6 (fun H locs hP hD hS => ?_)
  have hP : va_P D vwCl [(h0, .inr (3, [.int a1, .int 0, .null, .int 0, .int 0, .int 0, .long 0, .int 0, .int 0, .int 0]))] H := hP
  have hD : va_D A [(h0, .inr (3, [.int a1, .int 0, .null, .int 0, .int 0, .int 0, .long 0, .int 0, .int 0, .int 0]))] := hD
  refine lv_aload_n hx hb dX3_init_9 rfl (lv_at hl 0 rfl) ?_
  refine lv_iload_n hx hb dX3_init_10 rfl (lv_at hl 2 rfl) ?_
  refine va_put (D := D) (ci := 3) (v := .int a2) (ty := .int) (C := RX3) (T := TX3) (N := 10) hx hb hts hi tyX3 tyX3_ok nmX3 hown hK hP hD hS 0 rfl rfl 3 (by decide) (hts (.fieldLink RX3 15 "MirrorNet$Mirror" "bytesATick" "I") (by decide +kernel)) (fun _ h9 => h9) rfl (by decide +kernel) rfl rfl (Nat.le_of_ble_eq_true rfl) dX3_init_11 (fun H locs hP hD hS => ?_)
  have hP : va_P D vwCl [(h0, .inr (3, [.int a1, .int 0, .null, .int a2, .int 0, .int 0, .long 0, .int 0, .int 0, .int 0]))] H := hP
  have hD : va_D A [(h0, .inr (3, [.int a1, .int 0, .null, .int a2, .int 0, .int 0, .long 0, .int 0, .int 0, .int 0]))] := hD
  refine lv_aload_n hx hb dX3_init_14 rfl (lv_at hl 0 rfl) ?_
  refine lv_iload_n hx hb dX3_init_15 rfl (lv_at hl 3 rfl) ?_
  refine va_putF (D := D) (ci := 3) (v := .int a3) (ty := .int) (C := RX3) (T := TX3) (N := 10) hx hb hts hi tyX3 tyX3_ok nmX3 hown hK hP hD hS 0 rfl rfl 1 (by decide) (hts (.fieldLink RX3 18 "MirrorNet$Mirror" "keep" "I") (by decide +kernel)) (fun _ h9 => h9) rfl hin rfl (by decide +kernel) rfl rfl (Nat.le_of_ble_eq_true rfl) dX3_init_16 (fun H locs hP hD hS => ?_)
  have hP : va_P D vwCl [(h0, .inr (3, [.int a1, .int a3, .null, .int a2, .int 0, .int 0, .long 0, .int 0, .int 0, .int 0]))] H := hP
  have hD : va_D A [(h0, .inr (3, [.int a1, .int a3, .null, .int a2, .int 0, .int 0, .long 0, .int 0, .int 0, .int 0]))] := hD
  refine lv_aload_n hx hb dX3_init_19 rfl (lv_at hl 0 rfl) ?_
  refine lv_iconst (v := 3) hx hb dX3_init_20 (by decide) ?_
  refine q_newI (n := 3) (N' := 3) hx hb (hts (.arrayClass .int) (by decide +kernel)) hK hP hD hS hA (by decide) (by decide) (by decide) (Nat.le_of_ble_eq_true rfl) (Nat.le_of_ble_eq_true rfl) dX3_init_21 (fun q21 H hP hD hS => ?_)
  have hP : va_P D vwCl [(h0, .inr (3, [.int a1, .int a3, .null, .int a2, .int 0, .int 0, .long 0, .int 0, .int 0, .int 0])), (q21, .inl (kc 0, 3, .inl (fun _ => 0)))] H := hP
  have hD : va_D A [(h0, .inr (3, [.int a1, .int a3, .null, .int a2, .int 0, .int 0, .long 0, .int 0, .int 0, .int 0])), (q21, .inl (kc 0, 3, .inl (fun _ => 0)))] := hD
  refine W.widen (k := 1) (n := 3) (Nat.le_of_ble_eq_true rfl) (Nat.le_of_ble_eq_true rfl) ?_
  refine va_putF (D := D) (ci := 3) (v := .ref q21) (ty := .array .int) (C := RX3) (T := TX3) (N := 10) hx hb hts hi tyX3 tyX3_ok nmX3 hown hK hP hD hS 0 rfl rfl 2 (by decide) (hts (.fieldLink RX3 21 "MirrorNet$Mirror" "earlier" "[I") (by decide +kernel)) (fun _ h9 => h9) rfl hin rfl (by decide +kernel) rfl rfl (Nat.le_of_ble_eq_true rfl) dX3_init_23 (fun H locs hP hD hS => ?_)
  have hP : va_P D vwCl [(h0, .inr (3, [.int a1, .int a3, .ref q21, .int a2, .int 0, .int 0, .long 0, .int 0, .int 0, .int 0])), (q21, .inl (kc 0, 3, .inl (fun _ => 0)))] H := hP
  have hD : va_D A [(h0, .inr (3, [.int a1, .int a3, .ref q21, .int a2, .int 0, .int 0, .long 0, .int 0, .int 0, .int 0])), (q21, .inl (kc 0, 3, .inl (fun _ => 0)))] := hD
  refine lv_aload_n hx hb dX3_init_26 rfl (lv_at hl 0 rfl) ?_
  refine va_get (D := D) (ci := 3) (v := .ref q21) (C := RX3) (T := TX3) (N := 10) hx hb hts hi hown hK hP 0 rfl rfl 2 (by decide) (hts (.fieldLink RX3 21 "MirrorNet$Mirror" "earlier" "[I") (by decide +kernel)) (fun _ h9 => h9) rfl dX3_init_27 ?_
  refine lv_iconst (v := -1) hx hb dX3_init_30 (by decide) ?_
  have hPc := hP.sub (ws' := [(q21, .inl (kc 0, 3, .inl (fun _ => 0)))]) [1] rfl
  have hDc := hD.sub (ws' := [(q21, .inl (kc 0, 3, .inl (fun _ => 0)))]) [1] (by decide) rfl
  have hFc := va_free (wc := [(q21, .inl (kc 0, 3, .inl (fun _ => 0)))]) hD hS hA [1] rfl
  refine va_callv (va_runS (As := [.ref q21, .int (-1)]) (rest := []) ⟨hx, hb, hml, hown, hts⟩ (c_fill l (D := D) (kc := kc) (h0 := q21) (sz := H.size) (n := 3) (v := -1) (f := fun _ => 0) (by decide)) (va_cwS 2 hts gX3_init_J7_fill_53178 rfl rfl rfl (by decide +kernel) ⟨Nat.le_of_ble_eq_true rfl, Nat.le_of_ble_eq_true rfl⟩) ⟨pc_blind, pc_pre _ hK hPc hDc hN hAM hAA⟩ rfl rfl hl.1 rfl (lv_room (Nat.le_of_ble_eq_true rfl)) dX3_init_31 ⟨Nat.le_of_ble_eq_true rfl, Nat.le_of_ble_eq_true rfl⟩) hS (fun q _ h => hFc q h) hFc (fun u t H1 locs ht hvm hw hB hz1 hk1 hS => ?_)
  obtain ⟨w1, rfl, hP1, hD1⟩ := hB
  rw [ht] at hP1
  obtain ⟨hP, hD⟩ := va_join (wr := [(h0, .inr (3, [.int a1, .int a3, .ref q21, .int a2, .int 0, .int 0, .long 0, .int 0, .int 0, .int 0]))]) hP hD [1] [0] rfl rfl (by decide) (by decide) hk1 hFc hP1 hD1
  generalize H1 = H at hP hS ⊢
  have hP := hP.sub (ws' := [(h0, .inr (3, [.int a1, .int a3, .ref q21, .int a2, .int 0, .int 0, .long 0, .int 0, .int 0, .int 0])), (q21, .inl (kc 0, 3, .inl (fl 3 (-1) (fun _ => 0))))]) [0, 1] rfl
  have hD := hD.sub (ws' := [(h0, .inr (3, [.int a1, .int a3, .ref q21, .int a2, .int 0, .int 0, .long 0, .int 0, .int 0, .int 0])), (q21, .inl (kc 0, 3, .inl (fl 3 (-1) (fun _ => 0))))]) [0, 1] (by decide) rfl
  refine W.widen (k := 1) (n := 3) (Nat.le_of_ble_eq_true rfl) (Nat.le_of_ble_eq_true rfl) ?_
  refine lv_aload_n hx hb dX3_init_34 rfl (lv_at hl 0 rfl) ?_
  refine lv_iconst (v := -1) hx hb dX3_init_35 (by decide) ?_
  refine va_put (D := D) (ci := 3) (v := .int (-1)) (ty := .int) (C := RX3) (T := TX3) (N := 10) hx hb hts hi tyX3 tyX3_ok nmX3 hown hK hP hD hS 0 rfl rfl 5 (by decide) (hts (.fieldLink RX3 31 "MirrorNet$Mirror" "target" "I") (by decide +kernel)) (fun _ h9 => h9) rfl (by decide +kernel) rfl rfl (Nat.le_of_ble_eq_true rfl) dX3_init_36 (fun H locs hP hD hS => ?_)
  have hP : va_P D vwCl [(h0, .inr (3, [.int a1, .int a3, .ref q21, .int a2, .int 0, .int (-1), .long 0, .int 0, .int 0, .int 0])), (q21, .inl (kc 0, 3, .inl (fl 3 (-1) (fun _ => 0))))] H := hP
  have hD : va_D A [(h0, .inr (3, [.int a1, .int a3, .ref q21, .int a2, .int 0, .int (-1), .long 0, .int 0, .int 0, .int 0])), (q21, .inl (kc 0, 3, .inl (fl 3 (-1) (fun _ => 0))))] := hD
  rw [hQ]
  exact W.vret hx hb hr (fun t ht hW => ⟨⟨(), rfl, trivial, _, ⟨q21, rfl⟩, by rw [ht]; exact hP, by rw [hAe]; exact hD⟩, by rw [hAe]; exact hS.F ht⟩) hS.2.2 dX3_init_39 hlk
