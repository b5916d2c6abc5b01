def rm_X3_step : Room := { frames := 4, cells := 0, slots := 0, locals := 94 }
set_option maxHeartbeats 4000000 in
set_option maxRecDepth 100000 in
theorem ct_X3_step (l : Launch) {D : va_G} {ad : Nat → Nat} {kc : Nat → ClassId} {nm z : Nat} (hAD : AD ad nm z) {M : Mem} {n0 : Nat} {x2 : Int32} {y3 : Int64} {Mr : Mem} (hn0 : n0 < nm) (h : fn_X3_step M n0 x2 y3 = some Mr) : Met l yX3_step wsX3_step rm_X3_step (va_Pc [.ref (ad (62 + 2 * n0)), .ref (ad 1), .int x2, .long y3] (GW D ad kc nm z M)) (QWv D ad kc nm z Mr) 0 0 (fun q => z ≤ q) := by
  refine q_met (cc := cX3_step) (maxL := 5) (ret := none) (by decide) rfl (Nat.le_of_ble_eq_true rfl) ?_
  intro p e s m args below meth c Q ls hx hb hr hlk hml hown hts hB hQ hl
  obtain ⟨hP, hK, hz, hN⟩ := hB
  have hown : s.vm.findClass RX3 = some m.cls := hown
  have hl : lv_has ls 5 [(0, .ref (ad (62 + 2 * n0))), (1, .ref (ad 1)), (2, .int x2), (3, .long y3)] := hl
  have hi_X3 : ∀ w ∈ u_ws RX3 TX3 10, w ∈ wsX3_step := by decide +kernel
  have hS : va_S (fun q => z ≤ q) s.heap s.heap [] := va_S.rf
  have B_bk_X3_step_21 : ∀ (M : Mem) (H : Heap) (locs : List Loc) (ls : Array Slot), bk_X3_step_21 M n0 y3 = some Mr → va_P D vwCl (wl ad kc nm M) H → va_S (fun q => z ≤ q) s.heap H locs → lv_has ls 5 [(0, .ref (ad (62 + 2 * n0))), (1, .ref (ad 1)), (3, .long y3)] → W p l e rm_X3_step s m args below meth c H locs 0 0 Q (F0 m 21 ls []) := by
    intro M H locs ls h hP hS hl
    refine lv_aload_n hx hb dX3_step_21 rfl (lv_at hl 0 rfl) ?_
    refine q_getI hx hb hts hi_X3 hown hK hP (ob_mirror hn0) rfl 5 (by decide) rfl (hts (.fieldLink RX3 31 "MirrorNet$Mirror" "target" "I") (by decide +kernel)) (fun _ h9 => h9) dX3_step_22 ?_
    refine lv_iconst (v := -1) hx hb dX3_step_25 (by decide) ?_
    refine lv_icmp_ne (tgt := 30) hx hb dX3_step_26 (by decide) (fun c1 => ?_) (fun c1 => ?_)
    · have h := q_f c1 h
      refine lv_aload_n hx hb dX3_step_30 rfl (lv_at hl 0 rfl) ?_
      refine lv_aload_n hx hb dX3_step_31 rfl (lv_at hl 1 rfl) ?_
      refine lv_lload_n hx hb dX3_step_32 rfl (lv_at hl 2 rfl) ?_
      obtain ⟨M4, hc2, h⟩ := q_bd1 h
      refine q_cWv (va_runV (C := RX3) (As := [.ref (ad 1), .long y3]) (rest := []) ⟨hx, hb, hml, hown, hts⟩ (ct_X3_copyFiles l hAD (M := M) hn0 hc2) (cwV 2 hts gX3_step_X3_copyFiles rfl rfl rfl (by decide +kernel) ⟨Nat.le_of_ble_eq_true rfl, Nat.le_of_ble_eq_true rfl⟩) ⟨gw_blind, gw_recv (ob_mirror hn0) hK hP rfl, gw_pre _ hK hP (Nat.le_trans hz hS.1) hN⟩ rfl rfl hl.1 rfl (lv_room (Nat.le_of_ble_eq_true rfl)) dX3_step_33 ⟨Nat.zero_le _, Nat.zero_le _⟩) hS (fun H locs hP hS => ?_)
      refine lv_aload_n hx hb dX3_step_36 rfl (lv_at hl 0 rfl) ?_
      refine q_getI hx hb hts hi_X3 hown hK hP (ob_mirror hn0) rfl 5 (by decide) rfl (hts (.fieldLink RX3 31 "MirrorNet$Mirror" "target" "I") (by decide +kernel)) (fun _ h9 => h9) dX3_step_37 ?_
      refine lv_iconst (v := -1) hx hb dX3_step_40 (by decide) ?_
      refine lv_icmp_eq (tgt := 63) hx hb dX3_step_41 (by decide) (fun c7 => ?_) (fun c7 => ?_)
      · have h := q_t c7 h
        exact q_rWv hQ hx hb hr hlk hP hS h dX3_step_63
      · have h := q_f c7 h
        refine lv_aload_n hx hb dX3_step_44 rfl (lv_at hl 0 rfl) ?_
        refine lv_aload_n hx hb dX3_step_45 rfl (lv_at hl 1 rfl) ?_
        obtain ⟨r9, hc8, h⟩ := q_bd1 h
        refine q_cRl (va_runV (C := RX3) (As := [.ref (ad 1)]) (rest := []) ⟨hx, hb, hml, hown, hts⟩ (ct_X3_missing l hAD (M := M4) hn0 hc8) (cwV 1 hts gX3_step_X3_missing rfl rfl rfl (by decide +kernel) ⟨Nat.le_of_ble_eq_true rfl, Nat.le_of_ble_eq_true rfl⟩) ⟨gw_blind, gw_recv (ob_mirror hn0) hK hP rfl, gw_pre _ hK hP (Nat.le_trans hz hS.1) hN⟩ rfl rfl hl.1 rfl (lv_room (Nat.le_of_ble_eq_true rfl)) dX3_step_46 ⟨Nat.zero_le _, Nat.zero_le _⟩) ?_
        refine lv_lconst (v := 0) hx hb dX3_step_49 (by decide) ?_
        refine W.lcmp hx hb dX3_step_50 ?_
        refine lv_if_ne (tgt := 63) hx hb dX3_step_51 (by decide) (fun c13 => ?_) (fun c13 => ?_)
        · have h := q_f c13 h
          exact q_rWv hQ hx hb hr hlk hP hS h dX3_step_63
        · have h := q_t c13 h
          refine lv_aload_n hx hb dX3_step_54 rfl (lv_at hl 0 rfl) ?_
          obtain ⟨M16, hc14, h⟩ := q_bd1 h
          refine q_cWv (va_runV (C := RX3) (As := []) (rest := []) ⟨hx, hb, hml, hown, hts⟩ (ct_X3_takeIndex l hAD (M := M4) hn0 hc14) (cwV 0 hts gX3_step_X3_takeIndex rfl rfl rfl (by decide +kernel) ⟨Nat.le_of_ble_eq_true rfl, Nat.le_of_ble_eq_true rfl⟩) ⟨gw_blind, gw_recv (ob_mirror hn0) hK hP rfl, gw_pre _ hK hP (Nat.le_trans hz hS.1) hN⟩ rfl rfl hl.1 rfl (lv_room (Nat.le_of_ble_eq_true rfl)) dX3_step_55 ⟨Nat.zero_le _, Nat.zero_le _⟩) hS (fun H locs hP hS => ?_)
          refine lv_aload_n hx hb dX3_step_58 rfl (lv_at hl 0 rfl) ?_
          refine lv_aload_n hx hb dX3_step_59 rfl (lv_at hl 1 rfl) ?_
          obtain ⟨M21, hc19, h⟩ := q_bd1 h
          refine q_cWv (va_runV (C := RX3) (As := [.ref (ad 1)]) (rest := []) ⟨hx, hb, hml, hown, hts⟩ (ct_X3_dropOld l hAD (M := M16) hn0 hc19) (cwV 1 hts gX3_step_X3_dropOld rfl rfl rfl (by decide +kernel) ⟨Nat.le_of_ble_eq_true rfl, Nat.le_of_ble_eq_true rfl⟩) ⟨gw_blind, gw_recv (ob_mirror hn0) hK hP rfl, gw_pre _ hK hP (Nat.le_trans hz hS.1) hN⟩ rfl rfl hl.1 rfl (lv_room (Nat.le_of_ble_eq_true rfl)) dX3_step_60 ⟨Nat.zero_le _, Nat.zero_le _⟩) hS (fun H locs hP hS => ?_)
          exact q_rWv hQ hx hb hr hlk hP hS h dX3_step_63
    · have h := q_t c1 h
      exact q_rWv hQ hx hb hr hlk hP hS h dX3_step_29
  obtain ⟨H, eH⟩ : ∃ H : Heap, H = s.heap := ⟨_, rfl⟩
  obtain ⟨locs, eL⟩ : ∃ L : List Loc, L = [] := ⟨_, rfl⟩
  have hP : va_P D vwCl (wl ad kc nm M) H := by rw [eH]; exact hP
  have hS : va_S (fun q => z ≤ q) s.heap H locs := by rw [eH, eL]; exact hS
  refine q_start eH eL ?_
  refine lv_aload_n hx hb dX3_step_0 rfl (lv_at hl 0 rfl) ?_
  refine q_getI hx hb hts hi_X3 hown hK hP (ob_mirror hn0) rfl 5 (by decide) rfl (hts (.fieldLink RX3 31 "MirrorNet$Mirror" "target" "I") (by decide +kernel)) (fun _ h9 => h9) dX3_step_1 ?_
  refine lv_iconst (v := -1) hx hb dX3_step_4 (by decide) ?_
  refine lv_icmp_ne (tgt := 21) hx hb dX3_step_5 (by decide) (fun c24 => ?_) (fun c24 => ?_)
  · have h := q_f c24 h
    exact B_bk_X3_step_21 M H locs ls  h hP hS (lv_sub hl [0, 1, 3] rfl)
  · have h := q_t c24 h
    refine lv_iload_n hx hb dX3_step_8 rfl (lv_at hl 2 rfl) ?_
    refine lv_aload_n hx hb dX3_step_9 rfl (lv_at hl 0 rfl) ?_
    refine q_getI hx hb hts hi_X3 hown hK hP (ob_mirror hn0) rfl 4 (by decide) rfl (hts (.fieldLink RX3 60 "MirrorNet$Mirror" "index" "I") (by decide +kernel)) (fun _ h9 => h9) dX3_step_10 ?_
    refine lv_icmp_le (tgt := 21) hx hb dX3_step_13 (by decide) (fun c25 => ?_) (fun c25 => ?_)
    · have h := q_t c25 h
      exact B_bk_X3_step_21 M H locs ls  h hP hS (lv_sub hl [0, 1, 3] rfl)
    · have h := q_f c25 h
      refine lv_aload_n hx hb dX3_step_16 rfl (lv_at hl 0 rfl) ?_
      refine lv_iload_n hx hb dX3_step_17 rfl (lv_at hl 2 rfl) ?_
      obtain ⟨M26, eM26, h⟩ := q_nx h
      refine q_putI hx hb hts hi_X3 tyX3 tyX3_ok nmX3 hown hK hP hAD hS (ob_mirror hn0) rfl 5 (by decide) rfl (hts (.fieldLink RX3 31 "MirrorNet$Mirror" "target" "I") (by decide +kernel)) (fun _ h9 => h9) rfl (ty := .int) (by decide +kernel) rfl rfl dX3_step_18 (fun H locs hP hS => ?_)
      rw [← eM26] at hP
      exact B_bk_X3_step_21 M26 H locs ls  h hP hS (lv_sub hl [0, 1, 3] rfl)
def rm_X4_latestState : Room := { frames := 0, cells := 0, slots := 0, locals := 0 }
set_option maxHeartbeats 4000000 in
set_option maxRecDepth 100000 in
theorem ct_X4_latestState (l : Launch) {D : va_G} {ad : Nat → Nat} {kc : Nat → ClassId} {nm z : Nat} (hAD : AD ad nm z) {M : Mem}  {r : Int32}  (h : fn_X4_latestState M = some r) : Met l yX4_latestState wsX4_latestState rm_X4_latestState (va_Pc [.ref (ad 1)] (GW D ad kc nm z M)) (QRi r) 0 0 (fun _ => False) := by
  refine q_met (cc := cX4_latestState) (maxL := 1) (ret := (some .int)) (by decide) rfl (Nat.le_of_ble_eq_true rfl) ?_
  intro p e s m args below meth c Q ls hx hb hr hlk hml hown hts hB hQ hl
  obtain ⟨hP, hK, hz, hN⟩ := hB
  have hown : s.vm.findClass RX4 = some m.cls := hown
  have hl : lv_has ls 1 [(0, .ref (ad 1))] := hl
  have hi_X4 : ∀ w ∈ u_ws RX4 TX4 8, w ∈ wsX4_latestState := by decide +kernel
  refine lv_aload_n hx hb dX4_latestState_0 rfl (lv_at hl 0 rfl) ?_
  refine q_getI hx hb hts hi_X4 hown hK hP ob_1 rfl 6 (by decide) rfl (hts (.fieldLink RX4 34 "MirrorNet$Shelf" "stateCount" "I") (by decide +kernel)) (fun _ h9 => h9) dX4_latestState_1 ?_
  refine lv_iconst (v := 1) hx hb dX4_latestState_4 (by decide) ?_
  refine lv_isub hx hb dX4_latestState_5 ?_
  exact q_rRi hQ hx hb hr hlk h dX4_latestState_6
def rm_X4_allFiles : Room := { frames := 0, cells := 0, slots := 0, locals := 0 }
set_option maxHeartbeats 4000000 in
set_option maxRecDepth 100000 in
theorem ct_X4_allFiles (l : Launch) {D : va_G} {ad : Nat → Nat} {kc : Nat → ClassId} {nm z : Nat} (hAD : AD ad nm z) {M : Mem}  {r : Int64}  (h : fn_X4_allFiles M = some r) : Met l yX4_allFiles wsX4_allFiles rm_X4_allFiles (va_Pc [.ref (ad 1)] (GW D ad kc nm z M)) (QRl r) 0 0 (fun _ => False) := by
  refine q_met (cc := cX4_allFiles) (maxL := 1) (ret := (some .long)) (by decide) rfl (Nat.le_of_ble_eq_true rfl) ?_
  intro p e s m args below meth c Q ls hx hb hr hlk hml hown hts hB hQ hl
  obtain ⟨hP, hK, hz, hN⟩ := hB
  have hown : s.vm.findClass RX4 = some m.cls := hown
  have hl : lv_has ls 1 [(0, .ref (ad 1))] := hl
  have hi_X4 : ∀ w ∈ u_ws RX4 TX4 8, w ∈ wsX4_allFiles := by decide +kernel
  refine lv_lconst (v := 1) hx hb dX4_allFiles_0 (by decide) ?_
  refine lv_aload_n hx hb dX4_allFiles_1 rfl (lv_at hl 0 rfl) ?_
  refine q_getI hx hb hts hi_X4 hown hK hP ob_1 rfl 5 (by decide) rfl (hts (.fieldLink RX4 38 "MirrorNet$Shelf" "fileCount" "I") (by decide +kernel)) (fun _ h9 => h9) dX4_allFiles_2 ?_
  refine lv_lshl hx hb dX4_allFiles_5 rfl ?_
  refine lv_lconst (v := 1) hx hb dX4_allFiles_6 (by decide) ?_
  refine lv_lsub hx hb dX4_allFiles_7 ?_
  exact q_rRl hQ hx hb hr hlk h dX4_allFiles_8
def rm_X4_addFile : Room := { frames := 0, cells := 0, slots := 0, locals := 0 }
set_option maxHeartbeats 4000000 in
set_option maxRecDepth 100000 in
theorem ct_X4_addFile (l : Launch) {D : va_G} {ad : Nat → Nat} {kc : Nat → ClassId} {nm z : Nat} (hAD : AD ad nm z) {M : Mem} {x1 : Int32} {r : Int32} {Mr : Mem}  (h : fn_X4_addFile M x1 = some (r, Mr)) : Met l yX4_addFile wsX4_addFile rm_X4_addFile (va_Pc [.ref (ad 1), .int x1] (GW D ad kc nm z M)) (QWi D ad kc nm z r Mr) 0 0 (fun q => z ≤ q) := by
  refine q_met (cc := cX4_addFile) (maxL := 2) (ret := (some .int)) (by decide) rfl (Nat.le_of_ble_eq_true rfl) ?_
  intro p e s m args below meth c Q ls hx hb hr hlk hml hown hts hB hQ hl
  obtain ⟨hP, hK, hz, hN⟩ := hB
  have hown : s.vm.findClass RX4 = some m.cls := hown
  have hl : lv_has ls 2 [(0, .ref (ad 1)), (1, .int x1)] := hl
  have hi_X4 : ∀ w ∈ u_ws RX4 TX4 8, w ∈ wsX4_addFile := by decide +kernel
  have hS : va_S (fun q => z ≤ q) s.heap s.heap [] := va_S.rf
  obtain ⟨H, eH⟩ : ∃ H : Heap, H = s.heap := ⟨_, rfl⟩
  obtain ⟨locs, eL⟩ : ∃ L : List Loc, L = [] := ⟨_, rfl⟩
  have hP : va_P D vwCl (wl ad kc nm M) H := by rw [eH]; exact hP
  have hS : va_S (fun q => z ≤ q) s.heap H locs := by rw [eH, eL]; exact hS
  refine q_start eH eL ?_
  refine lv_aload_n hx hb dX4_addFile_0 rfl (lv_at hl 0 rfl) ?_
  refine q_getI hx hb hts hi_X4 hown hK hP ob_1 rfl 5 (by decide) rfl (hts (.fieldLink RX4 38 "MirrorNet$Shelf" "fileCount" "I") (by decide +kernel)) (fun _ h9 => h9) dX4_addFile_1 ?_
  refine lv_bipush (v := 60) hx hb dX4_addFile_4 (by decide) ?_
  refine lv_icmp_lt (tgt := 11) hx hb dX4_addFile_6 (by decide) (fun c1 => ?_) (fun c1 => ?_)
  · have h := q_t c1 h
    refine lv_aload_n hx hb dX4_addFile_11 rfl (lv_at hl 0 rfl) ?_
    refine q_getR hx hb hts hi_X4 hown hK hP ob_1 rfl 0 (by decide) rfl (hts (.fieldLink RX4 9 "MirrorNet$Shelf" "sizes" "[I") (by decide +kernel)) (fun _ h9 => h9) dX4_addFile_12 ?_
    refine lv_aload_n hx hb dX4_addFile_15 rfl (lv_at hl 0 rfl) ?_
    refine q_getI hx hb hts hi_X4 hown hK hP ob_1 rfl 5 (by decide) rfl (hts (.fieldLink RX4 38 "MirrorNet$Shelf" "fileCount" "I") (by decide +kernel)) (fun _ h9 => h9) dX4_addFile_16 ?_
    refine lv_iload_n hx hb dX4_addFile_19 rfl (lv_at hl 1 rfl) ?_
    obtain ⟨hk2, h⟩ := q_ck h
    obtain ⟨M3, eM3, h⟩ := q_nx h
    refine q_iast hx hb hK hP hAD hS ar_2 hk2 dX4_addFile_20 (fun H locs hP hS => ?_)
    rw [← eM3] at hP
    refine lv_aload_n hx hb dX4_addFile_21 rfl (lv_at hl 0 rfl) ?_
    refine lv_dup hx hb dX4_addFile_22 rfl ?_
    refine q_getI hx hb hts hi_X4 hown hK hP ob_1 rfl 5 (by decide) rfl (hts (.fieldLink RX4 38 "MirrorNet$Shelf" "fileCount" "I") (by decide +kernel)) (fun _ h9 => h9) dX4_addFile_23 ?_
    refine lv_iconst (v := 1) hx hb dX4_addFile_26 (by decide) ?_
    refine lv_iadd hx hb dX4_addFile_27 ?_
    obtain ⟨M4, eM4, h⟩ := q_nx h
    refine q_putI hx hb hts hi_X4 tyX4 tyX4_ok nmX4 hown hK hP hAD hS ob_1 rfl 5 (by decide) rfl (hts (.fieldLink RX4 38 "MirrorNet$Shelf" "fileCount" "I") (by decide +kernel)) (fun _ h9 => h9) rfl (ty := .int) (by decide +kernel) rfl rfl dX4_addFile_28 (fun H locs hP hS => ?_)
    rw [← eM4] at hP
    refine lv_aload_n hx hb dX4_addFile_31 rfl (lv_at hl 0 rfl) ?_
    refine q_getI hx hb hts hi_X4 hown hK hP ob_1 rfl 5 (by decide) rfl (hts (.fieldLink RX4 38 "MirrorNet$Shelf" "fileCount" "I") (by decide +kernel)) (fun _ h9 => h9) dX4_addFile_32 ?_
    refine lv_iconst (v := 1) hx hb dX4_addFile_35 (by decide) ?_
    refine lv_isub hx hb dX4_addFile_36 ?_
    exact q_rWi hQ hx hb hr hlk hP hS h dX4_addFile_37
  · have h := q_f c1 h
    refine lv_iconst (v := -1) hx hb dX4_addFile_9 (by decide) ?_
    exact q_rWi hQ hx hb hr hlk hP hS h dX4_addFile_10
def rm_X4_mayChange : Room := { frames := 2, cells := 0, slots := 0, locals := 42 }
set_option maxHeartbeats 4000000 in
set_option maxRecDepth 100000 in
theorem ct_X4_mayChange (l : Launch) {D : va_G} {ad : Nat → Nat} {kc : Nat → ClassId} {nm z : Nat} (hAD : AD ad nm z) {M : Mem} {x1 : Int32} {r : Int32}  (h : fn_X4_mayChange M x1 = some r) : Met l yX4_mayChange wsX4_mayChange rm_X4_mayChange (va_Pc [.ref (ad 1), .int x1] (GW D ad kc nm z M)) (QRz r) 0 0 (fun _ => False) := by
  refine q_met (cc := cX4_mayChange) (maxL := 2) (ret := (some .boolean)) (by decide) rfl (Nat.le_of_ble_eq_true rfl) ?_
  intro p e s m args below meth c Q ls hx hb hr hlk hml hown hts hB hQ hl
  obtain ⟨hP, hK, hz, hN⟩ := hB
  have hown : s.vm.findClass RX4 = some m.cls := hown
  have hl : lv_has ls 2 [(0, .ref (ad 1)), (1, .int x1)] := hl
  have hi_X4 : ∀ w ∈ u_ws RX4 TX4 8, w ∈ wsX4_mayChange := by decide +kernel
  refine lv_aload_n hx hb dX4_mayChange_0 rfl (lv_at hl 0 rfl) ?_
  refine q_getI hx hb hts hi_X4 hown hK hP ob_1 rfl 6 (by decide) rfl (hts (.fieldLink RX4 34 "MirrorNet$Shelf" "stateCount" "I") (by decide +kernel)) (fun _ h9 => h9) dX4_mayChange_1 ?_
  refine lv_bipush (v := 60) hx hb dX4_mayChange_4 (by decide) ?_
  refine lv_icmp_ge (tgt := 35) hx hb dX4_mayChange_6 (by decide) (fun c1 => ?_) (fun c1 => ?_)
  · have h := q_t c1 h
    refine lv_iconst (v := 0) hx hb dX4_mayChange_35 (by decide) ?_
    exact q_rRz hQ hx hb hr hlk h (Or.inl rfl) dX4_mayChange_36
  · have h := q_f c1 h
    refine lv_aload_n hx hb dX4_mayChange_9 rfl (lv_at hl 0 rfl) ?_
    refine lv_iload_n hx hb dX4_mayChange_10 rfl (lv_at hl 1 rfl) ?_
    obtain ⟨r3, hc2, h⟩ := q_bd1 h
    refine q_cRz (va_runV (C := RX4) (As := [.int x1]) (rest := []) ⟨hx, hb, hml, hown, hts⟩ (ct_X4_hasFile l hAD (M := M) hc2) (cwV 1 hts gX4_mayChange_X4_hasFile rfl rfl rfl (by decide +kernel) ⟨Nat.le_of_ble_eq_true rfl, Nat.le_of_ble_eq_true rfl⟩) ⟨gw_blind, gw_recv ob_1 hK hP rfl, gw_pre _ hK hP hz hN⟩ rfl rfl hl.1 rfl (lv_room (Nat.le_of_ble_eq_true rfl)) dX4_mayChange_11 ⟨Nat.zero_le _, Nat.zero_le _⟩) (fun hzr3 => ?_)
    refine lv_if_eq (tgt := 35) hx hb dX4_mayChange_14 (by decide) (fun c7 => ?_) (fun c7 => ?_)
    · have h := q_t c7 h
      refine lv_iconst (v := 0) hx hb dX4_mayChange_35 (by decide) ?_
      exact q_rRz hQ hx hb hr hlk h (Or.inl rfl) dX4_mayChange_36
    · have h := q_f c7 h
      refine lv_aload_n hx hb dX4_mayChange_17 rfl (lv_at hl 0 rfl) ?_
      refine q_getJ hx hb hts hi_X4 hown hK hP ob_1 rfl 7 (by decide) rfl (hts (.fieldLink RX4 65 "MirrorNet$Shelf" "yanked" "J") (by decide +kernel)) (fun _ h9 => h9) dX4_mayChange_18 ?_
      refine lv_iload_n hx hb dX4_mayChange_21 rfl (lv_at hl 1 rfl) ?_
      obtain ⟨r9, hc8, h⟩ := q_bd1 h
      refine q_cRl (va_runSN (As := [.int x1]) (rest := [.long (gJ M 1 7)]) ⟨hx, hb, hml, hown, hts⟩ (ct_X5_bitOf l hAD (M := M) hc8) ⟨va_cnB 1 hts gX4_mayChange_X5_bitOf_n69 rfl rfl rfl (hN (.methodLinkNest RX4 69 yX5_bitOf "MirrorNet") nw_22) (hts (.initialized RX5) (by decide +kernel)) (by decide +kernel) ⟨Nat.le_of_ble_eq_true rfl, Nat.le_of_ble_eq_true rfl⟩, hts (.static yX5_bitOf) (by decide +kernel), trivial⟩ ⟨gw_blind, gw_pre _ hK hP hz hN⟩ rfl rfl hl.1 rfl (lv_room (Nat.le_of_ble_eq_true rfl)) dX4_mayChange_22 ⟨Nat.zero_le _, Nat.zero_le _⟩) ?_
      refine lv_land hx hb dX4_mayChange_25 ?_
      refine lv_lconst (v := 0) hx hb dX4_mayChange_26 (by decide) ?_
      refine W.lcmp hx hb dX4_mayChange_27 ?_
      refine lv_if_ne (tgt := 35) hx hb dX4_mayChange_28 (by decide) (fun c13 => ?_) (fun c13 => ?_)
      · have h := q_f c13 h
        refine lv_iconst (v := 0) hx hb dX4_mayChange_35 (by decide) ?_
        exact q_rRz hQ hx hb hr hlk h (Or.inl rfl) dX4_mayChange_36
      · have h := q_t c13 h
        refine lv_iconst (v := 1) hx hb dX4_mayChange_31 (by decide) ?_
        refine lv_goto (tgt := 36) hx hb dX4_mayChange_32 (by decide) ?_
        exact q_rRz hQ hx hb hr hlk h (Or.inr rfl) dX4_mayChange_36
def rm_X4_namedBy : Room := { frames := 1, cells := 0, slots := 0, locals := 22 }
set_option maxHeartbeats 4000000 in
set_option maxRecDepth 100000 in
theorem ct_X4_namedBy (l : Launch) {D : va_G} {ad : Nat → Nat} {kc : Nat → ClassId} {nm z : Nat} (hAD : AD ad nm z) {M : Mem} {x1 : Int32} {x2 : Int32} {r : Int32}  (h : fn_X4_namedBy M x1 x2 = some r) : Met l yX4_namedBy wsX4_namedBy rm_X4_namedBy (va_Pc [.ref (ad 1), .int x1, .int x2] (GW D ad kc nm z M)) (QRi r) 0 0 (fun _ => False) := by
  refine q_met (cc := cX4_namedBy) (maxL := 3) (ret := (some .int)) (by decide) rfl (Nat.le_of_ble_eq_true rfl) ?_
  intro p e s m args below meth c Q ls hx hb hr hlk hml hown hts hB hQ hl
  obtain ⟨hP, hK, hz, hN⟩ := hB
  have hown : s.vm.findClass RX4 = some m.cls := hown
  have hl : lv_has ls 3 [(0, .ref (ad 1)), (1, .int x1), (2, .int x2)] := hl
  have hi_X4 : ∀ w ∈ u_ws RX4 TX4 8, w ∈ wsX4_namedBy := by decide +kernel
  refine lv_aload_n hx hb dX4_namedBy_0 rfl (lv_at hl 0 rfl) ?_
  refine lv_iload_n hx hb dX4_namedBy_1 rfl (lv_at hl 1 rfl) ?_
  obtain ⟨r2, hc1, h⟩ := q_bd1 h
  refine q_cRz (va_runV (C := RX4) (As := [.int x1]) (rest := []) ⟨hx, hb, hml, hown, hts⟩ (ct_X4_hasState l hAD (M := M) hc1) (cwV 1 hts gX4_namedBy_X4_hasState rfl rfl rfl (by decide +kernel) ⟨Nat.le_of_ble_eq_true rfl, Nat.le_of_ble_eq_true rfl⟩) ⟨gw_blind, gw_recv ob_1 hK hP rfl, gw_pre _ hK hP hz hN⟩ rfl rfl hl.1 rfl (lv_room (Nat.le_of_ble_eq_true rfl)) dX4_namedBy_2 ⟨Nat.zero_le _, Nat.zero_le _⟩) (fun hzr2 => ?_)
  refine lv_if_eq (tgt := 18) hx hb dX4_namedBy_5 (by decide) (fun c6 => ?_) (fun c6 => ?_)
  · have h := q_t c6 h
    refine lv_iconst (v := -1) hx hb dX4_namedBy_18 (by decide) ?_
    exact q_rRi hQ hx hb hr hlk h dX4_namedBy_19
  · have h := q_f c6 h
    refine lv_iload_n hx hb dX4_namedBy_8 rfl (lv_at hl 2 rfl) ?_
    refine lv_iconst (v := 0) hx hb dX4_namedBy_9 (by decide) ?_
    refine lv_bipush (v := 11) hx hb dX4_namedBy_10 (by decide) ?_
    obtain ⟨r8, hc7, h⟩ := q_bd1 h
    refine q_cRz (va_runSN (As := [.int x2, .int (0 : Int32), .int (11 : Int32)]) (rest := []) ⟨hx, hb, hml, hown, hts⟩ (ct_X5_isWithin l hAD (M := M) hc7) ⟨va_cnB 3 hts gX4_namedBy_X5_isWithin_n41 rfl rfl rfl (hN (.methodLinkNest RX4 41 yX5_isWithin "MirrorNet") nw_21) (hts (.initialized RX5) (by decide +kernel)) (by decide +kernel) ⟨Nat.le_of_ble_eq_true rfl, Nat.le_of_ble_eq_true rfl⟩, hts (.static yX5_isWithin) (by decide +kernel), trivial⟩ ⟨gw_blind, gw_pre _ hK hP hz hN⟩ rfl rfl hl.1 rfl (lv_room (Nat.le_of_ble_eq_true rfl)) dX4_namedBy_12 ⟨Nat.zero_le _, Nat.zero_le _⟩) (fun hzr8 => ?_)
    refine lv_if_ne (tgt := 20) hx hb dX4_namedBy_15 (by decide) (fun c12 => ?_) (fun c12 => ?_)
    · have h := q_f c12 h
      refine lv_aload_n hx hb dX4_namedBy_20 rfl (lv_at hl 0 rfl) ?_
      refine q_getR hx hb hts hi_X4 hown hK hP ob_1 rfl 4 (by decide) rfl (hts (.fieldLink RX4 25 "MirrorNet$Shelf" "named" "[I") (by decide +kernel)) (fun _ h9 => h9) dX4_namedBy_21 ?_
      refine lv_iload_n hx hb dX4_namedBy_24 rfl (lv_at hl 1 rfl) ?_
      refine lv_bipush (v := 12) hx hb dX4_namedBy_25 (by decide) ?_
      refine lv_imul hx hb dX4_namedBy_27 ?_
      refine lv_iload_n hx hb dX4_namedBy_28 rfl (lv_at hl 2 rfl) ?_
      refine lv_iadd hx hb dX4_namedBy_29 ?_
      obtain ⟨hk13, h⟩ := q_ck h
      refine q_iald hx hb hK hP ar_6 hk13 dX4_namedBy_30 ?_
      exact q_rRi hQ hx hb hr hlk h dX4_namedBy_31
    · have h := q_t c12 h
      refine lv_iconst (v := -1) hx hb dX4_namedBy_18 (by decide) ?_
      exact q_rRi hQ hx hb hr hlk h dX4_namedBy_19
def rm_X4_addState : Room := { frames := 1, cells := 0, slots := 0, locals := 60 }
set_option maxHeartbeats 4000000 in
set_option maxRecDepth 100000 in
theorem ct_X4_addState (l : Launch) {D : va_G} {ad : Nat → Nat} {kc : Nat → ClassId} {nm z : Nat} (hAD : AD ad nm z) {M : Mem} {x1 : Int32} {r : Int32} {Mr : Mem}  (h : fn_X4_addState M x1 = some (r, Mr)) : Met l yX4_addState wsX4_addState rm_X4_addState (va_Pc [.ref (ad 1), .int x1] (GW D ad kc nm z M)) (QWi D ad kc nm z r Mr) 0 0 (fun q => z ≤ q) := by
  refine q_met (cc := cX4_addState) (maxL := 3) (ret := (some .int)) (by decide) rfl (Nat.le_of_ble_eq_true rfl) ?_
  intro p e s m args below meth c Q ls hx hb hr hlk hml hown hts hB hQ hl
  obtain ⟨hP, hK, hz, hN⟩ := hB
  have hown : s.vm.findClass RX4 = some m.cls := hown
  have hl : lv_has ls 3 [(0, .ref (ad 1)), (1, .int x1)] := hl
  have hi_X4 : ∀ w ∈ u_ws RX4 TX4 8, w ∈ wsX4_addState := by decide +kernel
  have hS : va_S (fun q => z ≤ q) s.heap s.heap [] := va_S.rf
  obtain ⟨H, eH⟩ : ∃ H : Heap, H = s.heap := ⟨_, rfl⟩
  obtain ⟨locs, eL⟩ : ∃ L : List Loc, L = [] := ⟨_, rfl⟩
  have hP : va_P D vwCl (wl ad kc nm M) H := by rw [eH]; exact hP
  have hS : va_S (fun q => z ≤ q) s.heap H locs := by rw [eH, eL]; exact hS
  refine q_start eH eL ?_
  refine lv_aload_n hx hb dX4_addState_0 rfl (lv_at hl 0 rfl) ?_
  refine q_getI hx hb hts hi_X4 hown hK hP ob_1 rfl 6 (by decide) rfl (hts (.fieldLink RX4 34 "MirrorNet$Shelf" "stateCount" "I") (by decide +kernel)) (fun _ h9 => h9) dX4_addState_1 ?_
  refine lv_topi (fun v1 ev1 => ?_)
  have h := q_nxe ev1 h
  refine lv_istore_n (lv' := [(2, .int v1), (0, .ref (ad 1)), (1, .int x1)]) hx hb dX4_addState_4 rfl hl (by decide) rfl (fun ls hl => ?_)
  refine lv_aload_n hx hb dX4_addState_5 rfl (lv_at hl 1 rfl) ?_
  refine q_getR hx hb hts hi_X4 hown hK hP ob_1 rfl 4 (by decide) rfl (hts (.fieldLink RX4 25 "MirrorNet$Shelf" "named" "[I") (by decide +kernel)) (fun _ h9 => h9) dX4_addState_6 ?_
  refine lv_iload_n hx hb dX4_addState_9 rfl (lv_at hl 0 rfl) ?_
  refine lv_iconst (v := 1) hx hb dX4_addState_10 (by decide) ?_
  refine lv_isub hx hb dX4_addState_11 ?_
  refine lv_bipush (v := 12) hx hb dX4_addState_12 (by decide) ?_
  refine lv_imul hx hb dX4_addState_14 ?_
  refine lv_aload_n hx hb dX4_addState_15 rfl (lv_at hl 1 rfl) ?_
  refine q_getR hx hb hts hi_X4 hown hK hP ob_1 rfl 4 (by decide) rfl (hts (.fieldLink RX4 25 "MirrorNet$Shelf" "named" "[I") (by decide +kernel)) (fun _ h9 => h9) dX4_addState_16 ?_
  refine lv_iload_n hx hb dX4_addState_19 rfl (lv_at hl 0 rfl) ?_
  refine lv_bipush (v := 12) hx hb dX4_addState_20 (by decide) ?_
  refine lv_imul hx hb dX4_addState_22 ?_
  refine lv_bipush (v := 12) hx hb dX4_addState_23 (by decide) ?_
  obtain ⟨hk2, h⟩ := q_ck h
  obtain ⟨M3, eM3, h⟩ := q_nx h
  refine q_copy hx hb (hml.trans hl.1.symm) hown (hts (.methodLink RX4 76 arraycopyName) (by decide +kernel)) (hts (.native arraycopyName) (by decide +kernel)) (hts (.static arraycopyName) (by decide +kernel)) (hts (.initialized "java/lang/System") (by decide +kernel)) hK hP hAD hS ar_6 hk2 (Nat.le_of_ble_eq_true rfl) (Nat.le_of_ble_eq_true rfl) dX4_addState_25 (fun H locs hP hS => ?_)
  rw [← eM3] at hP
  refine lv_aload_n hx hb dX4_addState_28 rfl (lv_at hl 1 rfl) ?_
  refine q_getR hx hb hts hi_X4 hown hK hP ob_1 rfl 2 (by decide) rfl (hts (.fieldLink RX4 18 "MirrorNet$Shelf" "stateTicks" "[I") (by decide +kernel)) (fun _ h9 => h9) dX4_addState_29 ?_
  refine lv_iload_n hx hb dX4_addState_32 rfl (lv_at hl 0 rfl) ?_
  refine lv_iload_n hx hb dX4_addState_33 rfl (lv_at hl 2 rfl) ?_
  obtain ⟨hk4, h⟩ := q_ck h
  obtain ⟨M5, eM5, h⟩ := q_nx h
  refine q_iast hx hb hK hP hAD hS ar_4 hk4 dX4_addState_34 (fun H locs hP hS => ?_)
  rw [← eM5] at hP
  refine lv_aload_n hx hb dX4_addState_35 rfl (lv_at hl 1 rfl) ?_
  refine lv_dup hx hb dX4_addState_36 rfl ?_
  refine q_getI hx hb hts hi_X4 hown hK hP ob_1 rfl 6 (by decide) rfl (hts (.fieldLink RX4 34 "MirrorNet$Shelf" "stateCount" "I") (by decide +kernel)) (fun _ h9 => h9) dX4_addState_37 ?_
  refine lv_iconst (v := 1) hx hb dX4_addState_40 (by decide) ?_
  refine lv_iadd hx hb dX4_addState_41 ?_
  obtain ⟨M6, eM6, h⟩ := q_nx h
  refine q_putI hx hb hts hi_X4 tyX4 tyX4_ok nmX4 hown hK hP hAD hS ob_1 rfl 6 (by decide) rfl (hts (.fieldLink RX4 34 "MirrorNet$Shelf" "stateCount" "I") (by decide +kernel)) (fun _ h9 => h9) rfl (ty := .int) (by decide +kernel) rfl rfl dX4_addState_42 (fun H locs hP hS => ?_)
  rw [← eM6] at hP
  refine lv_iload_n hx hb dX4_addState_45 rfl (lv_at hl 0 rfl) ?_
  exact q_rWi hQ hx hb hr hlk hP hS h dX4_addState_46
def rm_X4_gatherFiles : Room := { frames := 2, cells := 0, slots := 0, locals := 44 }
set_option maxHeartbeats 4000000 in
set_option maxRecDepth 100000 in
theorem ct_X4_gatherFiles (l : Launch) {D : va_G} {ad : Nat → Nat} {kc : Nat → ClassId} {nm z : Nat} (hAD : AD ad nm z) {M : Mem} {x1 : Int32} {Mr : Mem}  (h : fn_X4_gatherFiles M x1 = some Mr) : Met l yX4_gatherFiles wsX4_gatherFiles rm_X4_gatherFiles (va_Pc [.ref (ad 1), .int x1] (GW D ad kc nm z M)) (QWv D ad kc nm z Mr) 0 0 (fun q => z ≤ q) := by
  refine q_met (cc := cX4_gatherFiles) (maxL := 5) (ret := none) (by decide) rfl (Nat.le_of_ble_eq_true rfl) ?_
  intro p e s m args below meth c Q ls hx hb hr hlk hml hown hts hB hQ hl
  obtain ⟨hP, hK, hz, hN⟩ := hB
  have hown : s.vm.findClass RX4 = some m.cls := hown
  have hl : lv_has ls 5 [(0, .ref (ad 1)), (1, .int x1)] := hl
  have hi_X4 : ∀ w ∈ u_ws RX4 TX4 8, w ∈ wsX4_gatherFiles := by decide +kernel
  have hS : va_S (fun q => z ≤ q) s.heap s.heap [] := va_S.rf
  have L_lq_X4_gatherFiles_5 : ∀ (M : Mem), ∀ (n5 : Nat) (y2 : Int64) (x4 : Int32) (H : Heap) (locs : List Loc) (ls : Array Slot), it2 (lq_X4_gatherFiles_5 M x1) n5 y2 x4 = some Mr → va_P D vwCl (wl ad kc nm M) H → va_S (fun q => z ≤ q) s.heap H locs → lv_has ls 5 [(0, .ref (ad 1)), (1, .int x1), (2, .long y2), (4, .int x4)] → W p l e rm_X4_gatherFiles s m args below meth c H locs 0 0 Q (F0 m 5 ls []) := by
    intro M n5
    induction n5 with
    | zero =>
      intro y2 x4 H locs ls h hP hS hl
      exact (it2_0 h).elim
    | succ n5 ih5 =>
      intro y2 x4 H locs ls h hP hS hl
      have h := it2_s h
      refine lv_iload hx hb dX4_gatherFiles_5 (lv_at hl 3 rfl) ?_
      refine lv_bipush (v := 12) hx hb dX4_gatherFiles_7 (by decide) ?_
      refine lv_icmp_ge (tgt := 31) hx hb dX4_gatherFiles_9 (by decide) (fun c1 => ?_) (fun c1 => ?_)
      · have h := q_t c1 h
        refine lv_aload_n hx hb dX4_gatherFiles_31 rfl (lv_at hl 0 rfl) ?_
        refine q_getR hx hb hts hi_X4 hown hK hP ob_1 rfl 3 (by decide) rfl (hts (.fieldLink RX4 21 "MirrorNet$Shelf" "stateFiles" "[J") (by decide +kernel)) (fun _ h9 => h9) dX4_gatherFiles_32 ?_
        refine lv_iload_n hx hb dX4_gatherFiles_35 rfl (lv_at hl 1 rfl) ?_
        refine lv_lload_n hx hb dX4_gatherFiles_36 rfl (lv_at hl 2 rfl) ?_
        obtain ⟨hk2, h⟩ := q_ck h
        obtain ⟨M3, eM3, h⟩ := q_nx h
        refine q_last hx hb hK hP hAD hS ar_5 hk2 dX4_gatherFiles_37 (fun H locs hP hS => ?_)
        rw [← eM3] at hP
        exact q_rWv hQ hx hb hr hlk hP hS h dX4_gatherFiles_38
      · have h := q_f c1 h
        refine lv_lload_n hx hb dX4_gatherFiles_12 rfl (lv_at hl 2 rfl) ?_
        refine lv_aload_n hx hb dX4_gatherFiles_13 rfl (lv_at hl 0 rfl) ?_
        refine lv_iload_n hx hb dX4_gatherFiles_14 rfl (lv_at hl 1 rfl) ?_
        refine lv_iload hx hb dX4_gatherFiles_15 (lv_at hl 3 rfl) ?_
        obtain ⟨r5, hc4, h⟩ := q_bd1 h
        refine q_cRi (va_runV (C := RX4) (As := [.int x1, .int x4]) (rest := [.long y2]) ⟨hx, hb, hml, hown, hts⟩ (ct_X4_namedBy l hAD (M := M) hc4) (cwV 2 hts gX4_gatherFiles_X4_namedBy rfl rfl rfl (by decide +kernel) ⟨Nat.le_of_ble_eq_true rfl, Nat.le_of_ble_eq_true rfl⟩) ⟨gw_blind, gw_recv ob_1 hK hP rfl, gw_pre _ hK hP (Nat.le_trans hz hS.1) hN⟩ rfl rfl hl.1 rfl (lv_room (Nat.le_of_ble_eq_true rfl)) dX4_gatherFiles_17 ⟨Nat.zero_le _, Nat.zero_le _⟩) ?_
        obtain ⟨r10, hc9, h⟩ := q_bd1 h
        refine q_cRl (va_runSN (As := [.int r5]) (rest := [.long y2]) ⟨hx, hb, hml, hown, hts⟩ (ct_X5_bitOf l hAD (M := M) hc9) ⟨va_cnB 1 hts gX4_gatherFiles_X5_bitOf_n69 rfl rfl rfl (hN (.methodLinkNest RX4 69 yX5_bitOf "MirrorNet") nw_22) (hts (.initialized RX5) (by decide +kernel)) (by decide +kernel) ⟨Nat.le_of_ble_eq_true rfl, Nat.le_of_ble_eq_true rfl⟩, hts (.static yX5_bitOf) (by decide +kernel), trivial⟩ ⟨gw_blind, gw_pre _ hK hP (Nat.le_trans hz hS.1) hN⟩ rfl rfl hl.1 rfl (lv_room (Nat.le_of_ble_eq_true rfl)) dX4_gatherFiles_20 ⟨Nat.zero_le _, Nat.zero_le _⟩) ?_
        refine lv_lor hx hb dX4_gatherFiles_23 ?_
        refine lv_topl (fun v14 ev14 => ?_)
        have h := q_nxe ev14 h
        refine lv_lstore_n (lv' := [(2, .long v14), (0, .ref (ad 1)), (1, .int x1), (4, .int x4)]) hx hb dX4_gatherFiles_24 rfl hl (by decide) rfl (fun ls hl => ?_)
        obtain ⟨v15, ev15, h⟩ := q_nx h
        refine lv_iinc (v := v15) (lv' := [(4, .int v15), (2, .long v14), (0, .ref (ad 1)), (1, .int x1)]) hx hb dX4_gatherFiles_25 hl (k := 3) rfl (by rw [ev15]; rfl) (by decide) rfl (fun ls hl => ?_)
        refine lv_goto (tgt := 5) hx hb dX4_gatherFiles_28 (by decide) ?_
        exact ih5 v14 v15 H locs ls  h hP hS (lv_sub hl [2, 3, 1, 0] rfl)
  obtain ⟨H, eH⟩ : ∃ H : Heap, H = s.heap := ⟨_, rfl⟩
  obtain ⟨locs, eL⟩ : ∃ L : List Loc, L = [] := ⟨_, rfl⟩
  have hP : va_P D vwCl (wl ad kc nm M) H := by rw [eH]; exact hP
  have hS : va_S (fun q => z ≤ q) s.heap H locs := by rw [eH, eL]; exact hS
  refine q_start eH eL ?_
  refine lv_lconst (v := 0) hx hb dX4_gatherFiles_0 (by decide) ?_
  refine lv_lstore_n (lv' := [(2, .long (0 : Int64)), (0, .ref (ad 1)), (1, .int x1)]) hx hb dX4_gatherFiles_1 rfl hl (by decide) rfl (fun ls hl => ?_)
  refine lv_iconst (v := 0) hx hb dX4_gatherFiles_2 (by decide) ?_
  refine lv_istore (lv' := [(4, .int (0 : Int32)), (2, .long (0 : Int64)), (0, .ref (ad 1)), (1, .int x1)]) hx hb dX4_gatherFiles_3 hl (by decide) rfl (fun ls hl => ?_)
  exact L_lq_X4_gatherFiles_5 M FU (0 : Int64) (0 : Int32) H locs ls  h hP hS (lv_sub hl [2, 3, 1, 0] rfl)
def rm_X4_addPut : Room := { frames := 3, cells := 0, slots := 0, locals := 82 }
set_option maxHeartbeats 4000000 in
set_option maxRecDepth 100000 in
theorem ct_X4_addPut (l : Launch) {D : va_G} {ad : Nat → Nat} {kc : Nat → ClassId} {nm z : Nat} (hAD : AD ad nm z) {M : Mem} {x1 : Int32} {x2 : Int32} {x3 : Int32} {r : Int32} {Mr : Mem}  (h : fn_X4_addPut M x1 x2 x3 = some (r, Mr)) : Met l yX4_addPut wsX4_addPut rm_X4_addPut (va_Pc [.ref (ad 1), .int x1, .int x2, .int x3] (GW D ad kc nm z M)) (QWi D ad kc nm z r Mr) 0 0 (fun q => z ≤ q) := by
  refine q_met (cc := cX4_addPut) (maxL := 5) (ret := (some .int)) (by decide) rfl (Nat.le_of_ble_eq_true rfl) ?_
  intro p e s m args below meth c Q ls hx hb hr hlk hml hown hts hB hQ hl
  obtain ⟨hP, hK, hz, hN⟩ := hB
  have hown : s.vm.findClass RX4 = some m.cls := hown
  have hl : lv_has ls 5 [(0, .ref (ad 1)), (1, .int x1), (2, .int x2), (3, .int x3)] := hl
  have hi_X4 : ∀ w ∈ u_ws RX4 TX4 8, w ∈ wsX4_addPut := by decide +kernel
  have hS : va_S (fun q => z ≤ q) s.heap s.heap [] := va_S.rf
  obtain ⟨H, eH⟩ : ∃ H : Heap, H = s.heap := ⟨_, rfl⟩
  obtain ⟨locs, eL⟩ : ∃ L : List Loc, L = [] := ⟨_, rfl⟩
  have hP : va_P D vwCl (wl ad kc nm M) H := by rw [eH]; exact hP
  have hS : va_S (fun q => z ≤ q) s.heap H locs := by rw [eH, eL]; exact hS
  refine q_start eH eL ?_
  refine lv_iload_n hx hb dX4_addPut_0 rfl (lv_at hl 1 rfl) ?_
  refine lv_iconst (v := 0) hx hb dX4_addPut_1 (by decide) ?_
  refine lv_bipush (v := 11) hx hb dX4_addPut_2 (by decide) ?_
  obtain ⟨r2, hc1, h⟩ := q_bd1 h
  refine q_cRz (va_runSN (As := [.int x1, .int (0 : Int32), .int (11 : Int32)]) (rest := []) ⟨hx, hb, hml, hown, hts⟩ (ct_X5_isWithin l hAD (M := M) hc1) ⟨va_cnB 3 hts gX4_addPut_X5_isWithin_n41 rfl rfl rfl (hN (.methodLinkNest RX4 41 yX5_isWithin "MirrorNet") nw_21) (hts (.initialized RX5) (by decide +kernel)) (by decide +kernel) ⟨Nat.le_of_ble_eq_true rfl, Nat.le_of_ble_eq_true rfl⟩, hts (.static yX5_isWithin) (by decide +kernel), trivial⟩ ⟨gw_blind, gw_pre _ hK hP (Nat.le_trans hz hS.1) hN⟩ rfl rfl hl.1 rfl (lv_room (Nat.le_of_ble_eq_true rfl)) dX4_addPut_4 ⟨Nat.zero_le _, Nat.zero_le _⟩) (fun hzr2 => ?_)
  refine lv_if_eq (tgt := 31) hx hb dX4_addPut_7 (by decide) (fun c6 => ?_) (fun c6 => ?_)
  · have h := q_t c6 h
    refine lv_iconst (v := -1) hx hb dX4_addPut_31 (by decide) ?_
    exact q_rWi hQ hx hb hr hlk hP hS h dX4_addPut_32
  · have h := q_f c6 h
    refine lv_aload_n hx hb dX4_addPut_10 rfl (lv_at hl 0 rfl) ?_
    refine lv_iload_n hx hb dX4_addPut_11 rfl (lv_at hl 2 rfl) ?_
    obtain ⟨r8, hc7, h⟩ := q_bd1 h
    refine q_cRz (va_runV (C := RX4) (As := [.int x2]) (rest := []) ⟨hx, hb, hml, hown, hts⟩ (ct_X4_mayChange l hAD (M := M) hc7) (cwV 1 hts gX4_addPut_X4_mayChange rfl rfl rfl (by decide +kernel) ⟨Nat.le_of_ble_eq_true rfl, Nat.le_of_ble_eq_true rfl⟩) ⟨gw_blind, gw_recv ob_1 hK hP rfl, gw_pre _ hK hP (Nat.le_trans hz hS.1) hN⟩ rfl rfl hl.1 rfl (lv_room (Nat.le_of_ble_eq_true rfl)) dX4_addPut_12 ⟨Nat.zero_le _, Nat.zero_le _⟩) (fun hzr8 => ?_)
    refine lv_if_eq (tgt := 31) hx hb dX4_addPut_15 (by decide) (fun c12 => ?_) (fun c12 => ?_)
    · have h := q_t c12 h
      refine lv_iconst (v := -1) hx hb dX4_addPut_31 (by decide) ?_
      exact q_rWi hQ hx hb hr hlk hP hS h dX4_addPut_32
    · have h := q_f c12 h
      refine lv_aload_n hx hb dX4_addPut_18 rfl (lv_at hl 0 rfl) ?_
      refine lv_aload_n hx hb dX4_addPut_19 rfl (lv_at hl 0 rfl) ?_
      obtain ⟨r14, hc13, h⟩ := q_bd1 h
      refine q_cRi (va_runV (C := RX4) (As := []) (rest := [.ref (ad 1)]) ⟨hx, hb, hml, hown, hts⟩ (ct_X4_latestState l hAD (M := M) hc13) (cwV 0 hts gX4_addPut_X4_latestState rfl rfl rfl (by decide +kernel) ⟨Nat.le_of_ble_eq_true rfl, Nat.le_of_ble_eq_true rfl⟩) ⟨gw_blind, gw_recv ob_1 hK hP rfl, gw_pre _ hK hP (Nat.le_trans hz hS.1) hN⟩ rfl rfl hl.1 rfl (lv_room (Nat.le_of_ble_eq_true rfl)) dX4_addPut_20 ⟨Nat.zero_le _, Nat.zero_le _⟩) ?_
      refine lv_iload_n hx hb dX4_addPut_23 rfl (lv_at hl 1 rfl) ?_
      obtain ⟨r19, hc18, h⟩ := q_bd1 h
      refine q_cRi (va_runV (C := RX4) (As := [.int r14, .int x1]) (rest := []) ⟨hx, hb, hml, hown, hts⟩ (ct_X4_namedBy l hAD (M := M) hc18) (cwV 2 hts gX4_addPut_X4_namedBy rfl rfl rfl (by decide +kernel) ⟨Nat.le_of_ble_eq_true rfl, Nat.le_of_ble_eq_true rfl⟩) ⟨gw_blind, gw_recv ob_1 hK hP rfl, gw_pre _ hK hP (Nat.le_trans hz hS.1) hN⟩ rfl rfl hl.1 rfl (lv_room (Nat.le_of_ble_eq_true rfl)) dX4_addPut_24 ⟨Nat.zero_le _, Nat.zero_le _⟩) ?_
      refine lv_iload_n hx hb dX4_addPut_27 rfl (lv_at hl 2 rfl) ?_
      refine lv_icmp_ne (tgt := 33) hx hb dX4_addPut_28 (by decide) (fun c23 => ?_) (fun c23 => ?_)
      · have h := q_f c23 h
        refine lv_aload_n hx hb dX4_addPut_33 rfl (lv_at hl 0 rfl) ?_
        refine lv_iload_n hx hb dX4_addPut_34 rfl (lv_at hl 3 rfl) ?_
        obtain ⟨r25, M26, hc24, h⟩ := q_bd2 h
        refine q_cWi (va_runV (C := RX4) (As := [.int x3]) (rest := []) ⟨hx, hb, hml, hown, hts⟩ (ct_X4_addState l hAD (M := M) hc24) (cwV 1 hts gX4_addPut_X4_addState rfl rfl rfl (by decide +kernel) ⟨Nat.le_of_ble_eq_true rfl, Nat.le_of_ble_eq_true rfl⟩) ⟨gw_blind, gw_recv ob_1 hK hP rfl, gw_pre _ hK hP (Nat.le_trans hz hS.1) hN⟩ rfl rfl hl.1 rfl (lv_room (Nat.le_of_ble_eq_true rfl)) dX4_addPut_35 ⟨Nat.zero_le _, Nat.zero_le _⟩) hS (fun H locs hP hS => ?_)
        refine lv_istore (lv' := [(4, .int r25), (0, .ref (ad 1)), (1, .int x1), (2, .int x2), (3, .int x3)]) hx hb dX4_addPut_38 hl (by decide) rfl (fun ls hl => ?_)
        refine lv_aload_n hx hb dX4_addPut_40 rfl (lv_at hl 1 rfl) ?_
        refine q_getR hx hb hts hi_X4 hown hK hP ob_1 rfl 4 (by decide) rfl (hts (.fieldLink RX4 25 "MirrorNet$Shelf" "named" "[I") (by decide +kernel)) (fun _ h9 => h9) dX4_addPut_41 ?_
        refine lv_iload hx hb dX4_addPut_44 (lv_at hl 0 rfl) ?_
        refine lv_bipush (v := 12) hx hb dX4_addPut_46 (by decide) ?_
        refine lv_imul hx hb dX4_addPut_48 ?_
        refine lv_iload_n hx hb dX4_addPut_49 rfl (lv_at hl 2 rfl) ?_
        refine lv_iadd hx hb dX4_addPut_50 ?_
        refine lv_iload_n hx hb dX4_addPut_51 rfl (lv_at hl 3 rfl) ?_
        obtain ⟨hk29, h⟩ := q_ck h
        obtain ⟨M30, eM30, h⟩ := q_nx h
        refine q_iast hx hb hK hP hAD hS ar_6 hk29 dX4_addPut_52 (fun H locs hP hS => ?_)
        rw [← eM30] at hP
        refine lv_aload_n hx hb dX4_addPut_53 rfl (lv_at hl 1 rfl) ?_
        refine lv_iload hx hb dX4_addPut_54 (lv_at hl 0 rfl) ?_
        obtain ⟨M33, hc31, h⟩ := q_bd1 h
        refine q_cWv (va_runV (C := RX4) (As := [.int r25]) (rest := []) ⟨hx, hb, hml, hown, hts⟩ (ct_X4_gatherFiles l hAD (M := M30) hc31) (cwV 1 hts gX4_addPut_X4_gatherFiles rfl rfl rfl (by decide +kernel) ⟨Nat.le_of_ble_eq_true rfl, Nat.le_of_ble_eq_true rfl⟩) ⟨gw_blind, gw_recv ob_1 hK hP rfl, gw_pre _ hK hP (Nat.le_trans hz hS.1) hN⟩ rfl rfl hl.1 rfl (lv_room (Nat.le_of_ble_eq_true rfl)) dX4_addPut_56 ⟨Nat.zero_le _, Nat.zero_le _⟩) hS (fun H locs hP hS => ?_)
        refine lv_iload hx hb dX4_addPut_59 (lv_at hl 0 rfl) ?_
        exact q_rWi hQ hx hb hr hlk hP hS h dX4_addPut_61
      · have h := q_t c23 h
        refine lv_iconst (v := -1) hx hb dX4_addPut_31 (by decide) ?_
        exact q_rWi hQ hx hb hr hlk hP hS h dX4_addPut_32
def rm_X4_addYank : Room := { frames := 3, cells := 0, slots := 0, locals := 82 }
set_option maxHeartbeats 4000000 in
set_option maxRecDepth 100000 in
theorem ct_X4_addYank (l : Launch) {D : va_G} {ad : Nat → Nat} {kc : Nat → ClassId} {nm z : Nat} (hAD : AD ad nm z) {M : Mem} {x1 : Int32} {x2 : Int32} {r : Int32} {Mr : Mem}  (h : fn_X4_addYank M x1 x2 = some (r, Mr)) : Met l yX4_addYank wsX4_addYank rm_X4_addYank (va_Pc [.ref (ad 1), .int x1, .int x2] (GW D ad kc nm z M)) (QWi D ad kc nm z r Mr) 0 0 (fun q => z ≤ q) := by
  refine q_met (cc := cX4_addYank) (maxL := 5) (ret := (some .int)) (by decide) rfl (Nat.le_of_ble_eq_true rfl) ?_
  intro p e s m args below meth c Q ls hx hb hr hlk hml hown hts hB hQ hl
  obtain ⟨hP, hK, hz, hN⟩ := hB
  have hown : s.vm.findClass RX4 = some m.cls := hown
  have hl : lv_has ls 5 [(0, .ref (ad 1)), (1, .int x1), (2, .int x2)] := hl
  have hi_X4 : ∀ w ∈ u_ws RX4 TX4 8, w ∈ wsX4_addYank := by decide +kernel
  have hS : va_S (fun q => z ≤ q) s.heap s.heap [] := va_S.rf
  have L_lq_X4_addYank_42 : ∀ (x3 : Int32), ∀ (n42 : Nat) (M : Mem) (x4 : Int32) (H : Heap) (locs : List Loc) (ls : Array Slot), it2 (lq_X4_addYank_42 x1 x3) n42 M x4 = some (r, Mr) → va_P D vwCl (wl ad kc nm M) H → va_S (fun q => z ≤ q) s.heap H locs → lv_has ls 5 [(0, .ref (ad 1)), (1, .int x1), (3, .int x3), (4, .int x4)] → W p l e rm_X4_addYank s m args below meth c H locs 0 0 Q (F0 m 42 ls []) := by
    intro x3 n42
    induction n42 with
    | zero =>
      intro M x4 H locs ls h hP hS hl
      exact (it2_0 h).elim
    | succ n42 ih42 =>
      have B_bk_X4_addYank_72 : ∀ (M : Mem) (x4 : Int32) (H : Heap) (locs : List Loc) (ls : Array Slot), bk_X4_addYank_72 (it2 (lq_X4_addYank_42 x1 x3) n42) M x1 x3 x4 = some (r, Mr) → va_P D vwCl (wl ad kc nm M) H → va_S (fun q => z ≤ q) s.heap H locs → lv_has ls 5 [(0, .ref (ad 1)), (1, .int x1), (3, .int x3), (4, .int x4)] → W p l e rm_X4_addYank s m args below meth c H locs 0 0 Q (F0 m 72 ls []) := by
        intro M x4 H locs ls h hP hS hl
        obtain ⟨v1, ev1, h⟩ := q_nx h
        refine lv_iinc (v := v1) (lv' := [(4, .int v1), (0, .ref (ad 1)), (1, .int x1), (3, .int x3)]) hx hb dX4_addYank_72 hl (k := 3) rfl (by rw [ev1]; rfl) (by decide) rfl (fun ls hl => ?_)
        refine lv_goto (tgt := 42) hx hb dX4_addYank_75 (by decide) ?_
        exact ih42 M v1 H locs ls  h hP hS (lv_sub hl [1, 2, 3, 0] rfl)
      intro M x4 H locs ls h hP hS hl
      have h := it2_s h
      refine lv_iload hx hb dX4_addYank_42 (lv_at hl 3 rfl) ?_
      refine lv_iload_n hx hb dX4_addYank_44 rfl (lv_at hl 2 rfl) ?_
      refine lv_iconst (v := 1) hx hb dX4_addYank_45 (by decide) ?_
      refine lv_iadd hx hb dX4_addYank_46 ?_
      refine lv_bipush (v := 12) hx hb dX4_addYank_47 (by decide) ?_
      refine lv_imul hx hb dX4_addYank_49 ?_
      refine lv_icmp_ge (tgt := 78) hx hb dX4_addYank_50 (by decide) (fun c2 => ?_) (fun c2 => ?_)
      · have h := q_t c2 h
        refine lv_aload_n hx hb dX4_addYank_78 rfl (lv_at hl 0 rfl) ?_
        refine lv_iload_n hx hb dX4_addYank_79 rfl (lv_at hl 2 rfl) ?_
        obtain ⟨M5, hc3, h⟩ := q_bd1 h
        refine q_cWv (va_runV (C := RX4) (As := [.int x3]) (rest := []) ⟨hx, hb, hml, hown, hts⟩ (ct_X4_gatherFiles l hAD (M := M) hc3) (cwV 1 hts gX4_addYank_X4_gatherFiles rfl rfl rfl (by decide +kernel) ⟨Nat.le_of_ble_eq_true rfl, Nat.le_of_ble_eq_true rfl⟩) ⟨gw_blind, gw_recv ob_1 hK hP rfl, gw_pre _ hK hP (Nat.le_trans hz hS.1) hN⟩ rfl rfl hl.1 rfl (lv_room (Nat.le_of_ble_eq_true rfl)) dX4_addYank_80 ⟨Nat.zero_le _, Nat.zero_le _⟩) hS (fun H locs hP hS => ?_)
        refine lv_iload_n hx hb dX4_addYank_83 rfl (lv_at hl 2 rfl) ?_
        exact q_rWi hQ hx hb hr hlk hP hS h dX4_addYank_84
      · have h := q_f c2 h
        refine lv_aload_n hx hb dX4_addYank_53 rfl (lv_at hl 0 rfl) ?_
        refine q_getR hx hb hts hi_X4 hown hK hP ob_1 rfl 4 (by decide) rfl (hts (.fieldLink RX4 25 "MirrorNet$Shelf" "named" "[I") (by decide +kernel)) (fun _ h9 => h9) dX4_addYank_54 ?_
        refine lv_iload hx hb dX4_addYank_57 (lv_at hl 3 rfl) ?_
        obtain ⟨hk8, h⟩ := q_ck h
        refine q_iald hx hb hK hP ar_6 hk8 dX4_addYank_59 ?_
        refine lv_iload_n hx hb dX4_addYank_60 rfl (lv_at hl 1 rfl) ?_
        refine lv_icmp_ne (tgt := 72) hx hb dX4_addYank_61 (by decide) (fun c9 => ?_) (fun c9 => ?_)
        · have h := q_f c9 h
          exact B_bk_X4_addYank_72 M x4 H locs ls  h hP hS (lv_sub hl [0, 1, 2, 3] rfl)
        · have h := q_t c9 h
          refine lv_aload_n hx hb dX4_addYank_64 rfl (lv_at hl 0 rfl) ?_
          refine q_getR hx hb hts hi_X4 hown hK hP ob_1 rfl 4 (by decide) rfl (hts (.fieldLink RX4 25 "MirrorNet$Shelf" "named" "[I") (by decide +kernel)) (fun _ h9 => h9) dX4_addYank_65 ?_
          refine lv_iload hx hb dX4_addYank_68 (lv_at hl 3 rfl) ?_
          refine lv_iconst (v := -1) hx hb dX4_addYank_70 (by decide) ?_
          obtain ⟨hk10, h⟩ := q_ck h
          obtain ⟨M11, eM11, h⟩ := q_nx h
          refine q_iast hx hb hK hP hAD hS ar_6 hk10 dX4_addYank_71 (fun H locs hP hS => ?_)
          rw [← eM11] at hP
          exact B_bk_X4_addYank_72 M11 x4 H locs ls  h hP hS (lv_sub hl [0, 1, 2, 3] rfl)
  obtain ⟨H, eH⟩ : ∃ H : Heap, H = s.heap := ⟨_, rfl⟩
  obtain ⟨locs, eL⟩ : ∃ L : List Loc, L = [] := ⟨_, rfl⟩
  have hP : va_P D vwCl (wl ad kc nm M) H := by rw [eH]; exact hP
  have hS : va_S (fun q => z ≤ q) s.heap H locs := by rw [eH, eL]; exact hS
  refine q_start eH eL ?_
  refine lv_aload_n hx hb dX4_addYank_0 rfl (lv_at hl 0 rfl) ?_
  refine lv_iload_n hx hb dX4_addYank_1 rfl (lv_at hl 1 rfl) ?_
  obtain ⟨r13, hc12, h⟩ := q_bd1 h
  refine q_cRz (va_runV (C := RX4) (As := [.int x1]) (rest := []) ⟨hx, hb, hml, hown, hts⟩ (ct_X4_mayChange l hAD (M := M) hc12) (cwV 1 hts gX4_addYank_X4_mayChange rfl rfl rfl (by decide +kernel) ⟨Nat.le_of_ble_eq_true rfl, Nat.le_of_ble_eq_true rfl⟩) ⟨gw_blind, gw_recv ob_1 hK hP rfl, gw_pre _ hK hP (Nat.le_trans hz hS.1) hN⟩ rfl rfl hl.1 rfl (lv_room (Nat.le_of_ble_eq_true rfl)) dX4_addYank_2 ⟨Nat.zero_le _, Nat.zero_le _⟩) (fun hzr13 => ?_)
  refine lv_if_ne (tgt := 10) hx hb dX4_addYank_5 (by decide) (fun c17 => ?_) (fun c17 => ?_)
  · have h := q_f c17 h
    refine lv_aload_n hx hb dX4_addYank_10 rfl (lv_at hl 0 rfl) ?_
    refine lv_dup hx hb dX4_addYank_11 rfl ?_
    refine q_getJ hx hb hts hi_X4 hown hK hP ob_1 rfl 7 (by decide) rfl (hts (.fieldLink RX4 65 "MirrorNet$Shelf" "yanked" "J") (by decide +kernel)) (fun _ h9 => h9) dX4_addYank_12 ?_
    refine lv_iload_n hx hb dX4_addYank_15 rfl (lv_at hl 1 rfl) ?_
    obtain ⟨r19, hc18, h⟩ := q_bd1 h
    refine q_cRl (va_runSN (As := [.int x1]) (rest := [.long (gJ M 1 7), .ref (ad 1)]) ⟨hx, hb, hml, hown, hts⟩ (ct_X5_bitOf l hAD (M := M) hc18) ⟨va_cnB 1 hts gX4_addYank_X5_bitOf_n69 rfl rfl rfl (hN (.methodLinkNest RX4 69 yX5_bitOf "MirrorNet") nw_22) (hts (.initialized RX5) (by decide +kernel)) (by decide +kernel) ⟨Nat.le_of_ble_eq_true rfl, Nat.le_of_ble_eq_true rfl⟩, hts (.static yX5_bitOf) (by decide +kernel), trivial⟩ ⟨gw_blind, gw_pre _ hK hP (Nat.le_trans hz hS.1) hN⟩ rfl rfl hl.1 rfl (lv_room (Nat.le_of_ble_eq_true rfl)) dX4_addYank_16 ⟨Nat.zero_le _, Nat.zero_le _⟩) ?_
    refine lv_lor hx hb dX4_addYank_19 ?_
    obtain ⟨M23, eM23, h⟩ := q_nx h
    refine q_putJ hx hb hts hi_X4 tyX4 tyX4_ok nmX4 hown hK hP hAD hS ob_1 rfl 7 (by decide) rfl (hts (.fieldLink RX4 65 "MirrorNet$Shelf" "yanked" "J") (by decide +kernel)) (fun _ h9 => h9) rfl (by decide +kernel) dX4_addYank_20 (fun H locs hP hS => ?_)
    rw [← eM23] at hP
    refine lv_aload_n hx hb dX4_addYank_23 rfl (lv_at hl 0 rfl) ?_
    refine q_getR hx hb hts hi_X4 hown hK hP ob_1 rfl 1 (by decide) rfl (hts (.fieldLink RX4 15 "MirrorNet$Shelf" "yankTicks" "[I") (by decide +kernel)) (fun _ h9 => h9) dX4_addYank_24 ?_
    refine lv_iload_n hx hb dX4_addYank_27 rfl (lv_at hl 1 rfl) ?_
    refine lv_iload_n hx hb dX4_addYank_28 rfl (lv_at hl 2 rfl) ?_
    obtain ⟨hk24, h⟩ := q_ck h
    obtain ⟨M25, eM25, h⟩ := q_nx h
    refine q_iast hx hb hK hP hAD hS ar_3 hk24 dX4_addYank_29 (fun H locs hP hS => ?_)
    rw [← eM25] at hP
    refine lv_aload_n hx hb dX4_addYank_30 rfl (lv_at hl 0 rfl) ?_
    refine lv_iload_n hx hb dX4_addYank_31 rfl (lv_at hl 2 rfl) ?_
    obtain ⟨r27, M28, hc26, h⟩ := q_bd2 h
    refine q_cWi (va_runV (C := RX4) (As := [.int x2]) (rest := []) ⟨hx, hb, hml, hown, hts⟩ (ct_X4_addState l hAD (M := M25) hc26) (cwV 1 hts gX4_addYank_X4_addState rfl rfl rfl (by decide +kernel) ⟨Nat.le_of_ble_eq_true rfl, Nat.le_of_ble_eq_true rfl⟩) ⟨gw_blind, gw_recv ob_1 hK hP rfl, gw_pre _ hK hP (Nat.le_trans hz hS.1) hN⟩ rfl rfl hl.1 rfl (lv_room (Nat.le_of_ble_eq_true rfl)) dX4_addYank_32 ⟨Nat.zero_le _, Nat.zero_le _⟩) hS (fun H locs hP hS => ?_)
    refine lv_istore_n (lv' := [(3, .int r27), (0, .ref (ad 1)), (1, .int x1), (2, .int x2)]) hx hb dX4_addYank_35 rfl hl (by decide) rfl (fun ls hl => ?_)
    refine lv_iload_n hx hb dX4_addYank_36 rfl (lv_at hl 0 rfl) ?_
    refine lv_bipush (v := 12) hx hb dX4_addYank_37 (by decide) ?_
    refine lv_imul hx hb dX4_addYank_39 ?_
    refine lv_topi (fun v31 ev31 => ?_)
    have h := q_nxe ev31 h
    refine lv_istore (lv' := [(4, .int v31), (3, .int r27), (0, .ref (ad 1)), (1, .int x1), (2, .int x2)]) hx hb dX4_addYank_40 hl (by decide) rfl (fun ls hl => ?_)
    exact L_lq_X4_addYank_42 r27 FU M28 v31 H locs ls  h hP hS (lv_sub hl [2, 3, 1, 0] rfl)
  · have h := q_t c17 h
    refine lv_iconst (v := -1) hx hb dX4_addYank_8 (by decide) ?_
    exact q_rWi hQ hx hb hr hlk hP hS h dX4_addYank_9
def rm_X4_namesAlike : Room := { frames := 2, cells := 0, slots := 0, locals := 44 }
set_option maxHeartbeats 4000000 in
set_option maxRecDepth 100000 in
theorem ct_X4_namesAlike (l : Launch) {D : va_G} {ad : Nat → Nat} {kc : Nat → ClassId} {nm z : Nat} (hAD : AD ad nm z) {M : Mem} {x1 : Int32} {x2 : Int32} {x3 : Int32} {r : Int32}  (h : fn_X4_namesAlike M x1 x2 x3 = some r) : Met l yX4_namesAlike wsX4_namesAlike rm_X4_namesAlike (va_Pc [.ref (ad 1), .int x1, .int x2, .int x3] (GW D ad kc nm z M)) (QRz r) 0 0 (fun _ => False) := by
  refine q_met (cc := cX4_namesAlike) (maxL := 5) (ret := (some .boolean)) (by decide) rfl (Nat.le_of_ble_eq_true rfl) ?_
  intro p e s m args below meth c Q ls hx hb hr hlk hml hown hts hB hQ hl
  obtain ⟨hP, hK, hz, hN⟩ := hB
  have hown : s.vm.findClass RX4 = some m.cls := hown
  have hl : lv_has ls 5 [(0, .ref (ad 1)), (1, .int x1), (2, .int x2), (3, .int x3)] := hl
  have L_lq_X4_namesAlike_3 : ∀ (n3 : Nat) (x4 : Int32) (ls : Array Slot), it1 (lq_X4_namesAlike_3 M x1 x2 x3) n3 x4 = some r → lv_has ls 5 [(0, .ref (ad 1)), (1, .int x1), (2, .int x2), (3, .int x3), (4, .int x4)] → W p l e rm_X4_namesAlike s m args below meth c s.heap [] 0 0 Q (F0 m 3 ls []) := by
    intro n3
    induction n3 with
    | zero =>
      intro x4 ls h hl
      exact (it1_0 h).elim
    | succ n3 ih3 =>
      have B_bk_X4_namesAlike_38 : ∀ (x4 : Int32) (ls : Array Slot), bk_X4_namesAlike_38 (it1 (lq_X4_namesAlike_3 M x1 x2 x3) n3) M x1 x2 x3 x4 = some r → lv_has ls 5 [(0, .ref (ad 1)), (1, .int x1), (2, .int x2), (3, .int x3), (4, .int x4)] → W p l e rm_X4_namesAlike s m args below meth c s.heap [] 0 0 Q (F0 m 38 ls []) := by
        intro x4 ls h hl
        obtain ⟨v1, ev1, h⟩ := q_nx h
        refine lv_iinc (v := v1) (lv' := [(4, .int v1), (0, .ref (ad 1)), (1, .int x1), (2, .int x2), (3, .int x3)]) hx hb dX4_namesAlike_38 hl (k := 4) rfl (by rw [ev1]; rfl) (by decide) rfl (fun ls hl => ?_)
        refine lv_goto (tgt := 3) hx hb dX4_namesAlike_41 (by decide) ?_
        exact ih3 v1 ls  h (lv_sub hl [1, 2, 3, 4, 0] rfl)
      intro x4 ls h hl
      have h := it1_s h
      refine lv_iload hx hb dX4_namesAlike_3 (lv_at hl 4 rfl) ?_
      refine lv_bipush (v := 12) hx hb dX4_namesAlike_5 (by decide) ?_
      refine lv_icmp_ge (tgt := 44) hx hb dX4_namesAlike_7 (by decide) (fun c2 => ?_) (fun c2 => ?_)
      · have h := q_t c2 h
        refine lv_iconst (v := 1) hx hb dX4_namesAlike_44 (by decide) ?_
        exact q_rRz hQ hx hb hr hlk h (Or.inr rfl) dX4_namesAlike_45
      · have h := q_f c2 h
        refine lv_iload_n hx hb dX4_namesAlike_10 rfl (lv_at hl 3 rfl) ?_
        refine lv_iload hx hb dX4_namesAlike_11 (lv_at hl 4 rfl) ?_
        obtain ⟨r4, hc3, h⟩ := q_bd1 h
        refine q_cRz (va_runSN (As := [.int x3, .int x4]) (rest := []) ⟨hx, hb, hml, hown, hts⟩ (ct_X5_isIn l hAD (M := M) hc3) ⟨va_cnB 2 hts gX4_namesAlike_X5_isIn_n85 rfl rfl rfl (hN (.methodLinkNest RX4 85 yX5_isIn "MirrorNet") nw_67) (hts (.initialized RX5) (by decide +kernel)) (by decide +kernel) ⟨Nat.le_of_ble_eq_true rfl, Nat.le_of_ble_eq_true rfl⟩, hts (.static yX5_isIn) (by decide +kernel), trivial⟩ ⟨gw_blind, gw_pre _ hK hP hz hN⟩ rfl rfl hl.1 rfl (lv_room (Nat.le_of_ble_eq_true rfl)) dX4_namesAlike_13 ⟨Nat.zero_le _, Nat.zero_le _⟩) (fun hzr4 => ?_)
        refine lv_if_eq (tgt := 38) hx hb dX4_namesAlike_16 (by decide) (fun c8 => ?_) (fun c8 => ?_)
        · have h := q_t c8 h
          exact B_bk_X4_namesAlike_38 x4 ls  h (lv_sub hl [0, 1, 2, 3, 4] rfl)
        · have h := q_f c8 h
          refine lv_aload_n hx hb dX4_namesAlike_19 rfl (lv_at hl 0 rfl) ?_
          refine lv_iload_n hx hb dX4_namesAlike_20 rfl (lv_at hl 1 rfl) ?_
          refine lv_iload hx hb dX4_namesAlike_21 (lv_at hl 4 rfl) ?_
          obtain ⟨r10, hc9, h⟩ := q_bd1 h
          refine q_cRi (va_runV (C := RX4) (As := [.int x1, .int x4]) (rest := []) ⟨hx, hb, hml, hown, hts⟩ (ct_X4_namedBy l hAD (M := M) hc9) (cwV 2 hts gX4_namesAlike_X4_namedBy rfl rfl rfl (by decide +kernel) ⟨Nat.le_of_ble_eq_true rfl, Nat.le_of_ble_eq_true rfl⟩) ⟨gw_blind, gw_recv ob_1 hK hP rfl, gw_pre _ hK hP hz hN⟩ rfl rfl hl.1 rfl (lv_room (Nat.le_of_ble_eq_true rfl)) dX4_namesAlike_23 ⟨Nat.zero_le _, Nat.zero_le _⟩) ?_
          refine lv_aload_n hx hb dX4_namesAlike_26 rfl (lv_at hl 0 rfl) ?_
          refine lv_iload_n hx hb dX4_namesAlike_27 rfl (lv_at hl 2 rfl) ?_
          refine lv_iload hx hb dX4_namesAlike_28 (lv_at hl 4 rfl) ?_
          obtain ⟨r15, hc14, h⟩ := q_bd1 h
          refine q_cRi (va_runV (C := RX4) (As := [.int x2, .int x4]) (rest := [.int r10]) ⟨hx, hb, hml, hown, hts⟩ (ct_X4_namedBy l hAD (M := M) hc14) (cwV 2 hts gX4_namesAlike_X4_namedBy rfl rfl rfl (by decide +kernel) ⟨Nat.le_of_ble_eq_true rfl, Nat.le_of_ble_eq_true rfl⟩) ⟨gw_blind, gw_recv ob_1 hK hP rfl, gw_pre _ hK hP hz hN⟩ rfl rfl hl.1 rfl (lv_room (Nat.le_of_ble_eq_true rfl)) dX4_namesAlike_30 ⟨Nat.zero_le _, Nat.zero_le _⟩) ?_
          refine lv_icmp_eq (tgt := 38) hx hb dX4_namesAlike_33 (by decide) (fun c19 => ?_) (fun c19 => ?_)
          · have h := q_t c19 h
            exact B_bk_X4_namesAlike_38 x4 ls  h (lv_sub hl [0, 1, 2, 3, 4] rfl)
          · have h := q_f c19 h
            refine lv_iconst (v := 0) hx hb dX4_namesAlike_36 (by decide) ?_
            exact q_rRz hQ hx hb hr hlk h (Or.inl rfl) dX4_namesAlike_37
  refine lv_iconst (v := 0) hx hb dX4_namesAlike_0 (by decide) ?_
  refine lv_istore (lv' := [(4, .int (0 : Int32)), (0, .ref (ad 1)), (1, .int x1), (2, .int x2), (3, .int x3)]) hx hb dX4_namesAlike_1 hl (by decide) rfl (fun ls hl => ?_)
  exact L_lq_X4_namesAlike_3 FU (0 : Int32) ls  h (lv_sub hl [1, 2, 3, 4, 0] rfl)
def rm_X4_namesLongYanked : Room := { frames := 2, cells := 0, slots := 0, locals := 42 }
set_option maxHeartbeats 4000000 in
set_option maxRecDepth 100000 in
theorem ct_X4_namesLongYanked (l : Launch) {D : va_G} {ad : Nat → Nat} {kc : Nat → ClassId} {nm z : Nat} (hAD : AD ad nm z) {M : Mem} {x1 : Int32} {x2 : Int32} {x3 : Int32} {r : Int32}  (h : fn_X4_namesLongYanked M x1 x2 x3 = some r) : Met l yX4_namesLongYanked wsX4_namesLongYanked rm_X4_namesLongYanked (va_Pc [.ref (ad 1), .int x1, .int x2, .int x3] (GW D ad kc nm z M)) (QRz r) 0 0 (fun _ => False) := by
  refine q_met (cc := cX4_namesLongYanked) (maxL := 7) (ret := (some .boolean)) (by decide) rfl (Nat.le_of_ble_eq_true rfl) ?_
  intro p e s m args below meth c Q ls hx hb hr hlk hml hown hts hB hQ hl
  obtain ⟨hP, hK, hz, hN⟩ := hB
  have hown : s.vm.findClass RX4 = some m.cls := hown
  have hl : lv_has ls 7 [(0, .ref (ad 1)), (1, .int x1), (2, .int x2), (3, .int x3)] := hl
  have hi_X4 : ∀ w ∈ u_ws RX4 TX4 8, w ∈ wsX4_namesLongYanked := by decide +kernel
  have L_lq_X4_namesLongYanked_15 : ∀ (y4 : Int64), ∀ (n15 : Nat) (x6 : Int32) (ls : Array Slot), it1 (lq_X4_namesLongYanked_15 M x2 x3 y4) n15 x6 = some r → lv_has ls 7 [(0, .ref (ad 1)), (2, .int x2), (3, .int x3), (4, .long y4), (6, .int x6)] → W p l e rm_X4_namesLongYanked s m args below meth c s.heap [] 0 0 Q (F0 m 15 ls []) := by
    intro y4 n15
    induction n15 with
    | zero =>
      intro x6 ls h hl
      exact (it1_0 h).elim
    | succ n15 ih15 =>
      have B_bk_X4_namesLongYanked_59 : ∀ (x6 : Int32) (ls : Array Slot), bk_X4_namesLongYanked_59 (it1 (lq_X4_namesLongYanked_15 M x2 x3 y4) n15) M x2 x3 y4 x6 = some r → lv_has ls 7 [(0, .ref (ad 1)), (2, .int x2), (3, .int x3), (4, .long y4), (6, .int x6)] → W p l e rm_X4_namesLongYanked s m args below meth c s.heap [] 0 0 Q (F0 m 59 ls []) := by
        intro x6 ls h hl
        obtain ⟨v1, ev1, h⟩ := q_nx h
        refine lv_iinc (v := v1) (lv' := [(6, .int v1), (0, .ref (ad 1)), (2, .int x2), (3, .int x3), (4, .long y4)]) hx hb dX4_namesLongYanked_59 hl (k := 4) rfl (by rw [ev1]; rfl) (by decide) rfl (fun ls hl => ?_)
        refine lv_goto (tgt := 15) hx hb dX4_namesLongYanked_62 (by decide) ?_
        exact ih15 v1 ls  h (lv_sub hl [1, 2, 3, 4, 0] rfl)
      intro x6 ls h hl
      have h := it1_s h
      refine lv_iload hx hb dX4_namesLongYanked_15 (lv_at hl 4 rfl) ?_
      refine lv_aload_n hx hb dX4_namesLongYanked_17 rfl (lv_at hl 0 rfl) ?_
      refine q_getI hx hb hts hi_X4 hown hK hP ob_1 rfl 5 (by decide) rfl (hts (.fieldLink RX4 38 "MirrorNet$Shelf" "fileCount" "I") (by decide +kernel)) (fun _ h9 => h9) dX4_namesLongYanked_18 ?_
      refine lv_icmp_ge (tgt := 65) hx hb dX4_namesLongYanked_21 (by decide) (fun c2 => ?_) (fun c2 => ?_)
      · have h := q_t c2 h
        refine lv_iconst (v := 0) hx hb dX4_namesLongYanked_65 (by decide) ?_
        exact q_rRz hQ hx hb hr hlk h (Or.inl rfl) dX4_namesLongYanked_66
      · have h := q_f c2 h
        refine lv_lload hx hb dX4_namesLongYanked_24 (lv_at hl 3 rfl) ?_
        refine lv_lconst (v := 0) hx hb dX4_namesLongYanked_26 (by decide) ?_
        refine W.lcmp hx hb dX4_namesLongYanked_27 ?_
        refine lv_if_eq (tgt := 65) hx hb dX4_namesLongYanked_28 (by decide) (fun c3 => ?_) (fun c3 => ?_)
        · have h := q_t c3 h
          refine lv_iconst (v := 0) hx hb dX4_namesLongYanked_65 (by decide) ?_
          exact q_rRz hQ hx hb hr hlk h (Or.inl rfl) dX4_namesLongYanked_66
        · have h := q_f c3 h
          refine lv_lload hx hb dX4_namesLongYanked_31 (lv_at hl 3 rfl) ?_
          refine lv_iload hx hb dX4_namesLongYanked_33 (lv_at hl 4 rfl) ?_
          obtain ⟨r5, hc4, h⟩ := q_bd1 h
          refine q_cRl (va_runSN (As := [.int x6]) (rest := [.long y4]) ⟨hx, hb, hml, hown, hts⟩ (ct_X5_bitOf l hAD (M := M) hc4) ⟨va_cnB 1 hts gX4_namesLongYanked_X5_bitOf_n69 rfl rfl rfl (hN (.methodLinkNest RX4 69 yX5_bitOf "MirrorNet") nw_22) (hts (.initialized RX5) (by decide +kernel)) (by decide +kernel) ⟨Nat.le_of_ble_eq_true rfl, Nat.le_of_ble_eq_true rfl⟩, hts (.static yX5_bitOf) (by decide +kernel), trivial⟩ ⟨gw_blind, gw_pre _ hK hP hz hN⟩ rfl rfl hl.1 rfl (lv_room (Nat.le_of_ble_eq_true rfl)) dX4_namesLongYanked_35 ⟨Nat.zero_le _, Nat.zero_le _⟩) ?_
          refine lv_land hx hb dX4_namesLongYanked_38 ?_
          refine lv_lconst (v := 0) hx hb dX4_namesLongYanked_39 (by decide) ?_
          refine W.lcmp hx hb dX4_namesLongYanked_40 ?_
          refine lv_if_eq (tgt := 59) hx hb dX4_namesLongYanked_41 (by decide) (fun c9 => ?_) (fun c9 => ?_)
          · have h := q_t c9 h
            exact B_bk_X4_namesLongYanked_59 x6 ls  h (lv_sub hl [0, 1, 2, 3, 4] rfl)
          · have h := q_f c9 h
            refine lv_iload_n hx hb dX4_namesLongYanked_44 rfl (lv_at hl 1 rfl) ?_
            refine lv_aload_n hx hb dX4_namesLongYanked_45 rfl (lv_at hl 0 rfl) ?_
            refine q_getR hx hb hts hi_X4 hown hK hP ob_1 rfl 1 (by decide) rfl (hts (.fieldLink RX4 15 "MirrorNet$Shelf" "yankTicks" "[I") (by decide +kernel)) (fun _ h9 => h9) dX4_namesLongYanked_46 ?_
            refine lv_iload hx hb dX4_namesLongYanked_49 (lv_at hl 4 rfl) ?_
            obtain ⟨hk10, h⟩ := q_ck h
            refine q_iald hx hb hK hP ar_3 hk10 dX4_namesLongYanked_51 ?_
            refine lv_isub hx hb dX4_namesLongYanked_52 ?_
            refine lv_iload_n hx hb dX4_namesLongYanked_53 rfl (lv_at hl 2 rfl) ?_
            refine lv_icmp_le (tgt := 59) hx hb dX4_namesLongYanked_54 (by decide) (fun c11 => ?_) (fun c11 => ?_)
            · have h := q_t c11 h
              exact B_bk_X4_namesLongYanked_59 x6 ls  h (lv_sub hl [0, 1, 2, 3, 4] rfl)
            · have h := q_f c11 h
              refine lv_iconst (v := 1) hx hb dX4_namesLongYanked_57 (by decide) ?_
              exact q_rRz hQ hx hb hr hlk h (Or.inr rfl) dX4_namesLongYanked_58
  refine lv_aload_n hx hb dX4_namesLongYanked_0 rfl (lv_at hl 0 rfl) ?_
  refine lv_iload_n hx hb dX4_namesLongYanked_1 rfl (lv_at hl 1 rfl) ?_
  obtain ⟨r13, hc12, h⟩ := q_bd1 h
  refine q_cRl (va_runV (C := RX4) (As := [.int x1]) (rest := []) ⟨hx, hb, hml, hown, hts⟩ (ct_X4_filesOf l hAD (M := M) hc12) (cwV 1 hts gX4_namesLongYanked_X4_filesOf rfl rfl rfl (by decide +kernel) ⟨Nat.le_of_ble_eq_true rfl, Nat.le_of_ble_eq_true rfl⟩) ⟨gw_blind, gw_recv ob_1 hK hP rfl, gw_pre _ hK hP hz hN⟩ rfl rfl hl.1 rfl (lv_room (Nat.le_of_ble_eq_true rfl)) dX4_namesLongYanked_2 ⟨Nat.zero_le _, Nat.zero_le _⟩) ?_
  refine lv_aload_n hx hb dX4_namesLongYanked_5 rfl (lv_at hl 0 rfl) ?_
  refine q_getJ hx hb hts hi_X4 hown hK hP ob_1 rfl 7 (by decide) rfl (hts (.fieldLink RX4 65 "MirrorNet$Shelf" "yanked" "J") (by decide +kernel)) (fun _ h9 => h9) dX4_namesLongYanked_6 ?_
  refine lv_land hx hb dX4_namesLongYanked_9 ?_
  refine lv_topl (fun v17 ev17 => ?_)
  have h := q_nxe ev17 h
  refine lv_lstore (lv' := [(4, .long v17), (0, .ref (ad 1)), (1, .int x1), (2, .int x2), (3, .int x3)]) hx hb dX4_namesLongYanked_10 hl (by decide) rfl (fun ls hl => ?_)
  refine lv_iconst (v := 0) hx hb dX4_namesLongYanked_12 (by decide) ?_
  refine lv_istore (lv' := [(6, .int (0 : Int32)), (4, .long v17), (0, .ref (ad 1)), (1, .int x1), (2, .int x2), (3, .int x3)]) hx hb dX4_namesLongYanked_13 hl (by decide) rfl (fun ls hl => ?_)
  exact L_lq_X4_namesLongYanked_15 v17 FU (0 : Int32) ls  h (lv_sub hl [2, 4, 5, 1, 0] rfl)
def rm_X4_packagesNamedIn : Room := { frames := 2, cells := 0, slots := 0, locals := 44 }
set_option maxHeartbeats 4000000 in
set_option maxRecDepth 100000 in
theorem ct_X4_packagesNamedIn (l : Launch) {D : va_G} {ad : Nat → Nat} {kc : Nat → ClassId} {nm z : Nat} (hAD : AD ad nm z) {M : Mem} {x1 : Int32} {r : Int32}  (h : fn_X4_packagesNamedIn M x1 = some r) : Met l yX4_packagesNamedIn wsX4_packagesNamedIn rm_X4_packagesNamedIn (va_Pc [.ref (ad 1), .int x1] (GW D ad kc nm z M)) (QRi r) 0 0 (fun _ => False) := by
  refine q_met (cc := cX4_packagesNamedIn) (maxL := 4) (ret := (some .int)) (by decide) rfl (Nat.le_of_ble_eq_true rfl) ?_
  intro p e s m args below meth c Q ls hx hb hr hlk hml hown hts hB hQ hl
  obtain ⟨hP, hK, hz, hN⟩ := hB
  have hown : s.vm.findClass RX4 = some m.cls := hown
  have hl : lv_has ls 4 [(0, .ref (ad 1)), (1, .int x1)] := hl
  have L_lq_X4_packagesNamedIn_4 : ∀ (n4 : Nat) (x2 : Int32) (x3 : Int32) (ls : Array Slot), it2 (lq_X4_packagesNamedIn_4 M x1) n4 x2 x3 = some r → lv_has ls 4 [(0, .ref (ad 1)), (1, .int x1), (2, .int x2), (3, .int x3)] → W p l e rm_X4_packagesNamedIn s m args below meth c s.heap [] 0 0 Q (F0 m 4 ls []) := by
    intro n4
    induction n4 with
    | zero =>
      intro x2 x3 ls h hl
      exact (it2_0 h).elim
    | succ n4 ih4 =>
      have B_bk_X4_packagesNamedIn_23 : ∀ (x2 : Int32) (x3 : Int32) (ls : Array Slot), bk_X4_packagesNamedIn_23 (it2 (lq_X4_packagesNamedIn_4 M x1) n4) M x1 x2 x3 = some r → lv_has ls 4 [(0, .ref (ad 1)), (1, .int x1), (2, .int x2), (3, .int x3)] → W p l e rm_X4_packagesNamedIn s m args below meth c s.heap [] 0 0 Q (F0 m 23 ls []) := by
        intro x2 x3 ls h hl
        obtain ⟨v1, ev1, h⟩ := q_nx h
        refine lv_iinc (v := v1) (lv' := [(3, .int v1), (0, .ref (ad 1)), (1, .int x1), (2, .int x2)]) hx hb dX4_packagesNamedIn_23 hl (k := 3) rfl (by rw [ev1]; rfl) (by decide) rfl (fun ls hl => ?_)
        refine lv_goto (tgt := 4) hx hb dX4_packagesNamedIn_26 (by decide) ?_
        exact ih4 x2 v1 ls  h (lv_sub hl [1, 2, 3, 0] rfl)
      intro x2 x3 ls h hl
      have h := it2_s h
      refine lv_iload_n hx hb dX4_packagesNamedIn_4 rfl (lv_at hl 3 rfl) ?_
      refine lv_bipush (v := 12) hx hb dX4_packagesNamedIn_5 (by decide) ?_
      refine lv_icmp_ge (tgt := 29) hx hb dX4_packagesNamedIn_7 (by decide) (fun c2 => ?_) (fun c2 => ?_)
      · have h := q_t c2 h
        refine lv_iload_n hx hb dX4_packagesNamedIn_29 rfl (lv_at hl 2 rfl) ?_
        exact q_rRi hQ hx hb hr hlk h dX4_packagesNamedIn_30
      · have h := q_f c2 h
        refine lv_aload_n hx hb dX4_packagesNamedIn_10 rfl (lv_at hl 0 rfl) ?_
        refine lv_iload_n hx hb dX4_packagesNamedIn_11 rfl (lv_at hl 1 rfl) ?_
        refine lv_iload_n hx hb dX4_packagesNamedIn_12 rfl (lv_at hl 3 rfl) ?_
        obtain ⟨r4, hc3, h⟩ := q_bd1 h
        refine q_cRi (va_runV (C := RX4) (As := [.int x1, .int x3]) (rest := []) ⟨hx, hb, hml, hown, hts⟩ (ct_X4_namedBy l hAD (M := M) hc3) (cwV 2 hts gX4_packagesNamedIn_X4_namedBy rfl rfl rfl (by decide +kernel) ⟨Nat.le_of_ble_eq_true rfl, Nat.le_of_ble_eq_true rfl⟩) ⟨gw_blind, gw_recv ob_1 hK hP rfl, gw_pre _ hK hP hz hN⟩ rfl rfl hl.1 rfl (lv_room (Nat.le_of_ble_eq_true rfl)) dX4_packagesNamedIn_13 ⟨Nat.zero_le _, Nat.zero_le _⟩) ?_
        refine lv_iconst (v := -1) hx hb dX4_packagesNamedIn_16 (by decide) ?_
        refine lv_icmp_eq (tgt := 23) hx hb dX4_packagesNamedIn_17 (by decide) (fun c8 => ?_) (fun c8 => ?_)
        · have h := q_t c8 h
          exact B_bk_X4_packagesNamedIn_23 x2 x3 ls  h (lv_sub hl [0, 1, 2, 3] rfl)
        · have h := q_f c8 h
          obtain ⟨v9, ev9, h⟩ := q_nx h
          refine lv_iinc (v := v9) (lv' := [(2, .int v9), (0, .ref (ad 1)), (1, .int x1), (3, .int x3)]) hx hb dX4_packagesNamedIn_20 hl (k := 2) rfl (by rw [ev9]; rfl) (by decide) rfl (fun ls hl => ?_)
          exact B_bk_X4_packagesNamedIn_23 v9 x3 ls  h (lv_sub hl [1, 2, 0, 3] rfl)
  refine lv_iconst (v := 0) hx hb dX4_packagesNamedIn_0 (by decide) ?_
  refine lv_istore_n (lv' := [(2, .int (0 : Int32)), (0, .ref (ad 1)), (1, .int x1)]) hx hb dX4_packagesNamedIn_1 rfl hl (by decide) rfl (fun ls hl => ?_)
  refine lv_iconst (v := 0) hx hb dX4_packagesNamedIn_2 (by decide) ?_
  refine lv_istore_n (lv' := [(3, .int (0 : Int32)), (2, .int (0 : Int32)), (0, .ref (ad 1)), (1, .int x1)]) hx hb dX4_packagesNamedIn_3 rfl hl (by decide) rfl (fun ls hl => ?_)
  exact L_lq_X4_packagesNamedIn_4 FU (0 : Int32) (0 : Int32) ls  h (lv_sub hl [2, 3, 1, 0] rfl)
def rm_X4_tickOf : Room := { frames := 1, cells := 0, slots := 0, locals := 21 }
set_option maxHeartbeats 4000000 in
set_option maxRecDepth 100000 in
theorem ct_X4_tickOf (l : Launch) {D : va_G} {ad : Nat → Nat} {kc : Nat → ClassId} {nm z : Nat} (hAD : AD ad nm z) {M : Mem} {x1 : Int32} {r : Int32}  (h : fn_X4_tickOf M x1 = some r) : Met l yX4_tickOf wsX4_tickOf rm_X4_tickOf (va_Pc [.ref (ad 1), .int x1] (GW D ad kc nm z M)) (QRi r) 0 0 (fun _ => False) := by
  refine q_met (cc := cX4_tickOf) (maxL := 2) (ret := (some .int)) (by decide) rfl (Nat.le_of_ble_eq_true rfl) ?_
  intro p e s m args below meth c Q ls hx hb hr hlk hml hown hts hB hQ hl
  obtain ⟨hP, hK, hz, hN⟩ := hB
  have hown : s.vm.findClass RX4 = some m.cls := hown
  have hl : lv_has ls 2 [(0, .ref (ad 1)), (1, .int x1)] := hl
  have hi_X4 : ∀ w ∈ u_ws RX4 TX4 8, w ∈ wsX4_tickOf := by decide +kernel
  refine lv_aload_n hx hb dX4_tickOf_0 rfl (lv_at hl 0 rfl) ?_
  refine lv_iload_n hx hb dX4_tickOf_1 rfl (lv_at hl 1 rfl) ?_
  obtain ⟨r2, hc1, h⟩ := q_bd1 h
  refine q_cRz (va_runV (C := RX4) (As := [.int x1]) (rest := []) ⟨hx, hb, hml, hown, hts⟩ (ct_X4_hasState l hAD (M := M) hc1) (cwV 1 hts gX4_tickOf_X4_hasState rfl rfl rfl (by decide +kernel) ⟨Nat.le_of_ble_eq_true rfl, Nat.le_of_ble_eq_true rfl⟩) ⟨gw_blind, gw_recv ob_1 hK hP rfl, gw_pre _ hK hP hz hN⟩ rfl rfl hl.1 rfl (lv_room (Nat.le_of_ble_eq_true rfl)) dX4_tickOf_2 ⟨Nat.zero_le _, Nat.zero_le _⟩) (fun hzr2 => ?_)
  refine lv_if_eq (tgt := 17) hx hb dX4_tickOf_5 (by decide) (fun c6 => ?_) (fun c6 => ?_)
  · have h := q_t c6 h
    refine lv_iconst (v := -1) hx hb dX4_tickOf_17 (by decide) ?_
    exact q_rRi hQ hx hb hr hlk h dX4_tickOf_18
  · have h := q_f c6 h
    refine lv_aload_n hx hb dX4_tickOf_8 rfl (lv_at hl 0 rfl) ?_
    refine q_getR hx hb hts hi_X4 hown hK hP ob_1 rfl 2 (by decide) rfl (hts (.fieldLink RX4 18 "MirrorNet$Shelf" "stateTicks" "[I") (by decide +kernel)) (fun _ h9 => h9) dX4_tickOf_9 ?_
    refine lv_iload_n hx hb dX4_tickOf_12 rfl (lv_at hl 1 rfl) ?_
    obtain ⟨hk7, h⟩ := q_ck h
    refine q_iald hx hb hK hP ar_4 hk7 dX4_tickOf_13 ?_
    refine lv_goto (tgt := 18) hx hb dX4_tickOf_14 (by decide) ?_
    exact q_rRi hQ hx hb hr hlk h dX4_tickOf_18
def rm_X4_ageOf : Room := { frames := 1, cells := 0, slots := 0, locals := 21 }
set_option maxHeartbeats 4000000 in
set_option maxRecDepth 100000 in
theorem ct_X4_ageOf (l : Launch) {D : va_G} {ad : Nat → Nat} {kc : Nat → ClassId} {nm z : Nat} (hAD : AD ad nm z) {M : Mem} {x1 : Int32} {x2 : Int32} {r : Int32}  (h : fn_X4_ageOf M x1 x2 = some r) : Met l yX4_ageOf wsX4_ageOf rm_X4_ageOf (va_Pc [.ref (ad 1), .int x1, .int x2] (GW D ad kc nm z M)) (QRi r) 0 0 (fun _ => False) := by
  refine q_met (cc := cX4_ageOf) (maxL := 3) (ret := (some .int)) (by decide) rfl (Nat.le_of_ble_eq_true rfl) ?_
  intro p e s m args below meth c Q ls hx hb hr hlk hml hown hts hB hQ hl
  obtain ⟨hP, hK, hz, hN⟩ := hB
  have hown : s.vm.findClass RX4 = some m.cls := hown
  have hl : lv_has ls 3 [(0, .ref (ad 1)), (1, .int x1), (2, .int x2)] := hl
  have hi_X4 : ∀ w ∈ u_ws RX4 TX4 8, w ∈ wsX4_ageOf := by decide +kernel
  refine lv_aload_n hx hb dX4_ageOf_0 rfl (lv_at hl 0 rfl) ?_
  refine lv_iload_n hx hb dX4_ageOf_1 rfl (lv_at hl 1 rfl) ?_
  refine lv_iconst (v := 1) hx hb dX4_ageOf_2 (by decide) ?_
  refine lv_iadd hx hb dX4_ageOf_3 ?_
  obtain ⟨r2, hc1, h⟩ := q_bd1 h
  refine q_cRz (va_runV (C := RX4) (As := [.int (x1 + (1 : Int32))]) (rest := []) ⟨hx, hb, hml, hown, hts⟩ (ct_X4_hasState l hAD (M := M) hc1) (cwV 1 hts gX4_ageOf_X4_hasState rfl rfl rfl (by decide +kernel) ⟨Nat.le_of_ble_eq_true rfl, Nat.le_of_ble_eq_true rfl⟩) ⟨gw_blind, gw_recv ob_1 hK hP rfl, gw_pre _ hK hP hz hN⟩ rfl rfl hl.1 rfl (lv_room (Nat.le_of_ble_eq_true rfl)) dX4_ageOf_4 ⟨Nat.zero_le _, Nat.zero_le _⟩) (fun hzr2 => ?_)
  refine lv_if_eq (tgt := 23) hx hb dX4_ageOf_7 (by decide) (fun c6 => ?_) (fun c6 => ?_)
  · have h := q_t c6 h
    refine lv_iconst (v := 0) hx hb dX4_ageOf_23 (by decide) ?_
    exact q_rRi hQ hx hb hr hlk h dX4_ageOf_24
  · have h := q_f c6 h
    refine lv_iload_n hx hb dX4_ageOf_10 rfl (lv_at hl 2 rfl) ?_
    refine lv_aload_n hx hb dX4_ageOf_11 rfl (lv_at hl 0 rfl) ?_
    refine q_getR hx hb hts hi_X4 hown hK hP ob_1 rfl 2 (by decide) rfl (hts (.fieldLink RX4 18 "MirrorNet$Shelf" "stateTicks" "[I") (by decide +kernel)) (fun _ h9 => h9) dX4_ageOf_12 ?_
    refine lv_iload_n hx hb dX4_ageOf_15 rfl (lv_at hl 1 rfl) ?_
    refine lv_iconst (v := 1) hx hb dX4_ageOf_16 (by decide) ?_
    refine lv_iadd hx hb dX4_ageOf_17 ?_
    obtain ⟨hk7, h⟩ := q_ck h
    refine q_iald hx hb hK hP ar_4 hk7 dX4_ageOf_18 ?_
    refine lv_isub hx hb dX4_ageOf_19 ?_
    refine lv_goto (tgt := 24) hx hb dX4_ageOf_20 (by decide) ?_
    exact q_rRi hQ hx hb hr hlk h dX4_ageOf_24
def rm_X5_file : Room := { frames := 1, cells := 0, slots := 0, locals := 22 }
set_option maxHeartbeats 4000000 in
set_option maxRecDepth 100000 in
theorem ct_X5_file (l : Launch) {D : va_G} {ad : Nat → Nat} {kc : Nat → ClassId} {nm z : Nat} (hAD : AD ad nm z) {M : Mem} {x1 : Int32} {r : Int32} {Mr : Mem}  (h : fn_X5_file M x1 = some (r, Mr)) : Met l yX5_file wsX5_file rm_X5_file (va_Pc [.ref (ad 0), .int x1] (GW D ad kc nm z M)) (QWi D ad kc nm z r Mr) 0 0 (fun q => z ≤ q) := by
  refine q_met (cc := cX5_file) (maxL := 2) (ret := (some .int)) (by decide) rfl (Nat.le_of_ble_eq_true rfl) ?_
  intro p e s m args below meth c Q ls hx hb hr hlk hml hown hts hB hQ hl
  obtain ⟨hP, hK, hz, hN⟩ := hB
  have hown : s.vm.findClass RX5 = some m.cls := hown
  have hl : lv_has ls 2 [(0, .ref (ad 0)), (1, .int x1)] := hl
  have hi_X5 : ∀ w ∈ u_ws RX5 TX5 8, w ∈ wsX5_file := by decide +kernel
  have hS : va_S (fun q => z ≤ q) s.heap s.heap [] := va_S.rf
  obtain ⟨H, eH⟩ : ∃ H : Heap, H = s.heap := ⟨_, rfl⟩
  obtain ⟨locs, eL⟩ : ∃ L : List Loc, L = [] := ⟨_, rfl⟩
  have hP : va_P D vwCl (wl ad kc nm M) H := by rw [eH]; exact hP
  have hS : va_S (fun q => z ≤ q) s.heap H locs := by rw [eH, eL]; exact hS
  refine q_start eH eL ?_
  refine lv_iload_n hx hb dX5_file_0 rfl (lv_at hl 1 rfl) ?_
  refine lv_iconst (v := 1) hx hb dX5_file_1 (by decide) ?_
  refine lv_sipush (v := 500) hx hb dX5_file_2 (by decide) ?_
  obtain ⟨r2, hc1, h⟩ := q_bd1 h
  refine q_cRz (va_runS (As := [.int x1, .int (1 : Int32), .int (500 : Int32)]) (rest := []) ⟨hx, hb, hml, hown, hts⟩ (ct_X5_isWithin l hAD (M := M) hc1) (va_cwS 3 hts gX5_file_X5_isWithin rfl rfl rfl (by decide +kernel) ⟨Nat.le_of_ble_eq_true rfl, Nat.le_of_ble_eq_true rfl⟩) ⟨gw_blind, gw_pre _ hK hP (Nat.le_trans hz hS.1) hN⟩ rfl rfl hl.1 rfl (lv_room (Nat.le_of_ble_eq_true rfl)) dX5_file_5 ⟨Nat.zero_le _, Nat.zero_le _⟩) (fun hzr2 => ?_)
  refine lv_if_ne (tgt := 13) hx hb dX5_file_8 (by decide) (fun c6 => ?_) (fun c6 => ?_)
  · have h := q_f c6 h
    refine lv_aload_n hx hb dX5_file_13 rfl (lv_at hl 0 rfl) ?_
    refine q_getR hx hb hts hi_X5 hown hK hP ob_0 rfl 0 (by decide) rfl (hts (.fieldLink RX5 12 "MirrorNet" "shelf" "LMirrorNet$Shelf;") (by decide +kernel)) (fun _ h9 => h9) dX5_file_14 ?_
    refine lv_iload_n hx hb dX5_file_17 rfl (lv_at hl 1 rfl) ?_
    obtain ⟨r8, M9, hc7, h⟩ := q_bd2 h
    refine q_cWi (va_runVN (C := RX4) (As := [.int x1]) (rest := []) ⟨hx, hb, hml, hown, hts⟩ (ct_X4_addFile l hAD (M := M) hc7) ⟨va_cnB 1 hts gX5_file_X4_addFile_n51 rfl rfl rfl (hN (.methodLinkNest RX5 51 yX4_addFile "MirrorNet") nw_19) (hts (.initialized RX4) (by decide +kernel)) (by decide +kernel) ⟨Nat.le_of_ble_eq_true rfl, Nat.le_of_ble_eq_true rfl⟩, hts (.instanceMethod yX4_addFile) (by decide +kernel), hts (.selects RX4 yX4_addFile yX4_addFile) (by decide +kernel)⟩ ⟨gw_blind, gw_recv ob_1 hK hP rfl, gw_pre _ hK hP (Nat.le_trans hz hS.1) hN⟩ rfl rfl hl.1 rfl (lv_room (Nat.le_of_ble_eq_true rfl)) dX5_file_18 ⟨Nat.zero_le _, Nat.zero_le _⟩) hS (fun H locs hP hS => ?_)
    exact q_rWi hQ hx hb hr hlk hP hS h dX5_file_21
  · have h := q_t c6 h
    refine lv_iconst (v := -1) hx hb dX5_file_11 (by decide) ?_
    exact q_rWi hQ hx hb hr hlk hP hS h dX5_file_12
def rm_X5_put : Room := { frames := 4, cells := 0, slots := 0, locals := 106 }
set_option maxHeartbeats 4000000 in
set_option maxRecDepth 100000 in
theorem ct_X5_put (l : Launch) {D : va_G} {ad : Nat → Nat} {kc : Nat → ClassId} {nm z : Nat} (hAD : AD ad nm z) {M : Mem} {x1 : Int32} {x2 : Int32} {r : Int32} {Mr : Mem}  (h : fn_X5_put M x1 x2 = some (r, Mr)) : Met l yX5_put wsX5_put rm_X5_put (va_Pc [.ref (ad 0), .int x1, .int x2] (GW D ad kc nm z M)) (QWi D ad kc nm z r Mr) 0 0 (fun q => z ≤ q) := by
  refine q_met (cc := cX5_put) (maxL := 3) (ret := (some .int)) (by decide) rfl (Nat.le_of_ble_eq_true rfl) ?_
  intro p e s m args below meth c Q ls hx hb hr hlk hml hown hts hB hQ hl
  obtain ⟨hP, hK, hz, hN⟩ := hB
  have hown : s.vm.findClass RX5 = some m.cls := hown
  have hl : lv_has ls 3 [(0, .ref (ad 0)), (1, .int x1), (2, .int x2)] := hl
  have hi_X5 : ∀ w ∈ u_ws RX5 TX5 8, w ∈ wsX5_put := by decide +kernel
  have hS : va_S (fun q => z ≤ q) s.heap s.heap [] := va_S.rf
  obtain ⟨H, eH⟩ : ∃ H : Heap, H = s.heap := ⟨_, rfl⟩
  obtain ⟨locs, eL⟩ : ∃ L : List Loc, L = [] := ⟨_, rfl⟩
  have hP : va_P D vwCl (wl ad kc nm M) H := by rw [eH]; exact hP
  have hS : va_S (fun q => z ≤ q) s.heap H locs := by rw [eH, eL]; exact hS
  refine q_start eH eL ?_
  refine lv_aload_n hx hb dX5_put_0 rfl (lv_at hl 0 rfl) ?_
  refine q_getR hx hb hts hi_X5 hown hK hP ob_0 rfl 0 (by decide) rfl (hts (.fieldLink RX5 12 "MirrorNet" "shelf" "LMirrorNet$Shelf;") (by decide +kernel)) (fun _ h9 => h9) dX5_put_1 ?_
  refine lv_iload_n hx hb dX5_put_4 rfl (lv_at hl 1 rfl) ?_
  refine lv_iload_n hx hb dX5_put_5 rfl (lv_at hl 2 rfl) ?_
  refine lv_aload_n hx hb dX5_put_6 rfl (lv_at hl 0 rfl) ?_
  refine q_getI hx hb hts hi_X5 hown hK hP ob_0 rfl 6 (by decide) rfl (hts (.fieldLink RX5 55 "MirrorNet" "now" "I") (by decide +kernel)) (fun _ h9 => h9) dX5_put_7 ?_
  obtain ⟨r2, M3, hc1, h⟩ := q_bd2 h
  refine q_cWi (va_runVN (C := RX4) (As := [.int x1, .int x2, .int (gI M 0 6)]) (rest := []) ⟨hx, hb, hml, hown, hts⟩ (ct_X4_addPut l hAD (M := M) hc1) ⟨va_cnB 3 hts gX5_put_X4_addPut_n58 rfl rfl rfl (hN (.methodLinkNest RX5 58 yX4_addPut "MirrorNet") nw_20) (hts (.initialized RX4) (by decide +kernel)) (by decide +kernel) ⟨Nat.le_of_ble_eq_true rfl, Nat.le_of_ble_eq_true rfl⟩, hts (.instanceMethod yX4_addPut) (by decide +kernel), hts (.selects RX4 yX4_addPut yX4_addPut) (by decide +kernel)⟩ ⟨gw_blind, gw_recv ob_1 hK hP rfl, gw_pre _ hK hP (Nat.le_trans hz hS.1) hN⟩ rfl rfl hl.1 rfl (lv_room (Nat.le_of_ble_eq_true rfl)) dX5_put_10 ⟨Nat.zero_le _, Nat.zero_le _⟩) hS (fun H locs hP hS => ?_)
  exact q_rWi hQ hx hb hr hlk hP hS h dX5_put_13
def rm_X5_yank : Room := { frames := 4, cells := 0, slots := 0, locals := 106 }
set_option maxHeartbeats 4000000 in
set_option maxRecDepth 100000 in
theorem ct_X5_yank (l : Launch) {D : va_G} {ad : Nat → Nat} {kc : Nat → ClassId} {nm z : Nat} (hAD : AD ad nm z) {M : Mem} {x1 : Int32} {r : Int32} {Mr : Mem}  (h : fn_X5_yank M x1 = some (r, Mr)) : Met l yX5_yank wsX5_yank rm_X5_yank (va_Pc [.ref (ad 0), .int x1] (GW D ad kc nm z M)) (QWi D ad kc nm z r Mr) 0 0 (fun q => z ≤ q) := by
  refine q_met (cc := cX5_yank) (maxL := 2) (ret := (some .int)) (by decide) rfl (Nat.le_of_ble_eq_true rfl) ?_
  intro p e s m args below meth c Q ls hx hb hr hlk hml hown hts hB hQ hl
  obtain ⟨hP, hK, hz, hN⟩ := hB
  have hown : s.vm.findClass RX5 = some m.cls := hown
  have hl : lv_has ls 2 [(0, .ref (ad 0)), (1, .int x1)] := hl
  have hi_X5 : ∀ w ∈ u_ws RX5 TX5 8, w ∈ wsX5_yank := by decide +kernel
  have hS : va_S (fun q => z ≤ q) s.heap s.heap [] := va_S.rf
  obtain ⟨H, eH⟩ : ∃ H : Heap, H = s.heap := ⟨_, rfl⟩
  obtain ⟨locs, eL⟩ : ∃ L : List Loc, L = [] := ⟨_, rfl⟩
  have hP : va_P D vwCl (wl ad kc nm M) H := by rw [eH]; exact hP
  have hS : va_S (fun q => z ≤ q) s.heap H locs := by rw [eH, eL]; exact hS
  refine q_start eH eL ?_
  refine lv_aload_n hx hb dX5_yank_0 rfl (lv_at hl 0 rfl) ?_
  refine q_getR hx hb hts hi_X5 hown hK hP ob_0 rfl 0 (by decide) rfl (hts (.fieldLink RX5 12 "MirrorNet" "shelf" "LMirrorNet$Shelf;") (by decide +kernel)) (fun _ h9 => h9) dX5_yank_1 ?_
  refine lv_iload_n hx hb dX5_yank_4 rfl (lv_at hl 1 rfl) ?_
  refine lv_aload_n hx hb dX5_yank_5 rfl (lv_at hl 0 rfl) ?_
  refine q_getI hx hb hts hi_X5 hown hK hP ob_0 rfl 6 (by decide) rfl (hts (.fieldLink RX5 55 "MirrorNet" "now" "I") (by decide +kernel)) (fun _ h9 => h9) dX5_yank_6 ?_
  obtain ⟨r2, M3, hc1, h⟩ := q_bd2 h
  refine q_cWi (va_runVN (C := RX4) (As := [.int x1, .int (gI M 0 6)]) (rest := []) ⟨hx, hb, hml, hown, hts⟩ (ct_X4_addYank l hAD (M := M) hc1) ⟨va_cnB 2 hts gX5_yank_X4_addYank_n62 rfl rfl rfl (hN (.methodLinkNest RX5 62 yX4_addYank "MirrorNet") nw_23) (hts (.initialized RX4) (by decide +kernel)) (by decide +kernel) ⟨Nat.le_of_ble_eq_true rfl, Nat.le_of_ble_eq_true rfl⟩, hts (.instanceMethod yX4_addYank) (by decide +kernel), hts (.selects RX4 yX4_addYank yX4_addYank) (by decide +kernel)⟩ ⟨gw_blind, gw_recv ob_1 hK hP rfl, gw_pre _ hK hP (Nat.le_trans hz hS.1) hN⟩ rfl rfl hl.1 rfl (lv_room (Nat.le_of_ble_eq_true rfl)) dX5_yank_9 ⟨Nat.zero_le _, Nat.zero_le _⟩) hS (fun H locs hP hS => ?_)
  exact q_rWi hQ hx hb hr hlk hP hS h dX5_yank_12
def rm_X5_names : Room := { frames := 2, cells := 0, slots := 0, locals := 44 }
set_option maxHeartbeats 4000000 in
set_option maxRecDepth 100000 in
theorem ct_X5_names (l : Launch) {D : va_G} {ad : Nat → Nat} {kc : Nat → ClassId} {nm z : Nat} (hAD : AD ad nm z) {M : Mem} {x1 : Int32} {x2 : Int32} {r : Int32}  (h : fn_X5_names M x1 x2 = some r) : Met l yX5_names wsX5_names rm_X5_names (va_Pc [.ref (ad 0), .int x1, .int x2] (GW D ad kc nm z M)) (QRi r) 0 0 (fun _ => False) := by
  refine q_met (cc := cX5_names) (maxL := 3) (ret := (some .int)) (by decide) rfl (Nat.le_of_ble_eq_true rfl) ?_
  intro p e s m args below meth c Q ls hx hb hr hlk hml hown hts hB hQ hl
  obtain ⟨hP, hK, hz, hN⟩ := hB
  have hown : s.vm.findClass RX5 = some m.cls := hown
  have hl : lv_has ls 3 [(0, .ref (ad 0)), (1, .int x1), (2, .int x2)] := hl
  have hi_X5 : ∀ w ∈ u_ws RX5 TX5 8, w ∈ wsX5_names := by decide +kernel
  refine lv_aload_n hx hb dX5_names_0 rfl (lv_at hl 0 rfl) ?_
  refine q_getR hx hb hts hi_X5 hown hK hP ob_0 rfl 0 (by decide) rfl (hts (.fieldLink RX5 12 "MirrorNet" "shelf" "LMirrorNet$Shelf;") (by decide +kernel)) (fun _ h9 => h9) dX5_names_1 ?_
  refine lv_iload_n hx hb dX5_names_4 rfl (lv_at hl 1 rfl) ?_
  refine lv_iload_n hx hb dX5_names_5 rfl (lv_at hl 2 rfl) ?_
  obtain ⟨r2, hc1, h⟩ := q_bd1 h
  refine q_cRi (va_runVN (C := RX4) (As := [.int x1, .int x2]) (rest := []) ⟨hx, hb, hml, hown, hts⟩ (ct_X4_namedBy l hAD (M := M) hc1) ⟨va_cnB 2 hts gX5_names_X4_namedBy_n66 rfl rfl rfl (hN (.methodLinkNest RX5 66 yX4_namedBy "MirrorNet") nw_24) (hts (.initialized RX4) (by decide +kernel)) (by decide +kernel) ⟨Nat.le_of_ble_eq_true rfl, Nat.le_of_ble_eq_true rfl⟩, hts (.instanceMethod yX4_namedBy) (by decide +kernel), hts (.selects RX4 yX4_namedBy yX4_namedBy) (by decide +kernel)⟩ ⟨gw_blind, gw_recv ob_1 hK hP rfl, gw_pre _ hK hP hz hN⟩ rfl rfl hl.1 rfl (lv_room (Nat.le_of_ble_eq_true rfl)) dX5_names_6 ⟨Nat.zero_le _, Nat.zero_le _⟩) ?_
  exact q_rRi hQ hx hb hr hlk h dX5_names_9
def rm_X5_state : Room := { frames := 3, cells := 0, slots := 0, locals := 67 }
set_option maxHeartbeats 4000000 in
set_option maxRecDepth 100000 in
theorem ct_X5_state (l : Launch) {D : va_G} {ad : Nat → Nat} {kc : Nat → ClassId} {nm z : Nat} (hAD : AD ad nm z) {M : Mem} {x1 : Int32} {x2 : Int32} {r : Int32}  (h : fn_X5_state M x1 x2 = some r) : Met l yX5_state wsX5_state rm_X5_state (va_Pc [.ref (ad 0), .int x1, .int x2] (GW D ad kc nm z M)) (QRi r) 0 0 (fun _ => False) := by
  refine q_met (cc := cX5_state) (maxL := 3) (ret := (some .int)) (by decide) rfl (Nat.le_of_ble_eq_true rfl) ?_
  intro p e s m args below meth c Q ls hx hb hr hlk hml hown hts hB hQ hl
  obtain ⟨hP, hK, hz, hN⟩ := hB
  have hown : s.vm.findClass RX5 = some m.cls := hown
  have hl : lv_has ls 3 [(0, .ref (ad 0)), (1, .int x1), (2, .int x2)] := hl
  have hi_X5 : ∀ w ∈ u_ws RX5 TX5 8, w ∈ wsX5_state := by decide +kernel
  refine lv_aload_n hx hb dX5_state_0 rfl (lv_at hl 0 rfl) ?_
  refine q_getR hx hb hts hi_X5 hown hK hP ob_0 rfl 0 (by decide) rfl (hts (.fieldLink RX5 12 "MirrorNet" "shelf" "LMirrorNet$Shelf;") (by decide +kernel)) (fun _ h9 => h9) dX5_state_1 ?_
  refine lv_iload_n hx hb dX5_state_4 rfl (lv_at hl 1 rfl) ?_
  obtain ⟨r2, hc1, h⟩ := q_bd1 h
  refine q_cRz (va_runVN (C := RX4) (As := [.int x1]) (rest := []) ⟨hx, hb, hml, hown, hts⟩ (ct_X4_hasState l hAD (M := M) hc1) ⟨va_cnB 1 hts gX5_state_X4_hasState_n69 rfl rfl rfl (hN (.methodLinkNest RX5 69 yX4_hasState "MirrorNet") nw_25) (hts (.initialized RX4) (by decide +kernel)) (by decide +kernel) ⟨Nat.le_of_ble_eq_true rfl, Nat.le_of_ble_eq_true rfl⟩, hts (.instanceMethod yX4_hasState) (by decide +kernel), hts (.selects RX4 yX4_hasState yX4_hasState) (by decide +kernel)⟩ ⟨gw_blind, gw_recv ob_1 hK hP rfl, gw_pre _ hK hP hz hN⟩ rfl rfl hl.1 rfl (lv_room (Nat.le_of_ble_eq_true rfl)) dX5_state_5 ⟨Nat.zero_le _, Nat.zero_le _⟩) (fun hzr2 => ?_)
  refine lv_if_ne (tgt := 13) hx hb dX5_state_8 (by decide) (fun c6 => ?_) (fun c6 => ?_)
  · have h := q_f c6 h
    refine lv_iload_n hx hb dX5_state_13 rfl (lv_at hl 2 rfl) ?_
    by_cases c7 : x2 = (0 : Int32)
    · have h := q_t c7 h
      refine lv_tableIn (off := 30) (tgt := 44) hx hb dX5_state_14 (by rw [c7]; decide) (by rw [c7]; decide) (by rw [c7]; rfl) (by decide) ?_
      refine lv_aload_n hx hb dX5_state_44 rfl (lv_at hl 0 rfl) ?_
      refine q_getR hx hb hts hi_X5 hown hK hP ob_0 rfl 0 (by decide) rfl (hts (.fieldLink RX5 12 "MirrorNet" "shelf" "LMirrorNet$Shelf;") (by decide +kernel)) (fun _ h9 => h9) dX5_state_45 ?_
      refine lv_iload_n hx hb dX5_state_48 rfl (lv_at hl 1 rfl) ?_
      obtain ⟨r9, hc8, h⟩ := q_bd1 h
      refine q_cRi (va_runVN (C := RX4) (As := [.int x1]) (rest := []) ⟨hx, hb, hml, hown, hts⟩ (ct_X4_tickOf l hAD (M := M) hc8) ⟨va_cnB 1 hts gX5_state_X4_tickOf_n73 rfl rfl rfl (hN (.methodLinkNest RX5 73 yX4_tickOf "MirrorNet") nw_26) (hts (.initialized RX4) (by decide +kernel)) (by decide +kernel) ⟨Nat.le_of_ble_eq_true rfl, Nat.le_of_ble_eq_true rfl⟩, hts (.instanceMethod yX4_tickOf) (by decide +kernel), hts (.selects RX4 yX4_tickOf yX4_tickOf) (by decide +kernel)⟩ ⟨gw_blind, gw_recv ob_1 hK hP rfl, gw_pre _ hK hP hz hN⟩ rfl rfl hl.1 rfl (lv_room (Nat.le_of_ble_eq_true rfl)) dX5_state_49 ⟨Nat.zero_le _, Nat.zero_le _⟩) ?_
      exact q_rRi hQ hx hb hr hlk h dX5_state_52
    have h := q_f c7 h
    by_cases c13 : x2 = (1 : Int32)
    · have h := q_t c13 h
      refine lv_tableIn (off := 39) (tgt := 53) hx hb dX5_state_14 (by rw [c13]; decide) (by rw [c13]; decide) (by rw [c13]; rfl) (by decide) ?_
      refine lv_aload_n hx hb dX5_state_53 rfl (lv_at hl 0 rfl) ?_
      refine q_getR hx hb hts hi_X5 hown hK hP ob_0 rfl 0 (by decide) rfl (hts (.fieldLink RX5 12 "MirrorNet" "shelf" "LMirrorNet$Shelf;") (by decide +kernel)) (fun _ h9 => h9) dX5_state_54 ?_
      refine lv_iload_n hx hb dX5_state_57 rfl (lv_at hl 1 rfl) ?_
      refine lv_aload_n hx hb dX5_state_58 rfl (lv_at hl 0 rfl) ?_
      refine q_getI hx hb hts hi_X5 hown hK hP ob_0 rfl 6 (by decide) rfl (hts (.fieldLink RX5 55 "MirrorNet" "now" "I") (by decide +kernel)) (fun _ h9 => h9) dX5_state_59 ?_
      obtain ⟨r15, hc14, h⟩ := q_bd1 h
      refine q_cRi (va_runVN (C := RX4) (As := [.int x1, .int (gI M 0 6)]) (rest := []) ⟨hx, hb, hml, hown, hts⟩ (ct_X4_ageOf l hAD (M := M) hc14) ⟨va_cnB 2 hts gX5_state_X4_ageOf_n76 rfl rfl rfl (hN (.methodLinkNest RX5 76 yX4_ageOf "MirrorNet") nw_27) (hts (.initialized RX4) (by decide +kernel)) (by decide +kernel) ⟨Nat.le_of_ble_eq_true rfl, Nat.le_of_ble_eq_true rfl⟩, hts (.instanceMethod yX4_ageOf) (by decide +kernel), hts (.selects RX4 yX4_ageOf yX4_ageOf) (by decide +kernel)⟩ ⟨gw_blind, gw_recv ob_1 hK hP rfl, gw_pre _ hK hP hz hN⟩ rfl rfl hl.1 rfl (lv_room (Nat.le_of_ble_eq_true rfl)) dX5_state_62 ⟨Nat.zero_le _, Nat.zero_le _⟩) ?_
      exact q_rRi hQ hx hb hr hlk h dX5_state_65
    have h := q_f c13 h
    by_cases c19 : x2 = (2 : Int32)
    · have h := q_t c19 h
      refine lv_tableIn (off := 52) (tgt := 66) hx hb dX5_state_14 (by rw [c19]; decide) (by rw [c19]; decide) (by rw [c19]; rfl) (by decide) ?_
      refine lv_aload_n hx hb dX5_state_66 rfl (lv_at hl 0 rfl) ?_
      refine q_getR hx hb hts hi_X5 hown hK hP ob_0 rfl 0 (by decide) rfl (hts (.fieldLink RX5 12 "MirrorNet" "shelf" "LMirrorNet$Shelf;") (by decide +kernel)) (fun _ h9 => h9) dX5_state_67 ?_
      refine lv_iload_n hx hb dX5_state_70 rfl (lv_at hl 1 rfl) ?_
      obtain ⟨r21, hc20, h⟩ := q_bd1 h
      refine q_cRi (va_runVN (C := RX4) (As := [.int x1]) (rest := []) ⟨hx, hb, hml, hown, hts⟩ (ct_X4_packagesNamedIn l hAD (M := M) hc20) ⟨va_cnB 1 hts gX5_state_X4_packagesNamedIn_n79 rfl rfl rfl (hN (.methodLinkNest RX5 79 yX4_packagesNamedIn "MirrorNet") nw_28) (hts (.initialized RX4) (by decide +kernel)) (by decide +kernel) ⟨Nat.le_of_ble_eq_true rfl, Nat.le_of_ble_eq_true rfl⟩, hts (.instanceMethod yX4_packagesNamedIn) (by decide +kernel), hts (.selects RX4 yX4_packagesNamedIn yX4_packagesNamedIn) (by decide +kernel)⟩ ⟨gw_blind, gw_recv ob_1 hK hP rfl, gw_pre _ hK hP hz hN⟩ rfl rfl hl.1 rfl (lv_room (Nat.le_of_ble_eq_true rfl)) dX5_state_71 ⟨Nat.zero_le _, Nat.zero_le _⟩) ?_
      exact q_rRi hQ hx hb hr hlk h dX5_state_74
    have h := q_f c19 h
    by_cases c25 : x2 = (3 : Int32)
    · have h := q_t c25 h
      refine lv_tableIn (off := 61) (tgt := 75) hx hb dX5_state_14 (by rw [c25]; decide) (by rw [c25]; decide) (by rw [c25]; rfl) (by decide) ?_
      refine lv_aload_n hx hb dX5_state_75 rfl (lv_at hl 0 rfl) ?_
      refine q_getR hx hb hts hi_X5 hown hK hP ob_0 rfl 0 (by decide) rfl (hts (.fieldLink RX5 12 "MirrorNet" "shelf" "LMirrorNet$Shelf;") (by decide +kernel)) (fun _ h9 => h9) dX5_state_76 ?_
      refine lv_aload_n hx hb dX5_state_79 rfl (lv_at hl 0 rfl) ?_
      refine q_getR hx hb hts hi_X5 hown hK hP ob_0 rfl 0 (by decide) rfl (hts (.fieldLink RX5 12 "MirrorNet" "shelf" "LMirrorNet$Shelf;") (by decide +kernel)) (fun _ h9 => h9) dX5_state_80 ?_
      refine lv_iload_n hx hb dX5_state_83 rfl (lv_at hl 1 rfl) ?_
      obtain ⟨r27, hc26, h⟩ := q_bd1 h
      refine q_cRl (va_runVN (C := RX4) (As := [.int x1]) (rest := [.ref (ad 1)]) ⟨hx, hb, hml, hown, hts⟩ (ct_X4_filesOf l hAD (M := M) hc26) ⟨va_cnB 1 hts gX5_state_X4_filesOf_n82 rfl rfl rfl (hN (.methodLinkNest RX5 82 yX4_filesOf "MirrorNet") nw_29) (hts (.initialized RX4) (by decide +kernel)) (by decide +kernel) ⟨Nat.le_of_ble_eq_true rfl, Nat.le_of_ble_eq_true rfl⟩, hts (.instanceMethod yX4_filesOf) (by decide +kernel), hts (.selects RX4 yX4_filesOf yX4_filesOf) (by decide +kernel)⟩ ⟨gw_blind, gw_recv ob_1 hK hP rfl, gw_pre _ hK hP hz hN⟩ rfl rfl hl.1 rfl (lv_room (Nat.le_of_ble_eq_true rfl)) dX5_state_84 ⟨Nat.zero_le _, Nat.zero_le _⟩) ?_
      obtain ⟨r32, hc31, h⟩ := q_bd1 h
      refine q_cRi (va_runVN (C := RX4) (As := [.long r27]) (rest := []) ⟨hx, hb, hml, hown, hts⟩ (ct_X4_bytesOf l hAD (M := M) hc31) ⟨va_cnB 1 hts gX5_state_X4_bytesOf_n86 rfl rfl rfl (hN (.methodLinkNest RX5 86 yX4_bytesOf "MirrorNet") nw_30) (hts (.initialized RX4) (by decide +kernel)) (by decide +kernel) ⟨Nat.le_of_ble_eq_true rfl, Nat.le_of_ble_eq_true rfl⟩, hts (.instanceMethod yX4_bytesOf) (by decide +kernel), hts (.selects RX4 yX4_bytesOf yX4_bytesOf) (by decide +kernel)⟩ ⟨gw_blind, gw_recv ob_1 hK hP rfl, gw_pre _ hK hP hz hN⟩ rfl rfl hl.1 rfl (lv_room (Nat.le_of_ble_eq_true rfl)) dX5_state_87 ⟨Nat.zero_le _, Nat.zero_le _⟩) ?_
      exact q_rRi hQ hx hb hr hlk h dX5_state_90
    have h := q_f c25 h
    refine lv_tableOut (tgt := 91) hx hb dX5_state_14 (by have z0 := lv_neT c7 (a := 0) rfl; have z1 := lv_neT c13 (a := 1) rfl; have z2 := lv_neT c19 (a := 2) rfl; have z3 := lv_neT c25 (a := 3) rfl; omega) (by decide) ?_
    refine lv_iconst (v := -1) hx hb dX5_state_91 (by decide) ?_
    exact q_rRi hQ hx hb hr hlk h dX5_state_92
  · have h := q_t c6 h
    refine lv_iconst (v := -1) hx hb dX5_state_11 (by decide) ?_
    exact q_rRi hQ hx hb hr hlk h dX5_state_12
def rm_X5_mirrorAt : Room := { frames := 1, cells := 0, slots := 0, locals := 22 }
set_option maxHeartbeats 4000000 in
set_option maxRecDepth 100000 in
theorem ct_X5_mirrorAt (l : Launch) {D : va_G} {ad : Nat → Nat} {kc : Nat → ClassId} {nm z : Nat} (hAD : AD ad nm z) {M : Mem} {x1 : Int32} {r : Option Nat}  (h : fn_X5_mirrorAt nm M x1 = some r) : Met l yX5_mirrorAt wsX5_mirrorAt rm_X5_mirrorAt (va_Pc [.ref (ad 0), .int x1] (GW D ad kc nm z M)) (QRm ad nm r) 0 0 (fun _ => False) := by
  refine q_met (cc := cX5_mirrorAt) (maxL := 2) (ret := (some (.object "MirrorNet$Mirror"))) (by decide) rfl (Nat.le_of_ble_eq_true rfl) ?_
  intro p e s m args below meth c Q ls hx hb hr hlk hml hown hts hB hQ hl
  obtain ⟨hP, hK, hz, hN⟩ := hB
  have hown : s.vm.findClass RX5 = some m.cls := hown
  have hl : lv_has ls 2 [(0, .ref (ad 0)), (1, .int x1)] := hl
  have hi_X5 : ∀ w ∈ u_ws RX5 TX5 8, w ∈ wsX5_mirrorAt := by decide +kernel
  refine lv_iload_n hx hb dX5_mirrorAt_0 rfl (lv_at hl 1 rfl) ?_
  refine lv_iconst (v := 0) hx hb dX5_mirrorAt_1 (by decide) ?_
  refine lv_aload_n hx hb dX5_mirrorAt_2 rfl (lv_at hl 0 rfl) ?_
  refine q_getI hx hb hts hi_X5 hown hK hP ob_0 rfl 5 (by decide) rfl (hts (.fieldLink RX5 90 "MirrorNet" "mirrorCount" "I") (by decide +kernel)) (fun _ h9 => h9) dX5_mirrorAt_3 ?_
  refine lv_iconst (v := 1) hx hb dX5_mirrorAt_6 (by decide) ?_
  refine lv_isub hx hb dX5_mirrorAt_7 ?_
  obtain ⟨r2, hc1, h⟩ := q_bd1 h
  refine q_cRz (va_runS (As := [.int x1, .int (0 : Int32), .int ((gI M 0 5) - (1 : Int32))]) (rest := []) ⟨hx, hb, hml, hown, hts⟩ (ct_X5_isWithin l hAD (M := M) hc1) (va_cwS 3 hts gX5_mirrorAt_X5_isWithin rfl rfl rfl (by decide +kernel) ⟨Nat.le_of_ble_eq_true rfl, Nat.le_of_ble_eq_true rfl⟩) ⟨gw_blind, gw_pre _ hK hP hz hN⟩ rfl rfl hl.1 rfl (lv_room (Nat.le_of_ble_eq_true rfl)) dX5_mirrorAt_8 ⟨Nat.zero_le _, Nat.zero_le _⟩) (fun hzr2 => ?_)
  refine lv_if_eq (tgt := 23) hx hb dX5_mirrorAt_11 (by decide) (fun c6 => ?_) (fun c6 => ?_)
  · have h := q_t c6 h
    refine lv_null hx hb dX5_mirrorAt_23 ?_
    exact q_rRmN hQ hx hb hr hlk h dX5_mirrorAt_24
  · have h := q_f c6 h
    refine lv_aload_n hx hb dX5_mirrorAt_14 rfl (lv_at hl 0 rfl) ?_
    refine q_getR hx hb hts hi_X5 hown hK hP ob_0 rfl 2 (by decide) rfl (hts (.fieldLink RX5 25 "MirrorNet" "mirrors" "[LMirrorNet$Mirror;") (by decide +kernel)) (fun _ h9 => h9) dX5_mirrorAt_15 ?_
    refine lv_iload_n hx hb dX5_mirrorAt_18 rfl (lv_at hl 1 rfl) ?_
    obtain ⟨hk7, h⟩ := q_ck h
    refine q_aldM hx hb hK hP ar_11 hk7 dX5_mirrorAt_19 (fun ho9 => ?_) (fun q8 ho9 hq8 => ?_)
    · have h := q_ocn ho9 h
      refine lv_goto (tgt := 24) hx hb dX5_mirrorAt_20 (by decide) ?_
      exact q_rRmN hQ hx hb hr hlk h dX5_mirrorAt_24
    · have h := q_ocs ho9 h
      refine lv_goto (tgt := 24) hx hb dX5_mirrorAt_20 (by decide) ?_
      exact q_rRmS hQ hx hb hr hlk h hq8 dX5_mirrorAt_24
def rm_X5_speed : Room := { frames := 2, cells := 0, slots := 0, locals := 43 }
set_option maxHeartbeats 4000000 in
set_option maxRecDepth 100000 in
theorem ct_X5_speed (l : Launch) {D : va_G} {ad : Nat → Nat} {kc : Nat → ClassId} {nm z : Nat} (hAD : AD ad nm z) {M : Mem} {x1 : Int32} {x2 : Int32} {r : Int32} {Mr : Mem}  (h : fn_X5_speed nm M x1 x2 = some (r, Mr)) : Met l yX5_speed wsX5_speed rm_X5_speed (va_Pc [.ref (ad 0), .int x1, .int x2] (GW D ad kc nm z M)) (QWi D ad kc nm z r Mr) 0 0 (fun q => z ≤ q) := by
  refine q_met (cc := cX5_speed) (maxL := 5) (ret := (some .int)) (by decide) rfl (Nat.le_of_ble_eq_true rfl) ?_
  intro p e s m args below meth c Q ls hx hb hr hlk hml hown hts hB hQ hl
  obtain ⟨hP, hK, hz, hN⟩ := hB
  have hown : s.vm.findClass RX5 = some m.cls := hown
  have hl : lv_has ls 5 [(0, .ref (ad 0)), (1, .int x1), (2, .int x2)] := hl
  have hi_X3 : ∀ w ∈ u_ws RX3 TX3 10, w ∈ wsX5_speed := by decide +kernel
  have hS : va_S (fun q => z ≤ q) s.heap s.heap [] := va_S.rf
  obtain ⟨H, eH⟩ : ∃ H : Heap, H = s.heap := ⟨_, rfl⟩
  obtain ⟨locs, eL⟩ : ∃ L : List Loc, L = [] := ⟨_, rfl⟩
  have hP : va_P D vwCl (wl ad kc nm M) H := by rw [eH]; exact hP
  have hS : va_S (fun q => z ≤ q) s.heap H locs := by rw [eH, eL]; exact hS
  refine q_start eH eL ?_
  refine lv_aload_n hx hb dX5_speed_0 rfl (lv_at hl 0 rfl) ?_
  refine lv_iload_n hx hb dX5_speed_1 rfl (lv_at hl 1 rfl) ?_
  obtain ⟨r2, hc1, h⟩ := q_bd1 h
  refine q_cRm (va_runV (C := RX5) (As := [.int x1]) (rest := []) ⟨hx, hb, hml, hown, hts⟩ (ct_X5_mirrorAt l hAD (M := M) hc1) (cwV 1 hts gX5_speed_X5_mirrorAt rfl rfl rfl (by decide +kernel) ⟨Nat.le_of_ble_eq_true rfl, Nat.le_of_ble_eq_true rfl⟩) ⟨gw_blind, gw_recv ob_0 hK hP rfl, gw_pre _ hK hP (Nat.le_trans hz hS.1) hN⟩ rfl rfl hl.1 rfl (lv_room (Nat.le_of_ble_eq_true rfl)) dX5_speed_2 ⟨Nat.zero_le _, Nat.zero_le _⟩) (fun ho5 => ?_) (fun q4 ho5 hq4 => ?_)
  · have h := q_ocn ho5 h
    refine lv_astore_nN (lv' := [(3, .null), (0, .ref (ad 0)), (1, .int x1), (2, .int x2)]) hx hb dX5_speed_5 rfl hl (by decide) rfl (fun ls hl => ?_)
    refine lv_aload_nN hx hb dX5_speed_6 rfl (lv_at hl 0 rfl) ?_
    refine lv_ifnullN (tgt := 21) hx hb dX5_speed_7 (by decide) ?_
    refine lv_iconst (v := -1) hx hb dX5_speed_21 (by decide) ?_
    exact q_rWi hQ hx hb hr hlk hP hS h dX5_speed_22
  · have h := q_ocs ho5 h
    refine lv_astore_n (lv' := [(3, .ref (ad (62 + 2 * q4))), (0, .ref (ad 0)), (1, .int x1), (2, .int x2)]) hx hb dX5_speed_5 rfl hl (by decide) rfl (fun ls hl => ?_)
    refine lv_aload_n hx hb dX5_speed_6 rfl (lv_at hl 0 rfl) ?_
    refine lv_ifnull hx hb dX5_speed_7 ?_
    refine lv_iload_n hx hb dX5_speed_10 rfl (lv_at hl 3 rfl) ?_
    refine lv_iconst (v := 1) hx hb dX5_speed_11 (by decide) ?_
    refine lv_sipush (v := 1000) hx hb dX5_speed_12 (by decide) ?_
    obtain ⟨r7, hc6, h⟩ := q_bd1 h
    refine q_cRz (va_runS (As := [.int x2, .int (1 : Int32), .int (1000 : Int32)]) (rest := []) ⟨hx, hb, hml, hown, hts⟩ (ct_X5_isWithin l hAD (M := M) hc6) (va_cwS 3 hts gX5_speed_X5_isWithin rfl rfl rfl (by decide +kernel) ⟨Nat.le_of_ble_eq_true rfl, Nat.le_of_ble_eq_true rfl⟩) ⟨gw_blind, gw_pre _ hK hP (Nat.le_trans hz hS.1) hN⟩ rfl rfl hl.1 rfl (lv_room (Nat.le_of_ble_eq_true rfl)) dX5_speed_15 ⟨Nat.zero_le _, Nat.zero_le _⟩) (fun hzr7 => ?_)
    refine lv_if_ne (tgt := 23) hx hb dX5_speed_18 (by decide) (fun c11 => ?_) (fun c11 => ?_)
    · have h := q_f c11 h
      refine lv_aload_n hx hb dX5_speed_23 rfl (lv_at hl 0 rfl) ?_
      refine q_getIN hx hb hts hi_X3 hown hK hP (ob_mirror hq4) rfl 3 (by decide) rfl (hN (.fieldLinkNest RX5 100 "MirrorNet$Mirror" "bytesATick" "I" "MirrorNet") nw_33) (fun _ h9 => h9) dX5_speed_24 ?_
      refine lv_topi (fun v12 ev12 => ?_)
      have h := q_nxe ev12 h
      refine lv_istore (lv' := [(4, .int v12), (3, .ref (ad (62 + 2 * q4))), (0, .ref (ad 0)), (1, .int x1), (2, .int x2)]) hx hb dX5_speed_27 hl (by decide) rfl (fun ls hl => ?_)
      refine lv_aload_n hx hb dX5_speed_29 rfl (lv_at hl 1 rfl) ?_
      refine lv_iload_n hx hb dX5_speed_30 rfl (lv_at hl 4 rfl) ?_
      obtain ⟨M13, eM13, h⟩ := q_nx h
      refine q_putIN hx hb hts hi_X3 tyX3 tyX3_ok nmX3 hown hK hP hAD hS (ob_mirror hq4) rfl 3 (by decide) rfl (hN (.fieldLinkNest RX5 100 "MirrorNet$Mirror" "bytesATick" "I" "MirrorNet") nw_33) (fun _ h9 => h9) rfl (ty := .int) (by decide +kernel) rfl rfl dX5_speed_31 (fun H locs hP hS => ?_)
      rw [← eM13] at hP
      refine lv_iload hx hb dX5_speed_34 (lv_at hl 0 rfl) ?_
      exact q_rWi hQ hx hb hr hlk hP hS h dX5_speed_36
    · have h := q_t c11 h
      refine lv_iconst (v := -1) hx hb dX5_speed_21 (by decide) ?_
      exact q_rWi hQ hx hb hr hlk hP hS h dX5_speed_22
def rm_X5_fall : Room := { frames := 2, cells := 0, slots := 0, locals := 43 }
set_option maxHeartbeats 4000000 in
set_option maxRecDepth 100000 in
theorem ct_X5_fall (l : Launch) {D : va_G} {ad : Nat → Nat} {kc : Nat → ClassId} {nm z : Nat} (hAD : AD ad nm z) {M : Mem} {x1 : Int32} {x2 : Int32} {x3 : Int32} {r : Int32} {Mr : Mem}  (h : fn_X5_fall nm M x1 x2 x3 = some (r, Mr)) : Met l yX5_fall wsX5_fall rm_X5_fall (va_Pc [.ref (ad 0), .int x1, .int x2, .int x3] (GW D ad kc nm z M)) (QWi D ad kc nm z r Mr) 0 0 (fun q => z ≤ q) := by
  refine q_met (cc := cX5_fall) (maxL := 4) (ret := (some .int)) (by decide) rfl (Nat.le_of_ble_eq_true rfl) ?_
  intro p e s m args below meth c Q ls hx hb hr hlk hml hown hts hB hQ hl
  obtain ⟨hP, hK, hz, hN⟩ := hB
  have hown : s.vm.findClass RX5 = some m.cls := hown
  have hl : lv_has ls 4 [(0, .ref (ad 0)), (1, .int x1), (2, .int x2), (3, .int x3)] := hl
  have hi_X5 : ∀ w ∈ u_ws RX5 TX5 8, w ∈ wsX5_fall := by decide +kernel
  have hS : va_S (fun q => z ≤ q) s.heap s.heap [] := va_S.rf
  obtain ⟨H, eH⟩ : ∃ H : Heap, H = s.heap := ⟨_, rfl⟩
  obtain ⟨locs, eL⟩ : ∃ L : List Loc, L = [] := ⟨_, rfl⟩
  have hP : va_P D vwCl (wl ad kc nm M) H := by rw [eH]; exact hP
  have hS : va_S (fun q => z ≤ q) s.heap H locs := by rw [eH, eL]; exact hS
  refine q_start eH eL ?_
  refine lv_aload_n hx hb dX5_fall_0 rfl (lv_at hl 0 rfl) ?_
  refine lv_iload_n hx hb dX5_fall_1 rfl (lv_at hl 1 rfl) ?_
  obtain ⟨r2, hc1, h⟩ := q_bd1 h
  refine q_cRm (va_runV (C := RX5) (As := [.int x1]) (rest := []) ⟨hx, hb, hml, hown, hts⟩ (ct_X5_mirrorAt l hAD (M := M) hc1) (cwV 1 hts gX5_fall_X5_mirrorAt rfl rfl rfl (by decide +kernel) ⟨Nat.le_of_ble_eq_true rfl, Nat.le_of_ble_eq_true rfl⟩) ⟨gw_blind, gw_recv ob_0 hK hP rfl, gw_pre _ hK hP (Nat.le_trans hz hS.1) hN⟩ rfl rfl hl.1 rfl (lv_room (Nat.le_of_ble_eq_true rfl)) dX5_fall_2 ⟨Nat.zero_le _, Nat.zero_le _⟩) (fun ho5 => ?_) (fun q4 ho5 hq4 => ?_)
  · have h := q_ocn ho5 h
    refine lv_ifnullN (tgt := 33) hx hb dX5_fall_5 (by decide) ?_
    refine lv_iconst (v := -1) hx hb dX5_fall_33 (by decide) ?_
    exact q_rWi hQ hx hb hr hlk hP hS h dX5_fall_34
  · have h := q_ocs ho5 h
    refine lv_ifnull hx hb dX5_fall_5 ?_
    refine lv_iload_n hx hb dX5_fall_8 rfl (lv_at hl 2 rfl) ?_
    refine lv_aload_n hx hb dX5_fall_9 rfl (lv_at hl 0 rfl) ?_
    refine q_getI hx hb hts hi_X5 hown hK hP ob_0 rfl 6 (by decide) rfl (hts (.fieldLink RX5 55 "MirrorNet" "now" "I") (by decide +kernel)) (fun _ h9 => h9) dX5_fall_10 ?_
    refine lv_sipush (v := 9999) hx hb dX5_fall_13 (by decide) ?_
    obtain ⟨r7, hc6, h⟩ := q_bd1 h
    refine q_cRz (va_runS (As := [.int x2, .int (gI M 0 6), .int (9999 : Int32)]) (rest := []) ⟨hx, hb, hml, hown, hts⟩ (ct_X5_isWithin l hAD (M := M) hc6) (va_cwS 3 hts gX5_fall_X5_isWithin rfl rfl rfl (by decide +kernel) ⟨Nat.le_of_ble_eq_true rfl, Nat.le_of_ble_eq_true rfl⟩) ⟨gw_blind, gw_pre _ hK hP (Nat.le_trans hz hS.1) hN⟩ rfl rfl hl.1 rfl (lv_room (Nat.le_of_ble_eq_true rfl)) dX5_fall_16 ⟨Nat.zero_le _, Nat.zero_le _⟩) (fun hzr7 => ?_)
    refine lv_if_eq (tgt := 33) hx hb dX5_fall_19 (by decide) (fun c11 => ?_) (fun c11 => ?_)
    · have h := q_t c11 h
      refine lv_iconst (v := -1) hx hb dX5_fall_33 (by decide) ?_
      exact q_rWi hQ hx hb hr hlk hP hS h dX5_fall_34
    · have h := q_f c11 h
      refine lv_iload_n hx hb dX5_fall_22 rfl (lv_at hl 3 rfl) ?_
      refine lv_iload_n hx hb dX5_fall_23 rfl (lv_at hl 2 rfl) ?_
      refine lv_sipush (v := 9999) hx hb dX5_fall_24 (by decide) ?_
      obtain ⟨r13, hc12, h⟩ := q_bd1 h
      refine q_cRz (va_runS (As := [.int x3, .int x2, .int (9999 : Int32)]) (rest := []) ⟨hx, hb, hml, hown, hts⟩ (ct_X5_isWithin l hAD (M := M) hc12) (va_cwS 3 hts gX5_fall_X5_isWithin rfl rfl rfl (by decide +kernel) ⟨Nat.le_of_ble_eq_true rfl, Nat.le_of_ble_eq_true rfl⟩) ⟨gw_blind, gw_pre _ hK hP (Nat.le_trans hz hS.1) hN⟩ rfl rfl hl.1 rfl (lv_room (Nat.le_of_ble_eq_true rfl)) dX5_fall_27 ⟨Nat.zero_le _, Nat.zero_le _⟩) (fun hzr13 => ?_)
      refine lv_if_ne (tgt := 35) hx hb dX5_fall_30 (by decide) (fun c17 => ?_) (fun c17 => ?_)
      · have h := q_f c17 h
        refine lv_aload_n hx hb dX5_fall_35 rfl (lv_at hl 0 rfl) ?_
        refine q_getR hx hb hts hi_X5 hown hK hP ob_0 rfl 1 (by decide) rfl (hts (.fieldLink RX5 19 "MirrorNet" "falls" "LMirrorNet$Falls;") (by decide +kernel)) (fun _ h9 => h9) dX5_fall_36 ?_
        refine lv_iload_n hx hb dX5_fall_39 rfl (lv_at hl 1 rfl) ?_
        refine lv_iload_n hx hb dX5_fall_40 rfl (lv_at hl 2 rfl) ?_
        refine lv_iload_n hx hb dX5_fall_41 rfl (lv_at hl 3 rfl) ?_
        obtain ⟨r19, M20, hc18, h⟩ := q_bd2 h
        refine q_cWi (va_runVN (C := RX2) (As := [.int x1, .int x2, .int x3]) (rest := []) ⟨hx, hb, hml, hown, hts⟩ (ct_X2_add l hAD (M := M) hc18) ⟨va_cnB 3 hts gX5_fall_X2_add_n103 rfl rfl rfl (hN (.methodLinkNest RX5 103 yX2_add "MirrorNet") nw_40) (hts (.initialized RX2) (by decide +kernel)) (by decide +kernel) ⟨Nat.le_of_ble_eq_true rfl, Nat.le_of_ble_eq_true rfl⟩, hts (.instanceMethod yX2_add) (by decide +kernel), hts (.selects RX2 yX2_add yX2_add) (by decide +kernel)⟩ ⟨gw_blind, gw_recv ob_7 hK hP rfl, gw_pre _ hK hP (Nat.le_trans hz hS.1) hN⟩ rfl rfl hl.1 rfl (lv_room (Nat.le_of_ble_eq_true rfl)) dX5_fall_42 ⟨Nat.zero_le _, Nat.zero_le _⟩) hS (fun H locs hP hS => ?_)
        exact q_rWi hQ hx hb hr hlk hP hS h dX5_fall_45
      · have h := q_t c17 h
        refine lv_iconst (v := -1) hx hb dX5_fall_33 (by decide) ?_
        exact q_rWi hQ hx hb hr hlk hP hS h dX5_fall_34
def rm_X5_lies : Room := { frames := 2, cells := 0, slots := 0, locals := 43 }
set_option maxHeartbeats 4000000 in
set_option maxRecDepth 100000 in
theorem ct_X5_lies (l : Launch) {D : va_G} {ad : Nat → Nat} {kc : Nat → ClassId} {nm z : Nat} (hAD : AD ad nm z) {M : Mem} {x1 : Int32} {x2 : Int32} {r : Int32} {Mr : Mem} (hz2 : x2 = 0 ∨ x2 = 1) (h : fn_X5_lies nm M x1 x2 = some (r, Mr)) : Met l yX5_lies wsX5_lies rm_X5_lies (va_Pc [.ref (ad 0), .int x1, .int x2] (GW D ad kc nm z M)) (QWz D ad kc nm z r Mr) 0 0 (fun q => z ≤ q) := by
  refine q_met (cc := cX5_lies) (maxL := 4) (ret := (some .boolean)) (by decide) rfl (Nat.le_of_ble_eq_true rfl) ?_
  intro p e s m args below meth c Q ls hx hb hr hlk hml hown hts hB hQ hl
  obtain ⟨hP, hK, hz, hN⟩ := hB
  have hown : s.vm.findClass RX5 = some m.cls := hown
  have hl : lv_has ls 4 [(0, .ref (ad 0)), (1, .int x1), (2, .int x2)] := hl
  have hi_X3 : ∀ w ∈ u_ws RX3 TX3 10, w ∈ wsX5_lies := by decide +kernel
  have hS : va_S (fun q => z ≤ q) s.heap s.heap [] := va_S.rf
  obtain ⟨H, eH⟩ : ∃ H : Heap, H = s.heap := ⟨_, rfl⟩
  obtain ⟨locs, eL⟩ : ∃ L : List Loc, L = [] := ⟨_, rfl⟩
  have hP : va_P D vwCl (wl ad kc nm M) H := by rw [eH]; exact hP
  have hS : va_S (fun q => z ≤ q) s.heap H locs := by rw [eH, eL]; exact hS
  refine q_start eH eL ?_
  refine lv_aload_n hx hb dX5_lies_0 rfl (lv_at hl 0 rfl) ?_
  refine lv_iload_n hx hb dX5_lies_1 rfl (lv_at hl 1 rfl) ?_
  obtain ⟨r2, hc1, h⟩ := q_bd1 h
  refine q_cRm (va_runV (C := RX5) (As := [.int x1]) (rest := []) ⟨hx, hb, hml, hown, hts⟩ (ct_X5_mirrorAt l hAD (M := M) hc1) (cwV 1 hts gX5_lies_X5_mirrorAt rfl rfl rfl (by decide +kernel) ⟨Nat.le_of_ble_eq_true rfl, Nat.le_of_ble_eq_true rfl⟩) ⟨gw_blind, gw_recv ob_0 hK hP rfl, gw_pre _ hK hP (Nat.le_trans hz hS.1) hN⟩ rfl rfl hl.1 rfl (lv_room (Nat.le_of_ble_eq_true rfl)) dX5_lies_2 ⟨Nat.zero_le _, Nat.zero_le _⟩) (fun ho5 => ?_) (fun q4 ho5 hq4 => ?_)
  · have h := q_ocn ho5 h
    refine lv_astore_nN (lv' := [(3, .null), (0, .ref (ad 0)), (1, .int x1), (2, .int x2)]) hx hb dX5_lies_5 rfl hl (by decide) rfl (fun ls hl => ?_)
    refine lv_aload_nN hx hb dX5_lies_6 rfl (lv_at hl 0 rfl) ?_
    refine lv_ifnullN (tgt := 18) hx hb dX5_lies_7 (by decide) ?_
    refine lv_iconst (v := 0) hx hb dX5_lies_18 (by decide) ?_
    exact q_rWz hQ hx hb hr hlk hP hS h (Or.inl rfl) dX5_lies_19
  · have h := q_ocs ho5 h
    refine lv_astore_n (lv' := [(3, .ref (ad (62 + 2 * q4))), (0, .ref (ad 0)), (1, .int x1), (2, .int x2)]) hx hb dX5_lies_5 rfl hl (by decide) rfl (fun ls hl => ?_)
    refine lv_aload_n hx hb dX5_lies_6 rfl (lv_at hl 0 rfl) ?_
    refine lv_ifnull hx hb dX5_lies_7 ?_
    refine lv_aload_n hx hb dX5_lies_10 rfl (lv_at hl 0 rfl) ?_
    refine q_getIN hx hb hts hi_X3 hown hK hP (ob_mirror hq4) rfl 9 (by decide) rfl (hN (.fieldLinkNest RX5 106 "MirrorNet$Mirror" "isLiar" "Z" "MirrorNet") nw_39) (fun _ h9 => h9) dX5_lies_11 ?_
    refine lv_iload_n hx hb dX5_lies_14 rfl (lv_at hl 3 rfl) ?_
    refine lv_icmp_ne (tgt := 20) hx hb dX5_lies_15 (by decide) (fun c6 => ?_) (fun c6 => ?_)
    · have h := q_f c6 h
      refine lv_aload_n hx hb dX5_lies_20 rfl (lv_at hl 0 rfl) ?_
      refine lv_iload_n hx hb dX5_lies_21 rfl (lv_at hl 3 rfl) ?_
      obtain ⟨M7, eM7, h⟩ := q_nx h
      refine q_putIN hx hb hts hi_X3 tyX3 tyX3_ok nmX3 hown hK hP hAD hS (ob_mirror hq4) rfl 9 (by decide) rfl (hN (.fieldLinkNest RX5 106 "MirrorNet$Mirror" "isLiar" "Z" "MirrorNet") nw_39) (fun _ h9 => h9) rfl (ty := .boolean) (by decide +kernel) (nar_b hz2) (fit_b hz2) dX5_lies_22 (fun H locs hP hS => ?_)
      rw [← eM7] at hP
      refine lv_iconst (v := 1) hx hb dX5_lies_25 (by decide) ?_
      exact q_rWz hQ hx hb hr hlk hP hS h (Or.inr rfl) dX5_lies_26
    · have h := q_t c6 h
      refine lv_iconst (v := 0) hx hb dX5_lies_18 (by decide) ?_
      exact q_rWz hQ hx hb hr hlk hP hS h (Or.inl rfl) dX5_lies_19
def rm_X5_stepAll : Room := { frames := 5, cells := 0, slots := 0, locals := 118 }
set_option maxHeartbeats 4000000 in
set_option maxRecDepth 100000 in
theorem ct_X5_stepAll (l : Launch) {D : va_G} {ad : Nat → Nat} {kc : Nat → ClassId} {nm z : Nat} (hAD : AD ad nm z) {M : Mem}  {Mr : Mem}  (h : fn_X5_stepAll nm M = some Mr) : Met l yX5_stepAll wsX5_stepAll rm_X5_stepAll (va_Pc [.ref (ad 0)] (GW D ad kc nm z M)) (QWv D ad kc nm z Mr) 0 0 (fun q => z ≤ q) := by
  refine q_met (cc := cX5_stepAll) (maxL := 5) (ret := none) (by decide) rfl (Nat.le_of_ble_eq_true rfl) ?_
  intro p e s m args below meth c Q ls hx hb hr hlk hml hown hts hB hQ hl
  obtain ⟨hP, hK, hz, hN⟩ := hB
  have hown : s.vm.findClass RX5 = some m.cls := hown
  have hl : lv_has ls 5 [(0, .ref (ad 0))] := hl
  have hi_X5 : ∀ w ∈ u_ws RX5 TX5 8, w ∈ wsX5_stepAll := by decide +kernel
  have hi_X3 : ∀ w ∈ u_ws RX3 TX3 10, w ∈ wsX5_stepAll := by decide +kernel
  have hS : va_S (fun q => z ≤ q) s.heap s.heap [] := va_S.rf
  have L_lq_X5_stepAll_14 : ∀ (x1 : Int32), ∀ (n14 : Nat) (M : Mem) (x2 : Int32) (H : Heap) (locs : List Loc) (ls : Array Slot), it2 (lq_X5_stepAll_14 nm x1) n14 M x2 = some Mr → va_P D vwCl (wl ad kc nm M) H → va_S (fun q => z ≤ q) s.heap H locs → lv_has ls 5 [(0, .ref (ad 0)), (1, .int x1), (2, .int x2)] → W p l e rm_X5_stepAll s m args below meth c H locs 0 0 Q (F0 m 14 ls []) := by
    intro x1 n14
    induction n14 with
    | zero =>
      intro M x2 H locs ls h hP hS hl
      exact (it2_0 h).elim
    | succ n14 ih14 =>
      have B_bk_X5_stepAll_120 : ∀ (M : Mem) (x2 : Int32) (H : Heap) (locs : List Loc) (ls : Array Slot), bk_X5_stepAll_120 (it2 (lq_X5_stepAll_14 nm x1) n14) nm M x1 x2 = some Mr → va_P D vwCl (wl ad kc nm M) H → va_S (fun q => z ≤ q) s.heap H locs → lv_has ls 5 [(0, .ref (ad 0)), (1, .int x1), (2, .int x2)] → W p l e rm_X5_stepAll s m args below meth c H locs 0 0 Q (F0 m 120 ls []) := by
        intro M x2 H locs ls h hP hS hl
        obtain ⟨v1, ev1, h⟩ := q_nx h
        refine lv_iinc (v := v1) (lv' := [(2, .int v1), (0, .ref (ad 0)), (1, .int x1)]) hx hb dX5_stepAll_120 hl (k := 2) rfl (by rw [ev1]; rfl) (by decide) rfl (fun ls hl => ?_)
        refine lv_goto (tgt := 14) hx hb dX5_stepAll_123 (by decide) ?_
        exact ih14 M v1 H locs ls  h hP hS (lv_sub hl [1, 2, 0] rfl)
      intro M x2 H locs ls h hP hS hl
      have h := it2_s h
      refine lv_iload_n hx hb dX5_stepAll_14 rfl (lv_at hl 2 rfl) ?_
      refine lv_aload_n hx hb dX5_stepAll_15 rfl (lv_at hl 0 rfl) ?_
      refine q_getI hx hb hts hi_X5 hown hK hP ob_0 rfl 5 (by decide) rfl (hts (.fieldLink RX5 90 "MirrorNet" "mirrorCount" "I") (by decide +kernel)) (fun _ h9 => h9) dX5_stepAll_16 ?_
      refine lv_icmp_ge (tgt := 126) hx hb dX5_stepAll_19 (by decide) (fun c2 => ?_) (fun c2 => ?_)
      · have h := q_t c2 h
        exact q_rWv hQ hx hb hr hlk hP hS h dX5_stepAll_126
      · have h := q_f c2 h
        refine lv_aload_n hx hb dX5_stepAll_22 rfl (lv_at hl 0 rfl) ?_
        refine lv_iload_n hx hb dX5_stepAll_23 rfl (lv_at hl 2 rfl) ?_
        obtain ⟨r4, hc3, h⟩ := q_bd1 h
        refine q_cRm (va_runV (C := RX5) (As := [.int x2]) (rest := []) ⟨hx, hb, hml, hown, hts⟩ (ct_X5_mirrorAt l hAD (M := M) hc3) (cwV 1 hts gX5_stepAll_X5_mirrorAt rfl rfl rfl (by decide +kernel) ⟨Nat.le_of_ble_eq_true rfl, Nat.le_of_ble_eq_true rfl⟩) ⟨gw_blind, gw_recv ob_0 hK hP rfl, gw_pre _ hK hP (Nat.le_trans hz hS.1) hN⟩ rfl rfl hl.1 rfl (lv_room (Nat.le_of_ble_eq_true rfl)) dX5_stepAll_24 ⟨Nat.zero_le _, Nat.zero_le _⟩) (fun ho7 => ?_) (fun q6 ho7 hq6 => ?_)
        · have h := q_ocn ho7 h
          refine lv_astore_nN (lv' := [(3, .null), (0, .ref (ad 0)), (1, .int x1), (2, .int x2)]) hx hb dX5_stepAll_27 rfl hl (by decide) rfl (fun ls hl => ?_)
          refine lv_aload_nN hx hb dX5_stepAll_28 rfl (lv_at hl 0 rfl) ?_
          refine lv_ifnonnullN hx hb dX5_stepAll_29 ?_
          refine lv_goto (tgt := 120) hx hb dX5_stepAll_32 (by decide) ?_
          exact B_bk_X5_stepAll_120 M x2 H locs ls  h hP hS (lv_sub hl [1, 2, 3] rfl)
        · have h := q_ocs ho7 h
          refine lv_astore_n (lv' := [(3, .ref (ad (62 + 2 * q6))), (0, .ref (ad 0)), (1, .int x1), (2, .int x2)]) hx hb dX5_stepAll_27 rfl hl (by decide) rfl (fun ls hl => ?_)
          refine lv_aload_n hx hb dX5_stepAll_28 rfl (lv_at hl 0 rfl) ?_
          refine lv_ifnonnull (tgt := 35) hx hb dX5_stepAll_29 (by decide) ?_
          refine lv_aload_n hx hb dX5_stepAll_35 rfl (lv_at hl 1 rfl) ?_
          refine lv_aload_n hx hb dX5_stepAll_36 rfl (lv_at hl 0 rfl) ?_
          refine q_getIN hx hb hts hi_X3 hown hK hP (ob_mirror hq6) rfl 0 (by decide) rfl (hN (.fieldLinkNest RX5 223 "MirrorNet$Mirror" "source" "I" "MirrorNet") nw_32) (fun _ h9 => h9) dX5_stepAll_37 ?_
          obtain ⟨r9, hc8, h⟩ := q_bd1 h
          refine q_cRm (va_runV (C := RX5) (As := [.int (gI M (62 + 2 * q6) 0)]) (rest := []) ⟨hx, hb, hml, hown, hts⟩ (ct_X5_mirrorAt l hAD (M := M) hc8) (cwV 1 hts gX5_stepAll_X5_mirrorAt rfl rfl rfl (by decide +kernel) ⟨Nat.le_of_ble_eq_true rfl, Nat.le_of_ble_eq_true rfl⟩) ⟨gw_blind, gw_recv ob_0 hK hP rfl, gw_pre _ hK hP (Nat.le_trans hz hS.1) hN⟩ rfl rfl hl.1 rfl (lv_room (Nat.le_of_ble_eq_true rfl)) dX5_stepAll_40 ⟨Nat.zero_le _, Nat.zero_le _⟩) (fun ho12 => ?_) (fun q11 ho12 hq11 => ?_)
          · have h := q_ocn ho12 h
            refine lv_astoreN (lv' := [(4, .null), (3, .ref (ad (62 + 2 * q6))), (0, .ref (ad 0)), (1, .int x1), (2, .int x2)]) hx hb dX5_stepAll_43 hl (by decide) rfl (fun ls hl => ?_)
            refine lv_iload_n hx hb dX5_stepAll_45 rfl (lv_at hl 3 rfl) ?_
            refine lv_iload_n hx hb dX5_stepAll_46 rfl (lv_at hl 4 rfl) ?_
            obtain ⟨r14, hc13, h⟩ := q_bd1 h
            refine q_cRz (va_runS (As := [.int x1, .int x2]) (rest := []) ⟨hx, hb, hml, hown, hts⟩ (ct_X5_isIn l hAD (M := M) hc13) (va_cwS 2 hts gX5_stepAll_X5_isIn rfl rfl rfl (by decide +kernel) ⟨Nat.le_of_ble_eq_true rfl, Nat.le_of_ble_eq_true rfl⟩) ⟨gw_blind, gw_pre _ hK hP (Nat.le_trans hz hS.1) hN⟩ rfl rfl hl.1 rfl (lv_room (Nat.le_of_ble_eq_true rfl)) dX5_stepAll_47 ⟨Nat.zero_le _, Nat.zero_le _⟩) (fun hzr14 => ?_)
            refine lv_if_eq (tgt := 61) hx hb dX5_stepAll_50 (by decide) (fun c18 => ?_) (fun c18 => ?_)
            · have h := q_t c18 h
              refine lv_aloadN hx hb dX5_stepAll_61 (lv_at hl 0 rfl) ?_
              refine lv_ifnonnullN hx hb dX5_stepAll_63 ?_
              refine lv_aload_n hx hb dX5_stepAll_66 rfl (lv_at hl 1 rfl) ?_
              refine lv_aload_n hx hb dX5_stepAll_67 rfl (lv_at hl 2 rfl) ?_
              refine q_getR hx hb hts hi_X5 hown hK hP ob_0 rfl 0 (by decide) rfl (hts (.fieldLink RX5 12 "MirrorNet" "shelf" "LMirrorNet$Shelf;") (by decide +kernel)) (fun _ h9 => h9) dX5_stepAll_68 ?_
              refine lv_aload_n hx hb dX5_stepAll_71 rfl (lv_at hl 2 rfl) ?_
              refine q_getR hx hb hts hi_X5 hown hK hP ob_0 rfl 0 (by decide) rfl (hts (.fieldLink RX5 12 "MirrorNet" "shelf" "LMirrorNet$Shelf;") (by decide +kernel)) (fun _ h9 => h9) dX5_stepAll_72 ?_
              obtain ⟨r20, hc19, h⟩ := q_bd1 h
              refine q_cRi (va_runVN (C := RX4) (As := []) (rest := [.ref (ad 1), .ref (ad (62 + 2 * q6))]) ⟨hx, hb, hml, hown, hts⟩ (ct_X4_latestState l hAD (M := M) hc19) ⟨va_cnB 0 hts gX5_stepAll_X4_latestState_n226 rfl rfl rfl (hN (.methodLinkNest RX5 226 yX4_latestState "MirrorNet") nw_43) (hts (.initialized RX4) (by decide +kernel)) (by decide +kernel) ⟨Nat.le_of_ble_eq_true rfl, Nat.le_of_ble_eq_true rfl⟩, hts (.instanceMethod yX4_latestState) (by decide +kernel), hts (.selects RX4 yX4_latestState yX4_latestState) (by decide +kernel)⟩ ⟨gw_blind, gw_recv ob_1 hK hP rfl, gw_pre _ hK hP (Nat.le_trans hz hS.1) hN⟩ rfl rfl hl.1 rfl (lv_room (Nat.le_of_ble_eq_true rfl)) dX5_stepAll_75 ⟨Nat.zero_le _, Nat.zero_le _⟩) ?_
              refine lv_aload_n hx hb dX5_stepAll_78 rfl (lv_at hl 2 rfl) ?_
              refine q_getR hx hb hts hi_X5 hown hK hP ob_0 rfl 0 (by decide) rfl (hts (.fieldLink RX5 12 "MirrorNet" "shelf" "LMirrorNet$Shelf;") (by decide +kernel)) (fun _ h9 => h9) dX5_stepAll_79 ?_
              obtain ⟨r25, hc24, h⟩ := q_bd1 h
              refine q_cRl (va_runVN (C := RX4) (As := []) (rest := [.int r20, .ref (ad 1), .ref (ad (62 + 2 * q6))]) ⟨hx, hb, hml, hown, hts⟩ (ct_X4_allFiles l hAD (M := M) hc24) ⟨va_cnB 0 hts gX5_stepAll_X4_allFiles_n230 rfl rfl rfl (hN (.methodLinkNest RX5 230 yX4_allFiles "MirrorNet") nw_44) (hts (.initialized RX4) (by decide +kernel)) (by decide +kernel) ⟨Nat.le_of_ble_eq_true rfl, Nat.le_of_ble_eq_true rfl⟩, hts (.instanceMethod yX4_allFiles) (by decide +kernel), hts (.selects RX4 yX4_allFiles yX4_allFiles) (by decide +kernel)⟩ ⟨gw_blind, gw_recv ob_1 hK hP rfl, gw_pre _ hK hP (Nat.le_trans hz hS.1) hN⟩ rfl rfl hl.1 rfl (lv_room (Nat.le_of_ble_eq_true rfl)) dX5_stepAll_82 ⟨Nat.zero_le _, Nat.zero_le _⟩) ?_
              obtain ⟨M31, hc29, h⟩ := q_bd1 h
              refine q_cWv (va_runVN (C := RX3) (As := [.ref (ad 1), .int r20, .long r25]) (rest := []) ⟨hx, hb, hml, hown, hts⟩ (ct_X3_step l hAD (M := M) hq6 hc29) ⟨va_cnB 3 hts gX5_stepAll_X3_step_n234 rfl rfl rfl (hN (.methodLinkNest RX5 234 yX3_step "MirrorNet") nw_45) (hts (.initialized RX3) (by decide +kernel)) (by decide +kernel) ⟨Nat.le_of_ble_eq_true rfl, Nat.le_of_ble_eq_true rfl⟩, hts (.instanceMethod yX3_step) (by decide +kernel), hts (.selects RX3 yX3_step yX3_step) (by decide +kernel)⟩ ⟨gw_blind, gw_recv (ob_mirror hq6) hK hP rfl, gw_pre _ hK hP (Nat.le_trans hz hS.1) hN⟩ rfl rfl hl.1 rfl (lv_room (Nat.le_of_ble_eq_true rfl)) dX5_stepAll_85 ⟨Nat.zero_le _, Nat.zero_le _⟩) hS (fun H locs hP hS => ?_)
              refine lv_goto (tgt := 120) hx hb dX5_stepAll_88 (by decide) ?_
              exact B_bk_X5_stepAll_120 M31 x2 H locs ls  h hP hS (lv_sub hl [2, 3, 4] rfl)
            · have h := q_f c18 h
              refine lv_aload_n hx hb dX5_stepAll_53 rfl (lv_at hl 1 rfl) ?_
              refine lv_iconst (v := 0) hx hb dX5_stepAll_54 (by decide) ?_
              obtain ⟨M34, eM34, h⟩ := q_nx h
              refine q_putIN hx hb hts hi_X3 tyX3 tyX3_ok nmX3 hown hK hP hAD hS (ob_mirror hq6) rfl 7 (by decide) rfl (hN (.fieldLinkNest RX5 128 "MirrorNet$Mirror" "done" "I" "MirrorNet") nw_37) (fun _ h9 => h9) rfl (ty := .int) (by decide +kernel) rfl rfl dX5_stepAll_55 (fun H locs hP hS => ?_)
              rw [← eM34] at hP
              refine lv_goto (tgt := 120) hx hb dX5_stepAll_58 (by decide) ?_
              exact B_bk_X5_stepAll_120 M34 x2 H locs ls  h hP hS (lv_sub hl [2, 3, 4] rfl)
          · have h := q_ocs ho12 h
            refine lv_astore (lv' := [(4, .ref (ad (62 + 2 * q11))), (3, .ref (ad (62 + 2 * q6))), (0, .ref (ad 0)), (1, .int x1), (2, .int x2)]) hx hb dX5_stepAll_43 hl (by decide) rfl (fun ls hl => ?_)
            refine lv_iload_n hx hb dX5_stepAll_45 rfl (lv_at hl 3 rfl) ?_
            refine lv_iload_n hx hb dX5_stepAll_46 rfl (lv_at hl 4 rfl) ?_
            obtain ⟨r36, hc35, h⟩ := q_bd1 h
            refine q_cRz (va_runS (As := [.int x1, .int x2]) (rest := []) ⟨hx, hb, hml, hown, hts⟩ (ct_X5_isIn l hAD (M := M) hc35) (va_cwS 2 hts gX5_stepAll_X5_isIn rfl rfl rfl (by decide +kernel) ⟨Nat.le_of_ble_eq_true rfl, Nat.le_of_ble_eq_true rfl⟩) ⟨gw_blind, gw_pre _ hK hP (Nat.le_trans hz hS.1) hN⟩ rfl rfl hl.1 rfl (lv_room (Nat.le_of_ble_eq_true rfl)) dX5_stepAll_47 ⟨Nat.zero_le _, Nat.zero_le _⟩) (fun hzr36 => ?_)
            refine lv_if_eq (tgt := 61) hx hb dX5_stepAll_50 (by decide) (fun c40 => ?_) (fun c40 => ?_)
            · have h := q_t c40 h
              refine lv_aload hx hb dX5_stepAll_61 (lv_at hl 0 rfl) ?_
              refine lv_ifnonnull (tgt := 91) hx hb dX5_stepAll_63 (by decide) ?_
              refine lv_iload_n hx hb dX5_stepAll_91 rfl (lv_at hl 3 rfl) ?_
              refine lv_aload_n hx hb dX5_stepAll_92 rfl (lv_at hl 1 rfl) ?_
              refine q_getIN hx hb hts hi_X3 hown hK hP (ob_mirror hq6) rfl 0 (by decide) rfl (hN (.fieldLinkNest RX5 223 "MirrorNet$Mirror" "source" "I" "MirrorNet") nw_32) (fun _ h9 => h9) dX5_stepAll_93 ?_
              obtain ⟨r42, hc41, h⟩ := q_bd1 h
              refine q_cRz (va_runS (As := [.int x1, .int (gI M (62 + 2 * q6) 0)]) (rest := []) ⟨hx, hb, hml, hown, hts⟩ (ct_X5_isIn l hAD (M := M) hc41) (va_cwS 2 hts gX5_stepAll_X5_isIn rfl rfl rfl (by decide +kernel) ⟨Nat.le_of_ble_eq_true rfl, Nat.le_of_ble_eq_true rfl⟩) ⟨gw_blind, gw_pre _ hK hP (Nat.le_trans hz hS.1) hN⟩ rfl rfl hl.1 rfl (lv_room (Nat.le_of_ble_eq_true rfl)) dX5_stepAll_96 ⟨Nat.zero_le _, Nat.zero_le _⟩) (fun hzr42 => ?_)
              refine lv_if_ne (tgt := 120) hx hb dX5_stepAll_99 (by decide) (fun c46 => ?_) (fun c46 => ?_)
              · have h := q_f c46 h
                exact B_bk_X5_stepAll_120 M x2 H locs ls  h hP hS (lv_sub hl [2, 3, 4] rfl)
              · have h := q_t c46 h
                refine lv_aload_n hx hb dX5_stepAll_102 rfl (lv_at hl 1 rfl) ?_
                refine lv_aload_n hx hb dX5_stepAll_103 rfl (lv_at hl 2 rfl) ?_
                refine q_getR hx hb hts hi_X5 hown hK hP ob_0 rfl 0 (by decide) rfl (hts (.fieldLink RX5 12 "MirrorNet" "shelf" "LMirrorNet$Shelf;") (by decide +kernel)) (fun _ h9 => h9) dX5_stepAll_104 ?_
                refine lv_aload hx hb dX5_stepAll_107 (lv_at hl 0 rfl) ?_
                refine q_getIN hx hb hts hi_X3 hown hK hP (ob_mirror hq11) rfl 4 (by decide) rfl (hN (.fieldLinkNest RX5 113 "MirrorNet$Mirror" "index" "I" "MirrorNet") nw_34) (fun _ h9 => h9) dX5_stepAll_109 ?_
                refine lv_aload hx hb dX5_stepAll_112 (lv_at hl 0 rfl) ?_
                refine q_getJN hx hb hts hi_X3 hown hK hP (ob_mirror hq11) rfl 6 (by decide) rfl (hN (.fieldLinkNest RX5 119 "MirrorNet$Mirror" "files" "J" "MirrorNet") nw_36) (fun _ h9 => h9) dX5_stepAll_114 ?_
                obtain ⟨M49, hc47, h⟩ := q_bd1 h
                refine q_cWv (va_runVN (C := RX3) (As := [.ref (ad 1), .int (gI M (62 + 2 * q11) 4), .long (gJ M (62 + 2 * q11) 6)]) (rest := []) ⟨hx, hb, hml, hown, hts⟩ (ct_X3_step l hAD (M := M) hq6 hc47) ⟨va_cnB 3 hts gX5_stepAll_X3_step_n234 rfl rfl rfl (hN (.methodLinkNest RX5 234 yX3_step "MirrorNet") nw_45) (hts (.initialized RX3) (by decide +kernel)) (by decide +kernel) ⟨Nat.le_of_ble_eq_true rfl, Nat.le_of_ble_eq_true rfl⟩, hts (.instanceMethod yX3_step) (by decide +kernel), hts (.selects RX3 yX3_step yX3_step) (by decide +kernel)⟩ ⟨gw_blind, gw_recv (ob_mirror hq6) hK hP rfl, gw_pre _ hK hP (Nat.le_trans hz hS.1) hN⟩ rfl rfl hl.1 rfl (lv_room (Nat.le_of_ble_eq_true rfl)) dX5_stepAll_117 ⟨Nat.zero_le _, Nat.zero_le _⟩) hS (fun H locs hP hS => ?_)
                exact B_bk_X5_stepAll_120 M49 x2 H locs ls  h hP hS (lv_sub hl [2, 3, 4] rfl)
            · have h := q_f c40 h
              refine lv_aload_n hx hb dX5_stepAll_53 rfl (lv_at hl 1 rfl) ?_
              refine lv_iconst (v := 0) hx hb dX5_stepAll_54 (by decide) ?_
              obtain ⟨M52, eM52, h⟩ := q_nx h
              refine q_putIN hx hb hts hi_X3 tyX3 tyX3_ok nmX3 hown hK hP hAD hS (ob_mirror hq6) rfl 7 (by decide) rfl (hN (.fieldLinkNest RX5 128 "MirrorNet$Mirror" "done" "I" "MirrorNet") nw_37) (fun _ h9 => h9) rfl (ty := .int) (by decide +kernel) rfl rfl dX5_stepAll_55 (fun H locs hP hS => ?_)
              rw [← eM52] at hP
              refine lv_goto (tgt := 120) hx hb dX5_stepAll_58 (by decide) ?_
              exact B_bk_X5_stepAll_120 M52 x2 H locs ls  h hP hS (lv_sub hl [2, 3, 4] rfl)
  obtain ⟨H, eH⟩ : ∃ H : Heap, H = s.heap := ⟨_, rfl⟩
  obtain ⟨locs, eL⟩ : ∃ L : List Loc, L = [] := ⟨_, rfl⟩
  have hP : va_P D vwCl (wl ad kc nm M) H := by rw [eH]; exact hP
  have hS : va_S (fun q => z ≤ q) s.heap H locs := by rw [eH, eL]; exact hS
  refine q_start eH eL ?_
  refine lv_aload_n hx hb dX5_stepAll_0 rfl (lv_at hl 0 rfl) ?_
  refine q_getR hx hb hts hi_X5 hown hK hP ob_0 rfl 1 (by decide) rfl (hts (.fieldLink RX5 19 "MirrorNet" "falls" "LMirrorNet$Falls;") (by decide +kernel)) (fun _ h9 => h9) dX5_stepAll_1 ?_
  refine lv_aload_n hx hb dX5_stepAll_4 rfl (lv_at hl 0 rfl) ?_
  refine q_getI hx hb hts hi_X5 hown hK hP ob_0 rfl 6 (by decide) rfl (hts (.fieldLink RX5 55 "MirrorNet" "now" "I") (by decide +kernel)) (fun _ h9 => h9) dX5_stepAll_5 ?_
  obtain ⟨r54, hc53, h⟩ := q_bd1 h
  refine q_cRi (va_runVN (C := RX2) (As := [.int (gI M 0 6)]) (rest := []) ⟨hx, hb, hml, hown, hts⟩ (ct_X2_downAt l hAD (M := M) hc53) ⟨va_cnB 1 hts gX5_stepAll_X2_downAt_n134 rfl rfl rfl (hN (.methodLinkNest RX5 134 yX2_downAt "MirrorNet") nw_41) (hts (.initialized RX2) (by decide +kernel)) (by decide +kernel) ⟨Nat.le_of_ble_eq_true rfl, Nat.le_of_ble_eq_true rfl⟩, hts (.instanceMethod yX2_downAt) (by decide +kernel), hts (.selects RX2 yX2_downAt yX2_downAt) (by decide +kernel)⟩ ⟨gw_blind, gw_recv ob_7 hK hP rfl, gw_pre _ hK hP (Nat.le_trans hz hS.1) hN⟩ rfl rfl hl.1 rfl (lv_room (Nat.le_of_ble_eq_true rfl)) dX5_stepAll_8 ⟨Nat.zero_le _, Nat.zero_le _⟩) ?_
  refine lv_istore_n (lv' := [(1, .int r54), (0, .ref (ad 0))]) hx hb dX5_stepAll_11 rfl hl (by decide) rfl (fun ls hl => ?_)
  refine lv_iconst (v := 0) hx hb dX5_stepAll_12 (by decide) ?_
  refine lv_istore_n (lv' := [(2, .int (0 : Int32)), (1, .int r54), (0, .ref (ad 0))]) hx hb dX5_stepAll_13 rfl hl (by decide) rfl (fun ls hl => ?_)
  exact L_lq_X5_stepAll_14 r54 FU M (0 : Int32) H locs ls  h hP hS (lv_sub hl [2, 1, 0] rfl)
def rm_X5_pass : Room := { frames := 6, cells := 0, slots := 0, locals := 142 }
set_option maxHeartbeats 4000000 in
set_option maxRecDepth 100000 in
theorem ct_X5_pass (l : Launch) {D : va_G} {ad : Nat → Nat} {kc : Nat → ClassId} {nm z : Nat} (hAD : AD ad nm z) {M : Mem} {x1 : Int32} {r : Int32} {Mr : Mem}  (h : fn_X5_pass nm M x1 = some (r, Mr)) : Met l yX5_pass wsX5_pass rm_X5_pass (va_Pc [.ref (ad 0), .int x1] (GW D ad kc nm z M)) (QWi D ad kc nm z r Mr) 0 0 (fun q => z ≤ q) := by
  refine q_met (cc := cX5_pass) (maxL := 3) (ret := (some .int)) (by decide) rfl (Nat.le_of_ble_eq_true rfl) ?_
  intro p e s m args below meth c Q ls hx hb hr hlk hml hown hts hB hQ hl
  obtain ⟨hP, hK, hz, hN⟩ := hB
  have hown : s.vm.findClass RX5 = some m.cls := hown
  have hl : lv_has ls 3 [(0, .ref (ad 0)), (1, .int x1)] := hl
  have hi_X5 : ∀ w ∈ u_ws RX5 TX5 8, w ∈ wsX5_pass := by decide +kernel
  have hS : va_S (fun q => z ≤ q) s.heap s.heap [] := va_S.rf
  have L_lq_X5_pass_27 : ∀ (n27 : Nat) (M : Mem) (x2 : Int32) (H : Heap) (locs : List Loc) (ls : Array Slot), it2 (lq_X5_pass_27 nm x1) n27 M x2 = some (r, Mr) → va_P D vwCl (wl ad kc nm M) H → va_S (fun q => z ≤ q) s.heap H locs → lv_has ls 3 [(0, .ref (ad 0)), (1, .int x1), (2, .int x2)] → W p l e rm_X5_pass s m args below meth c H locs 0 0 Q (F0 m 27 ls []) := by
    intro n27
    induction n27 with
    | zero =>
      intro M x2 H locs ls h hP hS hl
      exact (it2_0 h).elim
    | succ n27 ih27 =>
      intro M x2 H locs ls h hP hS hl
      have h := it2_s h
      refine lv_iload_n hx hb dX5_pass_27 rfl (lv_at hl 2 rfl) ?_
      refine lv_iload_n hx hb dX5_pass_28 rfl (lv_at hl 1 rfl) ?_
      refine lv_icmp_ge (tgt := 52) hx hb dX5_pass_29 (by decide) (fun c1 => ?_) (fun c1 => ?_)
      · have h := q_t c1 h
        refine lv_aload_n hx hb dX5_pass_52 rfl (lv_at hl 0 rfl) ?_
        refine q_getI hx hb hts hi_X5 hown hK hP ob_0 rfl 6 (by decide) rfl (hts (.fieldLink RX5 55 "MirrorNet" "now" "I") (by decide +kernel)) (fun _ h9 => h9) dX5_pass_53 ?_
        exact q_rWi hQ hx hb hr hlk hP hS h dX5_pass_56
      · have h := q_f c1 h
        refine lv_aload_n hx hb dX5_pass_32 rfl (lv_at hl 0 rfl) ?_
        obtain ⟨M4, hc2, h⟩ := q_bd1 h
        refine q_cWv (va_runV (C := RX5) (As := []) (rest := []) ⟨hx, hb, hml, hown, hts⟩ (ct_X5_stepAll l hAD (M := M) hc2) (cwV 0 hts gX5_pass_X5_stepAll rfl rfl rfl (by decide +kernel) ⟨Nat.le_of_ble_eq_true rfl, Nat.le_of_ble_eq_true rfl⟩) ⟨gw_blind, gw_recv ob_0 hK hP rfl, gw_pre _ hK hP (Nat.le_trans hz hS.1) hN⟩ rfl rfl hl.1 rfl (lv_room (Nat.le_of_ble_eq_true rfl)) dX5_pass_33 ⟨Nat.zero_le _, Nat.zero_le _⟩) hS (fun H locs hP hS => ?_)
        refine lv_aload_n hx hb dX5_pass_36 rfl (lv_at hl 0 rfl) ?_
        refine lv_dup hx hb dX5_pass_37 rfl ?_
        refine q_getI hx hb hts hi_X5 hown hK hP ob_0 rfl 6 (by decide) rfl (hts (.fieldLink RX5 55 "MirrorNet" "now" "I") (by decide +kernel)) (fun _ h9 => h9) dX5_pass_38 ?_
        refine lv_iconst (v := 1) hx hb dX5_pass_41 (by decide) ?_
        refine lv_iadd hx hb dX5_pass_42 ?_
        obtain ⟨M7, eM7, h⟩ := q_nx h
        refine q_putI hx hb hts hi_X5 tyX5 tyX5_ok nmX5 hown hK hP hAD hS ob_0 rfl 6 (by decide) rfl (hts (.fieldLink RX5 55 "MirrorNet" "now" "I") (by decide +kernel)) (fun _ h9 => h9) rfl (ty := .int) (by decide +kernel) rfl rfl dX5_pass_43 (fun H locs hP hS => ?_)
        rw [← eM7] at hP
        obtain ⟨v8, ev8, h⟩ := q_nx h
        refine lv_iinc (v := v8) (lv' := [(2, .int v8), (0, .ref (ad 0)), (1, .int x1)]) hx hb dX5_pass_46 hl (k := 2) rfl (by rw [ev8]; rfl) (by decide) rfl (fun ls hl => ?_)
        refine lv_goto (tgt := 27) hx hb dX5_pass_49 (by decide) ?_
        exact ih27 M7 v8 H locs ls  h hP hS (lv_sub hl [1, 2, 0] rfl)
  obtain ⟨H, eH⟩ : ∃ H : Heap, H = s.heap := ⟨_, rfl⟩
  obtain ⟨locs, eL⟩ : ∃ L : List Loc, L = [] := ⟨_, rfl⟩
  have hP : va_P D vwCl (wl ad kc nm M) H := by rw [eH]; exact hP
  have hS : va_S (fun q => z ≤ q) s.heap H locs := by rw [eH, eL]; exact hS
  refine q_start eH eL ?_
  refine lv_iload_n hx hb dX5_pass_0 rfl (lv_at hl 1 rfl) ?_
  refine lv_iconst (v := 1) hx hb dX5_pass_1 (by decide) ?_
  refine lv_sipush (v := 500) hx hb dX5_pass_2 (by decide) ?_
  obtain ⟨r10, hc9, h⟩ := q_bd1 h
  refine q_cRz (va_runS (As := [.int x1, .int (1 : Int32), .int (500 : Int32)]) (rest := []) ⟨hx, hb, hml, hown, hts⟩ (ct_X5_isWithin l hAD (M := M) hc9) (va_cwS 3 hts gX5_pass_X5_isWithin rfl rfl rfl (by decide +kernel) ⟨Nat.le_of_ble_eq_true rfl, Nat.le_of_ble_eq_true rfl⟩) ⟨gw_blind, gw_pre _ hK hP (Nat.le_trans hz hS.1) hN⟩ rfl rfl hl.1 rfl (lv_room (Nat.le_of_ble_eq_true rfl)) dX5_pass_5 ⟨Nat.zero_le _, Nat.zero_le _⟩) (fun hzr10 => ?_)
  refine lv_if_eq (tgt := 23) hx hb dX5_pass_8 (by decide) (fun c14 => ?_) (fun c14 => ?_)
  · have h := q_t c14 h
    refine lv_iconst (v := -1) hx hb dX5_pass_23 (by decide) ?_
    exact q_rWi hQ hx hb hr hlk hP hS h dX5_pass_24
  · have h := q_f c14 h
    refine lv_iload_n hx hb dX5_pass_11 rfl (lv_at hl 1 rfl) ?_
    refine lv_sipush (v := 9999) hx hb dX5_pass_12 (by decide) ?_
    refine lv_aload_n hx hb dX5_pass_15 rfl (lv_at hl 0 rfl) ?_
    refine q_getI hx hb hts hi_X5 hown hK hP ob_0 rfl 6 (by decide) rfl (hts (.fieldLink RX5 55 "MirrorNet" "now" "I") (by decide +kernel)) (fun _ h9 => h9) dX5_pass_16 ?_
    refine lv_isub hx hb dX5_pass_19 ?_
    refine lv_icmp_le (tgt := 25) hx hb dX5_pass_20 (by decide) (fun c15 => ?_) (fun c15 => ?_)
    · have h := q_t c15 h
      refine lv_iconst (v := 0) hx hb dX5_pass_25 (by decide) ?_
      refine lv_istore_n (lv' := [(2, .int (0 : Int32)), (0, .ref (ad 0)), (1, .int x1)]) hx hb dX5_pass_26 rfl hl (by decide) rfl (fun ls hl => ?_)
      exact L_lq_X5_pass_27 FU M (0 : Int32) H locs ls  h hP hS (lv_sub hl [1, 2, 0] rfl)
    · have h := q_f c15 h
      refine lv_iconst (v := -1) hx hb dX5_pass_23 (by decide) ?_
      exact q_rWi hQ hx hb hr hlk hP hS h dX5_pass_24
def rm_X5_about : Room := { frames := 4, cells := 0, slots := 0, locals := 87 }
set_option maxHeartbeats 4000000 in
set_option maxRecDepth 100000 in
theorem ct_X5_about (l : Launch) {D : va_G} {ad : Nat → Nat} {kc : Nat → ClassId} {nm z : Nat} (hAD : AD ad nm z) {M : Mem} {x1 : Int32} {x2 : Int32} {r : Int32}  (h : fn_X5_about nm M x1 x2 = some r) : Met l yX5_about wsX5_about rm_X5_about (va_Pc [.ref (ad 0), .int x1, .int x2] (GW D ad kc nm z M)) (QRi r) 0 0 (fun _ => False) := by
  refine q_met (cc := cX5_about) (maxL := 4) (ret := (some .int)) (by decide) rfl (Nat.le_of_ble_eq_true rfl) ?_
  intro p e s m args below meth c Q ls hx hb hr hlk hml hown hts hB hQ hl
  obtain ⟨hP, hK, hz, hN⟩ := hB
  have hown : s.vm.findClass RX5 = some m.cls := hown
  have hl : lv_has ls 4 [(0, .ref (ad 0)), (1, .int x1), (2, .int x2)] := hl
  have hi_X3 : ∀ w ∈ u_ws RX3 TX3 10, w ∈ wsX5_about := by decide +kernel
  have hi_X5 : ∀ w ∈ u_ws RX5 TX5 8, w ∈ wsX5_about := by decide +kernel
  refine lv_aload_n hx hb dX5_about_0 rfl (lv_at hl 0 rfl) ?_
  refine lv_iload_n hx hb dX5_about_1 rfl (lv_at hl 1 rfl) ?_
  obtain ⟨r2, hc1, h⟩ := q_bd1 h
  refine q_cRm (va_runV (C := RX5) (As := [.int x1]) (rest := []) ⟨hx, hb, hml, hown, hts⟩ (ct_X5_mirrorAt l hAD (M := M) hc1) (cwV 1 hts gX5_about_X5_mirrorAt rfl rfl rfl (by decide +kernel) ⟨Nat.le_of_ble_eq_true rfl, Nat.le_of_ble_eq_true rfl⟩) ⟨gw_blind, gw_recv ob_0 hK hP rfl, gw_pre _ hK hP hz hN⟩ rfl rfl hl.1 rfl (lv_room (Nat.le_of_ble_eq_true rfl)) dX5_about_2 ⟨Nat.zero_le _, Nat.zero_le _⟩) (fun ho5 => ?_) (fun q4 ho5 hq4 => ?_)
  · have h := q_ocn ho5 h
    refine lv_astore_nN (lv' := [(3, .null), (0, .ref (ad 0)), (1, .int x1), (2, .int x2)]) hx hb dX5_about_5 rfl hl (by decide) rfl (fun ls hl => ?_)
    refine lv_aload_nN hx hb dX5_about_6 rfl (lv_at hl 0 rfl) ?_
    refine lv_ifnonnullN hx hb dX5_about_7 ?_
    refine lv_iconst (v := -1) hx hb dX5_about_10 (by decide) ?_
    exact q_rRi hQ hx hb hr hlk h dX5_about_11
  · have h := q_ocs ho5 h
    refine lv_astore_n (lv' := [(3, .ref (ad (62 + 2 * q4))), (0, .ref (ad 0)), (1, .int x1), (2, .int x2)]) hx hb dX5_about_5 rfl hl (by decide) rfl (fun ls hl => ?_)
    refine lv_aload_n hx hb dX5_about_6 rfl (lv_at hl 0 rfl) ?_
    refine lv_ifnonnull (tgt := 12) hx hb dX5_about_7 (by decide) ?_
    refine lv_iload_n hx hb dX5_about_12 rfl (lv_at hl 3 rfl) ?_
    by_cases c6 : x2 = (0 : Int32)
    · have h := q_t c6 h
      refine lv_tableIn (off := 51) (tgt := 64) hx hb dX5_about_13 (by rw [c6]; decide) (by rw [c6]; decide) (by rw [c6]; rfl) (by decide) ?_
      refine lv_aload_n hx hb dX5_about_64 rfl (lv_at hl 0 rfl) ?_
      refine q_getIN hx hb hts hi_X3 hown hK hP (ob_mirror hq4) rfl 4 (by decide) rfl (hN (.fieldLinkNest RX5 113 "MirrorNet$Mirror" "index" "I" "MirrorNet") nw_34) (fun _ h9 => h9) dX5_about_65 ?_
      exact q_rRi hQ hx hb hr hlk h dX5_about_68
    have h := q_f c6 h
    by_cases c7 : x2 = (1 : Int32)
    · have h := q_t c7 h
      refine lv_tableIn (off := 56) (tgt := 69) hx hb dX5_about_13 (by rw [c7]; decide) (by rw [c7]; decide) (by rw [c7]; rfl) (by decide) ?_
      refine lv_aload_n hx hb dX5_about_69 rfl (lv_at hl 0 rfl) ?_
      refine q_getIN hx hb hts hi_X3 hown hK hP (ob_mirror hq4) rfl 5 (by decide) rfl (hN (.fieldLinkNest RX5 116 "MirrorNet$Mirror" "target" "I" "MirrorNet") nw_35) (fun _ h9 => h9) dX5_about_70 ?_
      exact q_rRi hQ hx hb hr hlk h dX5_about_73
    have h := q_f c7 h
    by_cases c8 : x2 = (2 : Int32)
    · have h := q_t c8 h
      refine lv_tableIn (off := 61) (tgt := 74) hx hb dX5_about_13 (by rw [c8]; decide) (by rw [c8]; decide) (by rw [c8]; rfl) (by decide) ?_
      refine lv_aload_n hx hb dX5_about_74 rfl (lv_at hl 0 rfl) ?_
      refine q_getJN hx hb hts hi_X3 hown hK hP (ob_mirror hq4) rfl 6 (by decide) rfl (hN (.fieldLinkNest RX5 119 "MirrorNet$Mirror" "files" "J" "MirrorNet") nw_36) (fun _ h9 => h9) dX5_about_75 ?_
      obtain ⟨r10, hc9, h⟩ := q_bd1 h
      refine q_cRi (va_runS (As := [.long (gJ M (62 + 2 * q4) 6)]) (rest := []) ⟨hx, hb, hml, hown, hts⟩ (ct_J13_bitCount_95d88 l hAD (M := M) hc9) (va_cwS 1 hts gX5_about_J13_bitCount_95d88 rfl rfl rfl (by decide +kernel) ⟨Nat.le_of_ble_eq_true rfl, Nat.le_of_ble_eq_true rfl⟩) ⟨gw_blind, gw_pre _ hK hP hz hN⟩ rfl rfl hl.1 rfl (lv_room (Nat.le_of_ble_eq_true rfl)) dX5_about_78 ⟨Nat.zero_le _, Nat.zero_le _⟩) ?_
      exact q_rRi hQ hx hb hr hlk h dX5_about_81
    have h := q_f c8 h
    by_cases c14 : x2 = (3 : Int32)
    · have h := q_t c14 h
      refine lv_tableIn (off := 69) (tgt := 82) hx hb dX5_about_13 (by rw [c14]; decide) (by rw [c14]; decide) (by rw [c14]; rfl) (by decide) ?_
      refine lv_aload_n hx hb dX5_about_82 rfl (lv_at hl 1 rfl) ?_
      refine q_getR hx hb hts hi_X5 hown hK hP ob_0 rfl 0 (by decide) rfl (hts (.fieldLink RX5 12 "MirrorNet" "shelf" "LMirrorNet$Shelf;") (by decide +kernel)) (fun _ h9 => h9) dX5_about_83 ?_
      refine lv_aload_n hx hb dX5_about_86 rfl (lv_at hl 0 rfl) ?_
      refine q_getJN hx hb hts hi_X3 hown hK hP (ob_mirror hq4) rfl 6 (by decide) rfl (hN (.fieldLinkNest RX5 119 "MirrorNet$Mirror" "files" "J" "MirrorNet") nw_36) (fun _ h9 => h9) dX5_about_87 ?_
      obtain ⟨r16, hc15, h⟩ := q_bd1 h
      refine q_cRi (va_runVN (C := RX4) (As := [.long (gJ M (62 + 2 * q4) 6)]) (rest := []) ⟨hx, hb, hml, hown, hts⟩ (ct_X4_bytesOf l hAD (M := M) hc15) ⟨va_cnB 1 hts gX5_about_X4_bytesOf_n86 rfl rfl rfl (hN (.methodLinkNest RX5 86 yX4_bytesOf "MirrorNet") nw_30) (hts (.initialized RX4) (by decide +kernel)) (by decide +kernel) ⟨Nat.le_of_ble_eq_true rfl, Nat.le_of_ble_eq_true rfl⟩, hts (.instanceMethod yX4_bytesOf) (by decide +kernel), hts (.selects RX4 yX4_bytesOf yX4_bytesOf) (by decide +kernel)⟩ ⟨gw_blind, gw_recv ob_1 hK hP rfl, gw_pre _ hK hP hz hN⟩ rfl rfl hl.1 rfl (lv_room (Nat.le_of_ble_eq_true rfl)) dX5_about_90 ⟨Nat.zero_le _, Nat.zero_le _⟩) ?_
      exact q_rRi hQ hx hb hr hlk h dX5_about_93
    have h := q_f c14 h
    by_cases c20 : x2 = (4 : Int32)
    · have h := q_t c20 h
      refine lv_tableIn (off := 81) (tgt := 94) hx hb dX5_about_13 (by rw [c20]; decide) (by rw [c20]; decide) (by rw [c20]; rfl) (by decide) ?_
      refine lv_aload_n hx hb dX5_about_94 rfl (lv_at hl 0 rfl) ?_
      refine q_getIN hx hb hts hi_X3 hown hK hP (ob_mirror hq4) rfl 7 (by decide) rfl (hN (.fieldLinkNest RX5 128 "MirrorNet$Mirror" "done" "I" "MirrorNet") nw_37) (fun _ h9 => h9) dX5_about_95 ?_
      exact q_rRi hQ hx hb hr hlk h dX5_about_98
    have h := q_f c20 h
    by_cases c21 : x2 = (5 : Int32)
    · have h := q_t c21 h
      refine lv_tableIn (off := 86) (tgt := 99) hx hb dX5_about_13 (by rw [c21]; decide) (by rw [c21]; decide) (by rw [c21]; rfl) (by decide) ?_
      refine lv_aload_n hx hb dX5_about_99 rfl (lv_at hl 0 rfl) ?_
      refine q_getIN hx hb hts hi_X3 hown hK hP (ob_mirror hq4) rfl 8 (by decide) rfl (hN (.fieldLinkNest RX5 131 "MirrorNet$Mirror" "taken" "I" "MirrorNet") nw_38) (fun _ h9 => h9) dX5_about_100 ?_
      exact q_rRi hQ hx hb hr hlk h dX5_about_103
    have h := q_f c21 h
    by_cases c22 : x2 = (6 : Int32)
    · have h := q_t c22 h
      refine lv_tableIn (off := 91) (tgt := 104) hx hb dX5_about_13 (by rw [c22]; decide) (by rw [c22]; decide) (by rw [c22]; rfl) (by decide) ?_
      refine lv_aload_n hx hb dX5_about_104 rfl (lv_at hl 1 rfl) ?_
      refine q_getR hx hb hts hi_X5 hown hK hP ob_0 rfl 1 (by decide) rfl (hts (.fieldLink RX5 19 "MirrorNet" "falls" "LMirrorNet$Falls;") (by decide +kernel)) (fun _ h9 => h9) dX5_about_105 ?_
      refine lv_aload_n hx hb dX5_about_108 rfl (lv_at hl 1 rfl) ?_
      refine q_getI hx hb hts hi_X5 hown hK hP ob_0 rfl 6 (by decide) rfl (hts (.fieldLink RX5 55 "MirrorNet" "now" "I") (by decide +kernel)) (fun _ h9 => h9) dX5_about_109 ?_
      obtain ⟨r24, hc23, h⟩ := q_bd1 h
      refine q_cRi (va_runVN (C := RX2) (As := [.int (gI M 0 6)]) (rest := []) ⟨hx, hb, hml, hown, hts⟩ (ct_X2_downAt l hAD (M := M) hc23) ⟨va_cnB 1 hts gX5_about_X2_downAt_n134 rfl rfl rfl (hN (.methodLinkNest RX5 134 yX2_downAt "MirrorNet") nw_41) (hts (.initialized RX2) (by decide +kernel)) (by decide +kernel) ⟨Nat.le_of_ble_eq_true rfl, Nat.le_of_ble_eq_true rfl⟩, hts (.instanceMethod yX2_downAt) (by decide +kernel), hts (.selects RX2 yX2_downAt yX2_downAt) (by decide +kernel)⟩ ⟨gw_blind, gw_recv ob_7 hK hP rfl, gw_pre _ hK hP hz hN⟩ rfl rfl hl.1 rfl (lv_room (Nat.le_of_ble_eq_true rfl)) dX5_about_112 ⟨Nat.zero_le _, Nat.zero_le _⟩) ?_
      refine lv_iload_n hx hb dX5_about_115 rfl (lv_at hl 2 rfl) ?_
      obtain ⟨r29, hc28, h⟩ := q_bd1 h
      refine q_cRz (va_runS (As := [.int r24, .int x1]) (rest := []) ⟨hx, hb, hml, hown, hts⟩ (ct_X5_isIn l hAD (M := M) hc28) (va_cwS 2 hts gX5_about_X5_isIn rfl rfl rfl (by decide +kernel) ⟨Nat.le_of_ble_eq_true rfl, Nat.le_of_ble_eq_true rfl⟩) ⟨gw_blind, gw_pre _ hK hP hz hN⟩ rfl rfl hl.1 rfl (lv_room (Nat.le_of_ble_eq_true rfl)) dX5_about_116 ⟨Nat.zero_le _, Nat.zero_le _⟩) (fun hzr29 => ?_)
      refine lv_if_eq (tgt := 126) hx hb dX5_about_119 (by decide) (fun c33 => ?_) (fun c33 => ?_)
      · have h := q_t c33 h
        refine lv_iconst (v := 0) hx hb dX5_about_126 (by decide) ?_
        exact q_rRi hQ hx hb hr hlk h dX5_about_127
      · have h := q_f c33 h
        refine lv_iconst (v := 1) hx hb dX5_about_122 (by decide) ?_
        refine lv_goto (tgt := 127) hx hb dX5_about_123 (by decide) ?_
        exact q_rRi hQ hx hb hr hlk h dX5_about_127
    have h := q_f c22 h
    by_cases c34 : x2 = (7 : Int32)
    · have h := q_t c34 h
      refine lv_tableIn (off := 115) (tgt := 128) hx hb dX5_about_13 (by rw [c34]; decide) (by rw [c34]; decide) (by rw [c34]; rfl) (by decide) ?_
      refine lv_aload_n hx hb dX5_about_128 rfl (lv_at hl 0 rfl) ?_
      refine q_getIN hx hb hts hi_X3 hown hK hP (ob_mirror hq4) rfl 9 (by decide) rfl (hN (.fieldLinkNest RX5 106 "MirrorNet$Mirror" "isLiar" "Z" "MirrorNet") nw_39) (fun _ h9 => h9) dX5_about_129 ?_
      refine lv_if_eq (tgt := 139) hx hb dX5_about_132 (by decide) (fun c35 => ?_) (fun c35 => ?_)
      · have h := q_t c35 h
        refine lv_iconst (v := 0) hx hb dX5_about_139 (by decide) ?_
        exact q_rRi hQ hx hb hr hlk h dX5_about_140
      · have h := q_f c35 h
        refine lv_iconst (v := 1) hx hb dX5_about_135 (by decide) ?_
        refine lv_goto (tgt := 140) hx hb dX5_about_136 (by decide) ?_
        exact q_rRi hQ hx hb hr hlk h dX5_about_140
    have h := q_f c34 h
    by_cases c36 : x2 = (8 : Int32)
    · have h := q_t c36 h
      refine lv_tableIn (off := 128) (tgt := 141) hx hb dX5_about_13 (by rw [c36]; decide) (by rw [c36]; decide) (by rw [c36]; rfl) (by decide) ?_
      refine lv_aload_n hx hb dX5_about_141 rfl (lv_at hl 0 rfl) ?_
      refine lv_aload_n hx hb dX5_about_142 rfl (lv_at hl 1 rfl) ?_
      refine q_getR hx hb hts hi_X5 hown hK hP ob_0 rfl 0 (by decide) rfl (hts (.fieldLink RX5 12 "MirrorNet" "shelf" "LMirrorNet$Shelf;") (by decide +kernel)) (fun _ h9 => h9) dX5_about_143 ?_
      obtain ⟨r38, hc37, h⟩ := q_bd1 h
      refine q_cRi (va_runVN (C := RX3) (As := [.ref (ad 1)]) (rest := []) ⟨hx, hb, hml, hown, hts⟩ (ct_X3_bytesWanted l hAD (M := M) hq4 hc37) ⟨va_cnB 1 hts gX5_about_X3_bytesWanted_n141 rfl rfl rfl (hN (.methodLinkNest RX5 141 yX3_bytesWanted "MirrorNet") nw_50) (hts (.initialized RX3) (by decide +kernel)) (by decide +kernel) ⟨Nat.le_of_ble_eq_true rfl, Nat.le_of_ble_eq_true rfl⟩, hts (.instanceMethod yX3_bytesWanted) (by decide +kernel), hts (.selects RX3 yX3_bytesWanted yX3_bytesWanted) (by decide +kernel)⟩ ⟨gw_blind, gw_recv (ob_mirror hq4) hK hP rfl, gw_pre _ hK hP hz hN⟩ rfl rfl hl.1 rfl (lv_room (Nat.le_of_ble_eq_true rfl)) dX5_about_146 ⟨Nat.zero_le _, Nat.zero_le _⟩) ?_
      exact q_rRi hQ hx hb hr hlk h dX5_about_149
    have h := q_f c36 h
    refine lv_tableOut (tgt := 150) hx hb dX5_about_13 (by have z0 := lv_neT c6 (a := 0) rfl; have z1 := lv_neT c7 (a := 1) rfl; have z2 := lv_neT c8 (a := 2) rfl; have z3 := lv_neT c14 (a := 3) rfl; have z4 := lv_neT c20 (a := 4) rfl; have z5 := lv_neT c21 (a := 5) rfl; have z6 := lv_neT c22 (a := 6) rfl; have z7 := lv_neT c34 (a := 7) rfl; have z8 := lv_neT c36 (a := 8) rfl; omega) (by decide) ?_
    refine lv_iconst (v := -1) hx hb dX5_about_150 (by decide) ?_
    exact q_rRi hQ hx hb hr hlk h dX5_about_151
