def rm_X5_has : Room := { frames := 3, cells := 0, slots := 0, locals := 63 }
set_option maxHeartbeats 4000000 in
set_option maxRecDepth 100000 in
theorem ct_X5_has (l : Launch) {D : va_G} {ad : Nat → Nat} {kc : Nat → ClassId} {nm z : Nat} (hAD : AD ad nm z) {M : Mem} {x1 : Int32} {x2 : Int32} {r : Int32}  (h : fn_X5_has nm M x1 x2 = some r) : Met l yX5_has wsX5_has rm_X5_has (va_Pc [.ref (ad 0), .int x1, .int x2] (GW D ad kc nm z M)) (QRi r) 0 0 (fun _ => False) := by
  refine q_met (cc := cX5_has) (maxL := 4) (ret := (some .int)) (by decide) rfl (Nat.le_of_ble_eq_true rfl) ?_
  intro p e s m args below meth c Q ls hx hb hr hlk hml hown hts hB hQ hl
  obtain ⟨hP, hK, hz, hN⟩ := hB
  have hown : s.vm.findClass RX5 = some m.cls := hown
  have hl : lv_has ls 4 [(0, .ref (ad 0)), (1, .int x1), (2, .int x2)] := hl
  have hi_X5 : ∀ w ∈ u_ws RX5 TX5 8, w ∈ wsX5_has := by decide +kernel
  refine lv_aload_n hx hb dX5_has_0 rfl (lv_at hl 0 rfl) ?_
  refine lv_iload_n hx hb dX5_has_1 rfl (lv_at hl 1 rfl) ?_
  obtain ⟨r2, hc1, h⟩ := q_bd1 h
  refine q_cRm (va_runV (C := RX5) (As := [.int x1]) (rest := []) ⟨hx, hb, hml, hown, hts⟩ (ct_X5_mirrorAt l hAD (M := M) hc1) (cwV 1 hts gX5_has_X5_mirrorAt rfl rfl rfl (by decide +kernel) ⟨Nat.le_of_ble_eq_true rfl, Nat.le_of_ble_eq_true rfl⟩) ⟨gw_blind, gw_recv ob_0 hK hP rfl, gw_pre _ hK hP hz hN⟩ rfl rfl hl.1 rfl (lv_room (Nat.le_of_ble_eq_true rfl)) dX5_has_2 ⟨Nat.zero_le _, Nat.zero_le _⟩) (fun ho5 => ?_) (fun q4 ho5 hq4 => ?_)
  · have h := q_ocn ho5 h
    refine lv_astore_nN (lv' := [(3, .null), (0, .ref (ad 0)), (1, .int x1), (2, .int x2)]) hx hb dX5_has_5 rfl hl (by decide) rfl (fun ls hl => ?_)
    refine lv_aload_nN hx hb dX5_has_6 rfl (lv_at hl 0 rfl) ?_
    refine lv_ifnullN (tgt := 21) hx hb dX5_has_7 (by decide) ?_
    refine lv_iconst (v := -1) hx hb dX5_has_21 (by decide) ?_
    exact q_rRi hQ hx hb hr hlk h dX5_has_22
  · have h := q_ocs ho5 h
    refine lv_astore_n (lv' := [(3, .ref (ad (62 + 2 * q4))), (0, .ref (ad 0)), (1, .int x1), (2, .int x2)]) hx hb dX5_has_5 rfl hl (by decide) rfl (fun ls hl => ?_)
    refine lv_aload_n hx hb dX5_has_6 rfl (lv_at hl 0 rfl) ?_
    refine lv_ifnull hx hb dX5_has_7 ?_
    refine lv_aload_n hx hb dX5_has_10 rfl (lv_at hl 1 rfl) ?_
    refine q_getR hx hb hts hi_X5 hown hK hP ob_0 rfl 0 (by decide) rfl (hts (.fieldLink RX5 12 "MirrorNet" "shelf" "LMirrorNet$Shelf;") (by decide +kernel)) (fun _ h9 => h9) dX5_has_11 ?_
    refine lv_iload_n hx hb dX5_has_14 rfl (lv_at hl 3 rfl) ?_
    obtain ⟨r7, hc6, h⟩ := q_bd1 h
    refine q_cRz (va_runVN (C := RX4) (As := [.int x2]) (rest := []) ⟨hx, hb, hml, hown, hts⟩ (ct_X4_hasFile l hAD (M := M) hc6) ⟨va_cnB 1 hts gX5_has_X4_hasFile_n145 rfl rfl rfl (hN (.methodLinkNest RX5 145 yX4_hasFile "MirrorNet") nw_52) (hts (.initialized RX4) (by decide +kernel)) (by decide +kernel) ⟨Nat.le_of_ble_eq_true rfl, Nat.le_of_ble_eq_true rfl⟩, hts (.instanceMethod yX4_hasFile) (by decide +kernel), hts (.selects RX4 yX4_hasFile yX4_hasFile) (by decide +kernel)⟩ ⟨gw_blind, gw_recv ob_1 hK hP rfl, gw_pre _ hK hP hz hN⟩ rfl rfl hl.1 rfl (lv_room (Nat.le_of_ble_eq_true rfl)) dX5_has_15 ⟨Nat.zero_le _, Nat.zero_le _⟩) (fun hzr7 => ?_)
    refine lv_if_ne (tgt := 23) hx hb dX5_has_18 (by decide) (fun c11 => ?_) (fun c11 => ?_)
    · have h := q_f c11 h
      refine lv_aload_n hx hb dX5_has_23 rfl (lv_at hl 0 rfl) ?_
      refine lv_iload_n hx hb dX5_has_24 rfl (lv_at hl 3 rfl) ?_
      obtain ⟨r13, hc12, h⟩ := q_bd1 h
      refine q_cRz (va_runVN (C := RX3) (As := [.int x2]) (rest := []) ⟨hx, hb, hml, hown, hts⟩ (ct_X3_holds l hAD (M := M) hq4 hc12) ⟨va_cnB 1 hts gX5_has_X3_holds_n148 rfl rfl rfl (hN (.methodLinkNest RX5 148 yX3_holds "MirrorNet") nw_53) (hts (.initialized RX3) (by decide +kernel)) (by decide +kernel) ⟨Nat.le_of_ble_eq_true rfl, Nat.le_of_ble_eq_true rfl⟩, hts (.instanceMethod yX3_holds) (by decide +kernel), hts (.selects RX3 yX3_holds yX3_holds) (by decide +kernel)⟩ ⟨gw_blind, gw_recv (ob_mirror hq4) hK hP rfl, gw_pre _ hK hP hz hN⟩ rfl rfl hl.1 rfl (lv_room (Nat.le_of_ble_eq_true rfl)) dX5_has_25 ⟨Nat.zero_le _, Nat.zero_le _⟩) (fun hzr13 => ?_)
      refine lv_if_eq (tgt := 35) hx hb dX5_has_28 (by decide) (fun c17 => ?_) (fun c17 => ?_)
      · have h := q_t c17 h
        refine lv_iconst (v := 0) hx hb dX5_has_35 (by decide) ?_
        exact q_rRi hQ hx hb hr hlk h dX5_has_36
      · have h := q_f c17 h
        refine lv_iconst (v := 1) hx hb dX5_has_31 (by decide) ?_
        refine lv_goto (tgt := 36) hx hb dX5_has_32 (by decide) ?_
        exact q_rRi hQ hx hb hr hlk h dX5_has_36
    · have h := q_t c11 h
      refine lv_iconst (v := -1) hx hb dX5_has_21 (by decide) ?_
      exact q_rRi hQ hx hb hr hlk h dX5_has_22
def rm_X5_askerAt : Room := { frames := 1, cells := 0, slots := 0, locals := 22 }
set_option maxHeartbeats 4000000 in
set_option maxRecDepth 100000 in
theorem ct_X5_askerAt (l : Launch) {D : va_G} {ad : Nat → Nat} {kc : Nat → ClassId} {nm z : Nat} (hAD : AD ad nm z) {M : Mem} {x1 : Int32} {r : Option Nat}  (h : fn_X5_askerAt nm M x1 = some r) : Met l yX5_askerAt wsX5_askerAt rm_X5_askerAt (va_Pc [.ref (ad 0), .int x1] (GW D ad kc nm z M)) (QRa ad r) 0 0 (fun _ => False) := by
  refine q_met (cc := cX5_askerAt) (maxL := 2) (ret := (some (.object "MirrorNet$Asker"))) (by decide) rfl (Nat.le_of_ble_eq_true rfl) ?_
  intro p e s m args below meth c Q ls hx hb hr hlk hml hown hts hB hQ hl
  obtain ⟨hP, hK, hz, hN⟩ := hB
  have hown : s.vm.findClass RX5 = some m.cls := hown
  have hl : lv_has ls 2 [(0, .ref (ad 0)), (1, .int x1)] := hl
  have hi_X5 : ∀ w ∈ u_ws RX5 TX5 8, w ∈ wsX5_askerAt := by decide +kernel
  refine lv_iload_n hx hb dX5_askerAt_0 rfl (lv_at hl 1 rfl) ?_
  refine lv_iconst (v := 0) hx hb dX5_askerAt_1 (by decide) ?_
  refine lv_iconst (v := 5) hx hb dX5_askerAt_2 (by decide) ?_
  obtain ⟨r2, hc1, h⟩ := q_bd1 h
  refine q_cRz (va_runS (As := [.int x1, .int (0 : Int32), .int (5 : Int32)]) (rest := []) ⟨hx, hb, hml, hown, hts⟩ (ct_X5_isWithin l hAD (M := M) hc1) (va_cwS 3 hts gX5_askerAt_X5_isWithin rfl rfl rfl (by decide +kernel) ⟨Nat.le_of_ble_eq_true rfl, Nat.le_of_ble_eq_true rfl⟩) ⟨gw_blind, gw_pre _ hK hP hz hN⟩ rfl rfl hl.1 rfl (lv_room (Nat.le_of_ble_eq_true rfl)) dX5_askerAt_3 ⟨Nat.zero_le _, Nat.zero_le _⟩) (fun hzr2 => ?_)
  refine lv_if_eq (tgt := 18) hx hb dX5_askerAt_6 (by decide) (fun c6 => ?_) (fun c6 => ?_)
  · have h := q_t c6 h
    refine lv_null hx hb dX5_askerAt_18 ?_
    exact q_rRaN hQ hx hb hr hlk h dX5_askerAt_19
  · have h := q_f c6 h
    refine lv_aload_n hx hb dX5_askerAt_9 rfl (lv_at hl 0 rfl) ?_
    refine q_getR hx hb hts hi_X5 hown hK hP ob_0 rfl 3 (by decide) rfl (hts (.fieldLink RX5 31 "MirrorNet" "askers" "[LMirrorNet$Asker;") (by decide +kernel)) (fun _ h9 => h9) dX5_askerAt_10 ?_
    refine lv_iload_n hx hb dX5_askerAt_13 rfl (lv_at hl 1 rfl) ?_
    obtain ⟨hk7, h⟩ := q_ck h
    refine q_aldA hx hb hK hP ar_12 hk7 dX5_askerAt_14 ?_
    refine lv_goto (tgt := 19) hx hb dX5_askerAt_15 (by decide) ?_
    exact q_rRaS hQ hx hb hr hlk h (ok_lt hk7) dX5_askerAt_19
def rm_X5_cost : Room := { frames := 2, cells := 0, slots := 0, locals := 44 }
set_option maxHeartbeats 4000000 in
set_option maxRecDepth 100000 in
theorem ct_X5_cost (l : Launch) {D : va_G} {ad : Nat → Nat} {kc : Nat → ClassId} {nm z : Nat} (hAD : AD ad nm z) {M : Mem} {x1 : Int32} {x2 : Int32} {x3 : Int32} {r : Int32} {Mr : Mem}  (h : fn_X5_cost nm M x1 x2 x3 = some (r, Mr)) : Met l yX5_cost wsX5_cost rm_X5_cost (va_Pc [.ref (ad 0), .int x1, .int x2, .int x3] (GW D ad kc nm z M)) (QWi D ad kc nm z r Mr) 0 0 (fun q => z ≤ q) := by
  refine q_met (cc := cX5_cost) (maxL := 6) (ret := (some .int)) (by decide) rfl (Nat.le_of_ble_eq_true rfl) ?_
  intro p e s m args below meth c Q ls hx hb hr hlk hml hown hts hB hQ hl
  obtain ⟨hP, hK, hz, hN⟩ := hB
  have hown : s.vm.findClass RX5 = some m.cls := hown
  have hl : lv_has ls 6 [(0, .ref (ad 0)), (1, .int x1), (2, .int x2), (3, .int x3)] := hl
  have hS : va_S (fun q => z ≤ q) s.heap s.heap [] := va_S.rf
  have B_bk_X5_cost_30 : ∀ (M : Mem) (H : Heap) (locs : List Loc) (ls : Array Slot), bk_X5_cost_30 nm M = some (r, Mr) → va_P D vwCl (wl ad kc nm M) H → va_S (fun q => z ≤ q) s.heap H locs → lv_has ls 6 [] → W p l e rm_X5_cost s m args below meth c H locs 0 0 Q (F0 m 30 ls []) := by
    intro M H locs ls h hP hS hl
    refine lv_bipush (v := -2) hx hb dX5_cost_30 (by decide) ?_
    exact q_rWi hQ hx hb hr hlk hP hS h dX5_cost_32
  obtain ⟨H, eH⟩ : ∃ H : Heap, H = s.heap := ⟨_, rfl⟩
  obtain ⟨locs, eL⟩ : ∃ L : List Loc, L = [] := ⟨_, rfl⟩
  have hP : va_P D vwCl (wl ad kc nm M) H := by rw [eH]; exact hP
  have hS : va_S (fun q => z ≤ q) s.heap H locs := by rw [eH, eL]; exact hS
  refine q_start eH eL ?_
  refine lv_aload_n hx hb dX5_cost_0 rfl (lv_at hl 0 rfl) ?_
  refine lv_iload_n hx hb dX5_cost_1 rfl (lv_at hl 1 rfl) ?_
  obtain ⟨r2, hc1, h⟩ := q_bd1 h
  refine q_cRa (va_runV (C := RX5) (As := [.int x1]) (rest := []) ⟨hx, hb, hml, hown, hts⟩ (ct_X5_askerAt l hAD (M := M) hc1) (cwV 1 hts gX5_cost_X5_askerAt rfl rfl rfl (by decide +kernel) ⟨Nat.le_of_ble_eq_true rfl, Nat.le_of_ble_eq_true rfl⟩) ⟨gw_blind, gw_recv ob_0 hK hP rfl, gw_pre _ hK hP (Nat.le_trans hz hS.1) hN⟩ rfl rfl hl.1 rfl (lv_room (Nat.le_of_ble_eq_true rfl)) dX5_cost_2 ⟨Nat.zero_le _, Nat.zero_le _⟩) (fun ho5 => ?_) (fun q4 ho5 hq4 => ?_)
  · have h := q_ocn ho5 h
    refine lv_astoreN (lv' := [(4, .null), (0, .ref (ad 0)), (1, .int x1), (2, .int x2), (3, .int x3)]) hx hb dX5_cost_5 hl (by decide) rfl (fun ls hl => ?_)
    refine lv_aloadN hx hb dX5_cost_7 (lv_at hl 0 rfl) ?_
    refine lv_ifnullN (tgt := 30) hx hb dX5_cost_9 (by decide) ?_
    exact B_bk_X5_cost_30 M H locs ls  h hP hS (lv_sub hl [] rfl)
  · have h := q_ocs ho5 h
    refine lv_astore (lv' := [(4, .ref (ad (13 + 3 * q4))), (0, .ref (ad 0)), (1, .int x1), (2, .int x2), (3, .int x3)]) hx hb dX5_cost_5 hl (by decide) rfl (fun ls hl => ?_)
    refine lv_aload hx hb dX5_cost_7 (lv_at hl 0 rfl) ?_
    refine lv_ifnull hx hb dX5_cost_9 ?_
    refine lv_aload_n hx hb dX5_cost_12 rfl (lv_at hl 1 rfl) ?_
    refine lv_iload_n hx hb dX5_cost_13 rfl (lv_at hl 3 rfl) ?_
    obtain ⟨r7, hc6, h⟩ := q_bd1 h
    refine q_cRm (va_runV (C := RX5) (As := [.int x2]) (rest := []) ⟨hx, hb, hml, hown, hts⟩ (ct_X5_mirrorAt l hAD (M := M) hc6) (cwV 1 hts gX5_cost_X5_mirrorAt rfl rfl rfl (by decide +kernel) ⟨Nat.le_of_ble_eq_true rfl, Nat.le_of_ble_eq_true rfl⟩) ⟨gw_blind, gw_recv ob_0 hK hP rfl, gw_pre _ hK hP (Nat.le_trans hz hS.1) hN⟩ rfl rfl hl.1 rfl (lv_room (Nat.le_of_ble_eq_true rfl)) dX5_cost_14 ⟨Nat.zero_le _, Nat.zero_le _⟩) (fun ho10 => ?_) (fun q9 ho10 hq9 => ?_)
    · have h := q_ocn ho10 h
      refine lv_ifnullN (tgt := 30) hx hb dX5_cost_17 (by decide) ?_
      exact B_bk_X5_cost_30 M H locs ls  h hP hS (lv_sub hl [] rfl)
    · have h := q_ocs ho10 h
      refine lv_ifnull hx hb dX5_cost_17 ?_
      refine lv_iload_n hx hb dX5_cost_20 rfl (lv_at hl 4 rfl) ?_
      refine lv_iconst (v := -1) hx hb dX5_cost_21 (by decide) ?_
      refine lv_bipush (v := 100) hx hb dX5_cost_22 (by decide) ?_
      obtain ⟨r12, hc11, h⟩ := q_bd1 h
      refine q_cRz (va_runS (As := [.int x3, .int (-1 : Int32), .int (100 : Int32)]) (rest := []) ⟨hx, hb, hml, hown, hts⟩ (ct_X5_isWithin l hAD (M := M) hc11) (va_cwS 3 hts gX5_cost_X5_isWithin rfl rfl rfl (by decide +kernel) ⟨Nat.le_of_ble_eq_true rfl, Nat.le_of_ble_eq_true rfl⟩) ⟨gw_blind, gw_pre _ hK hP (Nat.le_trans hz hS.1) hN⟩ rfl rfl hl.1 rfl (lv_room (Nat.le_of_ble_eq_true rfl)) dX5_cost_24 ⟨Nat.zero_le _, Nat.zero_le _⟩) (fun hzr12 => ?_)
      refine lv_if_ne (tgt := 33) hx hb dX5_cost_27 (by decide) (fun c16 => ?_) (fun c16 => ?_)
      · have h := q_f c16 h
        refine lv_aload hx hb dX5_cost_33 (lv_at hl 0 rfl) ?_
        refine lv_iload_n hx hb dX5_cost_35 rfl (lv_at hl 3 rfl) ?_
        obtain ⟨r18, hc17, h⟩ := q_bd1 h
        refine q_cRi (va_runVN (C := RX0) (As := [.int x2]) (rest := []) ⟨hx, hb, hml, hown, hts⟩ (ct_X0_costOf l hAD (M := M) hq4 hc17) ⟨va_cnB 1 hts gX5_cost_X0_costOf_n155 rfl rfl rfl (hN (.methodLinkNest RX5 155 yX0_costOf "MirrorNet") nw_54) (hts (.initialized RX0) (by decide +kernel)) (by decide +kernel) ⟨Nat.le_of_ble_eq_true rfl, Nat.le_of_ble_eq_true rfl⟩, hts (.instanceMethod yX0_costOf) (by decide +kernel), hts (.selects RX0 yX0_costOf yX0_costOf) (by decide +kernel)⟩ ⟨gw_blind, gw_recv (ob_asker hq4) hK hP rfl, gw_pre _ hK hP (Nat.le_trans hz hS.1) hN⟩ rfl rfl hl.1 rfl (lv_room (Nat.le_of_ble_eq_true rfl)) dX5_cost_36 ⟨Nat.zero_le _, Nat.zero_le _⟩) ?_
        refine lv_istore (lv' := [(5, .int r18), (4, .ref (ad (13 + 3 * q4))), (0, .ref (ad 0)), (1, .int x1), (2, .int x2), (3, .int x3)]) hx hb dX5_cost_39 hl (by decide) rfl (fun ls hl => ?_)
        refine lv_aload hx hb dX5_cost_41 (lv_at hl 1 rfl) ?_
        refine lv_iload_n hx hb dX5_cost_43 rfl (lv_at hl 4 rfl) ?_
        refine lv_iload_n hx hb dX5_cost_44 rfl (lv_at hl 5 rfl) ?_
        obtain ⟨M24, hc22, h⟩ := q_bd1 h
        refine q_cWv (va_runVN (C := RX0) (As := [.int x2, .int x3]) (rest := []) ⟨hx, hb, hml, hown, hts⟩ (ct_X0_setCost l hAD (M := M) hq4 hc22) ⟨va_cnB 2 hts gX5_cost_X0_setCost_n158 rfl rfl rfl (hN (.methodLinkNest RX5 158 yX0_setCost "MirrorNet") nw_56) (hts (.initialized RX0) (by decide +kernel)) (by decide +kernel) ⟨Nat.le_of_ble_eq_true rfl, Nat.le_of_ble_eq_true rfl⟩, hts (.instanceMethod yX0_setCost) (by decide +kernel), hts (.selects RX0 yX0_setCost yX0_setCost) (by decide +kernel)⟩ ⟨gw_blind, gw_recv (ob_asker hq4) hK hP rfl, gw_pre _ hK hP (Nat.le_trans hz hS.1) hN⟩ rfl rfl hl.1 rfl (lv_room (Nat.le_of_ble_eq_true rfl)) dX5_cost_45 ⟨Nat.zero_le _, Nat.zero_le _⟩) hS (fun H locs hP hS => ?_)
        refine lv_iload hx hb dX5_cost_48 (lv_at hl 0 rfl) ?_
        exact q_rWi hQ hx hb hr hlk hP hS h dX5_cost_50
      · have h := q_t c16 h
        exact B_bk_X5_cost_30 M H locs ls  h hP hS (lv_sub hl [] rfl)
def rm_X5_bears : Room := { frames := 2, cells := 0, slots := 0, locals := 43 }
set_option maxHeartbeats 4000000 in
set_option maxRecDepth 100000 in
theorem ct_X5_bears (l : Launch) {D : va_G} {ad : Nat → Nat} {kc : Nat → ClassId} {nm z : Nat} (hAD : AD ad nm z) {M : Mem} {x1 : Int32} {x2 : Int32} {r : Int32} {Mr : Mem}  (h : fn_X5_bears nm M x1 x2 = some (r, Mr)) : Met l yX5_bears wsX5_bears rm_X5_bears (va_Pc [.ref (ad 0), .int x1, .int x2] (GW D ad kc nm z M)) (QWi D ad kc nm z r Mr) 0 0 (fun q => z ≤ q) := by
  refine q_met (cc := cX5_bears) (maxL := 5) (ret := (some .int)) (by decide) rfl (Nat.le_of_ble_eq_true rfl) ?_
  intro p e s m args below meth c Q ls hx hb hr hlk hml hown hts hB hQ hl
  obtain ⟨hP, hK, hz, hN⟩ := hB
  have hown : s.vm.findClass RX5 = some m.cls := hown
  have hl : lv_has ls 5 [(0, .ref (ad 0)), (1, .int x1), (2, .int x2)] := hl
  have hi_X0 : ∀ w ∈ u_ws RX0 TX0 6, w ∈ wsX5_bears := by decide +kernel
  have hS : va_S (fun q => z ≤ q) s.heap s.heap [] := va_S.rf
  obtain ⟨H, eH⟩ : ∃ H : Heap, H = s.heap := ⟨_, rfl⟩
  obtain ⟨locs, eL⟩ : ∃ L : List Loc, L = [] := ⟨_, rfl⟩
  have hP : va_P D vwCl (wl ad kc nm M) H := by rw [eH]; exact hP
  have hS : va_S (fun q => z ≤ q) s.heap H locs := by rw [eH, eL]; exact hS
  refine q_start eH eL ?_
  refine lv_aload_n hx hb dX5_bears_0 rfl (lv_at hl 0 rfl) ?_
  refine lv_iload_n hx hb dX5_bears_1 rfl (lv_at hl 1 rfl) ?_
  obtain ⟨r2, hc1, h⟩ := q_bd1 h
  refine q_cRa (va_runV (C := RX5) (As := [.int x1]) (rest := []) ⟨hx, hb, hml, hown, hts⟩ (ct_X5_askerAt l hAD (M := M) hc1) (cwV 1 hts gX5_bears_X5_askerAt rfl rfl rfl (by decide +kernel) ⟨Nat.le_of_ble_eq_true rfl, Nat.le_of_ble_eq_true rfl⟩) ⟨gw_blind, gw_recv ob_0 hK hP rfl, gw_pre _ hK hP (Nat.le_trans hz hS.1) hN⟩ rfl rfl hl.1 rfl (lv_room (Nat.le_of_ble_eq_true rfl)) dX5_bears_2 ⟨Nat.zero_le _, Nat.zero_le _⟩) (fun ho5 => ?_) (fun q4 ho5 hq4 => ?_)
  · have h := q_ocn ho5 h
    refine lv_astore_nN (lv' := [(3, .null), (0, .ref (ad 0)), (1, .int x1), (2, .int x2)]) hx hb dX5_bears_5 rfl hl (by decide) rfl (fun ls hl => ?_)
    refine lv_aload_nN hx hb dX5_bears_6 rfl (lv_at hl 0 rfl) ?_
    refine lv_ifnullN (tgt := 21) hx hb dX5_bears_7 (by decide) ?_
    refine lv_iconst (v := -1) hx hb dX5_bears_21 (by decide) ?_
    exact q_rWi hQ hx hb hr hlk hP hS h dX5_bears_22
  · have h := q_ocs ho5 h
    refine lv_astore_n (lv' := [(3, .ref (ad (13 + 3 * q4))), (0, .ref (ad 0)), (1, .int x1), (2, .int x2)]) hx hb dX5_bears_5 rfl hl (by decide) rfl (fun ls hl => ?_)
    refine lv_aload_n hx hb dX5_bears_6 rfl (lv_at hl 0 rfl) ?_
    refine lv_ifnull hx hb dX5_bears_7 ?_
    refine lv_iload_n hx hb dX5_bears_10 rfl (lv_at hl 3 rfl) ?_
    refine lv_iconst (v := 0) hx hb dX5_bears_11 (by decide) ?_
    refine lv_sipush (v := 9999) hx hb dX5_bears_12 (by decide) ?_
    obtain ⟨r7, hc6, h⟩ := q_bd1 h
    refine q_cRz (va_runS (As := [.int x2, .int (0 : Int32), .int (9999 : Int32)]) (rest := []) ⟨hx, hb, hml, hown, hts⟩ (ct_X5_isWithin l hAD (M := M) hc6) (va_cwS 3 hts gX5_bears_X5_isWithin rfl rfl rfl (by decide +kernel) ⟨Nat.le_of_ble_eq_true rfl, Nat.le_of_ble_eq_true rfl⟩) ⟨gw_blind, gw_pre _ hK hP (Nat.le_trans hz hS.1) hN⟩ rfl rfl hl.1 rfl (lv_room (Nat.le_of_ble_eq_true rfl)) dX5_bears_15 ⟨Nat.zero_le _, Nat.zero_le _⟩) (fun hzr7 => ?_)
    refine lv_if_ne (tgt := 23) hx hb dX5_bears_18 (by decide) (fun c11 => ?_) (fun c11 => ?_)
    · have h := q_f c11 h
      refine lv_aload_n hx hb dX5_bears_23 rfl (lv_at hl 0 rfl) ?_
      refine q_getIN hx hb hts hi_X0 hown hK hP (ob_asker hq4) rfl 3 (by decide) rfl (hN (.fieldLinkNest RX5 162 "MirrorNet$Asker" "mostAge" "I" "MirrorNet") nw_8) (fun _ h9 => h9) dX5_bears_24 ?_
      refine lv_topi (fun v12 ev12 => ?_)
      have h := q_nxe ev12 h
      refine lv_istore (lv' := [(4, .int v12), (3, .ref (ad (13 + 3 * q4))), (0, .ref (ad 0)), (1, .int x1), (2, .int x2)]) hx hb dX5_bears_27 hl (by decide) rfl (fun ls hl => ?_)
      refine lv_aload_n hx hb dX5_bears_29 rfl (lv_at hl 1 rfl) ?_
      refine lv_iload_n hx hb dX5_bears_30 rfl (lv_at hl 4 rfl) ?_
      obtain ⟨M13, eM13, h⟩ := q_nx h
      refine q_putIN hx hb hts hi_X0 tyX0 tyX0_ok nmX0 hown hK hP hAD hS (ob_asker hq4) rfl 3 (by decide) rfl (hN (.fieldLinkNest RX5 162 "MirrorNet$Asker" "mostAge" "I" "MirrorNet") nw_8) (fun _ h9 => h9) rfl (ty := .int) (by decide +kernel) rfl rfl dX5_bears_31 (fun H locs hP hS => ?_)
      rw [← eM13] at hP
      refine lv_iload hx hb dX5_bears_34 (lv_at hl 0 rfl) ?_
      exact q_rWi hQ hx hb hr hlk hP hS h dX5_bears_36
    · have h := q_t c11 h
      refine lv_iconst (v := -1) hx hb dX5_bears_21 (by decide) ?_
      exact q_rWi hQ hx hb hr hlk hP hS h dX5_bears_22
def rm_X5_grace : Room := { frames := 1, cells := 0, slots := 0, locals := 22 }
set_option maxHeartbeats 4000000 in
set_option maxRecDepth 100000 in
theorem ct_X5_grace (l : Launch) {D : va_G} {ad : Nat → Nat} {kc : Nat → ClassId} {nm z : Nat} (hAD : AD ad nm z) {M : Mem} {x1 : Int32} {r : Int32} {Mr : Mem}  (h : fn_X5_grace M x1 = some (r, Mr)) : Met l yX5_grace wsX5_grace rm_X5_grace (va_Pc [.ref (ad 0), .int x1] (GW D ad kc nm z M)) (QWi D ad kc nm z r Mr) 0 0 (fun q => z ≤ q) := by
  refine q_met (cc := cX5_grace) (maxL := 3) (ret := (some .int)) (by decide) rfl (Nat.le_of_ble_eq_true rfl) ?_
  intro p e s m args below meth c Q ls hx hb hr hlk hml hown hts hB hQ hl
  obtain ⟨hP, hK, hz, hN⟩ := hB
  have hown : s.vm.findClass RX5 = some m.cls := hown
  have hl : lv_has ls 3 [(0, .ref (ad 0)), (1, .int x1)] := hl
  have hi_X5 : ∀ w ∈ u_ws RX5 TX5 8, w ∈ wsX5_grace := by decide +kernel
  have hS : va_S (fun q => z ≤ q) s.heap s.heap [] := va_S.rf
  obtain ⟨H, eH⟩ : ∃ H : Heap, H = s.heap := ⟨_, rfl⟩
  obtain ⟨locs, eL⟩ : ∃ L : List Loc, L = [] := ⟨_, rfl⟩
  have hP : va_P D vwCl (wl ad kc nm M) H := by rw [eH]; exact hP
  have hS : va_S (fun q => z ≤ q) s.heap H locs := by rw [eH, eL]; exact hS
  refine q_start eH eL ?_
  refine lv_iload_n hx hb dX5_grace_0 rfl (lv_at hl 1 rfl) ?_
  refine lv_iconst (v := 0) hx hb dX5_grace_1 (by decide) ?_
  refine lv_sipush (v := 9999) hx hb dX5_grace_2 (by decide) ?_
  obtain ⟨r2, hc1, h⟩ := q_bd1 h
  refine q_cRz (va_runS (As := [.int x1, .int (0 : Int32), .int (9999 : Int32)]) (rest := []) ⟨hx, hb, hml, hown, hts⟩ (ct_X5_isWithin l hAD (M := M) hc1) (va_cwS 3 hts gX5_grace_X5_isWithin rfl rfl rfl (by decide +kernel) ⟨Nat.le_of_ble_eq_true rfl, Nat.le_of_ble_eq_true rfl⟩) ⟨gw_blind, gw_pre _ hK hP (Nat.le_trans hz hS.1) hN⟩ rfl rfl hl.1 rfl (lv_room (Nat.le_of_ble_eq_true rfl)) dX5_grace_5 ⟨Nat.zero_le _, Nat.zero_le _⟩) (fun hzr2 => ?_)
  refine lv_if_ne (tgt := 13) hx hb dX5_grace_8 (by decide) (fun c6 => ?_) (fun c6 => ?_)
  · have h := q_f c6 h
    refine lv_aload_n hx hb dX5_grace_13 rfl (lv_at hl 0 rfl) ?_
    refine q_getI hx hb hts hi_X5 hown hK hP ob_0 rfl 7 (by decide) rfl (hts (.fieldLink RX5 43 "MirrorNet" "graceTicks" "I") (by decide +kernel)) (fun _ h9 => h9) dX5_grace_14 ?_
    refine lv_topi (fun v7 ev7 => ?_)
    have h := q_nxe ev7 h
    refine lv_istore_n (lv' := [(2, .int v7), (0, .ref (ad 0)), (1, .int x1)]) hx hb dX5_grace_17 rfl hl (by decide) rfl (fun ls hl => ?_)
    refine lv_aload_n hx hb dX5_grace_18 rfl (lv_at hl 1 rfl) ?_
    refine lv_iload_n hx hb dX5_grace_19 rfl (lv_at hl 2 rfl) ?_
    obtain ⟨M8, eM8, h⟩ := q_nx h
    refine q_putI hx hb hts hi_X5 tyX5 tyX5_ok nmX5 hown hK hP hAD hS ob_0 rfl 7 (by decide) rfl (hts (.fieldLink RX5 43 "MirrorNet" "graceTicks" "I") (by decide +kernel)) (fun _ h9 => h9) rfl (ty := .int) (by decide +kernel) rfl rfl dX5_grace_20 (fun H locs hP hS => ?_)
    rw [← eM8] at hP
    refine lv_iload_n hx hb dX5_grace_23 rfl (lv_at hl 0 rfl) ?_
    exact q_rWi hQ hx hb hr hlk hP hS h dX5_grace_24
  · have h := q_t c6 h
    refine lv_iconst (v := -1) hx hb dX5_grace_11 (by decide) ?_
    exact q_rWi hQ hx hb hr hlk hP hS h dX5_grace_12
def rm_J6_bitCount_0f7a4 : Room := { frames := 0, cells := 0, slots := 0, locals := 0 }
set_option maxHeartbeats 4000000 in
set_option maxRecDepth 100000 in
theorem ct_J6_bitCount_0f7a4 (l : Launch) {D : va_G} {ad : Nat → Nat} {kc : Nat → ClassId} {nm z : Nat} (hAD : AD ad nm z) {M : Mem} {x0 : Int32} {r : Int32}  (h : fn_J6_bitCount_0f7a4 x0 = some r) : Met l yJ6_bitCount_0f7a4 wsJ6_bitCount_0f7a4 rm_J6_bitCount_0f7a4 (va_Pc [.int x0] (GW D ad kc nm z M)) (QRi r) 0 0 (fun _ => False) := by
  refine q_met (cc := cJ6_bitCount_0f7a4) (maxL := 1) (ret := (some .int)) (by decide) rfl (Nat.le_of_ble_eq_true rfl) ?_
  intro p e s m args below meth c Q ls hx hb hr hlk hml hown hts hB hQ hl
  obtain ⟨hP, hK, hz, hN⟩ := hB
  have hown : s.vm.findClass RJ6 = some m.cls := hown
  have hl : lv_has ls 1 [(0, .int x0)] := hl
  refine lv_iload_n hx hb dJ6_bitCount_0f7a4_0 rfl (lv_at hl 0 rfl) ?_
  refine lv_iload_n hx hb dJ6_bitCount_0f7a4_1 rfl (lv_at hl 0 rfl) ?_
  refine lv_iconst (v := 1) hx hb dJ6_bitCount_0f7a4_2 (by decide) ?_
  refine lv_iushr hx hb dJ6_bitCount_0f7a4_3 rfl ?_
  refine lv_ldcw (v := 1431655765) hx hb hown (hts (.constant RJ6 265 (1431655765)) (by decide +kernel)) dJ6_bitCount_0f7a4_4 ?_
  refine lv_iand hx hb dJ6_bitCount_0f7a4_7 ?_
  refine lv_isub hx hb dJ6_bitCount_0f7a4_8 ?_
  refine lv_topi (fun v1 ev1 => ?_)
  have h := q_nxe ev1 h
  refine lv_istore_n (lv' := [(0, .int v1)]) hx hb dJ6_bitCount_0f7a4_9 rfl hl (by decide) rfl (fun ls hl => ?_)
  refine lv_iload_n hx hb dJ6_bitCount_0f7a4_10 rfl (lv_at hl 0 rfl) ?_
  refine lv_ldcw (v := 858993459) hx hb hown (hts (.constant RJ6 266 (858993459)) (by decide +kernel)) dJ6_bitCount_0f7a4_11 ?_
  refine lv_iand hx hb dJ6_bitCount_0f7a4_14 ?_
  refine lv_iload_n hx hb dJ6_bitCount_0f7a4_15 rfl (lv_at hl 0 rfl) ?_
  refine lv_iconst (v := 2) hx hb dJ6_bitCount_0f7a4_16 (by decide) ?_
  refine lv_iushr hx hb dJ6_bitCount_0f7a4_17 rfl ?_
  refine lv_ldcw (v := 858993459) hx hb hown (hts (.constant RJ6 266 (858993459)) (by decide +kernel)) dJ6_bitCount_0f7a4_18 ?_
  refine lv_iand hx hb dJ6_bitCount_0f7a4_21 ?_
  refine lv_iadd hx hb dJ6_bitCount_0f7a4_22 ?_
  refine lv_topi (fun v2 ev2 => ?_)
  have h := q_nxe ev2 h
  refine lv_istore_n (lv' := [(0, .int v2)]) hx hb dJ6_bitCount_0f7a4_23 rfl hl (by decide) rfl (fun ls hl => ?_)
  refine lv_iload_n hx hb dJ6_bitCount_0f7a4_24 rfl (lv_at hl 0 rfl) ?_
  refine lv_iload_n hx hb dJ6_bitCount_0f7a4_25 rfl (lv_at hl 0 rfl) ?_
  refine lv_iconst (v := 4) hx hb dJ6_bitCount_0f7a4_26 (by decide) ?_
  refine lv_iushr hx hb dJ6_bitCount_0f7a4_27 rfl ?_
  refine lv_iadd hx hb dJ6_bitCount_0f7a4_28 ?_
  refine lv_ldcw (v := 252645135) hx hb hown (hts (.constant RJ6 267 (252645135)) (by decide +kernel)) dJ6_bitCount_0f7a4_29 ?_
  refine lv_iand hx hb dJ6_bitCount_0f7a4_32 ?_
  refine lv_topi (fun v3 ev3 => ?_)
  have h := q_nxe ev3 h
  refine lv_istore_n (lv' := [(0, .int v3)]) hx hb dJ6_bitCount_0f7a4_33 rfl hl (by decide) rfl (fun ls hl => ?_)
  refine lv_iload_n hx hb dJ6_bitCount_0f7a4_34 rfl (lv_at hl 0 rfl) ?_
  refine lv_iload_n hx hb dJ6_bitCount_0f7a4_35 rfl (lv_at hl 0 rfl) ?_
  refine lv_bipush (v := 8) hx hb dJ6_bitCount_0f7a4_36 (by decide) ?_
  refine lv_iushr hx hb dJ6_bitCount_0f7a4_38 rfl ?_
  refine lv_iadd hx hb dJ6_bitCount_0f7a4_39 ?_
  refine lv_topi (fun v4 ev4 => ?_)
  have h := q_nxe ev4 h
  refine lv_istore_n (lv' := [(0, .int v4)]) hx hb dJ6_bitCount_0f7a4_40 rfl hl (by decide) rfl (fun ls hl => ?_)
  refine lv_iload_n hx hb dJ6_bitCount_0f7a4_41 rfl (lv_at hl 0 rfl) ?_
  refine lv_iload_n hx hb dJ6_bitCount_0f7a4_42 rfl (lv_at hl 0 rfl) ?_
  refine lv_bipush (v := 16) hx hb dJ6_bitCount_0f7a4_43 (by decide) ?_
  refine lv_iushr hx hb dJ6_bitCount_0f7a4_45 rfl ?_
  refine lv_iadd hx hb dJ6_bitCount_0f7a4_46 ?_
  refine lv_topi (fun v5 ev5 => ?_)
  have h := q_nxe ev5 h
  refine lv_istore_n (lv' := [(0, .int v5)]) hx hb dJ6_bitCount_0f7a4_47 rfl hl (by decide) rfl (fun ls hl => ?_)
  refine lv_iload_n hx hb dJ6_bitCount_0f7a4_48 rfl (lv_at hl 0 rfl) ?_
  refine lv_bipush (v := 63) hx hb dJ6_bitCount_0f7a4_49 (by decide) ?_
  refine lv_iand hx hb dJ6_bitCount_0f7a4_51 ?_
  exact q_rRi hQ hx hb hr hlk h dJ6_bitCount_0f7a4_52
def rm_X5_forgives : Room := { frames := 2, cells := 0, slots := 0, locals := 43 }
set_option maxHeartbeats 4000000 in
set_option maxRecDepth 100000 in
theorem ct_X5_forgives (l : Launch) {D : va_G} {ad : Nat → Nat} {kc : Nat → ClassId} {nm z : Nat} (hAD : AD ad nm z) {M : Mem} {x1 : Int32} {r : Int32} {Mr : Mem}  (h : fn_X5_forgives nm M x1 = some (r, Mr)) : Met l yX5_forgives wsX5_forgives rm_X5_forgives (va_Pc [.ref (ad 0), .int x1] (GW D ad kc nm z M)) (QWi D ad kc nm z r Mr) 0 0 (fun q => z ≤ q) := by
  refine q_met (cc := cX5_forgives) (maxL := 4) (ret := (some .int)) (by decide) rfl (Nat.le_of_ble_eq_true rfl) ?_
  intro p e s m args below meth c Q ls hx hb hr hlk hml hown hts hB hQ hl
  obtain ⟨hP, hK, hz, hN⟩ := hB
  have hown : s.vm.findClass RX5 = some m.cls := hown
  have hl : lv_has ls 4 [(0, .ref (ad 0)), (1, .int x1)] := hl
  have hi_X0 : ∀ w ∈ u_ws RX0 TX0 6, w ∈ wsX5_forgives := by decide +kernel
  have hS : va_S (fun q => z ≤ q) s.heap s.heap [] := va_S.rf
  obtain ⟨H, eH⟩ : ∃ H : Heap, H = s.heap := ⟨_, rfl⟩
  obtain ⟨locs, eL⟩ : ∃ L : List Loc, L = [] := ⟨_, rfl⟩
  have hP : va_P D vwCl (wl ad kc nm M) H := by rw [eH]; exact hP
  have hS : va_S (fun q => z ≤ q) s.heap H locs := by rw [eH, eL]; exact hS
  refine q_start eH eL ?_
  refine lv_aload_n hx hb dX5_forgives_0 rfl (lv_at hl 0 rfl) ?_
  refine lv_iload_n hx hb dX5_forgives_1 rfl (lv_at hl 1 rfl) ?_
  obtain ⟨r2, hc1, h⟩ := q_bd1 h
  refine q_cRa (va_runV (C := RX5) (As := [.int x1]) (rest := []) ⟨hx, hb, hml, hown, hts⟩ (ct_X5_askerAt l hAD (M := M) hc1) (cwV 1 hts gX5_forgives_X5_askerAt rfl rfl rfl (by decide +kernel) ⟨Nat.le_of_ble_eq_true rfl, Nat.le_of_ble_eq_true rfl⟩) ⟨gw_blind, gw_recv ob_0 hK hP rfl, gw_pre _ hK hP (Nat.le_trans hz hS.1) hN⟩ rfl rfl hl.1 rfl (lv_room (Nat.le_of_ble_eq_true rfl)) dX5_forgives_2 ⟨Nat.zero_le _, Nat.zero_le _⟩) (fun ho5 => ?_) (fun q4 ho5 hq4 => ?_)
  · have h := q_ocn ho5 h
    refine lv_astore_nN (lv' := [(2, .null), (0, .ref (ad 0)), (1, .int x1)]) hx hb dX5_forgives_5 rfl hl (by decide) rfl (fun ls hl => ?_)
    refine lv_aload_nN hx hb dX5_forgives_6 rfl (lv_at hl 0 rfl) ?_
    refine lv_ifnonnullN hx hb dX5_forgives_7 ?_
    refine lv_iconst (v := -1) hx hb dX5_forgives_10 (by decide) ?_
    exact q_rWi hQ hx hb hr hlk hP hS h dX5_forgives_11
  · have h := q_ocs ho5 h
    refine lv_astore_n (lv' := [(2, .ref (ad (13 + 3 * q4))), (0, .ref (ad 0)), (1, .int x1)]) hx hb dX5_forgives_5 rfl hl (by decide) rfl (fun ls hl => ?_)
    refine lv_aload_n hx hb dX5_forgives_6 rfl (lv_at hl 0 rfl) ?_
    refine lv_ifnonnull (tgt := 12) hx hb dX5_forgives_7 (by decide) ?_
    refine lv_aload_n hx hb dX5_forgives_12 rfl (lv_at hl 0 rfl) ?_
    refine q_getIN hx hb hts hi_X0 hown hK hP (ob_asker hq4) rfl 5 (by decide) rfl (hN (.fieldLinkNest RX5 165 "MirrorNet$Asker" "bad" "I" "MirrorNet") nw_10) (fun _ h9 => h9) dX5_forgives_13 ?_
    obtain ⟨r7, hc6, h⟩ := q_bd1 h
    refine q_cRi (va_runS (As := [.int (gI M (13 + 3 * q4) 5)]) (rest := []) ⟨hx, hb, hml, hown, hts⟩ (ct_J6_bitCount_0f7a4 l hAD (M := M) hc6) (va_cwS 1 hts gX5_forgives_J6_bitCount_0f7a4 rfl rfl rfl (by decide +kernel) ⟨Nat.le_of_ble_eq_true rfl, Nat.le_of_ble_eq_true rfl⟩) ⟨gw_blind, gw_pre _ hK hP (Nat.le_trans hz hS.1) hN⟩ rfl rfl hl.1 rfl (lv_room (Nat.le_of_ble_eq_true rfl)) dX5_forgives_16 ⟨Nat.zero_le _, Nat.zero_le _⟩) ?_
    refine lv_istore_n (lv' := [(3, .int r7), (2, .ref (ad (13 + 3 * q4))), (0, .ref (ad 0)), (1, .int x1)]) hx hb dX5_forgives_19 rfl hl (by decide) rfl (fun ls hl => ?_)
    refine lv_aload_n hx hb dX5_forgives_20 rfl (lv_at hl 1 rfl) ?_
    refine lv_iconst (v := 0) hx hb dX5_forgives_21 (by decide) ?_
    obtain ⟨M11, eM11, h⟩ := q_nx h
    refine q_putIN hx hb hts hi_X0 tyX0 tyX0_ok nmX0 hown hK hP hAD hS (ob_asker hq4) rfl 5 (by decide) rfl (hN (.fieldLinkNest RX5 165 "MirrorNet$Asker" "bad" "I" "MirrorNet") nw_10) (fun _ h9 => h9) rfl (ty := .int) (by decide +kernel) rfl rfl dX5_forgives_22 (fun H locs hP hS => ?_)
    rw [← eM11] at hP
    refine lv_iload_n hx hb dX5_forgives_25 rfl (lv_at hl 0 rfl) ?_
    exact q_rWi hQ hx hb hr hlk hP hS h dX5_forgives_26
def rm_X5_suits : Room := { frames := 3, cells := 0, slots := 0, locals := 68 }
set_option maxHeartbeats 4000000 in
set_option maxRecDepth 100000 in
theorem ct_X5_suits (l : Launch) {D : va_G} {ad : Nat → Nat} {kc : Nat → ClassId} {nm z : Nat} (hAD : AD ad nm z) {M : Mem} {x1 : Int32} {x2 : Int32} {x3 : Int32} {r : Int32}  (h : fn_X5_suits M x1 x2 x3 = some r) : Met l yX5_suits wsX5_suits rm_X5_suits (va_Pc [.ref (ad 0), .int x1, .int x2, .int x3] (GW D ad kc nm z M)) (QRz r) 0 0 (fun _ => False) := by
  refine q_met (cc := cX5_suits) (maxL := 4) (ret := (some .boolean)) (by decide) rfl (Nat.le_of_ble_eq_true rfl) ?_
  intro p e s m args below meth c Q ls hx hb hr hlk hml hown hts hB hQ hl
  obtain ⟨hP, hK, hz, hN⟩ := hB
  have hown : s.vm.findClass RX5 = some m.cls := hown
  have hl : lv_has ls 4 [(0, .ref (ad 0)), (1, .int x1), (2, .int x2), (3, .int x3)] := hl
  have hi_X5 : ∀ w ∈ u_ws RX5 TX5 8, w ∈ wsX5_suits := by decide +kernel
  refine lv_iload_n hx hb dX5_suits_0 rfl (lv_at hl 1 rfl) ?_
  refine lv_iload_n hx hb dX5_suits_1 rfl (lv_at hl 3 rfl) ?_
  refine lv_icmp_lt (tgt := 44) hx hb dX5_suits_2 (by decide) (fun c1 => ?_) (fun c1 => ?_)
  · have h := q_t c1 h
    refine lv_iconst (v := 0) hx hb dX5_suits_44 (by decide) ?_
    exact q_rRz hQ hx hb hr hlk h (Or.inl rfl) dX5_suits_45
  · have h := q_f c1 h
    refine lv_aload_n hx hb dX5_suits_5 rfl (lv_at hl 0 rfl) ?_
    refine q_getR hx hb hts hi_X5 hown hK hP ob_0 rfl 0 (by decide) rfl (hts (.fieldLink RX5 12 "MirrorNet" "shelf" "LMirrorNet$Shelf;") (by decide +kernel)) (fun _ h9 => h9) dX5_suits_6 ?_
    refine lv_iload_n hx hb dX5_suits_9 rfl (lv_at hl 1 rfl) ?_
    refine lv_aload_n hx hb dX5_suits_10 rfl (lv_at hl 0 rfl) ?_
    refine q_getI hx hb hts hi_X5 hown hK hP ob_0 rfl 6 (by decide) rfl (hts (.fieldLink RX5 55 "MirrorNet" "now" "I") (by decide +kernel)) (fun _ h9 => h9) dX5_suits_11 ?_
    obtain ⟨r3, hc2, h⟩ := q_bd1 h
    refine q_cRi (va_runVN (C := RX4) (As := [.int x1, .int (gI M 0 6)]) (rest := []) ⟨hx, hb, hml, hown, hts⟩ (ct_X4_ageOf l hAD (M := M) hc2) ⟨va_cnB 2 hts gX5_suits_X4_ageOf_n76 rfl rfl rfl (hN (.methodLinkNest RX5 76 yX4_ageOf "MirrorNet") nw_27) (hts (.initialized RX4) (by decide +kernel)) (by decide +kernel) ⟨Nat.le_of_ble_eq_true rfl, Nat.le_of_ble_eq_true rfl⟩, hts (.instanceMethod yX4_ageOf) (by decide +kernel), hts (.selects RX4 yX4_ageOf yX4_ageOf) (by decide +kernel)⟩ ⟨gw_blind, gw_recv ob_1 hK hP rfl, gw_pre _ hK hP hz hN⟩ rfl rfl hl.1 rfl (lv_room (Nat.le_of_ble_eq_true rfl)) dX5_suits_14 ⟨Nat.zero_le _, Nat.zero_le _⟩) ?_
    refine lv_iload_n hx hb dX5_suits_17 rfl (lv_at hl 2 rfl) ?_
    refine lv_icmp_gt (tgt := 44) hx hb dX5_suits_18 (by decide) (fun c7 => ?_) (fun c7 => ?_)
    · have h := q_t c7 h
      refine lv_iconst (v := 0) hx hb dX5_suits_44 (by decide) ?_
      exact q_rRz hQ hx hb hr hlk h (Or.inl rfl) dX5_suits_45
    · have h := q_f c7 h
      refine lv_aload_n hx hb dX5_suits_21 rfl (lv_at hl 0 rfl) ?_
      refine q_getR hx hb hts hi_X5 hown hK hP ob_0 rfl 0 (by decide) rfl (hts (.fieldLink RX5 12 "MirrorNet" "shelf" "LMirrorNet$Shelf;") (by decide +kernel)) (fun _ h9 => h9) dX5_suits_22 ?_
      refine lv_iload_n hx hb dX5_suits_25 rfl (lv_at hl 1 rfl) ?_
      refine lv_aload_n hx hb dX5_suits_26 rfl (lv_at hl 0 rfl) ?_
      refine q_getI hx hb hts hi_X5 hown hK hP ob_0 rfl 6 (by decide) rfl (hts (.fieldLink RX5 55 "MirrorNet" "now" "I") (by decide +kernel)) (fun _ h9 => h9) dX5_suits_27 ?_
      refine lv_aload_n hx hb dX5_suits_30 rfl (lv_at hl 0 rfl) ?_
      refine q_getI hx hb hts hi_X5 hown hK hP ob_0 rfl 7 (by decide) rfl (hts (.fieldLink RX5 43 "MirrorNet" "graceTicks" "I") (by decide +kernel)) (fun _ h9 => h9) dX5_suits_31 ?_
      obtain ⟨r9, hc8, h⟩ := q_bd1 h
      refine q_cRz (va_runVN (C := RX4) (As := [.int x1, .int (gI M 0 6), .int (gI M 0 7)]) (rest := []) ⟨hx, hb, hml, hown, hts⟩ (ct_X4_namesLongYanked l hAD (M := M) hc8) ⟨va_cnB 3 hts gX5_suits_X4_namesLongYanked_n267 rfl rfl rfl (hN (.methodLinkNest RX5 267 yX4_namesLongYanked "MirrorNet") nw_64) (hts (.initialized RX4) (by decide +kernel)) (by decide +kernel) ⟨Nat.le_of_ble_eq_true rfl, Nat.le_of_ble_eq_true rfl⟩, hts (.instanceMethod yX4_namesLongYanked) (by decide +kernel), hts (.selects RX4 yX4_namesLongYanked yX4_namesLongYanked) (by decide +kernel)⟩ ⟨gw_blind, gw_recv ob_1 hK hP rfl, gw_pre _ hK hP hz hN⟩ rfl rfl hl.1 rfl (lv_room (Nat.le_of_ble_eq_true rfl)) dX5_suits_34 ⟨Nat.zero_le _, Nat.zero_le _⟩) (fun hzr9 => ?_)
      refine lv_if_ne (tgt := 44) hx hb dX5_suits_37 (by decide) (fun c13 => ?_) (fun c13 => ?_)
      · have h := q_f c13 h
        refine lv_iconst (v := 0) hx hb dX5_suits_44 (by decide) ?_
        exact q_rRz hQ hx hb hr hlk h (Or.inl rfl) dX5_suits_45
      · have h := q_t c13 h
        refine lv_iconst (v := 1) hx hb dX5_suits_40 (by decide) ?_
        refine lv_goto (tgt := 45) hx hb dX5_suits_41 (by decide) ?_
        exact q_rRz hQ hx hb hr hlk h (Or.inr rfl) dX5_suits_45
def rm_X5_findIndex : Room := { frames := 4, cells := 0, slots := 0, locals := 91 }
set_option maxHeartbeats 4000000 in
set_option maxRecDepth 100000 in
theorem ct_X5_findIndex (l : Launch) {D : va_G} {ad : Nat → Nat} {kc : Nat → ClassId} {nm z : Nat} (hAD : AD ad nm z) {M : Mem} {n1 : Nat} {x2 : Int32} {r : Int32} {Mr : Mem} (hn1 : n1 < 6) (h : fn_X5_findIndex nm M n1 x2 = some (r, Mr)) : Met l yX5_findIndex wsX5_findIndex rm_X5_findIndex (va_Pc [.ref (ad 0), .ref (ad (13 + 3 * n1)), .int x2] (GW D ad kc nm z M)) (QWi D ad kc nm z r Mr) 0 0 (fun q => z ≤ q) := by
  refine q_met (cc := cX5_findIndex) (maxL := 6) (ret := (some .int)) (by decide) rfl (Nat.le_of_ble_eq_true rfl) ?_
  intro p e s m args below meth c Q ls hx hb hr hlk hml hown hts hB hQ hl
  obtain ⟨hP, hK, hz, hN⟩ := hB
  have hown : s.vm.findClass RX5 = some m.cls := hown
  have hl : lv_has ls 6 [(0, .ref (ad 0)), (1, .ref (ad (13 + 3 * n1))), (2, .int x2)] := hl
  have hi_X0 : ∀ w ∈ u_ws RX0 TX0 6, w ∈ wsX5_findIndex := by decide +kernel
  have hi_X5 : ∀ w ∈ u_ws RX5 TX5 8, w ∈ wsX5_findIndex := by decide +kernel
  have hi_X3 : ∀ w ∈ u_ws RX3 TX3 10, w ∈ wsX5_findIndex := by decide +kernel
  have hS : va_S (fun q => z ≤ q) s.heap s.heap [] := va_S.rf
  have L_lq_X5_findIndex_2 : ∀ (n2 : Nat) (M : Mem) (x3 : Int32) (H : Heap) (locs : List Loc) (ls : Array Slot), it2 (lq_X5_findIndex_2 nm n1 x2) n2 M x3 = some (r, Mr) → va_P D vwCl (wl ad kc nm M) H → va_S (fun q => z ≤ q) s.heap H locs → lv_has ls 6 [(0, .ref (ad 0)), (1, .ref (ad (13 + 3 * n1))), (2, .int x2), (3, .int x3)] → W p l e rm_X5_findIndex s m args below meth c H locs 0 0 Q (F0 m 2 ls []) := by
    intro n2
    induction n2 with
    | zero =>
      intro M x3 H locs ls h hP hS hl
      exact (it2_0 h).elim
    | succ n2 ih2 =>
      have B_bk_X5_findIndex_110 : ∀ (M : Mem) (x3 : Int32) (H : Heap) (locs : List Loc) (ls : Array Slot), bk_X5_findIndex_110 (it2 (lq_X5_findIndex_2 nm n1 x2) n2) nm M n1 x2 x3 = some (r, Mr) → va_P D vwCl (wl ad kc nm M) H → va_S (fun q => z ≤ q) s.heap H locs → lv_has ls 6 [(0, .ref (ad 0)), (1, .ref (ad (13 + 3 * n1))), (2, .int x2), (3, .int x3)] → W p l e rm_X5_findIndex s m args below meth c H locs 0 0 Q (F0 m 110 ls []) := by
        intro M x3 H locs ls h hP hS hl
        obtain ⟨v1, ev1, h⟩ := q_nx h
        refine lv_iinc (v := v1) (lv' := [(3, .int v1), (0, .ref (ad 0)), (1, .ref (ad (13 + 3 * n1))), (2, .int x2)]) hx hb dX5_findIndex_110 hl (k := 3) rfl (by rw [ev1]; rfl) (by decide) rfl (fun ls hl => ?_)
        refine lv_goto (tgt := 2) hx hb dX5_findIndex_113 (by decide) ?_
        exact ih2 M v1 H locs ls  h hP hS (lv_sub hl [1, 2, 3, 0] rfl)
      intro M x3 H locs ls h hP hS hl
      have h := it2_s h
      refine lv_iload_n hx hb dX5_findIndex_2 rfl (lv_at hl 3 rfl) ?_
      refine lv_aload_n hx hb dX5_findIndex_3 rfl (lv_at hl 1 rfl) ?_
      refine q_getIN hx hb hts hi_X0 hown hK hP (ob_asker hn1) rfl 2 (by decide) rfl (hN (.fieldLinkNest RX5 248 "MirrorNet$Asker" "lineLength" "I" "MirrorNet") nw_7) (fun _ h9 => h9) dX5_findIndex_4 ?_
      refine lv_icmp_ge (tgt := 116) hx hb dX5_findIndex_7 (by decide) (fun c2 => ?_) (fun c2 => ?_)
      · have h := q_t c2 h
        refine lv_iconst (v := -1) hx hb dX5_findIndex_116 (by decide) ?_
        exact q_rWi hQ hx hb hr hlk hP hS h dX5_findIndex_117
      · have h := q_f c2 h
        refine lv_aload_n hx hb dX5_findIndex_10 rfl (lv_at hl 1 rfl) ?_
        refine lv_iload_n hx hb dX5_findIndex_11 rfl (lv_at hl 3 rfl) ?_
        obtain ⟨r4, hc3, h⟩ := q_bd1 h
        refine q_cRi (va_runVN (C := RX0) (As := [.int x3]) (rest := []) ⟨hx, hb, hml, hown, hts⟩ (ct_X0_inLine l hAD (M := M) hn1 hc3) ⟨va_cnB 1 hts gX5_findIndex_X0_inLine_n251 rfl rfl rfl (hN (.methodLinkNest RX5 251 yX0_inLine "MirrorNet") nw_60) (hts (.initialized RX0) (by decide +kernel)) (by decide +kernel) ⟨Nat.le_of_ble_eq_true rfl, Nat.le_of_ble_eq_true rfl⟩, hts (.instanceMethod yX0_inLine) (by decide +kernel), hts (.selects RX0 yX0_inLine yX0_inLine) (by decide +kernel)⟩ ⟨gw_blind, gw_recv (ob_asker hn1) hK hP rfl, gw_pre _ hK hP (Nat.le_trans hz hS.1) hN⟩ rfl rfl hl.1 rfl (lv_room (Nat.le_of_ble_eq_true rfl)) dX5_findIndex_12 ⟨Nat.zero_le _, Nat.zero_le _⟩) ?_
        refine lv_istore (lv' := [(4, .int r4), (0, .ref (ad 0)), (1, .ref (ad (13 + 3 * n1))), (2, .int x2), (3, .int x3)]) hx hb dX5_findIndex_15 hl (by decide) rfl (fun ls hl => ?_)
        refine lv_aload_n hx hb dX5_findIndex_17 rfl (lv_at hl 1 rfl) ?_
        refine lv_iload hx hb dX5_findIndex_18 (lv_at hl 0 rfl) ?_
        obtain ⟨r9, hc8, h⟩ := q_bd1 h
        refine q_cRm (va_runV (C := RX5) (As := [.int r4]) (rest := []) ⟨hx, hb, hml, hown, hts⟩ (ct_X5_mirrorAt l hAD (M := M) hc8) (cwV 1 hts gX5_findIndex_X5_mirrorAt rfl rfl rfl (by decide +kernel) ⟨Nat.le_of_ble_eq_true rfl, Nat.le_of_ble_eq_true rfl⟩) ⟨gw_blind, gw_recv ob_0 hK hP rfl, gw_pre _ hK hP (Nat.le_trans hz hS.1) hN⟩ rfl rfl hl.1 rfl (lv_room (Nat.le_of_ble_eq_true rfl)) dX5_findIndex_20 ⟨Nat.zero_le _, Nat.zero_le _⟩) (fun ho12 => ?_) (fun q11 ho12 hq11 => ?_)
        · have h := q_ocn ho12 h
          refine lv_astoreN (lv' := [(5, .null), (4, .int r4), (0, .ref (ad 0)), (1, .ref (ad (13 + 3 * n1))), (2, .int x2), (3, .int x3)]) hx hb dX5_findIndex_23 hl (by decide) rfl (fun ls hl => ?_)
          refine lv_aloadN hx hb dX5_findIndex_25 (lv_at hl 0 rfl) ?_
          refine lv_ifnullN (tgt := 110) hx hb dX5_findIndex_27 (by decide) ?_
          exact B_bk_X5_findIndex_110 M x3 H locs ls  h hP hS (lv_sub hl [2, 3, 4, 5] rfl)
        · have h := q_ocs ho12 h
          refine lv_astore (lv' := [(5, .ref (ad (62 + 2 * q11))), (4, .int r4), (0, .ref (ad 0)), (1, .ref (ad (13 + 3 * n1))), (2, .int x2), (3, .int x3)]) hx hb dX5_findIndex_23 hl (by decide) rfl (fun ls hl => ?_)
          refine lv_aload hx hb dX5_findIndex_25 (lv_at hl 0 rfl) ?_
          refine lv_ifnull hx hb dX5_findIndex_27 ?_
          refine lv_aload_n hx hb dX5_findIndex_30 rfl (lv_at hl 3 rfl) ?_
          refine lv_iload hx hb dX5_findIndex_31 (lv_at hl 1 rfl) ?_
          obtain ⟨r14, hc13, h⟩ := q_bd1 h
          refine q_cRz (va_runVN (C := RX0) (As := [.int r4]) (rest := []) ⟨hx, hb, hml, hown, hts⟩ (ct_X0_knowsAsBad l hAD (M := M) hn1 hc13) ⟨va_cnB 1 hts gX5_findIndex_X0_knowsAsBad_n254 rfl rfl rfl (hN (.methodLinkNest RX5 254 yX0_knowsAsBad "MirrorNet") nw_61) (hts (.initialized RX0) (by decide +kernel)) (by decide +kernel) ⟨Nat.le_of_ble_eq_true rfl, Nat.le_of_ble_eq_true rfl⟩, hts (.instanceMethod yX0_knowsAsBad) (by decide +kernel), hts (.selects RX0 yX0_knowsAsBad yX0_knowsAsBad) (by decide +kernel)⟩ ⟨gw_blind, gw_recv (ob_asker hn1) hK hP rfl, gw_pre _ hK hP (Nat.le_trans hz hS.1) hN⟩ rfl rfl hl.1 rfl (lv_room (Nat.le_of_ble_eq_true rfl)) dX5_findIndex_33 ⟨Nat.zero_le _, Nat.zero_le _⟩) (fun hzr14 => ?_)
          refine lv_if_eq (tgt := 42) hx hb dX5_findIndex_36 (by decide) (fun c18 => ?_) (fun c18 => ?_)
          · have h := q_t c18 h
            refine lv_aload_n hx hb dX5_findIndex_42 rfl (lv_at hl 2 rfl) ?_
            refine q_getR hx hb hts hi_X5 hown hK hP ob_0 rfl 4 (by decide) rfl (hts (.fieldLink RX5 39 "MirrorNet" "latest" "LMirrorNet$Asking;") (by decide +kernel)) (fun _ h9 => h9) dX5_findIndex_43 ?_
            refine lv_aload_n hx hb dX5_findIndex_46 rfl (lv_at hl 3 rfl) ?_
            refine lv_iload hx hb dX5_findIndex_47 (lv_at hl 1 rfl) ?_
            obtain ⟨r20, hc19, h⟩ := q_bd1 h
            refine q_cRi (va_runVN (C := RX0) (As := [.int r4]) (rest := [.ref (ad 31)]) ⟨hx, hb, hml, hown, hts⟩ (ct_X0_costOf l hAD (M := M) hn1 hc19) ⟨va_cnB 1 hts gX5_findIndex_X0_costOf_n155 rfl rfl rfl (hN (.methodLinkNest RX5 155 yX0_costOf "MirrorNet") nw_54) (hts (.initialized RX0) (by decide +kernel)) (by decide +kernel) ⟨Nat.le_of_ble_eq_true rfl, Nat.le_of_ble_eq_true rfl⟩, hts (.instanceMethod yX0_costOf) (by decide +kernel), hts (.selects RX0 yX0_costOf yX0_costOf) (by decide +kernel)⟩ ⟨gw_blind, gw_recv (ob_asker hn1) hK hP rfl, gw_pre _ hK hP (Nat.le_trans hz hS.1) hN⟩ rfl rfl hl.1 rfl (lv_room (Nat.le_of_ble_eq_true rfl)) dX5_findIndex_49 ⟨Nat.zero_le _, Nat.zero_le _⟩) ?_
            obtain ⟨M26, hc24, h⟩ := q_bd1 h
            refine q_cWv (va_runVN (C := RX1) (As := [.int r20]) (rest := []) ⟨hx, hb, hml, hown, hts⟩ (ct_X1_spend l hAD (M := M) hc24) ⟨va_cnB 1 hts gX5_findIndex_X1_spend_n257 rfl rfl rfl (hN (.methodLinkNest RX5 257 yX1_spend "MirrorNet") nw_62) (hts (.initialized RX1) (by decide +kernel)) (by decide +kernel) ⟨Nat.le_of_ble_eq_true rfl, Nat.le_of_ble_eq_true rfl⟩, hts (.instanceMethod yX1_spend) (by decide +kernel), hts (.selects RX1 yX1_spend yX1_spend) (by decide +kernel)⟩ ⟨gw_blind, gw_recv ob_31 hK hP rfl, gw_pre _ hK hP (Nat.le_trans hz hS.1) hN⟩ rfl rfl hl.1 rfl (lv_room (Nat.le_of_ble_eq_true rfl)) dX5_findIndex_52 ⟨Nat.zero_le _, Nat.zero_le _⟩) hS (fun H locs hP hS => ?_)
            refine lv_iload_n hx hb dX5_findIndex_55 rfl (lv_at hl 4 rfl) ?_
            refine lv_iload hx hb dX5_findIndex_56 (lv_at hl 1 rfl) ?_
            obtain ⟨r30, hc29, h⟩ := q_bd1 h
            refine q_cRz (va_runS (As := [.int x2, .int r4]) (rest := []) ⟨hx, hb, hml, hown, hts⟩ (ct_X5_isIn l hAD (M := M26) hc29) (va_cwS 2 hts gX5_findIndex_X5_isIn rfl rfl rfl (by decide +kernel) ⟨Nat.le_of_ble_eq_true rfl, Nat.le_of_ble_eq_true rfl⟩) ⟨gw_blind, gw_pre _ hK hP (Nat.le_trans hz hS.1) hN⟩ rfl rfl hl.1 rfl (lv_room (Nat.le_of_ble_eq_true rfl)) dX5_findIndex_58 ⟨Nat.zero_le _, Nat.zero_le _⟩) (fun hzr30 => ?_)
            refine lv_if_eq (tgt := 67) hx hb dX5_findIndex_61 (by decide) (fun c34 => ?_) (fun c34 => ?_)
            · have h := q_t c34 h
              refine lv_aload hx hb dX5_findIndex_67 (lv_at hl 0 rfl) ?_
              refine q_getIN hx hb hts hi_X3 hown hK hP (ob_mirror hq11) rfl 9 (by decide) rfl (hN (.fieldLinkNest RX5 106 "MirrorNet$Mirror" "isLiar" "Z" "MirrorNet") nw_39) (fun _ h9 => h9) dX5_findIndex_69 ?_
              refine lv_if_eq (tgt := 84) hx hb dX5_findIndex_72 (by decide) (fun c35 => ?_) (fun c35 => ?_)
              · have h := q_t c35 h
                refine lv_aload_n hx hb dX5_findIndex_84 rfl (lv_at hl 2 rfl) ?_
                refine lv_aload hx hb dX5_findIndex_85 (lv_at hl 0 rfl) ?_
                refine q_getIN hx hb hts hi_X3 hown hK hP (ob_mirror hq11) rfl 4 (by decide) rfl (hN (.fieldLinkNest RX5 113 "MirrorNet$Mirror" "index" "I" "MirrorNet") nw_34) (fun _ h9 => h9) dX5_findIndex_87 ?_
                refine lv_aload_n hx hb dX5_findIndex_90 rfl (lv_at hl 3 rfl) ?_
                refine q_getIN hx hb hts hi_X0 hown hK hP (ob_asker hn1) rfl 3 (by decide) rfl (hN (.fieldLinkNest RX5 162 "MirrorNet$Asker" "mostAge" "I" "MirrorNet") nw_8) (fun _ h9 => h9) dX5_findIndex_91 ?_
                refine lv_aload_n hx hb dX5_findIndex_94 rfl (lv_at hl 3 rfl) ?_
                refine q_getIN hx hb hts hi_X0 hown hK hP (ob_asker hn1) rfl 4 (by decide) rfl (hN (.fieldLinkNest RX5 172 "MirrorNet$Asker" "last" "I" "MirrorNet") nw_9) (fun _ h9 => h9) dX5_findIndex_95 ?_
                obtain ⟨r37, hc36, h⟩ := q_bd1 h
                refine q_cRz (va_runV (C := RX5) (As := [.int (gI M26 (62 + 2 * q11) 4), .int (gI M26 (13 + 3 * n1) 3), .int (gI M26 (13 + 3 * n1) 4)]) (rest := []) ⟨hx, hb, hml, hown, hts⟩ (ct_X5_suits l hAD (M := M26) hc36) (cwV 3 hts gX5_findIndex_X5_suits rfl rfl rfl (by decide +kernel) ⟨Nat.le_of_ble_eq_true rfl, Nat.le_of_ble_eq_true rfl⟩) ⟨gw_blind, gw_recv ob_0 hK hP rfl, gw_pre _ hK hP (Nat.le_trans hz hS.1) hN⟩ rfl rfl hl.1 rfl (lv_room (Nat.le_of_ble_eq_true rfl)) dX5_findIndex_98 ⟨Nat.zero_le _, Nat.zero_le _⟩) (fun hzr37 => ?_)
                refine lv_if_eq (tgt := 110) hx hb dX5_findIndex_101 (by decide) (fun c41 => ?_) (fun c41 => ?_)
                · have h := q_t c41 h
                  exact B_bk_X5_findIndex_110 M26 x3 H locs ls  h hP hS (lv_sub hl [2, 3, 4, 5] rfl)
                · have h := q_f c41 h
                  refine lv_aload hx hb dX5_findIndex_104 (lv_at hl 0 rfl) ?_
                  refine q_getIN hx hb hts hi_X3 hown hK hP (ob_mirror hq11) rfl 4 (by decide) rfl (hN (.fieldLinkNest RX5 113 "MirrorNet$Mirror" "index" "I" "MirrorNet") nw_34) (fun _ h9 => h9) dX5_findIndex_106 ?_
                  exact q_rWi hQ hx hb hr hlk hP hS h dX5_findIndex_109
              · have h := q_f c35 h
                refine lv_aload_n hx hb dX5_findIndex_75 rfl (lv_at hl 3 rfl) ?_
                refine lv_iload hx hb dX5_findIndex_76 (lv_at hl 1 rfl) ?_
                obtain ⟨M44, hc42, h⟩ := q_bd1 h
                refine q_cWv (va_runVN (C := RX0) (As := [.int r4]) (rest := []) ⟨hx, hb, hml, hown, hts⟩ (ct_X0_markBad l hAD (M := M26) hn1 hc42) ⟨va_cnB 1 hts gX5_findIndex_X0_markBad_n261 rfl rfl rfl (hN (.methodLinkNest RX5 261 yX0_markBad "MirrorNet") nw_63) (hts (.initialized RX0) (by decide +kernel)) (by decide +kernel) ⟨Nat.le_of_ble_eq_true rfl, Nat.le_of_ble_eq_true rfl⟩, hts (.instanceMethod yX0_markBad) (by decide +kernel), hts (.selects RX0 yX0_markBad yX0_markBad) (by decide +kernel)⟩ ⟨gw_blind, gw_recv (ob_asker hn1) hK hP rfl, gw_pre _ hK hP (Nat.le_trans hz hS.1) hN⟩ rfl rfl hl.1 rfl (lv_room (Nat.le_of_ble_eq_true rfl)) dX5_findIndex_78 ⟨Nat.zero_le _, Nat.zero_le _⟩) hS (fun H locs hP hS => ?_)
                refine lv_goto (tgt := 110) hx hb dX5_findIndex_81 (by decide) ?_
                exact B_bk_X5_findIndex_110 M44 x3 H locs ls  h hP hS (lv_sub hl [2, 3, 4, 5] rfl)
            · have h := q_f c34 h
              refine lv_goto (tgt := 110) hx hb dX5_findIndex_64 (by decide) ?_
              exact B_bk_X5_findIndex_110 M26 x3 H locs ls  h hP hS (lv_sub hl [2, 3, 4, 5] rfl)
          · have h := q_f c18 h
            refine lv_goto (tgt := 110) hx hb dX5_findIndex_39 (by decide) ?_
            exact B_bk_X5_findIndex_110 M x3 H locs ls  h hP hS (lv_sub hl [2, 3, 4, 5] rfl)
  obtain ⟨H, eH⟩ : ∃ H : Heap, H = s.heap := ⟨_, rfl⟩
  obtain ⟨locs, eL⟩ : ∃ L : List Loc, L = [] := ⟨_, rfl⟩
  have hP : va_P D vwCl (wl ad kc nm M) H := by rw [eH]; exact hP
  have hS : va_S (fun q => z ≤ q) s.heap H locs := by rw [eH, eL]; exact hS
  refine q_start eH eL ?_
  refine lv_iconst (v := 0) hx hb dX5_findIndex_0 (by decide) ?_
  refine lv_istore_n (lv' := [(3, .int (0 : Int32)), (0, .ref (ad 0)), (1, .ref (ad (13 + 3 * n1))), (2, .int x2)]) hx hb dX5_findIndex_1 rfl hl (by decide) rfl (fun ls hl => ?_)
  exact L_lq_X5_findIndex_2 FU M (0 : Int32) H locs ls  h hP hS (lv_sub hl [1, 2, 3, 0] rfl)
def rm_X5_firstNotNamed : Room := { frames := 2, cells := 0, slots := 0, locals := 44 }
set_option maxHeartbeats 4000000 in
set_option maxRecDepth 100000 in
theorem ct_X5_firstNotNamed (l : Launch) {D : va_G} {ad : Nat → Nat} {kc : Nat → ClassId} {nm z : Nat} (hAD : AD ad nm z) {M : Mem} {x1 : Int32} {x2 : Int32} {r : Int32}  (h : fn_X5_firstNotNamed M x1 x2 = some r) : Met l yX5_firstNotNamed wsX5_firstNotNamed rm_X5_firstNotNamed (va_Pc [.ref (ad 0), .int x1, .int x2] (GW D ad kc nm z M)) (QRi r) 0 0 (fun _ => False) := by
  refine q_met (cc := cX5_firstNotNamed) (maxL := 4) (ret := (some .int)) (by decide) rfl (Nat.le_of_ble_eq_true rfl) ?_
  intro p e s m args below meth c Q ls hx hb hr hlk hml hown hts hB hQ hl
  obtain ⟨hP, hK, hz, hN⟩ := hB
  have hown : s.vm.findClass RX5 = some m.cls := hown
  have hl : lv_has ls 4 [(0, .ref (ad 0)), (1, .int x1), (2, .int x2)] := hl
  have hi_X5 : ∀ w ∈ u_ws RX5 TX5 8, w ∈ wsX5_firstNotNamed := by decide +kernel
  have L_lq_X5_firstNotNamed_2 : ∀ (n2 : Nat) (x3 : Int32) (ls : Array Slot), it1 (lq_X5_firstNotNamed_2 M x1 x2) n2 x3 = some r → lv_has ls 4 [(0, .ref (ad 0)), (1, .int x1), (2, .int x2), (3, .int x3)] → W p l e rm_X5_firstNotNamed s m args below meth c s.heap [] 0 0 Q (F0 m 2 ls []) := by
    intro n2
    induction n2 with
    | zero =>
      intro x3 ls h hl
      exact (it1_0 h).elim
    | succ n2 ih2 =>
      have B_bk_X5_firstNotNamed_31 : ∀ (x3 : Int32) (ls : Array Slot), bk_X5_firstNotNamed_31 (it1 (lq_X5_firstNotNamed_2 M x1 x2) n2) M x1 x2 x3 = some r → lv_has ls 4 [(0, .ref (ad 0)), (1, .int x1), (2, .int x2), (3, .int x3)] → W p l e rm_X5_firstNotNamed s m args below meth c s.heap [] 0 0 Q (F0 m 31 ls []) := by
        intro x3 ls h hl
        obtain ⟨v1, ev1, h⟩ := q_nx h
        refine lv_iinc (v := v1) (lv' := [(3, .int v1), (0, .ref (ad 0)), (1, .int x1), (2, .int x2)]) hx hb dX5_firstNotNamed_31 hl (k := 3) rfl (by rw [ev1]; rfl) (by decide) rfl (fun ls hl => ?_)
        refine lv_goto (tgt := 2) hx hb dX5_firstNotNamed_34 (by decide) ?_
        exact ih2 v1 ls  h (lv_sub hl [1, 2, 3, 0] rfl)
      intro x3 ls h hl
      have h := it1_s h
      refine lv_iload_n hx hb dX5_firstNotNamed_2 rfl (lv_at hl 3 rfl) ?_
      refine lv_bipush (v := 12) hx hb dX5_firstNotNamed_3 (by decide) ?_
      refine lv_icmp_ge (tgt := 37) hx hb dX5_firstNotNamed_5 (by decide) (fun c2 => ?_) (fun c2 => ?_)
      · have h := q_t c2 h
        refine lv_iconst (v := -1) hx hb dX5_firstNotNamed_37 (by decide) ?_
        exact q_rRi hQ hx hb hr hlk h dX5_firstNotNamed_38
      · have h := q_f c2 h
        refine lv_iload_n hx hb dX5_firstNotNamed_8 rfl (lv_at hl 2 rfl) ?_
        refine lv_iload_n hx hb dX5_firstNotNamed_9 rfl (lv_at hl 3 rfl) ?_
        obtain ⟨r4, hc3, h⟩ := q_bd1 h
        refine q_cRz (va_runS (As := [.int x2, .int x3]) (rest := []) ⟨hx, hb, hml, hown, hts⟩ (ct_X5_isIn l hAD (M := M) hc3) (va_cwS 2 hts gX5_firstNotNamed_X5_isIn rfl rfl rfl (by decide +kernel) ⟨Nat.le_of_ble_eq_true rfl, Nat.le_of_ble_eq_true rfl⟩) ⟨gw_blind, gw_pre _ hK hP hz hN⟩ rfl rfl hl.1 rfl (lv_room (Nat.le_of_ble_eq_true rfl)) dX5_firstNotNamed_10 ⟨Nat.zero_le _, Nat.zero_le _⟩) (fun hzr4 => ?_)
        refine lv_if_eq (tgt := 31) hx hb dX5_firstNotNamed_13 (by decide) (fun c8 => ?_) (fun c8 => ?_)
        · have h := q_t c8 h
          exact B_bk_X5_firstNotNamed_31 x3 ls  h (lv_sub hl [0, 1, 2, 3] rfl)
        · have h := q_f c8 h
          refine lv_aload_n hx hb dX5_firstNotNamed_16 rfl (lv_at hl 0 rfl) ?_
          refine q_getR hx hb hts hi_X5 hown hK hP ob_0 rfl 0 (by decide) rfl (hts (.fieldLink RX5 12 "MirrorNet" "shelf" "LMirrorNet$Shelf;") (by decide +kernel)) (fun _ h9 => h9) dX5_firstNotNamed_17 ?_
          refine lv_iload_n hx hb dX5_firstNotNamed_20 rfl (lv_at hl 1 rfl) ?_
          refine lv_iload_n hx hb dX5_firstNotNamed_21 rfl (lv_at hl 3 rfl) ?_
          obtain ⟨r10, hc9, h⟩ := q_bd1 h
          refine q_cRi (va_runVN (C := RX4) (As := [.int x1, .int x3]) (rest := []) ⟨hx, hb, hml, hown, hts⟩ (ct_X4_namedBy l hAD (M := M) hc9) ⟨va_cnB 2 hts gX5_firstNotNamed_X4_namedBy_n66 rfl rfl rfl (hN (.methodLinkNest RX5 66 yX4_namedBy "MirrorNet") nw_24) (hts (.initialized RX4) (by decide +kernel)) (by decide +kernel) ⟨Nat.le_of_ble_eq_true rfl, Nat.le_of_ble_eq_true rfl⟩, hts (.instanceMethod yX4_namedBy) (by decide +kernel), hts (.selects RX4 yX4_namedBy yX4_namedBy) (by decide +kernel)⟩ ⟨gw_blind, gw_recv ob_1 hK hP rfl, gw_pre _ hK hP hz hN⟩ rfl rfl hl.1 rfl (lv_room (Nat.le_of_ble_eq_true rfl)) dX5_firstNotNamed_22 ⟨Nat.zero_le _, Nat.zero_le _⟩) ?_
          refine lv_iconst (v := -1) hx hb dX5_firstNotNamed_25 (by decide) ?_
          refine lv_icmp_ne (tgt := 31) hx hb dX5_firstNotNamed_26 (by decide) (fun c14 => ?_) (fun c14 => ?_)
          · have h := q_f c14 h
            exact B_bk_X5_firstNotNamed_31 x3 ls  h (lv_sub hl [0, 1, 2, 3] rfl)
          · have h := q_t c14 h
            refine lv_iload_n hx hb dX5_firstNotNamed_29 rfl (lv_at hl 3 rfl) ?_
            exact q_rRi hQ hx hb hr hlk h dX5_firstNotNamed_30
  refine lv_iconst (v := 0) hx hb dX5_firstNotNamed_0 (by decide) ?_
  refine lv_istore_n (lv' := [(3, .int (0 : Int32)), (0, .ref (ad 0)), (1, .int x1), (2, .int x2)]) hx hb dX5_firstNotNamed_1 rfl hl (by decide) rfl (fun ls hl => ?_)
  exact L_lq_X5_firstNotNamed_2 FU (0 : Int32) ls  h (lv_sub hl [1, 2, 3, 0] rfl)
def rm_X5_findGiver : Room := { frames := 3, cells := 0, slots := 0, locals := 64 }
set_option maxHeartbeats 4000000 in
set_option maxRecDepth 100000 in
theorem ct_X5_findGiver (l : Launch) {D : va_G} {ad : Nat → Nat} {kc : Nat → ClassId} {nm z : Nat} (hAD : AD ad nm z) {M : Mem} {n1 : Nat} {x2 : Int32} {x3 : Int32} {r : Int32} {Mr : Mem} (hn1 : n1 < 6) (h : fn_X5_findGiver nm M n1 x2 x3 = some (r, Mr)) : Met l yX5_findGiver wsX5_findGiver rm_X5_findGiver (va_Pc [.ref (ad 0), .ref (ad (13 + 3 * n1)), .int x2, .int x3] (GW D ad kc nm z M)) (QWi D ad kc nm z r Mr) 0 0 (fun q => z ≤ q) := by
  refine q_met (cc := cX5_findGiver) (maxL := 7) (ret := (some .int)) (by decide) rfl (Nat.le_of_ble_eq_true rfl) ?_
  intro p e s m args below meth c Q ls hx hb hr hlk hml hown hts hB hQ hl
  obtain ⟨hP, hK, hz, hN⟩ := hB
  have hown : s.vm.findClass RX5 = some m.cls := hown
  have hl : lv_has ls 7 [(0, .ref (ad 0)), (1, .ref (ad (13 + 3 * n1))), (2, .int x2), (3, .int x3)] := hl
  have hi_X0 : ∀ w ∈ u_ws RX0 TX0 6, w ∈ wsX5_findGiver := by decide +kernel
  have hi_X5 : ∀ w ∈ u_ws RX5 TX5 8, w ∈ wsX5_findGiver := by decide +kernel
  have hi_X3 : ∀ w ∈ u_ws RX3 TX3 10, w ∈ wsX5_findGiver := by decide +kernel
  have hS : va_S (fun q => z ≤ q) s.heap s.heap [] := va_S.rf
  have L_lq_X5_findGiver_3 : ∀ (n3 : Nat) (M : Mem) (x4 : Int32) (H : Heap) (locs : List Loc) (ls : Array Slot), it2 (lq_X5_findGiver_3 nm n1 x2 x3) n3 M x4 = some (r, Mr) → va_P D vwCl (wl ad kc nm M) H → va_S (fun q => z ≤ q) s.heap H locs → lv_has ls 7 [(0, .ref (ad 0)), (1, .ref (ad (13 + 3 * n1))), (2, .int x2), (3, .int x3), (4, .int x4)] → W p l e rm_X5_findGiver s m args below meth c H locs 0 0 Q (F0 m 3 ls []) := by
    intro n3
    induction n3 with
    | zero =>
      intro M x4 H locs ls h hP hS hl
      exact (it2_0 h).elim
    | succ n3 ih3 =>
      have B_bk_X5_findGiver_96 : ∀ (M : Mem) (x4 : Int32) (H : Heap) (locs : List Loc) (ls : Array Slot), bk_X5_findGiver_96 (it2 (lq_X5_findGiver_3 nm n1 x2 x3) n3) nm M n1 x2 x3 x4 = some (r, Mr) → va_P D vwCl (wl ad kc nm M) H → va_S (fun q => z ≤ q) s.heap H locs → lv_has ls 7 [(0, .ref (ad 0)), (1, .ref (ad (13 + 3 * n1))), (2, .int x2), (3, .int x3), (4, .int x4)] → W p l e rm_X5_findGiver s m args below meth c H locs 0 0 Q (F0 m 96 ls []) := by
        intro M x4 H locs ls h hP hS hl
        obtain ⟨v1, ev1, h⟩ := q_nx h
        refine lv_iinc (v := v1) (lv' := [(4, .int v1), (0, .ref (ad 0)), (1, .ref (ad (13 + 3 * n1))), (2, .int x2), (3, .int x3)]) hx hb dX5_findGiver_96 hl (k := 4) rfl (by rw [ev1]; rfl) (by decide) rfl (fun ls hl => ?_)
        refine lv_goto (tgt := 3) hx hb dX5_findGiver_99 (by decide) ?_
        exact ih3 M v1 H locs ls  h hP hS (lv_sub hl [1, 2, 3, 4, 0] rfl)
      intro M x4 H locs ls h hP hS hl
      have h := it2_s h
      refine lv_iload hx hb dX5_findGiver_3 (lv_at hl 4 rfl) ?_
      refine lv_aload_n hx hb dX5_findGiver_5 rfl (lv_at hl 1 rfl) ?_
      refine q_getIN hx hb hts hi_X0 hown hK hP (ob_asker hn1) rfl 2 (by decide) rfl (hN (.fieldLinkNest RX5 248 "MirrorNet$Asker" "lineLength" "I" "MirrorNet") nw_7) (fun _ h9 => h9) dX5_findGiver_6 ?_
      refine lv_icmp_ge (tgt := 102) hx hb dX5_findGiver_9 (by decide) (fun c2 => ?_) (fun c2 => ?_)
      · have h := q_t c2 h
        refine lv_iconst (v := -1) hx hb dX5_findGiver_102 (by decide) ?_
        exact q_rWi hQ hx hb hr hlk hP hS h dX5_findGiver_103
      · have h := q_f c2 h
        refine lv_aload_n hx hb dX5_findGiver_12 rfl (lv_at hl 1 rfl) ?_
        refine lv_iload hx hb dX5_findGiver_13 (lv_at hl 4 rfl) ?_
        obtain ⟨r4, hc3, h⟩ := q_bd1 h
        refine q_cRi (va_runVN (C := RX0) (As := [.int x4]) (rest := []) ⟨hx, hb, hml, hown, hts⟩ (ct_X0_inLine l hAD (M := M) hn1 hc3) ⟨va_cnB 1 hts gX5_findGiver_X0_inLine_n251 rfl rfl rfl (hN (.methodLinkNest RX5 251 yX0_inLine "MirrorNet") nw_60) (hts (.initialized RX0) (by decide +kernel)) (by decide +kernel) ⟨Nat.le_of_ble_eq_true rfl, Nat.le_of_ble_eq_true rfl⟩, hts (.instanceMethod yX0_inLine) (by decide +kernel), hts (.selects RX0 yX0_inLine yX0_inLine) (by decide +kernel)⟩ ⟨gw_blind, gw_recv (ob_asker hn1) hK hP rfl, gw_pre _ hK hP (Nat.le_trans hz hS.1) hN⟩ rfl rfl hl.1 rfl (lv_room (Nat.le_of_ble_eq_true rfl)) dX5_findGiver_15 ⟨Nat.zero_le _, Nat.zero_le _⟩) ?_
        refine lv_istore (lv' := [(5, .int r4), (0, .ref (ad 0)), (1, .ref (ad (13 + 3 * n1))), (2, .int x2), (3, .int x3), (4, .int x4)]) hx hb dX5_findGiver_18 hl (by decide) rfl (fun ls hl => ?_)
        refine lv_aload_n hx hb dX5_findGiver_20 rfl (lv_at hl 1 rfl) ?_
        refine lv_iload hx hb dX5_findGiver_21 (lv_at hl 0 rfl) ?_
        obtain ⟨r9, hc8, h⟩ := q_bd1 h
        refine q_cRm (va_runV (C := RX5) (As := [.int r4]) (rest := []) ⟨hx, hb, hml, hown, hts⟩ (ct_X5_mirrorAt l hAD (M := M) hc8) (cwV 1 hts gX5_findGiver_X5_mirrorAt rfl rfl rfl (by decide +kernel) ⟨Nat.le_of_ble_eq_true rfl, Nat.le_of_ble_eq_true rfl⟩) ⟨gw_blind, gw_recv ob_0 hK hP rfl, gw_pre _ hK hP (Nat.le_trans hz hS.1) hN⟩ rfl rfl hl.1 rfl (lv_room (Nat.le_of_ble_eq_true rfl)) dX5_findGiver_23 ⟨Nat.zero_le _, Nat.zero_le _⟩) (fun ho12 => ?_) (fun q11 ho12 hq11 => ?_)
        · have h := q_ocn ho12 h
          refine lv_astoreN (lv' := [(6, .null), (5, .int r4), (0, .ref (ad 0)), (1, .ref (ad (13 + 3 * n1))), (2, .int x2), (3, .int x3), (4, .int x4)]) hx hb dX5_findGiver_26 hl (by decide) rfl (fun ls hl => ?_)
          refine lv_aloadN hx hb dX5_findGiver_28 (lv_at hl 0 rfl) ?_
          refine lv_ifnullN (tgt := 96) hx hb dX5_findGiver_30 (by decide) ?_
          exact B_bk_X5_findGiver_96 M x4 H locs ls  h hP hS (lv_sub hl [2, 3, 4, 5, 6] rfl)
        · have h := q_ocs ho12 h
          refine lv_astore (lv' := [(6, .ref (ad (62 + 2 * q11))), (5, .int r4), (0, .ref (ad 0)), (1, .ref (ad (13 + 3 * n1))), (2, .int x2), (3, .int x3), (4, .int x4)]) hx hb dX5_findGiver_26 hl (by decide) rfl (fun ls hl => ?_)
          refine lv_aload hx hb dX5_findGiver_28 (lv_at hl 0 rfl) ?_
          refine lv_ifnull hx hb dX5_findGiver_30 ?_
          refine lv_aload_n hx hb dX5_findGiver_33 rfl (lv_at hl 3 rfl) ?_
          refine lv_iload hx hb dX5_findGiver_34 (lv_at hl 1 rfl) ?_
          obtain ⟨r14, hc13, h⟩ := q_bd1 h
          refine q_cRz (va_runVN (C := RX0) (As := [.int r4]) (rest := []) ⟨hx, hb, hml, hown, hts⟩ (ct_X0_knowsAsBad l hAD (M := M) hn1 hc13) ⟨va_cnB 1 hts gX5_findGiver_X0_knowsAsBad_n254 rfl rfl rfl (hN (.methodLinkNest RX5 254 yX0_knowsAsBad "MirrorNet") nw_61) (hts (.initialized RX0) (by decide +kernel)) (by decide +kernel) ⟨Nat.le_of_ble_eq_true rfl, Nat.le_of_ble_eq_true rfl⟩, hts (.instanceMethod yX0_knowsAsBad) (by decide +kernel), hts (.selects RX0 yX0_knowsAsBad yX0_knowsAsBad) (by decide +kernel)⟩ ⟨gw_blind, gw_recv (ob_asker hn1) hK hP rfl, gw_pre _ hK hP (Nat.le_trans hz hS.1) hN⟩ rfl rfl hl.1 rfl (lv_room (Nat.le_of_ble_eq_true rfl)) dX5_findGiver_36 ⟨Nat.zero_le _, Nat.zero_le _⟩) (fun hzr14 => ?_)
          refine lv_if_eq (tgt := 45) hx hb dX5_findGiver_39 (by decide) (fun c18 => ?_) (fun c18 => ?_)
          · have h := q_t c18 h
            refine lv_aload_n hx hb dX5_findGiver_45 rfl (lv_at hl 2 rfl) ?_
            refine q_getR hx hb hts hi_X5 hown hK hP ob_0 rfl 4 (by decide) rfl (hts (.fieldLink RX5 39 "MirrorNet" "latest" "LMirrorNet$Asking;") (by decide +kernel)) (fun _ h9 => h9) dX5_findGiver_46 ?_
            refine lv_aload_n hx hb dX5_findGiver_49 rfl (lv_at hl 3 rfl) ?_
            refine lv_iload hx hb dX5_findGiver_50 (lv_at hl 1 rfl) ?_
            obtain ⟨r20, hc19, h⟩ := q_bd1 h
            refine q_cRi (va_runVN (C := RX0) (As := [.int r4]) (rest := [.ref (ad 31)]) ⟨hx, hb, hml, hown, hts⟩ (ct_X0_costOf l hAD (M := M) hn1 hc19) ⟨va_cnB 1 hts gX5_findGiver_X0_costOf_n155 rfl rfl rfl (hN (.methodLinkNest RX5 155 yX0_costOf "MirrorNet") nw_54) (hts (.initialized RX0) (by decide +kernel)) (by decide +kernel) ⟨Nat.le_of_ble_eq_true rfl, Nat.le_of_ble_eq_true rfl⟩, hts (.instanceMethod yX0_costOf) (by decide +kernel), hts (.selects RX0 yX0_costOf yX0_costOf) (by decide +kernel)⟩ ⟨gw_blind, gw_recv (ob_asker hn1) hK hP rfl, gw_pre _ hK hP (Nat.le_trans hz hS.1) hN⟩ rfl rfl hl.1 rfl (lv_room (Nat.le_of_ble_eq_true rfl)) dX5_findGiver_52 ⟨Nat.zero_le _, Nat.zero_le _⟩) ?_
            obtain ⟨M26, hc24, h⟩ := q_bd1 h
            refine q_cWv (va_runVN (C := RX1) (As := [.int r20]) (rest := []) ⟨hx, hb, hml, hown, hts⟩ (ct_X1_spend l hAD (M := M) hc24) ⟨va_cnB 1 hts gX5_findGiver_X1_spend_n257 rfl rfl rfl (hN (.methodLinkNest RX5 257 yX1_spend "MirrorNet") nw_62) (hts (.initialized RX1) (by decide +kernel)) (by decide +kernel) ⟨Nat.le_of_ble_eq_true rfl, Nat.le_of_ble_eq_true rfl⟩, hts (.instanceMethod yX1_spend) (by decide +kernel), hts (.selects RX1 yX1_spend yX1_spend) (by decide +kernel)⟩ ⟨gw_blind, gw_recv ob_31 hK hP rfl, gw_pre _ hK hP (Nat.le_trans hz hS.1) hN⟩ rfl rfl hl.1 rfl (lv_room (Nat.le_of_ble_eq_true rfl)) dX5_findGiver_55 ⟨Nat.zero_le _, Nat.zero_le _⟩) hS (fun H locs hP hS => ?_)
            refine lv_iload_n hx hb dX5_findGiver_58 rfl (lv_at hl 5 rfl) ?_
            refine lv_iload hx hb dX5_findGiver_59 (lv_at hl 1 rfl) ?_
            obtain ⟨r30, hc29, h⟩ := q_bd1 h
            refine q_cRz (va_runS (As := [.int x3, .int r4]) (rest := []) ⟨hx, hb, hml, hown, hts⟩ (ct_X5_isIn l hAD (M := M26) hc29) (va_cwS 2 hts gX5_findGiver_X5_isIn rfl rfl rfl (by decide +kernel) ⟨Nat.le_of_ble_eq_true rfl, Nat.le_of_ble_eq_true rfl⟩) ⟨gw_blind, gw_pre _ hK hP (Nat.le_trans hz hS.1) hN⟩ rfl rfl hl.1 rfl (lv_room (Nat.le_of_ble_eq_true rfl)) dX5_findGiver_61 ⟨Nat.zero_le _, Nat.zero_le _⟩) (fun hzr30 => ?_)
            refine lv_if_ne (tgt := 96) hx hb dX5_findGiver_64 (by decide) (fun c34 => ?_) (fun c34 => ?_)
            · have h := q_f c34 h
              exact B_bk_X5_findGiver_96 M26 x4 H locs ls  h hP hS (lv_sub hl [2, 3, 4, 5, 6] rfl)
            · have h := q_t c34 h
              refine lv_aload hx hb dX5_findGiver_67 (lv_at hl 0 rfl) ?_
              refine lv_iload_n hx hb dX5_findGiver_69 rfl (lv_at hl 4 rfl) ?_
              obtain ⟨r36, hc35, h⟩ := q_bd1 h
              refine q_cRz (va_runVN (C := RX3) (As := [.int x2]) (rest := []) ⟨hx, hb, hml, hown, hts⟩ (ct_X3_holds l hAD (M := M26) hq11 hc35) ⟨va_cnB 1 hts gX5_findGiver_X3_holds_n148 rfl rfl rfl (hN (.methodLinkNest RX5 148 yX3_holds "MirrorNet") nw_53) (hts (.initialized RX3) (by decide +kernel)) (by decide +kernel) ⟨Nat.le_of_ble_eq_true rfl, Nat.le_of_ble_eq_true rfl⟩, hts (.instanceMethod yX3_holds) (by decide +kernel), hts (.selects RX3 yX3_holds yX3_holds) (by decide +kernel)⟩ ⟨gw_blind, gw_recv (ob_mirror hq11) hK hP rfl, gw_pre _ hK hP (Nat.le_trans hz hS.1) hN⟩ rfl rfl hl.1 rfl (lv_room (Nat.le_of_ble_eq_true rfl)) dX5_findGiver_70 ⟨Nat.zero_le _, Nat.zero_le _⟩) (fun hzr36 => ?_)
              refine lv_if_ne (tgt := 79) hx hb dX5_findGiver_73 (by decide) (fun c40 => ?_) (fun c40 => ?_)
              · have h := q_f c40 h
                refine lv_aload hx hb dX5_findGiver_79 (lv_at hl 0 rfl) ?_
                refine q_getIN hx hb hts hi_X3 hown hK hP (ob_mirror hq11) rfl 9 (by decide) rfl (hN (.fieldLinkNest RX5 106 "MirrorNet$Mirror" "isLiar" "Z" "MirrorNet") nw_39) (fun _ h9 => h9) dX5_findGiver_81 ?_
                refine lv_if_ne (tgt := 90) hx hb dX5_findGiver_84 (by decide) (fun c41 => ?_) (fun c41 => ?_)
                · have h := q_f c41 h
                  refine lv_aload_n hx hb dX5_findGiver_90 rfl (lv_at hl 3 rfl) ?_
                  refine lv_iload hx hb dX5_findGiver_91 (lv_at hl 1 rfl) ?_
                  obtain ⟨M44, hc42, h⟩ := q_bd1 h
                  refine q_cWv (va_runVN (C := RX0) (As := [.int r4]) (rest := []) ⟨hx, hb, hml, hown, hts⟩ (ct_X0_markBad l hAD (M := M26) hn1 hc42) ⟨va_cnB 1 hts gX5_findGiver_X0_markBad_n261 rfl rfl rfl (hN (.methodLinkNest RX5 261 yX0_markBad "MirrorNet") nw_63) (hts (.initialized RX0) (by decide +kernel)) (by decide +kernel) ⟨Nat.le_of_ble_eq_true rfl, Nat.le_of_ble_eq_true rfl⟩, hts (.instanceMethod yX0_markBad) (by decide +kernel), hts (.selects RX0 yX0_markBad yX0_markBad) (by decide +kernel)⟩ ⟨gw_blind, gw_recv (ob_asker hn1) hK hP rfl, gw_pre _ hK hP (Nat.le_trans hz hS.1) hN⟩ rfl rfl hl.1 rfl (lv_room (Nat.le_of_ble_eq_true rfl)) dX5_findGiver_93 ⟨Nat.zero_le _, Nat.zero_le _⟩) hS (fun H locs hP hS => ?_)
                  exact B_bk_X5_findGiver_96 M44 x4 H locs ls  h hP hS (lv_sub hl [2, 3, 4, 5, 6] rfl)
                · have h := q_t c41 h
                  refine lv_iload hx hb dX5_findGiver_87 (lv_at hl 1 rfl) ?_
                  exact q_rWi hQ hx hb hr hlk hP hS h dX5_findGiver_89
              · have h := q_t c40 h
                refine lv_goto (tgt := 96) hx hb dX5_findGiver_76 (by decide) ?_
                exact B_bk_X5_findGiver_96 M26 x4 H locs ls  h hP hS (lv_sub hl [2, 3, 4, 5, 6] rfl)
          · have h := q_f c18 h
            refine lv_goto (tgt := 96) hx hb dX5_findGiver_42 (by decide) ?_
            exact B_bk_X5_findGiver_96 M x4 H locs ls  h hP hS (lv_sub hl [2, 3, 4, 5, 6] rfl)
  obtain ⟨H, eH⟩ : ∃ H : Heap, H = s.heap := ⟨_, rfl⟩
  obtain ⟨locs, eL⟩ : ∃ L : List Loc, L = [] := ⟨_, rfl⟩
  have hP : va_P D vwCl (wl ad kc nm M) H := by rw [eH]; exact hP
  have hS : va_S (fun q => z ≤ q) s.heap H locs := by rw [eH, eL]; exact hS
  refine q_start eH eL ?_
  refine lv_iconst (v := 0) hx hb dX5_findGiver_0 (by decide) ?_
  refine lv_istore (lv' := [(4, .int (0 : Int32)), (0, .ref (ad 0)), (1, .ref (ad (13 + 3 * n1))), (2, .int x2), (3, .int x3)]) hx hb dX5_findGiver_1 hl (by decide) rfl (fun ls hl => ?_)
  exact L_lq_X5_findGiver_3 FU M (0 : Int32) H locs ls  h hP hS (lv_sub hl [1, 2, 3, 4, 0] rfl)
def rm_X5_getFiles : Room := { frames := 4, cells := 0, slots := 0, locals := 90 }
set_option maxHeartbeats 4000000 in
set_option maxRecDepth 100000 in
theorem ct_X5_getFiles (l : Launch) {D : va_G} {ad : Nat → Nat} {kc : Nat → ClassId} {nm z : Nat} (hAD : AD ad nm z) {M : Mem} {n1 : Nat} {x2 : Int32} {x3 : Int32} {r : Int32} {Mr : Mem} (hn1 : n1 < 6) (h : fn_X5_getFiles nm M n1 x2 x3 = some (r, Mr)) : Met l yX5_getFiles wsX5_getFiles rm_X5_getFiles (va_Pc [.ref (ad 0), .ref (ad (13 + 3 * n1)), .int x2, .int x3] (GW D ad kc nm z M)) (QWi D ad kc nm z r Mr) 0 0 (fun q => z ≤ q) := by
  refine q_met (cc := cX5_getFiles) (maxL := 7) (ret := (some .int)) (by decide) rfl (Nat.le_of_ble_eq_true rfl) ?_
  intro p e s m args below meth c Q ls hx hb hr hlk hml hown hts hB hQ hl
  obtain ⟨hP, hK, hz, hN⟩ := hB
  have hown : s.vm.findClass RX5 = some m.cls := hown
  have hl : lv_has ls 7 [(0, .ref (ad 0)), (1, .ref (ad (13 + 3 * n1))), (2, .int x2), (3, .int x3)] := hl
  have hi_X5 : ∀ w ∈ u_ws RX5 TX5 8, w ∈ wsX5_getFiles := by decide +kernel
  have hi_X1 : ∀ w ∈ u_ws RX1 TX1 10, w ∈ wsX5_getFiles := by decide +kernel
  have hS : va_S (fun q => z ≤ q) s.heap s.heap [] := va_S.rf
  have L_lq_X5_getFiles_3 : ∀ (n3 : Nat) (M : Mem) (x4 : Int32) (H : Heap) (locs : List Loc) (ls : Array Slot), it2 (lq_X5_getFiles_3 nm n1 x2 x3) n3 M x4 = some (r, Mr) → va_P D vwCl (wl ad kc nm M) H → va_S (fun q => z ≤ q) s.heap H locs → lv_has ls 7 [(0, .ref (ad 0)), (1, .ref (ad (13 + 3 * n1))), (2, .int x2), (3, .int x3), (4, .int x4)] → W p l e rm_X5_getFiles s m args below meth c H locs 0 0 Q (F0 m 3 ls []) := by
    intro n3
    induction n3 with
    | zero =>
      intro M x4 H locs ls h hP hS hl
      exact (it2_0 h).elim
    | succ n3 ih3 =>
      have B_bk_X5_getFiles_72 : ∀ (M : Mem) (x4 : Int32) (H : Heap) (locs : List Loc) (ls : Array Slot), bk_X5_getFiles_72 (it2 (lq_X5_getFiles_3 nm n1 x2 x3) n3) nm M n1 x2 x3 x4 = some (r, Mr) → va_P D vwCl (wl ad kc nm M) H → va_S (fun q => z ≤ q) s.heap H locs → lv_has ls 7 [(0, .ref (ad 0)), (1, .ref (ad (13 + 3 * n1))), (2, .int x2), (3, .int x3), (4, .int x4)] → W p l e rm_X5_getFiles s m args below meth c H locs 0 0 Q (F0 m 72 ls []) := by
        intro M x4 H locs ls h hP hS hl
        obtain ⟨v1, ev1, h⟩ := q_nx h
        refine lv_iinc (v := v1) (lv' := [(4, .int v1), (0, .ref (ad 0)), (1, .ref (ad (13 + 3 * n1))), (2, .int x2), (3, .int x3)]) hx hb dX5_getFiles_72 hl (k := 4) rfl (by rw [ev1]; rfl) (by decide) rfl (fun ls hl => ?_)
        refine lv_goto (tgt := 3) hx hb dX5_getFiles_75 (by decide) ?_
        exact ih3 M v1 H locs ls  h hP hS (lv_sub hl [1, 2, 3, 4, 0] rfl)
      intro M x4 H locs ls h hP hS hl
      have h := it2_s h
      refine lv_iload hx hb dX5_getFiles_3 (lv_at hl 4 rfl) ?_
      refine lv_bipush (v := 12) hx hb dX5_getFiles_5 (by decide) ?_
      refine lv_icmp_ge (tgt := 78) hx hb dX5_getFiles_7 (by decide) (fun c2 => ?_) (fun c2 => ?_)
      · have h := q_t c2 h
        refine lv_iconst (v := -1) hx hb dX5_getFiles_78 (by decide) ?_
        exact q_rWi hQ hx hb hr hlk hP hS h dX5_getFiles_79
      · have h := q_f c2 h
        refine lv_iload_n hx hb dX5_getFiles_10 rfl (lv_at hl 2 rfl) ?_
        refine lv_iload hx hb dX5_getFiles_11 (lv_at hl 4 rfl) ?_
        obtain ⟨r4, hc3, h⟩ := q_bd1 h
        refine q_cRz (va_runS (As := [.int x2, .int x4]) (rest := []) ⟨hx, hb, hml, hown, hts⟩ (ct_X5_isIn l hAD (M := M) hc3) (va_cwS 2 hts gX5_getFiles_X5_isIn rfl rfl rfl (by decide +kernel) ⟨Nat.le_of_ble_eq_true rfl, Nat.le_of_ble_eq_true rfl⟩) ⟨gw_blind, gw_pre _ hK hP (Nat.le_trans hz hS.1) hN⟩ rfl rfl hl.1 rfl (lv_room (Nat.le_of_ble_eq_true rfl)) dX5_getFiles_13 ⟨Nat.zero_le _, Nat.zero_le _⟩) (fun hzr4 => ?_)
        refine lv_if_ne (tgt := 22) hx hb dX5_getFiles_16 (by decide) (fun c8 => ?_) (fun c8 => ?_)
        · have h := q_f c8 h
          refine lv_aload_n hx hb dX5_getFiles_22 rfl (lv_at hl 0 rfl) ?_
          refine q_getR hx hb hts hi_X5 hown hK hP ob_0 rfl 0 (by decide) rfl (hts (.fieldLink RX5 12 "MirrorNet" "shelf" "LMirrorNet$Shelf;") (by decide +kernel)) (fun _ h9 => h9) dX5_getFiles_23 ?_
          refine lv_aload_n hx hb dX5_getFiles_26 rfl (lv_at hl 0 rfl) ?_
          refine q_getR hx hb hts hi_X5 hown hK hP ob_0 rfl 4 (by decide) rfl (hts (.fieldLink RX5 39 "MirrorNet" "latest" "LMirrorNet$Asking;") (by decide +kernel)) (fun _ h9 => h9) dX5_getFiles_27 ?_
          refine q_getIN hx hb hts hi_X1 hown hK hP ob_31 rfl 4 (by decide) rfl (hN (.fieldLinkNest RX5 195 "MirrorNet$Asking" "index" "I" "MirrorNet") nw_13) (fun _ h9 => h9) dX5_getFiles_30 ?_
          refine lv_iload hx hb dX5_getFiles_33 (lv_at hl 4 rfl) ?_
          obtain ⟨r10, hc9, h⟩ := q_bd1 h
          refine q_cRi (va_runVN (C := RX4) (As := [.int (gI M 31 4), .int x4]) (rest := []) ⟨hx, hb, hml, hown, hts⟩ (ct_X4_namedBy l hAD (M := M) hc9) ⟨va_cnB 2 hts gX5_getFiles_X4_namedBy_n66 rfl rfl rfl (hN (.methodLinkNest RX5 66 yX4_namedBy "MirrorNet") nw_24) (hts (.initialized RX4) (by decide +kernel)) (by decide +kernel) ⟨Nat.le_of_ble_eq_true rfl, Nat.le_of_ble_eq_true rfl⟩, hts (.instanceMethod yX4_namedBy) (by decide +kernel), hts (.selects RX4 yX4_namedBy yX4_namedBy) (by decide +kernel)⟩ ⟨gw_blind, gw_recv ob_1 hK hP rfl, gw_pre _ hK hP (Nat.le_trans hz hS.1) hN⟩ rfl rfl hl.1 rfl (lv_room (Nat.le_of_ble_eq_true rfl)) dX5_getFiles_35 ⟨Nat.zero_le _, Nat.zero_le _⟩) ?_
          refine lv_istore (lv' := [(5, .int r10), (0, .ref (ad 0)), (1, .ref (ad (13 + 3 * n1))), (2, .int x2), (3, .int x3), (4, .int x4)]) hx hb dX5_getFiles_38 hl (by decide) rfl (fun ls hl => ?_)
          refine lv_aload_n hx hb dX5_getFiles_40 rfl (lv_at hl 1 rfl) ?_
          refine lv_aload_n hx hb dX5_getFiles_41 rfl (lv_at hl 2 rfl) ?_
          refine lv_iload hx hb dX5_getFiles_42 (lv_at hl 0 rfl) ?_
          refine lv_iload_n hx hb dX5_getFiles_44 rfl (lv_at hl 4 rfl) ?_
          obtain ⟨r15, M16, hc14, h⟩ := q_bd2 h
          refine q_cWi (va_runV (C := RX5) (As := [.ref (ad (13 + 3 * n1)), .int r10, .int x3]) (rest := []) ⟨hx, hb, hml, hown, hts⟩ (ct_X5_findGiver l hAD (M := M) hn1 hc14) (cwV 3 hts gX5_getFiles_X5_findGiver rfl rfl rfl (by decide +kernel) ⟨Nat.le_of_ble_eq_true rfl, Nat.le_of_ble_eq_true rfl⟩) ⟨gw_blind, gw_recv ob_0 hK hP rfl, gw_pre _ hK hP (Nat.le_trans hz hS.1) hN⟩ rfl rfl hl.1 rfl (lv_room (Nat.le_of_ble_eq_true rfl)) dX5_getFiles_45 ⟨Nat.zero_le _, Nat.zero_le _⟩) hS (fun H locs hP hS => ?_)
          refine lv_istore (lv' := [(6, .int r15), (5, .int r10), (0, .ref (ad 0)), (1, .ref (ad (13 + 3 * n1))), (2, .int x2), (3, .int x3), (4, .int x4)]) hx hb dX5_getFiles_48 hl (by decide) rfl (fun ls hl => ?_)
          refine lv_iload hx hb dX5_getFiles_50 (lv_at hl 0 rfl) ?_
          refine lv_iconst (v := -1) hx hb dX5_getFiles_52 (by decide) ?_
          refine lv_icmp_ne (tgt := 59) hx hb dX5_getFiles_53 (by decide) (fun c19 => ?_) (fun c19 => ?_)
          · have h := q_f c19 h
            refine lv_aload_n hx hb dX5_getFiles_59 rfl (lv_at hl 2 rfl) ?_
            refine q_getR hx hb hts hi_X5 hown hK hP ob_0 rfl 4 (by decide) rfl (hts (.fieldLink RX5 39 "MirrorNet" "latest" "LMirrorNet$Asking;") (by decide +kernel)) (fun _ h9 => h9) dX5_getFiles_60 ?_
            refine lv_iload hx hb dX5_getFiles_63 (lv_at hl 1 rfl) ?_
            refine lv_iload hx hb dX5_getFiles_65 (lv_at hl 6 rfl) ?_
            refine lv_iload hx hb dX5_getFiles_67 (lv_at hl 0 rfl) ?_
            obtain ⟨M22, hc20, h⟩ := q_bd1 h
            refine q_cWv (va_runVN (C := RX1) (As := [.int r10, .int x4, .int r15]) (rest := []) ⟨hx, hb, hml, hown, hts⟩ (ct_X1_keepGot l hAD (M := M16) hc20) ⟨va_cnB 3 hts gX5_getFiles_X1_keepGot_n273 rfl rfl rfl (hN (.methodLinkNest RX5 273 yX1_keepGot "MirrorNet") nw_65) (hts (.initialized RX1) (by decide +kernel)) (by decide +kernel) ⟨Nat.le_of_ble_eq_true rfl, Nat.le_of_ble_eq_true rfl⟩, hts (.instanceMethod yX1_keepGot) (by decide +kernel), hts (.selects RX1 yX1_keepGot yX1_keepGot) (by decide +kernel)⟩ ⟨gw_blind, gw_recv ob_31 hK hP rfl, gw_pre _ hK hP (Nat.le_trans hz hS.1) hN⟩ rfl rfl hl.1 rfl (lv_room (Nat.le_of_ble_eq_true rfl)) dX5_getFiles_69 ⟨Nat.zero_le _, Nat.zero_le _⟩) hS (fun H locs hP hS => ?_)
            exact B_bk_X5_getFiles_72 M22 x4 H locs ls  h hP hS (lv_sub hl [2, 3, 4, 5, 6] rfl)
          · have h := q_t c19 h
            refine lv_iload hx hb dX5_getFiles_56 (lv_at hl 6 rfl) ?_
            exact q_rWi hQ hx hb hr hlk hP hS h dX5_getFiles_58
        · have h := q_t c8 h
          refine lv_goto (tgt := 72) hx hb dX5_getFiles_19 (by decide) ?_
          exact B_bk_X5_getFiles_72 M x4 H locs ls  h hP hS (lv_sub hl [0, 1, 2, 3, 4] rfl)
  obtain ⟨H, eH⟩ : ∃ H : Heap, H = s.heap := ⟨_, rfl⟩
  obtain ⟨locs, eL⟩ : ∃ L : List Loc, L = [] := ⟨_, rfl⟩
  have hP : va_P D vwCl (wl ad kc nm M) H := by rw [eH]; exact hP
  have hS : va_S (fun q => z ≤ q) s.heap H locs := by rw [eH, eL]; exact hS
  refine q_start eH eL ?_
  refine lv_iconst (v := 0) hx hb dX5_getFiles_0 (by decide) ?_
  refine lv_istore (lv' := [(4, .int (0 : Int32)), (0, .ref (ad 0)), (1, .ref (ad (13 + 3 * n1))), (2, .int x2), (3, .int x3)]) hx hb dX5_getFiles_1 hl (by decide) rfl (fun ls hl => ?_)
  exact L_lq_X5_getFiles_3 FU M (0 : Int32) H locs ls  h hP hS (lv_sub hl [1, 2, 3, 4, 0] rfl)
def rm_X5_carryOut : Room := { frames := 5, cells := 0, slots := 0, locals := 116 }
set_option maxHeartbeats 4000000 in
set_option maxRecDepth 100000 in
theorem ct_X5_carryOut (l : Launch) {D : va_G} {ad : Nat → Nat} {kc : Nat → ClassId} {nm z : Nat} (hAD : AD ad nm z) {M : Mem} {n1 : Nat} {x2 : Int32} {x3 : Int32} {r : Int32} {Mr : Mem} (hn1 : n1 < 6) (h : fn_X5_carryOut nm M n1 x2 x3 = some (r, Mr)) : Met l yX5_carryOut wsX5_carryOut rm_X5_carryOut (va_Pc [.ref (ad 0), .ref (ad (13 + 3 * n1)), .int x2, .int x3] (GW D ad kc nm z M)) (QWi D ad kc nm z r Mr) 0 0 (fun q => z ≤ q) := by
  refine q_met (cc := cX5_carryOut) (maxL := 4) (ret := (some .int)) (by decide) rfl (Nat.le_of_ble_eq_true rfl) ?_
  intro p e s m args below meth c Q ls hx hb hr hlk hml hown hts hB hQ hl
  obtain ⟨hP, hK, hz, hN⟩ := hB
  have hown : s.vm.findClass RX5 = some m.cls := hown
  have hl : lv_has ls 4 [(0, .ref (ad 0)), (1, .ref (ad (13 + 3 * n1))), (2, .int x2), (3, .int x3)] := hl
  have hi_X5 : ∀ w ∈ u_ws RX5 TX5 8, w ∈ wsX5_carryOut := by decide +kernel
  have hi_X1 : ∀ w ∈ u_ws RX1 TX1 10, w ∈ wsX5_carryOut := by decide +kernel
  have hi_X0 : ∀ w ∈ u_ws RX0 TX0 6, w ∈ wsX5_carryOut := by decide +kernel
  have hS : va_S (fun q => z ≤ q) s.heap s.heap [] := va_S.rf
  obtain ⟨H, eH⟩ : ∃ H : Heap, H = s.heap := ⟨_, rfl⟩
  obtain ⟨locs, eL⟩ : ∃ L : List Loc, L = [] := ⟨_, rfl⟩
  have hP : va_P D vwCl (wl ad kc nm M) H := by rw [eH]; exact hP
  have hS : va_S (fun q => z ≤ q) s.heap H locs := by rw [eH, eL]; exact hS
  refine q_start eH eL ?_
  refine lv_aload_n hx hb dX5_carryOut_0 rfl (lv_at hl 0 rfl) ?_
  refine q_getR hx hb hts hi_X5 hown hK hP ob_0 rfl 4 (by decide) rfl (hts (.fieldLink RX5 39 "MirrorNet" "latest" "LMirrorNet$Asking;") (by decide +kernel)) (fun _ h9 => h9) dX5_carryOut_1 ?_
  refine lv_aload_n hx hb dX5_carryOut_4 rfl (lv_at hl 0 rfl) ?_
  refine lv_aload_n hx hb dX5_carryOut_5 rfl (lv_at hl 1 rfl) ?_
  refine lv_iload_n hx hb dX5_carryOut_6 rfl (lv_at hl 3 rfl) ?_
  obtain ⟨r2, M3, hc1, h⟩ := q_bd2 h
  refine q_cWi (va_runV (C := RX5) (As := [.ref (ad (13 + 3 * n1)), .int x3]) (rest := [.ref (ad 31)]) ⟨hx, hb, hml, hown, hts⟩ (ct_X5_findIndex l hAD (M := M) hn1 hc1) (cwV 2 hts gX5_carryOut_X5_findIndex rfl rfl rfl (by decide +kernel) ⟨Nat.le_of_ble_eq_true rfl, Nat.le_of_ble_eq_true rfl⟩) ⟨gw_blind, gw_recv ob_0 hK hP rfl, gw_pre _ hK hP (Nat.le_trans hz hS.1) hN⟩ rfl rfl hl.1 rfl (lv_room (Nat.le_of_ble_eq_true rfl)) dX5_carryOut_7 ⟨Nat.zero_le _, Nat.zero_le _⟩) hS (fun H locs hP hS => ?_)
  obtain ⟨M6, eM6, h⟩ := q_nx h
  refine q_putIN hx hb hts hi_X1 tyX1 tyX1_ok nmX1 hown hK hP hAD hS ob_31 rfl 4 (by decide) rfl (hN (.fieldLinkNest RX5 195 "MirrorNet$Asking" "index" "I" "MirrorNet") nw_13) (fun _ h9 => h9) rfl (ty := .int) (by decide +kernel) rfl rfl dX5_carryOut_10 (fun H locs hP hS => ?_)
  rw [← eM6] at hP
  refine lv_aload_n hx hb dX5_carryOut_13 rfl (lv_at hl 0 rfl) ?_
  refine q_getR hx hb hts hi_X5 hown hK hP ob_0 rfl 4 (by decide) rfl (hts (.fieldLink RX5 39 "MirrorNet" "latest" "LMirrorNet$Asking;") (by decide +kernel)) (fun _ h9 => h9) dX5_carryOut_14 ?_
  refine q_getIN hx hb hts hi_X1 hown hK hP ob_31 rfl 4 (by decide) rfl (hN (.fieldLinkNest RX5 195 "MirrorNet$Asking" "index" "I" "MirrorNet") nw_13) (fun _ h9 => h9) dX5_carryOut_17 ?_
  refine lv_iconst (v := -1) hx hb dX5_carryOut_20 (by decide) ?_
  refine lv_icmp_ne (tgt := 26) hx hb dX5_carryOut_21 (by decide) (fun c7 => ?_) (fun c7 => ?_)
  · have h := q_f c7 h
    refine lv_aload_n hx hb dX5_carryOut_26 rfl (lv_at hl 1 rfl) ?_
    refine lv_aload_n hx hb dX5_carryOut_27 rfl (lv_at hl 0 rfl) ?_
    refine q_getR hx hb hts hi_X5 hown hK hP ob_0 rfl 4 (by decide) rfl (hts (.fieldLink RX5 39 "MirrorNet" "latest" "LMirrorNet$Asking;") (by decide +kernel)) (fun _ h9 => h9) dX5_carryOut_28 ?_
    refine q_getIN hx hb hts hi_X1 hown hK hP ob_31 rfl 4 (by decide) rfl (hN (.fieldLinkNest RX5 195 "MirrorNet$Asking" "index" "I" "MirrorNet") nw_13) (fun _ h9 => h9) dX5_carryOut_31 ?_
    obtain ⟨M8, eM8, h⟩ := q_nx h
    refine q_putIN hx hb hts hi_X0 tyX0 tyX0_ok nmX0 hown hK hP hAD hS (ob_asker hn1) rfl 4 (by decide) rfl (hN (.fieldLinkNest RX5 172 "MirrorNet$Asker" "last" "I" "MirrorNet") nw_9) (fun _ h9 => h9) rfl (ty := .int) (by decide +kernel) rfl rfl dX5_carryOut_34 (fun H locs hP hS => ?_)
    rw [← eM8] at hP
    refine lv_aload_n hx hb dX5_carryOut_37 rfl (lv_at hl 0 rfl) ?_
    refine q_getR hx hb hts hi_X5 hown hK hP ob_0 rfl 4 (by decide) rfl (hts (.fieldLink RX5 39 "MirrorNet" "latest" "LMirrorNet$Asking;") (by decide +kernel)) (fun _ h9 => h9) dX5_carryOut_38 ?_
    refine lv_aload_n hx hb dX5_carryOut_41 rfl (lv_at hl 0 rfl) ?_
    refine lv_aload_n hx hb dX5_carryOut_42 rfl (lv_at hl 0 rfl) ?_
    refine q_getR hx hb hts hi_X5 hown hK hP ob_0 rfl 4 (by decide) rfl (hts (.fieldLink RX5 39 "MirrorNet" "latest" "LMirrorNet$Asking;") (by decide +kernel)) (fun _ h9 => h9) dX5_carryOut_43 ?_
    refine q_getIN hx hb hts hi_X1 hown hK hP ob_31 rfl 4 (by decide) rfl (hN (.fieldLinkNest RX5 195 "MirrorNet$Asking" "index" "I" "MirrorNet") nw_13) (fun _ h9 => h9) dX5_carryOut_46 ?_
    refine lv_iload_n hx hb dX5_carryOut_49 rfl (lv_at hl 2 rfl) ?_
    obtain ⟨r10, hc9, h⟩ := q_bd1 h
    refine q_cRi (va_runV (C := RX5) (As := [.int (gI M8 31 4), .int x2]) (rest := [.ref (ad 31)]) ⟨hx, hb, hml, hown, hts⟩ (ct_X5_firstNotNamed l hAD (M := M8) hc9) (cwV 2 hts gX5_carryOut_X5_firstNotNamed rfl rfl rfl (by decide +kernel) ⟨Nat.le_of_ble_eq_true rfl, Nat.le_of_ble_eq_true rfl⟩) ⟨gw_blind, gw_recv ob_0 hK hP rfl, gw_pre _ hK hP (Nat.le_trans hz hS.1) hN⟩ rfl rfl hl.1 rfl (lv_room (Nat.le_of_ble_eq_true rfl)) dX5_carryOut_50 ⟨Nat.zero_le _, Nat.zero_le _⟩) ?_
    obtain ⟨M14, eM14, h⟩ := q_nx h
    refine q_putIN hx hb hts hi_X1 tyX1 tyX1_ok nmX1 hown hK hP hAD hS ob_31 rfl 8 (by decide) rfl (hN (.fieldLinkNest RX5 205 "MirrorNet$Asking" "lacking" "I" "MirrorNet") nw_17) (fun _ h9 => h9) rfl (ty := .int) (by decide +kernel) rfl rfl dX5_carryOut_53 (fun H locs hP hS => ?_)
    rw [← eM14] at hP
    refine lv_aload_n hx hb dX5_carryOut_56 rfl (lv_at hl 0 rfl) ?_
    refine q_getR hx hb hts hi_X5 hown hK hP ob_0 rfl 4 (by decide) rfl (hts (.fieldLink RX5 39 "MirrorNet" "latest" "LMirrorNet$Asking;") (by decide +kernel)) (fun _ h9 => h9) dX5_carryOut_57 ?_
    refine q_getIN hx hb hts hi_X1 hown hK hP ob_31 rfl 8 (by decide) rfl (hN (.fieldLinkNest RX5 205 "MirrorNet$Asking" "lacking" "I" "MirrorNet") nw_17) (fun _ h9 => h9) dX5_carryOut_60 ?_
    refine lv_iconst (v := -1) hx hb dX5_carryOut_63 (by decide) ?_
    refine lv_icmp_eq (tgt := 69) hx hb dX5_carryOut_64 (by decide) (fun c15 => ?_) (fun c15 => ?_)
    · have h := q_t c15 h
      refine lv_aload_n hx hb dX5_carryOut_69 rfl (lv_at hl 0 rfl) ?_
      refine q_getR hx hb hts hi_X5 hown hK hP ob_0 rfl 4 (by decide) rfl (hts (.fieldLink RX5 39 "MirrorNet" "latest" "LMirrorNet$Asking;") (by decide +kernel)) (fun _ h9 => h9) dX5_carryOut_70 ?_
      refine lv_aload_n hx hb dX5_carryOut_73 rfl (lv_at hl 0 rfl) ?_
      refine lv_aload_n hx hb dX5_carryOut_74 rfl (lv_at hl 1 rfl) ?_
      refine lv_iload_n hx hb dX5_carryOut_75 rfl (lv_at hl 2 rfl) ?_
      refine lv_iload_n hx hb dX5_carryOut_76 rfl (lv_at hl 3 rfl) ?_
      obtain ⟨r17, M18, hc16, h⟩ := q_bd2 h
      refine q_cWi (va_runV (C := RX5) (As := [.ref (ad (13 + 3 * n1)), .int x2, .int x3]) (rest := [.ref (ad 31)]) ⟨hx, hb, hml, hown, hts⟩ (ct_X5_getFiles l hAD (M := M14) hn1 hc16) (cwV 3 hts gX5_carryOut_X5_getFiles rfl rfl rfl (by decide +kernel) ⟨Nat.le_of_ble_eq_true rfl, Nat.le_of_ble_eq_true rfl⟩) ⟨gw_blind, gw_recv ob_0 hK hP rfl, gw_pre _ hK hP (Nat.le_trans hz hS.1) hN⟩ rfl rfl hl.1 rfl (lv_room (Nat.le_of_ble_eq_true rfl)) dX5_carryOut_77 ⟨Nat.zero_le _, Nat.zero_le _⟩) hS (fun H locs hP hS => ?_)
      obtain ⟨M21, eM21, h⟩ := q_nx h
      refine q_putIN hx hb hts hi_X1 tyX1 tyX1_ok nmX1 hown hK hP hAD hS ob_31 rfl 8 (by decide) rfl (hN (.fieldLinkNest RX5 205 "MirrorNet$Asking" "lacking" "I" "MirrorNet") nw_17) (fun _ h9 => h9) rfl (ty := .int) (by decide +kernel) rfl rfl dX5_carryOut_80 (fun H locs hP hS => ?_)
      rw [← eM21] at hP
      refine lv_aload_n hx hb dX5_carryOut_83 rfl (lv_at hl 0 rfl) ?_
      refine q_getR hx hb hts hi_X5 hown hK hP ob_0 rfl 4 (by decide) rfl (hts (.fieldLink RX5 39 "MirrorNet" "latest" "LMirrorNet$Asking;") (by decide +kernel)) (fun _ h9 => h9) dX5_carryOut_84 ?_
      refine q_getIN hx hb hts hi_X1 hown hK hP ob_31 rfl 8 (by decide) rfl (hN (.fieldLinkNest RX5 205 "MirrorNet$Asking" "lacking" "I" "MirrorNet") nw_17) (fun _ h9 => h9) dX5_carryOut_87 ?_
      refine lv_iconst (v := -1) hx hb dX5_carryOut_90 (by decide) ?_
      refine lv_icmp_ne (tgt := 98) hx hb dX5_carryOut_91 (by decide) (fun c22 => ?_) (fun c22 => ?_)
      · have h := q_f c22 h
        refine lv_iconst (v := 3) hx hb dX5_carryOut_98 (by decide) ?_
        exact q_rWi hQ hx hb hr hlk hP hS h dX5_carryOut_99
      · have h := q_t c22 h
        refine lv_iconst (v := 0) hx hb dX5_carryOut_94 (by decide) ?_
        refine lv_goto (tgt := 99) hx hb dX5_carryOut_95 (by decide) ?_
        exact q_rWi hQ hx hb hr hlk hP hS h dX5_carryOut_99
    · have h := q_f c15 h
      refine lv_iconst (v := 2) hx hb dX5_carryOut_67 (by decide) ?_
      exact q_rWi hQ hx hb hr hlk hP hS h dX5_carryOut_68
  · have h := q_t c7 h
    refine lv_iconst (v := 1) hx hb dX5_carryOut_24 (by decide) ?_
    exact q_rWi hQ hx hb hr hlk hP hS h dX5_carryOut_25
def rm_X5_wouldAnswer : Room := { frames := 2, cells := 0, slots := 0, locals := 43 }
set_option maxHeartbeats 4000000 in
set_option maxRecDepth 100000 in
theorem ct_X5_wouldAnswer (l : Launch) {D : va_G} {ad : Nat → Nat} {kc : Nat → ClassId} {nm z : Nat} (hAD : AD ad nm z) {M : Mem} {n0 : Nat} {n1 : Nat} {x2 : Int32} {x3 : Int32} {r : Int32} (hn0 : n0 < 6) (hn1 : n1 < nm) (h : fn_X5_wouldAnswer M n0 n1 x2 x3 = some r) : Met l yX5_wouldAnswer wsX5_wouldAnswer rm_X5_wouldAnswer (va_Pc [.ref (ad (13 + 3 * n0)), .ref (ad (62 + 2 * n1)), .int x2, .int x3] (GW D ad kc nm z M)) (QRz r) 0 0 (fun _ => False) := by
  refine q_met (cc := cX5_wouldAnswer) (maxL := 4) (ret := (some .boolean)) (by decide) rfl (Nat.le_of_ble_eq_true rfl) ?_
  intro p e s m args below meth c Q ls hx hb hr hlk hml hown hts hB hQ hl
  obtain ⟨hP, hK, hz, hN⟩ := hB
  have hown : s.vm.findClass RX5 = some m.cls := hown
  have hl : lv_has ls 4 [(0, .ref (ad (13 + 3 * n0))), (1, .ref (ad (62 + 2 * n1))), (2, .int x2), (3, .int x3)] := hl
  have hi_X3 : ∀ w ∈ u_ws RX3 TX3 10, w ∈ wsX5_wouldAnswer := by decide +kernel
  refine lv_aload_n hx hb dX5_wouldAnswer_0 rfl (lv_at hl 0 rfl) ?_
  refine lv_iload_n hx hb dX5_wouldAnswer_1 rfl (lv_at hl 2 rfl) ?_
  obtain ⟨r2, hc1, h⟩ := q_bd1 h
  refine q_cRi (va_runVN (C := RX0) (As := [.int x2]) (rest := []) ⟨hx, hb, hml, hown, hts⟩ (ct_X0_costOf l hAD (M := M) hn0 hc1) ⟨va_cnB 1 hts gX5_wouldAnswer_X0_costOf_n155 rfl rfl rfl (hN (.methodLinkNest RX5 155 yX0_costOf "MirrorNet") nw_54) (hts (.initialized RX0) (by decide +kernel)) (by decide +kernel) ⟨Nat.le_of_ble_eq_true rfl, Nat.le_of_ble_eq_true rfl⟩, hts (.instanceMethod yX0_costOf) (by decide +kernel), hts (.selects RX0 yX0_costOf yX0_costOf) (by decide +kernel)⟩ ⟨gw_blind, gw_recv (ob_asker hn0) hK hP rfl, gw_pre _ hK hP hz hN⟩ rfl rfl hl.1 rfl (lv_room (Nat.le_of_ble_eq_true rfl)) dX5_wouldAnswer_2 ⟨Nat.zero_le _, Nat.zero_le _⟩) ?_
  refine lv_iconst (v := -1) hx hb dX5_wouldAnswer_5 (by decide) ?_
  refine lv_icmp_eq (tgt := 28) hx hb dX5_wouldAnswer_6 (by decide) (fun c6 => ?_) (fun c6 => ?_)
  · have h := q_t c6 h
    refine lv_iconst (v := 0) hx hb dX5_wouldAnswer_28 (by decide) ?_
    exact q_rRz hQ hx hb hr hlk h (Or.inl rfl) dX5_wouldAnswer_29
  · have h := q_f c6 h
    refine lv_iload_n hx hb dX5_wouldAnswer_9 rfl (lv_at hl 3 rfl) ?_
    refine lv_iload_n hx hb dX5_wouldAnswer_10 rfl (lv_at hl 2 rfl) ?_
    obtain ⟨r8, hc7, h⟩ := q_bd1 h
    refine q_cRz (va_runS (As := [.int x3, .int x2]) (rest := []) ⟨hx, hb, hml, hown, hts⟩ (ct_X5_isIn l hAD (M := M) hc7) (va_cwS 2 hts gX5_wouldAnswer_X5_isIn rfl rfl rfl (by decide +kernel) ⟨Nat.le_of_ble_eq_true rfl, Nat.le_of_ble_eq_true rfl⟩) ⟨gw_blind, gw_pre _ hK hP hz hN⟩ rfl rfl hl.1 rfl (lv_room (Nat.le_of_ble_eq_true rfl)) dX5_wouldAnswer_11 ⟨Nat.zero_le _, Nat.zero_le _⟩) (fun hzr8 => ?_)
    refine lv_if_ne (tgt := 28) hx hb dX5_wouldAnswer_14 (by decide) (fun c12 => ?_) (fun c12 => ?_)
    · have h := q_f c12 h
      refine lv_iconst (v := 0) hx hb dX5_wouldAnswer_28 (by decide) ?_
      exact q_rRz hQ hx hb hr hlk h (Or.inl rfl) dX5_wouldAnswer_29
    · have h := q_t c12 h
      refine lv_aload_n hx hb dX5_wouldAnswer_17 rfl (lv_at hl 1 rfl) ?_
      refine q_getIN hx hb hts hi_X3 hown hK hP (ob_mirror hn1) rfl 9 (by decide) rfl (hN (.fieldLinkNest RX5 106 "MirrorNet$Mirror" "isLiar" "Z" "MirrorNet") nw_39) (fun _ h9 => h9) dX5_wouldAnswer_18 ?_
      refine lv_if_ne (tgt := 28) hx hb dX5_wouldAnswer_21 (by decide) (fun c13 => ?_) (fun c13 => ?_)
      · have h := q_f c13 h
        refine lv_iconst (v := 0) hx hb dX5_wouldAnswer_28 (by decide) ?_
        exact q_rRz hQ hx hb hr hlk h (Or.inl rfl) dX5_wouldAnswer_29
      · have h := q_t c13 h
        refine lv_iconst (v := 1) hx hb dX5_wouldAnswer_24 (by decide) ?_
        refine lv_goto (tgt := 29) hx hb dX5_wouldAnswer_25 (by decide) ?_
        exact q_rRz hQ hx hb hr hlk h (Or.inr rfl) dX5_wouldAnswer_29
def rm_X5_leastForIndex : Room := { frames := 4, cells := 0, slots := 0, locals := 91 }
set_option maxHeartbeats 4000000 in
set_option maxRecDepth 100000 in
theorem ct_X5_leastForIndex (l : Launch) {D : va_G} {ad : Nat → Nat} {kc : Nat → ClassId} {nm z : Nat} (hAD : AD ad nm z) {M : Mem} {n1 : Nat} {x2 : Int32} {x3 : Int32} {x4 : Int32} {r : Int32} (hn1 : n1 < 6) (h : fn_X5_leastForIndex nm M n1 x2 x3 x4 = some r) : Met l yX5_leastForIndex wsX5_leastForIndex rm_X5_leastForIndex (va_Pc [.ref (ad 0), .ref (ad (13 + 3 * n1)), .int x2, .int x3, .int x4] (GW D ad kc nm z M)) (QRi r) 0 0 (fun _ => False) := by
  refine q_met (cc := cX5_leastForIndex) (maxL := 8) (ret := (some .int)) (by decide) rfl (Nat.le_of_ble_eq_true rfl) ?_
  intro p e s m args below meth c Q ls hx hb hr hlk hml hown hts hB hQ hl
  obtain ⟨hP, hK, hz, hN⟩ := hB
  have hown : s.vm.findClass RX5 = some m.cls := hown
  have hl : lv_has ls 8 [(0, .ref (ad 0)), (1, .ref (ad (13 + 3 * n1))), (2, .int x2), (3, .int x3), (4, .int x4)] := hl
  have hi_X5 : ∀ w ∈ u_ws RX5 TX5 8, w ∈ wsX5_leastForIndex := by decide +kernel
  have hi_X3 : ∀ w ∈ u_ws RX3 TX3 10, w ∈ wsX5_leastForIndex := by decide +kernel
  have hi_X0 : ∀ w ∈ u_ws RX0 TX0 6, w ∈ wsX5_leastForIndex := by decide +kernel
  have hi_X1 : ∀ w ∈ u_ws RX1 TX1 10, w ∈ wsX5_leastForIndex := by decide +kernel
  have L_lq_X5_leastForIndex_7 : ∀ (n7 : Nat) (x5 : Int32) (x6 : Int32) (ls : Array Slot), it2 (lq_X5_leastForIndex_7 nm M n1 x2 x3 x4) n7 x5 x6 = some r → lv_has ls 8 [(0, .ref (ad 0)), (1, .ref (ad (13 + 3 * n1))), (2, .int x2), (3, .int x3), (4, .int x4), (5, .int x5), (6, .int x6)] → W p l e rm_X5_leastForIndex s m args below meth c s.heap [] 0 0 Q (F0 m 7 ls []) := by
    intro n7
    induction n7 with
    | zero =>
      intro x5 x6 ls h hl
      exact (it2_0 h).elim
    | succ n7 ih7 =>
      have B_bk_X5_leastForIndex_95 : ∀ (x5 : Int32) (x6 : Int32) (ls : Array Slot), bk_X5_leastForIndex_95 (it2 (lq_X5_leastForIndex_7 nm M n1 x2 x3 x4) n7) nm M n1 x2 x3 x4 x5 x6 = some r → lv_has ls 8 [(0, .ref (ad 0)), (1, .ref (ad (13 + 3 * n1))), (2, .int x2), (3, .int x3), (4, .int x4), (5, .int x5), (6, .int x6)] → W p l e rm_X5_leastForIndex s m args below meth c s.heap [] 0 0 Q (F0 m 95 ls []) := by
        intro x5 x6 ls h hl
        obtain ⟨v1, ev1, h⟩ := q_nx h
        refine lv_iinc (v := v1) (lv' := [(6, .int v1), (0, .ref (ad 0)), (1, .ref (ad (13 + 3 * n1))), (2, .int x2), (3, .int x3), (4, .int x4), (5, .int x5)]) hx hb dX5_leastForIndex_95 hl (k := 6) rfl (by rw [ev1]; rfl) (by decide) rfl (fun ls hl => ?_)
        refine lv_goto (tgt := 7) hx hb dX5_leastForIndex_98 (by decide) ?_
        exact ih7 x5 v1 ls  h (lv_sub hl [1, 2, 3, 4, 5, 6, 0] rfl)
      intro x5 x6 ls h hl
      have h := it2_s h
      refine lv_iload hx hb dX5_leastForIndex_7 (lv_at hl 6 rfl) ?_
      refine lv_aload_n hx hb dX5_leastForIndex_9 rfl (lv_at hl 0 rfl) ?_
      refine q_getI hx hb hts hi_X5 hown hK hP ob_0 rfl 5 (by decide) rfl (hts (.fieldLink RX5 90 "MirrorNet" "mirrorCount" "I") (by decide +kernel)) (fun _ h9 => h9) dX5_leastForIndex_10 ?_
      refine lv_icmp_ge (tgt := 101) hx hb dX5_leastForIndex_13 (by decide) (fun c2 => ?_) (fun c2 => ?_)
      · have h := q_t c2 h
        refine lv_iload hx hb dX5_leastForIndex_101 (lv_at hl 5 rfl) ?_
        exact q_rRi hQ hx hb hr hlk h dX5_leastForIndex_103
      · have h := q_f c2 h
        refine lv_aload_n hx hb dX5_leastForIndex_16 rfl (lv_at hl 0 rfl) ?_
        refine lv_iload hx hb dX5_leastForIndex_17 (lv_at hl 6 rfl) ?_
        obtain ⟨r4, hc3, h⟩ := q_bd1 h
        refine q_cRm (va_runV (C := RX5) (As := [.int x6]) (rest := []) ⟨hx, hb, hml, hown, hts⟩ (ct_X5_mirrorAt l hAD (M := M) hc3) (cwV 1 hts gX5_leastForIndex_X5_mirrorAt rfl rfl rfl (by decide +kernel) ⟨Nat.le_of_ble_eq_true rfl, Nat.le_of_ble_eq_true rfl⟩) ⟨gw_blind, gw_recv ob_0 hK hP rfl, gw_pre _ hK hP hz hN⟩ rfl rfl hl.1 rfl (lv_room (Nat.le_of_ble_eq_true rfl)) dX5_leastForIndex_19 ⟨Nat.zero_le _, Nat.zero_le _⟩) (fun ho7 => ?_) (fun q6 ho7 hq6 => ?_)
        · have h := q_ocn ho7 h
          refine lv_astoreN (lv' := [(7, .null), (0, .ref (ad 0)), (1, .ref (ad (13 + 3 * n1))), (2, .int x2), (3, .int x3), (4, .int x4), (5, .int x5), (6, .int x6)]) hx hb dX5_leastForIndex_22 hl (by decide) rfl (fun ls hl => ?_)
          refine lv_aloadN hx hb dX5_leastForIndex_24 (lv_at hl 0 rfl) ?_
          refine lv_ifnullN (tgt := 95) hx hb dX5_leastForIndex_26 (by decide) ?_
          exact B_bk_X5_leastForIndex_95 x5 x6 ls  h (lv_sub hl [1, 2, 3, 4, 5, 6, 7] rfl)
        · have h := q_ocs ho7 h
          refine lv_astore (lv' := [(7, .ref (ad (62 + 2 * q6))), (0, .ref (ad 0)), (1, .ref (ad (13 + 3 * n1))), (2, .int x2), (3, .int x3), (4, .int x4), (5, .int x5), (6, .int x6)]) hx hb dX5_leastForIndex_22 hl (by decide) rfl (fun ls hl => ?_)
          refine lv_aload hx hb dX5_leastForIndex_24 (lv_at hl 0 rfl) ?_
          refine lv_ifnull hx hb dX5_leastForIndex_26 ?_
          refine lv_aload_n hx hb dX5_leastForIndex_29 rfl (lv_at hl 2 rfl) ?_
          refine lv_aload hx hb dX5_leastForIndex_30 (lv_at hl 0 rfl) ?_
          refine lv_iload hx hb dX5_leastForIndex_32 (lv_at hl 7 rfl) ?_
          refine lv_iload hx hb dX5_leastForIndex_34 (lv_at hl 5 rfl) ?_
          obtain ⟨r9, hc8, h⟩ := q_bd1 h
          refine q_cRz (va_runS (As := [.ref (ad (13 + 3 * n1)), .ref (ad (62 + 2 * q6)), .int x6, .int x4]) (rest := []) ⟨hx, hb, hml, hown, hts⟩ (ct_X5_wouldAnswer l hAD (M := M) hn1 hq6 hc8) (va_cwS 4 hts gX5_leastForIndex_X5_wouldAnswer rfl rfl rfl (by decide +kernel) ⟨Nat.le_of_ble_eq_true rfl, Nat.le_of_ble_eq_true rfl⟩) ⟨gw_blind, gw_pre _ hK hP hz hN⟩ rfl rfl hl.1 rfl (lv_room (Nat.le_of_ble_eq_true rfl)) dX5_leastForIndex_36 ⟨Nat.zero_le _, Nat.zero_le _⟩) (fun hzr9 => ?_)
          refine lv_if_eq (tgt := 95) hx hb dX5_leastForIndex_39 (by decide) (fun c13 => ?_) (fun c13 => ?_)
          · have h := q_t c13 h
            exact B_bk_X5_leastForIndex_95 x5 x6 ls  h (lv_sub hl [1, 2, 3, 4, 5, 6, 7] rfl)
          · have h := q_f c13 h
            refine lv_aload_n hx hb dX5_leastForIndex_42 rfl (lv_at hl 1 rfl) ?_
            refine lv_aload hx hb dX5_leastForIndex_43 (lv_at hl 0 rfl) ?_
            refine q_getIN hx hb hts hi_X3 hown hK hP (ob_mirror hq6) rfl 4 (by decide) rfl (hN (.fieldLinkNest RX5 113 "MirrorNet$Mirror" "index" "I" "MirrorNet") nw_34) (fun _ h9 => h9) dX5_leastForIndex_45 ?_
            refine lv_aload_n hx hb dX5_leastForIndex_48 rfl (lv_at hl 2 rfl) ?_
            refine q_getIN hx hb hts hi_X0 hown hK hP (ob_asker hn1) rfl 3 (by decide) rfl (hN (.fieldLinkNest RX5 162 "MirrorNet$Asker" "mostAge" "I" "MirrorNet") nw_8) (fun _ h9 => h9) dX5_leastForIndex_49 ?_
            refine lv_iload_n hx hb dX5_leastForIndex_52 rfl (lv_at hl 4 rfl) ?_
            obtain ⟨r15, hc14, h⟩ := q_bd1 h
            refine q_cRz (va_runV (C := RX5) (As := [.int (gI M (62 + 2 * q6) 4), .int (gI M (13 + 3 * n1) 3), .int x3]) (rest := []) ⟨hx, hb, hml, hown, hts⟩ (ct_X5_suits l hAD (M := M) hc14) (cwV 3 hts gX5_leastForIndex_X5_suits rfl rfl rfl (by decide +kernel) ⟨Nat.le_of_ble_eq_true rfl, Nat.le_of_ble_eq_true rfl⟩) ⟨gw_blind, gw_recv ob_0 hK hP rfl, gw_pre _ hK hP hz hN⟩ rfl rfl hl.1 rfl (lv_room (Nat.le_of_ble_eq_true rfl)) dX5_leastForIndex_53 ⟨Nat.zero_le _, Nat.zero_le _⟩) (fun hzr15 => ?_)
            refine lv_if_eq (tgt := 95) hx hb dX5_leastForIndex_56 (by decide) (fun c19 => ?_) (fun c19 => ?_)
            · have h := q_t c19 h
              exact B_bk_X5_leastForIndex_95 x5 x6 ls  h (lv_sub hl [1, 2, 3, 4, 5, 6, 7] rfl)
            · have h := q_f c19 h
              refine lv_aload_n hx hb dX5_leastForIndex_59 rfl (lv_at hl 1 rfl) ?_
              refine q_getR hx hb hts hi_X5 hown hK hP ob_0 rfl 0 (by decide) rfl (hts (.fieldLink RX5 12 "MirrorNet" "shelf" "LMirrorNet$Shelf;") (by decide +kernel)) (fun _ h9 => h9) dX5_leastForIndex_60 ?_
              refine lv_aload hx hb dX5_leastForIndex_63 (lv_at hl 0 rfl) ?_
              refine q_getIN hx hb hts hi_X3 hown hK hP (ob_mirror hq6) rfl 4 (by decide) rfl (hN (.fieldLinkNest RX5 113 "MirrorNet$Mirror" "index" "I" "MirrorNet") nw_34) (fun _ h9 => h9) dX5_leastForIndex_65 ?_
              refine lv_aload_n hx hb dX5_leastForIndex_68 rfl (lv_at hl 1 rfl) ?_
              refine q_getR hx hb hts hi_X5 hown hK hP ob_0 rfl 4 (by decide) rfl (hts (.fieldLink RX5 39 "MirrorNet" "latest" "LMirrorNet$Asking;") (by decide +kernel)) (fun _ h9 => h9) dX5_leastForIndex_69 ?_
              refine q_getIN hx hb hts hi_X1 hown hK hP ob_31 rfl 4 (by decide) rfl (hN (.fieldLinkNest RX5 195 "MirrorNet$Asking" "index" "I" "MirrorNet") nw_13) (fun _ h9 => h9) dX5_leastForIndex_72 ?_
              refine lv_iload_n hx hb dX5_leastForIndex_75 rfl (lv_at hl 3 rfl) ?_
              obtain ⟨r21, hc20, h⟩ := q_bd1 h
              refine q_cRz (va_runVN (C := RX4) (As := [.int (gI M (62 + 2 * q6) 4), .int (gI M 31 4), .int x2]) (rest := []) ⟨hx, hb, hml, hown, hts⟩ (ct_X4_namesAlike l hAD (M := M) hc20) ⟨va_cnB 3 hts gX5_leastForIndex_X4_namesAlike_n286 rfl rfl rfl (hN (.methodLinkNest RX5 286 yX4_namesAlike "MirrorNet") nw_66) (hts (.initialized RX4) (by decide +kernel)) (by decide +kernel) ⟨Nat.le_of_ble_eq_true rfl, Nat.le_of_ble_eq_true rfl⟩, hts (.instanceMethod yX4_namesAlike) (by decide +kernel), hts (.selects RX4 yX4_namesAlike yX4_namesAlike) (by decide +kernel)⟩ ⟨gw_blind, gw_recv ob_1 hK hP rfl, gw_pre _ hK hP hz hN⟩ rfl rfl hl.1 rfl (lv_room (Nat.le_of_ble_eq_true rfl)) dX5_leastForIndex_76 ⟨Nat.zero_le _, Nat.zero_le _⟩) (fun hzr21 => ?_)
              refine lv_if_eq (tgt := 95) hx hb dX5_leastForIndex_79 (by decide) (fun c25 => ?_) (fun c25 => ?_)
              · have h := q_t c25 h
                exact B_bk_X5_leastForIndex_95 x5 x6 ls  h (lv_sub hl [1, 2, 3, 4, 5, 6, 7] rfl)
              · have h := q_f c25 h
                refine lv_iload hx hb dX5_leastForIndex_82 (lv_at hl 6 rfl) ?_
                refine lv_aload_n hx hb dX5_leastForIndex_84 rfl (lv_at hl 2 rfl) ?_
                refine lv_iload hx hb dX5_leastForIndex_85 (lv_at hl 7 rfl) ?_
                obtain ⟨r27, hc26, h⟩ := q_bd1 h
                refine q_cRi (va_runVN (C := RX0) (As := [.int x6]) (rest := [.int x5]) ⟨hx, hb, hml, hown, hts⟩ (ct_X0_costOf l hAD (M := M) hn1 hc26) ⟨va_cnB 1 hts gX5_leastForIndex_X0_costOf_n155 rfl rfl rfl (hN (.methodLinkNest RX5 155 yX0_costOf "MirrorNet") nw_54) (hts (.initialized RX0) (by decide +kernel)) (by decide +kernel) ⟨Nat.le_of_ble_eq_true rfl, Nat.le_of_ble_eq_true rfl⟩, hts (.instanceMethod yX0_costOf) (by decide +kernel), hts (.selects RX0 yX0_costOf yX0_costOf) (by decide +kernel)⟩ ⟨gw_blind, gw_recv (ob_asker hn1) hK hP rfl, gw_pre _ hK hP hz hN⟩ rfl rfl hl.1 rfl (lv_room (Nat.le_of_ble_eq_true rfl)) dX5_leastForIndex_87 ⟨Nat.zero_le _, Nat.zero_le _⟩) ?_
                refine va_mmin hx hb (hml.trans hl.1.symm) hown (hts (.methodLink RX5 289 Lib.Math.min.name) (by decide +kernel)) (hts (.static Lib.Math.min.name) (by decide +kernel)) (hts (.initialized "java/lang/Math") (by decide +kernel)) (hts (.code Lib.Math.min.name Lib.Math.min.code 2 (some .int)) (by decide +kernel)) (Nat.le_of_ble_eq_true rfl) (Nat.le_of_ble_eq_true rfl) (Nat.zero_le _) (Nat.zero_le _) dX5_leastForIndex_90 ?_
                refine lv_topi (fun v31 ev31 => ?_)
                have h := q_nxe ev31 h
                refine lv_istore (lv' := [(5, .int v31), (7, .ref (ad (62 + 2 * q6))), (0, .ref (ad 0)), (1, .ref (ad (13 + 3 * n1))), (2, .int x2), (3, .int x3), (4, .int x4), (6, .int x6)]) hx hb dX5_leastForIndex_93 hl (by decide) rfl (fun ls hl => ?_)
                exact B_bk_X5_leastForIndex_95 v31 x6 ls  h (lv_sub hl [2, 3, 4, 5, 6, 0, 7] rfl)
  refine lv_bipush (v := 100) hx hb dX5_leastForIndex_0 (by decide) ?_
  refine lv_istore (lv' := [(5, .int (100 : Int32)), (0, .ref (ad 0)), (1, .ref (ad (13 + 3 * n1))), (2, .int x2), (3, .int x3), (4, .int x4)]) hx hb dX5_leastForIndex_2 hl (by decide) rfl (fun ls hl => ?_)
  refine lv_iconst (v := 0) hx hb dX5_leastForIndex_4 (by decide) ?_
  refine lv_istore (lv' := [(6, .int (0 : Int32)), (5, .int (100 : Int32)), (0, .ref (ad 0)), (1, .ref (ad (13 + 3 * n1))), (2, .int x2), (3, .int x3), (4, .int x4)]) hx hb dX5_leastForIndex_5 hl (by decide) rfl (fun ls hl => ?_)
  exact L_lq_X5_leastForIndex_7 FU (100 : Int32) (0 : Int32) ls  h (lv_sub hl [2, 3, 4, 5, 6, 1, 0] rfl)
def rm_X5_leastForFile : Room := { frames := 3, cells := 0, slots := 0, locals := 66 }
set_option maxHeartbeats 4000000 in
set_option maxRecDepth 100000 in
theorem ct_X5_leastForFile (l : Launch) {D : va_G} {ad : Nat → Nat} {kc : Nat → ClassId} {nm z : Nat} (hAD : AD ad nm z) {M : Mem} {n1 : Nat} {x2 : Int32} {x3 : Int32} {r : Int32} (hn1 : n1 < 6) (h : fn_X5_leastForFile nm M n1 x2 x3 = some r) : Met l yX5_leastForFile wsX5_leastForFile rm_X5_leastForFile (va_Pc [.ref (ad 0), .ref (ad (13 + 3 * n1)), .int x2, .int x3] (GW D ad kc nm z M)) (QRi r) 0 0 (fun _ => False) := by
  refine q_met (cc := cX5_leastForFile) (maxL := 7) (ret := (some .int)) (by decide) rfl (Nat.le_of_ble_eq_true rfl) ?_
  intro p e s m args below meth c Q ls hx hb hr hlk hml hown hts hB hQ hl
  obtain ⟨hP, hK, hz, hN⟩ := hB
  have hown : s.vm.findClass RX5 = some m.cls := hown
  have hl : lv_has ls 7 [(0, .ref (ad 0)), (1, .ref (ad (13 + 3 * n1))), (2, .int x2), (3, .int x3)] := hl
  have hi_X5 : ∀ w ∈ u_ws RX5 TX5 8, w ∈ wsX5_leastForFile := by decide +kernel
  have L_lq_X5_leastForFile_7 : ∀ (n7 : Nat) (x4 : Int32) (x5 : Int32) (ls : Array Slot), it2 (lq_X5_leastForFile_7 nm M n1 x2 x3) n7 x4 x5 = some r → lv_has ls 7 [(0, .ref (ad 0)), (1, .ref (ad (13 + 3 * n1))), (2, .int x2), (3, .int x3), (4, .int x4), (5, .int x5)] → W p l e rm_X5_leastForFile s m args below meth c s.heap [] 0 0 Q (F0 m 7 ls []) := by
    intro n7
    induction n7 with
    | zero =>
      intro x4 x5 ls h hl
      exact (it2_0 h).elim
    | succ n7 ih7 =>
      have B_bk_X5_leastForFile_63 : ∀ (x4 : Int32) (x5 : Int32) (ls : Array Slot), bk_X5_leastForFile_63 (it2 (lq_X5_leastForFile_7 nm M n1 x2 x3) n7) nm M n1 x2 x3 x4 x5 = some r → lv_has ls 7 [(0, .ref (ad 0)), (1, .ref (ad (13 + 3 * n1))), (2, .int x2), (3, .int x3), (4, .int x4), (5, .int x5)] → W p l e rm_X5_leastForFile s m args below meth c s.heap [] 0 0 Q (F0 m 63 ls []) := by
        intro x4 x5 ls h hl
        obtain ⟨v1, ev1, h⟩ := q_nx h
        refine lv_iinc (v := v1) (lv' := [(5, .int v1), (0, .ref (ad 0)), (1, .ref (ad (13 + 3 * n1))), (2, .int x2), (3, .int x3), (4, .int x4)]) hx hb dX5_leastForFile_63 hl (k := 5) rfl (by rw [ev1]; rfl) (by decide) rfl (fun ls hl => ?_)
        refine lv_goto (tgt := 7) hx hb dX5_leastForFile_66 (by decide) ?_
        exact ih7 x4 v1 ls  h (lv_sub hl [1, 2, 3, 4, 5, 0] rfl)
      intro x4 x5 ls h hl
      have h := it2_s h
      refine lv_iload hx hb dX5_leastForFile_7 (lv_at hl 5 rfl) ?_
      refine lv_aload_n hx hb dX5_leastForFile_9 rfl (lv_at hl 0 rfl) ?_
      refine q_getI hx hb hts hi_X5 hown hK hP ob_0 rfl 5 (by decide) rfl (hts (.fieldLink RX5 90 "MirrorNet" "mirrorCount" "I") (by decide +kernel)) (fun _ h9 => h9) dX5_leastForFile_10 ?_
      refine lv_icmp_ge (tgt := 69) hx hb dX5_leastForFile_13 (by decide) (fun c2 => ?_) (fun c2 => ?_)
      · have h := q_t c2 h
        refine lv_iload hx hb dX5_leastForFile_69 (lv_at hl 4 rfl) ?_
        exact q_rRi hQ hx hb hr hlk h dX5_leastForFile_71
      · have h := q_f c2 h
        refine lv_aload_n hx hb dX5_leastForFile_16 rfl (lv_at hl 0 rfl) ?_
        refine lv_iload hx hb dX5_leastForFile_17 (lv_at hl 5 rfl) ?_
        obtain ⟨r4, hc3, h⟩ := q_bd1 h
        refine q_cRm (va_runV (C := RX5) (As := [.int x5]) (rest := []) ⟨hx, hb, hml, hown, hts⟩ (ct_X5_mirrorAt l hAD (M := M) hc3) (cwV 1 hts gX5_leastForFile_X5_mirrorAt rfl rfl rfl (by decide +kernel) ⟨Nat.le_of_ble_eq_true rfl, Nat.le_of_ble_eq_true rfl⟩) ⟨gw_blind, gw_recv ob_0 hK hP rfl, gw_pre _ hK hP hz hN⟩ rfl rfl hl.1 rfl (lv_room (Nat.le_of_ble_eq_true rfl)) dX5_leastForFile_19 ⟨Nat.zero_le _, Nat.zero_le _⟩) (fun ho7 => ?_) (fun q6 ho7 hq6 => ?_)
        · have h := q_ocn ho7 h
          refine lv_astoreN (lv' := [(6, .null), (0, .ref (ad 0)), (1, .ref (ad (13 + 3 * n1))), (2, .int x2), (3, .int x3), (4, .int x4), (5, .int x5)]) hx hb dX5_leastForFile_22 hl (by decide) rfl (fun ls hl => ?_)
          refine lv_aloadN hx hb dX5_leastForFile_24 (lv_at hl 0 rfl) ?_
          refine lv_ifnullN (tgt := 63) hx hb dX5_leastForFile_26 (by decide) ?_
          exact B_bk_X5_leastForFile_63 x4 x5 ls  h (lv_sub hl [1, 2, 3, 4, 5, 6] rfl)
        · have h := q_ocs ho7 h
          refine lv_astore (lv' := [(6, .ref (ad (62 + 2 * q6))), (0, .ref (ad 0)), (1, .ref (ad (13 + 3 * n1))), (2, .int x2), (3, .int x3), (4, .int x4), (5, .int x5)]) hx hb dX5_leastForFile_22 hl (by decide) rfl (fun ls hl => ?_)
          refine lv_aload hx hb dX5_leastForFile_24 (lv_at hl 0 rfl) ?_
          refine lv_ifnull hx hb dX5_leastForFile_26 ?_
          refine lv_aload_n hx hb dX5_leastForFile_29 rfl (lv_at hl 2 rfl) ?_
          refine lv_aload hx hb dX5_leastForFile_30 (lv_at hl 0 rfl) ?_
          refine lv_iload hx hb dX5_leastForFile_32 (lv_at hl 6 rfl) ?_
          refine lv_iload_n hx hb dX5_leastForFile_34 rfl (lv_at hl 4 rfl) ?_
          obtain ⟨r9, hc8, h⟩ := q_bd1 h
          refine q_cRz (va_runS (As := [.ref (ad (13 + 3 * n1)), .ref (ad (62 + 2 * q6)), .int x5, .int x3]) (rest := []) ⟨hx, hb, hml, hown, hts⟩ (ct_X5_wouldAnswer l hAD (M := M) hn1 hq6 hc8) (va_cwS 4 hts gX5_leastForFile_X5_wouldAnswer rfl rfl rfl (by decide +kernel) ⟨Nat.le_of_ble_eq_true rfl, Nat.le_of_ble_eq_true rfl⟩) ⟨gw_blind, gw_pre _ hK hP hz hN⟩ rfl rfl hl.1 rfl (lv_room (Nat.le_of_ble_eq_true rfl)) dX5_leastForFile_35 ⟨Nat.zero_le _, Nat.zero_le _⟩) (fun hzr9 => ?_)
          refine lv_if_eq (tgt := 63) hx hb dX5_leastForFile_38 (by decide) (fun c13 => ?_) (fun c13 => ?_)
          · have h := q_t c13 h
            exact B_bk_X5_leastForFile_63 x4 x5 ls  h (lv_sub hl [1, 2, 3, 4, 5, 6] rfl)
          · have h := q_f c13 h
            refine lv_aload hx hb dX5_leastForFile_41 (lv_at hl 0 rfl) ?_
            refine lv_iload_n hx hb dX5_leastForFile_43 rfl (lv_at hl 3 rfl) ?_
            obtain ⟨r15, hc14, h⟩ := q_bd1 h
            refine q_cRz (va_runVN (C := RX3) (As := [.int x2]) (rest := []) ⟨hx, hb, hml, hown, hts⟩ (ct_X3_holds l hAD (M := M) hq6 hc14) ⟨va_cnB 1 hts gX5_leastForFile_X3_holds_n148 rfl rfl rfl (hN (.methodLinkNest RX5 148 yX3_holds "MirrorNet") nw_53) (hts (.initialized RX3) (by decide +kernel)) (by decide +kernel) ⟨Nat.le_of_ble_eq_true rfl, Nat.le_of_ble_eq_true rfl⟩, hts (.instanceMethod yX3_holds) (by decide +kernel), hts (.selects RX3 yX3_holds yX3_holds) (by decide +kernel)⟩ ⟨gw_blind, gw_recv (ob_mirror hq6) hK hP rfl, gw_pre _ hK hP hz hN⟩ rfl rfl hl.1 rfl (lv_room (Nat.le_of_ble_eq_true rfl)) dX5_leastForFile_44 ⟨Nat.zero_le _, Nat.zero_le _⟩) (fun hzr15 => ?_)
            refine lv_if_eq (tgt := 63) hx hb dX5_leastForFile_47 (by decide) (fun c19 => ?_) (fun c19 => ?_)
            · have h := q_t c19 h
              exact B_bk_X5_leastForFile_63 x4 x5 ls  h (lv_sub hl [1, 2, 3, 4, 5, 6] rfl)
            · have h := q_f c19 h
              refine lv_iload hx hb dX5_leastForFile_50 (lv_at hl 5 rfl) ?_
              refine lv_aload_n hx hb dX5_leastForFile_52 rfl (lv_at hl 2 rfl) ?_
              refine lv_iload hx hb dX5_leastForFile_53 (lv_at hl 6 rfl) ?_
              obtain ⟨r21, hc20, h⟩ := q_bd1 h
              refine q_cRi (va_runVN (C := RX0) (As := [.int x5]) (rest := [.int x4]) ⟨hx, hb, hml, hown, hts⟩ (ct_X0_costOf l hAD (M := M) hn1 hc20) ⟨va_cnB 1 hts gX5_leastForFile_X0_costOf_n155 rfl rfl rfl (hN (.methodLinkNest RX5 155 yX0_costOf "MirrorNet") nw_54) (hts (.initialized RX0) (by decide +kernel)) (by decide +kernel) ⟨Nat.le_of_ble_eq_true rfl, Nat.le_of_ble_eq_true rfl⟩, hts (.instanceMethod yX0_costOf) (by decide +kernel), hts (.selects RX0 yX0_costOf yX0_costOf) (by decide +kernel)⟩ ⟨gw_blind, gw_recv (ob_asker hn1) hK hP rfl, gw_pre _ hK hP hz hN⟩ rfl rfl hl.1 rfl (lv_room (Nat.le_of_ble_eq_true rfl)) dX5_leastForFile_55 ⟨Nat.zero_le _, Nat.zero_le _⟩) ?_
              refine va_mmin hx hb (hml.trans hl.1.symm) hown (hts (.methodLink RX5 289 Lib.Math.min.name) (by decide +kernel)) (hts (.static Lib.Math.min.name) (by decide +kernel)) (hts (.initialized "java/lang/Math") (by decide +kernel)) (hts (.code Lib.Math.min.name Lib.Math.min.code 2 (some .int)) (by decide +kernel)) (Nat.le_of_ble_eq_true rfl) (Nat.le_of_ble_eq_true rfl) (Nat.zero_le _) (Nat.zero_le _) dX5_leastForFile_58 ?_
              refine lv_topi (fun v25 ev25 => ?_)
              have h := q_nxe ev25 h
              refine lv_istore (lv' := [(4, .int v25), (6, .ref (ad (62 + 2 * q6))), (0, .ref (ad 0)), (1, .ref (ad (13 + 3 * n1))), (2, .int x2), (3, .int x3), (5, .int x5)]) hx hb dX5_leastForFile_61 hl (by decide) rfl (fun ls hl => ?_)
              exact B_bk_X5_leastForFile_63 v25 x5 ls  h (lv_sub hl [2, 3, 4, 5, 0, 6] rfl)
  refine lv_bipush (v := 100) hx hb dX5_leastForFile_0 (by decide) ?_
  refine lv_istore (lv' := [(4, .int (100 : Int32)), (0, .ref (ad 0)), (1, .ref (ad (13 + 3 * n1))), (2, .int x2), (3, .int x3)]) hx hb dX5_leastForFile_2 hl (by decide) rfl (fun ls hl => ?_)
  refine lv_iconst (v := 0) hx hb dX5_leastForFile_4 (by decide) ?_
  refine lv_istore (lv' := [(5, .int (0 : Int32)), (4, .int (100 : Int32)), (0, .ref (ad 0)), (1, .ref (ad (13 + 3 * n1))), (2, .int x2), (3, .int x3)]) hx hb dX5_leastForFile_5 hl (by decide) rfl (fun ls hl => ?_)
  exact L_lq_X5_leastForFile_7 FU (100 : Int32) (0 : Int32) ls  h (lv_sub hl [2, 3, 4, 5, 1, 0] rfl)
def rm_X5_foresee : Room := { frames := 5, cells := 0, slots := 0, locals := 118 }
set_option maxHeartbeats 4000000 in
set_option maxRecDepth 100000 in
theorem ct_X5_foresee (l : Launch) {D : va_G} {ad : Nat → Nat} {kc : Nat → ClassId} {nm z : Nat} (hAD : AD ad nm z) {M : Mem} {n1 : Nat} {x2 : Int32} {x3 : Int32} {x4 : Int32} {r : Int32} (hn1 : n1 < 6) (h : fn_X5_foresee nm M n1 x2 x3 x4 = some r) : Met l yX5_foresee wsX5_foresee rm_X5_foresee (va_Pc [.ref (ad 0), .ref (ad (13 + 3 * n1)), .int x2, .int x3, .int x4] (GW D ad kc nm z M)) (QRi r) 0 0 (fun _ => False) := by
  refine q_met (cc := cX5_foresee) (maxL := 7) (ret := (some .int)) (by decide) rfl (Nat.le_of_ble_eq_true rfl) ?_
  intro p e s m args below meth c Q ls hx hb hr hlk hml hown hts hB hQ hl
  obtain ⟨hP, hK, hz, hN⟩ := hB
  have hown : s.vm.findClass RX5 = some m.cls := hown
  have hl : lv_has ls 7 [(0, .ref (ad 0)), (1, .ref (ad (13 + 3 * n1))), (2, .int x2), (3, .int x3), (4, .int x4)] := hl
  have hi_X5 : ∀ w ∈ u_ws RX5 TX5 8, w ∈ wsX5_foresee := by decide +kernel
  have hi_X1 : ∀ w ∈ u_ws RX1 TX1 10, w ∈ wsX5_foresee := by decide +kernel
  have L_lq_X5_foresee_14 : ∀ (n14 : Nat) (x5 : Int32) (x6 : Int32) (ls : Array Slot), it2 (lq_X5_foresee_14 nm M n1 x2 x4) n14 x5 x6 = some r → lv_has ls 7 [(0, .ref (ad 0)), (1, .ref (ad (13 + 3 * n1))), (2, .int x2), (4, .int x4), (5, .int x5), (6, .int x6)] → W p l e rm_X5_foresee s m args below meth c s.heap [] 0 0 Q (F0 m 14 ls []) := by
    intro n14
    induction n14 with
    | zero =>
      intro x5 x6 ls h hl
      exact (it2_0 h).elim
    | succ n14 ih14 =>
      have B_bk_X5_foresee_58 : ∀ (x5 : Int32) (x6 : Int32) (ls : Array Slot), bk_X5_foresee_58 (it2 (lq_X5_foresee_14 nm M n1 x2 x4) n14) nm M n1 x2 x4 x5 x6 = some r → lv_has ls 7 [(0, .ref (ad 0)), (1, .ref (ad (13 + 3 * n1))), (2, .int x2), (4, .int x4), (5, .int x5), (6, .int x6)] → W p l e rm_X5_foresee s m args below meth c s.heap [] 0 0 Q (F0 m 58 ls []) := by
        intro x5 x6 ls h hl
        obtain ⟨v1, ev1, h⟩ := q_nx h
        refine lv_iinc (v := v1) (lv' := [(6, .int v1), (0, .ref (ad 0)), (1, .ref (ad (13 + 3 * n1))), (2, .int x2), (4, .int x4), (5, .int x5)]) hx hb dX5_foresee_58 hl (k := 5) rfl (by rw [ev1]; rfl) (by decide) rfl (fun ls hl => ?_)
        refine lv_goto (tgt := 14) hx hb dX5_foresee_61 (by decide) ?_
        exact ih14 x5 v1 ls  h (lv_sub hl [1, 2, 3, 4, 5, 0] rfl)
      intro x5 x6 ls h hl
      have h := it2_s h
      refine lv_iload hx hb dX5_foresee_14 (lv_at hl 5 rfl) ?_
      refine lv_bipush (v := 12) hx hb dX5_foresee_16 (by decide) ?_
      refine lv_icmp_ge (tgt := 64) hx hb dX5_foresee_18 (by decide) (fun c2 => ?_) (fun c2 => ?_)
      · have h := q_t c2 h
        refine lv_iload hx hb dX5_foresee_64 (lv_at hl 4 rfl) ?_
        exact q_rRi hQ hx hb hr hlk h dX5_foresee_66
      · have h := q_f c2 h
        refine lv_iload_n hx hb dX5_foresee_21 rfl (lv_at hl 2 rfl) ?_
        refine lv_iload hx hb dX5_foresee_22 (lv_at hl 5 rfl) ?_
        obtain ⟨r4, hc3, h⟩ := q_bd1 h
        refine q_cRz (va_runS (As := [.int x2, .int x6]) (rest := []) ⟨hx, hb, hml, hown, hts⟩ (ct_X5_isIn l hAD (M := M) hc3) (va_cwS 2 hts gX5_foresee_X5_isIn rfl rfl rfl (by decide +kernel) ⟨Nat.le_of_ble_eq_true rfl, Nat.le_of_ble_eq_true rfl⟩) ⟨gw_blind, gw_pre _ hK hP hz hN⟩ rfl rfl hl.1 rfl (lv_room (Nat.le_of_ble_eq_true rfl)) dX5_foresee_24 ⟨Nat.zero_le _, Nat.zero_le _⟩) (fun hzr4 => ?_)
        refine lv_if_eq (tgt := 58) hx hb dX5_foresee_27 (by decide) (fun c8 => ?_) (fun c8 => ?_)
        · have h := q_t c8 h
          exact B_bk_X5_foresee_58 x5 x6 ls  h (lv_sub hl [0, 1, 2, 3, 4, 5] rfl)
        · have h := q_f c8 h
          refine lv_iload hx hb dX5_foresee_30 (lv_at hl 4 rfl) ?_
          refine lv_aload_n hx hb dX5_foresee_32 rfl (lv_at hl 0 rfl) ?_
          refine lv_aload_n hx hb dX5_foresee_33 rfl (lv_at hl 1 rfl) ?_
          refine lv_aload_n hx hb dX5_foresee_34 rfl (lv_at hl 0 rfl) ?_
          refine q_getR hx hb hts hi_X5 hown hK hP ob_0 rfl 0 (by decide) rfl (hts (.fieldLink RX5 12 "MirrorNet" "shelf" "LMirrorNet$Shelf;") (by decide +kernel)) (fun _ h9 => h9) dX5_foresee_35 ?_
          refine lv_aload_n hx hb dX5_foresee_38 rfl (lv_at hl 0 rfl) ?_
          refine q_getR hx hb hts hi_X5 hown hK hP ob_0 rfl 4 (by decide) rfl (hts (.fieldLink RX5 39 "MirrorNet" "latest" "LMirrorNet$Asking;") (by decide +kernel)) (fun _ h9 => h9) dX5_foresee_39 ?_
          refine q_getIN hx hb hts hi_X1 hown hK hP ob_31 rfl 4 (by decide) rfl (hN (.fieldLinkNest RX5 195 "MirrorNet$Asking" "index" "I" "MirrorNet") nw_13) (fun _ h9 => h9) dX5_foresee_42 ?_
          refine lv_iload hx hb dX5_foresee_45 (lv_at hl 5 rfl) ?_
          obtain ⟨r10, hc9, h⟩ := q_bd1 h
          refine q_cRi (va_runVN (C := RX4) (As := [.int (gI M 31 4), .int x6]) (rest := [.ref (ad (13 + 3 * n1)), .ref (ad 0), .int x5]) ⟨hx, hb, hml, hown, hts⟩ (ct_X4_namedBy l hAD (M := M) hc9) ⟨va_cnB 2 hts gX5_foresee_X4_namedBy_n66 rfl rfl rfl (hN (.methodLinkNest RX5 66 yX4_namedBy "MirrorNet") nw_24) (hts (.initialized RX4) (by decide +kernel)) (by decide +kernel) ⟨Nat.le_of_ble_eq_true rfl, Nat.le_of_ble_eq_true rfl⟩, hts (.instanceMethod yX4_namedBy) (by decide +kernel), hts (.selects RX4 yX4_namedBy yX4_namedBy) (by decide +kernel)⟩ ⟨gw_blind, gw_recv ob_1 hK hP rfl, gw_pre _ hK hP hz hN⟩ rfl rfl hl.1 rfl (lv_room (Nat.le_of_ble_eq_true rfl)) dX5_foresee_47 ⟨Nat.zero_le _, Nat.zero_le _⟩) ?_
          refine lv_iload hx hb dX5_foresee_50 (lv_at hl 3 rfl) ?_
          obtain ⟨r15, hc14, h⟩ := q_bd1 h
          refine q_cRi (va_runV (C := RX5) (As := [.ref (ad (13 + 3 * n1)), .int r10, .int x4]) (rest := [.int x5]) ⟨hx, hb, hml, hown, hts⟩ (ct_X5_leastForFile l hAD (M := M) hn1 hc14) (cwV 3 hts gX5_foresee_X5_leastForFile rfl rfl rfl (by decide +kernel) ⟨Nat.le_of_ble_eq_true rfl, Nat.le_of_ble_eq_true rfl⟩) ⟨gw_blind, gw_recv ob_0 hK hP rfl, gw_pre _ hK hP hz hN⟩ rfl rfl hl.1 rfl (lv_room (Nat.le_of_ble_eq_true rfl)) dX5_foresee_52 ⟨Nat.zero_le _, Nat.zero_le _⟩) ?_
          refine lv_iadd hx hb dX5_foresee_55 ?_
          refine lv_topi (fun v19 ev19 => ?_)
          have h := q_nxe ev19 h
          refine lv_istore (lv' := [(5, .int v19), (0, .ref (ad 0)), (1, .ref (ad (13 + 3 * n1))), (2, .int x2), (4, .int x4), (6, .int x6)]) hx hb dX5_foresee_56 hl (by decide) rfl (fun ls hl => ?_)
          exact B_bk_X5_foresee_58 v19 x6 ls  h (lv_sub hl [1, 2, 3, 4, 0, 5] rfl)
  refine lv_aload_n hx hb dX5_foresee_0 rfl (lv_at hl 0 rfl) ?_
  refine lv_aload_n hx hb dX5_foresee_1 rfl (lv_at hl 1 rfl) ?_
  refine lv_iload_n hx hb dX5_foresee_2 rfl (lv_at hl 2 rfl) ?_
  refine lv_iload_n hx hb dX5_foresee_3 rfl (lv_at hl 3 rfl) ?_
  refine lv_iload hx hb dX5_foresee_4 (lv_at hl 4 rfl) ?_
  obtain ⟨r21, hc20, h⟩ := q_bd1 h
  refine q_cRi (va_runV (C := RX5) (As := [.ref (ad (13 + 3 * n1)), .int x2, .int x3, .int x4]) (rest := []) ⟨hx, hb, hml, hown, hts⟩ (ct_X5_leastForIndex l hAD (M := M) hn1 hc20) (cwV 4 hts gX5_foresee_X5_leastForIndex rfl rfl rfl (by decide +kernel) ⟨Nat.le_of_ble_eq_true rfl, Nat.le_of_ble_eq_true rfl⟩) ⟨gw_blind, gw_recv ob_0 hK hP rfl, gw_pre _ hK hP hz hN⟩ rfl rfl hl.1 rfl (lv_room (Nat.le_of_ble_eq_true rfl)) dX5_foresee_6 ⟨Nat.zero_le _, Nat.zero_le _⟩) ?_
  refine lv_istore (lv' := [(5, .int r21), (0, .ref (ad 0)), (1, .ref (ad (13 + 3 * n1))), (2, .int x2), (3, .int x3), (4, .int x4)]) hx hb dX5_foresee_9 hl (by decide) rfl (fun ls hl => ?_)
  refine lv_iconst (v := 0) hx hb dX5_foresee_11 (by decide) ?_
  refine lv_istore (lv' := [(6, .int (0 : Int32)), (5, .int r21), (0, .ref (ad 0)), (1, .ref (ad (13 + 3 * n1))), (2, .int x2), (3, .int x3), (4, .int x4)]) hx hb dX5_foresee_12 hl (by decide) rfl (fun ls hl => ?_)
  exact L_lq_X5_foresee_14 FU r21 (0 : Int32) ls  h (lv_sub hl [2, 3, 4, 6, 1, 0] rfl)
def rm_X5_ask : Room := { frames := 6, cells := 0, slots := 0, locals := 144 }
set_option maxHeartbeats 4000000 in
set_option maxRecDepth 100000 in
theorem ct_X5_ask (l : Launch) {D : va_G} {ad : Nat → Nat} {kc : Nat → ClassId} {nm z : Nat} (hAD : AD ad nm z) {M : Mem} {x1 : Int32} {x2 : Int32} {r : Int32} {Mr : Mem}  (h : fn_X5_ask nm M x1 x2 = some (r, Mr)) : Met l yX5_ask wsX5_ask rm_X5_ask (va_Pc [.ref (ad 0), .int x1, .int x2] (GW D ad kc nm z M)) (QWi D ad kc nm z r Mr) 0 0 (fun q => z ≤ q) := by
  refine q_met (cc := cX5_ask) (maxL := 7) (ret := (some .int)) (by decide) rfl (Nat.le_of_ble_eq_true rfl) ?_
  intro p e s m args below meth c Q ls hx hb hr hlk hml hown hts hB hQ hl
  obtain ⟨hP, hK, hz, hN⟩ := hB
  have hown : s.vm.findClass RX5 = some m.cls := hown
  have hl : lv_has ls 7 [(0, .ref (ad 0)), (1, .int x1), (2, .int x2)] := hl
  have hi_X0 : ∀ w ∈ u_ws RX0 TX0 6, w ∈ wsX5_ask := by decide +kernel
  have hi_X5 : ∀ w ∈ u_ws RX5 TX5 8, w ∈ wsX5_ask := by decide +kernel
  have hi_X1 : ∀ w ∈ u_ws RX1 TX1 10, w ∈ wsX5_ask := by decide +kernel
  have hS : va_S (fun q => z ≤ q) s.heap s.heap [] := va_S.rf
  have B_bk_X5_ask_85 : ∀ (M : Mem) (x6 : Int32) (H : Heap) (locs : List Loc) (ls : Array Slot), bk_X5_ask_85 nm M x6 = some (r, Mr) → va_P D vwCl (wl ad kc nm M) H → va_S (fun q => z ≤ q) s.heap H locs → lv_has ls 7 [(6, .int x6)] → W p l e rm_X5_ask s m args below meth c H locs 0 0 Q (F0 m 85 ls []) := by
    intro M x6 H locs ls h hP hS hl
    refine lv_iload hx hb dX5_ask_85 (lv_at hl 0 rfl) ?_
    exact q_rWi hQ hx hb hr hlk hP hS h dX5_ask_87
  obtain ⟨H, eH⟩ : ∃ H : Heap, H = s.heap := ⟨_, rfl⟩
  obtain ⟨locs, eL⟩ : ∃ L : List Loc, L = [] := ⟨_, rfl⟩
  have hP : va_P D vwCl (wl ad kc nm M) H := by rw [eH]; exact hP
  have hS : va_S (fun q => z ≤ q) s.heap H locs := by rw [eH, eL]; exact hS
  refine q_start eH eL ?_
  refine lv_aload_n hx hb dX5_ask_0 rfl (lv_at hl 0 rfl) ?_
  refine lv_iload_n hx hb dX5_ask_1 rfl (lv_at hl 1 rfl) ?_
  obtain ⟨r2, hc1, h⟩ := q_bd1 h
  refine q_cRa (va_runV (C := RX5) (As := [.int x1]) (rest := []) ⟨hx, hb, hml, hown, hts⟩ (ct_X5_askerAt l hAD (M := M) hc1) (cwV 1 hts gX5_ask_X5_askerAt rfl rfl rfl (by decide +kernel) ⟨Nat.le_of_ble_eq_true rfl, Nat.le_of_ble_eq_true rfl⟩) ⟨gw_blind, gw_recv ob_0 hK hP rfl, gw_pre _ hK hP (Nat.le_trans hz hS.1) hN⟩ rfl rfl hl.1 rfl (lv_room (Nat.le_of_ble_eq_true rfl)) dX5_ask_2 ⟨Nat.zero_le _, Nat.zero_le _⟩) (fun ho5 => ?_) (fun q4 ho5 hq4 => ?_)
  · have h := q_ocn ho5 h
    refine lv_astore_nN (lv' := [(3, .null), (0, .ref (ad 0)), (1, .int x1), (2, .int x2)]) hx hb dX5_ask_5 rfl hl (by decide) rfl (fun ls hl => ?_)
    refine lv_aload_nN hx hb dX5_ask_6 rfl (lv_at hl 0 rfl) ?_
    refine lv_ifnullN (tgt := 21) hx hb dX5_ask_7 (by decide) ?_
    refine lv_iconst (v := -1) hx hb dX5_ask_21 (by decide) ?_
    exact q_rWi hQ hx hb hr hlk hP hS h dX5_ask_22
  · have h := q_ocs ho5 h
    refine lv_astore_n (lv' := [(3, .ref (ad (13 + 3 * q4))), (0, .ref (ad 0)), (1, .int x1), (2, .int x2)]) hx hb dX5_ask_5 rfl hl (by decide) rfl (fun ls hl => ?_)
    refine lv_aload_n hx hb dX5_ask_6 rfl (lv_at hl 0 rfl) ?_
    refine lv_ifnull hx hb dX5_ask_7 ?_
    refine lv_iload_n hx hb dX5_ask_10 rfl (lv_at hl 3 rfl) ?_
    refine lv_iconst (v := 1) hx hb dX5_ask_11 (by decide) ?_
    refine lv_sipush (v := 4095) hx hb dX5_ask_12 (by decide) ?_
    obtain ⟨r7, hc6, h⟩ := q_bd1 h
    refine q_cRz (va_runS (As := [.int x2, .int (1 : Int32), .int (4095 : Int32)]) (rest := []) ⟨hx, hb, hml, hown, hts⟩ (ct_X5_isWithin l hAD (M := M) hc6) (va_cwS 3 hts gX5_ask_X5_isWithin rfl rfl rfl (by decide +kernel) ⟨Nat.le_of_ble_eq_true rfl, Nat.le_of_ble_eq_true rfl⟩) ⟨gw_blind, gw_pre _ hK hP (Nat.le_trans hz hS.1) hN⟩ rfl rfl hl.1 rfl (lv_room (Nat.le_of_ble_eq_true rfl)) dX5_ask_15 ⟨Nat.zero_le _, Nat.zero_le _⟩) (fun hzr7 => ?_)
    refine lv_if_ne (tgt := 23) hx hb dX5_ask_18 (by decide) (fun c11 => ?_) (fun c11 => ?_)
    · have h := q_f c11 h
      refine lv_aload_n hx hb dX5_ask_23 rfl (lv_at hl 0 rfl) ?_
      refine q_getIN hx hb hts hi_X0 hown hK hP (ob_asker hq4) rfl 4 (by decide) rfl (hN (.fieldLinkNest RX5 172 "MirrorNet$Asker" "last" "I" "MirrorNet") nw_9) (fun _ h9 => h9) dX5_ask_24 ?_
      refine lv_topi (fun v12 ev12 => ?_)
      have h := q_nxe ev12 h
      refine lv_istore (lv' := [(4, .int v12), (3, .ref (ad (13 + 3 * q4))), (0, .ref (ad 0)), (1, .int x1), (2, .int x2)]) hx hb dX5_ask_27 hl (by decide) rfl (fun ls hl => ?_)
      refine lv_aload_n hx hb dX5_ask_29 rfl (lv_at hl 2 rfl) ?_
      refine q_getR hx hb hts hi_X5 hown hK hP ob_0 rfl 1 (by decide) rfl (hts (.fieldLink RX5 19 "MirrorNet" "falls" "LMirrorNet$Falls;") (by decide +kernel)) (fun _ h9 => h9) dX5_ask_30 ?_
      refine lv_aload_n hx hb dX5_ask_33 rfl (lv_at hl 2 rfl) ?_
      refine q_getI hx hb hts hi_X5 hown hK hP ob_0 rfl 6 (by decide) rfl (hts (.fieldLink RX5 55 "MirrorNet" "now" "I") (by decide +kernel)) (fun _ h9 => h9) dX5_ask_34 ?_
      obtain ⟨r14, hc13, h⟩ := q_bd1 h
      refine q_cRi (va_runVN (C := RX2) (As := [.int (gI M 0 6)]) (rest := []) ⟨hx, hb, hml, hown, hts⟩ (ct_X2_downAt l hAD (M := M) hc13) ⟨va_cnB 1 hts gX5_ask_X2_downAt_n134 rfl rfl rfl (hN (.methodLinkNest RX5 134 yX2_downAt "MirrorNet") nw_41) (hts (.initialized RX2) (by decide +kernel)) (by decide +kernel) ⟨Nat.le_of_ble_eq_true rfl, Nat.le_of_ble_eq_true rfl⟩, hts (.instanceMethod yX2_downAt) (by decide +kernel), hts (.selects RX2 yX2_downAt yX2_downAt) (by decide +kernel)⟩ ⟨gw_blind, gw_recv ob_7 hK hP rfl, gw_pre _ hK hP (Nat.le_trans hz hS.1) hN⟩ rfl rfl hl.1 rfl (lv_room (Nat.le_of_ble_eq_true rfl)) dX5_ask_37 ⟨Nat.zero_le _, Nat.zero_le _⟩) ?_
      refine lv_istore (lv' := [(5, .int r14), (4, .int v12), (3, .ref (ad (13 + 3 * q4))), (0, .ref (ad 0)), (1, .int x1), (2, .int x2)]) hx hb dX5_ask_40 hl (by decide) rfl (fun ls hl => ?_)
      refine lv_aload_n hx hb dX5_ask_42 rfl (lv_at hl 3 rfl) ?_
      refine q_getR hx hb hts hi_X5 hown hK hP ob_0 rfl 4 (by decide) rfl (hts (.fieldLink RX5 39 "MirrorNet" "latest" "LMirrorNet$Asking;") (by decide +kernel)) (fun _ h9 => h9) dX5_ask_43 ?_
      obtain ⟨M20, hc18, h⟩ := q_bd1 h
      refine q_cWv (va_runVN (C := RX1) (As := []) (rest := []) ⟨hx, hb, hml, hown, hts⟩ (ct_X1_begin l hAD (M := M) hc18) ⟨va_cnB 0 hts gX5_ask_X1_begin_n175 rfl rfl rfl (hN (.methodLinkNest RX5 175 yX1_begin "MirrorNet") nw_57) (hts (.initialized RX1) (by decide +kernel)) (by decide +kernel) ⟨Nat.le_of_ble_eq_true rfl, Nat.le_of_ble_eq_true rfl⟩, hts (.instanceMethod yX1_begin) (by decide +kernel), hts (.selects RX1 yX1_begin yX1_begin) (by decide +kernel)⟩ ⟨gw_blind, gw_recv ob_31 hK hP rfl, gw_pre _ hK hP (Nat.le_trans hz hS.1) hN⟩ rfl rfl hl.1 rfl (lv_room (Nat.le_of_ble_eq_true rfl)) dX5_ask_46 ⟨Nat.zero_le _, Nat.zero_le _⟩) hS (fun H locs hP hS => ?_)
      refine lv_aload_n hx hb dX5_ask_49 rfl (lv_at hl 2 rfl) ?_
      obtain ⟨M25, hc23, h⟩ := q_bd1 h
      refine q_cWv (va_runVN (C := RX0) (As := []) (rest := []) ⟨hx, hb, hml, hown, hts⟩ (ct_X0_lineUp l hAD (M := M20) hq4 hc23) ⟨va_cnB 0 hts gX5_ask_X0_lineUp_n178 rfl rfl rfl (hN (.methodLinkNest RX5 178 yX0_lineUp "MirrorNet") nw_58) (hts (.initialized RX0) (by decide +kernel)) (by decide +kernel) ⟨Nat.le_of_ble_eq_true rfl, Nat.le_of_ble_eq_true rfl⟩, hts (.instanceMethod yX0_lineUp) (by decide +kernel), hts (.selects RX0 yX0_lineUp yX0_lineUp) (by decide +kernel)⟩ ⟨gw_blind, gw_recv (ob_asker hq4) hK hP rfl, gw_pre _ hK hP (Nat.le_trans hz hS.1) hN⟩ rfl rfl hl.1 rfl (lv_room (Nat.le_of_ble_eq_true rfl)) dX5_ask_50 ⟨Nat.zero_le _, Nat.zero_le _⟩) hS (fun H locs hP hS => ?_)
      refine lv_aload_n hx hb dX5_ask_53 rfl (lv_at hl 3 rfl) ?_
      refine lv_aload_n hx hb dX5_ask_54 rfl (lv_at hl 2 rfl) ?_
      refine lv_iload_n hx hb dX5_ask_55 rfl (lv_at hl 5 rfl) ?_
      refine lv_iload hx hb dX5_ask_56 (lv_at hl 0 rfl) ?_
      obtain ⟨r29, M30, hc28, h⟩ := q_bd2 h
      refine q_cWi (va_runV (C := RX5) (As := [.ref (ad (13 + 3 * q4)), .int x2, .int r14]) (rest := []) ⟨hx, hb, hml, hown, hts⟩ (ct_X5_carryOut l hAD (M := M25) hq4 hc28) (cwV 3 hts gX5_ask_X5_carryOut rfl rfl rfl (by decide +kernel) ⟨Nat.le_of_ble_eq_true rfl, Nat.le_of_ble_eq_true rfl⟩) ⟨gw_blind, gw_recv ob_0 hK hP rfl, gw_pre _ hK hP (Nat.le_trans hz hS.1) hN⟩ rfl rfl hl.1 rfl (lv_room (Nat.le_of_ble_eq_true rfl)) dX5_ask_58 ⟨Nat.zero_le _, Nat.zero_le _⟩) hS (fun H locs hP hS => ?_)
      refine lv_istore (lv' := [(6, .int r29), (5, .int r14), (4, .int v12), (3, .ref (ad (13 + 3 * q4))), (0, .ref (ad 0)), (1, .int x1), (2, .int x2)]) hx hb dX5_ask_61 hl (by decide) rfl (fun ls hl => ?_)
      refine lv_iload hx hb dX5_ask_63 (lv_at hl 0 rfl) ?_
      refine lv_if_ne (tgt := 85) hx hb dX5_ask_65 (by decide) (fun c33 => ?_) (fun c33 => ?_)
      · have h := q_f c33 h
        exact B_bk_X5_ask_85 M30 r29 H locs ls  h hP hS (lv_sub hl [0] rfl)
      · have h := q_t c33 h
        refine lv_aload_n hx hb dX5_ask_68 rfl (lv_at hl 4 rfl) ?_
        refine q_getR hx hb hts hi_X5 hown hK hP ob_0 rfl 4 (by decide) rfl (hts (.fieldLink RX5 39 "MirrorNet" "latest" "LMirrorNet$Asking;") (by decide +kernel)) (fun _ h9 => h9) dX5_ask_69 ?_
        refine lv_aload_n hx hb dX5_ask_72 rfl (lv_at hl 4 rfl) ?_
        refine lv_aload_n hx hb dX5_ask_73 rfl (lv_at hl 3 rfl) ?_
        refine lv_iload_n hx hb dX5_ask_74 rfl (lv_at hl 6 rfl) ?_
        refine lv_iload hx hb dX5_ask_75 (lv_at hl 2 rfl) ?_
        refine lv_iload hx hb dX5_ask_77 (lv_at hl 1 rfl) ?_
        obtain ⟨r35, hc34, h⟩ := q_bd1 h
        refine q_cRi (va_runV (C := RX5) (As := [.ref (ad (13 + 3 * q4)), .int x2, .int v12, .int r14]) (rest := [.ref (ad 31)]) ⟨hx, hb, hml, hown, hts⟩ (ct_X5_foresee l hAD (M := M30) hq4 hc34) (cwV 4 hts gX5_ask_X5_foresee rfl rfl rfl (by decide +kernel) ⟨Nat.le_of_ble_eq_true rfl, Nat.le_of_ble_eq_true rfl⟩) ⟨gw_blind, gw_recv ob_0 hK hP rfl, gw_pre _ hK hP (Nat.le_trans hz hS.1) hN⟩ rfl rfl hl.1 rfl (lv_room (Nat.le_of_ble_eq_true rfl)) dX5_ask_79 ⟨Nat.zero_le _, Nat.zero_le _⟩) ?_
        obtain ⟨M39, eM39, h⟩ := q_nx h
        refine q_putIN hx hb hts hi_X1 tyX1 tyX1_ok nmX1 hown hK hP hAD hS ob_31 rfl 9 (by decide) rfl (hN (.fieldLinkNest RX5 189 "MirrorNet$Asking" "foresight" "I" "MirrorNet") nw_18) (fun _ h9 => h9) rfl (ty := .int) (by decide +kernel) rfl rfl dX5_ask_82 (fun H locs hP hS => ?_)
        rw [← eM39] at hP
        exact B_bk_X5_ask_85 M39 r29 H locs ls  h hP hS (lv_sub hl [0] rfl)
    · have h := q_t c11 h
      refine lv_iconst (v := -1) hx hb dX5_ask_21 (by decide) ?_
      exact q_rWi hQ hx hb hr hlk hP hS h dX5_ask_22
def rm_X5_asked : Room := { frames := 0, cells := 0, slots := 0, locals := 0 }
set_option maxHeartbeats 4000000 in
set_option maxRecDepth 100000 in
theorem ct_X5_asked (l : Launch) {D : va_G} {ad : Nat → Nat} {kc : Nat → ClassId} {nm z : Nat} (hAD : AD ad nm z) {M : Mem} {x1 : Int32} {r : Int32}  (h : fn_X5_asked M x1 = some r) : Met l yX5_asked wsX5_asked rm_X5_asked (va_Pc [.ref (ad 0), .int x1] (GW D ad kc nm z M)) (QRi r) 0 0 (fun _ => False) := by
  refine q_met (cc := cX5_asked) (maxL := 2) (ret := (some .int)) (by decide) rfl (Nat.le_of_ble_eq_true rfl) ?_
  intro p e s m args below meth c Q ls hx hb hr hlk hml hown hts hB hQ hl
  obtain ⟨hP, hK, hz, hN⟩ := hB
  have hown : s.vm.findClass RX5 = some m.cls := hown
  have hl : lv_has ls 2 [(0, .ref (ad 0)), (1, .int x1)] := hl
  have hi_X5 : ∀ w ∈ u_ws RX5 TX5 8, w ∈ wsX5_asked := by decide +kernel
  have hi_X1 : ∀ w ∈ u_ws RX1 TX1 10, w ∈ wsX5_asked := by decide +kernel
  refine lv_aload_n hx hb dX5_asked_0 rfl (lv_at hl 0 rfl) ?_
  refine q_getR hx hb hts hi_X5 hown hK hP ob_0 rfl 4 (by decide) rfl (hts (.fieldLink RX5 39 "MirrorNet" "latest" "LMirrorNet$Asking;") (by decide +kernel)) (fun _ h9 => h9) dX5_asked_1 ?_
  refine q_getIN hx hb hts hi_X1 hown hK hP ob_31 rfl 3 (by decide) rfl (hN (.fieldLinkNest RX5 192 "MirrorNet$Asking" "isAny" "Z" "MirrorNet") nw_12) (fun _ h9 => h9) dX5_asked_4 ?_
  refine lv_if_ne (tgt := 12) hx hb dX5_asked_7 (by decide) (fun c1 => ?_) (fun c1 => ?_)
  · have h := q_f c1 h
    refine lv_iload_n hx hb dX5_asked_12 rfl (lv_at hl 1 rfl) ?_
    by_cases c2 : x1 = (0 : Int32)
    · have h := q_t c2 h
      refine lv_tableIn (off := 39) (tgt := 52) hx hb dX5_asked_13 (by rw [c2]; decide) (by rw [c2]; decide) (by rw [c2]; rfl) (by decide) ?_
      refine lv_aload_n hx hb dX5_asked_52 rfl (lv_at hl 0 rfl) ?_
      refine q_getR hx hb hts hi_X5 hown hK hP ob_0 rfl 4 (by decide) rfl (hts (.fieldLink RX5 39 "MirrorNet" "latest" "LMirrorNet$Asking;") (by decide +kernel)) (fun _ h9 => h9) dX5_asked_53 ?_
      refine q_getIN hx hb hts hi_X1 hown hK hP ob_31 rfl 4 (by decide) rfl (hN (.fieldLinkNest RX5 195 "MirrorNet$Asking" "index" "I" "MirrorNet") nw_13) (fun _ h9 => h9) dX5_asked_56 ?_
      exact q_rRi hQ hx hb hr hlk h dX5_asked_59
    have h := q_f c2 h
    by_cases c3 : x1 = (1 : Int32)
    · have h := q_t c3 h
      refine lv_tableIn (off := 47) (tgt := 60) hx hb dX5_asked_13 (by rw [c3]; decide) (by rw [c3]; decide) (by rw [c3]; rfl) (by decide) ?_
      refine lv_aload_n hx hb dX5_asked_60 rfl (lv_at hl 0 rfl) ?_
      refine q_getR hx hb hts hi_X5 hown hK hP ob_0 rfl 4 (by decide) rfl (hts (.fieldLink RX5 39 "MirrorNet" "latest" "LMirrorNet$Asking;") (by decide +kernel)) (fun _ h9 => h9) dX5_asked_61 ?_
      refine q_getIN hx hb hts hi_X1 hown hK hP ob_31 rfl 5 (by decide) rfl (hN (.fieldLinkNest RX5 196 "MirrorNet$Asking" "spent" "I" "MirrorNet") nw_14) (fun _ h9 => h9) dX5_asked_64 ?_
      exact q_rRi hQ hx hb hr hlk h dX5_asked_67
    have h := q_f c3 h
    by_cases c4 : x1 = (2 : Int32)
    · have h := q_t c4 h
      refine lv_tableIn (off := 55) (tgt := 68) hx hb dX5_asked_13 (by rw [c4]; decide) (by rw [c4]; decide) (by rw [c4]; rfl) (by decide) ?_
      refine lv_aload_n hx hb dX5_asked_68 rfl (lv_at hl 0 rfl) ?_
      refine q_getR hx hb hts hi_X5 hown hK hP ob_0 rfl 4 (by decide) rfl (hts (.fieldLink RX5 39 "MirrorNet" "latest" "LMirrorNet$Asking;") (by decide +kernel)) (fun _ h9 => h9) dX5_asked_69 ?_
      refine q_getIN hx hb hts hi_X1 hown hK hP ob_31 rfl 6 (by decide) rfl (hN (.fieldLinkNest RX5 199 "MirrorNet$Asking" "askings" "I" "MirrorNet") nw_15) (fun _ h9 => h9) dX5_asked_72 ?_
      exact q_rRi hQ hx hb hr hlk h dX5_asked_75
    have h := q_f c4 h
    by_cases c5 : x1 = (3 : Int32)
    · have h := q_t c5 h
      refine lv_tableIn (off := 63) (tgt := 76) hx hb dX5_asked_13 (by rw [c5]; decide) (by rw [c5]; decide) (by rw [c5]; rfl) (by decide) ?_
      refine lv_aload_n hx hb dX5_asked_76 rfl (lv_at hl 0 rfl) ?_
      refine q_getR hx hb hts hi_X5 hown hK hP ob_0 rfl 4 (by decide) rfl (hts (.fieldLink RX5 39 "MirrorNet" "latest" "LMirrorNet$Asking;") (by decide +kernel)) (fun _ h9 => h9) dX5_asked_77 ?_
      refine q_getIN hx hb hts hi_X1 hown hK hP ob_31 rfl 7 (by decide) rfl (hN (.fieldLinkNest RX5 202 "MirrorNet$Asking" "gotCount" "I" "MirrorNet") nw_16) (fun _ h9 => h9) dX5_asked_80 ?_
      exact q_rRi hQ hx hb hr hlk h dX5_asked_83
    have h := q_f c5 h
    by_cases c6 : x1 = (4 : Int32)
    · have h := q_t c6 h
      refine lv_tableIn (off := 71) (tgt := 84) hx hb dX5_asked_13 (by rw [c6]; decide) (by rw [c6]; decide) (by rw [c6]; rfl) (by decide) ?_
      refine lv_aload_n hx hb dX5_asked_84 rfl (lv_at hl 0 rfl) ?_
      refine q_getR hx hb hts hi_X5 hown hK hP ob_0 rfl 4 (by decide) rfl (hts (.fieldLink RX5 39 "MirrorNet" "latest" "LMirrorNet$Asking;") (by decide +kernel)) (fun _ h9 => h9) dX5_asked_85 ?_
      refine q_getIN hx hb hts hi_X1 hown hK hP ob_31 rfl 8 (by decide) rfl (hN (.fieldLinkNest RX5 205 "MirrorNet$Asking" "lacking" "I" "MirrorNet") nw_17) (fun _ h9 => h9) dX5_asked_88 ?_
      exact q_rRi hQ hx hb hr hlk h dX5_asked_91
    have h := q_f c6 h
    by_cases c7 : x1 = (5 : Int32)
    · have h := q_t c7 h
      refine lv_tableIn (off := 79) (tgt := 92) hx hb dX5_asked_13 (by rw [c7]; decide) (by rw [c7]; decide) (by rw [c7]; rfl) (by decide) ?_
      refine lv_aload_n hx hb dX5_asked_92 rfl (lv_at hl 0 rfl) ?_
      refine q_getR hx hb hts hi_X5 hown hK hP ob_0 rfl 4 (by decide) rfl (hts (.fieldLink RX5 39 "MirrorNet" "latest" "LMirrorNet$Asking;") (by decide +kernel)) (fun _ h9 => h9) dX5_asked_93 ?_
      refine q_getIN hx hb hts hi_X1 hown hK hP ob_31 rfl 9 (by decide) rfl (hN (.fieldLinkNest RX5 189 "MirrorNet$Asking" "foresight" "I" "MirrorNet") nw_18) (fun _ h9 => h9) dX5_asked_96 ?_
      exact q_rRi hQ hx hb hr hlk h dX5_asked_99
    have h := q_f c7 h
    refine lv_tableOut (tgt := 100) hx hb dX5_asked_13 (by have z0 := lv_neT c2 (a := 0) rfl; have z1 := lv_neT c3 (a := 1) rfl; have z2 := lv_neT c4 (a := 2) rfl; have z3 := lv_neT c5 (a := 3) rfl; have z4 := lv_neT c6 (a := 4) rfl; have z5 := lv_neT c7 (a := 5) rfl; omega) (by decide) ?_
    refine lv_iconst (v := -1) hx hb dX5_asked_100 (by decide) ?_
    exact q_rRi hQ hx hb hr hlk h dX5_asked_101
  · have h := q_t c1 h
    refine lv_iconst (v := -1) hx hb dX5_asked_10 (by decide) ?_
    exact q_rRi hQ hx hb hr hlk h dX5_asked_11
def rm_X5_got : Room := { frames := 2, cells := 0, slots := 0, locals := 44 }
set_option maxHeartbeats 4000000 in
set_option maxRecDepth 100000 in
theorem ct_X5_got (l : Launch) {D : va_G} {ad : Nat → Nat} {kc : Nat → ClassId} {nm z : Nat} (hAD : AD ad nm z) {M : Mem} {x1 : Int32} {x2 : Int32} {r : Int32}  (h : fn_X5_got M x1 x2 = some r) : Met l yX5_got wsX5_got rm_X5_got (va_Pc [.ref (ad 0), .int x1, .int x2] (GW D ad kc nm z M)) (QRi r) 0 0 (fun _ => False) := by
  refine q_met (cc := cX5_got) (maxL := 3) (ret := (some .int)) (by decide) rfl (Nat.le_of_ble_eq_true rfl) ?_
  intro p e s m args below meth c Q ls hx hb hr hlk hml hown hts hB hQ hl
  obtain ⟨hP, hK, hz, hN⟩ := hB
  have hown : s.vm.findClass RX5 = some m.cls := hown
  have hl : lv_has ls 3 [(0, .ref (ad 0)), (1, .int x1), (2, .int x2)] := hl
  have hi_X5 : ∀ w ∈ u_ws RX5 TX5 8, w ∈ wsX5_got := by decide +kernel
  refine lv_aload_n hx hb dX5_got_0 rfl (lv_at hl 0 rfl) ?_
  refine q_getR hx hb hts hi_X5 hown hK hP ob_0 rfl 4 (by decide) rfl (hts (.fieldLink RX5 39 "MirrorNet" "latest" "LMirrorNet$Asking;") (by decide +kernel)) (fun _ h9 => h9) dX5_got_1 ?_
  refine lv_iload_n hx hb dX5_got_4 rfl (lv_at hl 1 rfl) ?_
  refine lv_iload_n hx hb dX5_got_5 rfl (lv_at hl 2 rfl) ?_
  obtain ⟨r2, hc1, h⟩ := q_bd1 h
  refine q_cRi (va_runVN (C := RX1) (As := [.int x1, .int x2]) (rest := []) ⟨hx, hb, hml, hown, hts⟩ (ct_X1_gotten l hAD (M := M) hc1) ⟨va_cnB 2 hts gX5_got_X1_gotten_n208 rfl rfl rfl (hN (.methodLinkNest RX5 208 yX1_gotten "MirrorNet") nw_68) (hts (.initialized RX1) (by decide +kernel)) (by decide +kernel) ⟨Nat.le_of_ble_eq_true rfl, Nat.le_of_ble_eq_true rfl⟩, hts (.instanceMethod yX1_gotten) (by decide +kernel), hts (.selects RX1 yX1_gotten yX1_gotten) (by decide +kernel)⟩ ⟨gw_blind, gw_recv ob_31 hK hP rfl, gw_pre _ hK hP hz hN⟩ rfl rfl hl.1 rfl (lv_room (Nat.le_of_ble_eq_true rfl)) dX5_got_6 ⟨Nat.zero_le _, Nat.zero_le _⟩) ?_
  exact q_rRi hQ hx hb hr hlk h dX5_got_9
def rm_X5_asker : Room := { frames := 2, cells := 0, slots := 0, locals := 43 }
set_option maxHeartbeats 4000000 in
set_option maxRecDepth 100000 in
theorem ct_X5_asker (l : Launch) {D : va_G} {ad : Nat → Nat} {kc : Nat → ClassId} {nm z : Nat} (hAD : AD ad nm z) {M : Mem} {x1 : Int32} {x2 : Int32} {r : Int32}  (h : fn_X5_asker nm M x1 x2 = some r) : Met l yX5_asker wsX5_asker rm_X5_asker (va_Pc [.ref (ad 0), .int x1, .int x2] (GW D ad kc nm z M)) (QRi r) 0 0 (fun _ => False) := by
  refine q_met (cc := cX5_asker) (maxL := 4) (ret := (some .int)) (by decide) rfl (Nat.le_of_ble_eq_true rfl) ?_
  intro p e s m args below meth c Q ls hx hb hr hlk hml hown hts hB hQ hl
  obtain ⟨hP, hK, hz, hN⟩ := hB
  have hown : s.vm.findClass RX5 = some m.cls := hown
  have hl : lv_has ls 4 [(0, .ref (ad 0)), (1, .int x1), (2, .int x2)] := hl
  have hi_X0 : ∀ w ∈ u_ws RX0 TX0 6, w ∈ wsX5_asker := by decide +kernel
  refine lv_aload_n hx hb dX5_asker_0 rfl (lv_at hl 0 rfl) ?_
  refine lv_iload_n hx hb dX5_asker_1 rfl (lv_at hl 1 rfl) ?_
  obtain ⟨r2, hc1, h⟩ := q_bd1 h
  refine q_cRa (va_runV (C := RX5) (As := [.int x1]) (rest := []) ⟨hx, hb, hml, hown, hts⟩ (ct_X5_askerAt l hAD (M := M) hc1) (cwV 1 hts gX5_asker_X5_askerAt rfl rfl rfl (by decide +kernel) ⟨Nat.le_of_ble_eq_true rfl, Nat.le_of_ble_eq_true rfl⟩) ⟨gw_blind, gw_recv ob_0 hK hP rfl, gw_pre _ hK hP hz hN⟩ rfl rfl hl.1 rfl (lv_room (Nat.le_of_ble_eq_true rfl)) dX5_asker_2 ⟨Nat.zero_le _, Nat.zero_le _⟩) (fun ho5 => ?_) (fun q4 ho5 hq4 => ?_)
  · have h := q_ocn ho5 h
    refine lv_astore_nN (lv' := [(3, .null), (0, .ref (ad 0)), (1, .int x1), (2, .int x2)]) hx hb dX5_asker_5 rfl hl (by decide) rfl (fun ls hl => ?_)
    refine lv_aload_nN hx hb dX5_asker_6 rfl (lv_at hl 0 rfl) ?_
    refine lv_ifnonnullN hx hb dX5_asker_7 ?_
    refine lv_iconst (v := -1) hx hb dX5_asker_10 (by decide) ?_
    exact q_rRi hQ hx hb hr hlk h dX5_asker_11
  · have h := q_ocs ho5 h
    refine lv_astore_n (lv' := [(3, .ref (ad (13 + 3 * q4))), (0, .ref (ad 0)), (1, .int x1), (2, .int x2)]) hx hb dX5_asker_5 rfl hl (by decide) rfl (fun ls hl => ?_)
    refine lv_aload_n hx hb dX5_asker_6 rfl (lv_at hl 0 rfl) ?_
    refine lv_ifnonnull (tgt := 12) hx hb dX5_asker_7 (by decide) ?_
    refine lv_iload_n hx hb dX5_asker_12 rfl (lv_at hl 3 rfl) ?_
    by_cases c6 : x2 = (0 : Int32)
    · have h := q_t c6 h
      refine lv_tableIn (off := 27) (tgt := 40) hx hb dX5_asker_13 (by rw [c6]; decide) (by rw [c6]; decide) (by rw [c6]; rfl) (by decide) ?_
      refine lv_aload_n hx hb dX5_asker_40 rfl (lv_at hl 0 rfl) ?_
      refine q_getIN hx hb hts hi_X0 hown hK hP (ob_asker hq4) rfl 4 (by decide) rfl (hN (.fieldLinkNest RX5 172 "MirrorNet$Asker" "last" "I" "MirrorNet") nw_9) (fun _ h9 => h9) dX5_asker_41 ?_
      exact q_rRi hQ hx hb hr hlk h dX5_asker_44
    have h := q_f c6 h
    by_cases c7 : x2 = (1 : Int32)
    · have h := q_t c7 h
      refine lv_tableIn (off := 32) (tgt := 45) hx hb dX5_asker_13 (by rw [c7]; decide) (by rw [c7]; decide) (by rw [c7]; rfl) (by decide) ?_
      refine lv_aload_n hx hb dX5_asker_45 rfl (lv_at hl 0 rfl) ?_
      refine q_getIN hx hb hts hi_X0 hown hK hP (ob_asker hq4) rfl 3 (by decide) rfl (hN (.fieldLinkNest RX5 162 "MirrorNet$Asker" "mostAge" "I" "MirrorNet") nw_8) (fun _ h9 => h9) dX5_asker_46 ?_
      exact q_rRi hQ hx hb hr hlk h dX5_asker_49
    have h := q_f c7 h
    by_cases c8 : x2 = (2 : Int32)
    · have h := q_t c8 h
      refine lv_tableIn (off := 37) (tgt := 50) hx hb dX5_asker_13 (by rw [c8]; decide) (by rw [c8]; decide) (by rw [c8]; rfl) (by decide) ?_
      refine lv_aload_n hx hb dX5_asker_50 rfl (lv_at hl 0 rfl) ?_
      refine q_getIN hx hb hts hi_X0 hown hK hP (ob_asker hq4) rfl 5 (by decide) rfl (hN (.fieldLinkNest RX5 165 "MirrorNet$Asker" "bad" "I" "MirrorNet") nw_10) (fun _ h9 => h9) dX5_asker_51 ?_
      exact q_rRi hQ hx hb hr hlk h dX5_asker_54
    have h := q_f c8 h
    refine lv_tableOut (tgt := 55) hx hb dX5_asker_13 (by have z0 := lv_neT c6 (a := 0) rfl; have z1 := lv_neT c7 (a := 1) rfl; have z2 := lv_neT c8 (a := 2) rfl; omega) (by decide) ?_
    refine lv_iconst (v := -1) hx hb dX5_asker_55 (by decide) ?_
    exact q_rRi hQ hx hb hr hlk h dX5_asker_56
