def rm_X6_goes : Room := { frames := 3, cells := 0, slots := 0, locals := 69 }
set_option maxHeartbeats 4000000 in
set_option maxRecDepth 100000 in
theorem ct_X6_goes (l : Launch) {D : va_G} {ad : Nat → Nat} {kc : Nat → ClassId} {nm z : Nat} (hAD : AD ad nm z) {M : Mem} {x1 : Int32} {Mr : Mem}  (h : fn_X6_goes M x1 = some Mr) : Met l yX6_goes wsX6_goes rm_X6_goes (va_Pc [.ref (ad 35), .int x1] (GW D ad kc nm z M)) (QWv D ad kc nm z Mr) 0 0 (fun q => z ≤ q) := by
  refine q_met (cc := cX6_goes) (maxL := 3) (ret := none) (by decide) rfl (Nat.le_of_ble_eq_true rfl) ?_
  intro p e s m args below meth c Q ls hx hb hr hlk hml hown hts hB hQ hl
  obtain ⟨hP, hK, hz, hN⟩ := hB
  have hown : s.vm.findClass RX6 = some m.cls := hown
  have hl : lv_has ls 3 [(0, .ref (ad 35)), (1, .int x1)] := hl
  have hi_X6 : ∀ w ∈ u_ws RX6 TX6 40, w ∈ wsX6_goes := by decide +kernel
  have hS : va_S (fun q => z ≤ q) s.heap s.heap [] := va_S.rf
  have B_bk_X6_goes_96 : ∀ (M : Mem) (H : Heap) (locs : List Loc) (ls : Array Slot), bk_X6_goes_96 M x1 = some Mr → va_P D vwCl (wl ad kc nm M) H → va_S (fun q => z ≤ q) s.heap H locs → lv_has ls 3 [(0, .ref (ad 35)), (1, .int x1)] → W p l e rm_X6_goes s m args below meth c H locs 0 0 Q (F0 m 96 ls []) := by
    intro M H locs ls h hP hS hl
    refine lv_aload_n hx hb dX6_goes_96 rfl (lv_at hl 0 rfl) ?_
    refine q_getR hx hb hts hi_X6 hown hK hP ob_35 rfl 12 (by decide) rfl (hts (.fieldLink RX6 38 "MirrorNetModel" "target" "[I") (by decide +kernel)) (fun _ h9 => h9) dX6_goes_97 ?_
    refine lv_iload_n hx hb dX6_goes_100 rfl (lv_at hl 1 rfl) ?_
    obtain ⟨hk1, h⟩ := q_ck h
    refine q_iald hx hb hK hP ar_44 hk1 dX6_goes_101 ?_
    refine lv_iconst (v := -1) hx hb dX6_goes_102 (by decide) ?_
    refine lv_icmp_eq (tgt := 114) hx hb dX6_goes_103 (by decide) (fun c2 => ?_) (fun c2 => ?_)
    · have h := q_t c2 h
      exact q_rWv hQ hx hb hr hlk hP hS h dX6_goes_114
    · have h := q_f c2 h
      refine lv_aload_n hx hb dX6_goes_106 rfl (lv_at hl 0 rfl) ?_
      refine lv_iload_n hx hb dX6_goes_107 rfl (lv_at hl 1 rfl) ?_
      obtain ⟨r4, M5, hc3, h⟩ := q_bd2 h
      refine q_cWz (va_runV (C := RX6) (As := [.int x1]) (rest := []) ⟨hx, hb, hml, hown, hts⟩ (ct_X6_copies l hAD (M := M) hc3) (cwV 1 hts gX6_goes_X6_copies rfl rfl rfl (by decide +kernel) ⟨Nat.le_of_ble_eq_true rfl, Nat.le_of_ble_eq_true rfl⟩) ⟨gw_blind, gw_recv ob_35 hK hP rfl, gw_pre _ hK hP (Nat.le_trans hz hS.1) hN⟩ rfl rfl hl.1 rfl (lv_room (Nat.le_of_ble_eq_true rfl)) dX6_goes_108 ⟨Nat.zero_le _, Nat.zero_le _⟩) hS (fun H locs hzr4 hP hS => ?_)
      refine lv_if_ne (tgt := 115) hx hb dX6_goes_111 (by decide) (fun c8 => ?_) (fun c8 => ?_)
      · have h := q_f c8 h
        refine lv_aload_n hx hb dX6_goes_115 rfl (lv_at hl 0 rfl) ?_
        refine lv_iload_n hx hb dX6_goes_116 rfl (lv_at hl 1 rfl) ?_
        obtain ⟨r10, hc9, h⟩ := q_bd1 h
        refine q_cRi (va_runV (C := RX6) (As := [.int x1]) (rest := []) ⟨hx, hb, hml, hown, hts⟩ (ct_X6_lacking l hAD (M := M5) hc9) (cwV 1 hts gX6_goes_X6_lacking rfl rfl rfl (by decide +kernel) ⟨Nat.le_of_ble_eq_true rfl, Nat.le_of_ble_eq_true rfl⟩) ⟨gw_blind, gw_recv ob_35 hK hP rfl, gw_pre _ hK hP (Nat.le_trans hz hS.1) hN⟩ rfl rfl hl.1 rfl (lv_room (Nat.le_of_ble_eq_true rfl)) dX6_goes_117 ⟨Nat.zero_le _, Nat.zero_le _⟩) ?_
        refine lv_if_ge (tgt := 128) hx hb dX6_goes_120 (by decide) (fun c14 => ?_) (fun c14 => ?_)
        · have h := q_t c14 h
          exact q_rWv hQ hx hb hr hlk hP hS h dX6_goes_128
        · have h := q_f c14 h
          refine lv_aload_n hx hb dX6_goes_123 rfl (lv_at hl 0 rfl) ?_
          refine lv_iload_n hx hb dX6_goes_124 rfl (lv_at hl 1 rfl) ?_
          obtain ⟨M17, hc15, h⟩ := q_bd1 h
          refine q_cWv (va_runV (C := RX6) (As := [.int x1]) (rest := []) ⟨hx, hb, hml, hown, hts⟩ (ct_X6_turns l hAD (M := M5) hc15) (cwV 1 hts gX6_goes_X6_turns rfl rfl rfl (by decide +kernel) ⟨Nat.le_of_ble_eq_true rfl, Nat.le_of_ble_eq_true rfl⟩) ⟨gw_blind, gw_recv ob_35 hK hP rfl, gw_pre _ hK hP (Nat.le_trans hz hS.1) hN⟩ rfl rfl hl.1 rfl (lv_room (Nat.le_of_ble_eq_true rfl)) dX6_goes_125 ⟨Nat.zero_le _, Nat.zero_le _⟩) hS (fun H locs hP hS => ?_)
          exact q_rWv hQ hx hb hr hlk hP hS h dX6_goes_128
      · have h := q_t c8 h
        exact q_rWv hQ hx hb hr hlk hP hS h dX6_goes_114
  have B_bk_X6_goes_78 : ∀ (M : Mem) (sx0 : Int32) (H : Heap) (locs : List Loc) (ls : Array Slot), bk_X6_goes_78 M x1 sx0 = some Mr → va_P D vwCl (wl ad kc nm M) H → va_S (fun q => z ≤ q) s.heap H locs → lv_has ls 3 [(0, .ref (ad 35)), (1, .int x1)] → W p l e rm_X6_goes s m args below meth c H locs 0 0 Q (F0 m 78 ls [.int sx0]) := by
    intro M sx0 H locs ls h hP hS hl
    refine lv_istore_n (lv' := [(2, .int sx0), (0, .ref (ad 35)), (1, .int x1)]) hx hb dX6_goes_78 rfl hl (by decide) rfl (fun ls hl => ?_)
    refine lv_iload_n hx hb dX6_goes_79 rfl (lv_at hl 0 rfl) ?_
    refine lv_aload_n hx hb dX6_goes_80 rfl (lv_at hl 1 rfl) ?_
    refine q_getR hx hb hts hi_X6 hown hK hP ob_35 rfl 11 (by decide) rfl (hts (.fieldLink RX6 35 "MirrorNetModel" "index" "[I") (by decide +kernel)) (fun _ h9 => h9) dX6_goes_81 ?_
    refine lv_iload_n hx hb dX6_goes_84 rfl (lv_at hl 2 rfl) ?_
    obtain ⟨hk20, h⟩ := q_ck h
    refine q_iald hx hb hK hP ar_43 hk20 dX6_goes_85 ?_
    refine lv_icmp_le (tgt := 96) hx hb dX6_goes_86 (by decide) (fun c21 => ?_) (fun c21 => ?_)
    · have h := q_t c21 h
      exact B_bk_X6_goes_96 M H locs ls  h hP hS (lv_sub hl [1, 2] rfl)
    · have h := q_f c21 h
      refine lv_aload_n hx hb dX6_goes_89 rfl (lv_at hl 1 rfl) ?_
      refine q_getR hx hb hts hi_X6 hown hK hP ob_35 rfl 12 (by decide) rfl (hts (.fieldLink RX6 38 "MirrorNetModel" "target" "[I") (by decide +kernel)) (fun _ h9 => h9) dX6_goes_90 ?_
      refine lv_iload_n hx hb dX6_goes_93 rfl (lv_at hl 2 rfl) ?_
      refine lv_iload_n hx hb dX6_goes_94 rfl (lv_at hl 0 rfl) ?_
      obtain ⟨hk22, h⟩ := q_ck h
      obtain ⟨M23, eM23, h⟩ := q_nx h
      refine q_iast hx hb hK hP hAD hS ar_44 hk22 dX6_goes_95 (fun H locs hP hS => ?_)
      rw [← eM23] at hP
      exact B_bk_X6_goes_96 M23 H locs ls  h hP hS (lv_sub hl [1, 2] rfl)
  have B_bk_X6_goes_39 : ∀ (M : Mem) (H : Heap) (locs : List Loc) (ls : Array Slot), bk_X6_goes_39 M x1 = some Mr → va_P D vwCl (wl ad kc nm M) H → va_S (fun q => z ≤ q) s.heap H locs → lv_has ls 3 [(0, .ref (ad 35)), (1, .int x1)] → W p l e rm_X6_goes s m args below meth c H locs 0 0 Q (F0 m 39 ls []) := by
    intro M H locs ls h hP hS hl
    refine lv_aload_n hx hb dX6_goes_39 rfl (lv_at hl 0 rfl) ?_
    refine q_getR hx hb hts hi_X6 hown hK hP ob_35 rfl 12 (by decide) rfl (hts (.fieldLink RX6 38 "MirrorNetModel" "target" "[I") (by decide +kernel)) (fun _ h9 => h9) dX6_goes_40 ?_
    refine lv_iload_n hx hb dX6_goes_43 rfl (lv_at hl 1 rfl) ?_
    obtain ⟨hk24, h⟩ := q_ck h
    refine q_iald hx hb hK hP ar_44 hk24 dX6_goes_44 ?_
    refine lv_iconst (v := -1) hx hb dX6_goes_45 (by decide) ?_
    refine lv_icmp_ne (tgt := 96) hx hb dX6_goes_46 (by decide) (fun c25 => ?_) (fun c25 => ?_)
    · have h := q_f c25 h
      exact B_bk_X6_goes_96 M H locs ls  h hP hS (lv_sub hl [0, 1] rfl)
    · have h := q_t c25 h
      refine lv_aload_n hx hb dX6_goes_49 rfl (lv_at hl 0 rfl) ?_
      refine q_getR hx hb hts hi_X6 hown hK hP ob_35 rfl 8 (by decide) rfl (hts (.fieldLink RX6 26 "MirrorNetModel" "from" "[I") (by decide +kernel)) (fun _ h9 => h9) dX6_goes_50 ?_
      refine lv_iload_n hx hb dX6_goes_53 rfl (lv_at hl 1 rfl) ?_
      obtain ⟨hk26, h⟩ := q_ck h
      refine q_iald hx hb hK hP ar_40 hk26 dX6_goes_54 ?_
      refine lv_if_ge (tgt := 67) hx hb dX6_goes_55 (by decide) (fun c27 => ?_) (fun c27 => ?_)
      · have h := q_t c27 h
        refine lv_aload_n hx hb dX6_goes_67 rfl (lv_at hl 0 rfl) ?_
        refine q_getR hx hb hts hi_X6 hown hK hP ob_35 rfl 11 (by decide) rfl (hts (.fieldLink RX6 35 "MirrorNetModel" "index" "[I") (by decide +kernel)) (fun _ h9 => h9) dX6_goes_68 ?_
        refine lv_aload_n hx hb dX6_goes_71 rfl (lv_at hl 0 rfl) ?_
        refine q_getR hx hb hts hi_X6 hown hK hP ob_35 rfl 8 (by decide) rfl (hts (.fieldLink RX6 26 "MirrorNetModel" "from" "[I") (by decide +kernel)) (fun _ h9 => h9) dX6_goes_72 ?_
        refine lv_iload_n hx hb dX6_goes_75 rfl (lv_at hl 1 rfl) ?_
        obtain ⟨hk28, h⟩ := q_ck h
        refine q_iald hx hb hK hP ar_40 hk28 dX6_goes_76 ?_
        obtain ⟨hk29, h⟩ := q_ck h
        refine q_iald hx hb hK hP ar_43 hk29 dX6_goes_77 ?_
        exact B_bk_X6_goes_78 M (gI M 43 (ix (gI M 40 (ix x1)))) H locs ls  h hP hS (lv_sub hl [0, 1] rfl)
      · have h := q_f c27 h
        refine lv_aload_n hx hb dX6_goes_58 rfl (lv_at hl 0 rfl) ?_
        refine q_getI hx hb hts hi_X6 hown hK hP ob_35 rfl 4 (by decide) rfl (hts (.fieldLink RX6 16 "MirrorNetModel" "states" "I") (by decide +kernel)) (fun _ h9 => h9) dX6_goes_59 ?_
        refine lv_iconst (v := 1) hx hb dX6_goes_62 (by decide) ?_
        refine lv_isub hx hb dX6_goes_63 ?_
        refine lv_goto (tgt := 78) hx hb dX6_goes_64 (by decide) ?_
        exact B_bk_X6_goes_78 M ((gI M 35 4) - (1 : Int32)) H locs ls  h hP hS (lv_sub hl [0, 1] rfl)
  obtain ⟨H, eH⟩ : ∃ H : Heap, H = s.heap := ⟨_, rfl⟩
  obtain ⟨locs, eL⟩ : ∃ L : List Loc, L = [] := ⟨_, rfl⟩
  have hP : va_P D vwCl (wl ad kc nm M) H := by rw [eH]; exact hP
  have hS : va_S (fun q => z ≤ q) s.heap H locs := by rw [eH, eL]; exact hS
  refine q_start eH eL ?_
  refine lv_aload_n hx hb dX6_goes_0 rfl (lv_at hl 0 rfl) ?_
  refine lv_iload_n hx hb dX6_goes_1 rfl (lv_at hl 1 rfl) ?_
  obtain ⟨r31, hc30, h⟩ := q_bd1 h
  refine q_cRz (va_runV (C := RX6) (As := [.int x1]) (rest := []) ⟨hx, hb, hml, hown, hts⟩ (ct_X6_isFallen l hAD (M := M) hc30) (cwV 1 hts gX6_goes_X6_isFallen rfl rfl rfl (by decide +kernel) ⟨Nat.le_of_ble_eq_true rfl, Nat.le_of_ble_eq_true rfl⟩) ⟨gw_blind, gw_recv ob_35 hK hP rfl, gw_pre _ hK hP (Nat.le_trans hz hS.1) hN⟩ rfl rfl hl.1 rfl (lv_room (Nat.le_of_ble_eq_true rfl)) dX6_goes_2 ⟨Nat.zero_le _, Nat.zero_le _⟩) (fun hzr31 => ?_)
  refine lv_if_eq (tgt := 16) hx hb dX6_goes_5 (by decide) (fun c35 => ?_) (fun c35 => ?_)
  · have h := q_t c35 h
    refine lv_aload_n hx hb dX6_goes_16 rfl (lv_at hl 0 rfl) ?_
    refine q_getR hx hb hts hi_X6 hown hK hP ob_35 rfl 8 (by decide) rfl (hts (.fieldLink RX6 26 "MirrorNetModel" "from" "[I") (by decide +kernel)) (fun _ h9 => h9) dX6_goes_17 ?_
    refine lv_iload_n hx hb dX6_goes_20 rfl (lv_at hl 1 rfl) ?_
    obtain ⟨hk36, h⟩ := q_ck h
    refine q_iald hx hb hK hP ar_40 hk36 dX6_goes_21 ?_
    refine lv_if_lt (tgt := 39) hx hb dX6_goes_22 (by decide) (fun c37 => ?_) (fun c37 => ?_)
    · have h := q_t c37 h
      exact B_bk_X6_goes_39 M H locs ls  h hP hS (lv_sub hl [0, 1] rfl)
    · have h := q_f c37 h
      refine lv_aload_n hx hb dX6_goes_25 rfl (lv_at hl 0 rfl) ?_
      refine lv_aload_n hx hb dX6_goes_26 rfl (lv_at hl 0 rfl) ?_
      refine q_getR hx hb hts hi_X6 hown hK hP ob_35 rfl 8 (by decide) rfl (hts (.fieldLink RX6 26 "MirrorNetModel" "from" "[I") (by decide +kernel)) (fun _ h9 => h9) dX6_goes_27 ?_
      refine lv_iload_n hx hb dX6_goes_30 rfl (lv_at hl 1 rfl) ?_
      obtain ⟨hk38, h⟩ := q_ck h
      refine q_iald hx hb hK hP ar_40 hk38 dX6_goes_31 ?_
      obtain ⟨r40, hc39, h⟩ := q_bd1 h
      refine q_cRz (va_runV (C := RX6) (As := [.int (gI M 40 (ix x1))]) (rest := []) ⟨hx, hb, hml, hown, hts⟩ (ct_X6_isFallen l hAD (M := M) hc39) (cwV 1 hts gX6_goes_X6_isFallen rfl rfl rfl (by decide +kernel) ⟨Nat.le_of_ble_eq_true rfl, Nat.le_of_ble_eq_true rfl⟩) ⟨gw_blind, gw_recv ob_35 hK hP rfl, gw_pre _ hK hP (Nat.le_trans hz hS.1) hN⟩ rfl rfl hl.1 rfl (lv_room (Nat.le_of_ble_eq_true rfl)) dX6_goes_32 ⟨Nat.zero_le _, Nat.zero_le _⟩) (fun hzr40 => ?_)
      refine lv_if_eq (tgt := 39) hx hb dX6_goes_35 (by decide) (fun c44 => ?_) (fun c44 => ?_)
      · have h := q_t c44 h
        exact B_bk_X6_goes_39 M H locs ls  h hP hS (lv_sub hl [0, 1] rfl)
      · have h := q_f c44 h
        exact q_rWv hQ hx hb hr hlk hP hS h dX6_goes_38
  · have h := q_f c35 h
    refine lv_aload_n hx hb dX6_goes_8 rfl (lv_at hl 0 rfl) ?_
    refine q_getR hx hb hts hi_X6 hown hK hP ob_35 rfl 13 (by decide) rfl (hts (.fieldLink RX6 41 "MirrorNetModel" "done" "[I") (by decide +kernel)) (fun _ h9 => h9) dX6_goes_9 ?_
    refine lv_iload_n hx hb dX6_goes_12 rfl (lv_at hl 1 rfl) ?_
    refine lv_iconst (v := 0) hx hb dX6_goes_13 (by decide) ?_
    obtain ⟨hk45, h⟩ := q_ck h
    obtain ⟨M46, eM46, h⟩ := q_nx h
    refine q_iast hx hb hK hP hAD hS ar_45 hk45 dX6_goes_14 (fun H locs hP hS => ?_)
    rw [← eM46] at hP
    exact q_rWv hQ hx hb hr hlk hP hS h dX6_goes_15
def rm_X6_pass : Room := { frames := 4, cells := 0, slots := 0, locals := 91 }
set_option maxHeartbeats 4000000 in
set_option maxRecDepth 100000 in
theorem ct_X6_pass (l : Launch) {D : va_G} {ad : Nat → Nat} {kc : Nat → ClassId} {nm z : Nat} (hAD : AD ad nm z) {M : Mem} {x1 : Int32} {r : Int32} {Mr : Mem}  (h : fn_X6_pass M x1 = some (r, Mr)) : Met l yX6_pass wsX6_pass rm_X6_pass (va_Pc [.ref (ad 35), .int x1] (GW D ad kc nm z M)) (QWi D ad kc nm z r Mr) 0 0 (fun q => z ≤ q) := by
  refine q_met (cc := cX6_pass) (maxL := 4) (ret := (some .int)) (by decide) rfl (Nat.le_of_ble_eq_true rfl) ?_
  intro p e s m args below meth c Q ls hx hb hr hlk hml hown hts hB hQ hl
  obtain ⟨hP, hK, hz, hN⟩ := hB
  have hown : s.vm.findClass RX6 = some m.cls := hown
  have hl : lv_has ls 4 [(0, .ref (ad 35)), (1, .int x1)] := hl
  have hi_X6 : ∀ w ∈ u_ws RX6 TX6 40, w ∈ wsX6_pass := by decide +kernel
  have hS : va_S (fun q => z ≤ q) s.heap s.heap [] := va_S.rf
  have L_lq_X6_pass_27 : ∀ (n27 : Nat) (M : Mem) (x2 : Int32) (H : Heap) (locs : List Loc) (ls : Array Slot), it2 (lq_X6_pass_27 x1) n27 M x2 = some (r, Mr) → va_P D vwCl (wl ad kc nm M) H → va_S (fun q => z ≤ q) s.heap H locs → lv_has ls 4 [(0, .ref (ad 35)), (1, .int x1), (2, .int x2)] → W p l e rm_X6_pass s m args below meth c H locs 0 0 Q (F0 m 27 ls []) := by
    intro n27
    induction n27 with
    | zero =>
      intro M x2 H locs ls h hP hS hl
      exact (it2_0 h).elim
    | succ n27 ih27 =>
      have L_lq_X6_pass_34 : ∀ (x2 : Int32), ∀ (n34 : Nat) (M : Mem) (x3 : Int32) (H : Heap) (locs : List Loc) (ls : Array Slot), it2 (lq_X6_pass_34 (it2 (lq_X6_pass_27 x1) n27) x1 x2) n34 M x3 = some (r, Mr) → va_P D vwCl (wl ad kc nm M) H → va_S (fun q => z ≤ q) s.heap H locs → lv_has ls 4 [(0, .ref (ad 35)), (1, .int x1), (2, .int x2), (3, .int x3)] → W p l e rm_X6_pass s m args below meth c H locs 0 0 Q (F0 m 34 ls []) := by
        intro x2 n34
        induction n34 with
        | zero =>
          intro M x3 H locs ls h hP hS hl
          exact (it2_0 h).elim
        | succ n34 ih34 =>
          intro M x3 H locs ls h hP hS hl
          have h := it2_s h
          refine lv_iload_n hx hb dX6_pass_34 rfl (lv_at hl 3 rfl) ?_
          refine lv_aload_n hx hb dX6_pass_35 rfl (lv_at hl 0 rfl) ?_
          refine q_getI hx hb hts hi_X6 hown hK hP ob_35 rfl 7 (by decide) rfl (hts (.fieldLink RX6 113 "MirrorNetModel" "mirrors" "I") (by decide +kernel)) (fun _ h9 => h9) dX6_pass_36 ?_
          refine lv_icmp_ge (tgt := 53) hx hb dX6_pass_39 (by decide) (fun c1 => ?_) (fun c1 => ?_)
          · have h := q_t c1 h
            refine lv_aload_n hx hb dX6_pass_53 rfl (lv_at hl 0 rfl) ?_
            refine lv_dup hx hb dX6_pass_54 rfl ?_
            refine q_getI hx hb hts hi_X6 hown hK hP ob_35 rfl 0 (by decide) rfl (hts (.fieldLink RX6 103 "MirrorNetModel" "now" "I") (by decide +kernel)) (fun _ h9 => h9) dX6_pass_55 ?_
            refine lv_iconst (v := 1) hx hb dX6_pass_58 (by decide) ?_
            refine lv_iadd hx hb dX6_pass_59 ?_
            obtain ⟨M2, eM2, h⟩ := q_nx h
            refine q_putI hx hb hts hi_X6 tyX6 tyX6_ok nmX6 hown hK hP hAD hS ob_35 rfl 0 (by decide) rfl (hts (.fieldLink RX6 103 "MirrorNetModel" "now" "I") (by decide +kernel)) (fun _ h9 => h9) rfl (ty := .int) (by decide +kernel) rfl rfl dX6_pass_60 (fun H locs hP hS => ?_)
            rw [← eM2] at hP
            obtain ⟨v3, ev3, h⟩ := q_nx h
            refine lv_iinc (v := v3) (lv' := [(2, .int v3), (0, .ref (ad 35)), (1, .int x1), (3, .int x3)]) hx hb dX6_pass_63 hl (k := 2) rfl (by rw [ev3]; rfl) (by decide) rfl (fun ls hl => ?_)
            refine lv_goto (tgt := 27) hx hb dX6_pass_66 (by decide) ?_
            exact ih27 M2 v3 H locs ls  h hP hS (lv_sub hl [1, 2, 0] rfl)
          · have h := q_f c1 h
            refine lv_aload_n hx hb dX6_pass_42 rfl (lv_at hl 0 rfl) ?_
            refine lv_iload_n hx hb dX6_pass_43 rfl (lv_at hl 3 rfl) ?_
            obtain ⟨M6, hc4, h⟩ := q_bd1 h
            refine q_cWv (va_runV (C := RX6) (As := [.int x3]) (rest := []) ⟨hx, hb, hml, hown, hts⟩ (ct_X6_goes l hAD (M := M) hc4) (cwV 1 hts gX6_pass_X6_goes rfl rfl rfl (by decide +kernel) ⟨Nat.le_of_ble_eq_true rfl, Nat.le_of_ble_eq_true rfl⟩) ⟨gw_blind, gw_recv ob_35 hK hP rfl, gw_pre _ hK hP (Nat.le_trans hz hS.1) hN⟩ rfl rfl hl.1 rfl (lv_room (Nat.le_of_ble_eq_true rfl)) dX6_pass_44 ⟨Nat.zero_le _, Nat.zero_le _⟩) hS (fun H locs hP hS => ?_)
            obtain ⟨v9, ev9, h⟩ := q_nx h
            refine lv_iinc (v := v9) (lv' := [(3, .int v9), (0, .ref (ad 35)), (1, .int x1), (2, .int x2)]) hx hb dX6_pass_47 hl (k := 3) rfl (by rw [ev9]; rfl) (by decide) rfl (fun ls hl => ?_)
            refine lv_goto (tgt := 34) hx hb dX6_pass_50 (by decide) ?_
            exact ih34 M6 v9 H locs ls  h hP hS (lv_sub hl [1, 2, 3, 0] rfl)
      intro M x2 H locs ls h hP hS hl
      have h := it2_s h
      refine lv_iload_n hx hb dX6_pass_27 rfl (lv_at hl 2 rfl) ?_
      refine lv_iload_n hx hb dX6_pass_28 rfl (lv_at hl 1 rfl) ?_
      refine lv_icmp_ge (tgt := 69) hx hb dX6_pass_29 (by decide) (fun c10 => ?_) (fun c10 => ?_)
      · have h := q_t c10 h
        refine lv_aload_n hx hb dX6_pass_69 rfl (lv_at hl 0 rfl) ?_
        refine q_getI hx hb hts hi_X6 hown hK hP ob_35 rfl 0 (by decide) rfl (hts (.fieldLink RX6 103 "MirrorNetModel" "now" "I") (by decide +kernel)) (fun _ h9 => h9) dX6_pass_70 ?_
        exact q_rWi hQ hx hb hr hlk hP hS h dX6_pass_73
      · have h := q_f c10 h
        refine lv_iconst (v := 0) hx hb dX6_pass_32 (by decide) ?_
        refine lv_istore_n (lv' := [(3, .int (0 : Int32)), (0, .ref (ad 35)), (1, .int x1), (2, .int x2)]) hx hb dX6_pass_33 rfl hl (by decide) rfl (fun ls hl => ?_)
        exact L_lq_X6_pass_34 x2 FU M (0 : Int32) H locs ls  h hP hS (lv_sub hl [1, 2, 3, 0] rfl)
  obtain ⟨H, eH⟩ : ∃ H : Heap, H = s.heap := ⟨_, rfl⟩
  obtain ⟨locs, eL⟩ : ∃ L : List Loc, L = [] := ⟨_, rfl⟩
  have hP : va_P D vwCl (wl ad kc nm M) H := by rw [eH]; exact hP
  have hS : va_S (fun q => z ≤ q) s.heap H locs := by rw [eH, eL]; exact hS
  refine q_start eH eL ?_
  refine lv_iload_n hx hb dX6_pass_0 rfl (lv_at hl 1 rfl) ?_
  refine lv_iconst (v := 1) hx hb dX6_pass_1 (by decide) ?_
  refine lv_sipush (v := 500) hx hb dX6_pass_2 (by decide) ?_
  obtain ⟨r12, hc11, h⟩ := q_bd1 h
  refine q_cRz (va_runS (As := [.int x1, .int (1 : Int32), .int (500 : Int32)]) (rest := []) ⟨hx, hb, hml, hown, hts⟩ (ct_X6_in l hAD (M := M) hc11) (va_cwS 3 hts gX6_pass_X6_in rfl rfl rfl (by decide +kernel) ⟨Nat.le_of_ble_eq_true rfl, Nat.le_of_ble_eq_true rfl⟩) ⟨gw_blind, gw_pre _ hK hP (Nat.le_trans hz hS.1) hN⟩ rfl rfl hl.1 rfl (lv_room (Nat.le_of_ble_eq_true rfl)) dX6_pass_5 ⟨Nat.zero_le _, Nat.zero_le _⟩) (fun hzr12 => ?_)
  refine lv_if_eq (tgt := 23) hx hb dX6_pass_8 (by decide) (fun c16 => ?_) (fun c16 => ?_)
  · have h := q_t c16 h
    refine lv_iconst (v := -1) hx hb dX6_pass_23 (by decide) ?_
    exact q_rWi hQ hx hb hr hlk hP hS h dX6_pass_24
  · have h := q_f c16 h
    refine lv_aload_n hx hb dX6_pass_11 rfl (lv_at hl 0 rfl) ?_
    refine q_getI hx hb hts hi_X6 hown hK hP ob_35 rfl 0 (by decide) rfl (hts (.fieldLink RX6 103 "MirrorNetModel" "now" "I") (by decide +kernel)) (fun _ h9 => h9) dX6_pass_12 ?_
    refine lv_iload_n hx hb dX6_pass_15 rfl (lv_at hl 1 rfl) ?_
    refine lv_iadd hx hb dX6_pass_16 ?_
    refine lv_sipush (v := 9999) hx hb dX6_pass_17 (by decide) ?_
    refine lv_icmp_le (tgt := 25) hx hb dX6_pass_20 (by decide) (fun c17 => ?_) (fun c17 => ?_)
    · have h := q_t c17 h
      refine lv_iconst (v := 0) hx hb dX6_pass_25 (by decide) ?_
      refine lv_istore_n (lv' := [(2, .int (0 : Int32)), (0, .ref (ad 35)), (1, .int x1)]) hx hb dX6_pass_26 rfl hl (by decide) rfl (fun ls hl => ?_)
      exact L_lq_X6_pass_27 FU M (0 : Int32) H locs ls  h hP hS (lv_sub hl [1, 2, 0] rfl)
    · have h := q_f c17 h
      refine lv_iconst (v := -1) hx hb dX6_pass_23 (by decide) ?_
      exact q_rWi hQ hx hb hr hlk hP hS h dX6_pass_24
def rm_X6_isAsker : Room := { frames := 1, cells := 0, slots := 0, locals := 22 }
set_option maxHeartbeats 4000000 in
set_option maxRecDepth 100000 in
theorem ct_X6_isAsker (l : Launch) {D : va_G} {ad : Nat → Nat} {kc : Nat → ClassId} {nm z : Nat} (hAD : AD ad nm z) {M : Mem} {x0 : Int32} {r : Int32}  (h : fn_X6_isAsker x0 = some r) : Met l yX6_isAsker wsX6_isAsker rm_X6_isAsker (va_Pc [.int x0] (GW D ad kc nm z M)) (QRz r) 0 0 (fun _ => False) := by
  refine q_met (cc := cX6_isAsker) (maxL := 1) (ret := (some .boolean)) (by decide) rfl (Nat.le_of_ble_eq_true rfl) ?_
  intro p e s m args below meth c Q ls hx hb hr hlk hml hown hts hB hQ hl
  obtain ⟨hP, hK, hz, hN⟩ := hB
  have hown : s.vm.findClass RX6 = some m.cls := hown
  have hl : lv_has ls 1 [(0, .int x0)] := hl
  refine lv_iload_n hx hb dX6_isAsker_0 rfl (lv_at hl 0 rfl) ?_
  refine lv_iconst (v := 0) hx hb dX6_isAsker_1 (by decide) ?_
  refine lv_iconst (v := 5) hx hb dX6_isAsker_2 (by decide) ?_
  obtain ⟨r2, hc1, h⟩ := q_bd1 h
  refine q_cRz (va_runS (As := [.int x0, .int (0 : Int32), .int (5 : Int32)]) (rest := []) ⟨hx, hb, hml, hown, hts⟩ (ct_X6_in l hAD (M := M) hc1) (va_cwS 3 hts gX6_isAsker_X6_in rfl rfl rfl (by decide +kernel) ⟨Nat.le_of_ble_eq_true rfl, Nat.le_of_ble_eq_true rfl⟩) ⟨gw_blind, gw_pre _ hK hP hz hN⟩ rfl rfl hl.1 rfl (lv_room (Nat.le_of_ble_eq_true rfl)) dX6_isAsker_3 ⟨Nat.zero_le _, Nat.zero_le _⟩) (fun hzr2 => ?_)
  exact q_rRz hQ hx hb hr hlk h hzr2 dX6_isAsker_6
def rm_X6_cost : Room := { frames := 2, cells := 0, slots := 0, locals := 43 }
set_option maxHeartbeats 4000000 in
set_option maxRecDepth 100000 in
theorem ct_X6_cost (l : Launch) {D : va_G} {ad : Nat → Nat} {kc : Nat → ClassId} {nm z : Nat} (hAD : AD ad nm z) {M : Mem} {x1 : Int32} {x2 : Int32} {x3 : Int32} {r : Int32} {Mr : Mem}  (h : fn_X6_cost M x1 x2 x3 = some (r, Mr)) : Met l yX6_cost wsX6_cost rm_X6_cost (va_Pc [.ref (ad 35), .int x1, .int x2, .int x3] (GW D ad kc nm z M)) (QWi D ad kc nm z r Mr) 0 0 (fun q => z ≤ q) := by
  refine q_met (cc := cX6_cost) (maxL := 5) (ret := (some .int)) (by decide) rfl (Nat.le_of_ble_eq_true rfl) ?_
  intro p e s m args below meth c Q ls hx hb hr hlk hml hown hts hB hQ hl
  obtain ⟨hP, hK, hz, hN⟩ := hB
  have hown : s.vm.findClass RX6 = some m.cls := hown
  have hl : lv_has ls 5 [(0, .ref (ad 35)), (1, .int x1), (2, .int x2), (3, .int x3)] := hl
  have hi_X6 : ∀ w ∈ u_ws RX6 TX6 40, w ∈ wsX6_cost := by decide +kernel
  have hS : va_S (fun q => z ≤ q) s.heap s.heap [] := va_S.rf
  have B_bk_X6_cost_25 : ∀ (M : Mem) (H : Heap) (locs : List Loc) (ls : Array Slot), bk_X6_cost_25 M = some (r, Mr) → va_P D vwCl (wl ad kc nm M) H → va_S (fun q => z ≤ q) s.heap H locs → lv_has ls 5 [] → W p l e rm_X6_cost s m args below meth c H locs 0 0 Q (F0 m 25 ls []) := by
    intro M H locs ls h hP hS hl
    refine lv_bipush (v := -2) hx hb dX6_cost_25 (by decide) ?_
    exact q_rWi hQ hx hb hr hlk hP hS h dX6_cost_27
  obtain ⟨H, eH⟩ : ∃ H : Heap, H = s.heap := ⟨_, rfl⟩
  obtain ⟨locs, eL⟩ : ∃ L : List Loc, L = [] := ⟨_, rfl⟩
  have hP : va_P D vwCl (wl ad kc nm M) H := by rw [eH]; exact hP
  have hS : va_S (fun q => z ≤ q) s.heap H locs := by rw [eH, eL]; exact hS
  refine q_start eH eL ?_
  refine lv_iload_n hx hb dX6_cost_0 rfl (lv_at hl 1 rfl) ?_
  obtain ⟨r2, hc1, h⟩ := q_bd1 h
  refine q_cRz (va_runS (As := [.int x1]) (rest := []) ⟨hx, hb, hml, hown, hts⟩ (ct_X6_isAsker l hAD (M := M) hc1) (va_cwS 1 hts gX6_cost_X6_isAsker rfl rfl rfl (by decide +kernel) ⟨Nat.le_of_ble_eq_true rfl, Nat.le_of_ble_eq_true rfl⟩) ⟨gw_blind, gw_pre _ hK hP (Nat.le_trans hz hS.1) hN⟩ rfl rfl hl.1 rfl (lv_room (Nat.le_of_ble_eq_true rfl)) dX6_cost_1 ⟨Nat.zero_le _, Nat.zero_le _⟩) (fun hzr2 => ?_)
  refine lv_if_eq (tgt := 25) hx hb dX6_cost_4 (by decide) (fun c6 => ?_) (fun c6 => ?_)
  · have h := q_t c6 h
    exact B_bk_X6_cost_25 M H locs ls  h hP hS (lv_sub hl [] rfl)
  · have h := q_f c6 h
    refine lv_aload_n hx hb dX6_cost_7 rfl (lv_at hl 0 rfl) ?_
    refine lv_iload_n hx hb dX6_cost_8 rfl (lv_at hl 2 rfl) ?_
    obtain ⟨r8, hc7, h⟩ := q_bd1 h
    refine q_cRz (va_runV (C := RX6) (As := [.int x2]) (rest := []) ⟨hx, hb, hml, hown, hts⟩ (ct_X6_isMirror l hAD (M := M) hc7) (cwV 1 hts gX6_cost_X6_isMirror rfl rfl rfl (by decide +kernel) ⟨Nat.le_of_ble_eq_true rfl, Nat.le_of_ble_eq_true rfl⟩) ⟨gw_blind, gw_recv ob_35 hK hP rfl, gw_pre _ hK hP (Nat.le_trans hz hS.1) hN⟩ rfl rfl hl.1 rfl (lv_room (Nat.le_of_ble_eq_true rfl)) dX6_cost_9 ⟨Nat.zero_le _, Nat.zero_le _⟩) (fun hzr8 => ?_)
    refine lv_if_eq (tgt := 25) hx hb dX6_cost_12 (by decide) (fun c12 => ?_) (fun c12 => ?_)
    · have h := q_t c12 h
      exact B_bk_X6_cost_25 M H locs ls  h hP hS (lv_sub hl [] rfl)
    · have h := q_f c12 h
      refine lv_iload_n hx hb dX6_cost_15 rfl (lv_at hl 3 rfl) ?_
      refine lv_iconst (v := -1) hx hb dX6_cost_16 (by decide) ?_
      refine lv_bipush (v := 100) hx hb dX6_cost_17 (by decide) ?_
      obtain ⟨r14, hc13, h⟩ := q_bd1 h
      refine q_cRz (va_runS (As := [.int x3, .int (-1 : Int32), .int (100 : Int32)]) (rest := []) ⟨hx, hb, hml, hown, hts⟩ (ct_X6_in l hAD (M := M) hc13) (va_cwS 3 hts gX6_cost_X6_in rfl rfl rfl (by decide +kernel) ⟨Nat.le_of_ble_eq_true rfl, Nat.le_of_ble_eq_true rfl⟩) ⟨gw_blind, gw_pre _ hK hP (Nat.le_trans hz hS.1) hN⟩ rfl rfl hl.1 rfl (lv_room (Nat.le_of_ble_eq_true rfl)) dX6_cost_19 ⟨Nat.zero_le _, Nat.zero_le _⟩) (fun hzr14 => ?_)
      refine lv_if_ne (tgt := 28) hx hb dX6_cost_22 (by decide) (fun c18 => ?_) (fun c18 => ?_)
      · have h := q_f c18 h
        refine lv_aload_n hx hb dX6_cost_28 rfl (lv_at hl 0 rfl) ?_
        refine q_getR hx hb hts hi_X6 hown hK hP ob_35 rfl 24 (by decide) rfl (hts (.fieldLink RX6 72 "MirrorNetModel" "costOf" "[I") (by decide +kernel)) (fun _ h9 => h9) dX6_cost_29 ?_
        refine lv_bipush (v := 8) hx hb dX6_cost_32 (by decide) ?_
        refine lv_iload_n hx hb dX6_cost_34 rfl (lv_at hl 1 rfl) ?_
        refine lv_imul hx hb dX6_cost_35 ?_
        refine lv_iload_n hx hb dX6_cost_36 rfl (lv_at hl 2 rfl) ?_
        refine lv_iadd hx hb dX6_cost_37 ?_
        obtain ⟨hk19, h⟩ := q_ck h
        refine q_iald hx hb hK hP ar_54 hk19 dX6_cost_38 ?_
        refine lv_topi (fun v20 ev20 => ?_)
        have h := q_nxe ev20 h
        refine lv_istore (lv' := [(4, .int v20), (0, .ref (ad 35)), (1, .int x1), (2, .int x2), (3, .int x3)]) hx hb dX6_cost_39 hl (by decide) rfl (fun ls hl => ?_)
        refine lv_aload_n hx hb dX6_cost_41 rfl (lv_at hl 1 rfl) ?_
        refine q_getR hx hb hts hi_X6 hown hK hP ob_35 rfl 24 (by decide) rfl (hts (.fieldLink RX6 72 "MirrorNetModel" "costOf" "[I") (by decide +kernel)) (fun _ h9 => h9) dX6_cost_42 ?_
        refine lv_bipush (v := 8) hx hb dX6_cost_45 (by decide) ?_
        refine lv_iload_n hx hb dX6_cost_47 rfl (lv_at hl 2 rfl) ?_
        refine lv_imul hx hb dX6_cost_48 ?_
        refine lv_iload_n hx hb dX6_cost_49 rfl (lv_at hl 3 rfl) ?_
        refine lv_iadd hx hb dX6_cost_50 ?_
        refine lv_iload_n hx hb dX6_cost_51 rfl (lv_at hl 4 rfl) ?_
        obtain ⟨hk21, h⟩ := q_ck h
        obtain ⟨M22, eM22, h⟩ := q_nx h
        refine q_iast hx hb hK hP hAD hS ar_54 hk21 dX6_cost_52 (fun H locs hP hS => ?_)
        rw [← eM22] at hP
        refine lv_iload hx hb dX6_cost_53 (lv_at hl 0 rfl) ?_
        exact q_rWi hQ hx hb hr hlk hP hS h dX6_cost_55
      · have h := q_t c18 h
        exact B_bk_X6_cost_25 M H locs ls  h hP hS (lv_sub hl [] rfl)
def rm_X6_bears : Room := { frames := 2, cells := 0, slots := 0, locals := 42 }
set_option maxHeartbeats 4000000 in
set_option maxRecDepth 100000 in
theorem ct_X6_bears (l : Launch) {D : va_G} {ad : Nat → Nat} {kc : Nat → ClassId} {nm z : Nat} (hAD : AD ad nm z) {M : Mem} {x1 : Int32} {x2 : Int32} {r : Int32} {Mr : Mem}  (h : fn_X6_bears M x1 x2 = some (r, Mr)) : Met l yX6_bears wsX6_bears rm_X6_bears (va_Pc [.ref (ad 35), .int x1, .int x2] (GW D ad kc nm z M)) (QWi D ad kc nm z r Mr) 0 0 (fun q => z ≤ q) := by
  refine q_met (cc := cX6_bears) (maxL := 4) (ret := (some .int)) (by decide) rfl (Nat.le_of_ble_eq_true rfl) ?_
  intro p e s m args below meth c Q ls hx hb hr hlk hml hown hts hB hQ hl
  obtain ⟨hP, hK, hz, hN⟩ := hB
  have hown : s.vm.findClass RX6 = some m.cls := hown
  have hl : lv_has ls 4 [(0, .ref (ad 35)), (1, .int x1), (2, .int x2)] := hl
  have hi_X6 : ∀ w ∈ u_ws RX6 TX6 40, w ∈ wsX6_bears := by decide +kernel
  have hS : va_S (fun q => z ≤ q) s.heap s.heap [] := va_S.rf
  obtain ⟨H, eH⟩ : ∃ H : Heap, H = s.heap := ⟨_, rfl⟩
  obtain ⟨locs, eL⟩ : ∃ L : List Loc, L = [] := ⟨_, rfl⟩
  have hP : va_P D vwCl (wl ad kc nm M) H := by rw [eH]; exact hP
  have hS : va_S (fun q => z ≤ q) s.heap H locs := by rw [eH, eL]; exact hS
  refine q_start eH eL ?_
  refine lv_iload_n hx hb dX6_bears_0 rfl (lv_at hl 1 rfl) ?_
  obtain ⟨r2, hc1, h⟩ := q_bd1 h
  refine q_cRz (va_runS (As := [.int x1]) (rest := []) ⟨hx, hb, hml, hown, hts⟩ (ct_X6_isAsker l hAD (M := M) hc1) (va_cwS 1 hts gX6_bears_X6_isAsker rfl rfl rfl (by decide +kernel) ⟨Nat.le_of_ble_eq_true rfl, Nat.le_of_ble_eq_true rfl⟩) ⟨gw_blind, gw_pre _ hK hP (Nat.le_trans hz hS.1) hN⟩ rfl rfl hl.1 rfl (lv_room (Nat.le_of_ble_eq_true rfl)) dX6_bears_1 ⟨Nat.zero_le _, Nat.zero_le _⟩) (fun hzr2 => ?_)
  refine lv_if_eq (tgt := 18) hx hb dX6_bears_4 (by decide) (fun c6 => ?_) (fun c6 => ?_)
  · have h := q_t c6 h
    refine lv_iconst (v := -1) hx hb dX6_bears_18 (by decide) ?_
    exact q_rWi hQ hx hb hr hlk hP hS h dX6_bears_19
  · have h := q_f c6 h
    refine lv_iload_n hx hb dX6_bears_7 rfl (lv_at hl 2 rfl) ?_
    refine lv_iconst (v := 0) hx hb dX6_bears_8 (by decide) ?_
    refine lv_sipush (v := 9999) hx hb dX6_bears_9 (by decide) ?_
    obtain ⟨r8, hc7, h⟩ := q_bd1 h
    refine q_cRz (va_runS (As := [.int x2, .int (0 : Int32), .int (9999 : Int32)]) (rest := []) ⟨hx, hb, hml, hown, hts⟩ (ct_X6_in l hAD (M := M) hc7) (va_cwS 3 hts gX6_bears_X6_in rfl rfl rfl (by decide +kernel) ⟨Nat.le_of_ble_eq_true rfl, Nat.le_of_ble_eq_true rfl⟩) ⟨gw_blind, gw_pre _ hK hP (Nat.le_trans hz hS.1) hN⟩ rfl rfl hl.1 rfl (lv_room (Nat.le_of_ble_eq_true rfl)) dX6_bears_12 ⟨Nat.zero_le _, Nat.zero_le _⟩) (fun hzr8 => ?_)
    refine lv_if_ne (tgt := 20) hx hb dX6_bears_15 (by decide) (fun c12 => ?_) (fun c12 => ?_)
    · have h := q_f c12 h
      refine lv_aload_n hx hb dX6_bears_20 rfl (lv_at hl 0 rfl) ?_
      refine q_getR hx hb hts hi_X6 hown hK hP ob_35 rfl 25 (by decide) rfl (hts (.fieldLink RX6 75 "MirrorNetModel" "bears" "[I") (by decide +kernel)) (fun _ h9 => h9) dX6_bears_21 ?_
      refine lv_iload_n hx hb dX6_bears_24 rfl (lv_at hl 1 rfl) ?_
      obtain ⟨hk13, h⟩ := q_ck h
      refine q_iald hx hb hK hP ar_55 hk13 dX6_bears_25 ?_
      refine lv_topi (fun v14 ev14 => ?_)
      have h := q_nxe ev14 h
      refine lv_istore_n (lv' := [(3, .int v14), (0, .ref (ad 35)), (1, .int x1), (2, .int x2)]) hx hb dX6_bears_26 rfl hl (by decide) rfl (fun ls hl => ?_)
      refine lv_aload_n hx hb dX6_bears_27 rfl (lv_at hl 1 rfl) ?_
      refine q_getR hx hb hts hi_X6 hown hK hP ob_35 rfl 25 (by decide) rfl (hts (.fieldLink RX6 75 "MirrorNetModel" "bears" "[I") (by decide +kernel)) (fun _ h9 => h9) dX6_bears_28 ?_
      refine lv_iload_n hx hb dX6_bears_31 rfl (lv_at hl 2 rfl) ?_
      refine lv_iload_n hx hb dX6_bears_32 rfl (lv_at hl 3 rfl) ?_
      obtain ⟨hk15, h⟩ := q_ck h
      obtain ⟨M16, eM16, h⟩ := q_nx h
      refine q_iast hx hb hK hP hAD hS ar_55 hk15 dX6_bears_33 (fun H locs hP hS => ?_)
      rw [← eM16] at hP
      refine lv_iload_n hx hb dX6_bears_34 rfl (lv_at hl 0 rfl) ?_
      exact q_rWi hQ hx hb hr hlk hP hS h dX6_bears_35
    · have h := q_t c12 h
      refine lv_iconst (v := -1) hx hb dX6_bears_18 (by decide) ?_
      exact q_rWi hQ hx hb hr hlk hP hS h dX6_bears_19
def rm_X6_grace : Room := { frames := 1, cells := 0, slots := 0, locals := 22 }
set_option maxHeartbeats 4000000 in
set_option maxRecDepth 100000 in
theorem ct_X6_grace (l : Launch) {D : va_G} {ad : Nat → Nat} {kc : Nat → ClassId} {nm z : Nat} (hAD : AD ad nm z) {M : Mem} {x1 : Int32} {r : Int32} {Mr : Mem}  (h : fn_X6_grace M x1 = some (r, Mr)) : Met l yX6_grace wsX6_grace rm_X6_grace (va_Pc [.ref (ad 35), .int x1] (GW D ad kc nm z M)) (QWi D ad kc nm z r Mr) 0 0 (fun q => z ≤ q) := by
  refine q_met (cc := cX6_grace) (maxL := 3) (ret := (some .int)) (by decide) rfl (Nat.le_of_ble_eq_true rfl) ?_
  intro p e s m args below meth c Q ls hx hb hr hlk hml hown hts hB hQ hl
  obtain ⟨hP, hK, hz, hN⟩ := hB
  have hown : s.vm.findClass RX6 = some m.cls := hown
  have hl : lv_has ls 3 [(0, .ref (ad 35)), (1, .int x1)] := hl
  have hi_X6 : ∀ w ∈ u_ws RX6 TX6 40, w ∈ wsX6_grace := by decide +kernel
  have hS : va_S (fun q => z ≤ q) s.heap s.heap [] := va_S.rf
  obtain ⟨H, eH⟩ : ∃ H : Heap, H = s.heap := ⟨_, rfl⟩
  obtain ⟨locs, eL⟩ : ∃ L : List Loc, L = [] := ⟨_, rfl⟩
  have hP : va_P D vwCl (wl ad kc nm M) H := by rw [eH]; exact hP
  have hS : va_S (fun q => z ≤ q) s.heap H locs := by rw [eH, eL]; exact hS
  refine q_start eH eL ?_
  refine lv_iload_n hx hb dX6_grace_0 rfl (lv_at hl 1 rfl) ?_
  refine lv_iconst (v := 0) hx hb dX6_grace_1 (by decide) ?_
  refine lv_sipush (v := 9999) hx hb dX6_grace_2 (by decide) ?_
  obtain ⟨r2, hc1, h⟩ := q_bd1 h
  refine q_cRz (va_runS (As := [.int x1, .int (0 : Int32), .int (9999 : Int32)]) (rest := []) ⟨hx, hb, hml, hown, hts⟩ (ct_X6_in l hAD (M := M) hc1) (va_cwS 3 hts gX6_grace_X6_in rfl rfl rfl (by decide +kernel) ⟨Nat.le_of_ble_eq_true rfl, Nat.le_of_ble_eq_true rfl⟩) ⟨gw_blind, gw_pre _ hK hP (Nat.le_trans hz hS.1) hN⟩ rfl rfl hl.1 rfl (lv_room (Nat.le_of_ble_eq_true rfl)) dX6_grace_5 ⟨Nat.zero_le _, Nat.zero_le _⟩) (fun hzr2 => ?_)
  refine lv_if_ne (tgt := 13) hx hb dX6_grace_8 (by decide) (fun c6 => ?_) (fun c6 => ?_)
  · have h := q_f c6 h
    refine lv_aload_n hx hb dX6_grace_13 rfl (lv_at hl 0 rfl) ?_
    refine q_getI hx hb hts hi_X6 hown hK hP ob_35 rfl 23 (by decide) rfl (hts (.fieldLink RX6 69 "MirrorNetModel" "grace" "I") (by decide +kernel)) (fun _ h9 => h9) dX6_grace_14 ?_
    refine lv_topi (fun v7 ev7 => ?_)
    have h := q_nxe ev7 h
    refine lv_istore_n (lv' := [(2, .int v7), (0, .ref (ad 35)), (1, .int x1)]) hx hb dX6_grace_17 rfl hl (by decide) rfl (fun ls hl => ?_)
    refine lv_aload_n hx hb dX6_grace_18 rfl (lv_at hl 1 rfl) ?_
    refine lv_iload_n hx hb dX6_grace_19 rfl (lv_at hl 2 rfl) ?_
    obtain ⟨M8, eM8, h⟩ := q_nx h
    refine q_putI hx hb hts hi_X6 tyX6 tyX6_ok nmX6 hown hK hP hAD hS ob_35 rfl 23 (by decide) rfl (hts (.fieldLink RX6 69 "MirrorNetModel" "grace" "I") (by decide +kernel)) (fun _ h9 => h9) rfl (ty := .int) (by decide +kernel) rfl rfl dX6_grace_20 (fun H locs hP hS => ?_)
    rw [← eM8] at hP
    refine lv_iload_n hx hb dX6_grace_23 rfl (lv_at hl 0 rfl) ?_
    exact q_rWi hQ hx hb hr hlk hP hS h dX6_grace_24
  · have h := q_t c6 h
    refine lv_iconst (v := -1) hx hb dX6_grace_11 (by decide) ?_
    exact q_rWi hQ hx hb hr hlk hP hS h dX6_grace_12
def rm_X6_forgives : Room := { frames := 2, cells := 0, slots := 0, locals := 42 }
set_option maxHeartbeats 4000000 in
set_option maxRecDepth 100000 in
theorem ct_X6_forgives (l : Launch) {D : va_G} {ad : Nat → Nat} {kc : Nat → ClassId} {nm z : Nat} (hAD : AD ad nm z) {M : Mem} {x1 : Int32} {r : Int32} {Mr : Mem}  (h : fn_X6_forgives M x1 = some (r, Mr)) : Met l yX6_forgives wsX6_forgives rm_X6_forgives (va_Pc [.ref (ad 35), .int x1] (GW D ad kc nm z M)) (QWi D ad kc nm z r Mr) 0 0 (fun q => z ≤ q) := by
  refine q_met (cc := cX6_forgives) (maxL := 4) (ret := (some .int)) (by decide) rfl (Nat.le_of_ble_eq_true rfl) ?_
  intro p e s m args below meth c Q ls hx hb hr hlk hml hown hts hB hQ hl
  obtain ⟨hP, hK, hz, hN⟩ := hB
  have hown : s.vm.findClass RX6 = some m.cls := hown
  have hl : lv_has ls 4 [(0, .ref (ad 35)), (1, .int x1)] := hl
  have hi_X6 : ∀ w ∈ u_ws RX6 TX6 40, w ∈ wsX6_forgives := by decide +kernel
  have hS : va_S (fun q => z ≤ q) s.heap s.heap [] := va_S.rf
  have L_lq_X6_forgives_13 : ∀ (M : Mem), ∀ (n13 : Nat) (x2 : Int32) (x3 : Int32) (H : Heap) (locs : List Loc) (ls : Array Slot), it2 (lq_X6_forgives_13 M x1) n13 x2 x3 = some (r, Mr) → va_P D vwCl (wl ad kc nm M) H → va_S (fun q => z ≤ q) s.heap H locs → lv_has ls 4 [(0, .ref (ad 35)), (1, .int x1), (2, .int x2), (3, .int x3)] → W p l e rm_X6_forgives s m args below meth c H locs 0 0 Q (F0 m 13 ls []) := by
    intro M n13
    induction n13 with
    | zero =>
      intro x2 x3 H locs ls h hP hS hl
      exact (it2_0 h).elim
    | succ n13 ih13 =>
      intro x2 x3 H locs ls h hP hS hl
      have h := it2_s h
      refine lv_iload_n hx hb dX6_forgives_13 rfl (lv_at hl 3 rfl) ?_
      refine lv_bipush (v := 8) hx hb dX6_forgives_14 (by decide) ?_
      refine lv_icmp_ge (tgt := 38) hx hb dX6_forgives_16 (by decide) (fun c1 => ?_) (fun c1 => ?_)
      · have h := q_t c1 h
        refine lv_aload_n hx hb dX6_forgives_38 rfl (lv_at hl 0 rfl) ?_
        refine q_getR hx hb hts hi_X6 hown hK hP ob_35 rfl 27 (by decide) rfl (hts (.fieldLink RX6 81 "MirrorNetModel" "bad" "[I") (by decide +kernel)) (fun _ h9 => h9) dX6_forgives_39 ?_
        refine lv_iload_n hx hb dX6_forgives_42 rfl (lv_at hl 1 rfl) ?_
        refine lv_iconst (v := 0) hx hb dX6_forgives_43 (by decide) ?_
        obtain ⟨hk2, h⟩ := q_ck h
        obtain ⟨M3, eM3, h⟩ := q_nx h
        refine q_iast hx hb hK hP hAD hS ar_57 hk2 dX6_forgives_44 (fun H locs hP hS => ?_)
        rw [← eM3] at hP
        refine lv_iload_n hx hb dX6_forgives_45 rfl (lv_at hl 2 rfl) ?_
        exact q_rWi hQ hx hb hr hlk hP hS h dX6_forgives_46
      · have h := q_f c1 h
        refine lv_iload_n hx hb dX6_forgives_19 rfl (lv_at hl 2 rfl) ?_
        refine lv_aload_n hx hb dX6_forgives_20 rfl (lv_at hl 0 rfl) ?_
        refine q_getR hx hb hts hi_X6 hown hK hP ob_35 rfl 27 (by decide) rfl (hts (.fieldLink RX6 81 "MirrorNetModel" "bad" "[I") (by decide +kernel)) (fun _ h9 => h9) dX6_forgives_21 ?_
        refine lv_iload_n hx hb dX6_forgives_24 rfl (lv_at hl 1 rfl) ?_
        obtain ⟨hk4, h⟩ := q_ck h
        refine q_iald hx hb hK hP ar_57 hk4 dX6_forgives_25 ?_
        refine lv_iload_n hx hb dX6_forgives_26 rfl (lv_at hl 3 rfl) ?_
        refine lv_ishr hx hb dX6_forgives_27 ?_
        refine lv_iconst (v := 1) hx hb dX6_forgives_28 (by decide) ?_
        refine lv_iand hx hb dX6_forgives_29 ?_
        refine lv_iadd hx hb dX6_forgives_30 ?_
        refine lv_topi (fun v5 ev5 => ?_)
        have h := q_nxe ev5 h
        refine lv_istore_n (lv' := [(2, .int v5), (0, .ref (ad 35)), (1, .int x1), (3, .int x3)]) hx hb dX6_forgives_31 rfl hl (by decide) rfl (fun ls hl => ?_)
        obtain ⟨v6, ev6, h⟩ := q_nx h
        refine lv_iinc (v := v6) (lv' := [(3, .int v6), (2, .int v5), (0, .ref (ad 35)), (1, .int x1)]) hx hb dX6_forgives_32 hl (k := 3) rfl (by rw [ev6]; rfl) (by decide) rfl (fun ls hl => ?_)
        refine lv_goto (tgt := 13) hx hb dX6_forgives_35 (by decide) ?_
        exact ih13 v5 v6 H locs ls  h hP hS (lv_sub hl [2, 3, 1, 0] rfl)
  obtain ⟨H, eH⟩ : ∃ H : Heap, H = s.heap := ⟨_, rfl⟩
  obtain ⟨locs, eL⟩ : ∃ L : List Loc, L = [] := ⟨_, rfl⟩
  have hP : va_P D vwCl (wl ad kc nm M) H := by rw [eH]; exact hP
  have hS : va_S (fun q => z ≤ q) s.heap H locs := by rw [eH, eL]; exact hS
  refine q_start eH eL ?_
  refine lv_iload_n hx hb dX6_forgives_0 rfl (lv_at hl 1 rfl) ?_
  obtain ⟨r8, hc7, h⟩ := q_bd1 h
  refine q_cRz (va_runS (As := [.int x1]) (rest := []) ⟨hx, hb, hml, hown, hts⟩ (ct_X6_isAsker l hAD (M := M) hc7) (va_cwS 1 hts gX6_forgives_X6_isAsker rfl rfl rfl (by decide +kernel) ⟨Nat.le_of_ble_eq_true rfl, Nat.le_of_ble_eq_true rfl⟩) ⟨gw_blind, gw_pre _ hK hP (Nat.le_trans hz hS.1) hN⟩ rfl rfl hl.1 rfl (lv_room (Nat.le_of_ble_eq_true rfl)) dX6_forgives_1 ⟨Nat.zero_le _, Nat.zero_le _⟩) (fun hzr8 => ?_)
  refine lv_if_ne (tgt := 9) hx hb dX6_forgives_4 (by decide) (fun c12 => ?_) (fun c12 => ?_)
  · have h := q_f c12 h
    refine lv_iconst (v := 0) hx hb dX6_forgives_9 (by decide) ?_
    refine lv_istore_n (lv' := [(2, .int (0 : Int32)), (0, .ref (ad 35)), (1, .int x1)]) hx hb dX6_forgives_10 rfl hl (by decide) rfl (fun ls hl => ?_)
    refine lv_iconst (v := 0) hx hb dX6_forgives_11 (by decide) ?_
    refine lv_istore_n (lv' := [(3, .int (0 : Int32)), (2, .int (0 : Int32)), (0, .ref (ad 35)), (1, .int x1)]) hx hb dX6_forgives_12 rfl hl (by decide) rfl (fun ls hl => ?_)
    exact L_lq_X6_forgives_13 M FU (0 : Int32) (0 : Int32) H locs ls  h hP hS (lv_sub hl [2, 3, 1, 0] rfl)
  · have h := q_t c12 h
    refine lv_iconst (v := -1) hx hb dX6_forgives_7 (by decide) ?_
    exact q_rWi hQ hx hb hr hlk hP hS h dX6_forgives_8
def rm_X6_ageOf : Room := { frames := 0, cells := 0, slots := 0, locals := 0 }
set_option maxHeartbeats 4000000 in
set_option maxRecDepth 100000 in
theorem ct_X6_ageOf (l : Launch) {D : va_G} {ad : Nat → Nat} {kc : Nat → ClassId} {nm z : Nat} (hAD : AD ad nm z) {M : Mem} {x1 : Int32} {r : Int32}  (h : fn_X6_ageOf M x1 = some r) : Met l yX6_ageOf wsX6_ageOf rm_X6_ageOf (va_Pc [.ref (ad 35), .int x1] (GW D ad kc nm z M)) (QRi r) 0 0 (fun _ => False) := by
  refine q_met (cc := cX6_ageOf) (maxL := 2) (ret := (some .int)) (by decide) rfl (Nat.le_of_ble_eq_true rfl) ?_
  intro p e s m args below meth c Q ls hx hb hr hlk hml hown hts hB hQ hl
  obtain ⟨hP, hK, hz, hN⟩ := hB
  have hown : s.vm.findClass RX6 = some m.cls := hown
  have hl : lv_has ls 2 [(0, .ref (ad 35)), (1, .int x1)] := hl
  have hi_X6 : ∀ w ∈ u_ws RX6 TX6 40, w ∈ wsX6_ageOf := by decide +kernel
  refine lv_iload_n hx hb dX6_ageOf_0 rfl (lv_at hl 1 rfl) ?_
  refine lv_aload_n hx hb dX6_ageOf_1 rfl (lv_at hl 0 rfl) ?_
  refine q_getI hx hb hts hi_X6 hown hK hP ob_35 rfl 4 (by decide) rfl (hts (.fieldLink RX6 16 "MirrorNetModel" "states" "I") (by decide +kernel)) (fun _ h9 => h9) dX6_ageOf_2 ?_
  refine lv_iconst (v := 1) hx hb dX6_ageOf_5 (by decide) ?_
  refine lv_isub hx hb dX6_ageOf_6 ?_
  refine lv_icmp_ne (tgt := 14) hx hb dX6_ageOf_7 (by decide) (fun c1 => ?_) (fun c1 => ?_)
  · have h := q_f c1 h
    refine lv_aload_n hx hb dX6_ageOf_14 rfl (lv_at hl 0 rfl) ?_
    refine q_getI hx hb hts hi_X6 hown hK hP ob_35 rfl 0 (by decide) rfl (hts (.fieldLink RX6 103 "MirrorNetModel" "now" "I") (by decide +kernel)) (fun _ h9 => h9) dX6_ageOf_15 ?_
    refine lv_aload_n hx hb dX6_ageOf_18 rfl (lv_at hl 0 rfl) ?_
    refine q_getR hx hb hts hi_X6 hown hK hP ob_35 rfl 5 (by decide) rfl (hts (.fieldLink RX6 20 "MirrorNetModel" "stateTick" "[I") (by decide +kernel)) (fun _ h9 => h9) dX6_ageOf_19 ?_
    refine lv_iload_n hx hb dX6_ageOf_22 rfl (lv_at hl 1 rfl) ?_
    refine lv_iconst (v := 1) hx hb dX6_ageOf_23 (by decide) ?_
    refine lv_iadd hx hb dX6_ageOf_24 ?_
    obtain ⟨hk2, h⟩ := q_ck h
    refine q_iald hx hb hK hP ar_38 hk2 dX6_ageOf_25 ?_
    refine lv_isub hx hb dX6_ageOf_26 ?_
    exact q_rRi hQ hx hb hr hlk h dX6_ageOf_27
  · have h := q_t c1 h
    refine lv_iconst (v := 0) hx hb dX6_ageOf_10 (by decide) ?_
    refine lv_goto (tgt := 27) hx hb dX6_ageOf_11 (by decide) ?_
    exact q_rRi hQ hx hb hr hlk h dX6_ageOf_27
def rm_X6_isGood : Room := { frames := 1, cells := 0, slots := 0, locals := 21 }
set_option maxHeartbeats 4000000 in
set_option maxRecDepth 100000 in
theorem ct_X6_isGood (l : Launch) {D : va_G} {ad : Nat → Nat} {kc : Nat → ClassId} {nm z : Nat} (hAD : AD ad nm z) {M : Mem} {x1 : Int32} {x2 : Int32} {x3 : Int32} {r : Int32}  (h : fn_X6_isGood M x1 x2 x3 = some r) : Met l yX6_isGood wsX6_isGood rm_X6_isGood (va_Pc [.ref (ad 35), .int x1, .int x2, .int x3] (GW D ad kc nm z M)) (QRz r) 0 0 (fun _ => False) := by
  refine q_met (cc := cX6_isGood) (maxL := 6) (ret := (some .boolean)) (by decide) rfl (Nat.le_of_ble_eq_true rfl) ?_
  intro p e s m args below meth c Q ls hx hb hr hlk hml hown hts hB hQ hl
  obtain ⟨hP, hK, hz, hN⟩ := hB
  have hown : s.vm.findClass RX6 = some m.cls := hown
  have hl : lv_has ls 6 [(0, .ref (ad 35)), (1, .int x1), (2, .int x2), (3, .int x3)] := hl
  have hi_X6 : ∀ w ∈ u_ws RX6 TX6 40, w ∈ wsX6_isGood := by decide +kernel
  have L_lq_X6_isGood_24 : ∀ (n24 : Nat) (x4 : Int32) (ls : Array Slot), it1 (lq_X6_isGood_24 M x2) n24 x4 = some r → lv_has ls 6 [(0, .ref (ad 35)), (2, .int x2), (4, .int x4)] → W p l e rm_X6_isGood s m args below meth c s.heap [] 0 0 Q (F0 m 24 ls []) := by
    intro n24
    induction n24 with
    | zero =>
      intro x4 ls h hl
      exact (it1_0 h).elim
    | succ n24 ih24 =>
      have B_bk_X6_isGood_82 : ∀ (x4 : Int32) (ls : Array Slot), bk_X6_isGood_82 (it1 (lq_X6_isGood_24 M x2) n24) M x2 x4 = some r → lv_has ls 6 [(0, .ref (ad 35)), (2, .int x2), (4, .int x4)] → W p l e rm_X6_isGood s m args below meth c s.heap [] 0 0 Q (F0 m 82 ls []) := by
        intro x4 ls h hl
        obtain ⟨v1, ev1, h⟩ := q_nx h
        refine lv_iinc (v := v1) (lv' := [(4, .int v1), (0, .ref (ad 35)), (2, .int x2)]) hx hb dX6_isGood_82 hl (k := 2) rfl (by rw [ev1]; rfl) (by decide) rfl (fun ls hl => ?_)
        refine lv_goto (tgt := 24) hx hb dX6_isGood_85 (by decide) ?_
        exact ih24 v1 ls  h (lv_sub hl [1, 2, 0] rfl)
      intro x4 ls h hl
      have h := it1_s h
      refine lv_iload hx hb dX6_isGood_24 (lv_at hl 2 rfl) ?_
      refine lv_bipush (v := 12) hx hb dX6_isGood_26 (by decide) ?_
      refine lv_icmp_ge (tgt := 88) hx hb dX6_isGood_28 (by decide) (fun c2 => ?_) (fun c2 => ?_)
      · have h := q_t c2 h
        refine lv_iconst (v := 1) hx hb dX6_isGood_88 (by decide) ?_
        exact q_rRz hQ hx hb hr hlk h (Or.inr rfl) dX6_isGood_89
      · have h := q_f c2 h
        refine lv_aload_n hx hb dX6_isGood_31 rfl (lv_at hl 0 rfl) ?_
        refine q_getR hx hb hts hi_X6 hown hK hP ob_35 rfl 6 (by decide) rfl (hts (.fieldLink RX6 23 "MirrorNetModel" "named" "[I") (by decide +kernel)) (fun _ h9 => h9) dX6_isGood_32 ?_
        refine lv_bipush (v := 12) hx hb dX6_isGood_35 (by decide) ?_
        refine lv_iload_n hx hb dX6_isGood_37 rfl (lv_at hl 1 rfl) ?_
        refine lv_imul hx hb dX6_isGood_38 ?_
        refine lv_iload hx hb dX6_isGood_39 (lv_at hl 2 rfl) ?_
        refine lv_iadd hx hb dX6_isGood_41 ?_
        obtain ⟨hk3, h⟩ := q_ck h
        refine q_iald hx hb hK hP ar_39 hk3 dX6_isGood_42 ?_
        refine lv_topi (fun v4 ev4 => ?_)
        have h := q_nxe ev4 h
        refine lv_istore (lv' := [(5, .int v4), (0, .ref (ad 35)), (2, .int x2), (4, .int x4)]) hx hb dX6_isGood_43 hl (by decide) rfl (fun ls hl => ?_)
        refine lv_iload hx hb dX6_isGood_45 (lv_at hl 0 rfl) ?_
        refine lv_if_lt (tgt := 82) hx hb dX6_isGood_47 (by decide) (fun c5 => ?_) (fun c5 => ?_)
        · have h := q_t c5 h
          exact B_bk_X6_isGood_82 x4 ls  h (lv_sub hl [1, 2, 3] rfl)
        · have h := q_f c5 h
          refine lv_aload_n hx hb dX6_isGood_50 rfl (lv_at hl 1 rfl) ?_
          refine q_getR hx hb hts hi_X6 hown hK hP ob_35 rfl 3 (by decide) rfl (hts (.fieldLink RX6 13 "MirrorNetModel" "yankedAt" "[I") (by decide +kernel)) (fun _ h9 => h9) dX6_isGood_51 ?_
          refine lv_iload hx hb dX6_isGood_54 (lv_at hl 0 rfl) ?_
          obtain ⟨hk6, h⟩ := q_ck h
          refine q_iald hx hb hK hP ar_37 hk6 dX6_isGood_56 ?_
          refine lv_iconst (v := -1) hx hb dX6_isGood_57 (by decide) ?_
          refine lv_icmp_eq (tgt := 82) hx hb dX6_isGood_58 (by decide) (fun c7 => ?_) (fun c7 => ?_)
          · have h := q_t c7 h
            exact B_bk_X6_isGood_82 x4 ls  h (lv_sub hl [1, 2, 3] rfl)
          · have h := q_f c7 h
            refine lv_aload_n hx hb dX6_isGood_61 rfl (lv_at hl 1 rfl) ?_
            refine q_getI hx hb hts hi_X6 hown hK hP ob_35 rfl 0 (by decide) rfl (hts (.fieldLink RX6 103 "MirrorNetModel" "now" "I") (by decide +kernel)) (fun _ h9 => h9) dX6_isGood_62 ?_
            refine lv_aload_n hx hb dX6_isGood_65 rfl (lv_at hl 1 rfl) ?_
            refine q_getR hx hb hts hi_X6 hown hK hP ob_35 rfl 3 (by decide) rfl (hts (.fieldLink RX6 13 "MirrorNetModel" "yankedAt" "[I") (by decide +kernel)) (fun _ h9 => h9) dX6_isGood_66 ?_
            refine lv_iload hx hb dX6_isGood_69 (lv_at hl 0 rfl) ?_
            obtain ⟨hk8, h⟩ := q_ck h
            refine q_iald hx hb hK hP ar_37 hk8 dX6_isGood_71 ?_
            refine lv_isub hx hb dX6_isGood_72 ?_
            refine lv_aload_n hx hb dX6_isGood_73 rfl (lv_at hl 1 rfl) ?_
            refine q_getI hx hb hts hi_X6 hown hK hP ob_35 rfl 23 (by decide) rfl (hts (.fieldLink RX6 69 "MirrorNetModel" "grace" "I") (by decide +kernel)) (fun _ h9 => h9) dX6_isGood_74 ?_
            refine lv_icmp_le (tgt := 82) hx hb dX6_isGood_77 (by decide) (fun c9 => ?_) (fun c9 => ?_)
            · have h := q_t c9 h
              exact B_bk_X6_isGood_82 x4 ls  h (lv_sub hl [1, 2, 3] rfl)
            · have h := q_f c9 h
              refine lv_iconst (v := 0) hx hb dX6_isGood_80 (by decide) ?_
              exact q_rRz hQ hx hb hr hlk h (Or.inl rfl) dX6_isGood_81
  refine lv_iload_n hx hb dX6_isGood_0 rfl (lv_at hl 2 rfl) ?_
  refine lv_iload_n hx hb dX6_isGood_1 rfl (lv_at hl 3 rfl) ?_
  refine lv_icmp_lt (tgt := 19) hx hb dX6_isGood_2 (by decide) (fun c10 => ?_) (fun c10 => ?_)
  · have h := q_t c10 h
    refine lv_iconst (v := 0) hx hb dX6_isGood_19 (by decide) ?_
    exact q_rRz hQ hx hb hr hlk h (Or.inl rfl) dX6_isGood_20
  · have h := q_f c10 h
    refine lv_aload_n hx hb dX6_isGood_5 rfl (lv_at hl 0 rfl) ?_
    refine lv_iload_n hx hb dX6_isGood_6 rfl (lv_at hl 2 rfl) ?_
    obtain ⟨r12, hc11, h⟩ := q_bd1 h
    refine q_cRi (va_runV (C := RX6) (As := [.int x2]) (rest := []) ⟨hx, hb, hml, hown, hts⟩ (ct_X6_ageOf l hAD (M := M) hc11) (cwV 1 hts gX6_isGood_X6_ageOf rfl rfl rfl (by decide +kernel) ⟨Nat.le_of_ble_eq_true rfl, Nat.le_of_ble_eq_true rfl⟩) ⟨gw_blind, gw_recv ob_35 hK hP rfl, gw_pre _ hK hP hz hN⟩ rfl rfl hl.1 rfl (lv_room (Nat.le_of_ble_eq_true rfl)) dX6_isGood_7 ⟨Nat.zero_le _, Nat.zero_le _⟩) ?_
    refine lv_aload_n hx hb dX6_isGood_10 rfl (lv_at hl 0 rfl) ?_
    refine q_getR hx hb hts hi_X6 hown hK hP ob_35 rfl 25 (by decide) rfl (hts (.fieldLink RX6 75 "MirrorNetModel" "bears" "[I") (by decide +kernel)) (fun _ h9 => h9) dX6_isGood_11 ?_
    refine lv_iload_n hx hb dX6_isGood_14 rfl (lv_at hl 1 rfl) ?_
    obtain ⟨hk16, h⟩ := q_ck h
    refine q_iald hx hb hK hP ar_55 hk16 dX6_isGood_15 ?_
    refine lv_icmp_le (tgt := 21) hx hb dX6_isGood_16 (by decide) (fun c17 => ?_) (fun c17 => ?_)
    · have h := q_t c17 h
      refine lv_iconst (v := 0) hx hb dX6_isGood_21 (by decide) ?_
      refine lv_istore (lv' := [(4, .int (0 : Int32)), (0, .ref (ad 35)), (1, .int x1), (2, .int x2), (3, .int x3)]) hx hb dX6_isGood_22 hl (by decide) rfl (fun ls hl => ?_)
      exact L_lq_X6_isGood_24 FU (0 : Int32) ls  h (lv_sub hl [1, 3, 0] rfl)
    · have h := q_f c17 h
      refine lv_iconst (v := 0) hx hb dX6_isGood_19 (by decide) ?_
      exact q_rRz hQ hx hb hr hlk h (Or.inl rfl) dX6_isGood_20
def rm_X6_orders : Room := { frames := 0, cells := 0, slots := 0, locals := 0 }
set_option maxHeartbeats 4000000 in
set_option maxRecDepth 100000 in
theorem ct_X6_orders (l : Launch) {D : va_G} {ad : Nat → Nat} {kc : Nat → ClassId} {nm z : Nat} (hAD : AD ad nm z) {M : Mem} {x1 : Int32} {Mr : Mem}  (h : fn_X6_orders M x1 = some Mr) : Met l yX6_orders wsX6_orders rm_X6_orders (va_Pc [.ref (ad 35), .int x1] (GW D ad kc nm z M)) (QWv D ad kc nm z Mr) 0 0 (fun q => z ≤ q) := by
  refine q_met (cc := cX6_orders) (maxL := 4) (ret := none) (by decide) rfl (Nat.le_of_ble_eq_true rfl) ?_
  intro p e s m args below meth c Q ls hx hb hr hlk hml hown hts hB hQ hl
  obtain ⟨hP, hK, hz, hN⟩ := hB
  have hown : s.vm.findClass RX6 = some m.cls := hown
  have hl : lv_has ls 4 [(0, .ref (ad 35)), (1, .int x1)] := hl
  have hi_X6 : ∀ w ∈ u_ws RX6 TX6 40, w ∈ wsX6_orders := by decide +kernel
  have hS : va_S (fun q => z ≤ q) s.heap s.heap [] := va_S.rf
  have L_lq_X6_orders_7 : ∀ (n7 : Nat) (M : Mem) (x2 : Int32) (H : Heap) (locs : List Loc) (ls : Array Slot), it2 (lq_X6_orders_7 x1) n7 M x2 = some Mr → va_P D vwCl (wl ad kc nm M) H → va_S (fun q => z ≤ q) s.heap H locs → lv_has ls 4 [(0, .ref (ad 35)), (1, .int x1), (2, .int x2)] → W p l e rm_X6_orders s m args below meth c H locs 0 0 Q (F0 m 7 ls []) := by
    intro n7
    induction n7 with
    | zero =>
      intro M x2 H locs ls h hP hS hl
      exact (it2_0 h).elim
    | succ n7 ih7 =>
      have B_bk_X6_orders_124 : ∀ (M : Mem) (x2 : Int32) (H : Heap) (locs : List Loc) (ls : Array Slot), bk_X6_orders_124 (it2 (lq_X6_orders_7 x1) n7) M x1 x2 = some Mr → va_P D vwCl (wl ad kc nm M) H → va_S (fun q => z ≤ q) s.heap H locs → lv_has ls 4 [(0, .ref (ad 35)), (1, .int x1), (2, .int x2)] → W p l e rm_X6_orders s m args below meth c H locs 0 0 Q (F0 m 124 ls []) := by
        intro M x2 H locs ls h hP hS hl
        obtain ⟨v1, ev1, h⟩ := q_nx h
        refine lv_iinc (v := v1) (lv' := [(2, .int v1), (0, .ref (ad 35)), (1, .int x1)]) hx hb dX6_orders_124 hl (k := 2) rfl (by rw [ev1]; rfl) (by decide) rfl (fun ls hl => ?_)
        refine lv_goto (tgt := 7) hx hb dX6_orders_127 (by decide) ?_
        exact ih7 M v1 H locs ls  h hP hS (lv_sub hl [1, 2, 0] rfl)
      have B_bk_X6_orders_107 : ∀ (M : Mem) (x2 : Int32) (x3 : Int32) (H : Heap) (locs : List Loc) (ls : Array Slot), bk_X6_orders_107 (it2 (lq_X6_orders_7 x1) n7) M x1 x2 x3 = some Mr → va_P D vwCl (wl ad kc nm M) H → va_S (fun q => z ≤ q) s.heap H locs → lv_has ls 4 [(0, .ref (ad 35)), (1, .int x1), (2, .int x2), (3, .int x3)] → W p l e rm_X6_orders s m args below meth c H locs 0 0 Q (F0 m 107 ls []) := by
        intro M x2 x3 H locs ls h hP hS hl
        refine lv_aload_n hx hb dX6_orders_107 rfl (lv_at hl 0 rfl) ?_
        refine q_getR hx hb hts hi_X6 hown hK hP ob_35 rfl 28 (by decide) rfl (hts (.fieldLink RX6 84 "MirrorNetModel" "order" "[I") (by decide +kernel)) (fun _ h9 => h9) dX6_orders_108 ?_
        refine lv_iload_n hx hb dX6_orders_111 rfl (lv_at hl 3 rfl) ?_
        refine lv_iload_n hx hb dX6_orders_112 rfl (lv_at hl 2 rfl) ?_
        obtain ⟨hk2, h⟩ := q_ck h
        obtain ⟨M3, eM3, h⟩ := q_nx h
        refine q_iast hx hb hK hP hAD hS ar_58 hk2 dX6_orders_113 (fun H locs hP hS => ?_)
        rw [← eM3] at hP
        refine lv_aload_n hx hb dX6_orders_114 rfl (lv_at hl 0 rfl) ?_
        refine lv_dup hx hb dX6_orders_115 rfl ?_
        refine q_getI hx hb hts hi_X6 hown hK hP ob_35 rfl 29 (by decide) rfl (hts (.fieldLink RX6 149 "MirrorNetModel" "ordered" "I") (by decide +kernel)) (fun _ h9 => h9) dX6_orders_116 ?_
        refine lv_iconst (v := 1) hx hb dX6_orders_119 (by decide) ?_
        refine lv_iadd hx hb dX6_orders_120 ?_
        obtain ⟨M4, eM4, h⟩ := q_nx h
        refine q_putI hx hb hts hi_X6 tyX6 tyX6_ok nmX6 hown hK hP hAD hS ob_35 rfl 29 (by decide) rfl (hts (.fieldLink RX6 149 "MirrorNetModel" "ordered" "I") (by decide +kernel)) (fun _ h9 => h9) rfl (ty := .int) (by decide +kernel) rfl rfl dX6_orders_121 (fun H locs hP hS => ?_)
        rw [← eM4] at hP
        exact B_bk_X6_orders_124 M4 x2 H locs ls  h hP hS (lv_sub hl [0, 1, 2] rfl)
      have L_lq_X6_orders_51 : ∀ (x2 : Int32), ∀ (n51 : Nat) (M : Mem) (x3 : Int32) (H : Heap) (locs : List Loc) (ls : Array Slot), it2 (lq_X6_orders_51 (it2 (lq_X6_orders_7 x1) n7) x1 x2) n51 M x3 = some Mr → va_P D vwCl (wl ad kc nm M) H → va_S (fun q => z ≤ q) s.heap H locs → lv_has ls 4 [(0, .ref (ad 35)), (1, .int x1), (2, .int x2), (3, .int x3)] → W p l e rm_X6_orders s m args below meth c H locs 0 0 Q (F0 m 51 ls []) := by
        intro x2 n51
        induction n51 with
        | zero =>
          intro M x3 H locs ls h hP hS hl
          exact (it2_0 h).elim
        | succ n51 ih51 =>
          intro M x3 H locs ls h hP hS hl
          have h := it2_s h
          refine lv_iload_n hx hb dX6_orders_51 rfl (lv_at hl 3 rfl) ?_
          refine lv_if_le (tgt := 107) hx hb dX6_orders_52 (by decide) (fun c5 => ?_) (fun c5 => ?_)
          · have h := q_t c5 h
            exact B_bk_X6_orders_107 M x2 x3 H locs ls  h hP hS (lv_sub hl [0, 1, 2, 3] rfl)
          · have h := q_f c5 h
            refine lv_aload_n hx hb dX6_orders_55 rfl (lv_at hl 0 rfl) ?_
            refine q_getR hx hb hts hi_X6 hown hK hP ob_35 rfl 24 (by decide) rfl (hts (.fieldLink RX6 72 "MirrorNetModel" "costOf" "[I") (by decide +kernel)) (fun _ h9 => h9) dX6_orders_56 ?_
            refine lv_bipush (v := 8) hx hb dX6_orders_59 (by decide) ?_
            refine lv_iload_n hx hb dX6_orders_61 rfl (lv_at hl 1 rfl) ?_
            refine lv_imul hx hb dX6_orders_62 ?_
            refine lv_aload_n hx hb dX6_orders_63 rfl (lv_at hl 0 rfl) ?_
            refine q_getR hx hb hts hi_X6 hown hK hP ob_35 rfl 28 (by decide) rfl (hts (.fieldLink RX6 84 "MirrorNetModel" "order" "[I") (by decide +kernel)) (fun _ h9 => h9) dX6_orders_64 ?_
            refine lv_iload_n hx hb dX6_orders_67 rfl (lv_at hl 3 rfl) ?_
            refine lv_iconst (v := 1) hx hb dX6_orders_68 (by decide) ?_
            refine lv_isub hx hb dX6_orders_69 ?_
            obtain ⟨hk6, h⟩ := q_ck h
            refine q_iald hx hb hK hP ar_58 hk6 dX6_orders_70 ?_
            refine lv_iadd hx hb dX6_orders_71 ?_
            obtain ⟨hk7, h⟩ := q_ck h
            refine q_iald hx hb hK hP ar_54 hk7 dX6_orders_72 ?_
            refine lv_aload_n hx hb dX6_orders_73 rfl (lv_at hl 0 rfl) ?_
            refine q_getR hx hb hts hi_X6 hown hK hP ob_35 rfl 24 (by decide) rfl (hts (.fieldLink RX6 72 "MirrorNetModel" "costOf" "[I") (by decide +kernel)) (fun _ h9 => h9) dX6_orders_74 ?_
            refine lv_bipush (v := 8) hx hb dX6_orders_77 (by decide) ?_
            refine lv_iload_n hx hb dX6_orders_79 rfl (lv_at hl 1 rfl) ?_
            refine lv_imul hx hb dX6_orders_80 ?_
            refine lv_iload_n hx hb dX6_orders_81 rfl (lv_at hl 2 rfl) ?_
            refine lv_iadd hx hb dX6_orders_82 ?_
            obtain ⟨hk8, h⟩ := q_ck h
            refine q_iald hx hb hK hP ar_54 hk8 dX6_orders_83 ?_
            refine lv_icmp_le (tgt := 107) hx hb dX6_orders_84 (by decide) (fun c9 => ?_) (fun c9 => ?_)
            · have h := q_t c9 h
              exact B_bk_X6_orders_107 M x2 x3 H locs ls  h hP hS (lv_sub hl [0, 1, 2, 3] rfl)
            · have h := q_f c9 h
              refine lv_aload_n hx hb dX6_orders_87 rfl (lv_at hl 0 rfl) ?_
              refine q_getR hx hb hts hi_X6 hown hK hP ob_35 rfl 28 (by decide) rfl (hts (.fieldLink RX6 84 "MirrorNetModel" "order" "[I") (by decide +kernel)) (fun _ h9 => h9) dX6_orders_88 ?_
              refine lv_iload_n hx hb dX6_orders_91 rfl (lv_at hl 3 rfl) ?_
              refine lv_aload_n hx hb dX6_orders_92 rfl (lv_at hl 0 rfl) ?_
              refine q_getR hx hb hts hi_X6 hown hK hP ob_35 rfl 28 (by decide) rfl (hts (.fieldLink RX6 84 "MirrorNetModel" "order" "[I") (by decide +kernel)) (fun _ h9 => h9) dX6_orders_93 ?_
              refine lv_iload_n hx hb dX6_orders_96 rfl (lv_at hl 3 rfl) ?_
              refine lv_iconst (v := 1) hx hb dX6_orders_97 (by decide) ?_
              refine lv_isub hx hb dX6_orders_98 ?_
              obtain ⟨hk10, h⟩ := q_ck h
              refine q_iald hx hb hK hP ar_58 hk10 dX6_orders_99 ?_
              obtain ⟨hk11, h⟩ := q_ck h
              obtain ⟨M12, eM12, h⟩ := q_nx h
              refine q_iast hx hb hK hP hAD hS ar_58 hk11 dX6_orders_100 (fun H locs hP hS => ?_)
              rw [← eM12] at hP
              obtain ⟨v13, ev13, h⟩ := q_nx h
              refine lv_iinc (v := v13) (lv' := [(3, .int v13), (0, .ref (ad 35)), (1, .int x1), (2, .int x2)]) hx hb dX6_orders_101 hl (k := 3) rfl (by rw [ev13]; rfl) (by decide) rfl (fun ls hl => ?_)
              refine lv_goto (tgt := 51) hx hb dX6_orders_104 (by decide) ?_
              exact ih51 M12 v13 H locs ls  h hP hS (lv_sub hl [1, 2, 3, 0] rfl)
      intro M x2 H locs ls h hP hS hl
      have h := it2_s h
      refine lv_iload_n hx hb dX6_orders_7 rfl (lv_at hl 2 rfl) ?_
      refine lv_aload_n hx hb dX6_orders_8 rfl (lv_at hl 0 rfl) ?_
      refine q_getI hx hb hts hi_X6 hown hK hP ob_35 rfl 7 (by decide) rfl (hts (.fieldLink RX6 113 "MirrorNetModel" "mirrors" "I") (by decide +kernel)) (fun _ h9 => h9) dX6_orders_9 ?_
      refine lv_icmp_ge (tgt := 130) hx hb dX6_orders_12 (by decide) (fun c14 => ?_) (fun c14 => ?_)
      · have h := q_t c14 h
        exact q_rWv hQ hx hb hr hlk hP hS h dX6_orders_130
      · have h := q_f c14 h
        refine lv_aload_n hx hb dX6_orders_15 rfl (lv_at hl 0 rfl) ?_
        refine q_getR hx hb hts hi_X6 hown hK hP ob_35 rfl 24 (by decide) rfl (hts (.fieldLink RX6 72 "MirrorNetModel" "costOf" "[I") (by decide +kernel)) (fun _ h9 => h9) dX6_orders_16 ?_
        refine lv_bipush (v := 8) hx hb dX6_orders_19 (by decide) ?_
        refine lv_iload_n hx hb dX6_orders_21 rfl (lv_at hl 1 rfl) ?_
        refine lv_imul hx hb dX6_orders_22 ?_
        refine lv_iload_n hx hb dX6_orders_23 rfl (lv_at hl 2 rfl) ?_
        refine lv_iadd hx hb dX6_orders_24 ?_
        obtain ⟨hk15, h⟩ := q_ck h
        refine q_iald hx hb hK hP ar_54 hk15 dX6_orders_25 ?_
        refine lv_if_lt (tgt := 124) hx hb dX6_orders_26 (by decide) (fun c16 => ?_) (fun c16 => ?_)
        · have h := q_t c16 h
          exact B_bk_X6_orders_124 M x2 H locs ls  h hP hS (lv_sub hl [0, 1, 2] rfl)
        · have h := q_f c16 h
          refine lv_aload_n hx hb dX6_orders_29 rfl (lv_at hl 0 rfl) ?_
          refine q_getR hx hb hts hi_X6 hown hK hP ob_35 rfl 27 (by decide) rfl (hts (.fieldLink RX6 81 "MirrorNetModel" "bad" "[I") (by decide +kernel)) (fun _ h9 => h9) dX6_orders_30 ?_
          refine lv_iload_n hx hb dX6_orders_33 rfl (lv_at hl 1 rfl) ?_
          obtain ⟨hk17, h⟩ := q_ck h
          refine q_iald hx hb hK hP ar_57 hk17 dX6_orders_34 ?_
          refine lv_iload_n hx hb dX6_orders_35 rfl (lv_at hl 2 rfl) ?_
          refine lv_ishr hx hb dX6_orders_36 ?_
          refine lv_iconst (v := 1) hx hb dX6_orders_37 (by decide) ?_
          refine lv_iand hx hb dX6_orders_38 ?_
          refine lv_iconst (v := 1) hx hb dX6_orders_39 (by decide) ?_
          refine lv_icmp_ne (tgt := 46) hx hb dX6_orders_40 (by decide) (fun c18 => ?_) (fun c18 => ?_)
          · have h := q_f c18 h
            refine lv_aload_n hx hb dX6_orders_46 rfl (lv_at hl 0 rfl) ?_
            refine q_getI hx hb hts hi_X6 hown hK hP ob_35 rfl 29 (by decide) rfl (hts (.fieldLink RX6 149 "MirrorNetModel" "ordered" "I") (by decide +kernel)) (fun _ h9 => h9) dX6_orders_47 ?_
            refine lv_topi (fun v19 ev19 => ?_)
            have h := q_nxe ev19 h
            refine lv_istore_n (lv' := [(3, .int v19), (0, .ref (ad 35)), (1, .int x1), (2, .int x2)]) hx hb dX6_orders_50 rfl hl (by decide) rfl (fun ls hl => ?_)
            exact L_lq_X6_orders_51 x2 FU M v19 H locs ls  h hP hS (lv_sub hl [1, 2, 3, 0] rfl)
          · have h := q_t c18 h
            refine lv_goto (tgt := 124) hx hb dX6_orders_43 (by decide) ?_
            exact B_bk_X6_orders_124 M x2 H locs ls  h hP hS (lv_sub hl [0, 1, 2] rfl)
  obtain ⟨H, eH⟩ : ∃ H : Heap, H = s.heap := ⟨_, rfl⟩
  obtain ⟨locs, eL⟩ : ∃ L : List Loc, L = [] := ⟨_, rfl⟩
  have hP : va_P D vwCl (wl ad kc nm M) H := by rw [eH]; exact hP
  have hS : va_S (fun q => z ≤ q) s.heap H locs := by rw [eH, eL]; exact hS
  refine q_start eH eL ?_
  refine lv_aload_n hx hb dX6_orders_0 rfl (lv_at hl 0 rfl) ?_
  refine lv_iconst (v := 0) hx hb dX6_orders_1 (by decide) ?_
  obtain ⟨M20, eM20, h⟩ := q_nx h
  refine q_putI hx hb hts hi_X6 tyX6 tyX6_ok nmX6 hown hK hP hAD hS ob_35 rfl 29 (by decide) rfl (hts (.fieldLink RX6 149 "MirrorNetModel" "ordered" "I") (by decide +kernel)) (fun _ h9 => h9) rfl (ty := .int) (by decide +kernel) rfl rfl dX6_orders_2 (fun H locs hP hS => ?_)
  rw [← eM20] at hP
  refine lv_iconst (v := 0) hx hb dX6_orders_5 (by decide) ?_
  refine lv_istore_n (lv' := [(2, .int (0 : Int32)), (0, .ref (ad 35)), (1, .int x1)]) hx hb dX6_orders_6 rfl hl (by decide) rfl (fun ls hl => ?_)
  exact L_lq_X6_orders_7 FU M20 (0 : Int32) H locs ls  h hP hS (lv_sub hl [1, 2, 0] rfl)
def rm_X6_tells : Room := { frames := 1, cells := 0, slots := 0, locals := 22 }
set_option maxHeartbeats 4000000 in
set_option maxRecDepth 100000 in
theorem ct_X6_tells (l : Launch) {D : va_G} {ad : Nat → Nat} {kc : Nat → ClassId} {nm z : Nat} (hAD : AD ad nm z) {M : Mem} {x1 : Int32} {x2 : Int32} {r : Int32} {Mr : Mem}  (h : fn_X6_tells M x1 x2 = some (r, Mr)) : Met l yX6_tells wsX6_tells rm_X6_tells (va_Pc [.ref (ad 35), .int x1, .int x2] (GW D ad kc nm z M)) (QWz D ad kc nm z r Mr) 0 0 (fun q => z ≤ q) := by
  refine q_met (cc := cX6_tells) (maxL := 3) (ret := (some .boolean)) (by decide) rfl (Nat.le_of_ble_eq_true rfl) ?_
  intro p e s m args below meth c Q ls hx hb hr hlk hml hown hts hB hQ hl
  obtain ⟨hP, hK, hz, hN⟩ := hB
  have hown : s.vm.findClass RX6 = some m.cls := hown
  have hl : lv_has ls 3 [(0, .ref (ad 35)), (1, .int x1), (2, .int x2)] := hl
  have hi_X6 : ∀ w ∈ u_ws RX6 TX6 40, w ∈ wsX6_tells := by decide +kernel
  have hS : va_S (fun q => z ≤ q) s.heap s.heap [] := va_S.rf
  obtain ⟨H, eH⟩ : ∃ H : Heap, H = s.heap := ⟨_, rfl⟩
  obtain ⟨locs, eL⟩ : ∃ L : List Loc, L = [] := ⟨_, rfl⟩
  have hP : va_P D vwCl (wl ad kc nm M) H := by rw [eH]; exact hP
  have hS : va_S (fun q => z ≤ q) s.heap H locs := by rw [eH, eL]; exact hS
  refine q_start eH eL ?_
  refine lv_aload_n hx hb dX6_tells_0 rfl (lv_at hl 0 rfl) ?_
  refine lv_dup hx hb dX6_tells_1 rfl ?_
  refine q_getI hx hb hts hi_X6 hown hK hP ob_35 rfl 32 (by decide) rfl (hts (.fieldLink RX6 152 "MirrorNetModel" "spent" "I") (by decide +kernel)) (fun _ h9 => h9) dX6_tells_2 ?_
  refine lv_aload_n hx hb dX6_tells_5 rfl (lv_at hl 0 rfl) ?_
  refine q_getR hx hb hts hi_X6 hown hK hP ob_35 rfl 24 (by decide) rfl (hts (.fieldLink RX6 72 "MirrorNetModel" "costOf" "[I") (by decide +kernel)) (fun _ h9 => h9) dX6_tells_6 ?_
  refine lv_bipush (v := 8) hx hb dX6_tells_9 (by decide) ?_
  refine lv_iload_n hx hb dX6_tells_11 rfl (lv_at hl 1 rfl) ?_
  refine lv_imul hx hb dX6_tells_12 ?_
  refine lv_iload_n hx hb dX6_tells_13 rfl (lv_at hl 2 rfl) ?_
  refine lv_iadd hx hb dX6_tells_14 ?_
  obtain ⟨hk1, h⟩ := q_ck h
  refine q_iald hx hb hK hP ar_54 hk1 dX6_tells_15 ?_
  refine lv_iadd hx hb dX6_tells_16 ?_
  obtain ⟨M2, eM2, h⟩ := q_nx h
  refine q_putI hx hb hts hi_X6 tyX6 tyX6_ok nmX6 hown hK hP hAD hS ob_35 rfl 32 (by decide) rfl (hts (.fieldLink RX6 152 "MirrorNetModel" "spent" "I") (by decide +kernel)) (fun _ h9 => h9) rfl (ty := .int) (by decide +kernel) rfl rfl dX6_tells_17 (fun H locs hP hS => ?_)
  rw [← eM2] at hP
  refine lv_aload_n hx hb dX6_tells_20 rfl (lv_at hl 0 rfl) ?_
  refine lv_dup hx hb dX6_tells_21 rfl ?_
  refine q_getI hx hb hts hi_X6 hown hK hP ob_35 rfl 33 (by decide) rfl (hts (.fieldLink RX6 155 "MirrorNetModel" "askings" "I") (by decide +kernel)) (fun _ h9 => h9) dX6_tells_22 ?_
  refine lv_iconst (v := 1) hx hb dX6_tells_25 (by decide) ?_
  refine lv_iadd hx hb dX6_tells_26 ?_
  obtain ⟨M3, eM3, h⟩ := q_nx h
  refine q_putI hx hb hts hi_X6 tyX6 tyX6_ok nmX6 hown hK hP hAD hS ob_35 rfl 33 (by decide) rfl (hts (.fieldLink RX6 155 "MirrorNetModel" "askings" "I") (by decide +kernel)) (fun _ h9 => h9) rfl (ty := .int) (by decide +kernel) rfl rfl dX6_tells_27 (fun H locs hP hS => ?_)
  rw [← eM3] at hP
  refine lv_aload_n hx hb dX6_tells_30 rfl (lv_at hl 0 rfl) ?_
  refine lv_iload_n hx hb dX6_tells_31 rfl (lv_at hl 2 rfl) ?_
  obtain ⟨r5, hc4, h⟩ := q_bd1 h
  refine q_cRz (va_runV (C := RX6) (As := [.int x2]) (rest := []) ⟨hx, hb, hml, hown, hts⟩ (ct_X6_isFallen l hAD (M := M3) hc4) (cwV 1 hts gX6_tells_X6_isFallen rfl rfl rfl (by decide +kernel) ⟨Nat.le_of_ble_eq_true rfl, Nat.le_of_ble_eq_true rfl⟩) ⟨gw_blind, gw_recv ob_35 hK hP rfl, gw_pre _ hK hP (Nat.le_trans hz hS.1) hN⟩ rfl rfl hl.1 rfl (lv_room (Nat.le_of_ble_eq_true rfl)) dX6_tells_32 ⟨Nat.zero_le _, Nat.zero_le _⟩) (fun hzr5 => ?_)
  refine lv_if_ne (tgt := 42) hx hb dX6_tells_35 (by decide) (fun c9 => ?_) (fun c9 => ?_)
  · have h := q_f c9 h
    refine lv_iconst (v := 0) hx hb dX6_tells_42 (by decide) ?_
    exact q_rWz hQ hx hb hr hlk hP hS h (Or.inl rfl) dX6_tells_43
  · have h := q_t c9 h
    refine lv_iconst (v := 1) hx hb dX6_tells_38 (by decide) ?_
    refine lv_goto (tgt := 43) hx hb dX6_tells_39 (by decide) ?_
    exact q_rWz hQ hx hb hr hlk hP hS h (Or.inr rfl) dX6_tells_43
def rm_X6_indexFor : Room := { frames := 2, cells := 0, slots := 0, locals := 46 }
set_option maxHeartbeats 4000000 in
set_option maxRecDepth 100000 in
theorem ct_X6_indexFor (l : Launch) {D : va_G} {ad : Nat → Nat} {kc : Nat → ClassId} {nm z : Nat} (hAD : AD ad nm z) {M : Mem} {x1 : Int32} {r : Int32} {Mr : Mem}  (h : fn_X6_indexFor M x1 = some (r, Mr)) : Met l yX6_indexFor wsX6_indexFor rm_X6_indexFor (va_Pc [.ref (ad 35), .int x1] (GW D ad kc nm z M)) (QWi D ad kc nm z r Mr) 0 0 (fun q => z ≤ q) := by
  refine q_met (cc := cX6_indexFor) (maxL := 4) (ret := (some .int)) (by decide) rfl (Nat.le_of_ble_eq_true rfl) ?_
  intro p e s m args below meth c Q ls hx hb hr hlk hml hown hts hB hQ hl
  obtain ⟨hP, hK, hz, hN⟩ := hB
  have hown : s.vm.findClass RX6 = some m.cls := hown
  have hl : lv_has ls 4 [(0, .ref (ad 35)), (1, .int x1)] := hl
  have hi_X6 : ∀ w ∈ u_ws RX6 TX6 40, w ∈ wsX6_indexFor := by decide +kernel
  have hS : va_S (fun q => z ≤ q) s.heap s.heap [] := va_S.rf
  have L_lq_X6_indexFor_2 : ∀ (n2 : Nat) (M : Mem) (x2 : Int32) (H : Heap) (locs : List Loc) (ls : Array Slot), it2 (lq_X6_indexFor_2 x1) n2 M x2 = some (r, Mr) → va_P D vwCl (wl ad kc nm M) H → va_S (fun q => z ≤ q) s.heap H locs → lv_has ls 4 [(0, .ref (ad 35)), (1, .int x1), (2, .int x2)] → W p l e rm_X6_indexFor s m args below meth c H locs 0 0 Q (F0 m 2 ls []) := by
    intro n2
    induction n2 with
    | zero =>
      intro M x2 H locs ls h hP hS hl
      exact (it2_0 h).elim
    | succ n2 ih2 =>
      have B_bk_X6_indexFor_80 : ∀ (M : Mem) (x2 : Int32) (H : Heap) (locs : List Loc) (ls : Array Slot), bk_X6_indexFor_80 (it2 (lq_X6_indexFor_2 x1) n2) M x1 x2 = some (r, Mr) → va_P D vwCl (wl ad kc nm M) H → va_S (fun q => z ≤ q) s.heap H locs → lv_has ls 4 [(0, .ref (ad 35)), (1, .int x1), (2, .int x2)] → W p l e rm_X6_indexFor s m args below meth c H locs 0 0 Q (F0 m 80 ls []) := by
        intro M x2 H locs ls h hP hS hl
        obtain ⟨v1, ev1, h⟩ := q_nx h
        refine lv_iinc (v := v1) (lv' := [(2, .int v1), (0, .ref (ad 35)), (1, .int x1)]) hx hb dX6_indexFor_80 hl (k := 2) rfl (by rw [ev1]; rfl) (by decide) rfl (fun ls hl => ?_)
        refine lv_goto (tgt := 2) hx hb dX6_indexFor_83 (by decide) ?_
        exact ih2 M v1 H locs ls  h hP hS (lv_sub hl [1, 2, 0] rfl)
      intro M x2 H locs ls h hP hS hl
      have h := it2_s h
      refine lv_iload_n hx hb dX6_indexFor_2 rfl (lv_at hl 2 rfl) ?_
      refine lv_aload_n hx hb dX6_indexFor_3 rfl (lv_at hl 0 rfl) ?_
      refine q_getI hx hb hts hi_X6 hown hK hP ob_35 rfl 29 (by decide) rfl (hts (.fieldLink RX6 149 "MirrorNetModel" "ordered" "I") (by decide +kernel)) (fun _ h9 => h9) dX6_indexFor_4 ?_
      refine lv_icmp_ge (tgt := 86) hx hb dX6_indexFor_7 (by decide) (fun c2 => ?_) (fun c2 => ?_)
      · have h := q_t c2 h
        refine lv_iconst (v := -1) hx hb dX6_indexFor_86 (by decide) ?_
        exact q_rWi hQ hx hb hr hlk hP hS h dX6_indexFor_87
      · have h := q_f c2 h
        refine lv_aload_n hx hb dX6_indexFor_10 rfl (lv_at hl 0 rfl) ?_
        refine q_getR hx hb hts hi_X6 hown hK hP ob_35 rfl 28 (by decide) rfl (hts (.fieldLink RX6 84 "MirrorNetModel" "order" "[I") (by decide +kernel)) (fun _ h9 => h9) dX6_indexFor_11 ?_
        refine lv_iload_n hx hb dX6_indexFor_14 rfl (lv_at hl 2 rfl) ?_
        obtain ⟨hk3, h⟩ := q_ck h
        refine q_iald hx hb hK hP ar_58 hk3 dX6_indexFor_15 ?_
        refine lv_topi (fun v4 ev4 => ?_)
        have h := q_nxe ev4 h
        refine lv_istore_n (lv' := [(3, .int v4), (0, .ref (ad 35)), (1, .int x1), (2, .int x2)]) hx hb dX6_indexFor_16 rfl hl (by decide) rfl (fun ls hl => ?_)
        refine lv_aload_n hx hb dX6_indexFor_17 rfl (lv_at hl 1 rfl) ?_
        refine lv_iload_n hx hb dX6_indexFor_18 rfl (lv_at hl 2 rfl) ?_
        refine lv_iload_n hx hb dX6_indexFor_19 rfl (lv_at hl 0 rfl) ?_
        obtain ⟨r6, M7, hc5, h⟩ := q_bd2 h
        refine q_cWz (va_runV (C := RX6) (As := [.int x1, .int v4]) (rest := []) ⟨hx, hb, hml, hown, hts⟩ (ct_X6_tells l hAD (M := M) hc5) (cwV 2 hts gX6_indexFor_X6_tells rfl rfl rfl (by decide +kernel) ⟨Nat.le_of_ble_eq_true rfl, Nat.le_of_ble_eq_true rfl⟩) ⟨gw_blind, gw_recv ob_35 hK hP rfl, gw_pre _ hK hP (Nat.le_trans hz hS.1) hN⟩ rfl rfl hl.1 rfl (lv_room (Nat.le_of_ble_eq_true rfl)) dX6_indexFor_20 ⟨Nat.zero_le _, Nat.zero_le _⟩) hS (fun H locs hzr6 hP hS => ?_)
        refine lv_if_ne (tgt := 29) hx hb dX6_indexFor_23 (by decide) (fun c10 => ?_) (fun c10 => ?_)
        · have h := q_f c10 h
          refine lv_aload_n hx hb dX6_indexFor_29 rfl (lv_at hl 1 rfl) ?_
          refine q_getR hx hb hts hi_X6 hown hK hP ob_35 rfl 15 (by decide) rfl (hts (.fieldLink RX6 47 "MirrorNetModel" "isLying" "[Z") (by decide +kernel)) (fun _ h9 => h9) dX6_indexFor_30 ?_
          refine lv_iload_n hx hb dX6_indexFor_33 rfl (lv_at hl 0 rfl) ?_
          obtain ⟨hk11, h⟩ := q_ck h
          refine q_zald hx hb hK hP ar_47 hk11 dX6_indexFor_34 ?_
          refine lv_if_eq (tgt := 53) hx hb dX6_indexFor_35 (by decide) (fun c12 => ?_) (fun c12 => ?_)
          · have h := q_t c12 h
            refine lv_aload_n hx hb dX6_indexFor_53 rfl (lv_at hl 1 rfl) ?_
            refine lv_iload_n hx hb dX6_indexFor_54 rfl (lv_at hl 2 rfl) ?_
            refine lv_aload_n hx hb dX6_indexFor_55 rfl (lv_at hl 1 rfl) ?_
            refine q_getR hx hb hts hi_X6 hown hK hP ob_35 rfl 11 (by decide) rfl (hts (.fieldLink RX6 35 "MirrorNetModel" "index" "[I") (by decide +kernel)) (fun _ h9 => h9) dX6_indexFor_56 ?_
            refine lv_iload_n hx hb dX6_indexFor_59 rfl (lv_at hl 0 rfl) ?_
            obtain ⟨hk13, h⟩ := q_ck h
            refine q_iald hx hb hK hP ar_43 hk13 dX6_indexFor_60 ?_
            refine lv_aload_n hx hb dX6_indexFor_61 rfl (lv_at hl 1 rfl) ?_
            refine q_getR hx hb hts hi_X6 hown hK hP ob_35 rfl 26 (by decide) rfl (hts (.fieldLink RX6 78 "MirrorNetModel" "seen" "[I") (by decide +kernel)) (fun _ h9 => h9) dX6_indexFor_62 ?_
            refine lv_iload_n hx hb dX6_indexFor_65 rfl (lv_at hl 2 rfl) ?_
            obtain ⟨hk14, h⟩ := q_ck h
            refine q_iald hx hb hK hP ar_56 hk14 dX6_indexFor_66 ?_
            obtain ⟨r16, hc15, h⟩ := q_bd1 h
            refine q_cRz (va_runV (C := RX6) (As := [.int x1, .int (gI M7 43 (ix v4)), .int (gI M7 56 (ix x1))]) (rest := []) ⟨hx, hb, hml, hown, hts⟩ (ct_X6_isGood l hAD (M := M7) hc15) (cwV 3 hts gX6_indexFor_X6_isGood rfl rfl rfl (by decide +kernel) ⟨Nat.le_of_ble_eq_true rfl, Nat.le_of_ble_eq_true rfl⟩) ⟨gw_blind, gw_recv ob_35 hK hP rfl, gw_pre _ hK hP (Nat.le_trans hz hS.1) hN⟩ rfl rfl hl.1 rfl (lv_room (Nat.le_of_ble_eq_true rfl)) dX6_indexFor_67 ⟨Nat.zero_le _, Nat.zero_le _⟩) (fun hzr16 => ?_)
            refine lv_if_eq (tgt := 80) hx hb dX6_indexFor_70 (by decide) (fun c20 => ?_) (fun c20 => ?_)
            · have h := q_t c20 h
              exact B_bk_X6_indexFor_80 M7 x2 H locs ls  h hP hS (lv_sub hl [1, 2, 3] rfl)
            · have h := q_f c20 h
              refine lv_aload_n hx hb dX6_indexFor_73 rfl (lv_at hl 1 rfl) ?_
              refine q_getR hx hb hts hi_X6 hown hK hP ob_35 rfl 11 (by decide) rfl (hts (.fieldLink RX6 35 "MirrorNetModel" "index" "[I") (by decide +kernel)) (fun _ h9 => h9) dX6_indexFor_74 ?_
              refine lv_iload_n hx hb dX6_indexFor_77 rfl (lv_at hl 0 rfl) ?_
              obtain ⟨hk21, h⟩ := q_ck h
              refine q_iald hx hb hK hP ar_43 hk21 dX6_indexFor_78 ?_
              exact q_rWi hQ hx hb hr hlk hP hS h dX6_indexFor_79
          · have h := q_f c12 h
            refine lv_aload_n hx hb dX6_indexFor_38 rfl (lv_at hl 1 rfl) ?_
            refine q_getR hx hb hts hi_X6 hown hK hP ob_35 rfl 27 (by decide) rfl (hts (.fieldLink RX6 81 "MirrorNetModel" "bad" "[I") (by decide +kernel)) (fun _ h9 => h9) dX6_indexFor_39 ?_
            refine lv_iload_n hx hb dX6_indexFor_42 rfl (lv_at hl 2 rfl) ?_
            refine lv_dup2_11 hx hb dX6_indexFor_43 rfl rfl ?_
            obtain ⟨hk22, h⟩ := q_ck h
            refine q_iald hx hb hK hP ar_57 hk22 dX6_indexFor_44 ?_
            refine lv_iconst (v := 1) hx hb dX6_indexFor_45 (by decide) ?_
            refine lv_iload_n hx hb dX6_indexFor_46 rfl (lv_at hl 0 rfl) ?_
            refine lv_ishl hx hb dX6_indexFor_47 ?_
            refine lv_ior hx hb dX6_indexFor_48 ?_
            obtain ⟨hk23, h⟩ := q_ck h
            obtain ⟨M24, eM24, h⟩ := q_nx h
            refine q_iast hx hb hK hP hAD hS ar_57 hk23 dX6_indexFor_49 (fun H locs hP hS => ?_)
            rw [← eM24] at hP
            refine lv_goto (tgt := 80) hx hb dX6_indexFor_50 (by decide) ?_
            exact B_bk_X6_indexFor_80 M24 x2 H locs ls  h hP hS (lv_sub hl [1, 2, 3] rfl)
        · have h := q_t c10 h
          refine lv_goto (tgt := 80) hx hb dX6_indexFor_26 (by decide) ?_
          exact B_bk_X6_indexFor_80 M7 x2 H locs ls  h hP hS (lv_sub hl [1, 2, 3] rfl)
  obtain ⟨H, eH⟩ : ∃ H : Heap, H = s.heap := ⟨_, rfl⟩
  obtain ⟨locs, eL⟩ : ∃ L : List Loc, L = [] := ⟨_, rfl⟩
  have hP : va_P D vwCl (wl ad kc nm M) H := by rw [eH]; exact hP
  have hS : va_S (fun q => z ≤ q) s.heap H locs := by rw [eH, eL]; exact hS
  refine q_start eH eL ?_
  refine lv_iconst (v := 0) hx hb dX6_indexFor_0 (by decide) ?_
  refine lv_istore_n (lv' := [(2, .int (0 : Int32)), (0, .ref (ad 35)), (1, .int x1)]) hx hb dX6_indexFor_1 rfl hl (by decide) rfl (fun ls hl => ?_)
  exact L_lq_X6_indexFor_2 FU M (0 : Int32) H locs ls  h hP hS (lv_sub hl [1, 2, 0] rfl)
def rm_X6_giver : Room := { frames := 2, cells := 0, slots := 0, locals := 44 }
set_option maxHeartbeats 4000000 in
set_option maxRecDepth 100000 in
theorem ct_X6_giver (l : Launch) {D : va_G} {ad : Nat → Nat} {kc : Nat → ClassId} {nm z : Nat} (hAD : AD ad nm z) {M : Mem} {x1 : Int32} {x2 : Int32} {r : Int32} {Mr : Mem}  (h : fn_X6_giver M x1 x2 = some (r, Mr)) : Met l yX6_giver wsX6_giver rm_X6_giver (va_Pc [.ref (ad 35), .int x1, .int x2] (GW D ad kc nm z M)) (QWi D ad kc nm z r Mr) 0 0 (fun q => z ≤ q) := by
  refine q_met (cc := cX6_giver) (maxL := 5) (ret := (some .int)) (by decide) rfl (Nat.le_of_ble_eq_true rfl) ?_
  intro p e s m args below meth c Q ls hx hb hr hlk hml hown hts hB hQ hl
  obtain ⟨hP, hK, hz, hN⟩ := hB
  have hown : s.vm.findClass RX6 = some m.cls := hown
  have hl : lv_has ls 5 [(0, .ref (ad 35)), (1, .int x1), (2, .int x2)] := hl
  have hi_X6 : ∀ w ∈ u_ws RX6 TX6 40, w ∈ wsX6_giver := by decide +kernel
  have hS : va_S (fun q => z ≤ q) s.heap s.heap [] := va_S.rf
  have L_lq_X6_giver_2 : ∀ (n2 : Nat) (M : Mem) (x3 : Int32) (H : Heap) (locs : List Loc) (ls : Array Slot), it2 (lq_X6_giver_2 x1 x2) n2 M x3 = some (r, Mr) → va_P D vwCl (wl ad kc nm M) H → va_S (fun q => z ≤ q) s.heap H locs → lv_has ls 5 [(0, .ref (ad 35)), (1, .int x1), (2, .int x2), (3, .int x3)] → W p l e rm_X6_giver s m args below meth c H locs 0 0 Q (F0 m 2 ls []) := by
    intro n2
    induction n2 with
    | zero =>
      intro M x3 H locs ls h hP hS hl
      exact (it2_0 h).elim
    | succ n2 ih2 =>
      have B_bk_X6_giver_87 : ∀ (M : Mem) (x3 : Int32) (H : Heap) (locs : List Loc) (ls : Array Slot), bk_X6_giver_87 (it2 (lq_X6_giver_2 x1 x2) n2) M x1 x2 x3 = some (r, Mr) → va_P D vwCl (wl ad kc nm M) H → va_S (fun q => z ≤ q) s.heap H locs → lv_has ls 5 [(0, .ref (ad 35)), (1, .int x1), (2, .int x2), (3, .int x3)] → W p l e rm_X6_giver s m args below meth c H locs 0 0 Q (F0 m 87 ls []) := by
        intro M x3 H locs ls h hP hS hl
        obtain ⟨v1, ev1, h⟩ := q_nx h
        refine lv_iinc (v := v1) (lv' := [(3, .int v1), (0, .ref (ad 35)), (1, .int x1), (2, .int x2)]) hx hb dX6_giver_87 hl (k := 3) rfl (by rw [ev1]; rfl) (by decide) rfl (fun ls hl => ?_)
        refine lv_goto (tgt := 2) hx hb dX6_giver_90 (by decide) ?_
        exact ih2 M v1 H locs ls  h hP hS (lv_sub hl [1, 2, 3, 0] rfl)
      intro M x3 H locs ls h hP hS hl
      have h := it2_s h
      refine lv_iload_n hx hb dX6_giver_2 rfl (lv_at hl 3 rfl) ?_
      refine lv_aload_n hx hb dX6_giver_3 rfl (lv_at hl 0 rfl) ?_
      refine q_getI hx hb hts hi_X6 hown hK hP ob_35 rfl 29 (by decide) rfl (hts (.fieldLink RX6 149 "MirrorNetModel" "ordered" "I") (by decide +kernel)) (fun _ h9 => h9) dX6_giver_4 ?_
      refine lv_icmp_ge (tgt := 93) hx hb dX6_giver_7 (by decide) (fun c2 => ?_) (fun c2 => ?_)
      · have h := q_t c2 h
        refine lv_iconst (v := -1) hx hb dX6_giver_93 (by decide) ?_
        exact q_rWi hQ hx hb hr hlk hP hS h dX6_giver_94
      · have h := q_f c2 h
        refine lv_aload_n hx hb dX6_giver_10 rfl (lv_at hl 0 rfl) ?_
        refine q_getR hx hb hts hi_X6 hown hK hP ob_35 rfl 28 (by decide) rfl (hts (.fieldLink RX6 84 "MirrorNetModel" "order" "[I") (by decide +kernel)) (fun _ h9 => h9) dX6_giver_11 ?_
        refine lv_iload_n hx hb dX6_giver_14 rfl (lv_at hl 3 rfl) ?_
        obtain ⟨hk3, h⟩ := q_ck h
        refine q_iald hx hb hK hP ar_58 hk3 dX6_giver_15 ?_
        refine lv_topi (fun v4 ev4 => ?_)
        have h := q_nxe ev4 h
        refine lv_istore (lv' := [(4, .int v4), (0, .ref (ad 35)), (1, .int x1), (2, .int x2), (3, .int x3)]) hx hb dX6_giver_16 hl (by decide) rfl (fun ls hl => ?_)
        refine lv_aload_n hx hb dX6_giver_18 rfl (lv_at hl 1 rfl) ?_
        refine q_getR hx hb hts hi_X6 hown hK hP ob_35 rfl 27 (by decide) rfl (hts (.fieldLink RX6 81 "MirrorNetModel" "bad" "[I") (by decide +kernel)) (fun _ h9 => h9) dX6_giver_19 ?_
        refine lv_iload_n hx hb dX6_giver_22 rfl (lv_at hl 2 rfl) ?_
        obtain ⟨hk5, h⟩ := q_ck h
        refine q_iald hx hb hK hP ar_57 hk5 dX6_giver_23 ?_
        refine lv_iload hx hb dX6_giver_24 (lv_at hl 0 rfl) ?_
        refine lv_ishr hx hb dX6_giver_26 ?_
        refine lv_iconst (v := 1) hx hb dX6_giver_27 (by decide) ?_
        refine lv_iand hx hb dX6_giver_28 ?_
        refine lv_iconst (v := 1) hx hb dX6_giver_29 (by decide) ?_
        refine lv_icmp_eq (tgt := 87) hx hb dX6_giver_30 (by decide) (fun c6 => ?_) (fun c6 => ?_)
        · have h := q_t c6 h
          exact B_bk_X6_giver_87 M x3 H locs ls  h hP hS (lv_sub hl [1, 2, 3, 4] rfl)
        · have h := q_f c6 h
          refine lv_aload_n hx hb dX6_giver_33 rfl (lv_at hl 1 rfl) ?_
          refine lv_iload_n hx hb dX6_giver_34 rfl (lv_at hl 2 rfl) ?_
          refine lv_iload hx hb dX6_giver_35 (lv_at hl 0 rfl) ?_
          obtain ⟨r8, M9, hc7, h⟩ := q_bd2 h
          refine q_cWz (va_runV (C := RX6) (As := [.int x1, .int v4]) (rest := []) ⟨hx, hb, hml, hown, hts⟩ (ct_X6_tells l hAD (M := M) hc7) (cwV 2 hts gX6_giver_X6_tells rfl rfl rfl (by decide +kernel) ⟨Nat.le_of_ble_eq_true rfl, Nat.le_of_ble_eq_true rfl⟩) ⟨gw_blind, gw_recv ob_35 hK hP rfl, gw_pre _ hK hP (Nat.le_trans hz hS.1) hN⟩ rfl rfl hl.1 rfl (lv_room (Nat.le_of_ble_eq_true rfl)) dX6_giver_37 ⟨Nat.zero_le _, Nat.zero_le _⟩) hS (fun H locs hzr8 hP hS => ?_)
          refine lv_if_eq (tgt := 87) hx hb dX6_giver_40 (by decide) (fun c12 => ?_) (fun c12 => ?_)
          · have h := q_t c12 h
            exact B_bk_X6_giver_87 M9 x3 H locs ls  h hP hS (lv_sub hl [1, 2, 3, 4] rfl)
          · have h := q_f c12 h
            refine lv_aload_n hx hb dX6_giver_43 rfl (lv_at hl 1 rfl) ?_
            refine q_getR hx hb hts hi_X6 hown hK hP ob_35 rfl 16 (by decide) rfl (hts (.fieldLink RX6 51 "MirrorNetModel" "hasFile" "[Z") (by decide +kernel)) (fun _ h9 => h9) dX6_giver_44 ?_
            refine lv_bipush (v := 60) hx hb dX6_giver_47 (by decide) ?_
            refine lv_iload hx hb dX6_giver_49 (lv_at hl 0 rfl) ?_
            refine lv_imul hx hb dX6_giver_51 ?_
            refine lv_iload_n hx hb dX6_giver_52 rfl (lv_at hl 3 rfl) ?_
            refine lv_iadd hx hb dX6_giver_53 ?_
            obtain ⟨hk13, h⟩ := q_ck h
            refine q_zald hx hb hK hP ar_48 hk13 dX6_giver_54 ?_
            refine lv_if_ne (tgt := 61) hx hb dX6_giver_55 (by decide) (fun c14 => ?_) (fun c14 => ?_)
            · have h := q_f c14 h
              refine lv_aload_n hx hb dX6_giver_61 rfl (lv_at hl 1 rfl) ?_
              refine q_getR hx hb hts hi_X6 hown hK hP ob_35 rfl 15 (by decide) rfl (hts (.fieldLink RX6 47 "MirrorNetModel" "isLying" "[Z") (by decide +kernel)) (fun _ h9 => h9) dX6_giver_62 ?_
              refine lv_iload hx hb dX6_giver_65 (lv_at hl 0 rfl) ?_
              obtain ⟨hk15, h⟩ := q_ck h
              refine q_zald hx hb hK hP ar_47 hk15 dX6_giver_67 ?_
              refine lv_if_ne (tgt := 74) hx hb dX6_giver_68 (by decide) (fun c16 => ?_) (fun c16 => ?_)
              · have h := q_f c16 h
                refine lv_aload_n hx hb dX6_giver_74 rfl (lv_at hl 1 rfl) ?_
                refine q_getR hx hb hts hi_X6 hown hK hP ob_35 rfl 27 (by decide) rfl (hts (.fieldLink RX6 81 "MirrorNetModel" "bad" "[I") (by decide +kernel)) (fun _ h9 => h9) dX6_giver_75 ?_
                refine lv_iload_n hx hb dX6_giver_78 rfl (lv_at hl 2 rfl) ?_
                refine lv_dup2_11 hx hb dX6_giver_79 rfl rfl ?_
                obtain ⟨hk17, h⟩ := q_ck h
                refine q_iald hx hb hK hP ar_57 hk17 dX6_giver_80 ?_
                refine lv_iconst (v := 1) hx hb dX6_giver_81 (by decide) ?_
                refine lv_iload hx hb dX6_giver_82 (lv_at hl 0 rfl) ?_
                refine lv_ishl hx hb dX6_giver_84 ?_
                refine lv_ior hx hb dX6_giver_85 ?_
                obtain ⟨hk18, h⟩ := q_ck h
                obtain ⟨M19, eM19, h⟩ := q_nx h
                refine q_iast hx hb hK hP hAD hS ar_57 hk18 dX6_giver_86 (fun H locs hP hS => ?_)
                rw [← eM19] at hP
                exact B_bk_X6_giver_87 M19 x3 H locs ls  h hP hS (lv_sub hl [1, 2, 3, 4] rfl)
              · have h := q_t c16 h
                refine lv_iload hx hb dX6_giver_71 (lv_at hl 0 rfl) ?_
                exact q_rWi hQ hx hb hr hlk hP hS h dX6_giver_73
            · have h := q_t c14 h
              refine lv_goto (tgt := 87) hx hb dX6_giver_58 (by decide) ?_
              exact B_bk_X6_giver_87 M9 x3 H locs ls  h hP hS (lv_sub hl [1, 2, 3, 4] rfl)
  obtain ⟨H, eH⟩ : ∃ H : Heap, H = s.heap := ⟨_, rfl⟩
  obtain ⟨locs, eL⟩ : ∃ L : List Loc, L = [] := ⟨_, rfl⟩
  have hP : va_P D vwCl (wl ad kc nm M) H := by rw [eH]; exact hP
  have hS : va_S (fun q => z ≤ q) s.heap H locs := by rw [eH, eL]; exact hS
  refine q_start eH eL ?_
  refine lv_iconst (v := 0) hx hb dX6_giver_0 (by decide) ?_
  refine lv_istore_n (lv' := [(3, .int (0 : Int32)), (0, .ref (ad 35)), (1, .int x1), (2, .int x2)]) hx hb dX6_giver_1 rfl hl (by decide) rfl (fun ls hl => ?_)
  exact L_lq_X6_giver_2 FU M (0 : Int32) H locs ls  h hP hS (lv_sub hl [1, 2, 3, 0] rfl)
def rm_X6_least : Room := { frames := 2, cells := 0, slots := 0, locals := 46 }
set_option maxHeartbeats 4000000 in
set_option maxRecDepth 100000 in
theorem ct_X6_least (l : Launch) {D : va_G} {ad : Nat → Nat} {kc : Nat → ClassId} {nm z : Nat} (hAD : AD ad nm z) {M : Mem} {x1 : Int32} {x2 : Int32} {x3 : Int32} {r : Int32}  (h : fn_X6_least M x1 x2 x3 = some r) : Met l yX6_least wsX6_least rm_X6_least (va_Pc [.ref (ad 35), .int x1, .int x2, .int x3] (GW D ad kc nm z M)) (QRi r) 0 0 (fun _ => False) := by
  refine q_met (cc := cX6_least) (maxL := 9) (ret := (some .int)) (by decide) rfl (Nat.le_of_ble_eq_true rfl) ?_
  intro p e s m args below meth c Q ls hx hb hr hlk hml hown hts hB hQ hl
  obtain ⟨hP, hK, hz, hN⟩ := hB
  have hown : s.vm.findClass RX6 = some m.cls := hown
  have hl : lv_has ls 9 [(0, .ref (ad 35)), (1, .int x1), (2, .int x2), (3, .int x3)] := hl
  have hi_X6 : ∀ w ∈ u_ws RX6 TX6 40, w ∈ wsX6_least := by decide +kernel
  have L_lq_X6_least_182 : ∀ (n182 : Nat) (x5 : Int32) (x6 : Int32) (ls : Array Slot), it2 (lq_X6_least_182 M x1) n182 x5 x6 = some r → lv_has ls 9 [(0, .ref (ad 35)), (1, .int x1), (5, .int x5), (6, .int x6)] → W p l e rm_X6_least s m args below meth c s.heap [] 0 0 Q (F0 m 182 ls []) := by
    intro n182
    induction n182 with
    | zero =>
      intro x5 x6 ls h hl
      exact (it2_0 h).elim
    | succ n182 ih182 =>
      have L_lq_X6_least_197 : ∀ (x5 : Int32) (x6 : Int32), ∀ (n197 : Nat) (x4 : Int32) (x7 : Int32) (ls : Array Slot), it2 (lq_X6_least_197 (it2 (lq_X6_least_182 M x1) n182) M x1 x5 x6) n197 x4 x7 = some r → lv_has ls 9 [(0, .ref (ad 35)), (1, .int x1), (4, .int x4), (5, .int x5), (6, .int x6), (7, .int x7)] → W p l e rm_X6_least s m args below meth c s.heap [] 0 0 Q (F0 m 197 ls []) := by
        intro x5 x6 n197
        induction n197 with
        | zero =>
          intro x4 x7 ls h hl
          exact (it2_0 h).elim
        | succ n197 ih197 =>
          have B_bk_X6_least_284 : ∀ (x4 : Int32) (x7 : Int32) (ls : Array Slot), bk_X6_least_284 (it2 (lq_X6_least_182 M x1) n182) (it2 (lq_X6_least_197 (it2 (lq_X6_least_182 M x1) n182) M x1 x5 x6) n197) M x1 x4 x5 x6 x7 = some r → lv_has ls 9 [(0, .ref (ad 35)), (1, .int x1), (4, .int x4), (5, .int x5), (6, .int x6), (7, .int x7)] → W p l e rm_X6_least s m args below meth c s.heap [] 0 0 Q (F0 m 284 ls []) := by
            intro x4 x7 ls h hl
            obtain ⟨v1, ev1, h⟩ := q_nx h
            refine lv_iinc (v := v1) (lv' := [(7, .int v1), (0, .ref (ad 35)), (1, .int x1), (4, .int x4), (5, .int x5), (6, .int x6)]) hx hb dX6_least_284 hl (k := 5) rfl (by rw [ev1]; rfl) (by decide) rfl (fun ls hl => ?_)
            refine lv_goto (tgt := 197) hx hb dX6_least_287 (by decide) ?_
            exact ih197 x4 v1 ls  h (lv_sub hl [1, 2, 3, 4, 5, 0] rfl)
          have B_bk_X6_least_280 : ∀ (x7 : Int32) (x8 : Int32) (ls : Array Slot), bk_X6_least_280 (it2 (lq_X6_least_182 M x1) n182) (it2 (lq_X6_least_197 (it2 (lq_X6_least_182 M x1) n182) M x1 x5 x6) n197) M x1 x5 x6 x7 x8 = some r → lv_has ls 9 [(0, .ref (ad 35)), (1, .int x1), (5, .int x5), (6, .int x6), (7, .int x7), (8, .int x8)] → W p l e rm_X6_least s m args below meth c s.heap [] 0 0 Q (F0 m 280 ls []) := by
            intro x7 x8 ls h hl
            refine lv_iload hx hb dX6_least_280 (lv_at hl 5 rfl) ?_
            refine lv_istore (lv' := [(4, .int x8), (0, .ref (ad 35)), (1, .int x1), (5, .int x5), (6, .int x6), (7, .int x7), (8, .int x8)]) hx hb dX6_least_282 hl (by decide) rfl (fun ls hl => ?_)
            exact B_bk_X6_least_284 x8 x7 ls  h (lv_sub hl [1, 2, 0, 3, 4, 5] rfl)
          intro x4 x7 ls h hl
          have h := it2_s h
          refine lv_iload hx hb dX6_least_197 (lv_at hl 5 rfl) ?_
          refine lv_aload_n hx hb dX6_least_199 rfl (lv_at hl 0 rfl) ?_
          refine q_getI hx hb hts hi_X6 hown hK hP ob_35 rfl 7 (by decide) rfl (hts (.fieldLink RX6 113 "MirrorNetModel" "mirrors" "I") (by decide +kernel)) (fun _ h9 => h9) dX6_least_200 ?_
          refine lv_icmp_ge (tgt := 290) hx hb dX6_least_203 (by decide) (fun c2 => ?_) (fun c2 => ?_)
          · have h := q_t c2 h
            refine lv_iload hx hb dX6_least_290 (lv_at hl 3 rfl) ?_
            refine lv_iload hx hb dX6_least_292 (lv_at hl 2 rfl) ?_
            refine lv_iadd hx hb dX6_least_294 ?_
            refine lv_topi (fun v3 ev3 => ?_)
            have h := q_nxe ev3 h
            refine lv_istore (lv' := [(5, .int v3), (0, .ref (ad 35)), (1, .int x1), (4, .int x4), (6, .int x6), (7, .int x7)]) hx hb dX6_least_295 hl (by decide) rfl (fun ls hl => ?_)
            obtain ⟨v4, ev4, h⟩ := q_nx h
            refine lv_iinc (v := v4) (lv' := [(6, .int v4), (5, .int v3), (0, .ref (ad 35)), (1, .int x1), (4, .int x4), (7, .int x7)]) hx hb dX6_least_297 hl (k := 4) rfl (by rw [ev4]; rfl) (by decide) rfl (fun ls hl => ?_)
            refine lv_goto (tgt := 182) hx hb dX6_least_300 (by decide) ?_
            exact ih182 v3 v4 ls  h (lv_sub hl [2, 3, 1, 0] rfl)
          · have h := q_f c2 h
            refine lv_aload_n hx hb dX6_least_206 rfl (lv_at hl 0 rfl) ?_
            refine q_getR hx hb hts hi_X6 hown hK hP ob_35 rfl 24 (by decide) rfl (hts (.fieldLink RX6 72 "MirrorNetModel" "costOf" "[I") (by decide +kernel)) (fun _ h9 => h9) dX6_least_207 ?_
            refine lv_bipush (v := 8) hx hb dX6_least_210 (by decide) ?_
            refine lv_iload_n hx hb dX6_least_212 rfl (lv_at hl 1 rfl) ?_
            refine lv_imul hx hb dX6_least_213 ?_
            refine lv_iload hx hb dX6_least_214 (lv_at hl 5 rfl) ?_
            refine lv_iadd hx hb dX6_least_216 ?_
            obtain ⟨hk5, h⟩ := q_ck h
            refine q_iald hx hb hK hP ar_54 hk5 dX6_least_217 ?_
            refine lv_topi (fun v6 ev6 => ?_)
            have h := q_nxe ev6 h
            refine lv_istore (lv' := [(8, .int v6), (0, .ref (ad 35)), (1, .int x1), (4, .int x4), (5, .int x5), (6, .int x6), (7, .int x7)]) hx hb dX6_least_218 hl (by decide) rfl (fun ls hl => ?_)
            refine lv_iload hx hb dX6_least_220 (lv_at hl 0 rfl) ?_
            refine lv_if_lt (tgt := 284) hx hb dX6_least_222 (by decide) (fun c7 => ?_) (fun c7 => ?_)
            · have h := q_t c7 h
              exact B_bk_X6_least_284 x4 x7 ls  h (lv_sub hl [1, 2, 3, 4, 5, 6] rfl)
            · have h := q_f c7 h
              refine lv_aload_n hx hb dX6_least_225 rfl (lv_at hl 1 rfl) ?_
              refine lv_iload hx hb dX6_least_226 (lv_at hl 6 rfl) ?_
              obtain ⟨r9, hc8, h⟩ := q_bd1 h
              refine q_cRz (va_runV (C := RX6) (As := [.int x7]) (rest := []) ⟨hx, hb, hml, hown, hts⟩ (ct_X6_isFallen l hAD (M := M) hc8) (cwV 1 hts gX6_least_X6_isFallen rfl rfl rfl (by decide +kernel) ⟨Nat.le_of_ble_eq_true rfl, Nat.le_of_ble_eq_true rfl⟩) ⟨gw_blind, gw_recv ob_35 hK hP rfl, gw_pre _ hK hP hz hN⟩ rfl rfl hl.1 rfl (lv_room (Nat.le_of_ble_eq_true rfl)) dX6_least_228 ⟨Nat.zero_le _, Nat.zero_le _⟩) (fun hzr9 => ?_)
              refine lv_if_ne (tgt := 284) hx hb dX6_least_231 (by decide) (fun c13 => ?_) (fun c13 => ?_)
              · have h := q_f c13 h
                exact B_bk_X6_least_284 x4 x7 ls  h (lv_sub hl [1, 2, 3, 4, 5, 6] rfl)
              · have h := q_t c13 h
                refine lv_aload_n hx hb dX6_least_234 rfl (lv_at hl 1 rfl) ?_
                refine q_getR hx hb hts hi_X6 hown hK hP ob_35 rfl 15 (by decide) rfl (hts (.fieldLink RX6 47 "MirrorNetModel" "isLying" "[Z") (by decide +kernel)) (fun _ h9 => h9) dX6_least_235 ?_
                refine lv_iload hx hb dX6_least_238 (lv_at hl 6 rfl) ?_
                obtain ⟨hk14, h⟩ := q_ck h
                refine q_zald hx hb hK hP ar_47 hk14 dX6_least_240 ?_
                refine lv_if_ne (tgt := 284) hx hb dX6_least_241 (by decide) (fun c15 => ?_) (fun c15 => ?_)
                · have h := q_f c15 h
                  exact B_bk_X6_least_284 x4 x7 ls  h (lv_sub hl [1, 2, 3, 4, 5, 6] rfl)
                · have h := q_t c15 h
                  refine lv_aload_n hx hb dX6_least_244 rfl (lv_at hl 1 rfl) ?_
                  refine q_getR hx hb hts hi_X6 hown hK hP ob_35 rfl 16 (by decide) rfl (hts (.fieldLink RX6 51 "MirrorNetModel" "hasFile" "[Z") (by decide +kernel)) (fun _ h9 => h9) dX6_least_245 ?_
                  refine lv_bipush (v := 60) hx hb dX6_least_248 (by decide) ?_
                  refine lv_iload hx hb dX6_least_250 (lv_at hl 6 rfl) ?_
                  refine lv_imul hx hb dX6_least_252 ?_
                  refine lv_aload_n hx hb dX6_least_253 rfl (lv_at hl 1 rfl) ?_
                  refine q_getR hx hb hts hi_X6 hown hK hP ob_35 rfl 37 (by decide) rfl (hts (.fieldLink RX6 87 "MirrorNetModel" "gotFile" "[I") (by decide +kernel)) (fun _ h9 => h9) dX6_least_254 ?_
                  refine lv_iload hx hb dX6_least_257 (lv_at hl 5 rfl) ?_
                  obtain ⟨hk16, h⟩ := q_ck h
                  refine q_iald hx hb hK hP ar_59 hk16 dX6_least_259 ?_
                  refine lv_iadd hx hb dX6_least_260 ?_
                  obtain ⟨hk17, h⟩ := q_ck h
                  refine q_zald hx hb hK hP ar_48 hk17 dX6_least_261 ?_
                  refine lv_if_eq (tgt := 284) hx hb dX6_least_262 (by decide) (fun c18 => ?_) (fun c18 => ?_)
                  · have h := q_t c18 h
                    exact B_bk_X6_least_284 x4 x7 ls  h (lv_sub hl [1, 2, 3, 4, 5, 6] rfl)
                  · have h := q_f c18 h
                    refine lv_iload hx hb dX6_least_265 (lv_at hl 3 rfl) ?_
                    refine lv_if_lt (tgt := 280) hx hb dX6_least_267 (by decide) (fun c19 => ?_) (fun c19 => ?_)
                    · have h := q_t c19 h
                      exact B_bk_X6_least_280 x7 v6 ls  h (lv_sub hl [1, 2, 4, 5, 6, 0] rfl)
                    · have h := q_f c19 h
                      refine lv_iload hx hb dX6_least_270 (lv_at hl 0 rfl) ?_
                      refine lv_iload hx hb dX6_least_272 (lv_at hl 3 rfl) ?_
                      refine lv_icmp_lt (tgt := 280) hx hb dX6_least_274 (by decide) (fun c20 => ?_) (fun c20 => ?_)
                      · have h := q_t c20 h
                        exact B_bk_X6_least_280 x7 v6 ls  h (lv_sub hl [1, 2, 4, 5, 6, 0] rfl)
                      · have h := q_f c20 h
                        refine lv_goto (tgt := 284) hx hb dX6_least_277 (by decide) ?_
                        exact B_bk_X6_least_284 x4 x7 ls  h (lv_sub hl [1, 2, 3, 4, 5, 6] rfl)
      intro x5 x6 ls h hl
      have h := it2_s h
      refine lv_iload hx hb dX6_least_182 (lv_at hl 3 rfl) ?_
      refine lv_aload_n hx hb dX6_least_184 rfl (lv_at hl 0 rfl) ?_
      refine q_getI hx hb hts hi_X6 hown hK hP ob_35 rfl 34 (by decide) rfl (hts (.fieldLink RX6 167 "MirrorNetModel" "gotMany" "I") (by decide +kernel)) (fun _ h9 => h9) dX6_least_185 ?_
      refine lv_icmp_ge (tgt := 303) hx hb dX6_least_188 (by decide) (fun c21 => ?_) (fun c21 => ?_)
      · have h := q_t c21 h
        refine lv_iload hx hb dX6_least_303 (lv_at hl 2 rfl) ?_
        exact q_rRi hQ hx hb hr hlk h dX6_least_305
      · have h := q_f c21 h
        refine lv_iconst (v := -1) hx hb dX6_least_191 (by decide) ?_
        refine lv_istore (lv' := [(4, .int (-1 : Int32)), (0, .ref (ad 35)), (1, .int x1), (5, .int x5), (6, .int x6)]) hx hb dX6_least_192 hl (by decide) rfl (fun ls hl => ?_)
        refine lv_iconst (v := 0) hx hb dX6_least_194 (by decide) ?_
        refine lv_istore (lv' := [(7, .int (0 : Int32)), (4, .int (-1 : Int32)), (0, .ref (ad 35)), (1, .int x1), (5, .int x5), (6, .int x6)]) hx hb dX6_least_195 hl (by decide) rfl (fun ls hl => ?_)
        exact L_lq_X6_least_197 x5 x6 FU (-1 : Int32) (0 : Int32) ls  h (lv_sub hl [2, 3, 1, 4, 5, 0] rfl)
  have L_lq_X6_least_6 : ∀ (n6 : Nat) (x4 : Int32) (x5 : Int32) (ls : Array Slot), it2 (lq_X6_least_6 M x1 x2 x3) n6 x4 x5 = some r → lv_has ls 9 [(0, .ref (ad 35)), (1, .int x1), (2, .int x2), (3, .int x3), (4, .int x4), (5, .int x5)] → W p l e rm_X6_least s m args below meth c s.heap [] 0 0 Q (F0 m 6 ls []) := by
    intro n6
    induction n6 with
    | zero =>
      intro x4 x5 ls h hl
      exact (it2_0 h).elim
    | succ n6 ih6 =>
      have B_bk_X6_least_169 : ∀ (x4 : Int32) (x5 : Int32) (ls : Array Slot), bk_X6_least_169 (it2 (lq_X6_least_6 M x1 x2 x3) n6) M x1 x2 x3 x4 x5 = some r → lv_has ls 9 [(0, .ref (ad 35)), (1, .int x1), (2, .int x2), (3, .int x3), (4, .int x4), (5, .int x5)] → W p l e rm_X6_least s m args below meth c s.heap [] 0 0 Q (F0 m 169 ls []) := by
        intro x4 x5 ls h hl
        obtain ⟨v22, ev22, h⟩ := q_nx h
        refine lv_iinc (v := v22) (lv' := [(5, .int v22), (0, .ref (ad 35)), (1, .int x1), (2, .int x2), (3, .int x3), (4, .int x4)]) hx hb dX6_least_169 hl (k := 5) rfl (by rw [ev22]; rfl) (by decide) rfl (fun ls hl => ?_)
        refine lv_goto (tgt := 6) hx hb dX6_least_172 (by decide) ?_
        exact ih6 x4 v22 ls  h (lv_sub hl [1, 2, 3, 4, 5, 0] rfl)
      have L_lq_X6_least_90 : ∀ (x4 : Int32) (x5 : Int32) (x6 : Int32), ∀ (n90 : Nat) (x7 : Int32) (x8 : Int32) (ls : Array Slot), it2 (lq_X6_least_90 (it2 (lq_X6_least_6 M x1 x2 x3) n6) M x1 x2 x3 x4 x5 x6) n90 x7 x8 = some r → lv_has ls 9 [(0, .ref (ad 35)), (1, .int x1), (2, .int x2), (3, .int x3), (4, .int x4), (5, .int x5), (6, .int x6), (7, .int x7), (8, .int x8)] → W p l e rm_X6_least s m args below meth c s.heap [] 0 0 Q (F0 m 90 ls []) := by
        intro x4 x5 x6 n90
        induction n90 with
        | zero =>
          intro x7 x8 ls h hl
          exact (it2_0 h).elim
        | succ n90 ih90 =>
          have B_bk_X6_least_152 : ∀ (x8 : Int32) (sx0 : Int32) (ls : Array Slot), bk_X6_least_152 (it2 (lq_X6_least_6 M x1 x2 x3) n6) (it2 (lq_X6_least_90 (it2 (lq_X6_least_6 M x1 x2 x3) n6) M x1 x2 x3 x4 x5 x6) n90) M x1 x2 x3 x4 x5 x6 x8 sx0 = some r → lv_has ls 9 [(0, .ref (ad 35)), (1, .int x1), (2, .int x2), (3, .int x3), (4, .int x4), (5, .int x5), (6, .int x6), (8, .int x8)] → W p l e rm_X6_least s m args below meth c s.heap [] 0 0 Q (F0 m 152 ls [.int sx0]) := by
            intro x8 sx0 ls h hl
            refine lv_istore (lv' := [(7, .int sx0), (0, .ref (ad 35)), (1, .int x1), (2, .int x2), (3, .int x3), (4, .int x4), (5, .int x5), (6, .int x6), (8, .int x8)]) hx hb dX6_least_152 hl (by decide) rfl (fun ls hl => ?_)
            obtain ⟨v23, ev23, h⟩ := q_nx h
            refine lv_iinc (v := v23) (lv' := [(8, .int v23), (7, .int sx0), (0, .ref (ad 35)), (1, .int x1), (2, .int x2), (3, .int x3), (4, .int x4), (5, .int x5), (6, .int x6)]) hx hb dX6_least_154 hl (k := 8) rfl (by rw [ev23]; rfl) (by decide) rfl (fun ls hl => ?_)
            refine lv_goto (tgt := 90) hx hb dX6_least_157 (by decide) ?_
            exact ih90 sx0 v23 ls  h (lv_sub hl [2, 3, 4, 5, 6, 7, 8, 1, 0] rfl)
          have B_bk_X6_least_151 : ∀ (x8 : Int32) (ls : Array Slot), bk_X6_least_151 (it2 (lq_X6_least_6 M x1 x2 x3) n6) (it2 (lq_X6_least_90 (it2 (lq_X6_least_6 M x1 x2 x3) n6) M x1 x2 x3 x4 x5 x6) n90) M x1 x2 x3 x4 x5 x6 x8 = some r → lv_has ls 9 [(0, .ref (ad 35)), (1, .int x1), (2, .int x2), (3, .int x3), (4, .int x4), (5, .int x5), (6, .int x6), (8, .int x8)] → W p l e rm_X6_least s m args below meth c s.heap [] 0 0 Q (F0 m 151 ls []) := by
            intro x8 ls h hl
            refine lv_iconst (v := 0) hx hb dX6_least_151 (by decide) ?_
            exact B_bk_X6_least_152 x8 (0 : Int32) ls  h (lv_sub hl [0, 1, 2, 3, 4, 5, 6, 7] rfl)
          have B_bk_X6_least_147 : ∀ (x8 : Int32) (ls : Array Slot), bk_X6_least_147 (it2 (lq_X6_least_6 M x1 x2 x3) n6) (it2 (lq_X6_least_90 (it2 (lq_X6_least_6 M x1 x2 x3) n6) M x1 x2 x3 x4 x5 x6) n90) M x1 x2 x3 x4 x5 x6 x8 = some r → lv_has ls 9 [(0, .ref (ad 35)), (1, .int x1), (2, .int x2), (3, .int x3), (4, .int x4), (5, .int x5), (6, .int x6), (8, .int x8)] → W p l e rm_X6_least s m args below meth c s.heap [] 0 0 Q (F0 m 147 ls []) := by
            intro x8 ls h hl
            refine lv_iconst (v := 1) hx hb dX6_least_147 (by decide) ?_
            refine lv_goto (tgt := 152) hx hb dX6_least_148 (by decide) ?_
            exact B_bk_X6_least_152 x8 (1 : Int32) ls  h (lv_sub hl [0, 1, 2, 3, 4, 5, 6, 7] rfl)
          intro x7 x8 ls h hl
          have h := it2_s h
          refine lv_iload hx hb dX6_least_90 (lv_at hl 8 rfl) ?_
          refine lv_bipush (v := 12) hx hb dX6_least_92 (by decide) ?_
          refine lv_icmp_ge (tgt := 160) hx hb dX6_least_94 (by decide) (fun c24 => ?_) (fun c24 => ?_)
          · have h := q_t c24 h
            refine lv_iload hx hb dX6_least_160 (lv_at hl 7 rfl) ?_
            refine lv_if_eq (tgt := 169) hx hb dX6_least_162 (by decide) (fun c25 => ?_) (fun c25 => ?_)
            · have h := q_t c25 h
              exact B_bk_X6_least_169 x4 x5 ls  h (lv_sub hl [0, 1, 2, 3, 4, 5] rfl)
            · have h := q_f c25 h
              refine lv_iload hx hb dX6_least_165 (lv_at hl 6 rfl) ?_
              refine lv_istore (lv' := [(4, .int x6), (0, .ref (ad 35)), (1, .int x1), (2, .int x2), (3, .int x3), (5, .int x5), (6, .int x6), (7, .int x7), (8, .int x8)]) hx hb dX6_least_167 hl (by decide) rfl (fun ls hl => ?_)
              exact B_bk_X6_least_169 x6 x5 ls  h (lv_sub hl [1, 2, 3, 4, 0, 5] rfl)
          · have h := q_f c24 h
            refine lv_iload hx hb dX6_least_97 (lv_at hl 7 rfl) ?_
            refine lv_if_eq (tgt := 151) hx hb dX6_least_99 (by decide) (fun c26 => ?_) (fun c26 => ?_)
            · have h := q_t c26 h
              exact B_bk_X6_least_151 x8 ls  h (lv_sub hl [0, 1, 2, 3, 4, 5, 6, 8] rfl)
            · have h := q_f c26 h
              refine lv_iload_n hx hb dX6_least_102 rfl (lv_at hl 2 rfl) ?_
              refine lv_iload hx hb dX6_least_103 (lv_at hl 8 rfl) ?_
              refine lv_ishr hx hb dX6_least_105 ?_
              refine lv_iconst (v := 1) hx hb dX6_least_106 (by decide) ?_
              refine lv_iand hx hb dX6_least_107 ?_
              refine lv_if_eq (tgt := 147) hx hb dX6_least_108 (by decide) (fun c27 => ?_) (fun c27 => ?_)
              · have h := q_t c27 h
                exact B_bk_X6_least_147 x8 ls  h (lv_sub hl [0, 1, 2, 3, 4, 5, 6, 8] rfl)
              · have h := q_f c27 h
                refine lv_aload_n hx hb dX6_least_111 rfl (lv_at hl 0 rfl) ?_
                refine q_getR hx hb hts hi_X6 hown hK hP ob_35 rfl 6 (by decide) rfl (hts (.fieldLink RX6 23 "MirrorNetModel" "named" "[I") (by decide +kernel)) (fun _ h9 => h9) dX6_least_112 ?_
                refine lv_bipush (v := 12) hx hb dX6_least_115 (by decide) ?_
                refine lv_aload_n hx hb dX6_least_117 rfl (lv_at hl 0 rfl) ?_
                refine q_getR hx hb hts hi_X6 hown hK hP ob_35 rfl 11 (by decide) rfl (hts (.fieldLink RX6 35 "MirrorNetModel" "index" "[I") (by decide +kernel)) (fun _ h9 => h9) dX6_least_118 ?_
                refine lv_iload hx hb dX6_least_121 (lv_at hl 5 rfl) ?_
                obtain ⟨hk28, h⟩ := q_ck h
                refine q_iald hx hb hK hP ar_43 hk28 dX6_least_123 ?_
                refine lv_imul hx hb dX6_least_124 ?_
                refine lv_iload hx hb dX6_least_125 (lv_at hl 8 rfl) ?_
                refine lv_iadd hx hb dX6_least_127 ?_
                obtain ⟨hk29, h⟩ := q_ck h
                refine q_iald hx hb hK hP ar_39 hk29 dX6_least_128 ?_
                refine lv_aload_n hx hb dX6_least_129 rfl (lv_at hl 0 rfl) ?_
                refine q_getR hx hb hts hi_X6 hown hK hP ob_35 rfl 6 (by decide) rfl (hts (.fieldLink RX6 23 "MirrorNetModel" "named" "[I") (by decide +kernel)) (fun _ h9 => h9) dX6_least_130 ?_
                refine lv_bipush (v := 12) hx hb dX6_least_133 (by decide) ?_
                refine lv_aload_n hx hb dX6_least_135 rfl (lv_at hl 0 rfl) ?_
                refine q_getI hx hb hts hi_X6 hown hK hP ob_35 rfl 31 (by decide) rfl (hts (.fieldLink RX6 164 "MirrorNetModel" "askedIndex" "I") (by decide +kernel)) (fun _ h9 => h9) dX6_least_136 ?_
                refine lv_imul hx hb dX6_least_139 ?_
                refine lv_iload hx hb dX6_least_140 (lv_at hl 8 rfl) ?_
                refine lv_iadd hx hb dX6_least_142 ?_
                obtain ⟨hk30, h⟩ := q_ck h
                refine q_iald hx hb hK hP ar_39 hk30 dX6_least_143 ?_
                refine lv_icmp_ne (tgt := 151) hx hb dX6_least_144 (by decide) (fun c31 => ?_) (fun c31 => ?_)
                · have h := q_f c31 h
                  exact B_bk_X6_least_151 x8 ls  h (lv_sub hl [0, 1, 2, 3, 4, 5, 6, 8] rfl)
                · have h := q_t c31 h
                  exact B_bk_X6_least_147 x8 ls  h (lv_sub hl [0, 1, 2, 3, 4, 5, 6, 8] rfl)
      have B_bk_X6_least_84 : ∀ (x4 : Int32) (x5 : Int32) (x6 : Int32) (ls : Array Slot), bk_X6_least_84 (it2 (lq_X6_least_6 M x1 x2 x3) n6) M x1 x2 x3 x4 x5 x6 = some r → lv_has ls 9 [(0, .ref (ad 35)), (1, .int x1), (2, .int x2), (3, .int x3), (4, .int x4), (5, .int x5), (6, .int x6)] → W p l e rm_X6_least s m args below meth c s.heap [] 0 0 Q (F0 m 84 ls []) := by
        intro x4 x5 x6 ls h hl
        refine lv_iconst (v := 1) hx hb dX6_least_84 (by decide) ?_
        refine lv_istore (lv' := [(7, .int (1 : Int32)), (0, .ref (ad 35)), (1, .int x1), (2, .int x2), (3, .int x3), (4, .int x4), (5, .int x5), (6, .int x6)]) hx hb dX6_least_85 hl (by decide) rfl (fun ls hl => ?_)
        refine lv_iconst (v := 0) hx hb dX6_least_87 (by decide) ?_
        refine lv_istore (lv' := [(8, .int (0 : Int32)), (7, .int (1 : Int32)), (0, .ref (ad 35)), (1, .int x1), (2, .int x2), (3, .int x3), (4, .int x4), (5, .int x5), (6, .int x6)]) hx hb dX6_least_88 hl (by decide) rfl (fun ls hl => ?_)
        exact L_lq_X6_least_90 x4 x5 x6 FU (1 : Int32) (0 : Int32) ls  h (lv_sub hl [2, 3, 4, 5, 6, 7, 8, 1, 0] rfl)
      intro x4 x5 ls h hl
      have h := it2_s h
      refine lv_iload hx hb dX6_least_6 (lv_at hl 5 rfl) ?_
      refine lv_aload_n hx hb dX6_least_8 rfl (lv_at hl 0 rfl) ?_
      refine q_getI hx hb hts hi_X6 hown hK hP ob_35 rfl 7 (by decide) rfl (hts (.fieldLink RX6 113 "MirrorNetModel" "mirrors" "I") (by decide +kernel)) (fun _ h9 => h9) dX6_least_9 ?_
      refine lv_icmp_ge (tgt := 175) hx hb dX6_least_12 (by decide) (fun c32 => ?_) (fun c32 => ?_)
      · have h := q_t c32 h
        refine lv_iload hx hb dX6_least_175 (lv_at hl 4 rfl) ?_
        refine lv_istore (lv' := [(5, .int x4), (0, .ref (ad 35)), (1, .int x1), (2, .int x2), (3, .int x3), (4, .int x4)]) hx hb dX6_least_177 hl (by decide) rfl (fun ls hl => ?_)
        refine lv_iconst (v := 0) hx hb dX6_least_179 (by decide) ?_
        refine lv_istore (lv' := [(6, .int (0 : Int32)), (5, .int x4), (0, .ref (ad 35)), (1, .int x1), (2, .int x2), (3, .int x3), (4, .int x4)]) hx hb dX6_least_180 hl (by decide) rfl (fun ls hl => ?_)
        exact L_lq_X6_least_182 FU x4 (0 : Int32) ls  h (lv_sub hl [2, 3, 1, 0] rfl)
      · have h := q_f c32 h
        refine lv_aload_n hx hb dX6_least_15 rfl (lv_at hl 0 rfl) ?_
        refine q_getR hx hb hts hi_X6 hown hK hP ob_35 rfl 24 (by decide) rfl (hts (.fieldLink RX6 72 "MirrorNetModel" "costOf" "[I") (by decide +kernel)) (fun _ h9 => h9) dX6_least_16 ?_
        refine lv_bipush (v := 8) hx hb dX6_least_19 (by decide) ?_
        refine lv_iload_n hx hb dX6_least_21 rfl (lv_at hl 1 rfl) ?_
        refine lv_imul hx hb dX6_least_22 ?_
        refine lv_iload hx hb dX6_least_23 (lv_at hl 5 rfl) ?_
        refine lv_iadd hx hb dX6_least_25 ?_
        obtain ⟨hk33, h⟩ := q_ck h
        refine q_iald hx hb hK hP ar_54 hk33 dX6_least_26 ?_
        refine lv_topi (fun v34 ev34 => ?_)
        have h := q_nxe ev34 h
        refine lv_istore (lv' := [(6, .int v34), (0, .ref (ad 35)), (1, .int x1), (2, .int x2), (3, .int x3), (4, .int x4), (5, .int x5)]) hx hb dX6_least_27 hl (by decide) rfl (fun ls hl => ?_)
        refine lv_iload hx hb dX6_least_29 (lv_at hl 0 rfl) ?_
        refine lv_if_lt (tgt := 169) hx hb dX6_least_31 (by decide) (fun c35 => ?_) (fun c35 => ?_)
        · have h := q_t c35 h
          exact B_bk_X6_least_169 x4 x5 ls  h (lv_sub hl [1, 2, 3, 4, 5, 6] rfl)
        · have h := q_f c35 h
          refine lv_aload_n hx hb dX6_least_34 rfl (lv_at hl 1 rfl) ?_
          refine lv_iload hx hb dX6_least_35 (lv_at hl 6 rfl) ?_
          obtain ⟨r37, hc36, h⟩ := q_bd1 h
          refine q_cRz (va_runV (C := RX6) (As := [.int x5]) (rest := []) ⟨hx, hb, hml, hown, hts⟩ (ct_X6_isFallen l hAD (M := M) hc36) (cwV 1 hts gX6_least_X6_isFallen rfl rfl rfl (by decide +kernel) ⟨Nat.le_of_ble_eq_true rfl, Nat.le_of_ble_eq_true rfl⟩) ⟨gw_blind, gw_recv ob_35 hK hP rfl, gw_pre _ hK hP hz hN⟩ rfl rfl hl.1 rfl (lv_room (Nat.le_of_ble_eq_true rfl)) dX6_least_37 ⟨Nat.zero_le _, Nat.zero_le _⟩) (fun hzr37 => ?_)
          refine lv_if_ne (tgt := 169) hx hb dX6_least_40 (by decide) (fun c41 => ?_) (fun c41 => ?_)
          · have h := q_f c41 h
            exact B_bk_X6_least_169 x4 x5 ls  h (lv_sub hl [1, 2, 3, 4, 5, 6] rfl)
          · have h := q_t c41 h
            refine lv_aload_n hx hb dX6_least_43 rfl (lv_at hl 1 rfl) ?_
            refine q_getR hx hb hts hi_X6 hown hK hP ob_35 rfl 15 (by decide) rfl (hts (.fieldLink RX6 47 "MirrorNetModel" "isLying" "[Z") (by decide +kernel)) (fun _ h9 => h9) dX6_least_44 ?_
            refine lv_iload hx hb dX6_least_47 (lv_at hl 6 rfl) ?_
            obtain ⟨hk42, h⟩ := q_ck h
            refine q_zald hx hb hK hP ar_47 hk42 dX6_least_49 ?_
            refine lv_if_ne (tgt := 169) hx hb dX6_least_50 (by decide) (fun c43 => ?_) (fun c43 => ?_)
            · have h := q_f c43 h
              exact B_bk_X6_least_169 x4 x5 ls  h (lv_sub hl [1, 2, 3, 4, 5, 6] rfl)
            · have h := q_t c43 h
              refine lv_aload_n hx hb dX6_least_53 rfl (lv_at hl 1 rfl) ?_
              refine lv_iload_n hx hb dX6_least_54 rfl (lv_at hl 2 rfl) ?_
              refine lv_aload_n hx hb dX6_least_55 rfl (lv_at hl 1 rfl) ?_
              refine q_getR hx hb hts hi_X6 hown hK hP ob_35 rfl 11 (by decide) rfl (hts (.fieldLink RX6 35 "MirrorNetModel" "index" "[I") (by decide +kernel)) (fun _ h9 => h9) dX6_least_56 ?_
              refine lv_iload hx hb dX6_least_59 (lv_at hl 6 rfl) ?_
              obtain ⟨hk44, h⟩ := q_ck h
              refine q_iald hx hb hK hP ar_43 hk44 dX6_least_61 ?_
              refine lv_iload_n hx hb dX6_least_62 rfl (lv_at hl 4 rfl) ?_
              obtain ⟨r46, hc45, h⟩ := q_bd1 h
              refine q_cRz (va_runV (C := RX6) (As := [.int x1, .int (gI M 43 (ix x5)), .int x3]) (rest := []) ⟨hx, hb, hml, hown, hts⟩ (ct_X6_isGood l hAD (M := M) hc45) (cwV 3 hts gX6_least_X6_isGood rfl rfl rfl (by decide +kernel) ⟨Nat.le_of_ble_eq_true rfl, Nat.le_of_ble_eq_true rfl⟩) ⟨gw_blind, gw_recv ob_35 hK hP rfl, gw_pre _ hK hP hz hN⟩ rfl rfl hl.1 rfl (lv_room (Nat.le_of_ble_eq_true rfl)) dX6_least_63 ⟨Nat.zero_le _, Nat.zero_le _⟩) (fun hzr46 => ?_)
              refine lv_if_eq (tgt := 169) hx hb dX6_least_66 (by decide) (fun c50 => ?_) (fun c50 => ?_)
              · have h := q_t c50 h
                exact B_bk_X6_least_169 x4 x5 ls  h (lv_sub hl [1, 2, 3, 4, 5, 6] rfl)
              · have h := q_f c50 h
                refine lv_iload hx hb dX6_least_69 (lv_at hl 5 rfl) ?_
                refine lv_if_lt (tgt := 84) hx hb dX6_least_71 (by decide) (fun c51 => ?_) (fun c51 => ?_)
                · have h := q_t c51 h
                  exact B_bk_X6_least_84 x4 x5 v34 ls  h (lv_sub hl [1, 2, 3, 4, 5, 6, 0] rfl)
                · have h := q_f c51 h
                  refine lv_iload hx hb dX6_least_74 (lv_at hl 0 rfl) ?_
                  refine lv_iload hx hb dX6_least_76 (lv_at hl 5 rfl) ?_
                  refine lv_icmp_lt (tgt := 84) hx hb dX6_least_78 (by decide) (fun c52 => ?_) (fun c52 => ?_)
                  · have h := q_t c52 h
                    exact B_bk_X6_least_84 x4 x5 v34 ls  h (lv_sub hl [1, 2, 3, 4, 5, 6, 0] rfl)
                  · have h := q_f c52 h
                    refine lv_goto (tgt := 169) hx hb dX6_least_81 (by decide) ?_
                    exact B_bk_X6_least_169 x4 x5 ls  h (lv_sub hl [1, 2, 3, 4, 5, 6] rfl)
  refine lv_iconst (v := -1) hx hb dX6_least_0 (by decide) ?_
  refine lv_istore (lv' := [(4, .int (-1 : Int32)), (0, .ref (ad 35)), (1, .int x1), (2, .int x2), (3, .int x3)]) hx hb dX6_least_1 hl (by decide) rfl (fun ls hl => ?_)
  refine lv_iconst (v := 0) hx hb dX6_least_3 (by decide) ?_
  refine lv_istore (lv' := [(5, .int (0 : Int32)), (4, .int (-1 : Int32)), (0, .ref (ad 35)), (1, .int x1), (2, .int x2), (3, .int x3)]) hx hb dX6_least_4 hl (by decide) rfl (fun ls hl => ?_)
  exact L_lq_X6_least_6 FU (-1 : Int32) (0 : Int32) ls  h (lv_sub hl [2, 3, 4, 5, 1, 0] rfl)
