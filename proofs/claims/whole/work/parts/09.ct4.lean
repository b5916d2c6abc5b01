def rm_X5_count : Room := { frames := 1, cells := 0, slots := 0, locals := 21 }
set_option maxHeartbeats 4000000 in
set_option maxRecDepth 100000 in
theorem ct_X5_count (l : Launch) {D : va_G} {ad : Nat → Nat} {kc : Nat → ClassId} {nm z : Nat} (hAD : AD ad nm z) {M : Mem} {x1 : Int32} {r : Int32}  (h : fn_X5_count M x1 = some r) : Met l yX5_count wsX5_count rm_X5_count (va_Pc [.ref (ad 0), .int x1] (GW D ad kc nm z M)) (QRi r) 0 0 (fun _ => False) := by
  refine q_met (cc := cX5_count) (maxL := 2) (ret := (some .int)) (by decide) rfl (Nat.le_of_ble_eq_true rfl) ?_
  intro p e s m args below meth c Q ls hx hb hr hlk hml hown hts hB hQ hl
  obtain ⟨hP, hK, hz, hN⟩ := hB
  have hown : s.vm.findClass RX5 = some m.cls := hown
  have hl : lv_has ls 2 [(0, .ref (ad 0)), (1, .int x1)] := hl
  have hi_X5 : ∀ w ∈ u_ws RX5 TX5 8, w ∈ wsX5_count := by decide +kernel
  have hi_X4 : ∀ w ∈ u_ws RX4 TX4 8, w ∈ wsX5_count := by decide +kernel
  have hi_X2 : ∀ w ∈ u_ws RX2 TX2 4, w ∈ wsX5_count := by decide +kernel
  refine lv_iload_n hx hb dX5_count_0 rfl (lv_at hl 1 rfl) ?_
  by_cases c1 : x1 = (0 : Int32)
  · have h := q_t c1 h
    refine lv_tableIn (off := 43) (tgt := 44) hx hb dX5_count_1 (by rw [c1]; decide) (by rw [c1]; decide) (by rw [c1]; rfl) (by decide) ?_
    refine lv_aload_n hx hb dX5_count_44 rfl (lv_at hl 0 rfl) ?_
    refine q_getI hx hb hts hi_X5 hown hK hP ob_0 rfl 6 (by decide) rfl (hts (.fieldLink RX5 55 "MirrorNet" "now" "I") (by decide +kernel)) (fun _ h9 => h9) dX5_count_45 ?_
    exact q_rRi hQ hx hb hr hlk h dX5_count_48
  have h := q_f c1 h
  by_cases c2 : x1 = (1 : Int32)
  · have h := q_t c2 h
    refine lv_tableIn (off := 48) (tgt := 49) hx hb dX5_count_1 (by rw [c2]; decide) (by rw [c2]; decide) (by rw [c2]; rfl) (by decide) ?_
    refine lv_aload_n hx hb dX5_count_49 rfl (lv_at hl 0 rfl) ?_
    refine q_getR hx hb hts hi_X5 hown hK hP ob_0 rfl 0 (by decide) rfl (hts (.fieldLink RX5 12 "MirrorNet" "shelf" "LMirrorNet$Shelf;") (by decide +kernel)) (fun _ h9 => h9) dX5_count_50 ?_
    refine q_getIN hx hb hts hi_X4 hown hK hP ob_1 rfl 5 (by decide) rfl (hN (.fieldLinkNest RX5 211 "MirrorNet$Shelf" "fileCount" "I" "MirrorNet") nw_1) (fun _ h9 => h9) dX5_count_53 ?_
    exact q_rRi hQ hx hb hr hlk h dX5_count_56
  have h := q_f c2 h
  by_cases c3 : x1 = (2 : Int32)
  · have h := q_t c3 h
    refine lv_tableIn (off := 56) (tgt := 57) hx hb dX5_count_1 (by rw [c3]; decide) (by rw [c3]; decide) (by rw [c3]; rfl) (by decide) ?_
    refine lv_aload_n hx hb dX5_count_57 rfl (lv_at hl 0 rfl) ?_
    refine q_getR hx hb hts hi_X5 hown hK hP ob_0 rfl 0 (by decide) rfl (hts (.fieldLink RX5 12 "MirrorNet" "shelf" "LMirrorNet$Shelf;") (by decide +kernel)) (fun _ h9 => h9) dX5_count_58 ?_
    refine q_getIN hx hb hts hi_X4 hown hK hP ob_1 rfl 6 (by decide) rfl (hN (.fieldLinkNest RX5 214 "MirrorNet$Shelf" "stateCount" "I" "MirrorNet") nw_2) (fun _ h9 => h9) dX5_count_61 ?_
    exact q_rRi hQ hx hb hr hlk h dX5_count_64
  have h := q_f c3 h
  by_cases c4 : x1 = (3 : Int32)
  · have h := q_t c4 h
    refine lv_tableIn (off := 64) (tgt := 65) hx hb dX5_count_1 (by rw [c4]; decide) (by rw [c4]; decide) (by rw [c4]; rfl) (by decide) ?_
    refine lv_aload_n hx hb dX5_count_65 rfl (lv_at hl 0 rfl) ?_
    refine q_getI hx hb hts hi_X5 hown hK hP ob_0 rfl 5 (by decide) rfl (hts (.fieldLink RX5 90 "MirrorNet" "mirrorCount" "I") (by decide +kernel)) (fun _ h9 => h9) dX5_count_66 ?_
    exact q_rRi hQ hx hb hr hlk h dX5_count_69
  have h := q_f c4 h
  by_cases c5 : x1 = (4 : Int32)
  · have h := q_t c5 h
    refine lv_tableIn (off := 69) (tgt := 70) hx hb dX5_count_1 (by rw [c5]; decide) (by rw [c5]; decide) (by rw [c5]; rfl) (by decide) ?_
    refine lv_aload_n hx hb dX5_count_70 rfl (lv_at hl 0 rfl) ?_
    refine q_getR hx hb hts hi_X5 hown hK hP ob_0 rfl 1 (by decide) rfl (hts (.fieldLink RX5 19 "MirrorNet" "falls" "LMirrorNet$Falls;") (by decide +kernel)) (fun _ h9 => h9) dX5_count_71 ?_
    refine q_getIN hx hb hts hi_X2 hown hK hP ob_7 rfl 3 (by decide) rfl (hN (.fieldLinkNest RX5 217 "MirrorNet$Falls" "told" "I" "MirrorNet") nw_5) (fun _ h9 => h9) dX5_count_74 ?_
    exact q_rRi hQ hx hb hr hlk h dX5_count_77
  have h := q_f c5 h
  by_cases c6 : x1 = (5 : Int32)
  · have h := q_t c6 h
    refine lv_tableIn (off := 77) (tgt := 78) hx hb dX5_count_1 (by rw [c6]; decide) (by rw [c6]; decide) (by rw [c6]; rfl) (by decide) ?_
    refine lv_aload_n hx hb dX5_count_78 rfl (lv_at hl 0 rfl) ?_
    refine q_getI hx hb hts hi_X5 hown hK hP ob_0 rfl 7 (by decide) rfl (hts (.fieldLink RX5 43 "MirrorNet" "graceTicks" "I") (by decide +kernel)) (fun _ h9 => h9) dX5_count_79 ?_
    exact q_rRi hQ hx hb hr hlk h dX5_count_82
  have h := q_f c6 h
  by_cases c7 : x1 = (6 : Int32)
  · have h := q_t c7 h
    refine lv_tableIn (off := 82) (tgt := 83) hx hb dX5_count_1 (by rw [c7]; decide) (by rw [c7]; decide) (by rw [c7]; rfl) (by decide) ?_
    refine lv_aload_n hx hb dX5_count_83 rfl (lv_at hl 0 rfl) ?_
    refine q_getR hx hb hts hi_X5 hown hK hP ob_0 rfl 0 (by decide) rfl (hts (.fieldLink RX5 12 "MirrorNet" "shelf" "LMirrorNet$Shelf;") (by decide +kernel)) (fun _ h9 => h9) dX5_count_84 ?_
    refine q_getJN hx hb hts hi_X4 hown hK hP ob_1 rfl 7 (by decide) rfl (hN (.fieldLinkNest RX5 220 "MirrorNet$Shelf" "yanked" "J" "MirrorNet") nw_3) (fun _ h9 => h9) dX5_count_87 ?_
    obtain ⟨r9, hc8, h⟩ := q_bd1 h
    refine q_cRi (va_runS (As := [.long (gJ M 1 7)]) (rest := []) ⟨hx, hb, hml, hown, hts⟩ (ct_J13_bitCount_95d88 l hAD (M := M) hc8) (va_cwS 1 hts gX5_count_J13_bitCount_95d88 rfl rfl rfl (by decide +kernel) ⟨Nat.le_of_ble_eq_true rfl, Nat.le_of_ble_eq_true rfl⟩) ⟨gw_blind, gw_pre _ hK hP hz hN⟩ rfl rfl hl.1 rfl (lv_room (Nat.le_of_ble_eq_true rfl)) dX5_count_90 ⟨Nat.zero_le _, Nat.zero_le _⟩) ?_
    exact q_rRi hQ hx hb hr hlk h dX5_count_93
  have h := q_f c7 h
  refine lv_tableOut (tgt := 94) hx hb dX5_count_1 (by have z0 := lv_neT c1 (a := 0) rfl; have z1 := lv_neT c2 (a := 1) rfl; have z2 := lv_neT c3 (a := 2) rfl; have z3 := lv_neT c4 (a := 3) rfl; have z4 := lv_neT c5 (a := 4) rfl; have z5 := lv_neT c6 (a := 5) rfl; have z6 := lv_neT c7 (a := 6) rfl; omega) (by decide) ?_
  refine lv_iconst (v := -1) hx hb dX5_count_94 (by decide) ?_
  exact q_rRi hQ hx hb hr hlk h dX5_count_95
def rm_X6_in : Room := { frames := 0, cells := 0, slots := 0, locals := 0 }
set_option maxHeartbeats 4000000 in
set_option maxRecDepth 100000 in
theorem ct_X6_in (l : Launch) {D : va_G} {ad : Nat → Nat} {kc : Nat → ClassId} {nm z : Nat} (hAD : AD ad nm z) {M : Mem} {x0 : Int32} {x1 : Int32} {x2 : Int32} {r : Int32}  (h : fn_X6_in x0 x1 x2 = some r) : Met l yX6_in wsX6_in rm_X6_in (va_Pc [.int x0, .int x1, .int x2] (GW D ad kc nm z M)) (QRz r) 0 0 (fun _ => False) := by
  refine q_met (cc := cX6_in) (maxL := 3) (ret := (some .boolean)) (by decide) rfl (Nat.le_of_ble_eq_true rfl) ?_
  intro p e s m args below meth c Q ls hx hb hr hlk hml hown hts hB hQ hl
  obtain ⟨hP, hK, hz, hN⟩ := hB
  have hown : s.vm.findClass RX6 = some m.cls := hown
  have hl : lv_has ls 3 [(0, .int x0), (1, .int x1), (2, .int x2)] := hl
  refine lv_iload_n hx hb dX6_in_0 rfl (lv_at hl 0 rfl) ?_
  refine lv_iload_n hx hb dX6_in_1 rfl (lv_at hl 1 rfl) ?_
  refine lv_icmp_lt (tgt := 14) hx hb dX6_in_2 (by decide) (fun c1 => ?_) (fun c1 => ?_)
  · have h := q_t c1 h
    refine lv_iconst (v := 0) hx hb dX6_in_14 (by decide) ?_
    exact q_rRz hQ hx hb hr hlk h (Or.inl rfl) dX6_in_15
  · have h := q_f c1 h
    refine lv_iload_n hx hb dX6_in_5 rfl (lv_at hl 0 rfl) ?_
    refine lv_iload_n hx hb dX6_in_6 rfl (lv_at hl 2 rfl) ?_
    refine lv_icmp_gt (tgt := 14) hx hb dX6_in_7 (by decide) (fun c2 => ?_) (fun c2 => ?_)
    · have h := q_t c2 h
      refine lv_iconst (v := 0) hx hb dX6_in_14 (by decide) ?_
      exact q_rRz hQ hx hb hr hlk h (Or.inl rfl) dX6_in_15
    · have h := q_f c2 h
      refine lv_iconst (v := 1) hx hb dX6_in_10 (by decide) ?_
      refine lv_goto (tgt := 15) hx hb dX6_in_11 (by decide) ?_
      exact q_rRz hQ hx hb hr hlk h (Or.inr rfl) dX6_in_15
def rm_X6_file : Room := { frames := 1, cells := 0, slots := 0, locals := 22 }
set_option maxHeartbeats 4000000 in
set_option maxRecDepth 100000 in
theorem ct_X6_file (l : Launch) {D : va_G} {ad : Nat → Nat} {kc : Nat → ClassId} {nm z : Nat} (hAD : AD ad nm z) {M : Mem} {x1 : Int32} {r : Int32} {Mr : Mem}  (h : fn_X6_file M x1 = some (r, Mr)) : Met l yX6_file wsX6_file rm_X6_file (va_Pc [.ref (ad 35), .int x1] (GW D ad kc nm z M)) (QWi D ad kc nm z r Mr) 0 0 (fun q => z ≤ q) := by
  refine q_met (cc := cX6_file) (maxL := 2) (ret := (some .int)) (by decide) rfl (Nat.le_of_ble_eq_true rfl) ?_
  intro p e s m args below meth c Q ls hx hb hr hlk hml hown hts hB hQ hl
  obtain ⟨hP, hK, hz, hN⟩ := hB
  have hown : s.vm.findClass RX6 = some m.cls := hown
  have hl : lv_has ls 2 [(0, .ref (ad 35)), (1, .int x1)] := hl
  have hi_X6 : ∀ w ∈ u_ws RX6 TX6 40, w ∈ wsX6_file := by decide +kernel
  have hS : va_S (fun q => z ≤ q) s.heap s.heap [] := va_S.rf
  obtain ⟨H, eH⟩ : ∃ H : Heap, H = s.heap := ⟨_, rfl⟩
  obtain ⟨locs, eL⟩ : ∃ L : List Loc, L = [] := ⟨_, rfl⟩
  have hP : va_P D vwCl (wl ad kc nm M) H := by rw [eH]; exact hP
  have hS : va_S (fun q => z ≤ q) s.heap H locs := by rw [eH, eL]; exact hS
  refine q_start eH eL ?_
  refine lv_aload_n hx hb dX6_file_0 rfl (lv_at hl 0 rfl) ?_
  refine q_getI hx hb hts hi_X6 hown hK hP ob_35 rfl 1 (by decide) rfl (hts (.fieldLink RX6 96 "MirrorNetModel" "files" "I") (by decide +kernel)) (fun _ h9 => h9) dX6_file_1 ?_
  refine lv_bipush (v := 60) hx hb dX6_file_4 (by decide) ?_
  refine lv_icmp_eq (tgt := 20) hx hb dX6_file_6 (by decide) (fun c1 => ?_) (fun c1 => ?_)
  · have h := q_t c1 h
    refine lv_iconst (v := -1) hx hb dX6_file_20 (by decide) ?_
    exact q_rWi hQ hx hb hr hlk hP hS h dX6_file_21
  · have h := q_f c1 h
    refine lv_iload_n hx hb dX6_file_9 rfl (lv_at hl 1 rfl) ?_
    refine lv_iconst (v := 1) hx hb dX6_file_10 (by decide) ?_
    refine lv_sipush (v := 500) hx hb dX6_file_11 (by decide) ?_
    obtain ⟨r3, hc2, h⟩ := q_bd1 h
    refine q_cRz (va_runS (As := [.int x1, .int (1 : Int32), .int (500 : Int32)]) (rest := []) ⟨hx, hb, hml, hown, hts⟩ (ct_X6_in l hAD (M := M) hc2) (va_cwS 3 hts gX6_file_X6_in rfl rfl rfl (by decide +kernel) ⟨Nat.le_of_ble_eq_true rfl, Nat.le_of_ble_eq_true rfl⟩) ⟨gw_blind, gw_pre _ hK hP (Nat.le_trans hz hS.1) hN⟩ rfl rfl hl.1 rfl (lv_room (Nat.le_of_ble_eq_true rfl)) dX6_file_14 ⟨Nat.zero_le _, Nat.zero_le _⟩) (fun hzr3 => ?_)
    refine lv_if_ne (tgt := 22) hx hb dX6_file_17 (by decide) (fun c7 => ?_) (fun c7 => ?_)
    · have h := q_f c7 h
      refine lv_aload_n hx hb dX6_file_22 rfl (lv_at hl 0 rfl) ?_
      refine q_getR hx hb hts hi_X6 hown hK hP ob_35 rfl 2 (by decide) rfl (hts (.fieldLink RX6 7 "MirrorNetModel" "size" "[I") (by decide +kernel)) (fun _ h9 => h9) dX6_file_23 ?_
      refine lv_aload_n hx hb dX6_file_26 rfl (lv_at hl 0 rfl) ?_
      refine q_getI hx hb hts hi_X6 hown hK hP ob_35 rfl 1 (by decide) rfl (hts (.fieldLink RX6 96 "MirrorNetModel" "files" "I") (by decide +kernel)) (fun _ h9 => h9) dX6_file_27 ?_
      refine lv_iload_n hx hb dX6_file_30 rfl (lv_at hl 1 rfl) ?_
      obtain ⟨hk8, h⟩ := q_ck h
      obtain ⟨M9, eM9, h⟩ := q_nx h
      refine q_iast hx hb hK hP hAD hS ar_36 hk8 dX6_file_31 (fun H locs hP hS => ?_)
      rw [← eM9] at hP
      refine lv_aload_n hx hb dX6_file_32 rfl (lv_at hl 0 rfl) ?_
      refine q_getR hx hb hts hi_X6 hown hK hP ob_35 rfl 3 (by decide) rfl (hts (.fieldLink RX6 13 "MirrorNetModel" "yankedAt" "[I") (by decide +kernel)) (fun _ h9 => h9) dX6_file_33 ?_
      refine lv_aload_n hx hb dX6_file_36 rfl (lv_at hl 0 rfl) ?_
      refine q_getI hx hb hts hi_X6 hown hK hP ob_35 rfl 1 (by decide) rfl (hts (.fieldLink RX6 96 "MirrorNetModel" "files" "I") (by decide +kernel)) (fun _ h9 => h9) dX6_file_37 ?_
      refine lv_iconst (v := -1) hx hb dX6_file_40 (by decide) ?_
      obtain ⟨hk10, h⟩ := q_ck h
      obtain ⟨M11, eM11, h⟩ := q_nx h
      refine q_iast hx hb hK hP hAD hS ar_37 hk10 dX6_file_41 (fun H locs hP hS => ?_)
      rw [← eM11] at hP
      refine lv_aload_n hx hb dX6_file_42 rfl (lv_at hl 0 rfl) ?_
      refine lv_dup hx hb dX6_file_43 rfl ?_
      refine q_getI hx hb hts hi_X6 hown hK hP ob_35 rfl 1 (by decide) rfl (hts (.fieldLink RX6 96 "MirrorNetModel" "files" "I") (by decide +kernel)) (fun _ h9 => h9) dX6_file_44 ?_
      refine lv_iconst (v := 1) hx hb dX6_file_47 (by decide) ?_
      refine lv_iadd hx hb dX6_file_48 ?_
      obtain ⟨M12, eM12, h⟩ := q_nx h
      refine q_putI hx hb hts hi_X6 tyX6 tyX6_ok nmX6 hown hK hP hAD hS ob_35 rfl 1 (by decide) rfl (hts (.fieldLink RX6 96 "MirrorNetModel" "files" "I") (by decide +kernel)) (fun _ h9 => h9) rfl (ty := .int) (by decide +kernel) rfl rfl dX6_file_49 (fun H locs hP hS => ?_)
      rw [← eM12] at hP
      refine lv_aload_n hx hb dX6_file_52 rfl (lv_at hl 0 rfl) ?_
      refine q_getI hx hb hts hi_X6 hown hK hP ob_35 rfl 1 (by decide) rfl (hts (.fieldLink RX6 96 "MirrorNetModel" "files" "I") (by decide +kernel)) (fun _ h9 => h9) dX6_file_53 ?_
      refine lv_iconst (v := 1) hx hb dX6_file_56 (by decide) ?_
      refine lv_isub hx hb dX6_file_57 ?_
      exact q_rWi hQ hx hb hr hlk hP hS h dX6_file_58
    · have h := q_t c7 h
      refine lv_iconst (v := -1) hx hb dX6_file_20 (by decide) ?_
      exact q_rWi hQ hx hb hr hlk hP hS h dX6_file_21
def rm_X6_isFile : Room := { frames := 1, cells := 0, slots := 0, locals := 22 }
set_option maxHeartbeats 4000000 in
set_option maxRecDepth 100000 in
theorem ct_X6_isFile (l : Launch) {D : va_G} {ad : Nat → Nat} {kc : Nat → ClassId} {nm z : Nat} (hAD : AD ad nm z) {M : Mem} {x1 : Int32} {r : Int32}  (h : fn_X6_isFile M x1 = some r) : Met l yX6_isFile wsX6_isFile rm_X6_isFile (va_Pc [.ref (ad 35), .int x1] (GW D ad kc nm z M)) (QRz r) 0 0 (fun _ => False) := by
  refine q_met (cc := cX6_isFile) (maxL := 2) (ret := (some .boolean)) (by decide) rfl (Nat.le_of_ble_eq_true rfl) ?_
  intro p e s m args below meth c Q ls hx hb hr hlk hml hown hts hB hQ hl
  obtain ⟨hP, hK, hz, hN⟩ := hB
  have hown : s.vm.findClass RX6 = some m.cls := hown
  have hl : lv_has ls 2 [(0, .ref (ad 35)), (1, .int x1)] := hl
  have hi_X6 : ∀ w ∈ u_ws RX6 TX6 40, w ∈ wsX6_isFile := by decide +kernel
  refine lv_iload_n hx hb dX6_isFile_0 rfl (lv_at hl 1 rfl) ?_
  refine lv_iconst (v := 0) hx hb dX6_isFile_1 (by decide) ?_
  refine lv_aload_n hx hb dX6_isFile_2 rfl (lv_at hl 0 rfl) ?_
  refine q_getI hx hb hts hi_X6 hown hK hP ob_35 rfl 1 (by decide) rfl (hts (.fieldLink RX6 96 "MirrorNetModel" "files" "I") (by decide +kernel)) (fun _ h9 => h9) dX6_isFile_3 ?_
  refine lv_iconst (v := 1) hx hb dX6_isFile_6 (by decide) ?_
  refine lv_isub hx hb dX6_isFile_7 ?_
  obtain ⟨r2, hc1, h⟩ := q_bd1 h
  refine q_cRz (va_runS (As := [.int x1, .int (0 : Int32), .int ((gI M 35 1) - (1 : Int32))]) (rest := []) ⟨hx, hb, hml, hown, hts⟩ (ct_X6_in l hAD (M := M) hc1) (va_cwS 3 hts gX6_isFile_X6_in rfl rfl rfl (by decide +kernel) ⟨Nat.le_of_ble_eq_true rfl, Nat.le_of_ble_eq_true rfl⟩) ⟨gw_blind, gw_pre _ hK hP hz hN⟩ rfl rfl hl.1 rfl (lv_room (Nat.le_of_ble_eq_true rfl)) dX6_isFile_8 ⟨Nat.zero_le _, Nat.zero_le _⟩) (fun hzr2 => ?_)
  exact q_rRz hQ hx hb hr hlk h hzr2 dX6_isFile_11
def rm_X6_comes : Room := { frames := 0, cells := 0, slots := 0, locals := 0 }
set_option maxHeartbeats 4000000 in
set_option maxRecDepth 100000 in
theorem ct_X6_comes (l : Launch) {D : va_G} {ad : Nat → Nat} {kc : Nat → ClassId} {nm z : Nat} (hAD : AD ad nm z) {M : Mem}  {Mr : Mem}  (h : fn_X6_comes M = some Mr) : Met l yX6_comes wsX6_comes rm_X6_comes (va_Pc [.ref (ad 35)] (GW D ad kc nm z M)) (QWv D ad kc nm z Mr) 0 0 (fun q => z ≤ q) := by
  refine q_met (cc := cX6_comes) (maxL := 2) (ret := none) (by decide) rfl (Nat.le_of_ble_eq_true rfl) ?_
  intro p e s m args below meth c Q ls hx hb hr hlk hml hown hts hB hQ hl
  obtain ⟨hP, hK, hz, hN⟩ := hB
  have hown : s.vm.findClass RX6 = some m.cls := hown
  have hl : lv_has ls 2 [(0, .ref (ad 35))] := hl
  have hi_X6 : ∀ w ∈ u_ws RX6 TX6 40, w ∈ wsX6_comes := by decide +kernel
  have hS : va_S (fun q => z ≤ q) s.heap s.heap [] := va_S.rf
  have L_lq_X6_comes_2 : ∀ (n2 : Nat) (M : Mem) (x1 : Int32) (H : Heap) (locs : List Loc) (ls : Array Slot), it2 (lq_X6_comes_2) n2 M x1 = some Mr → va_P D vwCl (wl ad kc nm M) H → va_S (fun q => z ≤ q) s.heap H locs → lv_has ls 2 [(0, .ref (ad 35)), (1, .int x1)] → W p l e rm_X6_comes s m args below meth c H locs 0 0 Q (F0 m 2 ls []) := by
    intro n2
    induction n2 with
    | zero =>
      intro M x1 H locs ls h hP hS hl
      exact (it2_0 h).elim
    | succ n2 ih2 =>
      intro M x1 H locs ls h hP hS hl
      have h := it2_s h
      refine lv_iload_n hx hb dX6_comes_2 rfl (lv_at hl 1 rfl) ?_
      refine lv_bipush (v := 12) hx hb dX6_comes_3 (by decide) ?_
      refine lv_icmp_ge (tgt := 44) hx hb dX6_comes_5 (by decide) (fun c1 => ?_) (fun c1 => ?_)
      · have h := q_t c1 h
        refine lv_aload_n hx hb dX6_comes_44 rfl (lv_at hl 0 rfl) ?_
        refine q_getR hx hb hts hi_X6 hown hK hP ob_35 rfl 5 (by decide) rfl (hts (.fieldLink RX6 20 "MirrorNetModel" "stateTick" "[I") (by decide +kernel)) (fun _ h9 => h9) dX6_comes_45 ?_
        refine lv_aload_n hx hb dX6_comes_48 rfl (lv_at hl 0 rfl) ?_
        refine q_getI hx hb hts hi_X6 hown hK hP ob_35 rfl 4 (by decide) rfl (hts (.fieldLink RX6 16 "MirrorNetModel" "states" "I") (by decide +kernel)) (fun _ h9 => h9) dX6_comes_49 ?_
        refine lv_aload_n hx hb dX6_comes_52 rfl (lv_at hl 0 rfl) ?_
        refine q_getI hx hb hts hi_X6 hown hK hP ob_35 rfl 0 (by decide) rfl (hts (.fieldLink RX6 103 "MirrorNetModel" "now" "I") (by decide +kernel)) (fun _ h9 => h9) dX6_comes_53 ?_
        obtain ⟨hk2, h⟩ := q_ck h
        obtain ⟨M3, eM3, h⟩ := q_nx h
        refine q_iast hx hb hK hP hAD hS ar_38 hk2 dX6_comes_56 (fun H locs hP hS => ?_)
        rw [← eM3] at hP
        refine lv_aload_n hx hb dX6_comes_57 rfl (lv_at hl 0 rfl) ?_
        refine lv_dup hx hb dX6_comes_58 rfl ?_
        refine q_getI hx hb hts hi_X6 hown hK hP ob_35 rfl 4 (by decide) rfl (hts (.fieldLink RX6 16 "MirrorNetModel" "states" "I") (by decide +kernel)) (fun _ h9 => h9) dX6_comes_59 ?_
        refine lv_iconst (v := 1) hx hb dX6_comes_62 (by decide) ?_
        refine lv_iadd hx hb dX6_comes_63 ?_
        obtain ⟨M4, eM4, h⟩ := q_nx h
        refine q_putI hx hb hts hi_X6 tyX6 tyX6_ok nmX6 hown hK hP hAD hS ob_35 rfl 4 (by decide) rfl (hts (.fieldLink RX6 16 "MirrorNetModel" "states" "I") (by decide +kernel)) (fun _ h9 => h9) rfl (ty := .int) (by decide +kernel) rfl rfl dX6_comes_64 (fun H locs hP hS => ?_)
        rw [← eM4] at hP
        exact q_rWv hQ hx hb hr hlk hP hS h dX6_comes_67
      · have h := q_f c1 h
        refine lv_aload_n hx hb dX6_comes_8 rfl (lv_at hl 0 rfl) ?_
        refine q_getR hx hb hts hi_X6 hown hK hP ob_35 rfl 6 (by decide) rfl (hts (.fieldLink RX6 23 "MirrorNetModel" "named" "[I") (by decide +kernel)) (fun _ h9 => h9) dX6_comes_9 ?_
        refine lv_bipush (v := 12) hx hb dX6_comes_12 (by decide) ?_
        refine lv_aload_n hx hb dX6_comes_14 rfl (lv_at hl 0 rfl) ?_
        refine q_getI hx hb hts hi_X6 hown hK hP ob_35 rfl 4 (by decide) rfl (hts (.fieldLink RX6 16 "MirrorNetModel" "states" "I") (by decide +kernel)) (fun _ h9 => h9) dX6_comes_15 ?_
        refine lv_imul hx hb dX6_comes_18 ?_
        refine lv_iload_n hx hb dX6_comes_19 rfl (lv_at hl 1 rfl) ?_
        refine lv_iadd hx hb dX6_comes_20 ?_
        refine lv_aload_n hx hb dX6_comes_21 rfl (lv_at hl 0 rfl) ?_
        refine q_getR hx hb hts hi_X6 hown hK hP ob_35 rfl 6 (by decide) rfl (hts (.fieldLink RX6 23 "MirrorNetModel" "named" "[I") (by decide +kernel)) (fun _ h9 => h9) dX6_comes_22 ?_
        refine lv_bipush (v := 12) hx hb dX6_comes_25 (by decide) ?_
        refine lv_aload_n hx hb dX6_comes_27 rfl (lv_at hl 0 rfl) ?_
        refine q_getI hx hb hts hi_X6 hown hK hP ob_35 rfl 4 (by decide) rfl (hts (.fieldLink RX6 16 "MirrorNetModel" "states" "I") (by decide +kernel)) (fun _ h9 => h9) dX6_comes_28 ?_
        refine lv_iconst (v := 1) hx hb dX6_comes_31 (by decide) ?_
        refine lv_isub hx hb dX6_comes_32 ?_
        refine lv_imul hx hb dX6_comes_33 ?_
        refine lv_iload_n hx hb dX6_comes_34 rfl (lv_at hl 1 rfl) ?_
        refine lv_iadd hx hb dX6_comes_35 ?_
        obtain ⟨hk5, h⟩ := q_ck h
        refine q_iald hx hb hK hP ar_39 hk5 dX6_comes_36 ?_
        obtain ⟨hk6, h⟩ := q_ck h
        obtain ⟨M7, eM7, h⟩ := q_nx h
        refine q_iast hx hb hK hP hAD hS ar_39 hk6 dX6_comes_37 (fun H locs hP hS => ?_)
        rw [← eM7] at hP
        obtain ⟨v8, ev8, h⟩ := q_nx h
        refine lv_iinc (v := v8) (lv' := [(1, .int v8), (0, .ref (ad 35))]) hx hb dX6_comes_38 hl (k := 1) rfl (by rw [ev8]; rfl) (by decide) rfl (fun ls hl => ?_)
        refine lv_goto (tgt := 2) hx hb dX6_comes_41 (by decide) ?_
        exact ih2 M7 v8 H locs ls  h hP hS (lv_sub hl [1, 0] rfl)
  obtain ⟨H, eH⟩ : ∃ H : Heap, H = s.heap := ⟨_, rfl⟩
  obtain ⟨locs, eL⟩ : ∃ L : List Loc, L = [] := ⟨_, rfl⟩
  have hP : va_P D vwCl (wl ad kc nm M) H := by rw [eH]; exact hP
  have hS : va_S (fun q => z ≤ q) s.heap H locs := by rw [eH, eL]; exact hS
  refine q_start eH eL ?_
  refine lv_iconst (v := 0) hx hb dX6_comes_0 (by decide) ?_
  refine lv_istore_n (lv' := [(1, .int (0 : Int32)), (0, .ref (ad 35))]) hx hb dX6_comes_1 rfl hl (by decide) rfl (fun ls hl => ?_)
  exact L_lq_X6_comes_2 FU M (0 : Int32) H locs ls  h hP hS (lv_sub hl [1, 0] rfl)
def rm_X6_put : Room := { frames := 2, cells := 0, slots := 0, locals := 43 }
set_option maxHeartbeats 4000000 in
set_option maxRecDepth 100000 in
theorem ct_X6_put (l : Launch) {D : va_G} {ad : Nat → Nat} {kc : Nat → ClassId} {nm z : Nat} (hAD : AD ad nm z) {M : Mem} {x1 : Int32} {x2 : Int32} {r : Int32} {Mr : Mem}  (h : fn_X6_put M x1 x2 = some (r, Mr)) : Met l yX6_put wsX6_put rm_X6_put (va_Pc [.ref (ad 35), .int x1, .int x2] (GW D ad kc nm z M)) (QWi D ad kc nm z r Mr) 0 0 (fun q => z ≤ q) := by
  refine q_met (cc := cX6_put) (maxL := 3) (ret := (some .int)) (by decide) rfl (Nat.le_of_ble_eq_true rfl) ?_
  intro p e s m args below meth c Q ls hx hb hr hlk hml hown hts hB hQ hl
  obtain ⟨hP, hK, hz, hN⟩ := hB
  have hown : s.vm.findClass RX6 = some m.cls := hown
  have hl : lv_has ls 3 [(0, .ref (ad 35)), (1, .int x1), (2, .int x2)] := hl
  have hi_X6 : ∀ w ∈ u_ws RX6 TX6 40, w ∈ wsX6_put := by decide +kernel
  have hS : va_S (fun q => z ≤ q) s.heap s.heap [] := va_S.rf
  obtain ⟨H, eH⟩ : ∃ H : Heap, H = s.heap := ⟨_, rfl⟩
  obtain ⟨locs, eL⟩ : ∃ L : List Loc, L = [] := ⟨_, rfl⟩
  have hP : va_P D vwCl (wl ad kc nm M) H := by rw [eH]; exact hP
  have hS : va_S (fun q => z ≤ q) s.heap H locs := by rw [eH, eL]; exact hS
  refine q_start eH eL ?_
  refine lv_aload_n hx hb dX6_put_0 rfl (lv_at hl 0 rfl) ?_
  refine q_getI hx hb hts hi_X6 hown hK hP ob_35 rfl 4 (by decide) rfl (hts (.fieldLink RX6 16 "MirrorNetModel" "states" "I") (by decide +kernel)) (fun _ h9 => h9) dX6_put_1 ?_
  refine lv_bipush (v := 60) hx hb dX6_put_4 (by decide) ?_
  refine lv_icmp_eq (tgt := 57) hx hb dX6_put_6 (by decide) (fun c1 => ?_) (fun c1 => ?_)
  · have h := q_t c1 h
    refine lv_iconst (v := -1) hx hb dX6_put_57 (by decide) ?_
    exact q_rWi hQ hx hb hr hlk hP hS h dX6_put_58
  · have h := q_f c1 h
    refine lv_iload_n hx hb dX6_put_9 rfl (lv_at hl 1 rfl) ?_
    refine lv_iconst (v := 0) hx hb dX6_put_10 (by decide) ?_
    refine lv_bipush (v := 11) hx hb dX6_put_11 (by decide) ?_
    obtain ⟨r3, hc2, h⟩ := q_bd1 h
    refine q_cRz (va_runS (As := [.int x1, .int (0 : Int32), .int (11 : Int32)]) (rest := []) ⟨hx, hb, hml, hown, hts⟩ (ct_X6_in l hAD (M := M) hc2) (va_cwS 3 hts gX6_put_X6_in rfl rfl rfl (by decide +kernel) ⟨Nat.le_of_ble_eq_true rfl, Nat.le_of_ble_eq_true rfl⟩) ⟨gw_blind, gw_pre _ hK hP (Nat.le_trans hz hS.1) hN⟩ rfl rfl hl.1 rfl (lv_room (Nat.le_of_ble_eq_true rfl)) dX6_put_13 ⟨Nat.zero_le _, Nat.zero_le _⟩) (fun hzr3 => ?_)
    refine lv_if_eq (tgt := 57) hx hb dX6_put_16 (by decide) (fun c7 => ?_) (fun c7 => ?_)
    · have h := q_t c7 h
      refine lv_iconst (v := -1) hx hb dX6_put_57 (by decide) ?_
      exact q_rWi hQ hx hb hr hlk hP hS h dX6_put_58
    · have h := q_f c7 h
      refine lv_aload_n hx hb dX6_put_19 rfl (lv_at hl 0 rfl) ?_
      refine lv_iload_n hx hb dX6_put_20 rfl (lv_at hl 2 rfl) ?_
      obtain ⟨r9, hc8, h⟩ := q_bd1 h
      refine q_cRz (va_runV (C := RX6) (As := [.int x2]) (rest := []) ⟨hx, hb, hml, hown, hts⟩ (ct_X6_isFile l hAD (M := M) hc8) (cwV 1 hts gX6_put_X6_isFile rfl rfl rfl (by decide +kernel) ⟨Nat.le_of_ble_eq_true rfl, Nat.le_of_ble_eq_true rfl⟩) ⟨gw_blind, gw_recv ob_35 hK hP rfl, gw_pre _ hK hP (Nat.le_trans hz hS.1) hN⟩ rfl rfl hl.1 rfl (lv_room (Nat.le_of_ble_eq_true rfl)) dX6_put_21 ⟨Nat.zero_le _, Nat.zero_le _⟩) (fun hzr9 => ?_)
      refine lv_if_eq (tgt := 57) hx hb dX6_put_24 (by decide) (fun c13 => ?_) (fun c13 => ?_)
      · have h := q_t c13 h
        refine lv_iconst (v := -1) hx hb dX6_put_57 (by decide) ?_
        exact q_rWi hQ hx hb hr hlk hP hS h dX6_put_58
      · have h := q_f c13 h
        refine lv_aload_n hx hb dX6_put_27 rfl (lv_at hl 0 rfl) ?_
        refine q_getR hx hb hts hi_X6 hown hK hP ob_35 rfl 3 (by decide) rfl (hts (.fieldLink RX6 13 "MirrorNetModel" "yankedAt" "[I") (by decide +kernel)) (fun _ h9 => h9) dX6_put_28 ?_
        refine lv_iload_n hx hb dX6_put_31 rfl (lv_at hl 2 rfl) ?_
        obtain ⟨hk14, h⟩ := q_ck h
        refine q_iald hx hb hK hP ar_37 hk14 dX6_put_32 ?_
        refine lv_iconst (v := -1) hx hb dX6_put_33 (by decide) ?_
        refine lv_icmp_ne (tgt := 57) hx hb dX6_put_34 (by decide) (fun c15 => ?_) (fun c15 => ?_)
        · have h := q_f c15 h
          refine lv_iconst (v := -1) hx hb dX6_put_57 (by decide) ?_
          exact q_rWi hQ hx hb hr hlk hP hS h dX6_put_58
        · have h := q_t c15 h
          refine lv_aload_n hx hb dX6_put_37 rfl (lv_at hl 0 rfl) ?_
          refine q_getR hx hb hts hi_X6 hown hK hP ob_35 rfl 6 (by decide) rfl (hts (.fieldLink RX6 23 "MirrorNetModel" "named" "[I") (by decide +kernel)) (fun _ h9 => h9) dX6_put_38 ?_
          refine lv_bipush (v := 12) hx hb dX6_put_41 (by decide) ?_
          refine lv_aload_n hx hb dX6_put_43 rfl (lv_at hl 0 rfl) ?_
          refine q_getI hx hb hts hi_X6 hown hK hP ob_35 rfl 4 (by decide) rfl (hts (.fieldLink RX6 16 "MirrorNetModel" "states" "I") (by decide +kernel)) (fun _ h9 => h9) dX6_put_44 ?_
          refine lv_iconst (v := 1) hx hb dX6_put_47 (by decide) ?_
          refine lv_isub hx hb dX6_put_48 ?_
          refine lv_imul hx hb dX6_put_49 ?_
          refine lv_iload_n hx hb dX6_put_50 rfl (lv_at hl 1 rfl) ?_
          refine lv_iadd hx hb dX6_put_51 ?_
          obtain ⟨hk16, h⟩ := q_ck h
          refine q_iald hx hb hK hP ar_39 hk16 dX6_put_52 ?_
          refine lv_iload_n hx hb dX6_put_53 rfl (lv_at hl 2 rfl) ?_
          refine lv_icmp_ne (tgt := 59) hx hb dX6_put_54 (by decide) (fun c17 => ?_) (fun c17 => ?_)
          · have h := q_f c17 h
            refine lv_aload_n hx hb dX6_put_59 rfl (lv_at hl 0 rfl) ?_
            obtain ⟨M20, hc18, h⟩ := q_bd1 h
            refine q_cWv (va_runV (C := RX6) (As := []) (rest := []) ⟨hx, hb, hml, hown, hts⟩ (ct_X6_comes l hAD (M := M) hc18) (cwV 0 hts gX6_put_X6_comes rfl rfl rfl (by decide +kernel) ⟨Nat.le_of_ble_eq_true rfl, Nat.le_of_ble_eq_true rfl⟩) ⟨gw_blind, gw_recv ob_35 hK hP rfl, gw_pre _ hK hP (Nat.le_trans hz hS.1) hN⟩ rfl rfl hl.1 rfl (lv_room (Nat.le_of_ble_eq_true rfl)) dX6_put_60 ⟨Nat.zero_le _, Nat.zero_le _⟩) hS (fun H locs hP hS => ?_)
            refine lv_aload_n hx hb dX6_put_63 rfl (lv_at hl 0 rfl) ?_
            refine q_getR hx hb hts hi_X6 hown hK hP ob_35 rfl 6 (by decide) rfl (hts (.fieldLink RX6 23 "MirrorNetModel" "named" "[I") (by decide +kernel)) (fun _ h9 => h9) dX6_put_64 ?_
            refine lv_bipush (v := 12) hx hb dX6_put_67 (by decide) ?_
            refine lv_aload_n hx hb dX6_put_69 rfl (lv_at hl 0 rfl) ?_
            refine q_getI hx hb hts hi_X6 hown hK hP ob_35 rfl 4 (by decide) rfl (hts (.fieldLink RX6 16 "MirrorNetModel" "states" "I") (by decide +kernel)) (fun _ h9 => h9) dX6_put_70 ?_
            refine lv_iconst (v := 1) hx hb dX6_put_73 (by decide) ?_
            refine lv_isub hx hb dX6_put_74 ?_
            refine lv_imul hx hb dX6_put_75 ?_
            refine lv_iload_n hx hb dX6_put_76 rfl (lv_at hl 1 rfl) ?_
            refine lv_iadd hx hb dX6_put_77 ?_
            refine lv_iload_n hx hb dX6_put_78 rfl (lv_at hl 2 rfl) ?_
            obtain ⟨hk23, h⟩ := q_ck h
            obtain ⟨M24, eM24, h⟩ := q_nx h
            refine q_iast hx hb hK hP hAD hS ar_39 hk23 dX6_put_79 (fun H locs hP hS => ?_)
            rw [← eM24] at hP
            refine lv_aload_n hx hb dX6_put_80 rfl (lv_at hl 0 rfl) ?_
            refine q_getI hx hb hts hi_X6 hown hK hP ob_35 rfl 4 (by decide) rfl (hts (.fieldLink RX6 16 "MirrorNetModel" "states" "I") (by decide +kernel)) (fun _ h9 => h9) dX6_put_81 ?_
            refine lv_iconst (v := 1) hx hb dX6_put_84 (by decide) ?_
            refine lv_isub hx hb dX6_put_85 ?_
            exact q_rWi hQ hx hb hr hlk hP hS h dX6_put_86
          · have h := q_t c17 h
            refine lv_iconst (v := -1) hx hb dX6_put_57 (by decide) ?_
            exact q_rWi hQ hx hb hr hlk hP hS h dX6_put_58
def rm_X6_yank : Room := { frames := 2, cells := 0, slots := 0, locals := 43 }
set_option maxHeartbeats 4000000 in
set_option maxRecDepth 100000 in
theorem ct_X6_yank (l : Launch) {D : va_G} {ad : Nat → Nat} {kc : Nat → ClassId} {nm z : Nat} (hAD : AD ad nm z) {M : Mem} {x1 : Int32} {r : Int32} {Mr : Mem}  (h : fn_X6_yank M x1 = some (r, Mr)) : Met l yX6_yank wsX6_yank rm_X6_yank (va_Pc [.ref (ad 35), .int x1] (GW D ad kc nm z M)) (QWi D ad kc nm z r Mr) 0 0 (fun q => z ≤ q) := by
  refine q_met (cc := cX6_yank) (maxL := 3) (ret := (some .int)) (by decide) rfl (Nat.le_of_ble_eq_true rfl) ?_
  intro p e s m args below meth c Q ls hx hb hr hlk hml hown hts hB hQ hl
  obtain ⟨hP, hK, hz, hN⟩ := hB
  have hown : s.vm.findClass RX6 = some m.cls := hown
  have hl : lv_has ls 3 [(0, .ref (ad 35)), (1, .int x1)] := hl
  have hi_X6 : ∀ w ∈ u_ws RX6 TX6 40, w ∈ wsX6_yank := by decide +kernel
  have hS : va_S (fun q => z ≤ q) s.heap s.heap [] := va_S.rf
  have L_lq_X6_yank_45 : ∀ (n45 : Nat) (M : Mem) (x2 : Int32) (H : Heap) (locs : List Loc) (ls : Array Slot), it2 (lq_X6_yank_45 x1) n45 M x2 = some (r, Mr) → va_P D vwCl (wl ad kc nm M) H → va_S (fun q => z ≤ q) s.heap H locs → lv_has ls 3 [(0, .ref (ad 35)), (1, .int x1), (2, .int x2)] → W p l e rm_X6_yank s m args below meth c H locs 0 0 Q (F0 m 45 ls []) := by
    intro n45
    induction n45 with
    | zero =>
      intro M x2 H locs ls h hP hS hl
      exact (it2_0 h).elim
    | succ n45 ih45 =>
      have B_bk_X6_yank_88 : ∀ (M : Mem) (x2 : Int32) (H : Heap) (locs : List Loc) (ls : Array Slot), bk_X6_yank_88 (it2 (lq_X6_yank_45 x1) n45) M x1 x2 = some (r, Mr) → va_P D vwCl (wl ad kc nm M) H → va_S (fun q => z ≤ q) s.heap H locs → lv_has ls 3 [(0, .ref (ad 35)), (1, .int x1), (2, .int x2)] → W p l e rm_X6_yank s m args below meth c H locs 0 0 Q (F0 m 88 ls []) := by
        intro M x2 H locs ls h hP hS hl
        obtain ⟨v1, ev1, h⟩ := q_nx h
        refine lv_iinc (v := v1) (lv' := [(2, .int v1), (0, .ref (ad 35)), (1, .int x1)]) hx hb dX6_yank_88 hl (k := 2) rfl (by rw [ev1]; rfl) (by decide) rfl (fun ls hl => ?_)
        refine lv_goto (tgt := 45) hx hb dX6_yank_91 (by decide) ?_
        exact ih45 M v1 H locs ls  h hP hS (lv_sub hl [1, 2, 0] rfl)
      intro M x2 H locs ls h hP hS hl
      have h := it2_s h
      refine lv_iload_n hx hb dX6_yank_45 rfl (lv_at hl 2 rfl) ?_
      refine lv_bipush (v := 12) hx hb dX6_yank_46 (by decide) ?_
      refine lv_icmp_ge (tgt := 94) hx hb dX6_yank_48 (by decide) (fun c2 => ?_) (fun c2 => ?_)
      · have h := q_t c2 h
        refine lv_aload_n hx hb dX6_yank_94 rfl (lv_at hl 0 rfl) ?_
        refine q_getI hx hb hts hi_X6 hown hK hP ob_35 rfl 4 (by decide) rfl (hts (.fieldLink RX6 16 "MirrorNetModel" "states" "I") (by decide +kernel)) (fun _ h9 => h9) dX6_yank_95 ?_
        refine lv_iconst (v := 1) hx hb dX6_yank_98 (by decide) ?_
        refine lv_isub hx hb dX6_yank_99 ?_
        exact q_rWi hQ hx hb hr hlk hP hS h dX6_yank_100
      · have h := q_f c2 h
        refine lv_aload_n hx hb dX6_yank_51 rfl (lv_at hl 0 rfl) ?_
        refine q_getR hx hb hts hi_X6 hown hK hP ob_35 rfl 6 (by decide) rfl (hts (.fieldLink RX6 23 "MirrorNetModel" "named" "[I") (by decide +kernel)) (fun _ h9 => h9) dX6_yank_52 ?_
        refine lv_bipush (v := 12) hx hb dX6_yank_55 (by decide) ?_
        refine lv_aload_n hx hb dX6_yank_57 rfl (lv_at hl 0 rfl) ?_
        refine q_getI hx hb hts hi_X6 hown hK hP ob_35 rfl 4 (by decide) rfl (hts (.fieldLink RX6 16 "MirrorNetModel" "states" "I") (by decide +kernel)) (fun _ h9 => h9) dX6_yank_58 ?_
        refine lv_iconst (v := 1) hx hb dX6_yank_61 (by decide) ?_
        refine lv_isub hx hb dX6_yank_62 ?_
        refine lv_imul hx hb dX6_yank_63 ?_
        refine lv_iload_n hx hb dX6_yank_64 rfl (lv_at hl 2 rfl) ?_
        refine lv_iadd hx hb dX6_yank_65 ?_
        obtain ⟨hk3, h⟩ := q_ck h
        refine q_iald hx hb hK hP ar_39 hk3 dX6_yank_66 ?_
        refine lv_iload_n hx hb dX6_yank_67 rfl (lv_at hl 1 rfl) ?_
        refine lv_icmp_ne (tgt := 88) hx hb dX6_yank_68 (by decide) (fun c4 => ?_) (fun c4 => ?_)
        · have h := q_f c4 h
          exact B_bk_X6_yank_88 M x2 H locs ls  h hP hS (lv_sub hl [0, 1, 2] rfl)
        · have h := q_t c4 h
          refine lv_aload_n hx hb dX6_yank_71 rfl (lv_at hl 0 rfl) ?_
          refine q_getR hx hb hts hi_X6 hown hK hP ob_35 rfl 6 (by decide) rfl (hts (.fieldLink RX6 23 "MirrorNetModel" "named" "[I") (by decide +kernel)) (fun _ h9 => h9) dX6_yank_72 ?_
          refine lv_bipush (v := 12) hx hb dX6_yank_75 (by decide) ?_
          refine lv_aload_n hx hb dX6_yank_77 rfl (lv_at hl 0 rfl) ?_
          refine q_getI hx hb hts hi_X6 hown hK hP ob_35 rfl 4 (by decide) rfl (hts (.fieldLink RX6 16 "MirrorNetModel" "states" "I") (by decide +kernel)) (fun _ h9 => h9) dX6_yank_78 ?_
          refine lv_iconst (v := 1) hx hb dX6_yank_81 (by decide) ?_
          refine lv_isub hx hb dX6_yank_82 ?_
          refine lv_imul hx hb dX6_yank_83 ?_
          refine lv_iload_n hx hb dX6_yank_84 rfl (lv_at hl 2 rfl) ?_
          refine lv_iadd hx hb dX6_yank_85 ?_
          refine lv_iconst (v := -1) hx hb dX6_yank_86 (by decide) ?_
          obtain ⟨hk5, h⟩ := q_ck h
          obtain ⟨M6, eM6, h⟩ := q_nx h
          refine q_iast hx hb hK hP hAD hS ar_39 hk5 dX6_yank_87 (fun H locs hP hS => ?_)
          rw [← eM6] at hP
          exact B_bk_X6_yank_88 M6 x2 H locs ls  h hP hS (lv_sub hl [0, 1, 2] rfl)
  obtain ⟨H, eH⟩ : ∃ H : Heap, H = s.heap := ⟨_, rfl⟩
  obtain ⟨locs, eL⟩ : ∃ L : List Loc, L = [] := ⟨_, rfl⟩
  have hP : va_P D vwCl (wl ad kc nm M) H := by rw [eH]; exact hP
  have hS : va_S (fun q => z ≤ q) s.heap H locs := by rw [eH, eL]; exact hS
  refine q_start eH eL ?_
  refine lv_aload_n hx hb dX6_yank_0 rfl (lv_at hl 0 rfl) ?_
  refine q_getI hx hb hts hi_X6 hown hK hP ob_35 rfl 4 (by decide) rfl (hts (.fieldLink RX6 16 "MirrorNetModel" "states" "I") (by decide +kernel)) (fun _ h9 => h9) dX6_yank_1 ?_
  refine lv_bipush (v := 60) hx hb dX6_yank_4 (by decide) ?_
  refine lv_icmp_eq (tgt := 27) hx hb dX6_yank_6 (by decide) (fun c7 => ?_) (fun c7 => ?_)
  · have h := q_t c7 h
    refine lv_iconst (v := -1) hx hb dX6_yank_27 (by decide) ?_
    exact q_rWi hQ hx hb hr hlk hP hS h dX6_yank_28
  · have h := q_f c7 h
    refine lv_aload_n hx hb dX6_yank_9 rfl (lv_at hl 0 rfl) ?_
    refine lv_iload_n hx hb dX6_yank_10 rfl (lv_at hl 1 rfl) ?_
    obtain ⟨r9, hc8, h⟩ := q_bd1 h
    refine q_cRz (va_runV (C := RX6) (As := [.int x1]) (rest := []) ⟨hx, hb, hml, hown, hts⟩ (ct_X6_isFile l hAD (M := M) hc8) (cwV 1 hts gX6_yank_X6_isFile rfl rfl rfl (by decide +kernel) ⟨Nat.le_of_ble_eq_true rfl, Nat.le_of_ble_eq_true rfl⟩) ⟨gw_blind, gw_recv ob_35 hK hP rfl, gw_pre _ hK hP (Nat.le_trans hz hS.1) hN⟩ rfl rfl hl.1 rfl (lv_room (Nat.le_of_ble_eq_true rfl)) dX6_yank_11 ⟨Nat.zero_le _, Nat.zero_le _⟩) (fun hzr9 => ?_)
    refine lv_if_eq (tgt := 27) hx hb dX6_yank_14 (by decide) (fun c13 => ?_) (fun c13 => ?_)
    · have h := q_t c13 h
      refine lv_iconst (v := -1) hx hb dX6_yank_27 (by decide) ?_
      exact q_rWi hQ hx hb hr hlk hP hS h dX6_yank_28
    · have h := q_f c13 h
      refine lv_aload_n hx hb dX6_yank_17 rfl (lv_at hl 0 rfl) ?_
      refine q_getR hx hb hts hi_X6 hown hK hP ob_35 rfl 3 (by decide) rfl (hts (.fieldLink RX6 13 "MirrorNetModel" "yankedAt" "[I") (by decide +kernel)) (fun _ h9 => h9) dX6_yank_18 ?_
      refine lv_iload_n hx hb dX6_yank_21 rfl (lv_at hl 1 rfl) ?_
      obtain ⟨hk14, h⟩ := q_ck h
      refine q_iald hx hb hK hP ar_37 hk14 dX6_yank_22 ?_
      refine lv_iconst (v := -1) hx hb dX6_yank_23 (by decide) ?_
      refine lv_icmp_eq (tgt := 29) hx hb dX6_yank_24 (by decide) (fun c15 => ?_) (fun c15 => ?_)
      · have h := q_t c15 h
        refine lv_aload_n hx hb dX6_yank_29 rfl (lv_at hl 0 rfl) ?_
        obtain ⟨M18, hc16, h⟩ := q_bd1 h
        refine q_cWv (va_runV (C := RX6) (As := []) (rest := []) ⟨hx, hb, hml, hown, hts⟩ (ct_X6_comes l hAD (M := M) hc16) (cwV 0 hts gX6_yank_X6_comes rfl rfl rfl (by decide +kernel) ⟨Nat.le_of_ble_eq_true rfl, Nat.le_of_ble_eq_true rfl⟩) ⟨gw_blind, gw_recv ob_35 hK hP rfl, gw_pre _ hK hP (Nat.le_trans hz hS.1) hN⟩ rfl rfl hl.1 rfl (lv_room (Nat.le_of_ble_eq_true rfl)) dX6_yank_30 ⟨Nat.zero_le _, Nat.zero_le _⟩) hS (fun H locs hP hS => ?_)
        refine lv_aload_n hx hb dX6_yank_33 rfl (lv_at hl 0 rfl) ?_
        refine q_getR hx hb hts hi_X6 hown hK hP ob_35 rfl 3 (by decide) rfl (hts (.fieldLink RX6 13 "MirrorNetModel" "yankedAt" "[I") (by decide +kernel)) (fun _ h9 => h9) dX6_yank_34 ?_
        refine lv_iload_n hx hb dX6_yank_37 rfl (lv_at hl 1 rfl) ?_
        refine lv_aload_n hx hb dX6_yank_38 rfl (lv_at hl 0 rfl) ?_
        refine q_getI hx hb hts hi_X6 hown hK hP ob_35 rfl 0 (by decide) rfl (hts (.fieldLink RX6 103 "MirrorNetModel" "now" "I") (by decide +kernel)) (fun _ h9 => h9) dX6_yank_39 ?_
        obtain ⟨hk21, h⟩ := q_ck h
        obtain ⟨M22, eM22, h⟩ := q_nx h
        refine q_iast hx hb hK hP hAD hS ar_37 hk21 dX6_yank_42 (fun H locs hP hS => ?_)
        rw [← eM22] at hP
        refine lv_iconst (v := 0) hx hb dX6_yank_43 (by decide) ?_
        refine lv_istore_n (lv' := [(2, .int (0 : Int32)), (0, .ref (ad 35)), (1, .int x1)]) hx hb dX6_yank_44 rfl hl (by decide) rfl (fun ls hl => ?_)
        exact L_lq_X6_yank_45 FU M22 (0 : Int32) H locs ls  h hP hS (lv_sub hl [1, 2, 0] rfl)
      · have h := q_f c15 h
        refine lv_iconst (v := -1) hx hb dX6_yank_27 (by decide) ?_
        exact q_rWi hQ hx hb hr hlk hP hS h dX6_yank_28
def rm_X6_mirror : Room := { frames := 1, cells := 0, slots := 0, locals := 22 }
set_option maxHeartbeats 4000000 in
set_option maxRecDepth 100000 in
theorem ct_X6_mirror (l : Launch) {D : va_G} {ad : Nat → Nat} {kc : Nat → ClassId} {nm z : Nat} (hAD : AD ad nm z) {M : Mem} {x1 : Int32} {x2 : Int32} {x3 : Int32} {r : Int32} {Mr : Mem}  (h : fn_X6_mirror M x1 x2 x3 = some (r, Mr)) : Met l yX6_mirror wsX6_mirror rm_X6_mirror (va_Pc [.ref (ad 35), .int x1, .int x2, .int x3] (GW D ad kc nm z M)) (QWi D ad kc nm z r Mr) 0 0 (fun q => z ≤ q) := by
  refine q_met (cc := cX6_mirror) (maxL := 4) (ret := (some .int)) (by decide) rfl (Nat.le_of_ble_eq_true rfl) ?_
  intro p e s m args below meth c Q ls hx hb hr hlk hml hown hts hB hQ hl
  obtain ⟨hP, hK, hz, hN⟩ := hB
  have hown : s.vm.findClass RX6 = some m.cls := hown
  have hl : lv_has ls 4 [(0, .ref (ad 35)), (1, .int x1), (2, .int x2), (3, .int x3)] := hl
  have hi_X6 : ∀ w ∈ u_ws RX6 TX6 40, w ∈ wsX6_mirror := by decide +kernel
  have hS : va_S (fun q => z ≤ q) s.heap s.heap [] := va_S.rf
  obtain ⟨H, eH⟩ : ∃ H : Heap, H = s.heap := ⟨_, rfl⟩
  obtain ⟨locs, eL⟩ : ∃ L : List Loc, L = [] := ⟨_, rfl⟩
  have hP : va_P D vwCl (wl ad kc nm M) H := by rw [eH]; exact hP
  have hS : va_S (fun q => z ≤ q) s.heap H locs := by rw [eH, eL]; exact hS
  refine q_start eH eL ?_
  refine lv_aload_n hx hb dX6_mirror_0 rfl (lv_at hl 0 rfl) ?_
  refine q_getI hx hb hts hi_X6 hown hK hP ob_35 rfl 7 (by decide) rfl (hts (.fieldLink RX6 113 "MirrorNetModel" "mirrors" "I") (by decide +kernel)) (fun _ h9 => h9) dX6_mirror_1 ?_
  refine lv_bipush (v := 8) hx hb dX6_mirror_4 (by decide) ?_
  refine lv_icmp_eq (tgt := 43) hx hb dX6_mirror_6 (by decide) (fun c1 => ?_) (fun c1 => ?_)
  · have h := q_t c1 h
    refine lv_iconst (v := -1) hx hb dX6_mirror_43 (by decide) ?_
    exact q_rWi hQ hx hb hr hlk hP hS h dX6_mirror_44
  · have h := q_f c1 h
    refine lv_iload_n hx hb dX6_mirror_9 rfl (lv_at hl 1 rfl) ?_
    refine lv_iconst (v := -1) hx hb dX6_mirror_10 (by decide) ?_
    refine lv_aload_n hx hb dX6_mirror_11 rfl (lv_at hl 0 rfl) ?_
    refine q_getI hx hb hts hi_X6 hown hK hP ob_35 rfl 7 (by decide) rfl (hts (.fieldLink RX6 113 "MirrorNetModel" "mirrors" "I") (by decide +kernel)) (fun _ h9 => h9) dX6_mirror_12 ?_
    refine lv_iconst (v := 1) hx hb dX6_mirror_15 (by decide) ?_
    refine lv_isub hx hb dX6_mirror_16 ?_
    obtain ⟨r3, hc2, h⟩ := q_bd1 h
    refine q_cRz (va_runS (As := [.int x1, .int (-1 : Int32), .int ((gI M 35 7) - (1 : Int32))]) (rest := []) ⟨hx, hb, hml, hown, hts⟩ (ct_X6_in l hAD (M := M) hc2) (va_cwS 3 hts gX6_mirror_X6_in rfl rfl rfl (by decide +kernel) ⟨Nat.le_of_ble_eq_true rfl, Nat.le_of_ble_eq_true rfl⟩) ⟨gw_blind, gw_pre _ hK hP (Nat.le_trans hz hS.1) hN⟩ rfl rfl hl.1 rfl (lv_room (Nat.le_of_ble_eq_true rfl)) dX6_mirror_17 ⟨Nat.zero_le _, Nat.zero_le _⟩) (fun hzr3 => ?_)
    refine lv_if_eq (tgt := 43) hx hb dX6_mirror_20 (by decide) (fun c7 => ?_) (fun c7 => ?_)
    · have h := q_t c7 h
      refine lv_iconst (v := -1) hx hb dX6_mirror_43 (by decide) ?_
      exact q_rWi hQ hx hb hr hlk hP hS h dX6_mirror_44
    · have h := q_f c7 h
      refine lv_iload_n hx hb dX6_mirror_23 rfl (lv_at hl 2 rfl) ?_
      refine lv_iconst (v := 1) hx hb dX6_mirror_24 (by decide) ?_
      refine lv_sipush (v := 1000) hx hb dX6_mirror_25 (by decide) ?_
      obtain ⟨r9, hc8, h⟩ := q_bd1 h
      refine q_cRz (va_runS (As := [.int x2, .int (1 : Int32), .int (1000 : Int32)]) (rest := []) ⟨hx, hb, hml, hown, hts⟩ (ct_X6_in l hAD (M := M) hc8) (va_cwS 3 hts gX6_mirror_X6_in rfl rfl rfl (by decide +kernel) ⟨Nat.le_of_ble_eq_true rfl, Nat.le_of_ble_eq_true rfl⟩) ⟨gw_blind, gw_pre _ hK hP (Nat.le_trans hz hS.1) hN⟩ rfl rfl hl.1 rfl (lv_room (Nat.le_of_ble_eq_true rfl)) dX6_mirror_28 ⟨Nat.zero_le _, Nat.zero_le _⟩) (fun hzr9 => ?_)
      refine lv_if_eq (tgt := 43) hx hb dX6_mirror_31 (by decide) (fun c13 => ?_) (fun c13 => ?_)
      · have h := q_t c13 h
        refine lv_iconst (v := -1) hx hb dX6_mirror_43 (by decide) ?_
        exact q_rWi hQ hx hb hr hlk hP hS h dX6_mirror_44
      · have h := q_f c13 h
        refine lv_iload_n hx hb dX6_mirror_34 rfl (lv_at hl 3 rfl) ?_
        refine lv_iconst (v := 0) hx hb dX6_mirror_35 (by decide) ?_
        refine lv_iconst (v := 3) hx hb dX6_mirror_36 (by decide) ?_
        obtain ⟨r15, hc14, h⟩ := q_bd1 h
        refine q_cRz (va_runS (As := [.int x3, .int (0 : Int32), .int (3 : Int32)]) (rest := []) ⟨hx, hb, hml, hown, hts⟩ (ct_X6_in l hAD (M := M) hc14) (va_cwS 3 hts gX6_mirror_X6_in rfl rfl rfl (by decide +kernel) ⟨Nat.le_of_ble_eq_true rfl, Nat.le_of_ble_eq_true rfl⟩) ⟨gw_blind, gw_pre _ hK hP (Nat.le_trans hz hS.1) hN⟩ rfl rfl hl.1 rfl (lv_room (Nat.le_of_ble_eq_true rfl)) dX6_mirror_37 ⟨Nat.zero_le _, Nat.zero_le _⟩) (fun hzr15 => ?_)
        refine lv_if_ne (tgt := 45) hx hb dX6_mirror_40 (by decide) (fun c19 => ?_) (fun c19 => ?_)
        · have h := q_f c19 h
          refine lv_aload_n hx hb dX6_mirror_45 rfl (lv_at hl 0 rfl) ?_
          refine q_getR hx hb hts hi_X6 hown hK hP ob_35 rfl 8 (by decide) rfl (hts (.fieldLink RX6 26 "MirrorNetModel" "from" "[I") (by decide +kernel)) (fun _ h9 => h9) dX6_mirror_46 ?_
          refine lv_aload_n hx hb dX6_mirror_49 rfl (lv_at hl 0 rfl) ?_
          refine q_getI hx hb hts hi_X6 hown hK hP ob_35 rfl 7 (by decide) rfl (hts (.fieldLink RX6 113 "MirrorNetModel" "mirrors" "I") (by decide +kernel)) (fun _ h9 => h9) dX6_mirror_50 ?_
          refine lv_iload_n hx hb dX6_mirror_53 rfl (lv_at hl 1 rfl) ?_
          obtain ⟨hk20, h⟩ := q_ck h
          obtain ⟨M21, eM21, h⟩ := q_nx h
          refine q_iast hx hb hK hP hAD hS ar_40 hk20 dX6_mirror_54 (fun H locs hP hS => ?_)
          rw [← eM21] at hP
          refine lv_aload_n hx hb dX6_mirror_55 rfl (lv_at hl 0 rfl) ?_
          refine q_getR hx hb hts hi_X6 hown hK hP ob_35 rfl 9 (by decide) rfl (hts (.fieldLink RX6 29 "MirrorNetModel" "speed" "[I") (by decide +kernel)) (fun _ h9 => h9) dX6_mirror_56 ?_
          refine lv_aload_n hx hb dX6_mirror_59 rfl (lv_at hl 0 rfl) ?_
          refine q_getI hx hb hts hi_X6 hown hK hP ob_35 rfl 7 (by decide) rfl (hts (.fieldLink RX6 113 "MirrorNetModel" "mirrors" "I") (by decide +kernel)) (fun _ h9 => h9) dX6_mirror_60 ?_
          refine lv_iload_n hx hb dX6_mirror_63 rfl (lv_at hl 2 rfl) ?_
          obtain ⟨hk22, h⟩ := q_ck h
          obtain ⟨M23, eM23, h⟩ := q_nx h
          refine q_iast hx hb hK hP hAD hS ar_41 hk22 dX6_mirror_64 (fun H locs hP hS => ?_)
          rw [← eM23] at hP
          refine lv_aload_n hx hb dX6_mirror_65 rfl (lv_at hl 0 rfl) ?_
          refine q_getR hx hb hts hi_X6 hown hK hP ob_35 rfl 10 (by decide) rfl (hts (.fieldLink RX6 32 "MirrorNetModel" "keep" "[I") (by decide +kernel)) (fun _ h9 => h9) dX6_mirror_66 ?_
          refine lv_aload_n hx hb dX6_mirror_69 rfl (lv_at hl 0 rfl) ?_
          refine q_getI hx hb hts hi_X6 hown hK hP ob_35 rfl 7 (by decide) rfl (hts (.fieldLink RX6 113 "MirrorNetModel" "mirrors" "I") (by decide +kernel)) (fun _ h9 => h9) dX6_mirror_70 ?_
          refine lv_iload_n hx hb dX6_mirror_73 rfl (lv_at hl 3 rfl) ?_
          obtain ⟨hk24, h⟩ := q_ck h
          obtain ⟨M25, eM25, h⟩ := q_nx h
          refine q_iast hx hb hK hP hAD hS ar_42 hk24 dX6_mirror_74 (fun H locs hP hS => ?_)
          rw [← eM25] at hP
          refine lv_aload_n hx hb dX6_mirror_75 rfl (lv_at hl 0 rfl) ?_
          refine q_getR hx hb hts hi_X6 hown hK hP ob_35 rfl 12 (by decide) rfl (hts (.fieldLink RX6 38 "MirrorNetModel" "target" "[I") (by decide +kernel)) (fun _ h9 => h9) dX6_mirror_76 ?_
          refine lv_aload_n hx hb dX6_mirror_79 rfl (lv_at hl 0 rfl) ?_
          refine q_getI hx hb hts hi_X6 hown hK hP ob_35 rfl 7 (by decide) rfl (hts (.fieldLink RX6 113 "MirrorNetModel" "mirrors" "I") (by decide +kernel)) (fun _ h9 => h9) dX6_mirror_80 ?_
          refine lv_iconst (v := -1) hx hb dX6_mirror_83 (by decide) ?_
          obtain ⟨hk26, h⟩ := q_ck h
          obtain ⟨M27, eM27, h⟩ := q_nx h
          refine q_iast hx hb hK hP hAD hS ar_44 hk26 dX6_mirror_84 (fun H locs hP hS => ?_)
          rw [← eM27] at hP
          refine lv_aload_n hx hb dX6_mirror_85 rfl (lv_at hl 0 rfl) ?_
          refine lv_dup hx hb dX6_mirror_86 rfl ?_
          refine q_getI hx hb hts hi_X6 hown hK hP ob_35 rfl 7 (by decide) rfl (hts (.fieldLink RX6 113 "MirrorNetModel" "mirrors" "I") (by decide +kernel)) (fun _ h9 => h9) dX6_mirror_87 ?_
          refine lv_iconst (v := 1) hx hb dX6_mirror_90 (by decide) ?_
          refine lv_iadd hx hb dX6_mirror_91 ?_
          obtain ⟨M28, eM28, h⟩ := q_nx h
          refine q_putI hx hb hts hi_X6 tyX6 tyX6_ok nmX6 hown hK hP hAD hS ob_35 rfl 7 (by decide) rfl (hts (.fieldLink RX6 113 "MirrorNetModel" "mirrors" "I") (by decide +kernel)) (fun _ h9 => h9) rfl (ty := .int) (by decide +kernel) rfl rfl dX6_mirror_92 (fun H locs hP hS => ?_)
          rw [← eM28] at hP
          refine lv_aload_n hx hb dX6_mirror_95 rfl (lv_at hl 0 rfl) ?_
          refine q_getI hx hb hts hi_X6 hown hK hP ob_35 rfl 7 (by decide) rfl (hts (.fieldLink RX6 113 "MirrorNetModel" "mirrors" "I") (by decide +kernel)) (fun _ h9 => h9) dX6_mirror_96 ?_
          refine lv_iconst (v := 1) hx hb dX6_mirror_99 (by decide) ?_
          refine lv_isub hx hb dX6_mirror_100 ?_
          exact q_rWi hQ hx hb hr hlk hP hS h dX6_mirror_101
        · have h := q_t c19 h
          refine lv_iconst (v := -1) hx hb dX6_mirror_43 (by decide) ?_
          exact q_rWi hQ hx hb hr hlk hP hS h dX6_mirror_44
def rm_X6_isMirror : Room := { frames := 1, cells := 0, slots := 0, locals := 22 }
set_option maxHeartbeats 4000000 in
set_option maxRecDepth 100000 in
theorem ct_X6_isMirror (l : Launch) {D : va_G} {ad : Nat → Nat} {kc : Nat → ClassId} {nm z : Nat} (hAD : AD ad nm z) {M : Mem} {x1 : Int32} {r : Int32}  (h : fn_X6_isMirror M x1 = some r) : Met l yX6_isMirror wsX6_isMirror rm_X6_isMirror (va_Pc [.ref (ad 35), .int x1] (GW D ad kc nm z M)) (QRz r) 0 0 (fun _ => False) := by
  refine q_met (cc := cX6_isMirror) (maxL := 2) (ret := (some .boolean)) (by decide) rfl (Nat.le_of_ble_eq_true rfl) ?_
  intro p e s m args below meth c Q ls hx hb hr hlk hml hown hts hB hQ hl
  obtain ⟨hP, hK, hz, hN⟩ := hB
  have hown : s.vm.findClass RX6 = some m.cls := hown
  have hl : lv_has ls 2 [(0, .ref (ad 35)), (1, .int x1)] := hl
  have hi_X6 : ∀ w ∈ u_ws RX6 TX6 40, w ∈ wsX6_isMirror := by decide +kernel
  refine lv_iload_n hx hb dX6_isMirror_0 rfl (lv_at hl 1 rfl) ?_
  refine lv_iconst (v := 0) hx hb dX6_isMirror_1 (by decide) ?_
  refine lv_aload_n hx hb dX6_isMirror_2 rfl (lv_at hl 0 rfl) ?_
  refine q_getI hx hb hts hi_X6 hown hK hP ob_35 rfl 7 (by decide) rfl (hts (.fieldLink RX6 113 "MirrorNetModel" "mirrors" "I") (by decide +kernel)) (fun _ h9 => h9) dX6_isMirror_3 ?_
  refine lv_iconst (v := 1) hx hb dX6_isMirror_6 (by decide) ?_
  refine lv_isub hx hb dX6_isMirror_7 ?_
  obtain ⟨r2, hc1, h⟩ := q_bd1 h
  refine q_cRz (va_runS (As := [.int x1, .int (0 : Int32), .int ((gI M 35 7) - (1 : Int32))]) (rest := []) ⟨hx, hb, hml, hown, hts⟩ (ct_X6_in l hAD (M := M) hc1) (va_cwS 3 hts gX6_isMirror_X6_in rfl rfl rfl (by decide +kernel) ⟨Nat.le_of_ble_eq_true rfl, Nat.le_of_ble_eq_true rfl⟩) ⟨gw_blind, gw_pre _ hK hP hz hN⟩ rfl rfl hl.1 rfl (lv_room (Nat.le_of_ble_eq_true rfl)) dX6_isMirror_8 ⟨Nat.zero_le _, Nat.zero_le _⟩) (fun hzr2 => ?_)
  exact q_rRz hQ hx hb hr hlk h hzr2 dX6_isMirror_11
def rm_X6_speed : Room := { frames := 2, cells := 0, slots := 0, locals := 43 }
set_option maxHeartbeats 4000000 in
set_option maxRecDepth 100000 in
theorem ct_X6_speed (l : Launch) {D : va_G} {ad : Nat → Nat} {kc : Nat → ClassId} {nm z : Nat} (hAD : AD ad nm z) {M : Mem} {x1 : Int32} {x2 : Int32} {r : Int32} {Mr : Mem}  (h : fn_X6_speed M x1 x2 = some (r, Mr)) : Met l yX6_speed wsX6_speed rm_X6_speed (va_Pc [.ref (ad 35), .int x1, .int x2] (GW D ad kc nm z M)) (QWi D ad kc nm z r Mr) 0 0 (fun q => z ≤ q) := by
  refine q_met (cc := cX6_speed) (maxL := 4) (ret := (some .int)) (by decide) rfl (Nat.le_of_ble_eq_true rfl) ?_
  intro p e s m args below meth c Q ls hx hb hr hlk hml hown hts hB hQ hl
  obtain ⟨hP, hK, hz, hN⟩ := hB
  have hown : s.vm.findClass RX6 = some m.cls := hown
  have hl : lv_has ls 4 [(0, .ref (ad 35)), (1, .int x1), (2, .int x2)] := hl
  have hi_X6 : ∀ w ∈ u_ws RX6 TX6 40, w ∈ wsX6_speed := by decide +kernel
  have hS : va_S (fun q => z ≤ q) s.heap s.heap [] := va_S.rf
  obtain ⟨H, eH⟩ : ∃ H : Heap, H = s.heap := ⟨_, rfl⟩
  obtain ⟨locs, eL⟩ : ∃ L : List Loc, L = [] := ⟨_, rfl⟩
  have hP : va_P D vwCl (wl ad kc nm M) H := by rw [eH]; exact hP
  have hS : va_S (fun q => z ≤ q) s.heap H locs := by rw [eH, eL]; exact hS
  refine q_start eH eL ?_
  refine lv_aload_n hx hb dX6_speed_0 rfl (lv_at hl 0 rfl) ?_
  refine lv_iload_n hx hb dX6_speed_1 rfl (lv_at hl 1 rfl) ?_
  obtain ⟨r2, hc1, h⟩ := q_bd1 h
  refine q_cRz (va_runV (C := RX6) (As := [.int x1]) (rest := []) ⟨hx, hb, hml, hown, hts⟩ (ct_X6_isMirror l hAD (M := M) hc1) (cwV 1 hts gX6_speed_X6_isMirror rfl rfl rfl (by decide +kernel) ⟨Nat.le_of_ble_eq_true rfl, Nat.le_of_ble_eq_true rfl⟩) ⟨gw_blind, gw_recv ob_35 hK hP rfl, gw_pre _ hK hP (Nat.le_trans hz hS.1) hN⟩ rfl rfl hl.1 rfl (lv_room (Nat.le_of_ble_eq_true rfl)) dX6_speed_2 ⟨Nat.zero_le _, Nat.zero_le _⟩) (fun hzr2 => ?_)
  refine lv_if_eq (tgt := 19) hx hb dX6_speed_5 (by decide) (fun c6 => ?_) (fun c6 => ?_)
  · have h := q_t c6 h
    refine lv_iconst (v := -1) hx hb dX6_speed_19 (by decide) ?_
    exact q_rWi hQ hx hb hr hlk hP hS h dX6_speed_20
  · have h := q_f c6 h
    refine lv_iload_n hx hb dX6_speed_8 rfl (lv_at hl 2 rfl) ?_
    refine lv_iconst (v := 1) hx hb dX6_speed_9 (by decide) ?_
    refine lv_sipush (v := 1000) hx hb dX6_speed_10 (by decide) ?_
    obtain ⟨r8, hc7, h⟩ := q_bd1 h
    refine q_cRz (va_runS (As := [.int x2, .int (1 : Int32), .int (1000 : Int32)]) (rest := []) ⟨hx, hb, hml, hown, hts⟩ (ct_X6_in l hAD (M := M) hc7) (va_cwS 3 hts gX6_speed_X6_in rfl rfl rfl (by decide +kernel) ⟨Nat.le_of_ble_eq_true rfl, Nat.le_of_ble_eq_true rfl⟩) ⟨gw_blind, gw_pre _ hK hP (Nat.le_trans hz hS.1) hN⟩ rfl rfl hl.1 rfl (lv_room (Nat.le_of_ble_eq_true rfl)) dX6_speed_13 ⟨Nat.zero_le _, Nat.zero_le _⟩) (fun hzr8 => ?_)
    refine lv_if_ne (tgt := 21) hx hb dX6_speed_16 (by decide) (fun c12 => ?_) (fun c12 => ?_)
    · have h := q_f c12 h
      refine lv_aload_n hx hb dX6_speed_21 rfl (lv_at hl 0 rfl) ?_
      refine q_getR hx hb hts hi_X6 hown hK hP ob_35 rfl 9 (by decide) rfl (hts (.fieldLink RX6 29 "MirrorNetModel" "speed" "[I") (by decide +kernel)) (fun _ h9 => h9) dX6_speed_22 ?_
      refine lv_iload_n hx hb dX6_speed_25 rfl (lv_at hl 1 rfl) ?_
      obtain ⟨hk13, h⟩ := q_ck h
      refine q_iald hx hb hK hP ar_41 hk13 dX6_speed_26 ?_
      refine lv_topi (fun v14 ev14 => ?_)
      have h := q_nxe ev14 h
      refine lv_istore_n (lv' := [(3, .int v14), (0, .ref (ad 35)), (1, .int x1), (2, .int x2)]) hx hb dX6_speed_27 rfl hl (by decide) rfl (fun ls hl => ?_)
      refine lv_aload_n hx hb dX6_speed_28 rfl (lv_at hl 1 rfl) ?_
      refine q_getR hx hb hts hi_X6 hown hK hP ob_35 rfl 9 (by decide) rfl (hts (.fieldLink RX6 29 "MirrorNetModel" "speed" "[I") (by decide +kernel)) (fun _ h9 => h9) dX6_speed_29 ?_
      refine lv_iload_n hx hb dX6_speed_32 rfl (lv_at hl 2 rfl) ?_
      refine lv_iload_n hx hb dX6_speed_33 rfl (lv_at hl 3 rfl) ?_
      obtain ⟨hk15, h⟩ := q_ck h
      obtain ⟨M16, eM16, h⟩ := q_nx h
      refine q_iast hx hb hK hP hAD hS ar_41 hk15 dX6_speed_34 (fun H locs hP hS => ?_)
      rw [← eM16] at hP
      refine lv_iload_n hx hb dX6_speed_35 rfl (lv_at hl 0 rfl) ?_
      exact q_rWi hQ hx hb hr hlk hP hS h dX6_speed_36
    · have h := q_t c12 h
      refine lv_iconst (v := -1) hx hb dX6_speed_19 (by decide) ?_
      exact q_rWi hQ hx hb hr hlk hP hS h dX6_speed_20
def rm_X6_fall : Room := { frames := 2, cells := 0, slots := 0, locals := 43 }
set_option maxHeartbeats 4000000 in
set_option maxRecDepth 100000 in
theorem ct_X6_fall (l : Launch) {D : va_G} {ad : Nat → Nat} {kc : Nat → ClassId} {nm z : Nat} (hAD : AD ad nm z) {M : Mem} {x1 : Int32} {x2 : Int32} {x3 : Int32} {r : Int32} {Mr : Mem}  (h : fn_X6_fall M x1 x2 x3 = some (r, Mr)) : Met l yX6_fall wsX6_fall rm_X6_fall (va_Pc [.ref (ad 35), .int x1, .int x2, .int x3] (GW D ad kc nm z M)) (QWi D ad kc nm z r Mr) 0 0 (fun q => z ≤ q) := by
  refine q_met (cc := cX6_fall) (maxL := 4) (ret := (some .int)) (by decide) rfl (Nat.le_of_ble_eq_true rfl) ?_
  intro p e s m args below meth c Q ls hx hb hr hlk hml hown hts hB hQ hl
  obtain ⟨hP, hK, hz, hN⟩ := hB
  have hown : s.vm.findClass RX6 = some m.cls := hown
  have hl : lv_has ls 4 [(0, .ref (ad 35)), (1, .int x1), (2, .int x2), (3, .int x3)] := hl
  have hi_X6 : ∀ w ∈ u_ws RX6 TX6 40, w ∈ wsX6_fall := by decide +kernel
  have hS : va_S (fun q => z ≤ q) s.heap s.heap [] := va_S.rf
  obtain ⟨H, eH⟩ : ∃ H : Heap, H = s.heap := ⟨_, rfl⟩
  obtain ⟨locs, eL⟩ : ∃ L : List Loc, L = [] := ⟨_, rfl⟩
  have hP : va_P D vwCl (wl ad kc nm M) H := by rw [eH]; exact hP
  have hS : va_S (fun q => z ≤ q) s.heap H locs := by rw [eH, eL]; exact hS
  refine q_start eH eL ?_
  refine lv_aload_n hx hb dX6_fall_0 rfl (lv_at hl 0 rfl) ?_
  refine q_getI hx hb hts hi_X6 hown hK hP ob_35 rfl 19 (by decide) rfl (hts (.fieldLink RX6 119 "MirrorNetModel" "falls" "I") (by decide +kernel)) (fun _ h9 => h9) dX6_fall_1 ?_
  refine lv_bipush (v := 40) hx hb dX6_fall_4 (by decide) ?_
  refine lv_icmp_eq (tgt := 40) hx hb dX6_fall_6 (by decide) (fun c1 => ?_) (fun c1 => ?_)
  · have h := q_t c1 h
    refine lv_iconst (v := -1) hx hb dX6_fall_40 (by decide) ?_
    exact q_rWi hQ hx hb hr hlk hP hS h dX6_fall_41
  · have h := q_f c1 h
    refine lv_aload_n hx hb dX6_fall_9 rfl (lv_at hl 0 rfl) ?_
    refine lv_iload_n hx hb dX6_fall_10 rfl (lv_at hl 1 rfl) ?_
    obtain ⟨r3, hc2, h⟩ := q_bd1 h
    refine q_cRz (va_runV (C := RX6) (As := [.int x1]) (rest := []) ⟨hx, hb, hml, hown, hts⟩ (ct_X6_isMirror l hAD (M := M) hc2) (cwV 1 hts gX6_fall_X6_isMirror rfl rfl rfl (by decide +kernel) ⟨Nat.le_of_ble_eq_true rfl, Nat.le_of_ble_eq_true rfl⟩) ⟨gw_blind, gw_recv ob_35 hK hP rfl, gw_pre _ hK hP (Nat.le_trans hz hS.1) hN⟩ rfl rfl hl.1 rfl (lv_room (Nat.le_of_ble_eq_true rfl)) dX6_fall_11 ⟨Nat.zero_le _, Nat.zero_le _⟩) (fun hzr3 => ?_)
    refine lv_if_eq (tgt := 40) hx hb dX6_fall_14 (by decide) (fun c7 => ?_) (fun c7 => ?_)
    · have h := q_t c7 h
      refine lv_iconst (v := -1) hx hb dX6_fall_40 (by decide) ?_
      exact q_rWi hQ hx hb hr hlk hP hS h dX6_fall_41
    · have h := q_f c7 h
      refine lv_iload_n hx hb dX6_fall_17 rfl (lv_at hl 2 rfl) ?_
      refine lv_aload_n hx hb dX6_fall_18 rfl (lv_at hl 0 rfl) ?_
      refine q_getI hx hb hts hi_X6 hown hK hP ob_35 rfl 0 (by decide) rfl (hts (.fieldLink RX6 103 "MirrorNetModel" "now" "I") (by decide +kernel)) (fun _ h9 => h9) dX6_fall_19 ?_
      refine lv_iload_n hx hb dX6_fall_22 rfl (lv_at hl 3 rfl) ?_
      obtain ⟨r9, hc8, h⟩ := q_bd1 h
      refine q_cRz (va_runS (As := [.int x2, .int (gI M 35 0), .int x3]) (rest := []) ⟨hx, hb, hml, hown, hts⟩ (ct_X6_in l hAD (M := M) hc8) (va_cwS 3 hts gX6_fall_X6_in rfl rfl rfl (by decide +kernel) ⟨Nat.le_of_ble_eq_true rfl, Nat.le_of_ble_eq_true rfl⟩) ⟨gw_blind, gw_pre _ hK hP (Nat.le_trans hz hS.1) hN⟩ rfl rfl hl.1 rfl (lv_room (Nat.le_of_ble_eq_true rfl)) dX6_fall_23 ⟨Nat.zero_le _, Nat.zero_le _⟩) (fun hzr9 => ?_)
      refine lv_if_eq (tgt := 40) hx hb dX6_fall_26 (by decide) (fun c13 => ?_) (fun c13 => ?_)
      · have h := q_t c13 h
        refine lv_iconst (v := -1) hx hb dX6_fall_40 (by decide) ?_
        exact q_rWi hQ hx hb hr hlk hP hS h dX6_fall_41
      · have h := q_f c13 h
        refine lv_iload_n hx hb dX6_fall_29 rfl (lv_at hl 3 rfl) ?_
        refine lv_iconst (v := 0) hx hb dX6_fall_30 (by decide) ?_
        refine lv_sipush (v := 9999) hx hb dX6_fall_31 (by decide) ?_
        obtain ⟨r15, hc14, h⟩ := q_bd1 h
        refine q_cRz (va_runS (As := [.int x3, .int (0 : Int32), .int (9999 : Int32)]) (rest := []) ⟨hx, hb, hml, hown, hts⟩ (ct_X6_in l hAD (M := M) hc14) (va_cwS 3 hts gX6_fall_X6_in rfl rfl rfl (by decide +kernel) ⟨Nat.le_of_ble_eq_true rfl, Nat.le_of_ble_eq_true rfl⟩) ⟨gw_blind, gw_pre _ hK hP (Nat.le_trans hz hS.1) hN⟩ rfl rfl hl.1 rfl (lv_room (Nat.le_of_ble_eq_true rfl)) dX6_fall_34 ⟨Nat.zero_le _, Nat.zero_le _⟩) (fun hzr15 => ?_)
        refine lv_if_ne (tgt := 42) hx hb dX6_fall_37 (by decide) (fun c19 => ?_) (fun c19 => ?_)
        · have h := q_f c19 h
          refine lv_aload_n hx hb dX6_fall_42 rfl (lv_at hl 0 rfl) ?_
          refine q_getR hx hb hts hi_X6 hown hK hP ob_35 rfl 20 (by decide) rfl (hts (.fieldLink RX6 60 "MirrorNetModel" "fallOf" "[I") (by decide +kernel)) (fun _ h9 => h9) dX6_fall_43 ?_
          refine lv_aload_n hx hb dX6_fall_46 rfl (lv_at hl 0 rfl) ?_
          refine q_getI hx hb hts hi_X6 hown hK hP ob_35 rfl 19 (by decide) rfl (hts (.fieldLink RX6 119 "MirrorNetModel" "falls" "I") (by decide +kernel)) (fun _ h9 => h9) dX6_fall_47 ?_
          refine lv_iload_n hx hb dX6_fall_50 rfl (lv_at hl 1 rfl) ?_
          obtain ⟨hk20, h⟩ := q_ck h
          obtain ⟨M21, eM21, h⟩ := q_nx h
          refine q_iast hx hb hK hP hAD hS ar_51 hk20 dX6_fall_51 (fun H locs hP hS => ?_)
          rw [← eM21] at hP
          refine lv_aload_n hx hb dX6_fall_52 rfl (lv_at hl 0 rfl) ?_
          refine q_getR hx hb hts hi_X6 hown hK hP ob_35 rfl 21 (by decide) rfl (hts (.fieldLink RX6 63 "MirrorNetModel" "fallFrom" "[I") (by decide +kernel)) (fun _ h9 => h9) dX6_fall_53 ?_
          refine lv_aload_n hx hb dX6_fall_56 rfl (lv_at hl 0 rfl) ?_
          refine q_getI hx hb hts hi_X6 hown hK hP ob_35 rfl 19 (by decide) rfl (hts (.fieldLink RX6 119 "MirrorNetModel" "falls" "I") (by decide +kernel)) (fun _ h9 => h9) dX6_fall_57 ?_
          refine lv_iload_n hx hb dX6_fall_60 rfl (lv_at hl 2 rfl) ?_
          obtain ⟨hk22, h⟩ := q_ck h
          obtain ⟨M23, eM23, h⟩ := q_nx h
          refine q_iast hx hb hK hP hAD hS ar_52 hk22 dX6_fall_61 (fun H locs hP hS => ?_)
          rw [← eM23] at hP
          refine lv_aload_n hx hb dX6_fall_62 rfl (lv_at hl 0 rfl) ?_
          refine q_getR hx hb hts hi_X6 hown hK hP ob_35 rfl 22 (by decide) rfl (hts (.fieldLink RX6 66 "MirrorNetModel" "fallTo" "[I") (by decide +kernel)) (fun _ h9 => h9) dX6_fall_63 ?_
          refine lv_aload_n hx hb dX6_fall_66 rfl (lv_at hl 0 rfl) ?_
          refine q_getI hx hb hts hi_X6 hown hK hP ob_35 rfl 19 (by decide) rfl (hts (.fieldLink RX6 119 "MirrorNetModel" "falls" "I") (by decide +kernel)) (fun _ h9 => h9) dX6_fall_67 ?_
          refine lv_iload_n hx hb dX6_fall_70 rfl (lv_at hl 3 rfl) ?_
          obtain ⟨hk24, h⟩ := q_ck h
          obtain ⟨M25, eM25, h⟩ := q_nx h
          refine q_iast hx hb hK hP hAD hS ar_53 hk24 dX6_fall_71 (fun H locs hP hS => ?_)
          rw [← eM25] at hP
          refine lv_aload_n hx hb dX6_fall_72 rfl (lv_at hl 0 rfl) ?_
          refine lv_dup hx hb dX6_fall_73 rfl ?_
          refine q_getI hx hb hts hi_X6 hown hK hP ob_35 rfl 19 (by decide) rfl (hts (.fieldLink RX6 119 "MirrorNetModel" "falls" "I") (by decide +kernel)) (fun _ h9 => h9) dX6_fall_74 ?_
          refine lv_iconst (v := 1) hx hb dX6_fall_77 (by decide) ?_
          refine lv_iadd hx hb dX6_fall_78 ?_
          obtain ⟨M26, eM26, h⟩ := q_nx h
          refine q_putI hx hb hts hi_X6 tyX6 tyX6_ok nmX6 hown hK hP hAD hS ob_35 rfl 19 (by decide) rfl (hts (.fieldLink RX6 119 "MirrorNetModel" "falls" "I") (by decide +kernel)) (fun _ h9 => h9) rfl (ty := .int) (by decide +kernel) rfl rfl dX6_fall_79 (fun H locs hP hS => ?_)
          rw [← eM26] at hP
          refine lv_aload_n hx hb dX6_fall_82 rfl (lv_at hl 0 rfl) ?_
          refine q_getI hx hb hts hi_X6 hown hK hP ob_35 rfl 19 (by decide) rfl (hts (.fieldLink RX6 119 "MirrorNetModel" "falls" "I") (by decide +kernel)) (fun _ h9 => h9) dX6_fall_83 ?_
          exact q_rWi hQ hx hb hr hlk hP hS h dX6_fall_86
        · have h := q_t c19 h
          refine lv_iconst (v := -1) hx hb dX6_fall_40 (by decide) ?_
          exact q_rWi hQ hx hb hr hlk hP hS h dX6_fall_41
def rm_X6_lies : Room := { frames := 2, cells := 0, slots := 0, locals := 43 }
set_option maxHeartbeats 4000000 in
set_option maxRecDepth 100000 in
theorem ct_X6_lies (l : Launch) {D : va_G} {ad : Nat → Nat} {kc : Nat → ClassId} {nm z : Nat} (hAD : AD ad nm z) {M : Mem} {x1 : Int32} {x2 : Int32} {r : Int32} {Mr : Mem} (hz2 : x2 = 0 ∨ x2 = 1) (h : fn_X6_lies M x1 x2 = some (r, Mr)) : Met l yX6_lies wsX6_lies rm_X6_lies (va_Pc [.ref (ad 35), .int x1, .int x2] (GW D ad kc nm z M)) (QWz D ad kc nm z r Mr) 0 0 (fun q => z ≤ q) := by
  refine q_met (cc := cX6_lies) (maxL := 3) (ret := (some .boolean)) (by decide) rfl (Nat.le_of_ble_eq_true rfl) ?_
  intro p e s m args below meth c Q ls hx hb hr hlk hml hown hts hB hQ hl
  obtain ⟨hP, hK, hz, hN⟩ := hB
  have hown : s.vm.findClass RX6 = some m.cls := hown
  have hl : lv_has ls 3 [(0, .ref (ad 35)), (1, .int x1), (2, .int x2)] := hl
  have hi_X6 : ∀ w ∈ u_ws RX6 TX6 40, w ∈ wsX6_lies := by decide +kernel
  have hS : va_S (fun q => z ≤ q) s.heap s.heap [] := va_S.rf
  obtain ⟨H, eH⟩ : ∃ H : Heap, H = s.heap := ⟨_, rfl⟩
  obtain ⟨locs, eL⟩ : ∃ L : List Loc, L = [] := ⟨_, rfl⟩
  have hP : va_P D vwCl (wl ad kc nm M) H := by rw [eH]; exact hP
  have hS : va_S (fun q => z ≤ q) s.heap H locs := by rw [eH, eL]; exact hS
  refine q_start eH eL ?_
  refine lv_aload_n hx hb dX6_lies_0 rfl (lv_at hl 0 rfl) ?_
  refine lv_iload_n hx hb dX6_lies_1 rfl (lv_at hl 1 rfl) ?_
  obtain ⟨r2, hc1, h⟩ := q_bd1 h
  refine q_cRz (va_runV (C := RX6) (As := [.int x1]) (rest := []) ⟨hx, hb, hml, hown, hts⟩ (ct_X6_isMirror l hAD (M := M) hc1) (cwV 1 hts gX6_lies_X6_isMirror rfl rfl rfl (by decide +kernel) ⟨Nat.le_of_ble_eq_true rfl, Nat.le_of_ble_eq_true rfl⟩) ⟨gw_blind, gw_recv ob_35 hK hP rfl, gw_pre _ hK hP (Nat.le_trans hz hS.1) hN⟩ rfl rfl hl.1 rfl (lv_room (Nat.le_of_ble_eq_true rfl)) dX6_lies_2 ⟨Nat.zero_le _, Nat.zero_le _⟩) (fun hzr2 => ?_)
  refine lv_if_eq (tgt := 18) hx hb dX6_lies_5 (by decide) (fun c6 => ?_) (fun c6 => ?_)
  · have h := q_t c6 h
    refine lv_iconst (v := 0) hx hb dX6_lies_18 (by decide) ?_
    exact q_rWz hQ hx hb hr hlk hP hS h (Or.inl rfl) dX6_lies_19
  · have h := q_f c6 h
    refine lv_aload_n hx hb dX6_lies_8 rfl (lv_at hl 0 rfl) ?_
    refine q_getR hx hb hts hi_X6 hown hK hP ob_35 rfl 15 (by decide) rfl (hts (.fieldLink RX6 47 "MirrorNetModel" "isLying" "[Z") (by decide +kernel)) (fun _ h9 => h9) dX6_lies_9 ?_
    refine lv_iload_n hx hb dX6_lies_12 rfl (lv_at hl 1 rfl) ?_
    obtain ⟨hk7, h⟩ := q_ck h
    refine q_zald hx hb hK hP ar_47 hk7 dX6_lies_13 ?_
    refine lv_iload_n hx hb dX6_lies_14 rfl (lv_at hl 2 rfl) ?_
    refine lv_icmp_ne (tgt := 20) hx hb dX6_lies_15 (by decide) (fun c8 => ?_) (fun c8 => ?_)
    · have h := q_f c8 h
      refine lv_aload_n hx hb dX6_lies_20 rfl (lv_at hl 0 rfl) ?_
      refine q_getR hx hb hts hi_X6 hown hK hP ob_35 rfl 15 (by decide) rfl (hts (.fieldLink RX6 47 "MirrorNetModel" "isLying" "[Z") (by decide +kernel)) (fun _ h9 => h9) dX6_lies_21 ?_
      refine lv_iload_n hx hb dX6_lies_24 rfl (lv_at hl 1 rfl) ?_
      refine lv_iload_n hx hb dX6_lies_25 rfl (lv_at hl 2 rfl) ?_
      obtain ⟨hk9, h⟩ := q_ck h
      obtain ⟨M10, eM10, h⟩ := q_nx h
      refine q_zast hx hb hK hP hAD hS ar_47 hk9 dX6_lies_26 (fun H locs hP hS => ?_)
      rw [← eM10] at hP
      refine lv_iconst (v := 1) hx hb dX6_lies_27 (by decide) ?_
      exact q_rWz hQ hx hb hr hlk hP hS h (Or.inr rfl) dX6_lies_28
    · have h := q_t c8 h
      refine lv_iconst (v := 0) hx hb dX6_lies_18 (by decide) ?_
      exact q_rWz hQ hx hb hr hlk hP hS h (Or.inl rfl) dX6_lies_19
def rm_X6_isFallen : Room := { frames := 0, cells := 0, slots := 0, locals := 0 }
set_option maxHeartbeats 4000000 in
set_option maxRecDepth 100000 in
theorem ct_X6_isFallen (l : Launch) {D : va_G} {ad : Nat → Nat} {kc : Nat → ClassId} {nm z : Nat} (hAD : AD ad nm z) {M : Mem} {x1 : Int32} {r : Int32}  (h : fn_X6_isFallen M x1 = some r) : Met l yX6_isFallen wsX6_isFallen rm_X6_isFallen (va_Pc [.ref (ad 35), .int x1] (GW D ad kc nm z M)) (QRz r) 0 0 (fun _ => False) := by
  refine q_met (cc := cX6_isFallen) (maxL := 3) (ret := (some .boolean)) (by decide) rfl (Nat.le_of_ble_eq_true rfl) ?_
  intro p e s m args below meth c Q ls hx hb hr hlk hml hown hts hB hQ hl
  obtain ⟨hP, hK, hz, hN⟩ := hB
  have hown : s.vm.findClass RX6 = some m.cls := hown
  have hl : lv_has ls 3 [(0, .ref (ad 35)), (1, .int x1)] := hl
  have hi_X6 : ∀ w ∈ u_ws RX6 TX6 40, w ∈ wsX6_isFallen := by decide +kernel
  have L_lq_X6_isFallen_2 : ∀ (n2 : Nat) (x2 : Int32) (ls : Array Slot), it1 (lq_X6_isFallen_2 M x1) n2 x2 = some r → lv_has ls 3 [(0, .ref (ad 35)), (1, .int x1), (2, .int x2)] → W p l e rm_X6_isFallen s m args below meth c s.heap [] 0 0 Q (F0 m 2 ls []) := by
    intro n2
    induction n2 with
    | zero =>
      intro x2 ls h hl
      exact (it1_0 h).elim
    | succ n2 ih2 =>
      have B_bk_X6_isFallen_48 : ∀ (x2 : Int32) (ls : Array Slot), bk_X6_isFallen_48 (it1 (lq_X6_isFallen_2 M x1) n2) M x1 x2 = some r → lv_has ls 3 [(0, .ref (ad 35)), (1, .int x1), (2, .int x2)] → W p l e rm_X6_isFallen s m args below meth c s.heap [] 0 0 Q (F0 m 48 ls []) := by
        intro x2 ls h hl
        obtain ⟨v1, ev1, h⟩ := q_nx h
        refine lv_iinc (v := v1) (lv' := [(2, .int v1), (0, .ref (ad 35)), (1, .int x1)]) hx hb dX6_isFallen_48 hl (k := 2) rfl (by rw [ev1]; rfl) (by decide) rfl (fun ls hl => ?_)
        refine lv_goto (tgt := 2) hx hb dX6_isFallen_51 (by decide) ?_
        exact ih2 v1 ls  h (lv_sub hl [1, 2, 0] rfl)
      intro x2 ls h hl
      have h := it1_s h
      refine lv_iload_n hx hb dX6_isFallen_2 rfl (lv_at hl 2 rfl) ?_
      refine lv_aload_n hx hb dX6_isFallen_3 rfl (lv_at hl 0 rfl) ?_
      refine q_getI hx hb hts hi_X6 hown hK hP ob_35 rfl 19 (by decide) rfl (hts (.fieldLink RX6 119 "MirrorNetModel" "falls" "I") (by decide +kernel)) (fun _ h9 => h9) dX6_isFallen_4 ?_
      refine lv_icmp_ge (tgt := 54) hx hb dX6_isFallen_7 (by decide) (fun c2 => ?_) (fun c2 => ?_)
      · have h := q_t c2 h
        refine lv_iconst (v := 0) hx hb dX6_isFallen_54 (by decide) ?_
        exact q_rRz hQ hx hb hr hlk h (Or.inl rfl) dX6_isFallen_55
      · have h := q_f c2 h
        refine lv_aload_n hx hb dX6_isFallen_10 rfl (lv_at hl 0 rfl) ?_
        refine q_getR hx hb hts hi_X6 hown hK hP ob_35 rfl 20 (by decide) rfl (hts (.fieldLink RX6 60 "MirrorNetModel" "fallOf" "[I") (by decide +kernel)) (fun _ h9 => h9) dX6_isFallen_11 ?_
        refine lv_iload_n hx hb dX6_isFallen_14 rfl (lv_at hl 2 rfl) ?_
        obtain ⟨hk3, h⟩ := q_ck h
        refine q_iald hx hb hK hP ar_51 hk3 dX6_isFallen_15 ?_
        refine lv_iload_n hx hb dX6_isFallen_16 rfl (lv_at hl 1 rfl) ?_
        refine lv_icmp_ne (tgt := 48) hx hb dX6_isFallen_17 (by decide) (fun c4 => ?_) (fun c4 => ?_)
        · have h := q_f c4 h
          exact B_bk_X6_isFallen_48 x2 ls  h (lv_sub hl [0, 1, 2] rfl)
        · have h := q_t c4 h
          refine lv_aload_n hx hb dX6_isFallen_20 rfl (lv_at hl 0 rfl) ?_
          refine q_getR hx hb hts hi_X6 hown hK hP ob_35 rfl 21 (by decide) rfl (hts (.fieldLink RX6 63 "MirrorNetModel" "fallFrom" "[I") (by decide +kernel)) (fun _ h9 => h9) dX6_isFallen_21 ?_
          refine lv_iload_n hx hb dX6_isFallen_24 rfl (lv_at hl 2 rfl) ?_
          obtain ⟨hk5, h⟩ := q_ck h
          refine q_iald hx hb hK hP ar_52 hk5 dX6_isFallen_25 ?_
          refine lv_aload_n hx hb dX6_isFallen_26 rfl (lv_at hl 0 rfl) ?_
          refine q_getI hx hb hts hi_X6 hown hK hP ob_35 rfl 0 (by decide) rfl (hts (.fieldLink RX6 103 "MirrorNetModel" "now" "I") (by decide +kernel)) (fun _ h9 => h9) dX6_isFallen_27 ?_
          refine lv_icmp_gt (tgt := 48) hx hb dX6_isFallen_30 (by decide) (fun c6 => ?_) (fun c6 => ?_)
          · have h := q_t c6 h
            exact B_bk_X6_isFallen_48 x2 ls  h (lv_sub hl [0, 1, 2] rfl)
          · have h := q_f c6 h
            refine lv_aload_n hx hb dX6_isFallen_33 rfl (lv_at hl 0 rfl) ?_
            refine q_getR hx hb hts hi_X6 hown hK hP ob_35 rfl 22 (by decide) rfl (hts (.fieldLink RX6 66 "MirrorNetModel" "fallTo" "[I") (by decide +kernel)) (fun _ h9 => h9) dX6_isFallen_34 ?_
            refine lv_iload_n hx hb dX6_isFallen_37 rfl (lv_at hl 2 rfl) ?_
            obtain ⟨hk7, h⟩ := q_ck h
            refine q_iald hx hb hK hP ar_53 hk7 dX6_isFallen_38 ?_
            refine lv_aload_n hx hb dX6_isFallen_39 rfl (lv_at hl 0 rfl) ?_
            refine q_getI hx hb hts hi_X6 hown hK hP ob_35 rfl 0 (by decide) rfl (hts (.fieldLink RX6 103 "MirrorNetModel" "now" "I") (by decide +kernel)) (fun _ h9 => h9) dX6_isFallen_40 ?_
            refine lv_icmp_lt (tgt := 48) hx hb dX6_isFallen_43 (by decide) (fun c8 => ?_) (fun c8 => ?_)
            · have h := q_t c8 h
              exact B_bk_X6_isFallen_48 x2 ls  h (lv_sub hl [0, 1, 2] rfl)
            · have h := q_f c8 h
              refine lv_iconst (v := 1) hx hb dX6_isFallen_46 (by decide) ?_
              exact q_rRz hQ hx hb hr hlk h (Or.inr rfl) dX6_isFallen_47
  refine lv_iconst (v := 0) hx hb dX6_isFallen_0 (by decide) ?_
  refine lv_istore_n (lv' := [(2, .int (0 : Int32)), (0, .ref (ad 35)), (1, .int x1)]) hx hb dX6_isFallen_1 rfl hl (by decide) rfl (fun ls hl => ?_)
  exact L_lq_X6_isFallen_2 FU (0 : Int32) ls  h (lv_sub hl [1, 2, 0] rfl)
def rm_X6_isNamed : Room := { frames := 0, cells := 0, slots := 0, locals := 0 }
set_option maxHeartbeats 4000000 in
set_option maxRecDepth 100000 in
theorem ct_X6_isNamed (l : Launch) {D : va_G} {ad : Nat → Nat} {kc : Nat → ClassId} {nm z : Nat} (hAD : AD ad nm z) {M : Mem} {x1 : Int32} {x2 : Int32} {r : Int32}  (h : fn_X6_isNamed M x1 x2 = some r) : Met l yX6_isNamed wsX6_isNamed rm_X6_isNamed (va_Pc [.ref (ad 35), .int x1, .int x2] (GW D ad kc nm z M)) (QRz r) 0 0 (fun _ => False) := by
  refine q_met (cc := cX6_isNamed) (maxL := 4) (ret := (some .boolean)) (by decide) rfl (Nat.le_of_ble_eq_true rfl) ?_
  intro p e s m args below meth c Q ls hx hb hr hlk hml hown hts hB hQ hl
  obtain ⟨hP, hK, hz, hN⟩ := hB
  have hown : s.vm.findClass RX6 = some m.cls := hown
  have hl : lv_has ls 4 [(0, .ref (ad 35)), (1, .int x1), (2, .int x2)] := hl
  have hi_X6 : ∀ w ∈ u_ws RX6 TX6 40, w ∈ wsX6_isNamed := by decide +kernel
  have L_lq_X6_isNamed_2 : ∀ (n2 : Nat) (x3 : Int32) (ls : Array Slot), it1 (lq_X6_isNamed_2 M x1 x2) n2 x3 = some r → lv_has ls 4 [(0, .ref (ad 35)), (1, .int x1), (2, .int x2), (3, .int x3)] → W p l e rm_X6_isNamed s m args below meth c s.heap [] 0 0 Q (F0 m 2 ls []) := by
    intro n2
    induction n2 with
    | zero =>
      intro x3 ls h hl
      exact (it1_0 h).elim
    | succ n2 ih2 =>
      intro x3 ls h hl
      have h := it1_s h
      refine lv_iload_n hx hb dX6_isNamed_2 rfl (lv_at hl 3 rfl) ?_
      refine lv_bipush (v := 12) hx hb dX6_isNamed_3 (by decide) ?_
      refine lv_icmp_ge (tgt := 31) hx hb dX6_isNamed_5 (by decide) (fun c1 => ?_) (fun c1 => ?_)
      · have h := q_t c1 h
        refine lv_iconst (v := 0) hx hb dX6_isNamed_31 (by decide) ?_
        exact q_rRz hQ hx hb hr hlk h (Or.inl rfl) dX6_isNamed_32
      · have h := q_f c1 h
        refine lv_aload_n hx hb dX6_isNamed_8 rfl (lv_at hl 0 rfl) ?_
        refine q_getR hx hb hts hi_X6 hown hK hP ob_35 rfl 6 (by decide) rfl (hts (.fieldLink RX6 23 "MirrorNetModel" "named" "[I") (by decide +kernel)) (fun _ h9 => h9) dX6_isNamed_9 ?_
        refine lv_bipush (v := 12) hx hb dX6_isNamed_12 (by decide) ?_
        refine lv_iload_n hx hb dX6_isNamed_14 rfl (lv_at hl 1 rfl) ?_
        refine lv_imul hx hb dX6_isNamed_15 ?_
        refine lv_iload_n hx hb dX6_isNamed_16 rfl (lv_at hl 3 rfl) ?_
        refine lv_iadd hx hb dX6_isNamed_17 ?_
        obtain ⟨hk2, h⟩ := q_ck h
        refine q_iald hx hb hK hP ar_39 hk2 dX6_isNamed_18 ?_
        refine lv_iload_n hx hb dX6_isNamed_19 rfl (lv_at hl 2 rfl) ?_
        refine lv_icmp_ne (tgt := 25) hx hb dX6_isNamed_20 (by decide) (fun c3 => ?_) (fun c3 => ?_)
        · have h := q_f c3 h
          obtain ⟨v4, ev4, h⟩ := q_nx h
          refine lv_iinc (v := v4) (lv' := [(3, .int v4), (0, .ref (ad 35)), (1, .int x1), (2, .int x2)]) hx hb dX6_isNamed_25 hl (k := 3) rfl (by rw [ev4]; rfl) (by decide) rfl (fun ls hl => ?_)
          refine lv_goto (tgt := 2) hx hb dX6_isNamed_28 (by decide) ?_
          exact ih2 v4 ls  h (lv_sub hl [1, 2, 3, 0] rfl)
        · have h := q_t c3 h
          refine lv_iconst (v := 1) hx hb dX6_isNamed_23 (by decide) ?_
          exact q_rRz hQ hx hb hr hlk h (Or.inr rfl) dX6_isNamed_24
  refine lv_iconst (v := 0) hx hb dX6_isNamed_0 (by decide) ?_
  refine lv_istore_n (lv' := [(3, .int (0 : Int32)), (0, .ref (ad 35)), (1, .int x1), (2, .int x2)]) hx hb dX6_isNamed_1 rfl hl (by decide) rfl (fun ls hl => ?_)
  exact L_lq_X6_isNamed_2 FU (0 : Int32) ls  h (lv_sub hl [1, 2, 3, 0] rfl)
def rm_X6_lacking : Room := { frames := 1, cells := 0, slots := 0, locals := 23 }
set_option maxHeartbeats 4000000 in
set_option maxRecDepth 100000 in
theorem ct_X6_lacking (l : Launch) {D : va_G} {ad : Nat → Nat} {kc : Nat → ClassId} {nm z : Nat} (hAD : AD ad nm z) {M : Mem} {x1 : Int32} {r : Int32}  (h : fn_X6_lacking M x1 = some r) : Met l yX6_lacking wsX6_lacking rm_X6_lacking (va_Pc [.ref (ad 35), .int x1] (GW D ad kc nm z M)) (QRi r) 0 0 (fun _ => False) := by
  refine q_met (cc := cX6_lacking) (maxL := 3) (ret := (some .int)) (by decide) rfl (Nat.le_of_ble_eq_true rfl) ?_
  intro p e s m args below meth c Q ls hx hb hr hlk hml hown hts hB hQ hl
  obtain ⟨hP, hK, hz, hN⟩ := hB
  have hown : s.vm.findClass RX6 = some m.cls := hown
  have hl : lv_has ls 3 [(0, .ref (ad 35)), (1, .int x1)] := hl
  have hi_X6 : ∀ w ∈ u_ws RX6 TX6 40, w ∈ wsX6_lacking := by decide +kernel
  have L_lq_X6_lacking_2 : ∀ (n2 : Nat) (x2 : Int32) (ls : Array Slot), it1 (lq_X6_lacking_2 M x1) n2 x2 = some r → lv_has ls 3 [(0, .ref (ad 35)), (1, .int x1), (2, .int x2)] → W p l e rm_X6_lacking s m args below meth c s.heap [] 0 0 Q (F0 m 2 ls []) := by
    intro n2
    induction n2 with
    | zero =>
      intro x2 ls h hl
      exact (it1_0 h).elim
    | succ n2 ih2 =>
      have B_bk_X6_lacking_40 : ∀ (x2 : Int32) (ls : Array Slot), bk_X6_lacking_40 (it1 (lq_X6_lacking_2 M x1) n2) M x1 x2 = some r → lv_has ls 3 [(0, .ref (ad 35)), (1, .int x1), (2, .int x2)] → W p l e rm_X6_lacking s m args below meth c s.heap [] 0 0 Q (F0 m 40 ls []) := by
        intro x2 ls h hl
        obtain ⟨v1, ev1, h⟩ := q_nx h
        refine lv_iinc (v := v1) (lv' := [(2, .int v1), (0, .ref (ad 35)), (1, .int x1)]) hx hb dX6_lacking_40 hl (k := 2) rfl (by rw [ev1]; rfl) (by decide) rfl (fun ls hl => ?_)
        refine lv_goto (tgt := 2) hx hb dX6_lacking_43 (by decide) ?_
        exact ih2 v1 ls  h (lv_sub hl [1, 2, 0] rfl)
      intro x2 ls h hl
      have h := it1_s h
      refine lv_iload_n hx hb dX6_lacking_2 rfl (lv_at hl 2 rfl) ?_
      refine lv_aload_n hx hb dX6_lacking_3 rfl (lv_at hl 0 rfl) ?_
      refine q_getI hx hb hts hi_X6 hown hK hP ob_35 rfl 1 (by decide) rfl (hts (.fieldLink RX6 96 "MirrorNetModel" "files" "I") (by decide +kernel)) (fun _ h9 => h9) dX6_lacking_4 ?_
      refine lv_icmp_ge (tgt := 46) hx hb dX6_lacking_7 (by decide) (fun c2 => ?_) (fun c2 => ?_)
      · have h := q_t c2 h
        refine lv_iconst (v := -1) hx hb dX6_lacking_46 (by decide) ?_
        exact q_rRi hQ hx hb hr hlk h dX6_lacking_47
      · have h := q_f c2 h
        refine lv_aload_n hx hb dX6_lacking_10 rfl (lv_at hl 0 rfl) ?_
        refine q_getR hx hb hts hi_X6 hown hK hP ob_35 rfl 16 (by decide) rfl (hts (.fieldLink RX6 51 "MirrorNetModel" "hasFile" "[Z") (by decide +kernel)) (fun _ h9 => h9) dX6_lacking_11 ?_
        refine lv_bipush (v := 60) hx hb dX6_lacking_14 (by decide) ?_
        refine lv_iload_n hx hb dX6_lacking_16 rfl (lv_at hl 1 rfl) ?_
        refine lv_imul hx hb dX6_lacking_17 ?_
        refine lv_iload_n hx hb dX6_lacking_18 rfl (lv_at hl 2 rfl) ?_
        refine lv_iadd hx hb dX6_lacking_19 ?_
        obtain ⟨hk3, h⟩ := q_ck h
        refine q_zald hx hb hK hP ar_48 hk3 dX6_lacking_20 ?_
        refine lv_if_ne (tgt := 40) hx hb dX6_lacking_21 (by decide) (fun c4 => ?_) (fun c4 => ?_)
        · have h := q_f c4 h
          exact B_bk_X6_lacking_40 x2 ls  h (lv_sub hl [0, 1, 2] rfl)
        · have h := q_t c4 h
          refine lv_aload_n hx hb dX6_lacking_24 rfl (lv_at hl 0 rfl) ?_
          refine lv_aload_n hx hb dX6_lacking_25 rfl (lv_at hl 0 rfl) ?_
          refine q_getR hx hb hts hi_X6 hown hK hP ob_35 rfl 12 (by decide) rfl (hts (.fieldLink RX6 38 "MirrorNetModel" "target" "[I") (by decide +kernel)) (fun _ h9 => h9) dX6_lacking_26 ?_
          refine lv_iload_n hx hb dX6_lacking_29 rfl (lv_at hl 1 rfl) ?_
          obtain ⟨hk5, h⟩ := q_ck h
          refine q_iald hx hb hK hP ar_44 hk5 dX6_lacking_30 ?_
          refine lv_iload_n hx hb dX6_lacking_31 rfl (lv_at hl 2 rfl) ?_
          obtain ⟨r7, hc6, h⟩ := q_bd1 h
          refine q_cRz (va_runV (C := RX6) (As := [.int (gI M 44 (ix x1)), .int x2]) (rest := []) ⟨hx, hb, hml, hown, hts⟩ (ct_X6_isNamed l hAD (M := M) hc6) (cwV 2 hts gX6_lacking_X6_isNamed rfl rfl rfl (by decide +kernel) ⟨Nat.le_of_ble_eq_true rfl, Nat.le_of_ble_eq_true rfl⟩) ⟨gw_blind, gw_recv ob_35 hK hP rfl, gw_pre _ hK hP hz hN⟩ rfl rfl hl.1 rfl (lv_room (Nat.le_of_ble_eq_true rfl)) dX6_lacking_32 ⟨Nat.zero_le _, Nat.zero_le _⟩) (fun hzr7 => ?_)
          refine lv_if_eq (tgt := 40) hx hb dX6_lacking_35 (by decide) (fun c11 => ?_) (fun c11 => ?_)
          · have h := q_t c11 h
            exact B_bk_X6_lacking_40 x2 ls  h (lv_sub hl [0, 1, 2] rfl)
          · have h := q_f c11 h
            refine lv_iload_n hx hb dX6_lacking_38 rfl (lv_at hl 2 rfl) ?_
            exact q_rRi hQ hx hb hr hlk h dX6_lacking_39
  refine lv_iconst (v := 0) hx hb dX6_lacking_0 (by decide) ?_
  refine lv_istore_n (lv' := [(2, .int (0 : Int32)), (0, .ref (ad 35)), (1, .int x1)]) hx hb dX6_lacking_1 rfl hl (by decide) rfl (fun ls hl => ?_)
  exact L_lq_X6_lacking_2 FU (0 : Int32) ls  h (lv_sub hl [1, 2, 0] rfl)
def rm_X6_copies : Room := { frames := 2, cells := 0, slots := 0, locals := 45 }
set_option maxHeartbeats 4000000 in
set_option maxRecDepth 100000 in
theorem ct_X6_copies (l : Launch) {D : va_G} {ad : Nat → Nat} {kc : Nat → ClassId} {nm z : Nat} (hAD : AD ad nm z) {M : Mem} {x1 : Int32} {r : Int32} {Mr : Mem}  (h : fn_X6_copies M x1 = some (r, Mr)) : Met l yX6_copies wsX6_copies rm_X6_copies (va_Pc [.ref (ad 35), .int x1] (GW D ad kc nm z M)) (QWz D ad kc nm z r Mr) 0 0 (fun q => z ≤ q) := by
  refine q_met (cc := cX6_copies) (maxL := 5) (ret := (some .boolean)) (by decide) rfl (Nat.le_of_ble_eq_true rfl) ?_
  intro p e s m args below meth c Q ls hx hb hr hlk hml hown hts hB hQ hl
  obtain ⟨hP, hK, hz, hN⟩ := hB
  have hown : s.vm.findClass RX6 = some m.cls := hown
  have hl : lv_has ls 5 [(0, .ref (ad 35)), (1, .int x1)] := hl
  have hi_X6 : ∀ w ∈ u_ws RX6 TX6 40, w ∈ wsX6_copies := by decide +kernel
  have hS : va_S (fun q => z ≤ q) s.heap s.heap [] := va_S.rf
  have L_lq_X6_copies_7 : ∀ (n7 : Nat) (M : Mem) (x2 : Int32) (H : Heap) (locs : List Loc) (ls : Array Slot), it2 (lq_X6_copies_7 x1) n7 M x2 = some (r, Mr) → va_P D vwCl (wl ad kc nm M) H → va_S (fun q => z ≤ q) s.heap H locs → lv_has ls 5 [(0, .ref (ad 35)), (1, .int x1), (2, .int x2)] → W p l e rm_X6_copies s m args below meth c H locs 0 0 Q (F0 m 7 ls []) := by
    intro n7
    induction n7 with
    | zero =>
      intro M x2 H locs ls h hP hS hl
      exact (it2_0 h).elim
    | succ n7 ih7 =>
      have B_bk_X6_copies_101 : ∀ (M : Mem) (x2 : Int32) (x3 : Int32) (sx0 : Int32) (H : Heap) (locs : List Loc) (ls : Array Slot), bk_X6_copies_101 (it2 (lq_X6_copies_7 x1) n7) M x1 x2 x3 sx0 = some (r, Mr) → va_P D vwCl (wl ad kc nm M) H → va_S (fun q => z ≤ q) s.heap H locs → lv_has ls 5 [(0, .ref (ad 35)), (1, .int x1), (2, .int x2), (3, .int x3)] → W p l e rm_X6_copies s m args below meth c H locs 0 0 Q (F0 m 101 ls [.int sx0]) := by
        intro M x2 x3 sx0 H locs ls h hP hS hl
        refine lv_istore (lv' := [(4, .int sx0), (0, .ref (ad 35)), (1, .int x1), (2, .int x2), (3, .int x3)]) hx hb dX6_copies_101 hl (by decide) rfl (fun ls hl => ?_)
        refine lv_aload_n hx hb dX6_copies_103 rfl (lv_at hl 1 rfl) ?_
        refine q_getR hx hb hts hi_X6 hown hK hP ob_35 rfl 13 (by decide) rfl (hts (.fieldLink RX6 41 "MirrorNetModel" "done" "[I") (by decide +kernel)) (fun _ h9 => h9) dX6_copies_104 ?_
        refine lv_iload_n hx hb dX6_copies_107 rfl (lv_at hl 2 rfl) ?_
        refine lv_dup2_11 hx hb dX6_copies_108 rfl rfl ?_
        obtain ⟨hk1, h⟩ := q_ck h
        refine q_iald hx hb hK hP ar_45 hk1 dX6_copies_109 ?_
        refine lv_iload hx hb dX6_copies_110 (lv_at hl 0 rfl) ?_
        refine lv_iadd hx hb dX6_copies_112 ?_
        obtain ⟨hk2, h⟩ := q_ck h
        obtain ⟨M3, eM3, h⟩ := q_nx h
        refine q_iast hx hb hK hP hAD hS ar_45 hk2 dX6_copies_113 (fun H locs hP hS => ?_)
        rw [← eM3] at hP
        refine lv_aload_n hx hb dX6_copies_114 rfl (lv_at hl 1 rfl) ?_
        refine q_getR hx hb hts hi_X6 hown hK hP ob_35 rfl 14 (by decide) rfl (hts (.fieldLink RX6 44 "MirrorNetModel" "taken" "[I") (by decide +kernel)) (fun _ h9 => h9) dX6_copies_115 ?_
        refine lv_iload_n hx hb dX6_copies_118 rfl (lv_at hl 2 rfl) ?_
        refine lv_dup2_11 hx hb dX6_copies_119 rfl rfl ?_
        obtain ⟨hk4, h⟩ := q_ck h
        refine q_iald hx hb hK hP ar_46 hk4 dX6_copies_120 ?_
        refine lv_iload hx hb dX6_copies_121 (lv_at hl 0 rfl) ?_
        refine lv_iadd hx hb dX6_copies_123 ?_
        obtain ⟨hk5, h⟩ := q_ck h
        obtain ⟨M6, eM6, h⟩ := q_nx h
        refine q_iast hx hb hK hP hAD hS ar_46 hk5 dX6_copies_124 (fun H locs hP hS => ?_)
        rw [← eM6] at hP
        refine lv_iload_n hx hb dX6_copies_125 rfl (lv_at hl 3 rfl) ?_
        refine lv_iload hx hb dX6_copies_126 (lv_at hl 0 rfl) ?_
        refine lv_isub hx hb dX6_copies_128 ?_
        refine lv_topi (fun v7 ev7 => ?_)
        have h := q_nxe ev7 h
        refine lv_istore_n (lv' := [(2, .int v7), (4, .int sx0), (0, .ref (ad 35)), (1, .int x1), (3, .int x3)]) hx hb dX6_copies_129 rfl hl (by decide) rfl (fun ls hl => ?_)
        refine lv_aload_n hx hb dX6_copies_130 rfl (lv_at hl 2 rfl) ?_
        refine q_getR hx hb hts hi_X6 hown hK hP ob_35 rfl 13 (by decide) rfl (hts (.fieldLink RX6 41 "MirrorNetModel" "done" "[I") (by decide +kernel)) (fun _ h9 => h9) dX6_copies_131 ?_
        refine lv_iload_n hx hb dX6_copies_134 rfl (lv_at hl 3 rfl) ?_
        obtain ⟨hk8, h⟩ := q_ck h
        refine q_iald hx hb hK hP ar_45 hk8 dX6_copies_135 ?_
        refine lv_aload_n hx hb dX6_copies_136 rfl (lv_at hl 2 rfl) ?_
        refine q_getR hx hb hts hi_X6 hown hK hP ob_35 rfl 2 (by decide) rfl (hts (.fieldLink RX6 7 "MirrorNetModel" "size" "[I") (by decide +kernel)) (fun _ h9 => h9) dX6_copies_137 ?_
        refine lv_iload_n hx hb dX6_copies_140 rfl (lv_at hl 4 rfl) ?_
        obtain ⟨hk9, h⟩ := q_ck h
        refine q_iald hx hb hK hP ar_36 hk9 dX6_copies_141 ?_
        refine lv_icmp_ge (tgt := 148) hx hb dX6_copies_142 (by decide) (fun c10 => ?_) (fun c10 => ?_)
        · have h := q_t c10 h
          refine lv_aload_n hx hb dX6_copies_148 rfl (lv_at hl 2 rfl) ?_
          refine q_getR hx hb hts hi_X6 hown hK hP ob_35 rfl 16 (by decide) rfl (hts (.fieldLink RX6 51 "MirrorNetModel" "hasFile" "[Z") (by decide +kernel)) (fun _ h9 => h9) dX6_copies_149 ?_
          refine lv_bipush (v := 60) hx hb dX6_copies_152 (by decide) ?_
          refine lv_iload_n hx hb dX6_copies_154 rfl (lv_at hl 3 rfl) ?_
          refine lv_imul hx hb dX6_copies_155 ?_
          refine lv_iload_n hx hb dX6_copies_156 rfl (lv_at hl 4 rfl) ?_
          refine lv_iadd hx hb dX6_copies_157 ?_
          refine lv_iconst (v := 1) hx hb dX6_copies_158 (by decide) ?_
          obtain ⟨hk11, h⟩ := q_ck h
          obtain ⟨M12, eM12, h⟩ := q_nx h
          refine q_zast hx hb hK hP hAD hS ar_48 hk11 dX6_copies_159 (fun H locs hP hS => ?_)
          rw [← eM12] at hP
          refine lv_aload_n hx hb dX6_copies_160 rfl (lv_at hl 2 rfl) ?_
          refine q_getR hx hb hts hi_X6 hown hK hP ob_35 rfl 13 (by decide) rfl (hts (.fieldLink RX6 41 "MirrorNetModel" "done" "[I") (by decide +kernel)) (fun _ h9 => h9) dX6_copies_161 ?_
          refine lv_iload_n hx hb dX6_copies_164 rfl (lv_at hl 3 rfl) ?_
          refine lv_iconst (v := 0) hx hb dX6_copies_165 (by decide) ?_
          obtain ⟨hk13, h⟩ := q_ck h
          obtain ⟨M14, eM14, h⟩ := q_nx h
          refine q_iast hx hb hK hP hAD hS ar_45 hk13 dX6_copies_166 (fun H locs hP hS => ?_)
          rw [← eM14] at hP
          refine lv_goto (tgt := 7) hx hb dX6_copies_167 (by decide) ?_
          exact ih7 M14 v7 H locs ls  h hP hS (lv_sub hl [2, 3, 0] rfl)
        · have h := q_f c10 h
          refine lv_goto (tgt := 7) hx hb dX6_copies_145 (by decide) ?_
          exact ih7 M6 v7 H locs ls  h hP hS (lv_sub hl [2, 3, 0] rfl)
      have B_bk_X6_copies_67 : ∀ (M : Mem) (x2 : Int32) (x3 : Int32) (H : Heap) (locs : List Loc) (ls : Array Slot), bk_X6_copies_67 (it2 (lq_X6_copies_7 x1) n7) M x1 x2 x3 = some (r, Mr) → va_P D vwCl (wl ad kc nm M) H → va_S (fun q => z ≤ q) s.heap H locs → lv_has ls 5 [(0, .ref (ad 35)), (1, .int x1), (2, .int x2), (3, .int x3)] → W p l e rm_X6_copies s m args below meth c H locs 0 0 Q (F0 m 67 ls []) := by
        intro M x2 x3 H locs ls h hP hS hl
        refine lv_aload_n hx hb dX6_copies_67 rfl (lv_at hl 0 rfl) ?_
        refine q_getR hx hb hts hi_X6 hown hK hP ob_35 rfl 2 (by decide) rfl (hts (.fieldLink RX6 7 "MirrorNetModel" "size" "[I") (by decide +kernel)) (fun _ h9 => h9) dX6_copies_68 ?_
        refine lv_iload_n hx hb dX6_copies_71 rfl (lv_at hl 3 rfl) ?_
        obtain ⟨hk15, h⟩ := q_ck h
        refine q_iald hx hb hK hP ar_36 hk15 dX6_copies_72 ?_
        refine lv_aload_n hx hb dX6_copies_73 rfl (lv_at hl 0 rfl) ?_
        refine q_getR hx hb hts hi_X6 hown hK hP ob_35 rfl 13 (by decide) rfl (hts (.fieldLink RX6 41 "MirrorNetModel" "done" "[I") (by decide +kernel)) (fun _ h9 => h9) dX6_copies_74 ?_
        refine lv_iload_n hx hb dX6_copies_77 rfl (lv_at hl 1 rfl) ?_
        obtain ⟨hk16, h⟩ := q_ck h
        refine q_iald hx hb hK hP ar_45 hk16 dX6_copies_78 ?_
        refine lv_isub hx hb dX6_copies_79 ?_
        refine lv_iload_n hx hb dX6_copies_80 rfl (lv_at hl 2 rfl) ?_
        refine lv_icmp_ge (tgt := 100) hx hb dX6_copies_81 (by decide) (fun c17 => ?_) (fun c17 => ?_)
        · have h := q_t c17 h
          refine lv_iload_n hx hb dX6_copies_100 rfl (lv_at hl 2 rfl) ?_
          exact B_bk_X6_copies_101 M x2 x3 x2 H locs ls  h hP hS (lv_sub hl [0, 1, 2, 3] rfl)
        · have h := q_f c17 h
          refine lv_aload_n hx hb dX6_copies_84 rfl (lv_at hl 0 rfl) ?_
          refine q_getR hx hb hts hi_X6 hown hK hP ob_35 rfl 2 (by decide) rfl (hts (.fieldLink RX6 7 "MirrorNetModel" "size" "[I") (by decide +kernel)) (fun _ h9 => h9) dX6_copies_85 ?_
          refine lv_iload_n hx hb dX6_copies_88 rfl (lv_at hl 3 rfl) ?_
          obtain ⟨hk18, h⟩ := q_ck h
          refine q_iald hx hb hK hP ar_36 hk18 dX6_copies_89 ?_
          refine lv_aload_n hx hb dX6_copies_90 rfl (lv_at hl 0 rfl) ?_
          refine q_getR hx hb hts hi_X6 hown hK hP ob_35 rfl 13 (by decide) rfl (hts (.fieldLink RX6 41 "MirrorNetModel" "done" "[I") (by decide +kernel)) (fun _ h9 => h9) dX6_copies_91 ?_
          refine lv_iload_n hx hb dX6_copies_94 rfl (lv_at hl 1 rfl) ?_
          obtain ⟨hk19, h⟩ := q_ck h
          refine q_iald hx hb hK hP ar_45 hk19 dX6_copies_95 ?_
          refine lv_isub hx hb dX6_copies_96 ?_
          refine lv_goto (tgt := 101) hx hb dX6_copies_97 (by decide) ?_
          exact B_bk_X6_copies_101 M x2 x3 ((gI M 36 (ix x3)) - (gI M 45 (ix x1))) H locs ls  h hP hS (lv_sub hl [0, 1, 2, 3] rfl)
      intro M x2 H locs ls h hP hS hl
      have h := it2_s h
      refine lv_iload_n hx hb dX6_copies_7 rfl (lv_at hl 2 rfl) ?_
      refine lv_if_le (tgt := 170) hx hb dX6_copies_8 (by decide) (fun c20 => ?_) (fun c20 => ?_)
      · have h := q_t c20 h
        refine lv_iconst (v := 1) hx hb dX6_copies_170 (by decide) ?_
        exact q_rWz hQ hx hb hr hlk hP hS h (Or.inr rfl) dX6_copies_171
      · have h := q_f c20 h
        refine lv_aload_n hx hb dX6_copies_11 rfl (lv_at hl 0 rfl) ?_
        refine lv_iload_n hx hb dX6_copies_12 rfl (lv_at hl 1 rfl) ?_
        obtain ⟨r22, hc21, h⟩ := q_bd1 h
        refine q_cRi (va_runV (C := RX6) (As := [.int x1]) (rest := []) ⟨hx, hb, hml, hown, hts⟩ (ct_X6_lacking l hAD (M := M) hc21) (cwV 1 hts gX6_copies_X6_lacking rfl rfl rfl (by decide +kernel) ⟨Nat.le_of_ble_eq_true rfl, Nat.le_of_ble_eq_true rfl⟩) ⟨gw_blind, gw_recv ob_35 hK hP rfl, gw_pre _ hK hP (Nat.le_trans hz hS.1) hN⟩ rfl rfl hl.1 rfl (lv_room (Nat.le_of_ble_eq_true rfl)) dX6_copies_13 ⟨Nat.zero_le _, Nat.zero_le _⟩) ?_
        refine lv_istore_n (lv' := [(3, .int r22), (0, .ref (ad 35)), (1, .int x1), (2, .int x2)]) hx hb dX6_copies_16 rfl hl (by decide) rfl (fun ls hl => ?_)
        refine lv_iload_n hx hb dX6_copies_17 rfl (lv_at hl 0 rfl) ?_
        refine lv_if_ge (tgt := 23) hx hb dX6_copies_18 (by decide) (fun c26 => ?_) (fun c26 => ?_)
        · have h := q_t c26 h
          refine lv_aload_n hx hb dX6_copies_23 rfl (lv_at hl 1 rfl) ?_
          refine q_getR hx hb hts hi_X6 hown hK hP ob_35 rfl 8 (by decide) rfl (hts (.fieldLink RX6 26 "MirrorNetModel" "from" "[I") (by decide +kernel)) (fun _ h9 => h9) dX6_copies_24 ?_
          refine lv_iload_n hx hb dX6_copies_27 rfl (lv_at hl 2 rfl) ?_
          obtain ⟨hk27, h⟩ := q_ck h
          refine q_iald hx hb hK hP ar_40 hk27 dX6_copies_28 ?_
          refine lv_if_lt (tgt := 67) hx hb dX6_copies_29 (by decide) (fun c28 => ?_) (fun c28 => ?_)
          · have h := q_t c28 h
            exact B_bk_X6_copies_67 M x2 r22 H locs ls  h hP hS (lv_sub hl [1, 2, 3, 0] rfl)
          · have h := q_f c28 h
            refine lv_aload_n hx hb dX6_copies_32 rfl (lv_at hl 1 rfl) ?_
            refine q_getR hx hb hts hi_X6 hown hK hP ob_35 rfl 16 (by decide) rfl (hts (.fieldLink RX6 51 "MirrorNetModel" "hasFile" "[Z") (by decide +kernel)) (fun _ h9 => h9) dX6_copies_33 ?_
            refine lv_bipush (v := 60) hx hb dX6_copies_36 (by decide) ?_
            refine lv_aload_n hx hb dX6_copies_38 rfl (lv_at hl 1 rfl) ?_
            refine q_getR hx hb hts hi_X6 hown hK hP ob_35 rfl 8 (by decide) rfl (hts (.fieldLink RX6 26 "MirrorNetModel" "from" "[I") (by decide +kernel)) (fun _ h9 => h9) dX6_copies_39 ?_
            refine lv_iload_n hx hb dX6_copies_42 rfl (lv_at hl 2 rfl) ?_
            obtain ⟨hk29, h⟩ := q_ck h
            refine q_iald hx hb hK hP ar_40 hk29 dX6_copies_43 ?_
            refine lv_imul hx hb dX6_copies_44 ?_
            refine lv_iload_n hx hb dX6_copies_45 rfl (lv_at hl 0 rfl) ?_
            refine lv_iadd hx hb dX6_copies_46 ?_
            obtain ⟨hk30, h⟩ := q_ck h
            refine q_zald hx hb hK hP ar_48 hk30 dX6_copies_47 ?_
            refine lv_if_ne (tgt := 67) hx hb dX6_copies_48 (by decide) (fun c31 => ?_) (fun c31 => ?_)
            · have h := q_f c31 h
              exact B_bk_X6_copies_67 M x2 r22 H locs ls  h hP hS (lv_sub hl [1, 2, 3, 0] rfl)
            · have h := q_t c31 h
              refine lv_aload_n hx hb dX6_copies_51 rfl (lv_at hl 1 rfl) ?_
              refine q_getR hx hb hts hi_X6 hown hK hP ob_35 rfl 12 (by decide) rfl (hts (.fieldLink RX6 38 "MirrorNetModel" "target" "[I") (by decide +kernel)) (fun _ h9 => h9) dX6_copies_52 ?_
              refine lv_iload_n hx hb dX6_copies_55 rfl (lv_at hl 2 rfl) ?_
              refine lv_iconst (v := -1) hx hb dX6_copies_56 (by decide) ?_
              obtain ⟨hk32, h⟩ := q_ck h
              obtain ⟨M33, eM33, h⟩ := q_nx h
              refine q_iast hx hb hK hP hAD hS ar_44 hk32 dX6_copies_57 (fun H locs hP hS => ?_)
              rw [← eM33] at hP
              refine lv_aload_n hx hb dX6_copies_58 rfl (lv_at hl 1 rfl) ?_
              refine q_getR hx hb hts hi_X6 hown hK hP ob_35 rfl 13 (by decide) rfl (hts (.fieldLink RX6 41 "MirrorNetModel" "done" "[I") (by decide +kernel)) (fun _ h9 => h9) dX6_copies_59 ?_
              refine lv_iload_n hx hb dX6_copies_62 rfl (lv_at hl 2 rfl) ?_
              refine lv_iconst (v := 0) hx hb dX6_copies_63 (by decide) ?_
              obtain ⟨hk34, h⟩ := q_ck h
              obtain ⟨M35, eM35, h⟩ := q_nx h
              refine q_iast hx hb hK hP hAD hS ar_45 hk34 dX6_copies_64 (fun H locs hP hS => ?_)
              rw [← eM35] at hP
              refine lv_iconst (v := 0) hx hb dX6_copies_65 (by decide) ?_
              exact q_rWz hQ hx hb hr hlk hP hS h (Or.inl rfl) dX6_copies_66
        · have h := q_f c26 h
          refine lv_iconst (v := 1) hx hb dX6_copies_21 (by decide) ?_
          exact q_rWz hQ hx hb hr hlk hP hS h (Or.inr rfl) dX6_copies_22
  obtain ⟨H, eH⟩ : ∃ H : Heap, H = s.heap := ⟨_, rfl⟩
  obtain ⟨locs, eL⟩ : ∃ L : List Loc, L = [] := ⟨_, rfl⟩
  have hP : va_P D vwCl (wl ad kc nm M) H := by rw [eH]; exact hP
  have hS : va_S (fun q => z ≤ q) s.heap H locs := by rw [eH, eL]; exact hS
  refine q_start eH eL ?_
  refine lv_aload_n hx hb dX6_copies_0 rfl (lv_at hl 0 rfl) ?_
  refine q_getR hx hb hts hi_X6 hown hK hP ob_35 rfl 9 (by decide) rfl (hts (.fieldLink RX6 29 "MirrorNetModel" "speed" "[I") (by decide +kernel)) (fun _ h9 => h9) dX6_copies_1 ?_
  refine lv_iload_n hx hb dX6_copies_4 rfl (lv_at hl 1 rfl) ?_
  obtain ⟨hk36, h⟩ := q_ck h
  refine q_iald hx hb hK hP ar_41 hk36 dX6_copies_5 ?_
  refine lv_topi (fun v37 ev37 => ?_)
  have h := q_nxe ev37 h
  refine lv_istore_n (lv' := [(2, .int v37), (0, .ref (ad 35)), (1, .int x1)]) hx hb dX6_copies_6 rfl hl (by decide) rfl (fun ls hl => ?_)
  exact L_lq_X6_copies_7 FU M v37 H locs ls  h hP hS (lv_sub hl [1, 2, 0] rfl)
def rm_X6_turns : Room := { frames := 1, cells := 0, slots := 0, locals := 23 }
set_option maxHeartbeats 4000000 in
set_option maxRecDepth 100000 in
theorem ct_X6_turns (l : Launch) {D : va_G} {ad : Nat → Nat} {kc : Nat → ClassId} {nm z : Nat} (hAD : AD ad nm z) {M : Mem} {x1 : Int32} {Mr : Mem}  (h : fn_X6_turns M x1 = some Mr) : Met l yX6_turns wsX6_turns rm_X6_turns (va_Pc [.ref (ad 35), .int x1] (GW D ad kc nm z M)) (QWv D ad kc nm z Mr) 0 0 (fun q => z ≤ q) := by
  refine q_met (cc := cX6_turns) (maxL := 5) (ret := none) (by decide) rfl (Nat.le_of_ble_eq_true rfl) ?_
  intro p e s m args below meth c Q ls hx hb hr hlk hml hown hts hB hQ hl
  obtain ⟨hP, hK, hz, hN⟩ := hB
  have hown : s.vm.findClass RX6 = some m.cls := hown
  have hl : lv_has ls 5 [(0, .ref (ad 35)), (1, .int x1)] := hl
  have hi_X6 : ∀ w ∈ u_ws RX6 TX6 40, w ∈ wsX6_turns := by decide +kernel
  have hS : va_S (fun q => z ≤ q) s.heap s.heap [] := va_S.rf
  have L_lq_X6_turns_104 : ∀ (n104 : Nat) (M : Mem) (x2 : Int32) (H : Heap) (locs : List Loc) (ls : Array Slot), it2 (lq_X6_turns_104 x1) n104 M x2 = some Mr → va_P D vwCl (wl ad kc nm M) H → va_S (fun q => z ≤ q) s.heap H locs → lv_has ls 5 [(0, .ref (ad 35)), (1, .int x1), (2, .int x2)] → W p l e rm_X6_turns s m args below meth c H locs 0 0 Q (F0 m 104 ls []) := by
    intro n104
    induction n104 with
    | zero =>
      intro M x2 H locs ls h hP hS hl
      exact (it2_0 h).elim
    | succ n104 ih104 =>
      have B_bk_X6_turns_217 : ∀ (M : Mem) (x2 : Int32) (sx1 : Int32) (sx2 : Int32) (H : Heap) (locs : List Loc) (ls : Array Slot), bk_X6_turns_217 (it2 (lq_X6_turns_104 x1) n104) M x1 x2 sx1 sx2 = some Mr → va_P D vwCl (wl ad kc nm M) H → va_S (fun q => z ≤ q) s.heap H locs → lv_has ls 5 [(0, .ref (ad 35)), (1, .int x1), (2, .int x2)] → W p l e rm_X6_turns s m args below meth c H locs 0 0 Q (F0 m 217 ls [.int sx2, .int sx1, .ref (ad 48)]) := by
        intro M x2 sx1 sx2 H locs ls h hP hS hl
        obtain ⟨hk1, h⟩ := q_ck h
        obtain ⟨M2, eM2, h⟩ := q_nx h
        refine q_zast hx hb hK hP hAD hS ar_48 hk1 dX6_turns_217 (fun H locs hP hS => ?_)
        rw [← eM2] at hP
        obtain ⟨v3, ev3, h⟩ := q_nx h
        refine lv_iinc (v := v3) (lv' := [(2, .int v3), (0, .ref (ad 35)), (1, .int x1)]) hx hb dX6_turns_218 hl (k := 2) rfl (by rw [ev3]; rfl) (by decide) rfl (fun ls hl => ?_)
        refine lv_goto (tgt := 104) hx hb dX6_turns_221 (by decide) ?_
        exact ih104 M2 v3 H locs ls  h hP hS (lv_sub hl [1, 2, 0] rfl)
      have B_bk_X6_turns_216 : ∀ (M : Mem) (x2 : Int32) (sx1 : Int32) (H : Heap) (locs : List Loc) (ls : Array Slot), bk_X6_turns_216 (it2 (lq_X6_turns_104 x1) n104) M x1 x2 sx1 = some Mr → va_P D vwCl (wl ad kc nm M) H → va_S (fun q => z ≤ q) s.heap H locs → lv_has ls 5 [(0, .ref (ad 35)), (1, .int x1), (2, .int x2)] → W p l e rm_X6_turns s m args below meth c H locs 0 0 Q (F0 m 216 ls [.int sx1, .ref (ad 48)]) := by
        intro M x2 sx1 H locs ls h hP hS hl
        refine lv_iconst (v := 0) hx hb dX6_turns_216 (by decide) ?_
        exact B_bk_X6_turns_217 M x2 sx1 (0 : Int32) H locs ls  h hP hS (lv_sub hl [0, 1, 2] rfl)
      have B_bk_X6_turns_184 : ∀ (M : Mem) (x2 : Int32) (x3 : Int32) (H : Heap) (locs : List Loc) (ls : Array Slot), bk_X6_turns_184 (it2 (lq_X6_turns_104 x1) n104) M x1 x2 x3 = some Mr → va_P D vwCl (wl ad kc nm M) H → va_S (fun q => z ≤ q) s.heap H locs → lv_has ls 5 [(0, .ref (ad 35)), (1, .int x1), (2, .int x2), (3, .int x3)] → W p l e rm_X6_turns s m args below meth c H locs 0 0 Q (F0 m 184 ls []) := by
        intro M x2 x3 H locs ls h hP hS hl
        refine lv_aload_n hx hb dX6_turns_184 rfl (lv_at hl 0 rfl) ?_
        refine q_getR hx hb hts hi_X6 hown hK hP ob_35 rfl 16 (by decide) rfl (hts (.fieldLink RX6 51 "MirrorNetModel" "hasFile" "[Z") (by decide +kernel)) (fun _ h9 => h9) dX6_turns_185 ?_
        refine lv_bipush (v := 60) hx hb dX6_turns_188 (by decide) ?_
        refine lv_iload_n hx hb dX6_turns_190 rfl (lv_at hl 1 rfl) ?_
        refine lv_imul hx hb dX6_turns_191 ?_
        refine lv_iload_n hx hb dX6_turns_192 rfl (lv_at hl 2 rfl) ?_
        refine lv_iadd hx hb dX6_turns_193 ?_
        refine lv_aload_n hx hb dX6_turns_194 rfl (lv_at hl 0 rfl) ?_
        refine q_getR hx hb hts hi_X6 hown hK hP ob_35 rfl 16 (by decide) rfl (hts (.fieldLink RX6 51 "MirrorNetModel" "hasFile" "[Z") (by decide +kernel)) (fun _ h9 => h9) dX6_turns_195 ?_
        refine lv_bipush (v := 60) hx hb dX6_turns_198 (by decide) ?_
        refine lv_iload_n hx hb dX6_turns_200 rfl (lv_at hl 1 rfl) ?_
        refine lv_imul hx hb dX6_turns_201 ?_
        refine lv_iload_n hx hb dX6_turns_202 rfl (lv_at hl 2 rfl) ?_
        refine lv_iadd hx hb dX6_turns_203 ?_
        obtain ⟨hk4, h⟩ := q_ck h
        refine q_zald hx hb hK hP ar_48 hk4 dX6_turns_204 ?_
        refine lv_if_eq (tgt := 216) hx hb dX6_turns_205 (by decide) (fun c5 => ?_) (fun c5 => ?_)
        · have h := q_t c5 h
          exact B_bk_X6_turns_216 M x2 (((60 : Int32) * x1) + x2) H locs ls  h hP hS (lv_sub hl [0, 1, 2] rfl)
        · have h := q_f c5 h
          refine lv_iload_n hx hb dX6_turns_208 rfl (lv_at hl 3 rfl) ?_
          refine lv_if_eq (tgt := 216) hx hb dX6_turns_209 (by decide) (fun c6 => ?_) (fun c6 => ?_)
          · have h := q_t c6 h
            exact B_bk_X6_turns_216 M x2 (((60 : Int32) * x1) + x2) H locs ls  h hP hS (lv_sub hl [0, 1, 2] rfl)
          · have h := q_f c6 h
            refine lv_iconst (v := 1) hx hb dX6_turns_212 (by decide) ?_
            refine lv_goto (tgt := 217) hx hb dX6_turns_213 (by decide) ?_
            exact B_bk_X6_turns_217 M x2 (((60 : Int32) * x1) + x2) (1 : Int32) H locs ls  h hP hS (lv_sub hl [0, 1, 2] rfl)
      have L_lq_X6_turns_127 : ∀ (M : Mem) (x2 : Int32), ∀ (n127 : Nat) (x3 : Int32) (x4 : Int32) (H : Heap) (locs : List Loc) (ls : Array Slot), it2 (lq_X6_turns_127 (it2 (lq_X6_turns_104 x1) n104) M x1 x2) n127 x3 x4 = some Mr → va_P D vwCl (wl ad kc nm M) H → va_S (fun q => z ≤ q) s.heap H locs → lv_has ls 5 [(0, .ref (ad 35)), (1, .int x1), (2, .int x2), (3, .int x3), (4, .int x4)] → W p l e rm_X6_turns s m args below meth c H locs 0 0 Q (F0 m 127 ls []) := by
        intro M x2 n127
        induction n127 with
        | zero =>
          intro x3 x4 H locs ls h hP hS hl
          exact (it2_0 h).elim
        | succ n127 ih127 =>
          have B_bk_X6_turns_177 : ∀ (x4 : Int32) (sx0 : Int32) (H : Heap) (locs : List Loc) (ls : Array Slot), bk_X6_turns_177 (it2 (lq_X6_turns_104 x1) n104) (it2 (lq_X6_turns_127 (it2 (lq_X6_turns_104 x1) n104) M x1 x2) n127) M x1 x2 x4 sx0 = some Mr → va_P D vwCl (wl ad kc nm M) H → va_S (fun q => z ≤ q) s.heap H locs → lv_has ls 5 [(0, .ref (ad 35)), (1, .int x1), (2, .int x2), (4, .int x4)] → W p l e rm_X6_turns s m args below meth c H locs 0 0 Q (F0 m 177 ls [.int sx0]) := by
            intro x4 sx0 H locs ls h hP hS hl
            refine lv_istore_n (lv' := [(3, .int sx0), (0, .ref (ad 35)), (1, .int x1), (2, .int x2), (4, .int x4)]) hx hb dX6_turns_177 rfl hl (by decide) rfl (fun ls hl => ?_)
            obtain ⟨v7, ev7, h⟩ := q_nx h
            refine lv_iinc (v := v7) (lv' := [(4, .int v7), (3, .int sx0), (0, .ref (ad 35)), (1, .int x1), (2, .int x2)]) hx hb dX6_turns_178 hl (k := 4) rfl (by rw [ev7]; rfl) (by decide) rfl (fun ls hl => ?_)
            refine lv_goto (tgt := 127) hx hb dX6_turns_181 (by decide) ?_
            exact ih127 sx0 v7 H locs ls  h hP hS (lv_sub hl [2, 3, 4, 1, 0] rfl)
          have B_bk_X6_turns_172 : ∀ (x4 : Int32) (H : Heap) (locs : List Loc) (ls : Array Slot), bk_X6_turns_172 (it2 (lq_X6_turns_104 x1) n104) (it2 (lq_X6_turns_127 (it2 (lq_X6_turns_104 x1) n104) M x1 x2) n127) M x1 x2 x4 = some Mr → va_P D vwCl (wl ad kc nm M) H → va_S (fun q => z ≤ q) s.heap H locs → lv_has ls 5 [(0, .ref (ad 35)), (1, .int x1), (2, .int x2), (4, .int x4)] → W p l e rm_X6_turns s m args below meth c H locs 0 0 Q (F0 m 172 ls []) := by
            intro x4 H locs ls h hP hS hl
            refine lv_iconst (v := 1) hx hb dX6_turns_172 (by decide) ?_
            refine lv_goto (tgt := 177) hx hb dX6_turns_173 (by decide) ?_
            exact B_bk_X6_turns_177 x4 (1 : Int32) H locs ls  h hP hS (lv_sub hl [0, 1, 2, 3] rfl)
          intro x3 x4 H locs ls h hP hS hl
          have h := it2_s h
          refine lv_iload hx hb dX6_turns_127 (lv_at hl 4 rfl) ?_
          refine lv_aload_n hx hb dX6_turns_129 rfl (lv_at hl 0 rfl) ?_
          refine q_getR hx hb hts hi_X6 hown hK hP ob_35 rfl 10 (by decide) rfl (hts (.fieldLink RX6 32 "MirrorNetModel" "keep" "[I") (by decide +kernel)) (fun _ h9 => h9) dX6_turns_130 ?_
          refine lv_iload_n hx hb dX6_turns_133 rfl (lv_at hl 1 rfl) ?_
          obtain ⟨hk8, h⟩ := q_ck h
          refine q_iald hx hb hK hP ar_42 hk8 dX6_turns_134 ?_
          refine lv_icmp_ge (tgt := 184) hx hb dX6_turns_135 (by decide) (fun c9 => ?_) (fun c9 => ?_)
          · have h := q_t c9 h
            exact B_bk_X6_turns_184 M x2 x3 H locs ls  h hP hS (lv_sub hl [0, 1, 2, 3] rfl)
          · have h := q_f c9 h
            refine lv_iload hx hb dX6_turns_138 (lv_at hl 4 rfl) ?_
            refine lv_aload_n hx hb dX6_turns_140 rfl (lv_at hl 0 rfl) ?_
            refine q_getR hx hb hts hi_X6 hown hK hP ob_35 rfl 18 (by decide) rfl (hts (.fieldLink RX6 57 "MirrorNetModel" "aheadMany" "[I") (by decide +kernel)) (fun _ h9 => h9) dX6_turns_141 ?_
            refine lv_iload_n hx hb dX6_turns_144 rfl (lv_at hl 1 rfl) ?_
            obtain ⟨hk10, h⟩ := q_ck h
            refine q_iald hx hb hK hP ar_50 hk10 dX6_turns_145 ?_
            refine lv_icmp_ge (tgt := 184) hx hb dX6_turns_146 (by decide) (fun c11 => ?_) (fun c11 => ?_)
            · have h := q_t c11 h
              exact B_bk_X6_turns_184 M x2 x3 H locs ls  h hP hS (lv_sub hl [0, 1, 2, 3] rfl)
            · have h := q_f c11 h
              refine lv_iload_n hx hb dX6_turns_149 rfl (lv_at hl 3 rfl) ?_
              refine lv_if_ne (tgt := 172) hx hb dX6_turns_150 (by decide) (fun c12 => ?_) (fun c12 => ?_)
              · have h := q_f c12 h
                exact B_bk_X6_turns_172 x4 H locs ls  h hP hS (lv_sub hl [0, 1, 2, 4] rfl)
              · have h := q_t c12 h
                refine lv_aload_n hx hb dX6_turns_153 rfl (lv_at hl 0 rfl) ?_
                refine lv_aload_n hx hb dX6_turns_154 rfl (lv_at hl 0 rfl) ?_
                refine q_getR hx hb hts hi_X6 hown hK hP ob_35 rfl 17 (by decide) rfl (hts (.fieldLink RX6 54 "MirrorNetModel" "ahead" "[I") (by decide +kernel)) (fun _ h9 => h9) dX6_turns_155 ?_
                refine lv_iconst (v := 3) hx hb dX6_turns_158 (by decide) ?_
                refine lv_iload_n hx hb dX6_turns_159 rfl (lv_at hl 1 rfl) ?_
                refine lv_imul hx hb dX6_turns_160 ?_
                refine lv_iload hx hb dX6_turns_161 (lv_at hl 4 rfl) ?_
                refine lv_iadd hx hb dX6_turns_163 ?_
                obtain ⟨hk13, h⟩ := q_ck h
                refine q_iald hx hb hK hP ar_49 hk13 dX6_turns_164 ?_
                refine lv_iload_n hx hb dX6_turns_165 rfl (lv_at hl 2 rfl) ?_
                obtain ⟨r15, hc14, h⟩ := q_bd1 h
                refine q_cRz (va_runV (C := RX6) (As := [.int (gI M 49 (ix (((3 : Int32) * x1) + x4))), .int x2]) (rest := []) ⟨hx, hb, hml, hown, hts⟩ (ct_X6_isNamed l hAD (M := M) hc14) (cwV 2 hts gX6_turns_X6_isNamed rfl rfl rfl (by decide +kernel) ⟨Nat.le_of_ble_eq_true rfl, Nat.le_of_ble_eq_true rfl⟩) ⟨gw_blind, gw_recv ob_35 hK hP rfl, gw_pre _ hK hP (Nat.le_trans hz hS.1) hN⟩ rfl rfl hl.1 rfl (lv_room (Nat.le_of_ble_eq_true rfl)) dX6_turns_166 ⟨Nat.zero_le _, Nat.zero_le _⟩) (fun hzr15 => ?_)
                refine lv_if_eq (tgt := 176) hx hb dX6_turns_169 (by decide) (fun c19 => ?_) (fun c19 => ?_)
                · have h := q_t c19 h
                  refine lv_iconst (v := 0) hx hb dX6_turns_176 (by decide) ?_
                  exact B_bk_X6_turns_177 x4 (0 : Int32) H locs ls  h hP hS (lv_sub hl [0, 1, 2, 4] rfl)
                · have h := q_f c19 h
                  exact B_bk_X6_turns_172 x4 H locs ls  h hP hS (lv_sub hl [0, 1, 2, 4] rfl)
      intro M x2 H locs ls h hP hS hl
      have h := it2_s h
      refine lv_iload_n hx hb dX6_turns_104 rfl (lv_at hl 2 rfl) ?_
      refine lv_aload_n hx hb dX6_turns_105 rfl (lv_at hl 0 rfl) ?_
      refine q_getI hx hb hts hi_X6 hown hK hP ob_35 rfl 1 (by decide) rfl (hts (.fieldLink RX6 96 "MirrorNetModel" "files" "I") (by decide +kernel)) (fun _ h9 => h9) dX6_turns_106 ?_
      refine lv_icmp_ge (tgt := 224) hx hb dX6_turns_109 (by decide) (fun c20 => ?_) (fun c20 => ?_)
      · have h := q_t c20 h
        exact q_rWv hQ hx hb hr hlk hP hS h dX6_turns_224
      · have h := q_f c20 h
        refine lv_aload_n hx hb dX6_turns_112 rfl (lv_at hl 0 rfl) ?_
        refine lv_aload_n hx hb dX6_turns_113 rfl (lv_at hl 0 rfl) ?_
        refine q_getR hx hb hts hi_X6 hown hK hP ob_35 rfl 11 (by decide) rfl (hts (.fieldLink RX6 35 "MirrorNetModel" "index" "[I") (by decide +kernel)) (fun _ h9 => h9) dX6_turns_114 ?_
        refine lv_iload_n hx hb dX6_turns_117 rfl (lv_at hl 1 rfl) ?_
        obtain ⟨hk21, h⟩ := q_ck h
        refine q_iald hx hb hK hP ar_43 hk21 dX6_turns_118 ?_
        refine lv_iload_n hx hb dX6_turns_119 rfl (lv_at hl 2 rfl) ?_
        obtain ⟨r23, hc22, h⟩ := q_bd1 h
        refine q_cRz (va_runV (C := RX6) (As := [.int (gI M 43 (ix x1)), .int x2]) (rest := []) ⟨hx, hb, hml, hown, hts⟩ (ct_X6_isNamed l hAD (M := M) hc22) (cwV 2 hts gX6_turns_X6_isNamed rfl rfl rfl (by decide +kernel) ⟨Nat.le_of_ble_eq_true rfl, Nat.le_of_ble_eq_true rfl⟩) ⟨gw_blind, gw_recv ob_35 hK hP rfl, gw_pre _ hK hP (Nat.le_trans hz hS.1) hN⟩ rfl rfl hl.1 rfl (lv_room (Nat.le_of_ble_eq_true rfl)) dX6_turns_120 ⟨Nat.zero_le _, Nat.zero_le _⟩) (fun hzr23 => ?_)
        refine lv_istore_n (lv' := [(3, .int r23), (0, .ref (ad 35)), (1, .int x1), (2, .int x2)]) hx hb dX6_turns_123 rfl hl (by decide) rfl (fun ls hl => ?_)
        refine lv_iconst (v := 0) hx hb dX6_turns_124 (by decide) ?_
        refine lv_istore (lv' := [(4, .int (0 : Int32)), (3, .int r23), (0, .ref (ad 35)), (1, .int x1), (2, .int x2)]) hx hb dX6_turns_125 hl (by decide) rfl (fun ls hl => ?_)
        exact L_lq_X6_turns_127 M x2 FU r23 (0 : Int32) H locs ls  h hP hS (lv_sub hl [2, 3, 4, 1, 0] rfl)
  have B_bk_X6_turns_75 : ∀ (M : Mem) (sx1 : Int32) (sx2 : Int32) (H : Heap) (locs : List Loc) (ls : Array Slot), bk_X6_turns_75 M x1 sx1 sx2 = some Mr → va_P D vwCl (wl ad kc nm M) H → va_S (fun q => z ≤ q) s.heap H locs → lv_has ls 5 [(0, .ref (ad 35)), (1, .int x1)] → W p l e rm_X6_turns s m args below meth c H locs 0 0 Q (F0 m 75 ls [.int sx2, .int sx1, .ref (ad 50)]) := by
    intro M sx1 sx2 H locs ls h hP hS hl
    obtain ⟨hk27, h⟩ := q_ck h
    obtain ⟨M28, eM28, h⟩ := q_nx h
    refine q_iast hx hb hK hP hAD hS ar_50 hk27 dX6_turns_75 (fun H locs hP hS => ?_)
    rw [← eM28] at hP
    refine lv_aload_n hx hb dX6_turns_76 rfl (lv_at hl 0 rfl) ?_
    refine q_getR hx hb hts hi_X6 hown hK hP ob_35 rfl 11 (by decide) rfl (hts (.fieldLink RX6 35 "MirrorNetModel" "index" "[I") (by decide +kernel)) (fun _ h9 => h9) dX6_turns_77 ?_
    refine lv_iload_n hx hb dX6_turns_80 rfl (lv_at hl 1 rfl) ?_
    refine lv_aload_n hx hb dX6_turns_81 rfl (lv_at hl 0 rfl) ?_
    refine q_getR hx hb hts hi_X6 hown hK hP ob_35 rfl 12 (by decide) rfl (hts (.fieldLink RX6 38 "MirrorNetModel" "target" "[I") (by decide +kernel)) (fun _ h9 => h9) dX6_turns_82 ?_
    refine lv_iload_n hx hb dX6_turns_85 rfl (lv_at hl 1 rfl) ?_
    obtain ⟨hk29, h⟩ := q_ck h
    refine q_iald hx hb hK hP ar_44 hk29 dX6_turns_86 ?_
    obtain ⟨hk30, h⟩ := q_ck h
    obtain ⟨M31, eM31, h⟩ := q_nx h
    refine q_iast hx hb hK hP hAD hS ar_43 hk30 dX6_turns_87 (fun H locs hP hS => ?_)
    rw [← eM31] at hP
    refine lv_aload_n hx hb dX6_turns_88 rfl (lv_at hl 0 rfl) ?_
    refine q_getR hx hb hts hi_X6 hown hK hP ob_35 rfl 12 (by decide) rfl (hts (.fieldLink RX6 38 "MirrorNetModel" "target" "[I") (by decide +kernel)) (fun _ h9 => h9) dX6_turns_89 ?_
    refine lv_iload_n hx hb dX6_turns_92 rfl (lv_at hl 1 rfl) ?_
    refine lv_iconst (v := -1) hx hb dX6_turns_93 (by decide) ?_
    obtain ⟨hk32, h⟩ := q_ck h
    obtain ⟨M33, eM33, h⟩ := q_nx h
    refine q_iast hx hb hK hP hAD hS ar_44 hk32 dX6_turns_94 (fun H locs hP hS => ?_)
    rw [← eM33] at hP
    refine lv_aload_n hx hb dX6_turns_95 rfl (lv_at hl 0 rfl) ?_
    refine q_getR hx hb hts hi_X6 hown hK hP ob_35 rfl 13 (by decide) rfl (hts (.fieldLink RX6 41 "MirrorNetModel" "done" "[I") (by decide +kernel)) (fun _ h9 => h9) dX6_turns_96 ?_
    refine lv_iload_n hx hb dX6_turns_99 rfl (lv_at hl 1 rfl) ?_
    refine lv_iconst (v := 0) hx hb dX6_turns_100 (by decide) ?_
    obtain ⟨hk34, h⟩ := q_ck h
    obtain ⟨M35, eM35, h⟩ := q_nx h
    refine q_iast hx hb hK hP hAD hS ar_45 hk34 dX6_turns_101 (fun H locs hP hS => ?_)
    rw [← eM35] at hP
    refine lv_iconst (v := 0) hx hb dX6_turns_102 (by decide) ?_
    refine lv_istore_n (lv' := [(2, .int (0 : Int32)), (0, .ref (ad 35)), (1, .int x1)]) hx hb dX6_turns_103 rfl hl (by decide) rfl (fun ls hl => ?_)
    exact L_lq_X6_turns_104 FU M35 (0 : Int32) H locs ls  h hP hS (lv_sub hl [1, 2, 0] rfl)
  have L_lq_X6_turns_2 : ∀ (n2 : Nat) (M : Mem) (x2 : Int32) (H : Heap) (locs : List Loc) (ls : Array Slot), it2 (lq_X6_turns_2 x1) n2 M x2 = some Mr → va_P D vwCl (wl ad kc nm M) H → va_S (fun q => z ≤ q) s.heap H locs → lv_has ls 5 [(0, .ref (ad 35)), (1, .int x1), (2, .int x2)] → W p l e rm_X6_turns s m args below meth c H locs 0 0 Q (F0 m 2 ls []) := by
    intro n2
    induction n2 with
    | zero =>
      intro M x2 H locs ls h hP hS hl
      exact (it2_0 h).elim
    | succ n2 ih2 =>
      intro M x2 H locs ls h hP hS hl
      have h := it2_s h
      refine lv_iload_n hx hb dX6_turns_2 rfl (lv_at hl 2 rfl) ?_
      refine lv_if_le (tgt := 34) hx hb dX6_turns_3 (by decide) (fun c36 => ?_) (fun c36 => ?_)
      · have h := q_t c36 h
        refine lv_aload_n hx hb dX6_turns_34 rfl (lv_at hl 0 rfl) ?_
        refine q_getR hx hb hts hi_X6 hown hK hP ob_35 rfl 17 (by decide) rfl (hts (.fieldLink RX6 54 "MirrorNetModel" "ahead" "[I") (by decide +kernel)) (fun _ h9 => h9) dX6_turns_35 ?_
        refine lv_iconst (v := 3) hx hb dX6_turns_38 (by decide) ?_
        refine lv_iload_n hx hb dX6_turns_39 rfl (lv_at hl 1 rfl) ?_
        refine lv_imul hx hb dX6_turns_40 ?_
        refine lv_aload_n hx hb dX6_turns_41 rfl (lv_at hl 0 rfl) ?_
        refine q_getR hx hb hts hi_X6 hown hK hP ob_35 rfl 11 (by decide) rfl (hts (.fieldLink RX6 35 "MirrorNetModel" "index" "[I") (by decide +kernel)) (fun _ h9 => h9) dX6_turns_42 ?_
        refine lv_iload_n hx hb dX6_turns_45 rfl (lv_at hl 1 rfl) ?_
        obtain ⟨hk37, h⟩ := q_ck h
        refine q_iald hx hb hK hP ar_43 hk37 dX6_turns_46 ?_
        obtain ⟨hk38, h⟩ := q_ck h
        obtain ⟨M39, eM39, h⟩ := q_nx h
        refine q_iast hx hb hK hP hAD hS ar_49 hk38 dX6_turns_47 (fun H locs hP hS => ?_)
        rw [← eM39] at hP
        refine lv_aload_n hx hb dX6_turns_48 rfl (lv_at hl 0 rfl) ?_
        refine q_getR hx hb hts hi_X6 hown hK hP ob_35 rfl 18 (by decide) rfl (hts (.fieldLink RX6 57 "MirrorNetModel" "aheadMany" "[I") (by decide +kernel)) (fun _ h9 => h9) dX6_turns_49 ?_
        refine lv_iload_n hx hb dX6_turns_52 rfl (lv_at hl 1 rfl) ?_
        refine lv_aload_n hx hb dX6_turns_53 rfl (lv_at hl 0 rfl) ?_
        refine q_getR hx hb hts hi_X6 hown hK hP ob_35 rfl 18 (by decide) rfl (hts (.fieldLink RX6 57 "MirrorNetModel" "aheadMany" "[I") (by decide +kernel)) (fun _ h9 => h9) dX6_turns_54 ?_
        refine lv_iload_n hx hb dX6_turns_57 rfl (lv_at hl 1 rfl) ?_
        obtain ⟨hk40, h⟩ := q_ck h
        refine q_iald hx hb hK hP ar_50 hk40 dX6_turns_58 ?_
        refine lv_iconst (v := 3) hx hb dX6_turns_59 (by decide) ?_
        refine lv_icmp_ge (tgt := 74) hx hb dX6_turns_60 (by decide) (fun c41 => ?_) (fun c41 => ?_)
        · have h := q_t c41 h
          refine lv_iconst (v := 3) hx hb dX6_turns_74 (by decide) ?_
          exact B_bk_X6_turns_75 M39 x1 (3 : Int32) H locs ls  h hP hS (lv_sub hl [0, 1] rfl)
        · have h := q_f c41 h
          refine lv_aload_n hx hb dX6_turns_63 rfl (lv_at hl 0 rfl) ?_
          refine q_getR hx hb hts hi_X6 hown hK hP ob_35 rfl 18 (by decide) rfl (hts (.fieldLink RX6 57 "MirrorNetModel" "aheadMany" "[I") (by decide +kernel)) (fun _ h9 => h9) dX6_turns_64 ?_
          refine lv_iload_n hx hb dX6_turns_67 rfl (lv_at hl 1 rfl) ?_
          obtain ⟨hk42, h⟩ := q_ck h
          refine q_iald hx hb hK hP ar_50 hk42 dX6_turns_68 ?_
          refine lv_iconst (v := 1) hx hb dX6_turns_69 (by decide) ?_
          refine lv_iadd hx hb dX6_turns_70 ?_
          refine lv_goto (tgt := 75) hx hb dX6_turns_71 (by decide) ?_
          exact B_bk_X6_turns_75 M39 x1 ((gI M39 50 (ix x1)) + (1 : Int32)) H locs ls  h hP hS (lv_sub hl [0, 1] rfl)
      · have h := q_f c36 h
        refine lv_aload_n hx hb dX6_turns_6 rfl (lv_at hl 0 rfl) ?_
        refine q_getR hx hb hts hi_X6 hown hK hP ob_35 rfl 17 (by decide) rfl (hts (.fieldLink RX6 54 "MirrorNetModel" "ahead" "[I") (by decide +kernel)) (fun _ h9 => h9) dX6_turns_7 ?_
        refine lv_iconst (v := 3) hx hb dX6_turns_10 (by decide) ?_
        refine lv_iload_n hx hb dX6_turns_11 rfl (lv_at hl 1 rfl) ?_
        refine lv_imul hx hb dX6_turns_12 ?_
        refine lv_iload_n hx hb dX6_turns_13 rfl (lv_at hl 2 rfl) ?_
        refine lv_iadd hx hb dX6_turns_14 ?_
        refine lv_aload_n hx hb dX6_turns_15 rfl (lv_at hl 0 rfl) ?_
        refine q_getR hx hb hts hi_X6 hown hK hP ob_35 rfl 17 (by decide) rfl (hts (.fieldLink RX6 54 "MirrorNetModel" "ahead" "[I") (by decide +kernel)) (fun _ h9 => h9) dX6_turns_16 ?_
        refine lv_iconst (v := 3) hx hb dX6_turns_19 (by decide) ?_
        refine lv_iload_n hx hb dX6_turns_20 rfl (lv_at hl 1 rfl) ?_
        refine lv_imul hx hb dX6_turns_21 ?_
        refine lv_iload_n hx hb dX6_turns_22 rfl (lv_at hl 2 rfl) ?_
        refine lv_iadd hx hb dX6_turns_23 ?_
        refine lv_iconst (v := 1) hx hb dX6_turns_24 (by decide) ?_
        refine lv_isub hx hb dX6_turns_25 ?_
        obtain ⟨hk43, h⟩ := q_ck h
        refine q_iald hx hb hK hP ar_49 hk43 dX6_turns_26 ?_
        obtain ⟨hk44, h⟩ := q_ck h
        obtain ⟨M45, eM45, h⟩ := q_nx h
        refine q_iast hx hb hK hP hAD hS ar_49 hk44 dX6_turns_27 (fun H locs hP hS => ?_)
        rw [← eM45] at hP
        obtain ⟨v46, ev46, h⟩ := q_nx h
        refine lv_iinc (v := v46) (lv' := [(2, .int v46), (0, .ref (ad 35)), (1, .int x1)]) hx hb dX6_turns_28 hl (k := 2) rfl (by rw [ev46]; rfl) (by decide) rfl (fun ls hl => ?_)
        refine lv_goto (tgt := 2) hx hb dX6_turns_31 (by decide) ?_
        exact ih2 M45 v46 H locs ls  h hP hS (lv_sub hl [1, 2, 0] rfl)
  obtain ⟨H, eH⟩ : ∃ H : Heap, H = s.heap := ⟨_, rfl⟩
  obtain ⟨locs, eL⟩ : ∃ L : List Loc, L = [] := ⟨_, rfl⟩
  have hP : va_P D vwCl (wl ad kc nm M) H := by rw [eH]; exact hP
  have hS : va_S (fun q => z ≤ q) s.heap H locs := by rw [eH, eL]; exact hS
  refine q_start eH eL ?_
  refine lv_iconst (v := 2) hx hb dX6_turns_0 (by decide) ?_
  refine lv_istore_n (lv' := [(2, .int (2 : Int32)), (0, .ref (ad 35)), (1, .int x1)]) hx hb dX6_turns_1 rfl hl (by decide) rfl (fun ls hl => ?_)
  exact L_lq_X6_turns_2 FU M (2 : Int32) H locs ls  h hP hS (lv_sub hl [1, 2, 0] rfl)
