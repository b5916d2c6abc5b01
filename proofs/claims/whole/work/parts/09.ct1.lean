def rm_X5_isWithin : Room := { frames := 0, cells := 0, slots := 0, locals := 0 }
set_option maxHeartbeats 4000000 in
set_option maxRecDepth 100000 in
theorem ct_X5_isWithin (l : Launch) {D : va_G} {ad : Nat → Nat} {kc : Nat → ClassId} {nm z : Nat} (hAD : AD ad nm z) {M : Mem} {x0 : Int32} {x1 : Int32} {x2 : Int32} {r : Int32}  (h : fn_X5_isWithin x0 x1 x2 = some r) : Met l yX5_isWithin wsX5_isWithin rm_X5_isWithin (va_Pc [.int x0, .int x1, .int x2] (GW D ad kc nm z M)) (QRz r) 0 0 (fun _ => False) := by
  refine q_met (cc := cX5_isWithin) (maxL := 3) (ret := (some .boolean)) (by decide) rfl (Nat.le_of_ble_eq_true rfl) ?_
  intro p e s m args below meth c Q ls hx hb hr hlk hml hown hts hB hQ hl
  obtain ⟨hP, hK, hz, hN⟩ := hB
  have hown : s.vm.findClass RX5 = some m.cls := hown
  have hl : lv_has ls 3 [(0, .int x0), (1, .int x1), (2, .int x2)] := hl
  refine lv_iload_n hx hb dX5_isWithin_0 rfl (lv_at hl 0 rfl) ?_
  refine lv_iload_n hx hb dX5_isWithin_1 rfl (lv_at hl 1 rfl) ?_
  refine lv_icmp_lt (tgt := 14) hx hb dX5_isWithin_2 (by decide) (fun c1 => ?_) (fun c1 => ?_)
  · have h := q_t c1 h
    refine lv_iconst (v := 0) hx hb dX5_isWithin_14 (by decide) ?_
    exact q_rRz hQ hx hb hr hlk h (Or.inl rfl) dX5_isWithin_15
  · have h := q_f c1 h
    refine lv_iload_n hx hb dX5_isWithin_5 rfl (lv_at hl 0 rfl) ?_
    refine lv_iload_n hx hb dX5_isWithin_6 rfl (lv_at hl 2 rfl) ?_
    refine lv_icmp_gt (tgt := 14) hx hb dX5_isWithin_7 (by decide) (fun c2 => ?_) (fun c2 => ?_)
    · have h := q_t c2 h
      refine lv_iconst (v := 0) hx hb dX5_isWithin_14 (by decide) ?_
      exact q_rRz hQ hx hb hr hlk h (Or.inl rfl) dX5_isWithin_15
    · have h := q_f c2 h
      refine lv_iconst (v := 1) hx hb dX5_isWithin_10 (by decide) ?_
      refine lv_goto (tgt := 15) hx hb dX5_isWithin_11 (by decide) ?_
      exact q_rRz hQ hx hb hr hlk h (Or.inr rfl) dX5_isWithin_15
def rm_X0_costOf : Room := { frames := 1, cells := 0, slots := 0, locals := 22 }
set_option maxHeartbeats 4000000 in
set_option maxRecDepth 100000 in
theorem ct_X0_costOf (l : Launch) {D : va_G} {ad : Nat → Nat} {kc : Nat → ClassId} {nm z : Nat} (hAD : AD ad nm z) {M : Mem} {n0 : Nat} {x1 : Int32} {r : Int32} (hn0 : n0 < 6) (h : fn_X0_costOf M n0 x1 = some r) : Met l yX0_costOf wsX0_costOf rm_X0_costOf (va_Pc [.ref (ad (13 + 3 * n0)), .int x1] (GW D ad kc nm z M)) (QRi r) 0 0 (fun _ => False) := by
  refine q_met (cc := cX0_costOf) (maxL := 2) (ret := (some .int)) (by decide) rfl (Nat.le_of_ble_eq_true rfl) ?_
  intro p e s m args below meth c Q ls hx hb hr hlk hml hown hts hB hQ hl
  obtain ⟨hP, hK, hz, hN⟩ := hB
  have hown : s.vm.findClass RX0 = some m.cls := hown
  have hl : lv_has ls 2 [(0, .ref (ad (13 + 3 * n0))), (1, .int x1)] := hl
  have hi_X0 : ∀ w ∈ u_ws RX0 TX0 6, w ∈ wsX0_costOf := by decide +kernel
  refine lv_iload_n hx hb dX0_costOf_0 rfl (lv_at hl 1 rfl) ?_
  refine lv_iconst (v := 0) hx hb dX0_costOf_1 (by decide) ?_
  refine lv_bipush (v := 7) hx hb dX0_costOf_2 (by decide) ?_
  obtain ⟨r2, hc1, h⟩ := q_bd1 h
  refine q_cRz (va_runSN (As := [.int x1, .int (0 : Int32), .int (7 : Int32)]) (rest := []) ⟨hx, hb, hml, hown, hts⟩ (ct_X5_isWithin l hAD (M := M) hc1) ⟨va_cnB 3 hts gX0_costOf_X5_isWithin_n31 rfl rfl rfl (hN (.methodLinkNest RX0 31 yX5_isWithin "MirrorNet") nw_55) (hts (.initialized RX5) (by decide +kernel)) (by decide +kernel) ⟨Nat.le_of_ble_eq_true rfl, Nat.le_of_ble_eq_true rfl⟩, hts (.static yX5_isWithin) (by decide +kernel), trivial⟩ ⟨gw_blind, gw_pre _ hK hP hz hN⟩ rfl rfl hl.1 rfl (lv_room (Nat.le_of_ble_eq_true rfl)) dX0_costOf_4 ⟨Nat.zero_le _, Nat.zero_le _⟩) (fun hzr2 => ?_)
  refine lv_if_eq (tgt := 19) hx hb dX0_costOf_7 (by decide) (fun c6 => ?_) (fun c6 => ?_)
  · have h := q_t c6 h
    refine lv_iconst (v := -1) hx hb dX0_costOf_19 (by decide) ?_
    exact q_rRi hQ hx hb hr hlk h dX0_costOf_20
  · have h := q_f c6 h
    refine lv_aload_n hx hb dX0_costOf_10 rfl (lv_at hl 0 rfl) ?_
    refine q_getR hx hb hts hi_X0 hown hK hP (ob_asker hn0) rfl 0 (by decide) rfl (hts (.fieldLink RX0 9 "MirrorNet$Asker" "costs" "[I") (by decide +kernel)) (fun _ h9 => h9) dX0_costOf_11 ?_
    refine lv_iload_n hx hb dX0_costOf_14 rfl (lv_at hl 1 rfl) ?_
    obtain ⟨hk7, h⟩ := q_ck h
    refine q_iald hx hb hK hP (ar_asker1 hn0) hk7 dX0_costOf_15 ?_
    refine lv_goto (tgt := 20) hx hb dX0_costOf_16 (by decide) ?_
    exact q_rRi hQ hx hb hr hlk h dX0_costOf_20
def rm_X0_setCost : Room := { frames := 1, cells := 0, slots := 0, locals := 22 }
set_option maxHeartbeats 4000000 in
set_option maxRecDepth 100000 in
theorem ct_X0_setCost (l : Launch) {D : va_G} {ad : Nat → Nat} {kc : Nat → ClassId} {nm z : Nat} (hAD : AD ad nm z) {M : Mem} {n0 : Nat} {x1 : Int32} {x2 : Int32} {Mr : Mem} (hn0 : n0 < 6) (h : fn_X0_setCost M n0 x1 x2 = some Mr) : Met l yX0_setCost wsX0_setCost rm_X0_setCost (va_Pc [.ref (ad (13 + 3 * n0)), .int x1, .int x2] (GW D ad kc nm z M)) (QWv D ad kc nm z Mr) 0 0 (fun q => z ≤ q) := by
  refine q_met (cc := cX0_setCost) (maxL := 3) (ret := none) (by decide) rfl (Nat.le_of_ble_eq_true rfl) ?_
  intro p e s m args below meth c Q ls hx hb hr hlk hml hown hts hB hQ hl
  obtain ⟨hP, hK, hz, hN⟩ := hB
  have hown : s.vm.findClass RX0 = some m.cls := hown
  have hl : lv_has ls 3 [(0, .ref (ad (13 + 3 * n0))), (1, .int x1), (2, .int x2)] := hl
  have hi_X0 : ∀ w ∈ u_ws RX0 TX0 6, w ∈ wsX0_setCost := by decide +kernel
  have hS : va_S (fun q => z ≤ q) s.heap s.heap [] := va_S.rf
  obtain ⟨H, eH⟩ : ∃ H : Heap, H = s.heap := ⟨_, rfl⟩
  obtain ⟨locs, eL⟩ : ∃ L : List Loc, L = [] := ⟨_, rfl⟩
  have hP : va_P D vwCl (wl ad kc nm M) H := by rw [eH]; exact hP
  have hS : va_S (fun q => z ≤ q) s.heap H locs := by rw [eH, eL]; exact hS
  refine q_start eH eL ?_
  refine lv_iload_n hx hb dX0_setCost_0 rfl (lv_at hl 1 rfl) ?_
  refine lv_iconst (v := 0) hx hb dX0_setCost_1 (by decide) ?_
  refine lv_bipush (v := 7) hx hb dX0_setCost_2 (by decide) ?_
  obtain ⟨r2, hc1, h⟩ := q_bd1 h
  refine q_cRz (va_runSN (As := [.int x1, .int (0 : Int32), .int (7 : Int32)]) (rest := []) ⟨hx, hb, hml, hown, hts⟩ (ct_X5_isWithin l hAD (M := M) hc1) ⟨va_cnB 3 hts gX0_setCost_X5_isWithin_n31 rfl rfl rfl (hN (.methodLinkNest RX0 31 yX5_isWithin "MirrorNet") nw_55) (hts (.initialized RX5) (by decide +kernel)) (by decide +kernel) ⟨Nat.le_of_ble_eq_true rfl, Nat.le_of_ble_eq_true rfl⟩, hts (.static yX5_isWithin) (by decide +kernel), trivial⟩ ⟨gw_blind, gw_pre _ hK hP (Nat.le_trans hz hS.1) hN⟩ rfl rfl hl.1 rfl (lv_room (Nat.le_of_ble_eq_true rfl)) dX0_setCost_4 ⟨Nat.zero_le _, Nat.zero_le _⟩) (fun hzr2 => ?_)
  refine lv_if_eq (tgt := 17) hx hb dX0_setCost_7 (by decide) (fun c6 => ?_) (fun c6 => ?_)
  · have h := q_t c6 h
    exact q_rWv hQ hx hb hr hlk hP hS h dX0_setCost_17
  · have h := q_f c6 h
    refine lv_aload_n hx hb dX0_setCost_10 rfl (lv_at hl 0 rfl) ?_
    refine q_getR hx hb hts hi_X0 hown hK hP (ob_asker hn0) rfl 0 (by decide) rfl (hts (.fieldLink RX0 9 "MirrorNet$Asker" "costs" "[I") (by decide +kernel)) (fun _ h9 => h9) dX0_setCost_11 ?_
    refine lv_iload_n hx hb dX0_setCost_14 rfl (lv_at hl 1 rfl) ?_
    refine lv_iload_n hx hb dX0_setCost_15 rfl (lv_at hl 2 rfl) ?_
    obtain ⟨hk7, h⟩ := q_ck h
    obtain ⟨M8, eM8, h⟩ := q_nx h
    refine q_iast hx hb hK hP hAD hS (ar_asker1 hn0) hk7 dX0_setCost_16 (fun H locs hP hS => ?_)
    rw [← eM8] at hP
    exact q_rWv hQ hx hb hr hlk hP hS h dX0_setCost_17
def rm_X5_isIn : Room := { frames := 1, cells := 0, slots := 0, locals := 22 }
set_option maxHeartbeats 4000000 in
set_option maxRecDepth 100000 in
theorem ct_X5_isIn (l : Launch) {D : va_G} {ad : Nat → Nat} {kc : Nat → ClassId} {nm z : Nat} (hAD : AD ad nm z) {M : Mem} {x0 : Int32} {x1 : Int32} {r : Int32}  (h : fn_X5_isIn x0 x1 = some r) : Met l yX5_isIn wsX5_isIn rm_X5_isIn (va_Pc [.int x0, .int x1] (GW D ad kc nm z M)) (QRz r) 0 0 (fun _ => False) := by
  refine q_met (cc := cX5_isIn) (maxL := 2) (ret := (some .boolean)) (by decide) rfl (Nat.le_of_ble_eq_true rfl) ?_
  intro p e s m args below meth c Q ls hx hb hr hlk hml hown hts hB hQ hl
  obtain ⟨hP, hK, hz, hN⟩ := hB
  have hown : s.vm.findClass RX5 = some m.cls := hown
  have hl : lv_has ls 2 [(0, .int x0), (1, .int x1)] := hl
  refine lv_iload_n hx hb dX5_isIn_0 rfl (lv_at hl 1 rfl) ?_
  refine lv_iconst (v := 0) hx hb dX5_isIn_1 (by decide) ?_
  refine lv_bipush (v := 31) hx hb dX5_isIn_2 (by decide) ?_
  obtain ⟨r2, hc1, h⟩ := q_bd1 h
  refine q_cRz (va_runS (As := [.int x1, .int (0 : Int32), .int (31 : Int32)]) (rest := []) ⟨hx, hb, hml, hown, hts⟩ (ct_X5_isWithin l hAD (M := M) hc1) (va_cwS 3 hts gX5_isIn_X5_isWithin rfl rfl rfl (by decide +kernel) ⟨Nat.le_of_ble_eq_true rfl, Nat.le_of_ble_eq_true rfl⟩) ⟨gw_blind, gw_pre _ hK hP hz hN⟩ rfl rfl hl.1 rfl (lv_room (Nat.le_of_ble_eq_true rfl)) dX5_isIn_4 ⟨Nat.zero_le _, Nat.zero_le _⟩) (fun hzr2 => ?_)
  refine lv_if_eq (tgt := 22) hx hb dX5_isIn_7 (by decide) (fun c6 => ?_) (fun c6 => ?_)
  · have h := q_t c6 h
    refine lv_iconst (v := 0) hx hb dX5_isIn_22 (by decide) ?_
    exact q_rRz hQ hx hb hr hlk h (Or.inl rfl) dX5_isIn_23
  · have h := q_f c6 h
    refine lv_iload_n hx hb dX5_isIn_10 rfl (lv_at hl 0 rfl) ?_
    refine lv_iconst (v := 1) hx hb dX5_isIn_11 (by decide) ?_
    refine lv_iload_n hx hb dX5_isIn_12 rfl (lv_at hl 1 rfl) ?_
    refine lv_ishl hx hb dX5_isIn_13 ?_
    refine lv_iand hx hb dX5_isIn_14 ?_
    refine lv_if_eq (tgt := 22) hx hb dX5_isIn_15 (by decide) (fun c7 => ?_) (fun c7 => ?_)
    · have h := q_t c7 h
      refine lv_iconst (v := 0) hx hb dX5_isIn_22 (by decide) ?_
      exact q_rRz hQ hx hb hr hlk h (Or.inl rfl) dX5_isIn_23
    · have h := q_f c7 h
      refine lv_iconst (v := 1) hx hb dX5_isIn_18 (by decide) ?_
      refine lv_goto (tgt := 23) hx hb dX5_isIn_19 (by decide) ?_
      exact q_rRz hQ hx hb hr hlk h (Or.inr rfl) dX5_isIn_23
def rm_X0_knowsAsBad : Room := { frames := 2, cells := 0, slots := 0, locals := 43 }
set_option maxHeartbeats 4000000 in
set_option maxRecDepth 100000 in
theorem ct_X0_knowsAsBad (l : Launch) {D : va_G} {ad : Nat → Nat} {kc : Nat → ClassId} {nm z : Nat} (hAD : AD ad nm z) {M : Mem} {n0 : Nat} {x1 : Int32} {r : Int32} (hn0 : n0 < 6) (h : fn_X0_knowsAsBad M n0 x1 = some r) : Met l yX0_knowsAsBad wsX0_knowsAsBad rm_X0_knowsAsBad (va_Pc [.ref (ad (13 + 3 * n0)), .int x1] (GW D ad kc nm z M)) (QRz r) 0 0 (fun _ => False) := by
  refine q_met (cc := cX0_knowsAsBad) (maxL := 2) (ret := (some .boolean)) (by decide) rfl (Nat.le_of_ble_eq_true rfl) ?_
  intro p e s m args below meth c Q ls hx hb hr hlk hml hown hts hB hQ hl
  obtain ⟨hP, hK, hz, hN⟩ := hB
  have hown : s.vm.findClass RX0 = some m.cls := hown
  have hl : lv_has ls 2 [(0, .ref (ad (13 + 3 * n0))), (1, .int x1)] := hl
  have hi_X0 : ∀ w ∈ u_ws RX0 TX0 6, w ∈ wsX0_knowsAsBad := by decide +kernel
  refine lv_aload_n hx hb dX0_knowsAsBad_0 rfl (lv_at hl 0 rfl) ?_
  refine q_getI hx hb hts hi_X0 hown hK hP (ob_asker hn0) rfl 5 (by decide) rfl (hts (.fieldLink RX0 35 "MirrorNet$Asker" "bad" "I") (by decide +kernel)) (fun _ h9 => h9) dX0_knowsAsBad_1 ?_
  refine lv_iload_n hx hb dX0_knowsAsBad_4 rfl (lv_at hl 1 rfl) ?_
  obtain ⟨r2, hc1, h⟩ := q_bd1 h
  refine q_cRz (va_runSN (As := [.int (gI M (13 + 3 * n0) 5), .int x1]) (rest := []) ⟨hx, hb, hml, hown, hts⟩ (ct_X5_isIn l hAD (M := M) hc1) ⟨va_cnB 2 hts gX0_knowsAsBad_X5_isIn_n38 rfl rfl rfl (hN (.methodLinkNest RX0 38 yX5_isIn "MirrorNet") nw_59) (hts (.initialized RX5) (by decide +kernel)) (by decide +kernel) ⟨Nat.le_of_ble_eq_true rfl, Nat.le_of_ble_eq_true rfl⟩, hts (.static yX5_isIn) (by decide +kernel), trivial⟩ ⟨gw_blind, gw_pre _ hK hP hz hN⟩ rfl rfl hl.1 rfl (lv_room (Nat.le_of_ble_eq_true rfl)) dX0_knowsAsBad_5 ⟨Nat.zero_le _, Nat.zero_le _⟩) (fun hzr2 => ?_)
  exact q_rRz hQ hx hb hr hlk h hzr2 dX0_knowsAsBad_8
def rm_X0_markBad : Room := { frames := 1, cells := 0, slots := 0, locals := 22 }
set_option maxHeartbeats 4000000 in
set_option maxRecDepth 100000 in
theorem ct_X0_markBad (l : Launch) {D : va_G} {ad : Nat → Nat} {kc : Nat → ClassId} {nm z : Nat} (hAD : AD ad nm z) {M : Mem} {n0 : Nat} {x1 : Int32} {Mr : Mem} (hn0 : n0 < 6) (h : fn_X0_markBad M n0 x1 = some Mr) : Met l yX0_markBad wsX0_markBad rm_X0_markBad (va_Pc [.ref (ad (13 + 3 * n0)), .int x1] (GW D ad kc nm z M)) (QWv D ad kc nm z Mr) 0 0 (fun q => z ≤ q) := by
  refine q_met (cc := cX0_markBad) (maxL := 2) (ret := none) (by decide) rfl (Nat.le_of_ble_eq_true rfl) ?_
  intro p e s m args below meth c Q ls hx hb hr hlk hml hown hts hB hQ hl
  obtain ⟨hP, hK, hz, hN⟩ := hB
  have hown : s.vm.findClass RX0 = some m.cls := hown
  have hl : lv_has ls 2 [(0, .ref (ad (13 + 3 * n0))), (1, .int x1)] := hl
  have hi_X0 : ∀ w ∈ u_ws RX0 TX0 6, w ∈ wsX0_markBad := by decide +kernel
  have hS : va_S (fun q => z ≤ q) s.heap s.heap [] := va_S.rf
  obtain ⟨H, eH⟩ : ∃ H : Heap, H = s.heap := ⟨_, rfl⟩
  obtain ⟨locs, eL⟩ : ∃ L : List Loc, L = [] := ⟨_, rfl⟩
  have hP : va_P D vwCl (wl ad kc nm M) H := by rw [eH]; exact hP
  have hS : va_S (fun q => z ≤ q) s.heap H locs := by rw [eH, eL]; exact hS
  refine q_start eH eL ?_
  refine lv_iload_n hx hb dX0_markBad_0 rfl (lv_at hl 1 rfl) ?_
  refine lv_iconst (v := 0) hx hb dX0_markBad_1 (by decide) ?_
  refine lv_bipush (v := 7) hx hb dX0_markBad_2 (by decide) ?_
  obtain ⟨r2, hc1, h⟩ := q_bd1 h
  refine q_cRz (va_runSN (As := [.int x1, .int (0 : Int32), .int (7 : Int32)]) (rest := []) ⟨hx, hb, hml, hown, hts⟩ (ct_X5_isWithin l hAD (M := M) hc1) ⟨va_cnB 3 hts gX0_markBad_X5_isWithin_n31 rfl rfl rfl (hN (.methodLinkNest RX0 31 yX5_isWithin "MirrorNet") nw_55) (hts (.initialized RX5) (by decide +kernel)) (by decide +kernel) ⟨Nat.le_of_ble_eq_true rfl, Nat.le_of_ble_eq_true rfl⟩, hts (.static yX5_isWithin) (by decide +kernel), trivial⟩ ⟨gw_blind, gw_pre _ hK hP (Nat.le_trans hz hS.1) hN⟩ rfl rfl hl.1 rfl (lv_room (Nat.le_of_ble_eq_true rfl)) dX0_markBad_4 ⟨Nat.zero_le _, Nat.zero_le _⟩) (fun hzr2 => ?_)
  refine lv_if_eq (tgt := 22) hx hb dX0_markBad_7 (by decide) (fun c6 => ?_) (fun c6 => ?_)
  · have h := q_t c6 h
    exact q_rWv hQ hx hb hr hlk hP hS h dX0_markBad_22
  · have h := q_f c6 h
    refine lv_aload_n hx hb dX0_markBad_10 rfl (lv_at hl 0 rfl) ?_
    refine lv_dup hx hb dX0_markBad_11 rfl ?_
    refine q_getI hx hb hts hi_X0 hown hK hP (ob_asker hn0) rfl 5 (by decide) rfl (hts (.fieldLink RX0 35 "MirrorNet$Asker" "bad" "I") (by decide +kernel)) (fun _ h9 => h9) dX0_markBad_12 ?_
    refine lv_iconst (v := 1) hx hb dX0_markBad_15 (by decide) ?_
    refine lv_iload_n hx hb dX0_markBad_16 rfl (lv_at hl 1 rfl) ?_
    refine lv_ishl hx hb dX0_markBad_17 ?_
    refine lv_ior hx hb dX0_markBad_18 ?_
    obtain ⟨M7, eM7, h⟩ := q_nx h
    refine q_putI hx hb hts hi_X0 tyX0 tyX0_ok nmX0 hown hK hP hAD hS (ob_asker hn0) rfl 5 (by decide) rfl (hts (.fieldLink RX0 35 "MirrorNet$Asker" "bad" "I") (by decide +kernel)) (fun _ h9 => h9) rfl (ty := .int) (by decide +kernel) rfl rfl dX0_markBad_19 (fun H locs hP hS => ?_)
    rw [← eM7] at hP
    exact q_rWv hQ hx hb hr hlk hP hS h dX0_markBad_22
def rm_X0_inLine : Room := { frames := 1, cells := 0, slots := 0, locals := 22 }
set_option maxHeartbeats 4000000 in
set_option maxRecDepth 100000 in
theorem ct_X0_inLine (l : Launch) {D : va_G} {ad : Nat → Nat} {kc : Nat → ClassId} {nm z : Nat} (hAD : AD ad nm z) {M : Mem} {n0 : Nat} {x1 : Int32} {r : Int32} (hn0 : n0 < 6) (h : fn_X0_inLine M n0 x1 = some r) : Met l yX0_inLine wsX0_inLine rm_X0_inLine (va_Pc [.ref (ad (13 + 3 * n0)), .int x1] (GW D ad kc nm z M)) (QRi r) 0 0 (fun _ => False) := by
  refine q_met (cc := cX0_inLine) (maxL := 2) (ret := (some .int)) (by decide) rfl (Nat.le_of_ble_eq_true rfl) ?_
  intro p e s m args below meth c Q ls hx hb hr hlk hml hown hts hB hQ hl
  obtain ⟨hP, hK, hz, hN⟩ := hB
  have hown : s.vm.findClass RX0 = some m.cls := hown
  have hl : lv_has ls 2 [(0, .ref (ad (13 + 3 * n0))), (1, .int x1)] := hl
  have hi_X0 : ∀ w ∈ u_ws RX0 TX0 6, w ∈ wsX0_inLine := by decide +kernel
  refine lv_iload_n hx hb dX0_inLine_0 rfl (lv_at hl 1 rfl) ?_
  refine lv_iconst (v := 0) hx hb dX0_inLine_1 (by decide) ?_
  refine lv_aload_n hx hb dX0_inLine_2 rfl (lv_at hl 0 rfl) ?_
  refine q_getI hx hb hts hi_X0 hown hK hP (ob_asker hn0) rfl 2 (by decide) rfl (hts (.fieldLink RX0 42 "MirrorNet$Asker" "lineLength" "I") (by decide +kernel)) (fun _ h9 => h9) dX0_inLine_3 ?_
  refine lv_iconst (v := 1) hx hb dX0_inLine_6 (by decide) ?_
  refine lv_isub hx hb dX0_inLine_7 ?_
  obtain ⟨r2, hc1, h⟩ := q_bd1 h
  refine q_cRz (va_runSN (As := [.int x1, .int (0 : Int32), .int ((gI M (13 + 3 * n0) 2) - (1 : Int32))]) (rest := []) ⟨hx, hb, hml, hown, hts⟩ (ct_X5_isWithin l hAD (M := M) hc1) ⟨va_cnB 3 hts gX0_inLine_X5_isWithin_n31 rfl rfl rfl (hN (.methodLinkNest RX0 31 yX5_isWithin "MirrorNet") nw_55) (hts (.initialized RX5) (by decide +kernel)) (by decide +kernel) ⟨Nat.le_of_ble_eq_true rfl, Nat.le_of_ble_eq_true rfl⟩, hts (.static yX5_isWithin) (by decide +kernel), trivial⟩ ⟨gw_blind, gw_pre _ hK hP hz hN⟩ rfl rfl hl.1 rfl (lv_room (Nat.le_of_ble_eq_true rfl)) dX0_inLine_8 ⟨Nat.zero_le _, Nat.zero_le _⟩) (fun hzr2 => ?_)
  refine lv_if_eq (tgt := 23) hx hb dX0_inLine_11 (by decide) (fun c6 => ?_) (fun c6 => ?_)
  · have h := q_t c6 h
    refine lv_iconst (v := -1) hx hb dX0_inLine_23 (by decide) ?_
    exact q_rRi hQ hx hb hr hlk h dX0_inLine_24
  · have h := q_f c6 h
    refine lv_aload_n hx hb dX0_inLine_14 rfl (lv_at hl 0 rfl) ?_
    refine q_getR hx hb hts hi_X0 hown hK hP (ob_asker hn0) rfl 1 (by decide) rfl (hts (.fieldLink RX0 21 "MirrorNet$Asker" "line" "[I") (by decide +kernel)) (fun _ h9 => h9) dX0_inLine_15 ?_
    refine lv_iload_n hx hb dX0_inLine_18 rfl (lv_at hl 1 rfl) ?_
    obtain ⟨hk7, h⟩ := q_ck h
    refine q_iald hx hb hK hP (ar_asker2 hn0) hk7 dX0_inLine_19 ?_
    refine lv_goto (tgt := 24) hx hb dX0_inLine_20 (by decide) ?_
    exact q_rRi hQ hx hb hr hlk h dX0_inLine_24
def rm_X0_putInLine : Room := { frames := 0, cells := 0, slots := 0, locals := 0 }
set_option maxHeartbeats 4000000 in
set_option maxRecDepth 100000 in
theorem ct_X0_putInLine (l : Launch) {D : va_G} {ad : Nat → Nat} {kc : Nat → ClassId} {nm z : Nat} (hAD : AD ad nm z) {M : Mem} {n0 : Nat} {x1 : Int32} {Mr : Mem} (hn0 : n0 < 6) (h : fn_X0_putInLine M n0 x1 = some Mr) : Met l yX0_putInLine wsX0_putInLine rm_X0_putInLine (va_Pc [.ref (ad (13 + 3 * n0)), .int x1] (GW D ad kc nm z M)) (QWv D ad kc nm z Mr) 0 0 (fun q => z ≤ q) := by
  refine q_met (cc := cX0_putInLine) (maxL := 3) (ret := none) (by decide) rfl (Nat.le_of_ble_eq_true rfl) ?_
  intro p e s m args below meth c Q ls hx hb hr hlk hml hown hts hB hQ hl
  obtain ⟨hP, hK, hz, hN⟩ := hB
  have hown : s.vm.findClass RX0 = some m.cls := hown
  have hl : lv_has ls 3 [(0, .ref (ad (13 + 3 * n0))), (1, .int x1)] := hl
  have hi_X0 : ∀ w ∈ u_ws RX0 TX0 6, w ∈ wsX0_putInLine := by decide +kernel
  have hS : va_S (fun q => z ≤ q) s.heap s.heap [] := va_S.rf
  have B_bk_X0_putInLine_61 : ∀ (M : Mem) (x2 : Int32) (H : Heap) (locs : List Loc) (ls : Array Slot), bk_X0_putInLine_61 M n0 x1 x2 = some Mr → va_P D vwCl (wl ad kc nm M) H → va_S (fun q => z ≤ q) s.heap H locs → lv_has ls 3 [(0, .ref (ad (13 + 3 * n0))), (1, .int x1), (2, .int x2)] → W p l e rm_X0_putInLine s m args below meth c H locs 0 0 Q (F0 m 61 ls []) := by
    intro M x2 H locs ls h hP hS hl
    refine lv_aload_n hx hb dX0_putInLine_61 rfl (lv_at hl 0 rfl) ?_
    refine q_getR hx hb hts hi_X0 hown hK hP (ob_asker hn0) rfl 1 (by decide) rfl (hts (.fieldLink RX0 21 "MirrorNet$Asker" "line" "[I") (by decide +kernel)) (fun _ h9 => h9) dX0_putInLine_62 ?_
    refine lv_iload_n hx hb dX0_putInLine_65 rfl (lv_at hl 2 rfl) ?_
    refine lv_iload_n hx hb dX0_putInLine_66 rfl (lv_at hl 1 rfl) ?_
    obtain ⟨hk1, h⟩ := q_ck h
    obtain ⟨M2, eM2, h⟩ := q_nx h
    refine q_iast hx hb hK hP hAD hS (ar_asker2 hn0) hk1 dX0_putInLine_67 (fun H locs hP hS => ?_)
    rw [← eM2] at hP
    refine lv_aload_n hx hb dX0_putInLine_68 rfl (lv_at hl 0 rfl) ?_
    refine lv_dup hx hb dX0_putInLine_69 rfl ?_
    refine q_getI hx hb hts hi_X0 hown hK hP (ob_asker hn0) rfl 2 (by decide) rfl (hts (.fieldLink RX0 42 "MirrorNet$Asker" "lineLength" "I") (by decide +kernel)) (fun _ h9 => h9) dX0_putInLine_70 ?_
    refine lv_iconst (v := 1) hx hb dX0_putInLine_73 (by decide) ?_
    refine lv_iadd hx hb dX0_putInLine_74 ?_
    obtain ⟨M3, eM3, h⟩ := q_nx h
    refine q_putI hx hb hts hi_X0 tyX0 tyX0_ok nmX0 hown hK hP hAD hS (ob_asker hn0) rfl 2 (by decide) rfl (hts (.fieldLink RX0 42 "MirrorNet$Asker" "lineLength" "I") (by decide +kernel)) (fun _ h9 => h9) rfl (ty := .int) (by decide +kernel) rfl rfl dX0_putInLine_75 (fun H locs hP hS => ?_)
    rw [← eM3] at hP
    exact q_rWv hQ hx hb hr hlk hP hS h dX0_putInLine_78
  have L_lq_X0_putInLine_15 : ∀ (n15 : Nat) (M : Mem) (x2 : Int32) (H : Heap) (locs : List Loc) (ls : Array Slot), it2 (lq_X0_putInLine_15 n0 x1) n15 M x2 = some Mr → va_P D vwCl (wl ad kc nm M) H → va_S (fun q => z ≤ q) s.heap H locs → lv_has ls 3 [(0, .ref (ad (13 + 3 * n0))), (1, .int x1), (2, .int x2)] → W p l e rm_X0_putInLine s m args below meth c H locs 0 0 Q (F0 m 15 ls []) := by
    intro n15
    induction n15 with
    | zero =>
      intro M x2 H locs ls h hP hS hl
      exact (it2_0 h).elim
    | succ n15 ih15 =>
      intro M x2 H locs ls h hP hS hl
      have h := it2_s h
      refine lv_iload_n hx hb dX0_putInLine_15 rfl (lv_at hl 2 rfl) ?_
      refine lv_if_le (tgt := 61) hx hb dX0_putInLine_16 (by decide) (fun c4 => ?_) (fun c4 => ?_)
      · have h := q_t c4 h
        exact B_bk_X0_putInLine_61 M x2 H locs ls  h hP hS (lv_sub hl [0, 1, 2] rfl)
      · have h := q_f c4 h
        refine lv_aload_n hx hb dX0_putInLine_19 rfl (lv_at hl 0 rfl) ?_
        refine q_getR hx hb hts hi_X0 hown hK hP (ob_asker hn0) rfl 0 (by decide) rfl (hts (.fieldLink RX0 9 "MirrorNet$Asker" "costs" "[I") (by decide +kernel)) (fun _ h9 => h9) dX0_putInLine_20 ?_
        refine lv_aload_n hx hb dX0_putInLine_23 rfl (lv_at hl 0 rfl) ?_
        refine q_getR hx hb hts hi_X0 hown hK hP (ob_asker hn0) rfl 1 (by decide) rfl (hts (.fieldLink RX0 21 "MirrorNet$Asker" "line" "[I") (by decide +kernel)) (fun _ h9 => h9) dX0_putInLine_24 ?_
        refine lv_iload_n hx hb dX0_putInLine_27 rfl (lv_at hl 2 rfl) ?_
        refine lv_iconst (v := 1) hx hb dX0_putInLine_28 (by decide) ?_
        refine lv_isub hx hb dX0_putInLine_29 ?_
        obtain ⟨hk5, h⟩ := q_ck h
        refine q_iald hx hb hK hP (ar_asker2 hn0) hk5 dX0_putInLine_30 ?_
        obtain ⟨hk6, h⟩ := q_ck h
        refine q_iald hx hb hK hP (ar_asker1 hn0) hk6 dX0_putInLine_31 ?_
        refine lv_aload_n hx hb dX0_putInLine_32 rfl (lv_at hl 0 rfl) ?_
        refine q_getR hx hb hts hi_X0 hown hK hP (ob_asker hn0) rfl 0 (by decide) rfl (hts (.fieldLink RX0 9 "MirrorNet$Asker" "costs" "[I") (by decide +kernel)) (fun _ h9 => h9) dX0_putInLine_33 ?_
        refine lv_iload_n hx hb dX0_putInLine_36 rfl (lv_at hl 1 rfl) ?_
        obtain ⟨hk7, h⟩ := q_ck h
        refine q_iald hx hb hK hP (ar_asker1 hn0) hk7 dX0_putInLine_37 ?_
        refine lv_icmp_le (tgt := 61) hx hb dX0_putInLine_38 (by decide) (fun c8 => ?_) (fun c8 => ?_)
        · have h := q_t c8 h
          exact B_bk_X0_putInLine_61 M x2 H locs ls  h hP hS (lv_sub hl [0, 1, 2] rfl)
        · have h := q_f c8 h
          refine lv_aload_n hx hb dX0_putInLine_41 rfl (lv_at hl 0 rfl) ?_
          refine q_getR hx hb hts hi_X0 hown hK hP (ob_asker hn0) rfl 1 (by decide) rfl (hts (.fieldLink RX0 21 "MirrorNet$Asker" "line" "[I") (by decide +kernel)) (fun _ h9 => h9) dX0_putInLine_42 ?_
          refine lv_iload_n hx hb dX0_putInLine_45 rfl (lv_at hl 2 rfl) ?_
          refine lv_aload_n hx hb dX0_putInLine_46 rfl (lv_at hl 0 rfl) ?_
          refine q_getR hx hb hts hi_X0 hown hK hP (ob_asker hn0) rfl 1 (by decide) rfl (hts (.fieldLink RX0 21 "MirrorNet$Asker" "line" "[I") (by decide +kernel)) (fun _ h9 => h9) dX0_putInLine_47 ?_
          refine lv_iload_n hx hb dX0_putInLine_50 rfl (lv_at hl 2 rfl) ?_
          refine lv_iconst (v := 1) hx hb dX0_putInLine_51 (by decide) ?_
          refine lv_isub hx hb dX0_putInLine_52 ?_
          obtain ⟨hk9, h⟩ := q_ck h
          refine q_iald hx hb hK hP (ar_asker2 hn0) hk9 dX0_putInLine_53 ?_
          obtain ⟨hk10, h⟩ := q_ck h
          obtain ⟨M11, eM11, h⟩ := q_nx h
          refine q_iast hx hb hK hP hAD hS (ar_asker2 hn0) hk10 dX0_putInLine_54 (fun H locs hP hS => ?_)
          rw [← eM11] at hP
          obtain ⟨v12, ev12, h⟩ := q_nx h
          refine lv_iinc (v := v12) (lv' := [(2, .int v12), (0, .ref (ad (13 + 3 * n0))), (1, .int x1)]) hx hb dX0_putInLine_55 hl (k := 2) rfl (by rw [ev12]; rfl) (by decide) rfl (fun ls hl => ?_)
          refine lv_goto (tgt := 15) hx hb dX0_putInLine_58 (by decide) ?_
          exact ih15 M11 v12 H locs ls  h hP hS (lv_sub hl [1, 2, 0] rfl)
  obtain ⟨H, eH⟩ : ∃ H : Heap, H = s.heap := ⟨_, rfl⟩
  obtain ⟨locs, eL⟩ : ∃ L : List Loc, L = [] := ⟨_, rfl⟩
  have hP : va_P D vwCl (wl ad kc nm M) H := by rw [eH]; exact hP
  have hS : va_S (fun q => z ≤ q) s.heap H locs := by rw [eH, eL]; exact hS
  refine q_start eH eL ?_
  refine lv_aload_n hx hb dX0_putInLine_0 rfl (lv_at hl 0 rfl) ?_
  refine q_getI hx hb hts hi_X0 hown hK hP (ob_asker hn0) rfl 2 (by decide) rfl (hts (.fieldLink RX0 42 "MirrorNet$Asker" "lineLength" "I") (by decide +kernel)) (fun _ h9 => h9) dX0_putInLine_1 ?_
  refine lv_bipush (v := 8) hx hb dX0_putInLine_4 (by decide) ?_
  refine lv_icmp_lt (tgt := 10) hx hb dX0_putInLine_6 (by decide) (fun c13 => ?_) (fun c13 => ?_)
  · have h := q_t c13 h
    refine lv_aload_n hx hb dX0_putInLine_10 rfl (lv_at hl 0 rfl) ?_
    refine q_getI hx hb hts hi_X0 hown hK hP (ob_asker hn0) rfl 2 (by decide) rfl (hts (.fieldLink RX0 42 "MirrorNet$Asker" "lineLength" "I") (by decide +kernel)) (fun _ h9 => h9) dX0_putInLine_11 ?_
    refine lv_topi (fun v14 ev14 => ?_)
    have h := q_nxe ev14 h
    refine lv_istore_n (lv' := [(2, .int v14), (0, .ref (ad (13 + 3 * n0))), (1, .int x1)]) hx hb dX0_putInLine_14 rfl hl (by decide) rfl (fun ls hl => ?_)
    exact L_lq_X0_putInLine_15 FU M v14 H locs ls  h hP hS (lv_sub hl [1, 2, 0] rfl)
  · have h := q_f c13 h
    exact q_rWv hQ hx hb hr hlk hP hS h dX0_putInLine_9
def rm_X0_lineUp : Room := { frames := 3, cells := 0, slots := 0, locals := 64 }
set_option maxHeartbeats 4000000 in
set_option maxRecDepth 100000 in
theorem ct_X0_lineUp (l : Launch) {D : va_G} {ad : Nat → Nat} {kc : Nat → ClassId} {nm z : Nat} (hAD : AD ad nm z) {M : Mem} {n0 : Nat} {Mr : Mem} (hn0 : n0 < 6) (h : fn_X0_lineUp M n0 = some Mr) : Met l yX0_lineUp wsX0_lineUp rm_X0_lineUp (va_Pc [.ref (ad (13 + 3 * n0))] (GW D ad kc nm z M)) (QWv D ad kc nm z Mr) 0 0 (fun q => z ≤ q) := by
  refine q_met (cc := cX0_lineUp) (maxL := 2) (ret := none) (by decide) rfl (Nat.le_of_ble_eq_true rfl) ?_
  intro p e s m args below meth c Q ls hx hb hr hlk hml hown hts hB hQ hl
  obtain ⟨hP, hK, hz, hN⟩ := hB
  have hown : s.vm.findClass RX0 = some m.cls := hown
  have hl : lv_has ls 2 [(0, .ref (ad (13 + 3 * n0)))] := hl
  have hi_X0 : ∀ w ∈ u_ws RX0 TX0 6, w ∈ wsX0_lineUp := by decide +kernel
  have hS : va_S (fun q => z ≤ q) s.heap s.heap [] := va_S.rf
  have L_lq_X0_lineUp_7 : ∀ (n7 : Nat) (M : Mem) (x1 : Int32) (H : Heap) (locs : List Loc) (ls : Array Slot), it2 (lq_X0_lineUp_7 n0) n7 M x1 = some Mr → va_P D vwCl (wl ad kc nm M) H → va_S (fun q => z ≤ q) s.heap H locs → lv_has ls 2 [(0, .ref (ad (13 + 3 * n0))), (1, .int x1)] → W p l e rm_X0_lineUp s m args below meth c H locs 0 0 Q (F0 m 7 ls []) := by
    intro n7
    induction n7 with
    | zero =>
      intro M x1 H locs ls h hP hS hl
      exact (it2_0 h).elim
    | succ n7 ih7 =>
      have B_bk_X0_lineUp_36 : ∀ (M : Mem) (x1 : Int32) (H : Heap) (locs : List Loc) (ls : Array Slot), bk_X0_lineUp_36 (it2 (lq_X0_lineUp_7 n0) n7) M n0 x1 = some Mr → va_P D vwCl (wl ad kc nm M) H → va_S (fun q => z ≤ q) s.heap H locs → lv_has ls 2 [(0, .ref (ad (13 + 3 * n0))), (1, .int x1)] → W p l e rm_X0_lineUp s m args below meth c H locs 0 0 Q (F0 m 36 ls []) := by
        intro M x1 H locs ls h hP hS hl
        obtain ⟨v1, ev1, h⟩ := q_nx h
        refine lv_iinc (v := v1) (lv' := [(1, .int v1), (0, .ref (ad (13 + 3 * n0)))]) hx hb dX0_lineUp_36 hl (k := 1) rfl (by rw [ev1]; rfl) (by decide) rfl (fun ls hl => ?_)
        refine lv_goto (tgt := 7) hx hb dX0_lineUp_39 (by decide) ?_
        exact ih7 M v1 H locs ls  h hP hS (lv_sub hl [1, 0] rfl)
      intro M x1 H locs ls h hP hS hl
      have h := it2_s h
      refine lv_iload_n hx hb dX0_lineUp_7 rfl (lv_at hl 1 rfl) ?_
      refine lv_bipush (v := 8) hx hb dX0_lineUp_8 (by decide) ?_
      refine lv_icmp_ge (tgt := 42) hx hb dX0_lineUp_10 (by decide) (fun c2 => ?_) (fun c2 => ?_)
      · have h := q_t c2 h
        exact q_rWv hQ hx hb hr hlk hP hS h dX0_lineUp_42
      · have h := q_f c2 h
        refine lv_aload_n hx hb dX0_lineUp_13 rfl (lv_at hl 0 rfl) ?_
        refine q_getR hx hb hts hi_X0 hown hK hP (ob_asker hn0) rfl 0 (by decide) rfl (hts (.fieldLink RX0 9 "MirrorNet$Asker" "costs" "[I") (by decide +kernel)) (fun _ h9 => h9) dX0_lineUp_14 ?_
        refine lv_iload_n hx hb dX0_lineUp_17 rfl (lv_at hl 1 rfl) ?_
        obtain ⟨hk3, h⟩ := q_ck h
        refine q_iald hx hb hK hP (ar_asker1 hn0) hk3 dX0_lineUp_18 ?_
        refine lv_iconst (v := -1) hx hb dX0_lineUp_19 (by decide) ?_
        refine lv_icmp_eq (tgt := 36) hx hb dX0_lineUp_20 (by decide) (fun c4 => ?_) (fun c4 => ?_)
        · have h := q_t c4 h
          exact B_bk_X0_lineUp_36 M x1 H locs ls  h hP hS (lv_sub hl [0, 1] rfl)
        · have h := q_f c4 h
          refine lv_aload_n hx hb dX0_lineUp_23 rfl (lv_at hl 0 rfl) ?_
          refine lv_iload_n hx hb dX0_lineUp_24 rfl (lv_at hl 1 rfl) ?_
          obtain ⟨r6, hc5, h⟩ := q_bd1 h
          refine q_cRz (va_runV (C := RX0) (As := [.int x1]) (rest := []) ⟨hx, hb, hml, hown, hts⟩ (ct_X0_knowsAsBad l hAD (M := M) hn0 hc5) (cwV 1 hts gX0_lineUp_X0_knowsAsBad rfl rfl rfl (by decide +kernel) ⟨Nat.le_of_ble_eq_true rfl, Nat.le_of_ble_eq_true rfl⟩) ⟨gw_blind, gw_recv (ob_asker hn0) hK hP rfl, gw_pre _ hK hP (Nat.le_trans hz hS.1) hN⟩ rfl rfl hl.1 rfl (lv_room (Nat.le_of_ble_eq_true rfl)) dX0_lineUp_25 ⟨Nat.zero_le _, Nat.zero_le _⟩) (fun hzr6 => ?_)
          refine lv_if_ne (tgt := 36) hx hb dX0_lineUp_28 (by decide) (fun c10 => ?_) (fun c10 => ?_)
          · have h := q_f c10 h
            exact B_bk_X0_lineUp_36 M x1 H locs ls  h hP hS (lv_sub hl [0, 1] rfl)
          · have h := q_t c10 h
            refine lv_aload_n hx hb dX0_lineUp_31 rfl (lv_at hl 0 rfl) ?_
            refine lv_iload_n hx hb dX0_lineUp_32 rfl (lv_at hl 1 rfl) ?_
            obtain ⟨M13, hc11, h⟩ := q_bd1 h
            refine q_cWv (va_runV (C := RX0) (As := [.int x1]) (rest := []) ⟨hx, hb, hml, hown, hts⟩ (ct_X0_putInLine l hAD (M := M) hn0 hc11) (cwV 1 hts gX0_lineUp_X0_putInLine rfl rfl rfl (by decide +kernel) ⟨Nat.le_of_ble_eq_true rfl, Nat.le_of_ble_eq_true rfl⟩) ⟨gw_blind, gw_recv (ob_asker hn0) hK hP rfl, gw_pre _ hK hP (Nat.le_trans hz hS.1) hN⟩ rfl rfl hl.1 rfl (lv_room (Nat.le_of_ble_eq_true rfl)) dX0_lineUp_33 ⟨Nat.zero_le _, Nat.zero_le _⟩) hS (fun H locs hP hS => ?_)
            exact B_bk_X0_lineUp_36 M13 x1 H locs ls  h hP hS (lv_sub hl [0, 1] rfl)
  obtain ⟨H, eH⟩ : ∃ H : Heap, H = s.heap := ⟨_, rfl⟩
  obtain ⟨locs, eL⟩ : ∃ L : List Loc, L = [] := ⟨_, rfl⟩
  have hP : va_P D vwCl (wl ad kc nm M) H := by rw [eH]; exact hP
  have hS : va_S (fun q => z ≤ q) s.heap H locs := by rw [eH, eL]; exact hS
  refine q_start eH eL ?_
  refine lv_aload_n hx hb dX0_lineUp_0 rfl (lv_at hl 0 rfl) ?_
  refine lv_iconst (v := 0) hx hb dX0_lineUp_1 (by decide) ?_
  obtain ⟨M16, eM16, h⟩ := q_nx h
  refine q_putI hx hb hts hi_X0 tyX0 tyX0_ok nmX0 hown hK hP hAD hS (ob_asker hn0) rfl 2 (by decide) rfl (hts (.fieldLink RX0 42 "MirrorNet$Asker" "lineLength" "I") (by decide +kernel)) (fun _ h9 => h9) rfl (ty := .int) (by decide +kernel) rfl rfl dX0_lineUp_2 (fun H locs hP hS => ?_)
  rw [← eM16] at hP
  refine lv_iconst (v := 0) hx hb dX0_lineUp_5 (by decide) ?_
  refine lv_istore_n (lv' := [(1, .int (0 : Int32)), (0, .ref (ad (13 + 3 * n0)))]) hx hb dX0_lineUp_6 rfl hl (by decide) rfl (fun ls hl => ?_)
  exact L_lq_X0_lineUp_7 FU M16 (0 : Int32) H locs ls  h hP hS (lv_sub hl [1, 0] rfl)
def rm_X1_begin : Room := { frames := 0, cells := 0, slots := 0, locals := 0 }
set_option maxHeartbeats 4000000 in
set_option maxRecDepth 100000 in
theorem ct_X1_begin (l : Launch) {D : va_G} {ad : Nat → Nat} {kc : Nat → ClassId} {nm z : Nat} (hAD : AD ad nm z) {M : Mem}  {Mr : Mem}  (h : fn_X1_begin M = some Mr) : Met l yX1_begin wsX1_begin rm_X1_begin (va_Pc [.ref (ad 31)] (GW D ad kc nm z M)) (QWv D ad kc nm z Mr) 0 0 (fun q => z ≤ q) := by
  refine q_met (cc := cX1_begin) (maxL := 1) (ret := none) (by decide) rfl (Nat.le_of_ble_eq_true rfl) ?_
  intro p e s m args below meth c Q ls hx hb hr hlk hml hown hts hB hQ hl
  obtain ⟨hP, hK, hz, hN⟩ := hB
  have hown : s.vm.findClass RX1 = some m.cls := hown
  have hl : lv_has ls 1 [(0, .ref (ad 31))] := hl
  have hi_X1 : ∀ w ∈ u_ws RX1 TX1 10, w ∈ wsX1_begin := by decide +kernel
  have hS : va_S (fun q => z ≤ q) s.heap s.heap [] := va_S.rf
  obtain ⟨H, eH⟩ : ∃ H : Heap, H = s.heap := ⟨_, rfl⟩
  obtain ⟨locs, eL⟩ : ∃ L : List Loc, L = [] := ⟨_, rfl⟩
  have hP : va_P D vwCl (wl ad kc nm M) H := by rw [eH]; exact hP
  have hS : va_S (fun q => z ≤ q) s.heap H locs := by rw [eH, eL]; exact hS
  refine q_start eH eL ?_
  refine lv_aload_n hx hb dX1_begin_0 rfl (lv_at hl 0 rfl) ?_
  refine lv_iconst (v := 1) hx hb dX1_begin_1 (by decide) ?_
  obtain ⟨M1, eM1, h⟩ := q_nx h
  refine q_putI hx hb hts hi_X1 tyX1 tyX1_ok nmX1 hown hK hP hAD hS ob_31 rfl 3 (by decide) rfl (hts (.fieldLink RX1 21 "MirrorNet$Asking" "isAny" "Z") (by decide +kernel)) (fun _ h9 => h9) rfl (ty := .boolean) (by decide +kernel) (nar_b (Or.inr rfl)) (fit_b (Or.inr rfl)) dX1_begin_2 (fun H locs hP hS => ?_)
  rw [← eM1] at hP
  refine lv_aload_n hx hb dX1_begin_5 rfl (lv_at hl 0 rfl) ?_
  refine lv_iconst (v := -1) hx hb dX1_begin_6 (by decide) ?_
  obtain ⟨M2, eM2, h⟩ := q_nx h
  refine q_putI hx hb hts hi_X1 tyX1 tyX1_ok nmX1 hown hK hP hAD hS ob_31 rfl 4 (by decide) rfl (hts (.fieldLink RX1 25 "MirrorNet$Asking" "index" "I") (by decide +kernel)) (fun _ h9 => h9) rfl (ty := .int) (by decide +kernel) rfl rfl dX1_begin_7 (fun H locs hP hS => ?_)
  rw [← eM2] at hP
  refine lv_aload_n hx hb dX1_begin_10 rfl (lv_at hl 0 rfl) ?_
  refine lv_iconst (v := 0) hx hb dX1_begin_11 (by decide) ?_
  obtain ⟨M3, eM3, h⟩ := q_nx h
  refine q_putI hx hb hts hi_X1 tyX1 tyX1_ok nmX1 hown hK hP hAD hS ob_31 rfl 5 (by decide) rfl (hts (.fieldLink RX1 29 "MirrorNet$Asking" "spent" "I") (by decide +kernel)) (fun _ h9 => h9) rfl (ty := .int) (by decide +kernel) rfl rfl dX1_begin_12 (fun H locs hP hS => ?_)
  rw [← eM3] at hP
  refine lv_aload_n hx hb dX1_begin_15 rfl (lv_at hl 0 rfl) ?_
  refine lv_iconst (v := 0) hx hb dX1_begin_16 (by decide) ?_
  obtain ⟨M4, eM4, h⟩ := q_nx h
  refine q_putI hx hb hts hi_X1 tyX1 tyX1_ok nmX1 hown hK hP hAD hS ob_31 rfl 6 (by decide) rfl (hts (.fieldLink RX1 32 "MirrorNet$Asking" "askings" "I") (by decide +kernel)) (fun _ h9 => h9) rfl (ty := .int) (by decide +kernel) rfl rfl dX1_begin_17 (fun H locs hP hS => ?_)
  rw [← eM4] at hP
  refine lv_aload_n hx hb dX1_begin_20 rfl (lv_at hl 0 rfl) ?_
  refine lv_iconst (v := 0) hx hb dX1_begin_21 (by decide) ?_
  obtain ⟨M5, eM5, h⟩ := q_nx h
  refine q_putI hx hb hts hi_X1 tyX1 tyX1_ok nmX1 hown hK hP hAD hS ob_31 rfl 7 (by decide) rfl (hts (.fieldLink RX1 35 "MirrorNet$Asking" "gotCount" "I") (by decide +kernel)) (fun _ h9 => h9) rfl (ty := .int) (by decide +kernel) rfl rfl dX1_begin_22 (fun H locs hP hS => ?_)
  rw [← eM5] at hP
  refine lv_aload_n hx hb dX1_begin_25 rfl (lv_at hl 0 rfl) ?_
  refine lv_iconst (v := -1) hx hb dX1_begin_26 (by decide) ?_
  obtain ⟨M6, eM6, h⟩ := q_nx h
  refine q_putI hx hb hts hi_X1 tyX1 tyX1_ok nmX1 hown hK hP hAD hS ob_31 rfl 8 (by decide) rfl (hts (.fieldLink RX1 38 "MirrorNet$Asking" "lacking" "I") (by decide +kernel)) (fun _ h9 => h9) rfl (ty := .int) (by decide +kernel) rfl rfl dX1_begin_27 (fun H locs hP hS => ?_)
  rw [← eM6] at hP
  refine lv_aload_n hx hb dX1_begin_30 rfl (lv_at hl 0 rfl) ?_
  refine lv_iconst (v := -1) hx hb dX1_begin_31 (by decide) ?_
  obtain ⟨M7, eM7, h⟩ := q_nx h
  refine q_putI hx hb hts hi_X1 tyX1 tyX1_ok nmX1 hown hK hP hAD hS ob_31 rfl 9 (by decide) rfl (hts (.fieldLink RX1 41 "MirrorNet$Asking" "foresight" "I") (by decide +kernel)) (fun _ h9 => h9) rfl (ty := .int) (by decide +kernel) rfl rfl dX1_begin_32 (fun H locs hP hS => ?_)
  rw [← eM7] at hP
  exact q_rWv hQ hx hb hr hlk hP hS h dX1_begin_35
def rm_X1_spend : Room := { frames := 0, cells := 0, slots := 0, locals := 0 }
set_option maxHeartbeats 4000000 in
set_option maxRecDepth 100000 in
theorem ct_X1_spend (l : Launch) {D : va_G} {ad : Nat → Nat} {kc : Nat → ClassId} {nm z : Nat} (hAD : AD ad nm z) {M : Mem} {x1 : Int32} {Mr : Mem}  (h : fn_X1_spend M x1 = some Mr) : Met l yX1_spend wsX1_spend rm_X1_spend (va_Pc [.ref (ad 31), .int x1] (GW D ad kc nm z M)) (QWv D ad kc nm z Mr) 0 0 (fun q => z ≤ q) := by
  refine q_met (cc := cX1_spend) (maxL := 2) (ret := none) (by decide) rfl (Nat.le_of_ble_eq_true rfl) ?_
  intro p e s m args below meth c Q ls hx hb hr hlk hml hown hts hB hQ hl
  obtain ⟨hP, hK, hz, hN⟩ := hB
  have hown : s.vm.findClass RX1 = some m.cls := hown
  have hl : lv_has ls 2 [(0, .ref (ad 31)), (1, .int x1)] := hl
  have hi_X1 : ∀ w ∈ u_ws RX1 TX1 10, w ∈ wsX1_spend := by decide +kernel
  have hS : va_S (fun q => z ≤ q) s.heap s.heap [] := va_S.rf
  obtain ⟨H, eH⟩ : ∃ H : Heap, H = s.heap := ⟨_, rfl⟩
  obtain ⟨locs, eL⟩ : ∃ L : List Loc, L = [] := ⟨_, rfl⟩
  have hP : va_P D vwCl (wl ad kc nm M) H := by rw [eH]; exact hP
  have hS : va_S (fun q => z ≤ q) s.heap H locs := by rw [eH, eL]; exact hS
  refine q_start eH eL ?_
  refine lv_aload_n hx hb dX1_spend_0 rfl (lv_at hl 0 rfl) ?_
  refine lv_dup hx hb dX1_spend_1 rfl ?_
  refine q_getI hx hb hts hi_X1 hown hK hP ob_31 rfl 5 (by decide) rfl (hts (.fieldLink RX1 29 "MirrorNet$Asking" "spent" "I") (by decide +kernel)) (fun _ h9 => h9) dX1_spend_2 ?_
  refine lv_iload_n hx hb dX1_spend_5 rfl (lv_at hl 1 rfl) ?_
  refine lv_iadd hx hb dX1_spend_6 ?_
  obtain ⟨M1, eM1, h⟩ := q_nx h
  refine q_putI hx hb hts hi_X1 tyX1 tyX1_ok nmX1 hown hK hP hAD hS ob_31 rfl 5 (by decide) rfl (hts (.fieldLink RX1 29 "MirrorNet$Asking" "spent" "I") (by decide +kernel)) (fun _ h9 => h9) rfl (ty := .int) (by decide +kernel) rfl rfl dX1_spend_7 (fun H locs hP hS => ?_)
  rw [← eM1] at hP
  refine lv_aload_n hx hb dX1_spend_10 rfl (lv_at hl 0 rfl) ?_
  refine lv_dup hx hb dX1_spend_11 rfl ?_
  refine q_getI hx hb hts hi_X1 hown hK hP ob_31 rfl 6 (by decide) rfl (hts (.fieldLink RX1 32 "MirrorNet$Asking" "askings" "I") (by decide +kernel)) (fun _ h9 => h9) dX1_spend_12 ?_
  refine lv_iconst (v := 1) hx hb dX1_spend_15 (by decide) ?_
  refine lv_iadd hx hb dX1_spend_16 ?_
  obtain ⟨M2, eM2, h⟩ := q_nx h
  refine q_putI hx hb hts hi_X1 tyX1 tyX1_ok nmX1 hown hK hP hAD hS ob_31 rfl 6 (by decide) rfl (hts (.fieldLink RX1 32 "MirrorNet$Asking" "askings" "I") (by decide +kernel)) (fun _ h9 => h9) rfl (ty := .int) (by decide +kernel) rfl rfl dX1_spend_17 (fun H locs hP hS => ?_)
  rw [← eM2] at hP
  exact q_rWv hQ hx hb hr hlk hP hS h dX1_spend_20
def rm_X1_keepGot : Room := { frames := 0, cells := 0, slots := 0, locals := 0 }
set_option maxHeartbeats 4000000 in
set_option maxRecDepth 100000 in
theorem ct_X1_keepGot (l : Launch) {D : va_G} {ad : Nat → Nat} {kc : Nat → ClassId} {nm z : Nat} (hAD : AD ad nm z) {M : Mem} {x1 : Int32} {x2 : Int32} {x3 : Int32} {Mr : Mem}  (h : fn_X1_keepGot M x1 x2 x3 = some Mr) : Met l yX1_keepGot wsX1_keepGot rm_X1_keepGot (va_Pc [.ref (ad 31), .int x1, .int x2, .int x3] (GW D ad kc nm z M)) (QWv D ad kc nm z Mr) 0 0 (fun q => z ≤ q) := by
  refine q_met (cc := cX1_keepGot) (maxL := 4) (ret := none) (by decide) rfl (Nat.le_of_ble_eq_true rfl) ?_
  intro p e s m args below meth c Q ls hx hb hr hlk hml hown hts hB hQ hl
  obtain ⟨hP, hK, hz, hN⟩ := hB
  have hown : s.vm.findClass RX1 = some m.cls := hown
  have hl : lv_has ls 4 [(0, .ref (ad 31)), (1, .int x1), (2, .int x2), (3, .int x3)] := hl
  have hi_X1 : ∀ w ∈ u_ws RX1 TX1 10, w ∈ wsX1_keepGot := by decide +kernel
  have hS : va_S (fun q => z ≤ q) s.heap s.heap [] := va_S.rf
  obtain ⟨H, eH⟩ : ∃ H : Heap, H = s.heap := ⟨_, rfl⟩
  obtain ⟨locs, eL⟩ : ∃ L : List Loc, L = [] := ⟨_, rfl⟩
  have hP : va_P D vwCl (wl ad kc nm M) H := by rw [eH]; exact hP
  have hS : va_S (fun q => z ≤ q) s.heap H locs := by rw [eH, eL]; exact hS
  refine q_start eH eL ?_
  refine lv_aload_n hx hb dX1_keepGot_0 rfl (lv_at hl 0 rfl) ?_
  refine q_getI hx hb hts hi_X1 hown hK hP ob_31 rfl 7 (by decide) rfl (hts (.fieldLink RX1 35 "MirrorNet$Asking" "gotCount" "I") (by decide +kernel)) (fun _ h9 => h9) dX1_keepGot_1 ?_
  refine lv_bipush (v := 12) hx hb dX1_keepGot_4 (by decide) ?_
  refine lv_icmp_ge (tgt := 49) hx hb dX1_keepGot_6 (by decide) (fun c1 => ?_) (fun c1 => ?_)
  · have h := q_t c1 h
    exact q_rWv hQ hx hb hr hlk hP hS h dX1_keepGot_49
  · have h := q_f c1 h
    refine lv_aload_n hx hb dX1_keepGot_9 rfl (lv_at hl 0 rfl) ?_
    refine q_getR hx hb hts hi_X1 hown hK hP ob_31 rfl 0 (by decide) rfl (hts (.fieldLink RX1 9 "MirrorNet$Asking" "gotFiles" "[I") (by decide +kernel)) (fun _ h9 => h9) dX1_keepGot_10 ?_
    refine lv_aload_n hx hb dX1_keepGot_13 rfl (lv_at hl 0 rfl) ?_
    refine q_getI hx hb hts hi_X1 hown hK hP ob_31 rfl 7 (by decide) rfl (hts (.fieldLink RX1 35 "MirrorNet$Asking" "gotCount" "I") (by decide +kernel)) (fun _ h9 => h9) dX1_keepGot_14 ?_
    refine lv_iload_n hx hb dX1_keepGot_17 rfl (lv_at hl 1 rfl) ?_
    obtain ⟨hk2, h⟩ := q_ck h
    obtain ⟨M3, eM3, h⟩ := q_nx h
    refine q_iast hx hb hK hP hAD hS ar_32 hk2 dX1_keepGot_18 (fun H locs hP hS => ?_)
    rw [← eM3] at hP
    refine lv_aload_n hx hb dX1_keepGot_19 rfl (lv_at hl 0 rfl) ?_
    refine q_getR hx hb hts hi_X1 hown hK hP ob_31 rfl 1 (by decide) rfl (hts (.fieldLink RX1 15 "MirrorNet$Asking" "gotPackages" "[I") (by decide +kernel)) (fun _ h9 => h9) dX1_keepGot_20 ?_
    refine lv_aload_n hx hb dX1_keepGot_23 rfl (lv_at hl 0 rfl) ?_
    refine q_getI hx hb hts hi_X1 hown hK hP ob_31 rfl 7 (by decide) rfl (hts (.fieldLink RX1 35 "MirrorNet$Asking" "gotCount" "I") (by decide +kernel)) (fun _ h9 => h9) dX1_keepGot_24 ?_
    refine lv_iload_n hx hb dX1_keepGot_27 rfl (lv_at hl 2 rfl) ?_
    obtain ⟨hk4, h⟩ := q_ck h
    obtain ⟨M5, eM5, h⟩ := q_nx h
    refine q_iast hx hb hK hP hAD hS ar_33 hk4 dX1_keepGot_28 (fun H locs hP hS => ?_)
    rw [← eM5] at hP
    refine lv_aload_n hx hb dX1_keepGot_29 rfl (lv_at hl 0 rfl) ?_
    refine q_getR hx hb hts hi_X1 hown hK hP ob_31 rfl 2 (by decide) rfl (hts (.fieldLink RX1 18 "MirrorNet$Asking" "gotMirrors" "[I") (by decide +kernel)) (fun _ h9 => h9) dX1_keepGot_30 ?_
    refine lv_aload_n hx hb dX1_keepGot_33 rfl (lv_at hl 0 rfl) ?_
    refine q_getI hx hb hts hi_X1 hown hK hP ob_31 rfl 7 (by decide) rfl (hts (.fieldLink RX1 35 "MirrorNet$Asking" "gotCount" "I") (by decide +kernel)) (fun _ h9 => h9) dX1_keepGot_34 ?_
    refine lv_iload_n hx hb dX1_keepGot_37 rfl (lv_at hl 3 rfl) ?_
    obtain ⟨hk6, h⟩ := q_ck h
    obtain ⟨M7, eM7, h⟩ := q_nx h
    refine q_iast hx hb hK hP hAD hS ar_34 hk6 dX1_keepGot_38 (fun H locs hP hS => ?_)
    rw [← eM7] at hP
    refine lv_aload_n hx hb dX1_keepGot_39 rfl (lv_at hl 0 rfl) ?_
    refine lv_dup hx hb dX1_keepGot_40 rfl ?_
    refine q_getI hx hb hts hi_X1 hown hK hP ob_31 rfl 7 (by decide) rfl (hts (.fieldLink RX1 35 "MirrorNet$Asking" "gotCount" "I") (by decide +kernel)) (fun _ h9 => h9) dX1_keepGot_41 ?_
    refine lv_iconst (v := 1) hx hb dX1_keepGot_44 (by decide) ?_
    refine lv_iadd hx hb dX1_keepGot_45 ?_
    obtain ⟨M8, eM8, h⟩ := q_nx h
    refine q_putI hx hb hts hi_X1 tyX1 tyX1_ok nmX1 hown hK hP hAD hS ob_31 rfl 7 (by decide) rfl (hts (.fieldLink RX1 35 "MirrorNet$Asking" "gotCount" "I") (by decide +kernel)) (fun _ h9 => h9) rfl (ty := .int) (by decide +kernel) rfl rfl dX1_keepGot_46 (fun H locs hP hS => ?_)
    rw [← eM8] at hP
    exact q_rWv hQ hx hb hr hlk hP hS h dX1_keepGot_49
def rm_X1_gotten : Room := { frames := 1, cells := 0, slots := 0, locals := 22 }
set_option maxHeartbeats 4000000 in
set_option maxRecDepth 100000 in
theorem ct_X1_gotten (l : Launch) {D : va_G} {ad : Nat → Nat} {kc : Nat → ClassId} {nm z : Nat} (hAD : AD ad nm z) {M : Mem} {x1 : Int32} {x2 : Int32} {r : Int32}  (h : fn_X1_gotten M x1 x2 = some r) : Met l yX1_gotten wsX1_gotten rm_X1_gotten (va_Pc [.ref (ad 31), .int x1, .int x2] (GW D ad kc nm z M)) (QRi r) 0 0 (fun _ => False) := by
  refine q_met (cc := cX1_gotten) (maxL := 3) (ret := (some .int)) (by decide) rfl (Nat.le_of_ble_eq_true rfl) ?_
  intro p e s m args below meth c Q ls hx hb hr hlk hml hown hts hB hQ hl
  obtain ⟨hP, hK, hz, hN⟩ := hB
  have hown : s.vm.findClass RX1 = some m.cls := hown
  have hl : lv_has ls 3 [(0, .ref (ad 31)), (1, .int x1), (2, .int x2)] := hl
  have hi_X1 : ∀ w ∈ u_ws RX1 TX1 10, w ∈ wsX1_gotten := by decide +kernel
  refine lv_iload_n hx hb dX1_gotten_0 rfl (lv_at hl 1 rfl) ?_
  refine lv_iconst (v := 0) hx hb dX1_gotten_1 (by decide) ?_
  refine lv_aload_n hx hb dX1_gotten_2 rfl (lv_at hl 0 rfl) ?_
  refine q_getI hx hb hts hi_X1 hown hK hP ob_31 rfl 7 (by decide) rfl (hts (.fieldLink RX1 35 "MirrorNet$Asking" "gotCount" "I") (by decide +kernel)) (fun _ h9 => h9) dX1_gotten_3 ?_
  refine lv_iconst (v := 1) hx hb dX1_gotten_6 (by decide) ?_
  refine lv_isub hx hb dX1_gotten_7 ?_
  obtain ⟨r2, hc1, h⟩ := q_bd1 h
  refine q_cRz (va_runSN (As := [.int x1, .int (0 : Int32), .int ((gI M 31 7) - (1 : Int32))]) (rest := []) ⟨hx, hb, hml, hown, hts⟩ (ct_X5_isWithin l hAD (M := M) hc1) ⟨va_cnB 3 hts gX1_gotten_X5_isWithin_n44 rfl rfl rfl (hN (.methodLinkNest RX1 44 yX5_isWithin "MirrorNet") nw_69) (hts (.initialized RX5) (by decide +kernel)) (by decide +kernel) ⟨Nat.le_of_ble_eq_true rfl, Nat.le_of_ble_eq_true rfl⟩, hts (.static yX5_isWithin) (by decide +kernel), trivial⟩ ⟨gw_blind, gw_pre _ hK hP hz hN⟩ rfl rfl hl.1 rfl (lv_room (Nat.le_of_ble_eq_true rfl)) dX1_gotten_8 ⟨Nat.zero_le _, Nat.zero_le _⟩) (fun hzr2 => ?_)
  refine lv_if_ne (tgt := 16) hx hb dX1_gotten_11 (by decide) (fun c6 => ?_) (fun c6 => ?_)
  · have h := q_f c6 h
    refine lv_iload_n hx hb dX1_gotten_16 rfl (lv_at hl 2 rfl) ?_
    by_cases c7 : x2 = (0 : Int32)
    · have h := q_t c7 h
      refine lv_tableIn (off := 27) (tgt := 44) hx hb dX1_gotten_17 (by rw [c7]; decide) (by rw [c7]; decide) (by rw [c7]; rfl) (by decide) ?_
      refine lv_aload_n hx hb dX1_gotten_44 rfl (lv_at hl 0 rfl) ?_
      refine q_getR hx hb hts hi_X1 hown hK hP ob_31 rfl 0 (by decide) rfl (hts (.fieldLink RX1 9 "MirrorNet$Asking" "gotFiles" "[I") (by decide +kernel)) (fun _ h9 => h9) dX1_gotten_45 ?_
      refine lv_iload_n hx hb dX1_gotten_48 rfl (lv_at hl 1 rfl) ?_
      obtain ⟨hk8, h⟩ := q_ck h
      refine q_iald hx hb hK hP ar_32 hk8 dX1_gotten_49 ?_
      exact q_rRi hQ hx hb hr hlk h dX1_gotten_50
    have h := q_f c7 h
    by_cases c9 : x2 = (1 : Int32)
    · have h := q_t c9 h
      refine lv_tableIn (off := 34) (tgt := 51) hx hb dX1_gotten_17 (by rw [c9]; decide) (by rw [c9]; decide) (by rw [c9]; rfl) (by decide) ?_
      refine lv_aload_n hx hb dX1_gotten_51 rfl (lv_at hl 0 rfl) ?_
      refine q_getR hx hb hts hi_X1 hown hK hP ob_31 rfl 1 (by decide) rfl (hts (.fieldLink RX1 15 "MirrorNet$Asking" "gotPackages" "[I") (by decide +kernel)) (fun _ h9 => h9) dX1_gotten_52 ?_
      refine lv_iload_n hx hb dX1_gotten_55 rfl (lv_at hl 1 rfl) ?_
      obtain ⟨hk10, h⟩ := q_ck h
      refine q_iald hx hb hK hP ar_33 hk10 dX1_gotten_56 ?_
      exact q_rRi hQ hx hb hr hlk h dX1_gotten_57
    have h := q_f c9 h
    by_cases c11 : x2 = (2 : Int32)
    · have h := q_t c11 h
      refine lv_tableIn (off := 41) (tgt := 58) hx hb dX1_gotten_17 (by rw [c11]; decide) (by rw [c11]; decide) (by rw [c11]; rfl) (by decide) ?_
      refine lv_aload_n hx hb dX1_gotten_58 rfl (lv_at hl 0 rfl) ?_
      refine q_getR hx hb hts hi_X1 hown hK hP ob_31 rfl 2 (by decide) rfl (hts (.fieldLink RX1 18 "MirrorNet$Asking" "gotMirrors" "[I") (by decide +kernel)) (fun _ h9 => h9) dX1_gotten_59 ?_
      refine lv_iload_n hx hb dX1_gotten_62 rfl (lv_at hl 1 rfl) ?_
      obtain ⟨hk12, h⟩ := q_ck h
      refine q_iald hx hb hK hP ar_34 hk12 dX1_gotten_63 ?_
      exact q_rRi hQ hx hb hr hlk h dX1_gotten_64
    have h := q_f c11 h
    refine lv_tableOut (tgt := 65) hx hb dX1_gotten_17 (by have z0 := lv_neT c7 (a := 0) rfl; have z1 := lv_neT c9 (a := 1) rfl; have z2 := lv_neT c11 (a := 2) rfl; omega) (by decide) ?_
    refine lv_iconst (v := -1) hx hb dX1_gotten_65 (by decide) ?_
    exact q_rRi hQ hx hb hr hlk h dX1_gotten_66
  · have h := q_t c6 h
    refine lv_iconst (v := -1) hx hb dX1_gotten_14 (by decide) ?_
    exact q_rRi hQ hx hb hr hlk h dX1_gotten_15
def rm_X2_add : Room := { frames := 0, cells := 0, slots := 0, locals := 0 }
set_option maxHeartbeats 4000000 in
set_option maxRecDepth 100000 in
theorem ct_X2_add (l : Launch) {D : va_G} {ad : Nat → Nat} {kc : Nat → ClassId} {nm z : Nat} (hAD : AD ad nm z) {M : Mem} {x1 : Int32} {x2 : Int32} {x3 : Int32} {r : Int32} {Mr : Mem}  (h : fn_X2_add M x1 x2 x3 = some (r, Mr)) : Met l yX2_add wsX2_add rm_X2_add (va_Pc [.ref (ad 7), .int x1, .int x2, .int x3] (GW D ad kc nm z M)) (QWi D ad kc nm z r Mr) 0 0 (fun q => z ≤ q) := by
  refine q_met (cc := cX2_add) (maxL := 4) (ret := (some .int)) (by decide) rfl (Nat.le_of_ble_eq_true rfl) ?_
  intro p e s m args below meth c Q ls hx hb hr hlk hml hown hts hB hQ hl
  obtain ⟨hP, hK, hz, hN⟩ := hB
  have hown : s.vm.findClass RX2 = some m.cls := hown
  have hl : lv_has ls 4 [(0, .ref (ad 7)), (1, .int x1), (2, .int x2), (3, .int x3)] := hl
  have hi_X2 : ∀ w ∈ u_ws RX2 TX2 4, w ∈ wsX2_add := by decide +kernel
  have hS : va_S (fun q => z ≤ q) s.heap s.heap [] := va_S.rf
  obtain ⟨H, eH⟩ : ∃ H : Heap, H = s.heap := ⟨_, rfl⟩
  obtain ⟨locs, eL⟩ : ∃ L : List Loc, L = [] := ⟨_, rfl⟩
  have hP : va_P D vwCl (wl ad kc nm M) H := by rw [eH]; exact hP
  have hS : va_S (fun q => z ≤ q) s.heap H locs := by rw [eH, eL]; exact hS
  refine q_start eH eL ?_
  refine lv_aload_n hx hb dX2_add_0 rfl (lv_at hl 0 rfl) ?_
  refine q_getI hx hb hts hi_X2 hown hK hP ob_7 rfl 3 (by decide) rfl (hts (.fieldLink RX2 21 "MirrorNet$Falls" "told" "I") (by decide +kernel)) (fun _ h9 => h9) dX2_add_1 ?_
  refine lv_bipush (v := 40) hx hb dX2_add_4 (by decide) ?_
  refine lv_icmp_lt (tgt := 11) hx hb dX2_add_6 (by decide) (fun c1 => ?_) (fun c1 => ?_)
  · have h := q_t c1 h
    refine lv_aload_n hx hb dX2_add_11 rfl (lv_at hl 0 rfl) ?_
    refine q_getR hx hb hts hi_X2 hown hK hP ob_7 rfl 0 (by decide) rfl (hts (.fieldLink RX2 9 "MirrorNet$Falls" "who" "[I") (by decide +kernel)) (fun _ h9 => h9) dX2_add_12 ?_
    refine lv_aload_n hx hb dX2_add_15 rfl (lv_at hl 0 rfl) ?_
    refine q_getI hx hb hts hi_X2 hown hK hP ob_7 rfl 3 (by decide) rfl (hts (.fieldLink RX2 21 "MirrorNet$Falls" "told" "I") (by decide +kernel)) (fun _ h9 => h9) dX2_add_16 ?_
    refine lv_iload_n hx hb dX2_add_19 rfl (lv_at hl 1 rfl) ?_
    obtain ⟨hk2, h⟩ := q_ck h
    obtain ⟨M3, eM3, h⟩ := q_nx h
    refine q_iast hx hb hK hP hAD hS ar_8 hk2 dX2_add_20 (fun H locs hP hS => ?_)
    rw [← eM3] at hP
    refine lv_aload_n hx hb dX2_add_21 rfl (lv_at hl 0 rfl) ?_
    refine q_getR hx hb hts hi_X2 hown hK hP ob_7 rfl 1 (by decide) rfl (hts (.fieldLink RX2 15 "MirrorNet$Falls" "firsts" "[I") (by decide +kernel)) (fun _ h9 => h9) dX2_add_22 ?_
    refine lv_aload_n hx hb dX2_add_25 rfl (lv_at hl 0 rfl) ?_
    refine q_getI hx hb hts hi_X2 hown hK hP ob_7 rfl 3 (by decide) rfl (hts (.fieldLink RX2 21 "MirrorNet$Falls" "told" "I") (by decide +kernel)) (fun _ h9 => h9) dX2_add_26 ?_
    refine lv_iload_n hx hb dX2_add_29 rfl (lv_at hl 2 rfl) ?_
    obtain ⟨hk4, h⟩ := q_ck h
    obtain ⟨M5, eM5, h⟩ := q_nx h
    refine q_iast hx hb hK hP hAD hS ar_9 hk4 dX2_add_30 (fun H locs hP hS => ?_)
    rw [← eM5] at hP
    refine lv_aload_n hx hb dX2_add_31 rfl (lv_at hl 0 rfl) ?_
    refine q_getR hx hb hts hi_X2 hown hK hP ob_7 rfl 2 (by decide) rfl (hts (.fieldLink RX2 18 "MirrorNet$Falls" "lasts" "[I") (by decide +kernel)) (fun _ h9 => h9) dX2_add_32 ?_
    refine lv_aload_n hx hb dX2_add_35 rfl (lv_at hl 0 rfl) ?_
    refine q_getI hx hb hts hi_X2 hown hK hP ob_7 rfl 3 (by decide) rfl (hts (.fieldLink RX2 21 "MirrorNet$Falls" "told" "I") (by decide +kernel)) (fun _ h9 => h9) dX2_add_36 ?_
    refine lv_iload_n hx hb dX2_add_39 rfl (lv_at hl 3 rfl) ?_
    obtain ⟨hk6, h⟩ := q_ck h
    obtain ⟨M7, eM7, h⟩ := q_nx h
    refine q_iast hx hb hK hP hAD hS ar_10 hk6 dX2_add_40 (fun H locs hP hS => ?_)
    rw [← eM7] at hP
    refine lv_aload_n hx hb dX2_add_41 rfl (lv_at hl 0 rfl) ?_
    refine lv_dup hx hb dX2_add_42 rfl ?_
    refine q_getI hx hb hts hi_X2 hown hK hP ob_7 rfl 3 (by decide) rfl (hts (.fieldLink RX2 21 "MirrorNet$Falls" "told" "I") (by decide +kernel)) (fun _ h9 => h9) dX2_add_43 ?_
    refine lv_iconst (v := 1) hx hb dX2_add_46 (by decide) ?_
    refine lv_iadd hx hb dX2_add_47 ?_
    obtain ⟨M8, eM8, h⟩ := q_nx h
    refine q_putI hx hb hts hi_X2 tyX2 tyX2_ok nmX2 hown hK hP hAD hS ob_7 rfl 3 (by decide) rfl (hts (.fieldLink RX2 21 "MirrorNet$Falls" "told" "I") (by decide +kernel)) (fun _ h9 => h9) rfl (ty := .int) (by decide +kernel) rfl rfl dX2_add_48 (fun H locs hP hS => ?_)
    rw [← eM8] at hP
    refine lv_aload_n hx hb dX2_add_51 rfl (lv_at hl 0 rfl) ?_
    refine q_getI hx hb hts hi_X2 hown hK hP ob_7 rfl 3 (by decide) rfl (hts (.fieldLink RX2 21 "MirrorNet$Falls" "told" "I") (by decide +kernel)) (fun _ h9 => h9) dX2_add_52 ?_
    exact q_rWi hQ hx hb hr hlk hP hS h dX2_add_55
  · have h := q_f c1 h
    refine lv_iconst (v := -1) hx hb dX2_add_9 (by decide) ?_
    exact q_rWi hQ hx hb hr hlk hP hS h dX2_add_10
def rm_X2_downAt : Room := { frames := 1, cells := 0, slots := 0, locals := 22 }
set_option maxHeartbeats 4000000 in
set_option maxRecDepth 100000 in
theorem ct_X2_downAt (l : Launch) {D : va_G} {ad : Nat → Nat} {kc : Nat → ClassId} {nm z : Nat} (hAD : AD ad nm z) {M : Mem} {x1 : Int32} {r : Int32}  (h : fn_X2_downAt M x1 = some r) : Met l yX2_downAt wsX2_downAt rm_X2_downAt (va_Pc [.ref (ad 7), .int x1] (GW D ad kc nm z M)) (QRi r) 0 0 (fun _ => False) := by
  refine q_met (cc := cX2_downAt) (maxL := 4) (ret := (some .int)) (by decide) rfl (Nat.le_of_ble_eq_true rfl) ?_
  intro p e s m args below meth c Q ls hx hb hr hlk hml hown hts hB hQ hl
  obtain ⟨hP, hK, hz, hN⟩ := hB
  have hown : s.vm.findClass RX2 = some m.cls := hown
  have hl : lv_has ls 4 [(0, .ref (ad 7)), (1, .int x1)] := hl
  have hi_X2 : ∀ w ∈ u_ws RX2 TX2 4, w ∈ wsX2_downAt := by decide +kernel
  have L_lq_X2_downAt_4 : ∀ (n4 : Nat) (x2 : Int32) (x3 : Int32) (ls : Array Slot), it2 (lq_X2_downAt_4 M x1) n4 x2 x3 = some r → lv_has ls 4 [(0, .ref (ad 7)), (1, .int x1), (2, .int x2), (3, .int x3)] → W p l e rm_X2_downAt s m args below meth c s.heap [] 0 0 Q (F0 m 4 ls []) := by
    intro n4
    induction n4 with
    | zero =>
      intro x2 x3 ls h hl
      exact (it2_0 h).elim
    | succ n4 ih4 =>
      have B_bk_X2_downAt_42 : ∀ (x2 : Int32) (x3 : Int32) (ls : Array Slot), bk_X2_downAt_42 (it2 (lq_X2_downAt_4 M x1) n4) M x1 x2 x3 = some r → lv_has ls 4 [(0, .ref (ad 7)), (1, .int x1), (2, .int x2), (3, .int x3)] → W p l e rm_X2_downAt s m args below meth c s.heap [] 0 0 Q (F0 m 42 ls []) := by
        intro x2 x3 ls h hl
        obtain ⟨v1, ev1, h⟩ := q_nx h
        refine lv_iinc (v := v1) (lv' := [(3, .int v1), (0, .ref (ad 7)), (1, .int x1), (2, .int x2)]) hx hb dX2_downAt_42 hl (k := 3) rfl (by rw [ev1]; rfl) (by decide) rfl (fun ls hl => ?_)
        refine lv_goto (tgt := 4) hx hb dX2_downAt_45 (by decide) ?_
        exact ih4 x2 v1 ls  h (lv_sub hl [1, 2, 3, 0] rfl)
      intro x2 x3 ls h hl
      have h := it2_s h
      refine lv_iload_n hx hb dX2_downAt_4 rfl (lv_at hl 3 rfl) ?_
      refine lv_aload_n hx hb dX2_downAt_5 rfl (lv_at hl 0 rfl) ?_
      refine q_getI hx hb hts hi_X2 hown hK hP ob_7 rfl 3 (by decide) rfl (hts (.fieldLink RX2 21 "MirrorNet$Falls" "told" "I") (by decide +kernel)) (fun _ h9 => h9) dX2_downAt_6 ?_
      refine lv_icmp_ge (tgt := 48) hx hb dX2_downAt_9 (by decide) (fun c2 => ?_) (fun c2 => ?_)
      · have h := q_t c2 h
        refine lv_iload_n hx hb dX2_downAt_48 rfl (lv_at hl 2 rfl) ?_
        exact q_rRi hQ hx hb hr hlk h dX2_downAt_49
      · have h := q_f c2 h
        refine lv_iload_n hx hb dX2_downAt_12 rfl (lv_at hl 1 rfl) ?_
        refine lv_aload_n hx hb dX2_downAt_13 rfl (lv_at hl 0 rfl) ?_
        refine q_getR hx hb hts hi_X2 hown hK hP ob_7 rfl 1 (by decide) rfl (hts (.fieldLink RX2 15 "MirrorNet$Falls" "firsts" "[I") (by decide +kernel)) (fun _ h9 => h9) dX2_downAt_14 ?_
        refine lv_iload_n hx hb dX2_downAt_17 rfl (lv_at hl 3 rfl) ?_
        obtain ⟨hk3, h⟩ := q_ck h
        refine q_iald hx hb hK hP ar_9 hk3 dX2_downAt_18 ?_
        refine lv_aload_n hx hb dX2_downAt_19 rfl (lv_at hl 0 rfl) ?_
        refine q_getR hx hb hts hi_X2 hown hK hP ob_7 rfl 2 (by decide) rfl (hts (.fieldLink RX2 18 "MirrorNet$Falls" "lasts" "[I") (by decide +kernel)) (fun _ h9 => h9) dX2_downAt_20 ?_
        refine lv_iload_n hx hb dX2_downAt_23 rfl (lv_at hl 3 rfl) ?_
        obtain ⟨hk4, h⟩ := q_ck h
        refine q_iald hx hb hK hP ar_10 hk4 dX2_downAt_24 ?_
        obtain ⟨r6, hc5, h⟩ := q_bd1 h
        refine q_cRz (va_runSN (As := [.int x1, .int (gI M 9 (ix x3)), .int (gI M 10 (ix x3))]) (rest := []) ⟨hx, hb, hml, hown, hts⟩ (ct_X5_isWithin l hAD (M := M) hc5) ⟨va_cnB 3 hts gX2_downAt_X5_isWithin_n25 rfl rfl rfl (hN (.methodLinkNest RX2 25 yX5_isWithin "MirrorNet") nw_42) (hts (.initialized RX5) (by decide +kernel)) (by decide +kernel) ⟨Nat.le_of_ble_eq_true rfl, Nat.le_of_ble_eq_true rfl⟩, hts (.static yX5_isWithin) (by decide +kernel), trivial⟩ ⟨gw_blind, gw_pre _ hK hP hz hN⟩ rfl rfl hl.1 rfl (lv_room (Nat.le_of_ble_eq_true rfl)) dX2_downAt_25 ⟨Nat.zero_le _, Nat.zero_le _⟩) (fun hzr6 => ?_)
        refine lv_if_eq (tgt := 42) hx hb dX2_downAt_28 (by decide) (fun c10 => ?_) (fun c10 => ?_)
        · have h := q_t c10 h
          exact B_bk_X2_downAt_42 x2 x3 ls  h (lv_sub hl [0, 1, 2, 3] rfl)
        · have h := q_f c10 h
          refine lv_iload_n hx hb dX2_downAt_31 rfl (lv_at hl 2 rfl) ?_
          refine lv_iconst (v := 1) hx hb dX2_downAt_32 (by decide) ?_
          refine lv_aload_n hx hb dX2_downAt_33 rfl (lv_at hl 0 rfl) ?_
          refine q_getR hx hb hts hi_X2 hown hK hP ob_7 rfl 0 (by decide) rfl (hts (.fieldLink RX2 9 "MirrorNet$Falls" "who" "[I") (by decide +kernel)) (fun _ h9 => h9) dX2_downAt_34 ?_
          refine lv_iload_n hx hb dX2_downAt_37 rfl (lv_at hl 3 rfl) ?_
          obtain ⟨hk11, h⟩ := q_ck h
          refine q_iald hx hb hK hP ar_8 hk11 dX2_downAt_38 ?_
          refine lv_ishl hx hb dX2_downAt_39 ?_
          refine lv_ior hx hb dX2_downAt_40 ?_
          refine lv_topi (fun v12 ev12 => ?_)
          have h := q_nxe ev12 h
          refine lv_istore_n (lv' := [(2, .int v12), (0, .ref (ad 7)), (1, .int x1), (3, .int x3)]) hx hb dX2_downAt_41 rfl hl (by decide) rfl (fun ls hl => ?_)
          exact B_bk_X2_downAt_42 v12 x3 ls  h (lv_sub hl [1, 2, 0, 3] rfl)
  refine lv_iconst (v := 0) hx hb dX2_downAt_0 (by decide) ?_
  refine lv_istore_n (lv' := [(2, .int (0 : Int32)), (0, .ref (ad 7)), (1, .int x1)]) hx hb dX2_downAt_1 rfl hl (by decide) rfl (fun ls hl => ?_)
  refine lv_iconst (v := 0) hx hb dX2_downAt_2 (by decide) ?_
  refine lv_istore_n (lv' := [(3, .int (0 : Int32)), (2, .int (0 : Int32)), (0, .ref (ad 7)), (1, .int x1)]) hx hb dX2_downAt_3 rfl hl (by decide) rfl (fun ls hl => ?_)
  exact L_lq_X2_downAt_4 FU (0 : Int32) (0 : Int32) ls  h (lv_sub hl [2, 3, 1, 0] rfl)
def rm_X5_bitOf : Room := { frames := 1, cells := 0, slots := 0, locals := 22 }
set_option maxHeartbeats 4000000 in
set_option maxRecDepth 100000 in
theorem ct_X5_bitOf (l : Launch) {D : va_G} {ad : Nat → Nat} {kc : Nat → ClassId} {nm z : Nat} (hAD : AD ad nm z) {M : Mem} {x0 : Int32} {r : Int64}  (h : fn_X5_bitOf x0 = some r) : Met l yX5_bitOf wsX5_bitOf rm_X5_bitOf (va_Pc [.int x0] (GW D ad kc nm z M)) (QRl r) 0 0 (fun _ => False) := by
  refine q_met (cc := cX5_bitOf) (maxL := 1) (ret := (some .long)) (by decide) rfl (Nat.le_of_ble_eq_true rfl) ?_
  intro p e s m args below meth c Q ls hx hb hr hlk hml hown hts hB hQ hl
  obtain ⟨hP, hK, hz, hN⟩ := hB
  have hown : s.vm.findClass RX5 = some m.cls := hown
  have hl : lv_has ls 1 [(0, .int x0)] := hl
  refine lv_iload_n hx hb dX5_bitOf_0 rfl (lv_at hl 0 rfl) ?_
  refine lv_iconst (v := 0) hx hb dX5_bitOf_1 (by decide) ?_
  refine lv_bipush (v := 59) hx hb dX5_bitOf_2 (by decide) ?_
  obtain ⟨r2, hc1, h⟩ := q_bd1 h
  refine q_cRz (va_runS (As := [.int x0, .int (0 : Int32), .int (59 : Int32)]) (rest := []) ⟨hx, hb, hml, hown, hts⟩ (ct_X5_isWithin l hAD (M := M) hc1) (va_cwS 3 hts gX5_bitOf_X5_isWithin rfl rfl rfl (by decide +kernel) ⟨Nat.le_of_ble_eq_true rfl, Nat.le_of_ble_eq_true rfl⟩) ⟨gw_blind, gw_pre _ hK hP hz hN⟩ rfl rfl hl.1 rfl (lv_room (Nat.le_of_ble_eq_true rfl)) dX5_bitOf_4 ⟨Nat.zero_le _, Nat.zero_le _⟩) (fun hzr2 => ?_)
  refine lv_if_eq (tgt := 16) hx hb dX5_bitOf_7 (by decide) (fun c6 => ?_) (fun c6 => ?_)
  · have h := q_t c6 h
    refine lv_lconst (v := 0) hx hb dX5_bitOf_16 (by decide) ?_
    exact q_rRl hQ hx hb hr hlk h dX5_bitOf_17
  · have h := q_f c6 h
    refine lv_lconst (v := 1) hx hb dX5_bitOf_10 (by decide) ?_
    refine lv_iload_n hx hb dX5_bitOf_11 rfl (lv_at hl 0 rfl) ?_
    refine lv_lshl hx hb dX5_bitOf_12 rfl ?_
    refine lv_goto (tgt := 17) hx hb dX5_bitOf_13 (by decide) ?_
    exact q_rRl hQ hx hb hr hlk h dX5_bitOf_17
def rm_X3_holds : Room := { frames := 2, cells := 0, slots := 0, locals := 42 }
set_option maxHeartbeats 4000000 in
set_option maxRecDepth 100000 in
theorem ct_X3_holds (l : Launch) {D : va_G} {ad : Nat → Nat} {kc : Nat → ClassId} {nm z : Nat} (hAD : AD ad nm z) {M : Mem} {n0 : Nat} {x1 : Int32} {r : Int32} (hn0 : n0 < nm) (h : fn_X3_holds M n0 x1 = some r) : Met l yX3_holds wsX3_holds rm_X3_holds (va_Pc [.ref (ad (62 + 2 * n0)), .int x1] (GW D ad kc nm z M)) (QRz r) 0 0 (fun _ => False) := by
  refine q_met (cc := cX3_holds) (maxL := 2) (ret := (some .boolean)) (by decide) rfl (Nat.le_of_ble_eq_true rfl) ?_
  intro p e s m args below meth c Q ls hx hb hr hlk hml hown hts hB hQ hl
  obtain ⟨hP, hK, hz, hN⟩ := hB
  have hown : s.vm.findClass RX3 = some m.cls := hown
  have hl : lv_has ls 2 [(0, .ref (ad (62 + 2 * n0))), (1, .int x1)] := hl
  have hi_X3 : ∀ w ∈ u_ws RX3 TX3 10, w ∈ wsX3_holds := by decide +kernel
  refine lv_aload_n hx hb dX3_holds_0 rfl (lv_at hl 0 rfl) ?_
  refine q_getJ hx hb hts hi_X3 hown hK hP (ob_mirror hn0) rfl 6 (by decide) rfl (hts (.fieldLink RX3 34 "MirrorNet$Mirror" "files" "J") (by decide +kernel)) (fun _ h9 => h9) dX3_holds_1 ?_
  refine lv_iload_n hx hb dX3_holds_4 rfl (lv_at hl 1 rfl) ?_
  obtain ⟨r2, hc1, h⟩ := q_bd1 h
  refine q_cRl (va_runSN (As := [.int x1]) (rest := [.long (gJ M (62 + 2 * n0) 6)]) ⟨hx, hb, hml, hown, hts⟩ (ct_X5_bitOf l hAD (M := M) hc1) ⟨va_cnB 1 hts gX3_holds_X5_bitOf_n38 rfl rfl rfl (hN (.methodLinkNest RX3 38 yX5_bitOf "MirrorNet") nw_48) (hts (.initialized RX5) (by decide +kernel)) (by decide +kernel) ⟨Nat.le_of_ble_eq_true rfl, Nat.le_of_ble_eq_true rfl⟩, hts (.static yX5_bitOf) (by decide +kernel), trivial⟩ ⟨gw_blind, gw_pre _ hK hP hz hN⟩ rfl rfl hl.1 rfl (lv_room (Nat.le_of_ble_eq_true rfl)) dX3_holds_5 ⟨Nat.zero_le _, Nat.zero_le _⟩) ?_
  refine lv_land hx hb dX3_holds_8 ?_
  refine lv_lconst (v := 0) hx hb dX3_holds_9 (by decide) ?_
  refine W.lcmp hx hb dX3_holds_10 ?_
  refine lv_if_eq (tgt := 18) hx hb dX3_holds_11 (by decide) (fun c6 => ?_) (fun c6 => ?_)
  · have h := q_t c6 h
    refine lv_iconst (v := 0) hx hb dX3_holds_18 (by decide) ?_
    exact q_rRz hQ hx hb hr hlk h (Or.inl rfl) dX3_holds_19
  · have h := q_f c6 h
    refine lv_iconst (v := 1) hx hb dX3_holds_14 (by decide) ?_
    refine lv_goto (tgt := 19) hx hb dX3_holds_15 (by decide) ?_
    exact q_rRz hQ hx hb hr hlk h (Or.inr rfl) dX3_holds_19
def rm_X4_hasState : Room := { frames := 0, cells := 0, slots := 0, locals := 0 }
set_option maxHeartbeats 4000000 in
set_option maxRecDepth 100000 in
theorem ct_X4_hasState (l : Launch) {D : va_G} {ad : Nat → Nat} {kc : Nat → ClassId} {nm z : Nat} (hAD : AD ad nm z) {M : Mem} {x1 : Int32} {r : Int32}  (h : fn_X4_hasState M x1 = some r) : Met l yX4_hasState wsX4_hasState rm_X4_hasState (va_Pc [.ref (ad 1), .int x1] (GW D ad kc nm z M)) (QRz r) 0 0 (fun _ => False) := by
  refine q_met (cc := cX4_hasState) (maxL := 2) (ret := (some .boolean)) (by decide) rfl (Nat.le_of_ble_eq_true rfl) ?_
  intro p e s m args below meth c Q ls hx hb hr hlk hml hown hts hB hQ hl
  obtain ⟨hP, hK, hz, hN⟩ := hB
  have hown : s.vm.findClass RX4 = some m.cls := hown
  have hl : lv_has ls 2 [(0, .ref (ad 1)), (1, .int x1)] := hl
  have hi_X4 : ∀ w ∈ u_ws RX4 TX4 8, w ∈ wsX4_hasState := by decide +kernel
  refine lv_iload_n hx hb dX4_hasState_0 rfl (lv_at hl 1 rfl) ?_
  refine lv_if_lt (tgt := 16) hx hb dX4_hasState_1 (by decide) (fun c1 => ?_) (fun c1 => ?_)
  · have h := q_t c1 h
    refine lv_iconst (v := 0) hx hb dX4_hasState_16 (by decide) ?_
    exact q_rRz hQ hx hb hr hlk h (Or.inl rfl) dX4_hasState_17
  · have h := q_f c1 h
    refine lv_iload_n hx hb dX4_hasState_4 rfl (lv_at hl 1 rfl) ?_
    refine lv_aload_n hx hb dX4_hasState_5 rfl (lv_at hl 0 rfl) ?_
    refine q_getI hx hb hts hi_X4 hown hK hP ob_1 rfl 6 (by decide) rfl (hts (.fieldLink RX4 34 "MirrorNet$Shelf" "stateCount" "I") (by decide +kernel)) (fun _ h9 => h9) dX4_hasState_6 ?_
    refine lv_icmp_ge (tgt := 16) hx hb dX4_hasState_9 (by decide) (fun c2 => ?_) (fun c2 => ?_)
    · have h := q_t c2 h
      refine lv_iconst (v := 0) hx hb dX4_hasState_16 (by decide) ?_
      exact q_rRz hQ hx hb hr hlk h (Or.inl rfl) dX4_hasState_17
    · have h := q_f c2 h
      refine lv_iconst (v := 1) hx hb dX4_hasState_12 (by decide) ?_
      refine lv_goto (tgt := 17) hx hb dX4_hasState_13 (by decide) ?_
      exact q_rRz hQ hx hb hr hlk h (Or.inr rfl) dX4_hasState_17
def rm_X4_filesOf : Room := { frames := 1, cells := 0, slots := 0, locals := 21 }
set_option maxHeartbeats 4000000 in
set_option maxRecDepth 100000 in
theorem ct_X4_filesOf (l : Launch) {D : va_G} {ad : Nat → Nat} {kc : Nat → ClassId} {nm z : Nat} (hAD : AD ad nm z) {M : Mem} {x1 : Int32} {r : Int64}  (h : fn_X4_filesOf M x1 = some r) : Met l yX4_filesOf wsX4_filesOf rm_X4_filesOf (va_Pc [.ref (ad 1), .int x1] (GW D ad kc nm z M)) (QRl r) 0 0 (fun _ => False) := by
  refine q_met (cc := cX4_filesOf) (maxL := 2) (ret := (some .long)) (by decide) rfl (Nat.le_of_ble_eq_true rfl) ?_
  intro p e s m args below meth c Q ls hx hb hr hlk hml hown hts hB hQ hl
  obtain ⟨hP, hK, hz, hN⟩ := hB
  have hown : s.vm.findClass RX4 = some m.cls := hown
  have hl : lv_has ls 2 [(0, .ref (ad 1)), (1, .int x1)] := hl
  have hi_X4 : ∀ w ∈ u_ws RX4 TX4 8, w ∈ wsX4_filesOf := by decide +kernel
  refine lv_aload_n hx hb dX4_filesOf_0 rfl (lv_at hl 0 rfl) ?_
  refine lv_iload_n hx hb dX4_filesOf_1 rfl (lv_at hl 1 rfl) ?_
  obtain ⟨r2, hc1, h⟩ := q_bd1 h
  refine q_cRz (va_runV (C := RX4) (As := [.int x1]) (rest := []) ⟨hx, hb, hml, hown, hts⟩ (ct_X4_hasState l hAD (M := M) hc1) (cwV 1 hts gX4_filesOf_X4_hasState rfl rfl rfl (by decide +kernel) ⟨Nat.le_of_ble_eq_true rfl, Nat.le_of_ble_eq_true rfl⟩) ⟨gw_blind, gw_recv ob_1 hK hP rfl, gw_pre _ hK hP hz hN⟩ rfl rfl hl.1 rfl (lv_room (Nat.le_of_ble_eq_true rfl)) dX4_filesOf_2 ⟨Nat.zero_le _, Nat.zero_le _⟩) (fun hzr2 => ?_)
  refine lv_if_eq (tgt := 17) hx hb dX4_filesOf_5 (by decide) (fun c6 => ?_) (fun c6 => ?_)
  · have h := q_t c6 h
    refine lv_lconst (v := 0) hx hb dX4_filesOf_17 (by decide) ?_
    exact q_rRl hQ hx hb hr hlk h dX4_filesOf_18
  · have h := q_f c6 h
    refine lv_aload_n hx hb dX4_filesOf_8 rfl (lv_at hl 0 rfl) ?_
    refine q_getR hx hb hts hi_X4 hown hK hP ob_1 rfl 3 (by decide) rfl (hts (.fieldLink RX4 21 "MirrorNet$Shelf" "stateFiles" "[J") (by decide +kernel)) (fun _ h9 => h9) dX4_filesOf_9 ?_
    refine lv_iload_n hx hb dX4_filesOf_12 rfl (lv_at hl 1 rfl) ?_
    obtain ⟨hk7, h⟩ := q_ck h
    refine q_lald hx hb hK hP ar_5 hk7 dX4_filesOf_13 ?_
    refine lv_goto (tgt := 18) hx hb dX4_filesOf_14 (by decide) ?_
    exact q_rRl hQ hx hb hr hlk h dX4_filesOf_18
def rm_X3_missing : Room := { frames := 2, cells := 0, slots := 0, locals := 42 }
set_option maxHeartbeats 4000000 in
set_option maxRecDepth 100000 in
theorem ct_X3_missing (l : Launch) {D : va_G} {ad : Nat → Nat} {kc : Nat → ClassId} {nm z : Nat} (hAD : AD ad nm z) {M : Mem} {n0 : Nat} {r : Int64} (hn0 : n0 < nm) (h : fn_X3_missing M n0 = some r) : Met l yX3_missing wsX3_missing rm_X3_missing (va_Pc [.ref (ad (62 + 2 * n0)), .ref (ad 1)] (GW D ad kc nm z M)) (QRl r) 0 0 (fun _ => False) := by
  refine q_met (cc := cX3_missing) (maxL := 2) (ret := (some .long)) (by decide) rfl (Nat.le_of_ble_eq_true rfl) ?_
  intro p e s m args below meth c Q ls hx hb hr hlk hml hown hts hB hQ hl
  obtain ⟨hP, hK, hz, hN⟩ := hB
  have hown : s.vm.findClass RX3 = some m.cls := hown
  have hl : lv_has ls 2 [(0, .ref (ad (62 + 2 * n0))), (1, .ref (ad 1))] := hl
  have hi_X3 : ∀ w ∈ u_ws RX3 TX3 10, w ∈ wsX3_missing := by decide +kernel
  refine lv_aload_n hx hb dX3_missing_0 rfl (lv_at hl 1 rfl) ?_
  refine lv_aload_n hx hb dX3_missing_1 rfl (lv_at hl 0 rfl) ?_
  refine q_getI hx hb hts hi_X3 hown hK hP (ob_mirror hn0) rfl 5 (by decide) rfl (hts (.fieldLink RX3 31 "MirrorNet$Mirror" "target" "I") (by decide +kernel)) (fun _ h9 => h9) dX3_missing_2 ?_
  obtain ⟨r2, hc1, h⟩ := q_bd1 h
  refine q_cRl (va_runVN (C := RX4) (As := [.int (gI M (62 + 2 * n0) 5)]) (rest := []) ⟨hx, hb, hml, hown, hts⟩ (ct_X4_filesOf l hAD (M := M) hc1) ⟨va_cnB 1 hts gX3_missing_X4_filesOf_n42 rfl rfl rfl (hN (.methodLinkNest RX3 42 yX4_filesOf "MirrorNet") nw_46) (hts (.initialized RX4) (by decide +kernel)) (by decide +kernel) ⟨Nat.le_of_ble_eq_true rfl, Nat.le_of_ble_eq_true rfl⟩, hts (.instanceMethod yX4_filesOf) (by decide +kernel), hts (.selects RX4 yX4_filesOf yX4_filesOf) (by decide +kernel)⟩ ⟨gw_blind, gw_recv ob_1 hK hP rfl, gw_pre _ hK hP hz hN⟩ rfl rfl hl.1 rfl (lv_room (Nat.le_of_ble_eq_true rfl)) dX3_missing_5 ⟨Nat.zero_le _, Nat.zero_le _⟩) ?_
  refine lv_aload_n hx hb dX3_missing_8 rfl (lv_at hl 0 rfl) ?_
  refine q_getJ hx hb hts hi_X3 hown hK hP (ob_mirror hn0) rfl 6 (by decide) rfl (hts (.fieldLink RX3 34 "MirrorNet$Mirror" "files" "J") (by decide +kernel)) (fun _ h9 => h9) dX3_missing_9 ?_
  refine lv_ldc2 (v := -1) hx hb hown (hts (.constantLong RX3 47 (-1)) (by decide +kernel)) dX3_missing_12 ?_
  refine lv_lxor hx hb dX3_missing_15 ?_
  refine lv_land hx hb dX3_missing_16 ?_
  exact q_rRl hQ hx hb hr hlk h dX3_missing_17
def rm_X4_bytesOf : Room := { frames := 2, cells := 0, slots := 0, locals := 42 }
set_option maxHeartbeats 4000000 in
set_option maxRecDepth 100000 in
theorem ct_X4_bytesOf (l : Launch) {D : va_G} {ad : Nat → Nat} {kc : Nat → ClassId} {nm z : Nat} (hAD : AD ad nm z) {M : Mem} {y1 : Int64} {r : Int32}  (h : fn_X4_bytesOf M y1 = some r) : Met l yX4_bytesOf wsX4_bytesOf rm_X4_bytesOf (va_Pc [.ref (ad 1), .long y1] (GW D ad kc nm z M)) (QRi r) 0 0 (fun _ => False) := by
  refine q_met (cc := cX4_bytesOf) (maxL := 5) (ret := (some .int)) (by decide) rfl (Nat.le_of_ble_eq_true rfl) ?_
  intro p e s m args below meth c Q ls hx hb hr hlk hml hown hts hB hQ hl
  obtain ⟨hP, hK, hz, hN⟩ := hB
  have hown : s.vm.findClass RX4 = some m.cls := hown
  have hl : lv_has ls 5 [(0, .ref (ad 1)), (1, .long y1)] := hl
  have hi_X4 : ∀ w ∈ u_ws RX4 TX4 8, w ∈ wsX4_bytesOf := by decide +kernel
  have L_lq_X4_bytesOf_5 : ∀ (n5 : Nat) (x3 : Int32) (x4 : Int32) (ls : Array Slot), it2 (lq_X4_bytesOf_5 M y1) n5 x3 x4 = some r → lv_has ls 5 [(0, .ref (ad 1)), (1, .long y1), (3, .int x3), (4, .int x4)] → W p l e rm_X4_bytesOf s m args below meth c s.heap [] 0 0 Q (F0 m 5 ls []) := by
    intro n5
    induction n5 with
    | zero =>
      intro x3 x4 ls h hl
      exact (it2_0 h).elim
    | succ n5 ih5 =>
      have B_bk_X4_bytesOf_36 : ∀ (x3 : Int32) (x4 : Int32) (ls : Array Slot), bk_X4_bytesOf_36 (it2 (lq_X4_bytesOf_5 M y1) n5) M y1 x3 x4 = some r → lv_has ls 5 [(0, .ref (ad 1)), (1, .long y1), (3, .int x3), (4, .int x4)] → W p l e rm_X4_bytesOf s m args below meth c s.heap [] 0 0 Q (F0 m 36 ls []) := by
        intro x3 x4 ls h hl
        obtain ⟨v1, ev1, h⟩ := q_nx h
        refine lv_iinc (v := v1) (lv' := [(4, .int v1), (0, .ref (ad 1)), (1, .long y1), (3, .int x3)]) hx hb dX4_bytesOf_36 hl (k := 3) rfl (by rw [ev1]; rfl) (by decide) rfl (fun ls hl => ?_)
        refine lv_goto (tgt := 5) hx hb dX4_bytesOf_39 (by decide) ?_
        exact ih5 x3 v1 ls  h (lv_sub hl [1, 2, 3, 0] rfl)
      intro x3 x4 ls h hl
      have h := it2_s h
      refine lv_iload hx hb dX4_bytesOf_5 (lv_at hl 3 rfl) ?_
      refine lv_aload_n hx hb dX4_bytesOf_7 rfl (lv_at hl 0 rfl) ?_
      refine q_getI hx hb hts hi_X4 hown hK hP ob_1 rfl 5 (by decide) rfl (hts (.fieldLink RX4 38 "MirrorNet$Shelf" "fileCount" "I") (by decide +kernel)) (fun _ h9 => h9) dX4_bytesOf_8 ?_
      refine lv_icmp_ge (tgt := 42) hx hb dX4_bytesOf_11 (by decide) (fun c2 => ?_) (fun c2 => ?_)
      · have h := q_t c2 h
        refine lv_iload_n hx hb dX4_bytesOf_42 rfl (lv_at hl 2 rfl) ?_
        exact q_rRi hQ hx hb hr hlk h dX4_bytesOf_43
      · have h := q_f c2 h
        refine lv_lload_n hx hb dX4_bytesOf_14 rfl (lv_at hl 1 rfl) ?_
        refine lv_iload hx hb dX4_bytesOf_15 (lv_at hl 3 rfl) ?_
        obtain ⟨r4, hc3, h⟩ := q_bd1 h
        refine q_cRl (va_runSN (As := [.int x4]) (rest := [.long y1]) ⟨hx, hb, hml, hown, hts⟩ (ct_X5_bitOf l hAD (M := M) hc3) ⟨va_cnB 1 hts gX4_bytesOf_X5_bitOf_n69 rfl rfl rfl (hN (.methodLinkNest RX4 69 yX5_bitOf "MirrorNet") nw_22) (hts (.initialized RX5) (by decide +kernel)) (by decide +kernel) ⟨Nat.le_of_ble_eq_true rfl, Nat.le_of_ble_eq_true rfl⟩, hts (.static yX5_bitOf) (by decide +kernel), trivial⟩ ⟨gw_blind, gw_pre _ hK hP hz hN⟩ rfl rfl hl.1 rfl (lv_room (Nat.le_of_ble_eq_true rfl)) dX4_bytesOf_17 ⟨Nat.zero_le _, Nat.zero_le _⟩) ?_
        refine lv_land hx hb dX4_bytesOf_20 ?_
        refine lv_lconst (v := 0) hx hb dX4_bytesOf_21 (by decide) ?_
        refine W.lcmp hx hb dX4_bytesOf_22 ?_
        refine lv_if_eq (tgt := 36) hx hb dX4_bytesOf_23 (by decide) (fun c8 => ?_) (fun c8 => ?_)
        · have h := q_t c8 h
          exact B_bk_X4_bytesOf_36 x3 x4 ls  h (lv_sub hl [0, 1, 2, 3] rfl)
        · have h := q_f c8 h
          refine lv_iload_n hx hb dX4_bytesOf_26 rfl (lv_at hl 2 rfl) ?_
          refine lv_aload_n hx hb dX4_bytesOf_27 rfl (lv_at hl 0 rfl) ?_
          refine q_getR hx hb hts hi_X4 hown hK hP ob_1 rfl 0 (by decide) rfl (hts (.fieldLink RX4 9 "MirrorNet$Shelf" "sizes" "[I") (by decide +kernel)) (fun _ h9 => h9) dX4_bytesOf_28 ?_
          refine lv_iload hx hb dX4_bytesOf_31 (lv_at hl 3 rfl) ?_
          obtain ⟨hk9, h⟩ := q_ck h
          refine q_iald hx hb hK hP ar_2 hk9 dX4_bytesOf_33 ?_
          refine lv_iadd hx hb dX4_bytesOf_34 ?_
          refine lv_topi (fun v10 ev10 => ?_)
          have h := q_nxe ev10 h
          refine lv_istore_n (lv' := [(3, .int v10), (0, .ref (ad 1)), (1, .long y1), (4, .int x4)]) hx hb dX4_bytesOf_35 rfl hl (by decide) rfl (fun ls hl => ?_)
          exact B_bk_X4_bytesOf_36 v10 x4 ls  h (lv_sub hl [1, 2, 0, 3] rfl)
  refine lv_iconst (v := 0) hx hb dX4_bytesOf_0 (by decide) ?_
  refine lv_istore_n (lv' := [(3, .int (0 : Int32)), (0, .ref (ad 1)), (1, .long y1)]) hx hb dX4_bytesOf_1 rfl hl (by decide) rfl (fun ls hl => ?_)
  refine lv_iconst (v := 0) hx hb dX4_bytesOf_2 (by decide) ?_
  refine lv_istore (lv' := [(4, .int (0 : Int32)), (3, .int (0 : Int32)), (0, .ref (ad 1)), (1, .long y1)]) hx hb dX4_bytesOf_3 hl (by decide) rfl (fun ls hl => ?_)
  exact L_lq_X4_bytesOf_5 FU (0 : Int32) (0 : Int32) ls  h (lv_sub hl [2, 3, 1, 0] rfl)
def rm_X3_bytesWanted : Room := { frames := 3, cells := 0, slots := 0, locals := 66 }
set_option maxHeartbeats 4000000 in
set_option maxRecDepth 100000 in
theorem ct_X3_bytesWanted (l : Launch) {D : va_G} {ad : Nat → Nat} {kc : Nat → ClassId} {nm z : Nat} (hAD : AD ad nm z) {M : Mem} {n0 : Nat} {r : Int32} (hn0 : n0 < nm) (h : fn_X3_bytesWanted M n0 = some r) : Met l yX3_bytesWanted wsX3_bytesWanted rm_X3_bytesWanted (va_Pc [.ref (ad (62 + 2 * n0)), .ref (ad 1)] (GW D ad kc nm z M)) (QRi r) 0 0 (fun _ => False) := by
  refine q_met (cc := cX3_bytesWanted) (maxL := 2) (ret := (some .int)) (by decide) rfl (Nat.le_of_ble_eq_true rfl) ?_
  intro p e s m args below meth c Q ls hx hb hr hlk hml hown hts hB hQ hl
  obtain ⟨hP, hK, hz, hN⟩ := hB
  have hown : s.vm.findClass RX3 = some m.cls := hown
  have hl : lv_has ls 2 [(0, .ref (ad (62 + 2 * n0))), (1, .ref (ad 1))] := hl
  have hi_X3 : ∀ w ∈ u_ws RX3 TX3 10, w ∈ wsX3_bytesWanted := by decide +kernel
  refine lv_aload_n hx hb dX3_bytesWanted_0 rfl (lv_at hl 0 rfl) ?_
  refine q_getI hx hb hts hi_X3 hown hK hP (ob_mirror hn0) rfl 5 (by decide) rfl (hts (.fieldLink RX3 31 "MirrorNet$Mirror" "target" "I") (by decide +kernel)) (fun _ h9 => h9) dX3_bytesWanted_1 ?_
  refine lv_iconst (v := -1) hx hb dX3_bytesWanted_4 (by decide) ?_
  refine lv_icmp_ne (tgt := 12) hx hb dX3_bytesWanted_5 (by decide) (fun c1 => ?_) (fun c1 => ?_)
  · have h := q_f c1 h
    refine lv_aload_n hx hb dX3_bytesWanted_12 rfl (lv_at hl 1 rfl) ?_
    refine lv_aload_n hx hb dX3_bytesWanted_13 rfl (lv_at hl 0 rfl) ?_
    refine lv_aload_n hx hb dX3_bytesWanted_14 rfl (lv_at hl 1 rfl) ?_
    obtain ⟨r3, hc2, h⟩ := q_bd1 h
    refine q_cRl (va_runV (C := RX3) (As := [.ref (ad 1)]) (rest := [.ref (ad 1)]) ⟨hx, hb, hml, hown, hts⟩ (ct_X3_missing l hAD (M := M) hn0 hc2) (cwV 1 hts gX3_bytesWanted_X3_missing rfl rfl rfl (by decide +kernel) ⟨Nat.le_of_ble_eq_true rfl, Nat.le_of_ble_eq_true rfl⟩) ⟨gw_blind, gw_recv (ob_mirror hn0) hK hP rfl, gw_pre _ hK hP hz hN⟩ rfl rfl hl.1 rfl (lv_room (Nat.le_of_ble_eq_true rfl)) dX3_bytesWanted_15 ⟨Nat.zero_le _, Nat.zero_le _⟩) ?_
    obtain ⟨r8, hc7, h⟩ := q_bd1 h
    refine q_cRi (va_runVN (C := RX4) (As := [.long r3]) (rest := []) ⟨hx, hb, hml, hown, hts⟩ (ct_X4_bytesOf l hAD (M := M) hc7) ⟨va_cnB 1 hts gX3_bytesWanted_X4_bytesOf_n53 rfl rfl rfl (hN (.methodLinkNest RX3 53 yX4_bytesOf "MirrorNet") nw_51) (hts (.initialized RX4) (by decide +kernel)) (by decide +kernel) ⟨Nat.le_of_ble_eq_true rfl, Nat.le_of_ble_eq_true rfl⟩, hts (.instanceMethod yX4_bytesOf) (by decide +kernel), hts (.selects RX4 yX4_bytesOf yX4_bytesOf) (by decide +kernel)⟩ ⟨gw_blind, gw_recv ob_1 hK hP rfl, gw_pre _ hK hP hz hN⟩ rfl rfl hl.1 rfl (lv_room (Nat.le_of_ble_eq_true rfl)) dX3_bytesWanted_18 ⟨Nat.zero_le _, Nat.zero_le _⟩) ?_
    refine lv_aload_n hx hb dX3_bytesWanted_21 rfl (lv_at hl 0 rfl) ?_
    refine q_getI hx hb hts hi_X3 hown hK hP (ob_mirror hn0) rfl 7 (by decide) rfl (hts (.fieldLink RX3 57 "MirrorNet$Mirror" "done" "I") (by decide +kernel)) (fun _ h9 => h9) dX3_bytesWanted_22 ?_
    refine lv_isub hx hb dX3_bytesWanted_25 ?_
    exact q_rRi hQ hx hb hr hlk h dX3_bytesWanted_26
  · have h := q_t c1 h
    refine lv_iconst (v := -1) hx hb dX3_bytesWanted_8 (by decide) ?_
    refine lv_goto (tgt := 26) hx hb dX3_bytesWanted_9 (by decide) ?_
    exact q_rRi hQ hx hb hr hlk h dX3_bytesWanted_26
def rm_J13_bitCount_95d88 : Room := { frames := 0, cells := 0, slots := 0, locals := 0 }
set_option maxHeartbeats 4000000 in
set_option maxRecDepth 100000 in
theorem ct_J13_bitCount_95d88 (l : Launch) {D : va_G} {ad : Nat → Nat} {kc : Nat → ClassId} {nm z : Nat} (hAD : AD ad nm z) {M : Mem} {y0 : Int64} {r : Int32}  (h : fn_J13_bitCount_95d88 y0 = some r) : Met l yJ13_bitCount_95d88 wsJ13_bitCount_95d88 rm_J13_bitCount_95d88 (va_Pc [.long y0] (GW D ad kc nm z M)) (QRi r) 0 0 (fun _ => False) := by
  refine q_met (cc := cJ13_bitCount_95d88) (maxL := 2) (ret := (some .int)) (by decide) rfl (Nat.le_of_ble_eq_true rfl) ?_
  intro p e s m args below meth c Q ls hx hb hr hlk hml hown hts hB hQ hl
  obtain ⟨hP, hK, hz, hN⟩ := hB
  have hown : s.vm.findClass RJ13 = some m.cls := hown
  have hl : lv_has ls 2 [(0, .long y0)] := hl
  refine lv_lload_n hx hb dJ13_bitCount_95d88_0 rfl (lv_at hl 0 rfl) ?_
  refine lv_lload_n hx hb dJ13_bitCount_95d88_1 rfl (lv_at hl 0 rfl) ?_
  refine lv_iconst (v := 1) hx hb dJ13_bitCount_95d88_2 (by decide) ?_
  refine lv_lushr hx hb dJ13_bitCount_95d88_3 rfl ?_
  refine lv_ldc2 (v := 6148914691236517205) hx hb hown (hts (.constantLong RJ13 314 (6148914691236517205)) (by decide +kernel)) dJ13_bitCount_95d88_4 ?_
  refine lv_land hx hb dJ13_bitCount_95d88_7 ?_
  refine lv_lsub hx hb dJ13_bitCount_95d88_8 ?_
  refine lv_topl (fun v1 ev1 => ?_)
  have h := q_nxe ev1 h
  refine lv_lstore_n (lv' := [(0, .long v1)]) hx hb dJ13_bitCount_95d88_9 rfl hl (by decide) rfl (fun ls hl => ?_)
  refine lv_lload_n hx hb dJ13_bitCount_95d88_10 rfl (lv_at hl 0 rfl) ?_
  refine lv_ldc2 (v := 3689348814741910323) hx hb hown (hts (.constantLong RJ13 316 (3689348814741910323)) (by decide +kernel)) dJ13_bitCount_95d88_11 ?_
  refine lv_land hx hb dJ13_bitCount_95d88_14 ?_
  refine lv_lload_n hx hb dJ13_bitCount_95d88_15 rfl (lv_at hl 0 rfl) ?_
  refine lv_iconst (v := 2) hx hb dJ13_bitCount_95d88_16 (by decide) ?_
  refine lv_lushr hx hb dJ13_bitCount_95d88_17 rfl ?_
  refine lv_ldc2 (v := 3689348814741910323) hx hb hown (hts (.constantLong RJ13 316 (3689348814741910323)) (by decide +kernel)) dJ13_bitCount_95d88_18 ?_
  refine lv_land hx hb dJ13_bitCount_95d88_21 ?_
  refine lv_ladd hx hb dJ13_bitCount_95d88_22 ?_
  refine lv_topl (fun v2 ev2 => ?_)
  have h := q_nxe ev2 h
  refine lv_lstore_n (lv' := [(0, .long v2)]) hx hb dJ13_bitCount_95d88_23 rfl hl (by decide) rfl (fun ls hl => ?_)
  refine lv_lload_n hx hb dJ13_bitCount_95d88_24 rfl (lv_at hl 0 rfl) ?_
  refine lv_lload_n hx hb dJ13_bitCount_95d88_25 rfl (lv_at hl 0 rfl) ?_
  refine lv_iconst (v := 4) hx hb dJ13_bitCount_95d88_26 (by decide) ?_
  refine lv_lushr hx hb dJ13_bitCount_95d88_27 rfl ?_
  refine lv_ladd hx hb dJ13_bitCount_95d88_28 ?_
  refine lv_ldc2 (v := 1085102592571150095) hx hb hown (hts (.constantLong RJ13 318 (1085102592571150095)) (by decide +kernel)) dJ13_bitCount_95d88_29 ?_
  refine lv_land hx hb dJ13_bitCount_95d88_32 ?_
  refine lv_topl (fun v3 ev3 => ?_)
  have h := q_nxe ev3 h
  refine lv_lstore_n (lv' := [(0, .long v3)]) hx hb dJ13_bitCount_95d88_33 rfl hl (by decide) rfl (fun ls hl => ?_)
  refine lv_lload_n hx hb dJ13_bitCount_95d88_34 rfl (lv_at hl 0 rfl) ?_
  refine lv_lload_n hx hb dJ13_bitCount_95d88_35 rfl (lv_at hl 0 rfl) ?_
  refine lv_bipush (v := 8) hx hb dJ13_bitCount_95d88_36 (by decide) ?_
  refine lv_lushr hx hb dJ13_bitCount_95d88_38 rfl ?_
  refine lv_ladd hx hb dJ13_bitCount_95d88_39 ?_
  refine lv_topl (fun v4 ev4 => ?_)
  have h := q_nxe ev4 h
  refine lv_lstore_n (lv' := [(0, .long v4)]) hx hb dJ13_bitCount_95d88_40 rfl hl (by decide) rfl (fun ls hl => ?_)
  refine lv_lload_n hx hb dJ13_bitCount_95d88_41 rfl (lv_at hl 0 rfl) ?_
  refine lv_lload_n hx hb dJ13_bitCount_95d88_42 rfl (lv_at hl 0 rfl) ?_
  refine lv_bipush (v := 16) hx hb dJ13_bitCount_95d88_43 (by decide) ?_
  refine lv_lushr hx hb dJ13_bitCount_95d88_45 rfl ?_
  refine lv_ladd hx hb dJ13_bitCount_95d88_46 ?_
  refine lv_topl (fun v5 ev5 => ?_)
  have h := q_nxe ev5 h
  refine lv_lstore_n (lv' := [(0, .long v5)]) hx hb dJ13_bitCount_95d88_47 rfl hl (by decide) rfl (fun ls hl => ?_)
  refine lv_lload_n hx hb dJ13_bitCount_95d88_48 rfl (lv_at hl 0 rfl) ?_
  refine lv_lload_n hx hb dJ13_bitCount_95d88_49 rfl (lv_at hl 0 rfl) ?_
  refine lv_bipush (v := 32) hx hb dJ13_bitCount_95d88_50 (by decide) ?_
  refine lv_lushr hx hb dJ13_bitCount_95d88_52 rfl ?_
  refine lv_ladd hx hb dJ13_bitCount_95d88_53 ?_
  refine lv_topl (fun v6 ev6 => ?_)
  have h := q_nxe ev6 h
  refine lv_lstore_n (lv' := [(0, .long v6)]) hx hb dJ13_bitCount_95d88_54 rfl hl (by decide) rfl (fun ls hl => ?_)
  refine lv_lload_n hx hb dJ13_bitCount_95d88_55 rfl (lv_at hl 0 rfl) ?_
  refine lv_l2i hx hb dJ13_bitCount_95d88_56 rfl ?_
  refine lv_bipush (v := 127) hx hb dJ13_bitCount_95d88_57 (by decide) ?_
  refine lv_iand hx hb dJ13_bitCount_95d88_59 ?_
  exact q_rRi hQ hx hb hr hlk h dJ13_bitCount_95d88_60
def rm_X5_leastOf : Room := { frames := 1, cells := 0, slots := 0, locals := 21 }
set_option maxHeartbeats 4000000 in
set_option maxRecDepth 100000 in
theorem ct_X5_leastOf (l : Launch) {D : va_G} {ad : Nat → Nat} {kc : Nat → ClassId} {nm z : Nat} (hAD : AD ad nm z) {M : Mem} {y0 : Int64} {r : Int32}  (h : fn_X5_leastOf y0 = some r) : Met l yX5_leastOf wsX5_leastOf rm_X5_leastOf (va_Pc [.long y0] (GW D ad kc nm z M)) (QRi r) 0 0 (fun _ => False) := by
  refine q_met (cc := cX5_leastOf) (maxL := 2) (ret := (some .int)) (by decide) rfl (Nat.le_of_ble_eq_true rfl) ?_
  intro p e s m args below meth c Q ls hx hb hr hlk hml hown hts hB hQ hl
  obtain ⟨hP, hK, hz, hN⟩ := hB
  have hown : s.vm.findClass RX5 = some m.cls := hown
  have hl : lv_has ls 2 [(0, .long y0)] := hl
  refine lv_lload_n hx hb dX5_leastOf_0 rfl (lv_at hl 0 rfl) ?_
  refine lv_lload_n hx hb dX5_leastOf_1 rfl (lv_at hl 0 rfl) ?_
  refine lv_lneg hx hb dX5_leastOf_2 ?_
  refine lv_land hx hb dX5_leastOf_3 ?_
  refine lv_lconst (v := 1) hx hb dX5_leastOf_4 (by decide) ?_
  refine lv_lsub hx hb dX5_leastOf_5 ?_
  obtain ⟨r2, hc1, h⟩ := q_bd1 h
  refine q_cRi (va_runS (As := [.long ((y0 &&& (-y0)) - (1 : Int64))]) (rest := []) ⟨hx, hb, hml, hown, hts⟩ (ct_J13_bitCount_95d88 l hAD (M := M) hc1) (va_cwS 1 hts gX5_leastOf_J13_bitCount_95d88 rfl rfl rfl (by decide +kernel) ⟨Nat.le_of_ble_eq_true rfl, Nat.le_of_ble_eq_true rfl⟩) ⟨gw_blind, gw_pre _ hK hP hz hN⟩ rfl rfl hl.1 rfl (lv_room (Nat.le_of_ble_eq_true rfl)) dX5_leastOf_6 ⟨Nat.zero_le _, Nat.zero_le _⟩) ?_
  exact q_rRi hQ hx hb hr hlk h dX5_leastOf_9
def rm_X4_hasFile : Room := { frames := 0, cells := 0, slots := 0, locals := 0 }
set_option maxHeartbeats 4000000 in
set_option maxRecDepth 100000 in
theorem ct_X4_hasFile (l : Launch) {D : va_G} {ad : Nat → Nat} {kc : Nat → ClassId} {nm z : Nat} (hAD : AD ad nm z) {M : Mem} {x1 : Int32} {r : Int32}  (h : fn_X4_hasFile M x1 = some r) : Met l yX4_hasFile wsX4_hasFile rm_X4_hasFile (va_Pc [.ref (ad 1), .int x1] (GW D ad kc nm z M)) (QRz r) 0 0 (fun _ => False) := by
  refine q_met (cc := cX4_hasFile) (maxL := 2) (ret := (some .boolean)) (by decide) rfl (Nat.le_of_ble_eq_true rfl) ?_
  intro p e s m args below meth c Q ls hx hb hr hlk hml hown hts hB hQ hl
  obtain ⟨hP, hK, hz, hN⟩ := hB
  have hown : s.vm.findClass RX4 = some m.cls := hown
  have hl : lv_has ls 2 [(0, .ref (ad 1)), (1, .int x1)] := hl
  have hi_X4 : ∀ w ∈ u_ws RX4 TX4 8, w ∈ wsX4_hasFile := by decide +kernel
  refine lv_iload_n hx hb dX4_hasFile_0 rfl (lv_at hl 1 rfl) ?_
  refine lv_if_lt (tgt := 16) hx hb dX4_hasFile_1 (by decide) (fun c1 => ?_) (fun c1 => ?_)
  · have h := q_t c1 h
    refine lv_iconst (v := 0) hx hb dX4_hasFile_16 (by decide) ?_
    exact q_rRz hQ hx hb hr hlk h (Or.inl rfl) dX4_hasFile_17
  · have h := q_f c1 h
    refine lv_iload_n hx hb dX4_hasFile_4 rfl (lv_at hl 1 rfl) ?_
    refine lv_aload_n hx hb dX4_hasFile_5 rfl (lv_at hl 0 rfl) ?_
    refine q_getI hx hb hts hi_X4 hown hK hP ob_1 rfl 5 (by decide) rfl (hts (.fieldLink RX4 38 "MirrorNet$Shelf" "fileCount" "I") (by decide +kernel)) (fun _ h9 => h9) dX4_hasFile_6 ?_
    refine lv_icmp_ge (tgt := 16) hx hb dX4_hasFile_9 (by decide) (fun c2 => ?_) (fun c2 => ?_)
    · have h := q_t c2 h
      refine lv_iconst (v := 0) hx hb dX4_hasFile_16 (by decide) ?_
      exact q_rRz hQ hx hb hr hlk h (Or.inl rfl) dX4_hasFile_17
    · have h := q_f c2 h
      refine lv_iconst (v := 1) hx hb dX4_hasFile_12 (by decide) ?_
      refine lv_goto (tgt := 17) hx hb dX4_hasFile_13 (by decide) ?_
      exact q_rRz hQ hx hb hr hlk h (Or.inr rfl) dX4_hasFile_17
def rm_X4_sizeOf : Room := { frames := 1, cells := 0, slots := 0, locals := 21 }
set_option maxHeartbeats 4000000 in
set_option maxRecDepth 100000 in
theorem ct_X4_sizeOf (l : Launch) {D : va_G} {ad : Nat → Nat} {kc : Nat → ClassId} {nm z : Nat} (hAD : AD ad nm z) {M : Mem} {x1 : Int32} {r : Int32}  (h : fn_X4_sizeOf M x1 = some r) : Met l yX4_sizeOf wsX4_sizeOf rm_X4_sizeOf (va_Pc [.ref (ad 1), .int x1] (GW D ad kc nm z M)) (QRi r) 0 0 (fun _ => False) := by
  refine q_met (cc := cX4_sizeOf) (maxL := 2) (ret := (some .int)) (by decide) rfl (Nat.le_of_ble_eq_true rfl) ?_
  intro p e s m args below meth c Q ls hx hb hr hlk hml hown hts hB hQ hl
  obtain ⟨hP, hK, hz, hN⟩ := hB
  have hown : s.vm.findClass RX4 = some m.cls := hown
  have hl : lv_has ls 2 [(0, .ref (ad 1)), (1, .int x1)] := hl
  have hi_X4 : ∀ w ∈ u_ws RX4 TX4 8, w ∈ wsX4_sizeOf := by decide +kernel
  refine lv_aload_n hx hb dX4_sizeOf_0 rfl (lv_at hl 0 rfl) ?_
  refine lv_iload_n hx hb dX4_sizeOf_1 rfl (lv_at hl 1 rfl) ?_
  obtain ⟨r2, hc1, h⟩ := q_bd1 h
  refine q_cRz (va_runV (C := RX4) (As := [.int x1]) (rest := []) ⟨hx, hb, hml, hown, hts⟩ (ct_X4_hasFile l hAD (M := M) hc1) (cwV 1 hts gX4_sizeOf_X4_hasFile rfl rfl rfl (by decide +kernel) ⟨Nat.le_of_ble_eq_true rfl, Nat.le_of_ble_eq_true rfl⟩) ⟨gw_blind, gw_recv ob_1 hK hP rfl, gw_pre _ hK hP hz hN⟩ rfl rfl hl.1 rfl (lv_room (Nat.le_of_ble_eq_true rfl)) dX4_sizeOf_2 ⟨Nat.zero_le _, Nat.zero_le _⟩) (fun hzr2 => ?_)
  refine lv_if_eq (tgt := 17) hx hb dX4_sizeOf_5 (by decide) (fun c6 => ?_) (fun c6 => ?_)
  · have h := q_t c6 h
    refine lv_iconst (v := 0) hx hb dX4_sizeOf_17 (by decide) ?_
    exact q_rRi hQ hx hb hr hlk h dX4_sizeOf_18
  · have h := q_f c6 h
    refine lv_aload_n hx hb dX4_sizeOf_8 rfl (lv_at hl 0 rfl) ?_
    refine q_getR hx hb hts hi_X4 hown hK hP ob_1 rfl 0 (by decide) rfl (hts (.fieldLink RX4 9 "MirrorNet$Shelf" "sizes" "[I") (by decide +kernel)) (fun _ h9 => h9) dX4_sizeOf_9 ?_
    refine lv_iload_n hx hb dX4_sizeOf_12 rfl (lv_at hl 1 rfl) ?_
    obtain ⟨hk7, h⟩ := q_ck h
    refine q_iald hx hb hK hP ar_2 hk7 dX4_sizeOf_13 ?_
    refine lv_goto (tgt := 18) hx hb dX4_sizeOf_14 (by decide) ?_
    exact q_rRi hQ hx hb hr hlk h dX4_sizeOf_18
def rm_X3_takeBytes : Room := { frames := 2, cells := 0, slots := 0, locals := 42 }
set_option maxHeartbeats 4000000 in
set_option maxRecDepth 100000 in
theorem ct_X3_takeBytes (l : Launch) {D : va_G} {ad : Nat → Nat} {kc : Nat → ClassId} {nm z : Nat} (hAD : AD ad nm z) {M : Mem} {n0 : Nat} {x1 : Int32} {x2 : Int32} {x3 : Int32} {r : Int32} {Mr : Mem} (hn0 : n0 < nm) (h : fn_X3_takeBytes M n0 x1 x2 x3 = some (r, Mr)) : Met l yX3_takeBytes wsX3_takeBytes rm_X3_takeBytes (va_Pc [.ref (ad (62 + 2 * n0)), .int x1, .int x2, .int x3] (GW D ad kc nm z M)) (QWi D ad kc nm z r Mr) 0 0 (fun q => z ≤ q) := by
  refine q_met (cc := cX3_takeBytes) (maxL := 5) (ret := (some .int)) (by decide) rfl (Nat.le_of_ble_eq_true rfl) ?_
  intro p e s m args below meth c Q ls hx hb hr hlk hml hown hts hB hQ hl
  obtain ⟨hP, hK, hz, hN⟩ := hB
  have hown : s.vm.findClass RX3 = some m.cls := hown
  have hl : lv_has ls 5 [(0, .ref (ad (62 + 2 * n0))), (1, .int x1), (2, .int x2), (3, .int x3)] := hl
  have hi_X3 : ∀ w ∈ u_ws RX3 TX3 10, w ∈ wsX3_takeBytes := by decide +kernel
  have hS : va_S (fun q => z ≤ q) s.heap s.heap [] := va_S.rf
  have B_bk_X3_takeBytes_60 : ∀ (M : Mem) (x4 : Int32) (H : Heap) (locs : List Loc) (ls : Array Slot), bk_X3_takeBytes_60 M x4 = some (r, Mr) → va_P D vwCl (wl ad kc nm M) H → va_S (fun q => z ≤ q) s.heap H locs → lv_has ls 5 [(4, .int x4)] → W p l e rm_X3_takeBytes s m args below meth c H locs 0 0 Q (F0 m 60 ls []) := by
    intro M x4 H locs ls h hP hS hl
    refine lv_iload hx hb dX3_takeBytes_60 (lv_at hl 0 rfl) ?_
    exact q_rWi hQ hx hb hr hlk hP hS h dX3_takeBytes_62
  obtain ⟨H, eH⟩ : ∃ H : Heap, H = s.heap := ⟨_, rfl⟩
  obtain ⟨locs, eL⟩ : ∃ L : List Loc, L = [] := ⟨_, rfl⟩
  have hP : va_P D vwCl (wl ad kc nm M) H := by rw [eH]; exact hP
  have hS : va_S (fun q => z ≤ q) s.heap H locs := by rw [eH, eL]; exact hS
  refine q_start eH eL ?_
  refine lv_iload_n hx hb dX3_takeBytes_0 rfl (lv_at hl 3 rfl) ?_
  refine lv_iload_n hx hb dX3_takeBytes_1 rfl (lv_at hl 2 rfl) ?_
  refine lv_aload_n hx hb dX3_takeBytes_2 rfl (lv_at hl 0 rfl) ?_
  refine q_getI hx hb hts hi_X3 hown hK hP (ob_mirror hn0) rfl 7 (by decide) rfl (hts (.fieldLink RX3 57 "MirrorNet$Mirror" "done" "I") (by decide +kernel)) (fun _ h9 => h9) dX3_takeBytes_3 ?_
  refine lv_isub hx hb dX3_takeBytes_6 ?_
  refine va_mmin hx hb (hml.trans hl.1.symm) hown (hts (.methodLink RX3 85 Lib.Math.min.name) (by decide +kernel)) (hts (.static Lib.Math.min.name) (by decide +kernel)) (hts (.initialized "java/lang/Math") (by decide +kernel)) (hts (.code Lib.Math.min.name Lib.Math.min.code 2 (some .int)) (by decide +kernel)) (Nat.le_of_ble_eq_true rfl) (Nat.le_of_ble_eq_true rfl) (Nat.zero_le _) (Nat.zero_le _) dX3_takeBytes_7 ?_
  refine lv_topi (fun v1 ev1 => ?_)
  have h := q_nxe ev1 h
  refine lv_istore (lv' := [(4, .int v1), (0, .ref (ad (62 + 2 * n0))), (1, .int x1), (2, .int x2), (3, .int x3)]) hx hb dX3_takeBytes_10 hl (by decide) rfl (fun ls hl => ?_)
  refine lv_aload_n hx hb dX3_takeBytes_12 rfl (lv_at hl 1 rfl) ?_
  refine lv_dup hx hb dX3_takeBytes_13 rfl ?_
  refine q_getI hx hb hts hi_X3 hown hK hP (ob_mirror hn0) rfl 8 (by decide) rfl (hts (.fieldLink RX3 91 "MirrorNet$Mirror" "taken" "I") (by decide +kernel)) (fun _ h9 => h9) dX3_takeBytes_14 ?_
  refine lv_iload hx hb dX3_takeBytes_17 (lv_at hl 0 rfl) ?_
  refine lv_iadd hx hb dX3_takeBytes_19 ?_
  obtain ⟨M2, eM2, h⟩ := q_nx h
  refine q_putI hx hb hts hi_X3 tyX3 tyX3_ok nmX3 hown hK hP hAD hS (ob_mirror hn0) rfl 8 (by decide) rfl (hts (.fieldLink RX3 91 "MirrorNet$Mirror" "taken" "I") (by decide +kernel)) (fun _ h9 => h9) rfl (ty := .int) (by decide +kernel) rfl rfl dX3_takeBytes_20 (fun H locs hP hS => ?_)
  rw [← eM2] at hP
  refine lv_aload_n hx hb dX3_takeBytes_23 rfl (lv_at hl 1 rfl) ?_
  refine lv_dup hx hb dX3_takeBytes_24 rfl ?_
  refine q_getI hx hb hts hi_X3 hown hK hP (ob_mirror hn0) rfl 7 (by decide) rfl (hts (.fieldLink RX3 57 "MirrorNet$Mirror" "done" "I") (by decide +kernel)) (fun _ h9 => h9) dX3_takeBytes_25 ?_
  refine lv_iload hx hb dX3_takeBytes_28 (lv_at hl 0 rfl) ?_
  refine lv_iadd hx hb dX3_takeBytes_30 ?_
  obtain ⟨M3, eM3, h⟩ := q_nx h
  refine q_putI hx hb hts hi_X3 tyX3 tyX3_ok nmX3 hown hK hP hAD hS (ob_mirror hn0) rfl 7 (by decide) rfl (hts (.fieldLink RX3 57 "MirrorNet$Mirror" "done" "I") (by decide +kernel)) (fun _ h9 => h9) rfl (ty := .int) (by decide +kernel) rfl rfl dX3_takeBytes_31 (fun H locs hP hS => ?_)
  rw [← eM3] at hP
  refine lv_aload_n hx hb dX3_takeBytes_34 rfl (lv_at hl 1 rfl) ?_
  refine q_getI hx hb hts hi_X3 hown hK hP (ob_mirror hn0) rfl 7 (by decide) rfl (hts (.fieldLink RX3 57 "MirrorNet$Mirror" "done" "I") (by decide +kernel)) (fun _ h9 => h9) dX3_takeBytes_35 ?_
  refine lv_iload_n hx hb dX3_takeBytes_38 rfl (lv_at hl 3 rfl) ?_
  refine lv_icmp_lt (tgt := 60) hx hb dX3_takeBytes_39 (by decide) (fun c4 => ?_) (fun c4 => ?_)
  · have h := q_t c4 h
    exact B_bk_X3_takeBytes_60 M3 v1 H locs ls  h hP hS (lv_sub hl [0] rfl)
  · have h := q_f c4 h
    refine lv_aload_n hx hb dX3_takeBytes_42 rfl (lv_at hl 1 rfl) ?_
    refine lv_dup hx hb dX3_takeBytes_43 rfl ?_
    refine q_getJ hx hb hts hi_X3 hown hK hP (ob_mirror hn0) rfl 6 (by decide) rfl (hts (.fieldLink RX3 34 "MirrorNet$Mirror" "files" "J") (by decide +kernel)) (fun _ h9 => h9) dX3_takeBytes_44 ?_
    refine lv_iload_n hx hb dX3_takeBytes_47 rfl (lv_at hl 2 rfl) ?_
    obtain ⟨r6, hc5, h⟩ := q_bd1 h
    refine q_cRl (va_runSN (As := [.int x1]) (rest := [.long (gJ M3 (62 + 2 * n0) 6), .ref (ad (62 + 2 * n0))]) ⟨hx, hb, hml, hown, hts⟩ (ct_X5_bitOf l hAD (M := M3) hc5) ⟨va_cnB 1 hts gX3_takeBytes_X5_bitOf_n38 rfl rfl rfl (hN (.methodLinkNest RX3 38 yX5_bitOf "MirrorNet") nw_48) (hts (.initialized RX5) (by decide +kernel)) (by decide +kernel) ⟨Nat.le_of_ble_eq_true rfl, Nat.le_of_ble_eq_true rfl⟩, hts (.static yX5_bitOf) (by decide +kernel), trivial⟩ ⟨gw_blind, gw_pre _ hK hP (Nat.le_trans hz hS.1) hN⟩ rfl rfl hl.1 rfl (lv_room (Nat.le_of_ble_eq_true rfl)) dX3_takeBytes_48 ⟨Nat.zero_le _, Nat.zero_le _⟩) ?_
    refine lv_lor hx hb dX3_takeBytes_51 ?_
    obtain ⟨M10, eM10, h⟩ := q_nx h
    refine q_putJ hx hb hts hi_X3 tyX3 tyX3_ok nmX3 hown hK hP hAD hS (ob_mirror hn0) rfl 6 (by decide) rfl (hts (.fieldLink RX3 34 "MirrorNet$Mirror" "files" "J") (by decide +kernel)) (fun _ h9 => h9) rfl (by decide +kernel) dX3_takeBytes_52 (fun H locs hP hS => ?_)
    rw [← eM10] at hP
    refine lv_aload_n hx hb dX3_takeBytes_55 rfl (lv_at hl 1 rfl) ?_
    refine lv_iconst (v := 0) hx hb dX3_takeBytes_56 (by decide) ?_
    obtain ⟨M11, eM11, h⟩ := q_nx h
    refine q_putI hx hb hts hi_X3 tyX3 tyX3_ok nmX3 hown hK hP hAD hS (ob_mirror hn0) rfl 7 (by decide) rfl (hts (.fieldLink RX3 57 "MirrorNet$Mirror" "done" "I") (by decide +kernel)) (fun _ h9 => h9) rfl (ty := .int) (by decide +kernel) rfl rfl dX3_takeBytes_57 (fun H locs hP hS => ?_)
    rw [← eM11] at hP
    exact B_bk_X3_takeBytes_60 M11 v1 H locs ls  h hP hS (lv_sub hl [0] rfl)
def rm_X3_copyFiles : Room := { frames := 3, cells := 0, slots := 0, locals := 66 }
set_option maxHeartbeats 4000000 in
set_option maxRecDepth 100000 in
theorem ct_X3_copyFiles (l : Launch) {D : va_G} {ad : Nat → Nat} {kc : Nat → ClassId} {nm z : Nat} (hAD : AD ad nm z) {M : Mem} {n0 : Nat} {y2 : Int64} {Mr : Mem} (hn0 : n0 < nm) (h : fn_X3_copyFiles M n0 y2 = some Mr) : Met l yX3_copyFiles wsX3_copyFiles rm_X3_copyFiles (va_Pc [.ref (ad (62 + 2 * n0)), .ref (ad 1), .long y2] (GW D ad kc nm z M)) (QWv D ad kc nm z Mr) 0 0 (fun q => z ≤ q) := by
  refine q_met (cc := cX3_copyFiles) (maxL := 9) (ret := none) (by decide) rfl (Nat.le_of_ble_eq_true rfl) ?_
  intro p e s m args below meth c Q ls hx hb hr hlk hml hown hts hB hQ hl
  obtain ⟨hP, hK, hz, hN⟩ := hB
  have hown : s.vm.findClass RX3 = some m.cls := hown
  have hl : lv_has ls 9 [(0, .ref (ad (62 + 2 * n0))), (1, .ref (ad 1)), (2, .long y2)] := hl
  have hi_X3 : ∀ w ∈ u_ws RX3 TX3 10, w ∈ wsX3_copyFiles := by decide +kernel
  have hS : va_S (fun q => z ≤ q) s.heap s.heap [] := va_S.rf
  have L_lq_X3_copyFiles_9 : ∀ (n9 : Nat) (M : Mem) (x4 : Int32) (x5 : Int32) (H : Heap) (locs : List Loc) (ls : Array Slot), it3 (lq_X3_copyFiles_9 n0 y2) n9 M x4 x5 = some Mr → va_P D vwCl (wl ad kc nm M) H → va_S (fun q => z ≤ q) s.heap H locs → lv_has ls 9 [(0, .ref (ad (62 + 2 * n0))), (1, .ref (ad 1)), (2, .long y2), (4, .int x4), (5, .int x5)] → W p l e rm_X3_copyFiles s m args below meth c H locs 0 0 Q (F0 m 9 ls []) := by
    intro n9
    induction n9 with
    | zero =>
      intro M x4 x5 H locs ls h hP hS hl
      exact (it3_0 h).elim
    | succ n9 ih9 =>
      intro M x4 x5 H locs ls h hP hS hl
      have h := it3_s h
      refine lv_iload hx hb dX3_copyFiles_9 (lv_at hl 4 rfl) ?_
      refine lv_bipush (v := 60) hx hb dX3_copyFiles_11 (by decide) ?_
      refine lv_icmp_ge (tgt := 91) hx hb dX3_copyFiles_13 (by decide) (fun c1 => ?_) (fun c1 => ?_)
      · have h := q_t c1 h
        exact q_rWv hQ hx hb hr hlk hP hS h dX3_copyFiles_91
      · have h := q_f c1 h
        refine lv_iload hx hb dX3_copyFiles_16 (lv_at hl 3 rfl) ?_
        refine lv_if_le (tgt := 91) hx hb dX3_copyFiles_18 (by decide) (fun c2 => ?_) (fun c2 => ?_)
        · have h := q_t c2 h
          exact q_rWv hQ hx hb hr hlk hP hS h dX3_copyFiles_91
        · have h := q_f c2 h
          refine lv_aload_n hx hb dX3_copyFiles_21 rfl (lv_at hl 0 rfl) ?_
          refine lv_aload_n hx hb dX3_copyFiles_22 rfl (lv_at hl 1 rfl) ?_
          obtain ⟨r4, hc3, h⟩ := q_bd1 h
          refine q_cRl (va_runV (C := RX3) (As := [.ref (ad 1)]) (rest := []) ⟨hx, hb, hml, hown, hts⟩ (ct_X3_missing l hAD (M := M) hn0 hc3) (cwV 1 hts gX3_copyFiles_X3_missing rfl rfl rfl (by decide +kernel) ⟨Nat.le_of_ble_eq_true rfl, Nat.le_of_ble_eq_true rfl⟩) ⟨gw_blind, gw_recv (ob_mirror hn0) hK hP rfl, gw_pre _ hK hP (Nat.le_trans hz hS.1) hN⟩ rfl rfl hl.1 rfl (lv_room (Nat.le_of_ble_eq_true rfl)) dX3_copyFiles_23 ⟨Nat.zero_le _, Nat.zero_le _⟩) ?_
          refine lv_lstore (lv' := [(6, .long r4), (0, .ref (ad (62 + 2 * n0))), (1, .ref (ad 1)), (2, .long y2), (4, .int x4), (5, .int x5)]) hx hb dX3_copyFiles_26 hl (by decide) rfl (fun ls hl => ?_)
          refine lv_lload hx hb dX3_copyFiles_28 (lv_at hl 0 rfl) ?_
          refine lv_lconst (v := 0) hx hb dX3_copyFiles_30 (by decide) ?_
          refine W.lcmp hx hb dX3_copyFiles_31 ?_
          refine lv_if_ne (tgt := 36) hx hb dX3_copyFiles_32 (by decide) (fun c8 => ?_) (fun c8 => ?_)
          · have h := q_f c8 h
            refine lv_lload hx hb dX3_copyFiles_36 (lv_at hl 0 rfl) ?_
            obtain ⟨r10, hc9, h⟩ := q_bd1 h
            refine q_cRi (va_runSN (As := [.long r4]) (rest := []) ⟨hx, hb, hml, hown, hts⟩ (ct_X5_leastOf l hAD (M := M) hc9) ⟨va_cnB 1 hts gX3_copyFiles_X5_leastOf_n74 rfl rfl rfl (hN (.methodLinkNest RX3 74 yX5_leastOf "MirrorNet") nw_47) (hts (.initialized RX5) (by decide +kernel)) (by decide +kernel) ⟨Nat.le_of_ble_eq_true rfl, Nat.le_of_ble_eq_true rfl⟩, hts (.static yX5_leastOf) (by decide +kernel), trivial⟩ ⟨gw_blind, gw_pre _ hK hP (Nat.le_trans hz hS.1) hN⟩ rfl rfl hl.1 rfl (lv_room (Nat.le_of_ble_eq_true rfl)) dX3_copyFiles_38 ⟨Nat.zero_le _, Nat.zero_le _⟩) ?_
            refine lv_istore (lv' := [(8, .int r10), (6, .long r4), (0, .ref (ad (62 + 2 * n0))), (1, .ref (ad 1)), (2, .long y2), (4, .int x4), (5, .int x5)]) hx hb dX3_copyFiles_41 hl (by decide) rfl (fun ls hl => ?_)
            refine lv_lload_n hx hb dX3_copyFiles_43 rfl (lv_at hl 4 rfl) ?_
            refine lv_iload hx hb dX3_copyFiles_44 (lv_at hl 0 rfl) ?_
            obtain ⟨r15, hc14, h⟩ := q_bd1 h
            refine q_cRl (va_runSN (As := [.int r10]) (rest := [.long y2]) ⟨hx, hb, hml, hown, hts⟩ (ct_X5_bitOf l hAD (M := M) hc14) ⟨va_cnB 1 hts gX3_copyFiles_X5_bitOf_n38 rfl rfl rfl (hN (.methodLinkNest RX3 38 yX5_bitOf "MirrorNet") nw_48) (hts (.initialized RX5) (by decide +kernel)) (by decide +kernel) ⟨Nat.le_of_ble_eq_true rfl, Nat.le_of_ble_eq_true rfl⟩, hts (.static yX5_bitOf) (by decide +kernel), trivial⟩ ⟨gw_blind, gw_pre _ hK hP (Nat.le_trans hz hS.1) hN⟩ rfl rfl hl.1 rfl (lv_room (Nat.le_of_ble_eq_true rfl)) dX3_copyFiles_46 ⟨Nat.zero_le _, Nat.zero_le _⟩) ?_
            refine lv_land hx hb dX3_copyFiles_49 ?_
            refine lv_lconst (v := 0) hx hb dX3_copyFiles_50 (by decide) ?_
            refine W.lcmp hx hb dX3_copyFiles_51 ?_
            refine lv_if_ne (tgt := 66) hx hb dX3_copyFiles_52 (by decide) (fun c19 => ?_) (fun c19 => ?_)
            · have h := q_f c19 h
              refine lv_iload hx hb dX3_copyFiles_66 (lv_at hl 5 rfl) ?_
              refine lv_aload_n hx hb dX3_copyFiles_68 rfl (lv_at hl 2 rfl) ?_
              refine lv_iload hx hb dX3_copyFiles_69 (lv_at hl 0 rfl) ?_
              refine lv_aload_n hx hb dX3_copyFiles_71 rfl (lv_at hl 3 rfl) ?_
              refine lv_iload hx hb dX3_copyFiles_72 (lv_at hl 0 rfl) ?_
              obtain ⟨r21, hc20, h⟩ := q_bd1 h
              refine q_cRi (va_runVN (C := RX4) (As := [.int r10]) (rest := [.int r10, .ref (ad (62 + 2 * n0)), .int x4]) ⟨hx, hb, hml, hown, hts⟩ (ct_X4_sizeOf l hAD (M := M) hc20) ⟨va_cnB 1 hts gX3_copyFiles_X4_sizeOf_n77 rfl rfl rfl (hN (.methodLinkNest RX3 77 yX4_sizeOf "MirrorNet") nw_49) (hts (.initialized RX4) (by decide +kernel)) (by decide +kernel) ⟨Nat.le_of_ble_eq_true rfl, Nat.le_of_ble_eq_true rfl⟩, hts (.instanceMethod yX4_sizeOf) (by decide +kernel), hts (.selects RX4 yX4_sizeOf yX4_sizeOf) (by decide +kernel)⟩ ⟨gw_blind, gw_recv ob_1 hK hP rfl, gw_pre _ hK hP (Nat.le_trans hz hS.1) hN⟩ rfl rfl hl.1 rfl (lv_room (Nat.le_of_ble_eq_true rfl)) dX3_copyFiles_74 ⟨Nat.zero_le _, Nat.zero_le _⟩) ?_
              refine lv_iload hx hb dX3_copyFiles_77 (lv_at hl 5 rfl) ?_
              obtain ⟨r26, M27, hc25, h⟩ := q_bd2 h
              refine q_cWi (va_runV (C := RX3) (As := [.int r10, .int r21, .int x4]) (rest := [.int x4]) ⟨hx, hb, hml, hown, hts⟩ (ct_X3_takeBytes l hAD (M := M) hn0 hc25) (cwV 3 hts gX3_copyFiles_X3_takeBytes rfl rfl rfl (by decide +kernel) ⟨Nat.le_of_ble_eq_true rfl, Nat.le_of_ble_eq_true rfl⟩) ⟨gw_blind, gw_recv (ob_mirror hn0) hK hP rfl, gw_pre _ hK hP (Nat.le_trans hz hS.1) hN⟩ rfl rfl hl.1 rfl (lv_room (Nat.le_of_ble_eq_true rfl)) dX3_copyFiles_79 ⟨Nat.zero_le _, Nat.zero_le _⟩) hS (fun H locs hP hS => ?_)
              refine lv_isub hx hb dX3_copyFiles_82 ?_
              refine lv_topi (fun v30 ev30 => ?_)
              have h := q_nxe ev30 h
              refine lv_istore (lv' := [(4, .int v30), (8, .int r10), (6, .long r4), (0, .ref (ad (62 + 2 * n0))), (1, .ref (ad 1)), (2, .long y2), (5, .int x5)]) hx hb dX3_copyFiles_83 hl (by decide) rfl (fun ls hl => ?_)
              obtain ⟨v31, ev31, h⟩ := q_nx h
              refine lv_iinc (v := v31) (lv' := [(5, .int v31), (4, .int v30), (8, .int r10), (6, .long r4), (0, .ref (ad (62 + 2 * n0))), (1, .ref (ad 1)), (2, .long y2)]) hx hb dX3_copyFiles_85 hl (k := 6) rfl (by rw [ev31]; rfl) (by decide) rfl (fun ls hl => ?_)
              refine lv_goto (tgt := 9) hx hb dX3_copyFiles_88 (by decide) ?_
              exact ih9 M27 v30 v31 H locs ls  h hP hS (lv_sub hl [4, 5, 6, 1, 0] rfl)
            · have h := q_t c19 h
              refine lv_aload_n hx hb dX3_copyFiles_55 rfl (lv_at hl 2 rfl) ?_
              refine lv_iconst (v := -1) hx hb dX3_copyFiles_56 (by decide) ?_
              obtain ⟨M32, eM32, h⟩ := q_nx h
              refine q_putI hx hb hts hi_X3 tyX3 tyX3_ok nmX3 hown hK hP hAD hS (ob_mirror hn0) rfl 5 (by decide) rfl (hts (.fieldLink RX3 31 "MirrorNet$Mirror" "target" "I") (by decide +kernel)) (fun _ h9 => h9) rfl (ty := .int) (by decide +kernel) rfl rfl dX3_copyFiles_57 (fun H locs hP hS => ?_)
              rw [← eM32] at hP
              refine lv_aload_n hx hb dX3_copyFiles_60 rfl (lv_at hl 2 rfl) ?_
              refine lv_iconst (v := 0) hx hb dX3_copyFiles_61 (by decide) ?_
              obtain ⟨M33, eM33, h⟩ := q_nx h
              refine q_putI hx hb hts hi_X3 tyX3 tyX3_ok nmX3 hown hK hP hAD hS (ob_mirror hn0) rfl 7 (by decide) rfl (hts (.fieldLink RX3 57 "MirrorNet$Mirror" "done" "I") (by decide +kernel)) (fun _ h9 => h9) rfl (ty := .int) (by decide +kernel) rfl rfl dX3_copyFiles_62 (fun H locs hP hS => ?_)
              rw [← eM33] at hP
              exact q_rWv hQ hx hb hr hlk hP hS h dX3_copyFiles_65
          · have h := q_t c8 h
            exact q_rWv hQ hx hb hr hlk hP hS h dX3_copyFiles_35
  obtain ⟨H, eH⟩ : ∃ H : Heap, H = s.heap := ⟨_, rfl⟩
  obtain ⟨locs, eL⟩ : ∃ L : List Loc, L = [] := ⟨_, rfl⟩
  have hP : va_P D vwCl (wl ad kc nm M) H := by rw [eH]; exact hP
  have hS : va_S (fun q => z ≤ q) s.heap H locs := by rw [eH, eL]; exact hS
  refine q_start eH eL ?_
  refine lv_aload_n hx hb dX3_copyFiles_0 rfl (lv_at hl 0 rfl) ?_
  refine q_getI hx hb hts hi_X3 hown hK hP (ob_mirror hn0) rfl 3 (by decide) rfl (hts (.fieldLink RX3 15 "MirrorNet$Mirror" "bytesATick" "I") (by decide +kernel)) (fun _ h9 => h9) dX3_copyFiles_1 ?_
  refine lv_topi (fun v34 ev34 => ?_)
  have h := q_nxe ev34 h
  refine lv_istore (lv' := [(4, .int v34), (0, .ref (ad (62 + 2 * n0))), (1, .ref (ad 1)), (2, .long y2)]) hx hb dX3_copyFiles_4 hl (by decide) rfl (fun ls hl => ?_)
  refine lv_iconst (v := 0) hx hb dX3_copyFiles_6 (by decide) ?_
  refine lv_istore (lv' := [(5, .int (0 : Int32)), (4, .int v34), (0, .ref (ad (62 + 2 * n0))), (1, .ref (ad 1)), (2, .long y2)]) hx hb dX3_copyFiles_7 hl (by decide) rfl (fun ls hl => ?_)
  exact L_lq_X3_copyFiles_9 FU M v34 (0 : Int32) H locs ls  h hP hS (lv_sub hl [2, 3, 4, 1, 0] rfl)
def rm_X3_takeIndex : Room := { frames := 0, cells := 0, slots := 0, locals := 0 }
set_option maxHeartbeats 4000000 in
set_option maxRecDepth 100000 in
theorem ct_X3_takeIndex (l : Launch) {D : va_G} {ad : Nat → Nat} {kc : Nat → ClassId} {nm z : Nat} (hAD : AD ad nm z) {M : Mem} {n0 : Nat} {Mr : Mem} (hn0 : n0 < nm) (h : fn_X3_takeIndex M n0 = some Mr) : Met l yX3_takeIndex wsX3_takeIndex rm_X3_takeIndex (va_Pc [.ref (ad (62 + 2 * n0))] (GW D ad kc nm z M)) (QWv D ad kc nm z Mr) 0 0 (fun q => z ≤ q) := by
  refine q_met (cc := cX3_takeIndex) (maxL := 2) (ret := none) (by decide) rfl (Nat.le_of_ble_eq_true rfl) ?_
  intro p e s m args below meth c Q ls hx hb hr hlk hml hown hts hB hQ hl
  obtain ⟨hP, hK, hz, hN⟩ := hB
  have hown : s.vm.findClass RX3 = some m.cls := hown
  have hl : lv_has ls 2 [(0, .ref (ad (62 + 2 * n0)))] := hl
  have hi_X3 : ∀ w ∈ u_ws RX3 TX3 10, w ∈ wsX3_takeIndex := by decide +kernel
  have hS : va_S (fun q => z ≤ q) s.heap s.heap [] := va_S.rf
  have L_lq_X3_takeIndex_2 : ∀ (n2 : Nat) (M : Mem) (x1 : Int32) (H : Heap) (locs : List Loc) (ls : Array Slot), it2 (lq_X3_takeIndex_2 n0) n2 M x1 = some Mr → va_P D vwCl (wl ad kc nm M) H → va_S (fun q => z ≤ q) s.heap H locs → lv_has ls 2 [(0, .ref (ad (62 + 2 * n0))), (1, .int x1)] → W p l e rm_X3_takeIndex s m args below meth c H locs 0 0 Q (F0 m 2 ls []) := by
    intro n2
    induction n2 with
    | zero =>
      intro M x1 H locs ls h hP hS hl
      exact (it2_0 h).elim
    | succ n2 ih2 =>
      intro M x1 H locs ls h hP hS hl
      have h := it2_s h
      refine lv_iload_n hx hb dX3_takeIndex_2 rfl (lv_at hl 1 rfl) ?_
      refine lv_if_le (tgt := 26) hx hb dX3_takeIndex_3 (by decide) (fun c1 => ?_) (fun c1 => ?_)
      · have h := q_t c1 h
        refine lv_aload_n hx hb dX3_takeIndex_26 rfl (lv_at hl 0 rfl) ?_
        refine q_getR hx hb hts hi_X3 hown hK hP (ob_mirror hn0) rfl 2 (by decide) rfl (hts (.fieldLink RX3 21 "MirrorNet$Mirror" "earlier" "[I") (by decide +kernel)) (fun _ h9 => h9) dX3_takeIndex_27 ?_
        refine lv_iconst (v := 0) hx hb dX3_takeIndex_30 (by decide) ?_
        refine lv_aload_n hx hb dX3_takeIndex_31 rfl (lv_at hl 0 rfl) ?_
        refine q_getI hx hb hts hi_X3 hown hK hP (ob_mirror hn0) rfl 4 (by decide) rfl (hts (.fieldLink RX3 60 "MirrorNet$Mirror" "index" "I") (by decide +kernel)) (fun _ h9 => h9) dX3_takeIndex_32 ?_
        obtain ⟨hk2, h⟩ := q_ck h
        obtain ⟨M3, eM3, h⟩ := q_nx h
        refine q_iast hx hb hK hP hAD hS (ar_mirror hn0) hk2 dX3_takeIndex_35 (fun H locs hP hS => ?_)
        rw [← eM3] at hP
        refine lv_aload_n hx hb dX3_takeIndex_36 rfl (lv_at hl 0 rfl) ?_
        refine lv_aload_n hx hb dX3_takeIndex_37 rfl (lv_at hl 0 rfl) ?_
        refine q_getI hx hb hts hi_X3 hown hK hP (ob_mirror hn0) rfl 5 (by decide) rfl (hts (.fieldLink RX3 31 "MirrorNet$Mirror" "target" "I") (by decide +kernel)) (fun _ h9 => h9) dX3_takeIndex_38 ?_
        obtain ⟨M4, eM4, h⟩ := q_nx h
        refine q_putI hx hb hts hi_X3 tyX3 tyX3_ok nmX3 hown hK hP hAD hS (ob_mirror hn0) rfl 4 (by decide) rfl (hts (.fieldLink RX3 60 "MirrorNet$Mirror" "index" "I") (by decide +kernel)) (fun _ h9 => h9) rfl (ty := .int) (by decide +kernel) rfl rfl dX3_takeIndex_41 (fun H locs hP hS => ?_)
        rw [← eM4] at hP
        refine lv_aload_n hx hb dX3_takeIndex_44 rfl (lv_at hl 0 rfl) ?_
        refine lv_iconst (v := -1) hx hb dX3_takeIndex_45 (by decide) ?_
        obtain ⟨M5, eM5, h⟩ := q_nx h
        refine q_putI hx hb hts hi_X3 tyX3 tyX3_ok nmX3 hown hK hP hAD hS (ob_mirror hn0) rfl 5 (by decide) rfl (hts (.fieldLink RX3 31 "MirrorNet$Mirror" "target" "I") (by decide +kernel)) (fun _ h9 => h9) rfl (ty := .int) (by decide +kernel) rfl rfl dX3_takeIndex_46 (fun H locs hP hS => ?_)
        rw [← eM5] at hP
        exact q_rWv hQ hx hb hr hlk hP hS h dX3_takeIndex_49
      · have h := q_f c1 h
        refine lv_aload_n hx hb dX3_takeIndex_6 rfl (lv_at hl 0 rfl) ?_
        refine q_getR hx hb hts hi_X3 hown hK hP (ob_mirror hn0) rfl 2 (by decide) rfl (hts (.fieldLink RX3 21 "MirrorNet$Mirror" "earlier" "[I") (by decide +kernel)) (fun _ h9 => h9) dX3_takeIndex_7 ?_
        refine lv_iload_n hx hb dX3_takeIndex_10 rfl (lv_at hl 1 rfl) ?_
        refine lv_aload_n hx hb dX3_takeIndex_11 rfl (lv_at hl 0 rfl) ?_
        refine q_getR hx hb hts hi_X3 hown hK hP (ob_mirror hn0) rfl 2 (by decide) rfl (hts (.fieldLink RX3 21 "MirrorNet$Mirror" "earlier" "[I") (by decide +kernel)) (fun _ h9 => h9) dX3_takeIndex_12 ?_
        refine lv_iload_n hx hb dX3_takeIndex_15 rfl (lv_at hl 1 rfl) ?_
        refine lv_iconst (v := 1) hx hb dX3_takeIndex_16 (by decide) ?_
        refine lv_isub hx hb dX3_takeIndex_17 ?_
        obtain ⟨hk6, h⟩ := q_ck h
        refine q_iald hx hb hK hP (ar_mirror hn0) hk6 dX3_takeIndex_18 ?_
        obtain ⟨hk7, h⟩ := q_ck h
        obtain ⟨M8, eM8, h⟩ := q_nx h
        refine q_iast hx hb hK hP hAD hS (ar_mirror hn0) hk7 dX3_takeIndex_19 (fun H locs hP hS => ?_)
        rw [← eM8] at hP
        obtain ⟨v9, ev9, h⟩ := q_nx h
        refine lv_iinc (v := v9) (lv' := [(1, .int v9), (0, .ref (ad (62 + 2 * n0)))]) hx hb dX3_takeIndex_20 hl (k := 1) rfl (by rw [ev9]; rfl) (by decide) rfl (fun ls hl => ?_)
        refine lv_goto (tgt := 2) hx hb dX3_takeIndex_23 (by decide) ?_
        exact ih2 M8 v9 H locs ls  h hP hS (lv_sub hl [1, 0] rfl)
  obtain ⟨H, eH⟩ : ∃ H : Heap, H = s.heap := ⟨_, rfl⟩
  obtain ⟨locs, eL⟩ : ∃ L : List Loc, L = [] := ⟨_, rfl⟩
  have hP : va_P D vwCl (wl ad kc nm M) H := by rw [eH]; exact hP
  have hS : va_S (fun q => z ≤ q) s.heap H locs := by rw [eH, eL]; exact hS
  refine q_start eH eL ?_
  refine lv_iconst (v := 2) hx hb dX3_takeIndex_0 (by decide) ?_
  refine lv_istore_n (lv' := [(1, .int (2 : Int32)), (0, .ref (ad (62 + 2 * n0)))]) hx hb dX3_takeIndex_1 rfl hl (by decide) rfl (fun ls hl => ?_)
  exact L_lq_X3_takeIndex_2 FU M (2 : Int32) H locs ls  h hP hS (lv_sub hl [1, 0] rfl)
def rm_X3_dropOld : Room := { frames := 2, cells := 0, slots := 0, locals := 42 }
set_option maxHeartbeats 4000000 in
set_option maxRecDepth 100000 in
theorem ct_X3_dropOld (l : Launch) {D : va_G} {ad : Nat → Nat} {kc : Nat → ClassId} {nm z : Nat} (hAD : AD ad nm z) {M : Mem} {n0 : Nat} {Mr : Mem} (hn0 : n0 < nm) (h : fn_X3_dropOld M n0 = some Mr) : Met l yX3_dropOld wsX3_dropOld rm_X3_dropOld (va_Pc [.ref (ad (62 + 2 * n0)), .ref (ad 1)] (GW D ad kc nm z M)) (QWv D ad kc nm z Mr) 0 0 (fun q => z ≤ q) := by
  refine q_met (cc := cX3_dropOld) (maxL := 5) (ret := none) (by decide) rfl (Nat.le_of_ble_eq_true rfl) ?_
  intro p e s m args below meth c Q ls hx hb hr hlk hml hown hts hB hQ hl
  obtain ⟨hP, hK, hz, hN⟩ := hB
  have hown : s.vm.findClass RX3 = some m.cls := hown
  have hl : lv_has ls 5 [(0, .ref (ad (62 + 2 * n0))), (1, .ref (ad 1))] := hl
  have hi_X3 : ∀ w ∈ u_ws RX3 TX3 10, w ∈ wsX3_dropOld := by decide +kernel
  have hS : va_S (fun q => z ≤ q) s.heap s.heap [] := va_S.rf
  have B_bk_X3_dropOld_47 : ∀ (M : Mem) (y2 : Int64) (H : Heap) (locs : List Loc) (ls : Array Slot), bk_X3_dropOld_47 M n0 y2 = some Mr → va_P D vwCl (wl ad kc nm M) H → va_S (fun q => z ≤ q) s.heap H locs → lv_has ls 5 [(0, .ref (ad (62 + 2 * n0))), (2, .long y2)] → W p l e rm_X3_dropOld s m args below meth c H locs 0 0 Q (F0 m 47 ls []) := by
    intro M y2 H locs ls h hP hS hl
    refine lv_aload_n hx hb dX3_dropOld_47 rfl (lv_at hl 0 rfl) ?_
    refine lv_dup hx hb dX3_dropOld_48 rfl ?_
    refine q_getJ hx hb hts hi_X3 hown hK hP (ob_mirror hn0) rfl 6 (by decide) rfl (hts (.fieldLink RX3 34 "MirrorNet$Mirror" "files" "J") (by decide +kernel)) (fun _ h9 => h9) dX3_dropOld_49 ?_
    refine lv_lload_n hx hb dX3_dropOld_52 rfl (lv_at hl 1 rfl) ?_
    refine lv_land hx hb dX3_dropOld_53 ?_
    obtain ⟨M1, eM1, h⟩ := q_nx h
    refine q_putJ hx hb hts hi_X3 tyX3 tyX3_ok nmX3 hown hK hP hAD hS (ob_mirror hn0) rfl 6 (by decide) rfl (hts (.fieldLink RX3 34 "MirrorNet$Mirror" "files" "J") (by decide +kernel)) (fun _ h9 => h9) rfl (by decide +kernel) dX3_dropOld_54 (fun H locs hP hS => ?_)
    rw [← eM1] at hP
    exact q_rWv hQ hx hb hr hlk hP hS h dX3_dropOld_57
  have L_lq_X3_dropOld_12 : ∀ (M : Mem), ∀ (n12 : Nat) (y2 : Int64) (x4 : Int32) (H : Heap) (locs : List Loc) (ls : Array Slot), it2 (lq_X3_dropOld_12 M n0) n12 y2 x4 = some Mr → va_P D vwCl (wl ad kc nm M) H → va_S (fun q => z ≤ q) s.heap H locs → lv_has ls 5 [(0, .ref (ad (62 + 2 * n0))), (1, .ref (ad 1)), (2, .long y2), (4, .int x4)] → W p l e rm_X3_dropOld s m args below meth c H locs 0 0 Q (F0 m 12 ls []) := by
    intro M n12
    induction n12 with
    | zero =>
      intro y2 x4 H locs ls h hP hS hl
      exact (it2_0 h).elim
    | succ n12 ih12 =>
      intro y2 x4 H locs ls h hP hS hl
      have h := it2_s h
      refine lv_iload hx hb dX3_dropOld_12 (lv_at hl 3 rfl) ?_
      refine lv_aload_n hx hb dX3_dropOld_14 rfl (lv_at hl 0 rfl) ?_
      refine q_getI hx hb hts hi_X3 hown hK hP (ob_mirror hn0) rfl 1 (by decide) rfl (hts (.fieldLink RX3 18 "MirrorNet$Mirror" "keep" "I") (by decide +kernel)) (fun _ h9 => h9) dX3_dropOld_15 ?_
      refine lv_icmp_ge (tgt := 47) hx hb dX3_dropOld_18 (by decide) (fun c2 => ?_) (fun c2 => ?_)
      · have h := q_t c2 h
        exact B_bk_X3_dropOld_47 M y2 H locs ls  h hP hS (lv_sub hl [0, 2] rfl)
      · have h := q_f c2 h
        refine lv_iload hx hb dX3_dropOld_21 (lv_at hl 3 rfl) ?_
        refine lv_iconst (v := 3) hx hb dX3_dropOld_23 (by decide) ?_
        refine lv_icmp_ge (tgt := 47) hx hb dX3_dropOld_24 (by decide) (fun c3 => ?_) (fun c3 => ?_)
        · have h := q_t c3 h
          exact B_bk_X3_dropOld_47 M y2 H locs ls  h hP hS (lv_sub hl [0, 2] rfl)
        · have h := q_f c3 h
          refine lv_lload_n hx hb dX3_dropOld_27 rfl (lv_at hl 2 rfl) ?_
          refine lv_aload_n hx hb dX3_dropOld_28 rfl (lv_at hl 1 rfl) ?_
          refine lv_aload_n hx hb dX3_dropOld_29 rfl (lv_at hl 0 rfl) ?_
          refine q_getR hx hb hts hi_X3 hown hK hP (ob_mirror hn0) rfl 2 (by decide) rfl (hts (.fieldLink RX3 21 "MirrorNet$Mirror" "earlier" "[I") (by decide +kernel)) (fun _ h9 => h9) dX3_dropOld_30 ?_
          refine lv_iload hx hb dX3_dropOld_33 (lv_at hl 3 rfl) ?_
          obtain ⟨hk4, h⟩ := q_ck h
          refine q_iald hx hb hK hP (ar_mirror hn0) hk4 dX3_dropOld_35 ?_
          obtain ⟨r6, hc5, h⟩ := q_bd1 h
          refine q_cRl (va_runVN (C := RX4) (As := [.int (gI M (62 + 2 * n0 + 1) (ix x4))]) (rest := [.long y2]) ⟨hx, hb, hml, hown, hts⟩ (ct_X4_filesOf l hAD (M := M) hc5) ⟨va_cnB 1 hts gX3_dropOld_X4_filesOf_n42 rfl rfl rfl (hN (.methodLinkNest RX3 42 yX4_filesOf "MirrorNet") nw_46) (hts (.initialized RX4) (by decide +kernel)) (by decide +kernel) ⟨Nat.le_of_ble_eq_true rfl, Nat.le_of_ble_eq_true rfl⟩, hts (.instanceMethod yX4_filesOf) (by decide +kernel), hts (.selects RX4 yX4_filesOf yX4_filesOf) (by decide +kernel)⟩ ⟨gw_blind, gw_recv ob_1 hK hP rfl, gw_pre _ hK hP (Nat.le_trans hz hS.1) hN⟩ rfl rfl hl.1 rfl (lv_room (Nat.le_of_ble_eq_true rfl)) dX3_dropOld_36 ⟨Nat.zero_le _, Nat.zero_le _⟩) ?_
          refine lv_lor hx hb dX3_dropOld_39 ?_
          refine lv_topl (fun v10 ev10 => ?_)
          have h := q_nxe ev10 h
          refine lv_lstore_n (lv' := [(2, .long v10), (0, .ref (ad (62 + 2 * n0))), (1, .ref (ad 1)), (4, .int x4)]) hx hb dX3_dropOld_40 rfl hl (by decide) rfl (fun ls hl => ?_)
          obtain ⟨v11, ev11, h⟩ := q_nx h
          refine lv_iinc (v := v11) (lv' := [(4, .int v11), (2, .long v10), (0, .ref (ad (62 + 2 * n0))), (1, .ref (ad 1))]) hx hb dX3_dropOld_41 hl (k := 3) rfl (by rw [ev11]; rfl) (by decide) rfl (fun ls hl => ?_)
          refine lv_goto (tgt := 12) hx hb dX3_dropOld_44 (by decide) ?_
          exact ih12 v10 v11 H locs ls  h hP hS (lv_sub hl [2, 3, 1, 0] rfl)
  obtain ⟨H, eH⟩ : ∃ H : Heap, H = s.heap := ⟨_, rfl⟩
  obtain ⟨locs, eL⟩ : ∃ L : List Loc, L = [] := ⟨_, rfl⟩
  have hP : va_P D vwCl (wl ad kc nm M) H := by rw [eH]; exact hP
  have hS : va_S (fun q => z ≤ q) s.heap H locs := by rw [eH, eL]; exact hS
  refine q_start eH eL ?_
  refine lv_aload_n hx hb dX3_dropOld_0 rfl (lv_at hl 1 rfl) ?_
  refine lv_aload_n hx hb dX3_dropOld_1 rfl (lv_at hl 0 rfl) ?_
  refine q_getI hx hb hts hi_X3 hown hK hP (ob_mirror hn0) rfl 4 (by decide) rfl (hts (.fieldLink RX3 60 "MirrorNet$Mirror" "index" "I") (by decide +kernel)) (fun _ h9 => h9) dX3_dropOld_2 ?_
  obtain ⟨r13, hc12, h⟩ := q_bd1 h
  refine q_cRl (va_runVN (C := RX4) (As := [.int (gI M (62 + 2 * n0) 4)]) (rest := []) ⟨hx, hb, hml, hown, hts⟩ (ct_X4_filesOf l hAD (M := M) hc12) ⟨va_cnB 1 hts gX3_dropOld_X4_filesOf_n42 rfl rfl rfl (hN (.methodLinkNest RX3 42 yX4_filesOf "MirrorNet") nw_46) (hts (.initialized RX4) (by decide +kernel)) (by decide +kernel) ⟨Nat.le_of_ble_eq_true rfl, Nat.le_of_ble_eq_true rfl⟩, hts (.instanceMethod yX4_filesOf) (by decide +kernel), hts (.selects RX4 yX4_filesOf yX4_filesOf) (by decide +kernel)⟩ ⟨gw_blind, gw_recv ob_1 hK hP rfl, gw_pre _ hK hP (Nat.le_trans hz hS.1) hN⟩ rfl rfl hl.1 rfl (lv_room (Nat.le_of_ble_eq_true rfl)) dX3_dropOld_5 ⟨Nat.zero_le _, Nat.zero_le _⟩) ?_
  refine lv_lstore_n (lv' := [(2, .long r13), (0, .ref (ad (62 + 2 * n0))), (1, .ref (ad 1))]) hx hb dX3_dropOld_8 rfl hl (by decide) rfl (fun ls hl => ?_)
  refine lv_iconst (v := 0) hx hb dX3_dropOld_9 (by decide) ?_
  refine lv_istore (lv' := [(4, .int (0 : Int32)), (2, .long r13), (0, .ref (ad (62 + 2 * n0))), (1, .ref (ad 1))]) hx hb dX3_dropOld_10 hl (by decide) rfl (fun ls hl => ?_)
  exact L_lq_X3_dropOld_12 M FU r13 (0 : Int32) H locs ls  h hP hS (lv_sub hl [2, 3, 1, 0] rfl)
