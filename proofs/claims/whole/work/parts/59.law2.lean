set_option maxHeartbeats 4000000 in
set_option maxRecDepth 100000 in
theorem law_grace {p : Program} {l : Launch} {e : Env} {s : State} {m : MethodId} {below : List Frame} {meth : Method} {c : Code} {D : va_G} {kc : Nat → ClassId} {b L i : Nat} {xs : Nat → Int32} (G : lwG p s m meth c b L xs D kc i) (nxt : lwS 801 (72 + 2 * i) (4013 + 13 * i) p l e s m below meth c b i D kc) : lwS 478 (70 + 2 * i) (4000 + 13 * i) p l e s m below meth c b i D kc := by
  intro nm ad M H locs ls hAD hI hP hS hl
  obtain ⟨⟨hx, hb, hr, hml, hown, hts0, hX, hbl, hlocks, hgv⟩, hL, hi4, hK, hN, hAM, hAA⟩ := id G
  have hown : s.vm.findClass RL = some m.cls := hown
  have hts : ∀ w ∈ wsL_law, w.before #[Value.ref b] s = true := fun w h => hts0 w (wsL_law_in w h)
  refine lv_aload_n hx hb dL_law_478 rfl (lv_at hl 1 rfl) ?_
  refine lw_ld (k := 1) G (by omega) (by decide) hS hl dL_law_479 dL_law_480 dL_law_481 dL_law_482 dL_law_483 ?_
  obtain ⟨r, M1, M2, h5, h6, hI2⟩ := op_grace hI (xs (4 * i + 1))
  refine q_cWi (va_runV (As := [.int (xs (4 * i + 1))]) (rest := []) ⟨hx, hb, hml, hown, hts⟩ (ct_X5_grace l hAD (M := M) h5) (cwV 1 hts gL_law_X5_grace rfl rfl rfl (by decide +kernel) ⟨(Nat.le_of_ble_eq_true rfl), (Nat.le_of_ble_eq_true rfl)⟩) ⟨gw_blind, gw_recv ob_0 hK hP rfl, gw_pre _ hK hP hS.1 hN⟩ rfl rfl hl.1 rfl (lv_room (Nat.le_of_ble_eq_true rfl)) dL_law_484 ⟨by show 70 + 2 * i + 0 ≤ 600000; omega, by show 4000 + 13 * i + 0 ≤ 7302250; omega⟩) hS (fun H locs hP hS => ?_)
  refine lv_aload_n hx hb dL_law_487 rfl (lv_at hl 2 rfl) ?_
  refine lw_ld (k := 1) G (by omega) (by decide) hS hl dL_law_488 dL_law_489 dL_law_490 dL_law_491 dL_law_492 ?_
  refine q_cWi (va_runV (As := [.int (xs (4 * i + 1))]) (rest := [.int r]) ⟨hx, hb, hml, hown, hts⟩ (ct_X6_grace l hAD (M := M1) h6) (cwV 1 hts gL_law_X6_grace rfl rfl rfl (by decide +kernel) ⟨(Nat.le_of_ble_eq_true rfl), (Nat.le_of_ble_eq_true rfl)⟩) ⟨gw_blind, gw_recv ob_35 hK hP rfl, gw_pre _ hK hP hS.1 hN⟩ rfl rfl hl.1 rfl (lv_room (Nat.le_of_ble_eq_true rfl)) dL_law_493 ⟨by show 70 + 2 * i + 0 ≤ 600000; omega, by show 4000 + 13 * i + 0 ≤ 7302250; omega⟩) hS (fun H locs hP hS => ?_)
  refine lv_icmp_eq (tgt := 801) hx hb dL_law_496 (by decide) (fun _ => ?_) (fun c1 => absurd rfl c1)
  refine W.widen (k := 72 + 2 * i) (n := 4013 + 13 * i) (by omega) (by omega) ?_
  exact nxt nm ad M2 H locs ls hAD hI2 hP hS hl
set_option maxHeartbeats 4000000 in
set_option maxRecDepth 100000 in
theorem law_forgives {p : Program} {l : Launch} {e : Env} {s : State} {m : MethodId} {below : List Frame} {meth : Method} {c : Code} {D : va_G} {kc : Nat → ClassId} {b L i : Nat} {xs : Nat → Int32} (G : lwG p s m meth c b L xs D kc i) (nxt : lwS 801 (72 + 2 * i) (4013 + 13 * i) p l e s m below meth c b i D kc) : lwS 501 (70 + 2 * i) (4000 + 13 * i) p l e s m below meth c b i D kc := by
  intro nm ad M H locs ls hAD hI hP hS hl
  obtain ⟨⟨hx, hb, hr, hml, hown, hts0, hX, hbl, hlocks, hgv⟩, hL, hi4, hK, hN, hAM, hAA⟩ := id G
  have hown : s.vm.findClass RL = some m.cls := hown
  have hts : ∀ w ∈ wsL_law, w.before #[Value.ref b] s = true := fun w h => hts0 w (wsL_law_in w h)
  refine lv_aload_n hx hb dL_law_501 rfl (lv_at hl 1 rfl) ?_
  refine lw_ld (k := 1) G (by omega) (by decide) hS hl dL_law_502 dL_law_503 dL_law_504 dL_law_505 dL_law_506 ?_
  obtain ⟨r, M1, M2, h5, h6, hI2⟩ := op_forgives hI (xs (4 * i + 1))
  refine q_cWi (va_runV (As := [.int (xs (4 * i + 1))]) (rest := []) ⟨hx, hb, hml, hown, hts⟩ (ct_X5_forgives l hAD (M := M) h5) (cwV 1 hts gL_law_X5_forgives rfl rfl rfl (by decide +kernel) ⟨(Nat.le_of_ble_eq_true rfl), (Nat.le_of_ble_eq_true rfl)⟩) ⟨gw_blind, gw_recv ob_0 hK hP rfl, gw_pre _ hK hP hS.1 hN⟩ rfl rfl hl.1 rfl (lv_room (Nat.le_of_ble_eq_true rfl)) dL_law_507 ⟨by show 70 + 2 * i + 0 ≤ 600000; omega, by show 4000 + 13 * i + 0 ≤ 7302250; omega⟩) hS (fun H locs hP hS => ?_)
  refine lv_aload_n hx hb dL_law_510 rfl (lv_at hl 2 rfl) ?_
  refine lw_ld (k := 1) G (by omega) (by decide) hS hl dL_law_511 dL_law_512 dL_law_513 dL_law_514 dL_law_515 ?_
  refine q_cWi (va_runV (As := [.int (xs (4 * i + 1))]) (rest := [.int r]) ⟨hx, hb, hml, hown, hts⟩ (ct_X6_forgives l hAD (M := M1) h6) (cwV 1 hts gL_law_X6_forgives rfl rfl rfl (by decide +kernel) ⟨(Nat.le_of_ble_eq_true rfl), (Nat.le_of_ble_eq_true rfl)⟩) ⟨gw_blind, gw_recv ob_35 hK hP rfl, gw_pre _ hK hP hS.1 hN⟩ rfl rfl hl.1 rfl (lv_room (Nat.le_of_ble_eq_true rfl)) dL_law_516 ⟨by show 70 + 2 * i + 0 ≤ 600000; omega, by show 4000 + 13 * i + 0 ≤ 7302250; omega⟩) hS (fun H locs hP hS => ?_)
  refine lv_icmp_eq (tgt := 801) hx hb dL_law_519 (by decide) (fun _ => ?_) (fun c1 => absurd rfl c1)
  refine W.widen (k := 72 + 2 * i) (n := 4013 + 13 * i) (by omega) (by omega) ?_
  exact nxt nm ad M2 H locs ls hAD hI2 hP hS hl
set_option maxHeartbeats 4000000 in
set_option maxRecDepth 100000 in
theorem law_ask {p : Program} {l : Launch} {e : Env} {s : State} {m : MethodId} {below : List Frame} {meth : Method} {c : Code} {D : va_G} {kc : Nat → ClassId} {b L i : Nat} {xs : Nat → Int32} (G : lwG p s m meth c b L xs D kc i) (nxt : lwS 801 (72 + 2 * i) (4013 + 13 * i) p l e s m below meth c b i D kc) : lwS 524 (70 + 2 * i) (4000 + 13 * i) p l e s m below meth c b i D kc := by
  intro nm ad M H locs ls hAD hI hP hS hl
  obtain ⟨⟨hx, hb, hr, hml, hown, hts0, hX, hbl, hlocks, hgv⟩, hL, hi4, hK, hN, hAM, hAA⟩ := id G
  have hown : s.vm.findClass RL = some m.cls := hown
  have hts : ∀ w ∈ wsL_law, w.before #[Value.ref b] s = true := fun w h => hts0 w (wsL_law_in w h)
  refine lv_aload_n hx hb dL_law_524 rfl (lv_at hl 1 rfl) ?_
  refine lw_ld (k := 1) G (by omega) (by decide) hS hl dL_law_525 dL_law_526 dL_law_527 dL_law_528 dL_law_529 ?_
  refine lw_ld (k := 2) G (by omega) (by decide) hS hl dL_law_530 dL_law_531 dL_law_532 dL_law_533 dL_law_534 ?_
  obtain ⟨r, M1, M2, h5, h6, hI2⟩ := op_ask hI (xs (4 * i + 1)) (xs (4 * i + 2))
  refine q_cWi (va_runV (As := [.int (xs (4 * i + 1)), .int (xs (4 * i + 2))]) (rest := []) ⟨hx, hb, hml, hown, hts⟩ (ct_X5_ask l hAD (M := M) h5) (cwV 2 hts gL_law_X5_ask rfl rfl rfl (by decide +kernel) ⟨(Nat.le_of_ble_eq_true rfl), (Nat.le_of_ble_eq_true rfl)⟩) ⟨gw_blind, gw_recv ob_0 hK hP rfl, gw_pre _ hK hP hS.1 hN⟩ rfl rfl hl.1 rfl (lv_room (Nat.le_of_ble_eq_true rfl)) dL_law_535 ⟨by show 70 + 2 * i + 0 ≤ 600000; omega, by show 4000 + 13 * i + 0 ≤ 7302250; omega⟩) hS (fun H locs hP hS => ?_)
  refine lv_aload_n hx hb dL_law_538 rfl (lv_at hl 2 rfl) ?_
  refine lw_ld (k := 1) G (by omega) (by decide) hS hl dL_law_539 dL_law_540 dL_law_541 dL_law_542 dL_law_543 ?_
  refine lw_ld (k := 2) G (by omega) (by decide) hS hl dL_law_544 dL_law_545 dL_law_546 dL_law_547 dL_law_548 ?_
  refine q_cWi (va_runV (As := [.int (xs (4 * i + 1)), .int (xs (4 * i + 2))]) (rest := [.int r]) ⟨hx, hb, hml, hown, hts⟩ (ct_X6_ask l hAD (M := M1) h6) (cwV 2 hts gL_law_X6_ask rfl rfl rfl (by decide +kernel) ⟨(Nat.le_of_ble_eq_true rfl), (Nat.le_of_ble_eq_true rfl)⟩) ⟨gw_blind, gw_recv ob_35 hK hP rfl, gw_pre _ hK hP hS.1 hN⟩ rfl rfl hl.1 rfl (lv_room (Nat.le_of_ble_eq_true rfl)) dL_law_549 ⟨by show 70 + 2 * i + 0 ≤ 600000; omega, by show 4000 + 13 * i + 0 ≤ 7302250; omega⟩) hS (fun H locs hP hS => ?_)
  refine lv_icmp_eq (tgt := 801) hx hb dL_law_552 (by decide) (fun _ => ?_) (fun c1 => absurd rfl c1)
  refine W.widen (k := 72 + 2 * i) (n := 4013 + 13 * i) (by omega) (by omega) ?_
  exact nxt nm ad M2 H locs ls hAD hI2 hP hS hl
set_option maxHeartbeats 4000000 in
set_option maxRecDepth 100000 in
theorem law_asked {p : Program} {l : Launch} {e : Env} {s : State} {m : MethodId} {below : List Frame} {meth : Method} {c : Code} {D : va_G} {kc : Nat → ClassId} {b L i : Nat} {xs : Nat → Int32} (G : lwG p s m meth c b L xs D kc i) (nxt : lwS 801 (72 + 2 * i) (4013 + 13 * i) p l e s m below meth c b i D kc) : lwS 557 (70 + 2 * i) (4000 + 13 * i) p l e s m below meth c b i D kc := by
  intro nm ad M H locs ls hAD hI hP hS hl
  obtain ⟨⟨hx, hb, hr, hml, hown, hts0, hX, hbl, hlocks, hgv⟩, hL, hi4, hK, hN, hAM, hAA⟩ := id G
  have hown : s.vm.findClass RL = some m.cls := hown
  have hts : ∀ w ∈ wsL_law, w.before #[Value.ref b] s = true := fun w h => hts0 w (wsL_law_in w h)
  refine lv_aload_n hx hb dL_law_557 rfl (lv_at hl 1 rfl) ?_
  refine lw_ld (k := 1) G (by omega) (by decide) hS hl dL_law_558 dL_law_559 dL_law_560 dL_law_561 dL_law_562 ?_
  obtain ⟨r, h5, h6⟩ := op_asked hI (xs (4 * i + 1))
  refine q_cRi (va_runV (As := [.int (xs (4 * i + 1))]) (rest := []) ⟨hx, hb, hml, hown, hts⟩ (ct_X5_asked l hAD (M := M) h5) (cwV 1 hts gL_law_X5_asked rfl rfl rfl (by decide +kernel) ⟨(Nat.le_of_ble_eq_true rfl), (Nat.le_of_ble_eq_true rfl)⟩) ⟨gw_blind, gw_recv ob_0 hK hP rfl, gw_pre _ hK hP hS.1 hN⟩ rfl rfl hl.1 rfl (lv_room (Nat.le_of_ble_eq_true rfl)) dL_law_563 ⟨by show 70 + 2 * i + 0 ≤ 600000; omega, by show 4000 + 13 * i + 0 ≤ 7302250; omega⟩) ?_
  refine lv_aload_n hx hb dL_law_566 rfl (lv_at hl 2 rfl) ?_
  refine lw_ld (k := 1) G (by omega) (by decide) hS hl dL_law_567 dL_law_568 dL_law_569 dL_law_570 dL_law_571 ?_
  refine q_cRi (va_runV (As := [.int (xs (4 * i + 1))]) (rest := [.int r]) ⟨hx, hb, hml, hown, hts⟩ (ct_X6_asked l hAD (M := M) h6) (cwV 1 hts gL_law_X6_asked rfl rfl rfl (by decide +kernel) ⟨(Nat.le_of_ble_eq_true rfl), (Nat.le_of_ble_eq_true rfl)⟩) ⟨gw_blind, gw_recv ob_35 hK hP rfl, gw_pre _ hK hP hS.1 hN⟩ rfl rfl hl.1 rfl (lv_room (Nat.le_of_ble_eq_true rfl)) dL_law_572 ⟨by show 70 + 2 * i + 0 ≤ 600000; omega, by show 4000 + 13 * i + 0 ≤ 7302250; omega⟩) ?_
  refine lv_icmp_eq (tgt := 801) hx hb dL_law_575 (by decide) (fun _ => ?_) (fun c1 => absurd rfl c1)
  refine W.widen (k := 72 + 2 * i) (n := 4013 + 13 * i) (by omega) (by omega) ?_
  exact nxt nm ad M H locs ls hAD hI hP hS hl
set_option maxHeartbeats 4000000 in
set_option maxRecDepth 100000 in
theorem law_got {p : Program} {l : Launch} {e : Env} {s : State} {m : MethodId} {below : List Frame} {meth : Method} {c : Code} {D : va_G} {kc : Nat → ClassId} {b L i : Nat} {xs : Nat → Int32} (G : lwG p s m meth c b L xs D kc i) (nxt : lwS 801 (72 + 2 * i) (4013 + 13 * i) p l e s m below meth c b i D kc) : lwS 580 (70 + 2 * i) (4000 + 13 * i) p l e s m below meth c b i D kc := by
  intro nm ad M H locs ls hAD hI hP hS hl
  obtain ⟨⟨hx, hb, hr, hml, hown, hts0, hX, hbl, hlocks, hgv⟩, hL, hi4, hK, hN, hAM, hAA⟩ := id G
  have hown : s.vm.findClass RL = some m.cls := hown
  have hts : ∀ w ∈ wsL_law, w.before #[Value.ref b] s = true := fun w h => hts0 w (wsL_law_in w h)
  refine lv_aload_n hx hb dL_law_580 rfl (lv_at hl 1 rfl) ?_
  refine lw_ld (k := 1) G (by omega) (by decide) hS hl dL_law_581 dL_law_582 dL_law_583 dL_law_584 dL_law_585 ?_
  refine lw_ld (k := 2) G (by omega) (by decide) hS hl dL_law_586 dL_law_587 dL_law_588 dL_law_589 dL_law_590 ?_
  obtain ⟨r, h5, h6⟩ := op_got hI (xs (4 * i + 1)) (xs (4 * i + 2))
  refine q_cRi (va_runV (As := [.int (xs (4 * i + 1)), .int (xs (4 * i + 2))]) (rest := []) ⟨hx, hb, hml, hown, hts⟩ (ct_X5_got l hAD (M := M) h5) (cwV 2 hts gL_law_X5_got rfl rfl rfl (by decide +kernel) ⟨(Nat.le_of_ble_eq_true rfl), (Nat.le_of_ble_eq_true rfl)⟩) ⟨gw_blind, gw_recv ob_0 hK hP rfl, gw_pre _ hK hP hS.1 hN⟩ rfl rfl hl.1 rfl (lv_room (Nat.le_of_ble_eq_true rfl)) dL_law_591 ⟨by show 70 + 2 * i + 0 ≤ 600000; omega, by show 4000 + 13 * i + 0 ≤ 7302250; omega⟩) ?_
  refine lv_aload_n hx hb dL_law_594 rfl (lv_at hl 2 rfl) ?_
  refine lw_ld (k := 1) G (by omega) (by decide) hS hl dL_law_595 dL_law_596 dL_law_597 dL_law_598 dL_law_599 ?_
  refine lw_ld (k := 2) G (by omega) (by decide) hS hl dL_law_600 dL_law_601 dL_law_602 dL_law_603 dL_law_604 ?_
  refine q_cRi (va_runV (As := [.int (xs (4 * i + 1)), .int (xs (4 * i + 2))]) (rest := [.int r]) ⟨hx, hb, hml, hown, hts⟩ (ct_X6_got l hAD (M := M) h6) (cwV 2 hts gL_law_X6_got rfl rfl rfl (by decide +kernel) ⟨(Nat.le_of_ble_eq_true rfl), (Nat.le_of_ble_eq_true rfl)⟩) ⟨gw_blind, gw_recv ob_35 hK hP rfl, gw_pre _ hK hP hS.1 hN⟩ rfl rfl hl.1 rfl (lv_room (Nat.le_of_ble_eq_true rfl)) dL_law_605 ⟨by show 70 + 2 * i + 0 ≤ 600000; omega, by show 4000 + 13 * i + 0 ≤ 7302250; omega⟩) ?_
  refine lv_icmp_eq (tgt := 801) hx hb dL_law_608 (by decide) (fun _ => ?_) (fun c1 => absurd rfl c1)
  refine W.widen (k := 72 + 2 * i) (n := 4013 + 13 * i) (by omega) (by omega) ?_
  exact nxt nm ad M H locs ls hAD hI hP hS hl
set_option maxHeartbeats 4000000 in
set_option maxRecDepth 100000 in
theorem law_asker {p : Program} {l : Launch} {e : Env} {s : State} {m : MethodId} {below : List Frame} {meth : Method} {c : Code} {D : va_G} {kc : Nat → ClassId} {b L i : Nat} {xs : Nat → Int32} (G : lwG p s m meth c b L xs D kc i) (nxt : lwS 801 (72 + 2 * i) (4013 + 13 * i) p l e s m below meth c b i D kc) : lwS 613 (70 + 2 * i) (4000 + 13 * i) p l e s m below meth c b i D kc := by
  intro nm ad M H locs ls hAD hI hP hS hl
  obtain ⟨⟨hx, hb, hr, hml, hown, hts0, hX, hbl, hlocks, hgv⟩, hL, hi4, hK, hN, hAM, hAA⟩ := id G
  have hown : s.vm.findClass RL = some m.cls := hown
  have hts : ∀ w ∈ wsL_law, w.before #[Value.ref b] s = true := fun w h => hts0 w (wsL_law_in w h)
  refine lv_aload_n hx hb dL_law_613 rfl (lv_at hl 1 rfl) ?_
  refine lw_ld (k := 1) G (by omega) (by decide) hS hl dL_law_614 dL_law_615 dL_law_616 dL_law_617 dL_law_618 ?_
  refine lw_ld (k := 2) G (by omega) (by decide) hS hl dL_law_619 dL_law_620 dL_law_621 dL_law_622 dL_law_623 ?_
  obtain ⟨r, h5, h6⟩ := op_asker hI (xs (4 * i + 1)) (xs (4 * i + 2))
  refine q_cRi (va_runV (As := [.int (xs (4 * i + 1)), .int (xs (4 * i + 2))]) (rest := []) ⟨hx, hb, hml, hown, hts⟩ (ct_X5_asker l hAD (M := M) h5) (cwV 2 hts gL_law_X5_asker rfl rfl rfl (by decide +kernel) ⟨(Nat.le_of_ble_eq_true rfl), (Nat.le_of_ble_eq_true rfl)⟩) ⟨gw_blind, gw_recv ob_0 hK hP rfl, gw_pre _ hK hP hS.1 hN⟩ rfl rfl hl.1 rfl (lv_room (Nat.le_of_ble_eq_true rfl)) dL_law_624 ⟨by show 70 + 2 * i + 0 ≤ 600000; omega, by show 4000 + 13 * i + 0 ≤ 7302250; omega⟩) ?_
  refine lv_aload_n hx hb dL_law_627 rfl (lv_at hl 2 rfl) ?_
  refine lw_ld (k := 1) G (by omega) (by decide) hS hl dL_law_628 dL_law_629 dL_law_630 dL_law_631 dL_law_632 ?_
  refine lw_ld (k := 2) G (by omega) (by decide) hS hl dL_law_633 dL_law_634 dL_law_635 dL_law_636 dL_law_637 ?_
  refine q_cRi (va_runV (As := [.int (xs (4 * i + 1)), .int (xs (4 * i + 2))]) (rest := [.int r]) ⟨hx, hb, hml, hown, hts⟩ (ct_X6_asker l hAD (M := M) h6) (cwV 2 hts gL_law_X6_asker rfl rfl rfl (by decide +kernel) ⟨(Nat.le_of_ble_eq_true rfl), (Nat.le_of_ble_eq_true rfl)⟩) ⟨gw_blind, gw_recv ob_35 hK hP rfl, gw_pre _ hK hP hS.1 hN⟩ rfl rfl hl.1 rfl (lv_room (Nat.le_of_ble_eq_true rfl)) dL_law_638 ⟨by show 70 + 2 * i + 0 ≤ 600000; omega, by show 4000 + 13 * i + 0 ≤ 7302250; omega⟩) ?_
  refine lv_icmp_eq (tgt := 801) hx hb dL_law_641 (by decide) (fun _ => ?_) (fun c1 => absurd rfl c1)
  refine W.widen (k := 72 + 2 * i) (n := 4013 + 13 * i) (by omega) (by omega) ?_
  exact nxt nm ad M H locs ls hAD hI hP hS hl
set_option maxHeartbeats 4000000 in
set_option maxRecDepth 100000 in
theorem law_names {p : Program} {l : Launch} {e : Env} {s : State} {m : MethodId} {below : List Frame} {meth : Method} {c : Code} {D : va_G} {kc : Nat → ClassId} {b L i : Nat} {xs : Nat → Int32} (G : lwG p s m meth c b L xs D kc i) (nxt : lwS 801 (72 + 2 * i) (4013 + 13 * i) p l e s m below meth c b i D kc) : lwS 646 (70 + 2 * i) (4000 + 13 * i) p l e s m below meth c b i D kc := by
  intro nm ad M H locs ls hAD hI hP hS hl
  obtain ⟨⟨hx, hb, hr, hml, hown, hts0, hX, hbl, hlocks, hgv⟩, hL, hi4, hK, hN, hAM, hAA⟩ := id G
  have hown : s.vm.findClass RL = some m.cls := hown
  have hts : ∀ w ∈ wsL_law, w.before #[Value.ref b] s = true := fun w h => hts0 w (wsL_law_in w h)
  refine lv_aload_n hx hb dL_law_646 rfl (lv_at hl 1 rfl) ?_
  refine lw_ld (k := 1) G (by omega) (by decide) hS hl dL_law_647 dL_law_648 dL_law_649 dL_law_650 dL_law_651 ?_
  refine lw_ld (k := 2) G (by omega) (by decide) hS hl dL_law_652 dL_law_653 dL_law_654 dL_law_655 dL_law_656 ?_
  obtain ⟨r, h5, h6⟩ := op_names hI (xs (4 * i + 1)) (xs (4 * i + 2))
  refine q_cRi (va_runV (As := [.int (xs (4 * i + 1)), .int (xs (4 * i + 2))]) (rest := []) ⟨hx, hb, hml, hown, hts⟩ (ct_X5_names l hAD (M := M) h5) (cwV 2 hts gL_law_X5_names rfl rfl rfl (by decide +kernel) ⟨(Nat.le_of_ble_eq_true rfl), (Nat.le_of_ble_eq_true rfl)⟩) ⟨gw_blind, gw_recv ob_0 hK hP rfl, gw_pre _ hK hP hS.1 hN⟩ rfl rfl hl.1 rfl (lv_room (Nat.le_of_ble_eq_true rfl)) dL_law_657 ⟨by show 70 + 2 * i + 0 ≤ 600000; omega, by show 4000 + 13 * i + 0 ≤ 7302250; omega⟩) ?_
  refine lv_aload_n hx hb dL_law_660 rfl (lv_at hl 2 rfl) ?_
  refine lw_ld (k := 1) G (by omega) (by decide) hS hl dL_law_661 dL_law_662 dL_law_663 dL_law_664 dL_law_665 ?_
  refine lw_ld (k := 2) G (by omega) (by decide) hS hl dL_law_666 dL_law_667 dL_law_668 dL_law_669 dL_law_670 ?_
  refine q_cRi (va_runV (As := [.int (xs (4 * i + 1)), .int (xs (4 * i + 2))]) (rest := [.int r]) ⟨hx, hb, hml, hown, hts⟩ (ct_X6_names l hAD (M := M) h6) (cwV 2 hts gL_law_X6_names rfl rfl rfl (by decide +kernel) ⟨(Nat.le_of_ble_eq_true rfl), (Nat.le_of_ble_eq_true rfl)⟩) ⟨gw_blind, gw_recv ob_35 hK hP rfl, gw_pre _ hK hP hS.1 hN⟩ rfl rfl hl.1 rfl (lv_room (Nat.le_of_ble_eq_true rfl)) dL_law_671 ⟨by show 70 + 2 * i + 0 ≤ 600000; omega, by show 4000 + 13 * i + 0 ≤ 7302250; omega⟩) ?_
  refine lv_icmp_eq (tgt := 801) hx hb dL_law_674 (by decide) (fun _ => ?_) (fun c1 => absurd rfl c1)
  refine W.widen (k := 72 + 2 * i) (n := 4013 + 13 * i) (by omega) (by omega) ?_
  exact nxt nm ad M H locs ls hAD hI hP hS hl
set_option maxHeartbeats 4000000 in
set_option maxRecDepth 100000 in
theorem law_state {p : Program} {l : Launch} {e : Env} {s : State} {m : MethodId} {below : List Frame} {meth : Method} {c : Code} {D : va_G} {kc : Nat → ClassId} {b L i : Nat} {xs : Nat → Int32} (G : lwG p s m meth c b L xs D kc i) (nxt : lwS 801 (72 + 2 * i) (4013 + 13 * i) p l e s m below meth c b i D kc) : lwS 679 (70 + 2 * i) (4000 + 13 * i) p l e s m below meth c b i D kc := by
  intro nm ad M H locs ls hAD hI hP hS hl
  obtain ⟨⟨hx, hb, hr, hml, hown, hts0, hX, hbl, hlocks, hgv⟩, hL, hi4, hK, hN, hAM, hAA⟩ := id G
  have hown : s.vm.findClass RL = some m.cls := hown
  have hts : ∀ w ∈ wsL_law, w.before #[Value.ref b] s = true := fun w h => hts0 w (wsL_law_in w h)
  refine lv_aload_n hx hb dL_law_679 rfl (lv_at hl 1 rfl) ?_
  refine lw_ld (k := 1) G (by omega) (by decide) hS hl dL_law_680 dL_law_681 dL_law_682 dL_law_683 dL_law_684 ?_
  refine lw_ld (k := 2) G (by omega) (by decide) hS hl dL_law_685 dL_law_686 dL_law_687 dL_law_688 dL_law_689 ?_
  obtain ⟨r, h5, h6⟩ := op_state hI (xs (4 * i + 1)) (xs (4 * i + 2))
  refine q_cRi (va_runV (As := [.int (xs (4 * i + 1)), .int (xs (4 * i + 2))]) (rest := []) ⟨hx, hb, hml, hown, hts⟩ (ct_X5_state l hAD (M := M) h5) (cwV 2 hts gL_law_X5_state rfl rfl rfl (by decide +kernel) ⟨(Nat.le_of_ble_eq_true rfl), (Nat.le_of_ble_eq_true rfl)⟩) ⟨gw_blind, gw_recv ob_0 hK hP rfl, gw_pre _ hK hP hS.1 hN⟩ rfl rfl hl.1 rfl (lv_room (Nat.le_of_ble_eq_true rfl)) dL_law_690 ⟨by show 70 + 2 * i + 0 ≤ 600000; omega, by show 4000 + 13 * i + 0 ≤ 7302250; omega⟩) ?_
  refine lv_aload_n hx hb dL_law_693 rfl (lv_at hl 2 rfl) ?_
  refine lw_ld (k := 1) G (by omega) (by decide) hS hl dL_law_694 dL_law_695 dL_law_696 dL_law_697 dL_law_698 ?_
  refine lw_ld (k := 2) G (by omega) (by decide) hS hl dL_law_699 dL_law_700 dL_law_701 dL_law_702 dL_law_703 ?_
  refine q_cRi (va_runV (As := [.int (xs (4 * i + 1)), .int (xs (4 * i + 2))]) (rest := [.int r]) ⟨hx, hb, hml, hown, hts⟩ (ct_X6_state l hAD (M := M) h6) (cwV 2 hts gL_law_X6_state rfl rfl rfl (by decide +kernel) ⟨(Nat.le_of_ble_eq_true rfl), (Nat.le_of_ble_eq_true rfl)⟩) ⟨gw_blind, gw_recv ob_35 hK hP rfl, gw_pre _ hK hP hS.1 hN⟩ rfl rfl hl.1 rfl (lv_room (Nat.le_of_ble_eq_true rfl)) dL_law_704 ⟨by show 70 + 2 * i + 0 ≤ 600000; omega, by show 4000 + 13 * i + 0 ≤ 7302250; omega⟩) ?_
  refine lv_icmp_eq (tgt := 801) hx hb dL_law_707 (by decide) (fun _ => ?_) (fun c1 => absurd rfl c1)
  refine W.widen (k := 72 + 2 * i) (n := 4013 + 13 * i) (by omega) (by omega) ?_
  exact nxt nm ad M H locs ls hAD hI hP hS hl
set_option maxHeartbeats 4000000 in
set_option maxRecDepth 100000 in
theorem law_about {p : Program} {l : Launch} {e : Env} {s : State} {m : MethodId} {below : List Frame} {meth : Method} {c : Code} {D : va_G} {kc : Nat → ClassId} {b L i : Nat} {xs : Nat → Int32} (G : lwG p s m meth c b L xs D kc i) (nxt : lwS 801 (72 + 2 * i) (4013 + 13 * i) p l e s m below meth c b i D kc) : lwS 712 (70 + 2 * i) (4000 + 13 * i) p l e s m below meth c b i D kc := by
  intro nm ad M H locs ls hAD hI hP hS hl
  obtain ⟨⟨hx, hb, hr, hml, hown, hts0, hX, hbl, hlocks, hgv⟩, hL, hi4, hK, hN, hAM, hAA⟩ := id G
  have hown : s.vm.findClass RL = some m.cls := hown
  have hts : ∀ w ∈ wsL_law, w.before #[Value.ref b] s = true := fun w h => hts0 w (wsL_law_in w h)
  refine lv_aload_n hx hb dL_law_712 rfl (lv_at hl 1 rfl) ?_
  refine lw_ld (k := 1) G (by omega) (by decide) hS hl dL_law_713 dL_law_714 dL_law_715 dL_law_716 dL_law_717 ?_
  refine lw_ld (k := 2) G (by omega) (by decide) hS hl dL_law_718 dL_law_719 dL_law_720 dL_law_721 dL_law_722 ?_
  obtain ⟨r, h5, h6⟩ := op_about hI (xs (4 * i + 1)) (xs (4 * i + 2))
  refine q_cRi (va_runV (As := [.int (xs (4 * i + 1)), .int (xs (4 * i + 2))]) (rest := []) ⟨hx, hb, hml, hown, hts⟩ (ct_X5_about l hAD (M := M) h5) (cwV 2 hts gL_law_X5_about rfl rfl rfl (by decide +kernel) ⟨(Nat.le_of_ble_eq_true rfl), (Nat.le_of_ble_eq_true rfl)⟩) ⟨gw_blind, gw_recv ob_0 hK hP rfl, gw_pre _ hK hP hS.1 hN⟩ rfl rfl hl.1 rfl (lv_room (Nat.le_of_ble_eq_true rfl)) dL_law_723 ⟨by show 70 + 2 * i + 0 ≤ 600000; omega, by show 4000 + 13 * i + 0 ≤ 7302250; omega⟩) ?_
  refine lv_aload_n hx hb dL_law_726 rfl (lv_at hl 2 rfl) ?_
  refine lw_ld (k := 1) G (by omega) (by decide) hS hl dL_law_727 dL_law_728 dL_law_729 dL_law_730 dL_law_731 ?_
  refine lw_ld (k := 2) G (by omega) (by decide) hS hl dL_law_732 dL_law_733 dL_law_734 dL_law_735 dL_law_736 ?_
  refine q_cRi (va_runV (As := [.int (xs (4 * i + 1)), .int (xs (4 * i + 2))]) (rest := [.int r]) ⟨hx, hb, hml, hown, hts⟩ (ct_X6_about l hAD (M := M) h6) (cwV 2 hts gL_law_X6_about rfl rfl rfl (by decide +kernel) ⟨(Nat.le_of_ble_eq_true rfl), (Nat.le_of_ble_eq_true rfl)⟩) ⟨gw_blind, gw_recv ob_35 hK hP rfl, gw_pre _ hK hP hS.1 hN⟩ rfl rfl hl.1 rfl (lv_room (Nat.le_of_ble_eq_true rfl)) dL_law_737 ⟨by show 70 + 2 * i + 0 ≤ 600000; omega, by show 4000 + 13 * i + 0 ≤ 7302250; omega⟩) ?_
  refine lv_icmp_eq (tgt := 801) hx hb dL_law_740 (by decide) (fun _ => ?_) (fun c1 => absurd rfl c1)
  refine W.widen (k := 72 + 2 * i) (n := 4013 + 13 * i) (by omega) (by omega) ?_
  exact nxt nm ad M H locs ls hAD hI hP hS hl
set_option maxHeartbeats 4000000 in
set_option maxRecDepth 100000 in
theorem law_has {p : Program} {l : Launch} {e : Env} {s : State} {m : MethodId} {below : List Frame} {meth : Method} {c : Code} {D : va_G} {kc : Nat → ClassId} {b L i : Nat} {xs : Nat → Int32} (G : lwG p s m meth c b L xs D kc i) (nxt : lwS 801 (72 + 2 * i) (4013 + 13 * i) p l e s m below meth c b i D kc) : lwS 745 (70 + 2 * i) (4000 + 13 * i) p l e s m below meth c b i D kc := by
  intro nm ad M H locs ls hAD hI hP hS hl
  obtain ⟨⟨hx, hb, hr, hml, hown, hts0, hX, hbl, hlocks, hgv⟩, hL, hi4, hK, hN, hAM, hAA⟩ := id G
  have hown : s.vm.findClass RL = some m.cls := hown
  have hts : ∀ w ∈ wsL_law, w.before #[Value.ref b] s = true := fun w h => hts0 w (wsL_law_in w h)
  refine lv_aload_n hx hb dL_law_745 rfl (lv_at hl 1 rfl) ?_
  refine lw_ld (k := 1) G (by omega) (by decide) hS hl dL_law_746 dL_law_747 dL_law_748 dL_law_749 dL_law_750 ?_
  refine lw_ld (k := 2) G (by omega) (by decide) hS hl dL_law_751 dL_law_752 dL_law_753 dL_law_754 dL_law_755 ?_
  obtain ⟨r, h5, h6⟩ := op_has hI (xs (4 * i + 1)) (xs (4 * i + 2))
  refine q_cRi (va_runV (As := [.int (xs (4 * i + 1)), .int (xs (4 * i + 2))]) (rest := []) ⟨hx, hb, hml, hown, hts⟩ (ct_X5_has l hAD (M := M) h5) (cwV 2 hts gL_law_X5_has rfl rfl rfl (by decide +kernel) ⟨(Nat.le_of_ble_eq_true rfl), (Nat.le_of_ble_eq_true rfl)⟩) ⟨gw_blind, gw_recv ob_0 hK hP rfl, gw_pre _ hK hP hS.1 hN⟩ rfl rfl hl.1 rfl (lv_room (Nat.le_of_ble_eq_true rfl)) dL_law_756 ⟨by show 70 + 2 * i + 0 ≤ 600000; omega, by show 4000 + 13 * i + 0 ≤ 7302250; omega⟩) ?_
  refine lv_aload_n hx hb dL_law_759 rfl (lv_at hl 2 rfl) ?_
  refine lw_ld (k := 1) G (by omega) (by decide) hS hl dL_law_760 dL_law_761 dL_law_762 dL_law_763 dL_law_764 ?_
  refine lw_ld (k := 2) G (by omega) (by decide) hS hl dL_law_765 dL_law_766 dL_law_767 dL_law_768 dL_law_769 ?_
  refine q_cRi (va_runV (As := [.int (xs (4 * i + 1)), .int (xs (4 * i + 2))]) (rest := [.int r]) ⟨hx, hb, hml, hown, hts⟩ (ct_X6_has l hAD (M := M) h6) (cwV 2 hts gL_law_X6_has rfl rfl rfl (by decide +kernel) ⟨(Nat.le_of_ble_eq_true rfl), (Nat.le_of_ble_eq_true rfl)⟩) ⟨gw_blind, gw_recv ob_35 hK hP rfl, gw_pre _ hK hP hS.1 hN⟩ rfl rfl hl.1 rfl (lv_room (Nat.le_of_ble_eq_true rfl)) dL_law_770 ⟨by show 70 + 2 * i + 0 ≤ 600000; omega, by show 4000 + 13 * i + 0 ≤ 7302250; omega⟩) ?_
  refine lv_icmp_eq (tgt := 801) hx hb dL_law_773 (by decide) (fun _ => ?_) (fun c1 => absurd rfl c1)
  refine W.widen (k := 72 + 2 * i) (n := 4013 + 13 * i) (by omega) (by omega) ?_
  exact nxt nm ad M H locs ls hAD hI hP hS hl
set_option maxHeartbeats 4000000 in
set_option maxRecDepth 100000 in
theorem law_count {p : Program} {l : Launch} {e : Env} {s : State} {m : MethodId} {below : List Frame} {meth : Method} {c : Code} {D : va_G} {kc : Nat → ClassId} {b L i : Nat} {xs : Nat → Int32} (G : lwG p s m meth c b L xs D kc i) (nxt : lwS 801 (72 + 2 * i) (4013 + 13 * i) p l e s m below meth c b i D kc) : lwS 778 (70 + 2 * i) (4000 + 13 * i) p l e s m below meth c b i D kc := by
  intro nm ad M H locs ls hAD hI hP hS hl
  obtain ⟨⟨hx, hb, hr, hml, hown, hts0, hX, hbl, hlocks, hgv⟩, hL, hi4, hK, hN, hAM, hAA⟩ := id G
  have hown : s.vm.findClass RL = some m.cls := hown
  have hts : ∀ w ∈ wsL_law, w.before #[Value.ref b] s = true := fun w h => hts0 w (wsL_law_in w h)
  refine lv_aload_n hx hb dL_law_778 rfl (lv_at hl 1 rfl) ?_
  refine lw_ld (k := 1) G (by omega) (by decide) hS hl dL_law_779 dL_law_780 dL_law_781 dL_law_782 dL_law_783 ?_
  obtain ⟨r, h5, h6⟩ := op_count hI (xs (4 * i + 1))
  refine q_cRi (va_runV (As := [.int (xs (4 * i + 1))]) (rest := []) ⟨hx, hb, hml, hown, hts⟩ (ct_X5_count l hAD (M := M) h5) (cwV 1 hts gL_law_X5_count rfl rfl rfl (by decide +kernel) ⟨(Nat.le_of_ble_eq_true rfl), (Nat.le_of_ble_eq_true rfl)⟩) ⟨gw_blind, gw_recv ob_0 hK hP rfl, gw_pre _ hK hP hS.1 hN⟩ rfl rfl hl.1 rfl (lv_room (Nat.le_of_ble_eq_true rfl)) dL_law_784 ⟨by show 70 + 2 * i + 0 ≤ 600000; omega, by show 4000 + 13 * i + 0 ≤ 7302250; omega⟩) ?_
  refine lv_aload_n hx hb dL_law_787 rfl (lv_at hl 2 rfl) ?_
  refine lw_ld (k := 1) G (by omega) (by decide) hS hl dL_law_788 dL_law_789 dL_law_790 dL_law_791 dL_law_792 ?_
  refine q_cRi (va_runV (As := [.int (xs (4 * i + 1))]) (rest := [.int r]) ⟨hx, hb, hml, hown, hts⟩ (ct_X6_count l hAD (M := M) h6) (cwV 1 hts gL_law_X6_count rfl rfl rfl (by decide +kernel) ⟨(Nat.le_of_ble_eq_true rfl), (Nat.le_of_ble_eq_true rfl)⟩) ⟨gw_blind, gw_recv ob_35 hK hP rfl, gw_pre _ hK hP hS.1 hN⟩ rfl rfl hl.1 rfl (lv_room (Nat.le_of_ble_eq_true rfl)) dL_law_793 ⟨by show 70 + 2 * i + 0 ≤ 600000; omega, by show 4000 + 13 * i + 0 ≤ 7302250; omega⟩) ?_
  refine lv_icmp_eq (tgt := 801) hx hb dL_law_796 (by decide) (fun _ => ?_) (fun c1 => absurd rfl c1)
  refine W.widen (k := 72 + 2 * i) (n := 4013 + 13 * i) (by omega) (by omega) ?_
  exact nxt nm ad M H locs ls hAD hI hP hS hl
