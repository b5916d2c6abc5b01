theorem and31 (x : Int32) : ∃ k, k < 32 ∧ x &&& 31 = nI k := by
  refine ⟨x.toBitVec.toNat % 32, Nat.mod_lt _ (by decide), ?_⟩
  apply Int32.toBitVec_inj.mp
  apply BitVec.eq_of_toNat_eq
  rw [Int32.toBitVec_and, BitVec.toNat_and, show (31 : Int32).toBitVec.toNat = 2 ^ 5 - 1 from rfl, Nat.and_two_pow_sub_one_eq_mod]
  show _ = (BitVec.ofNat 32 _).toNat
  rw [BitVec.toNat_ofNat]
  omega
theorem sub4 {L : Nat} (h : L ≤ 2048) : (nI L - (4 : Int32)).toInt = (L : Int) - 4 := by
  by_cases h4 : 4 ≤ L
  · rw [show nI L - (4 : Int32) = nI (L - 4) from (nI_sub h4 : nI L - nI 4 = nI (L - 4)), nI_toInt (by omega)]
    omega
  · rcases (show L = 0 ∨ L = 1 ∨ L = 2 ∨ L = 3 by omega) with rfl | rfl | rfl | rfl <;> decide
set_option maxHeartbeats 4000000 in
set_option maxRecDepth 100000 in
theorem law_loop {p : Program} {l : Launch} {e : Env} {s : State} {m : MethodId} {below : List Frame} {meth : Method} {c : Code} {D : va_G} {kc : Nat → ClassId} {b L : Nat} {xs : Nat → Int32} (hL : L ≤ 2048) (C0 : lw_At p s m meth c b L xs) (hK : va_K D vwCl (tysOf kc) s) (hN : ∀ w ∈ nestW, va_Nw w s) (hAM : va_AO "MirrorNet$Mirror" s) (hAA : va_AO "MirrorNet$Asker" s) :
    ∀ (n i : Nat), 4 * i ≤ L → L + 4 ≤ 4 * (i + n) → lwS 18 (70 + 2 * i) (4000 + 13 * i) p l e s m below meth c b i D kc := by
  obtain ⟨hx, hb, hr, hml, hown, hts, hX, hbl, hlocks, hgv⟩ := id C0
  have hbA : ¬ (fun q : Nat => s.heap.size ≤ q) b := Nat.not_le.mpr hbl
  intro n
  induction n with
  | zero =>
    intro i h1 h2
    exact absurd h2 (by omega)
  | succ n ih =>
    intro i hi hin nm ad M H locs ls hAD hI hP hS hl
    refine lv_iload_n hx hb dL_law_18 rfl (lv_at hl 3 rfl) ?_
    refine lv_aload_n hx hb dL_law_19 rfl (lv_at hl 0 rfl) ?_
    refine va_slen hx hb hX hbl hbA hS dL_law_20 ?_
    refine lv_iconst (v := 4) hx hb dL_law_21 (by decide) ?_
    refine lv_isub hx hb dL_law_22 ?_
    refine lv_icmp_gt (tgt := 807) hx hb dL_law_23 (by decide) (fun c1 => ?_) (fun c1 => ?_)
    · refine lv_iconst (v := 1) hx hb dL_law_807 (by decide) ?_
      refine va_forget (fun q hq => hS.2.2 q hq) ?_
      refine W.widen (k := 600000) (n := 7302250) (by omega) (by omega) ?_
      exact lw_ret hx hb hr hlocks dL_law_808
    · have hi4 : 4 * i + 4 ≤ L := by
        have c2 : ¬ (nI L - (4 : Int32)) < nI (4 * i) := c1
        rw [Int32.lt_iff_toInt_lt, sub4 hL, nI_toInt (by omega)] at c2
        omega
      have G : lwG p s m meth c b L xs D kc i := ⟨C0, hL, hi4, hK, hN, hAM, hAA⟩
      have nxt : lwS 801 (72 + 2 * i) (4013 + 13 * i) p l e s m below meth c b i D kc := by
        intro nm ad M H locs ls hAD hI hP hS hl
        refine lv_iinc (v := nI (4 * (i + 1))) (lv' := [(3, .int (nI (4 * (i + 1)))), (0, .ref b), (1, .ref (ad 0)), (2, .ref (ad 35))]) hx hb dL_law_801 hl (k := 3) rfl (nI_add (4 * i) 4) (by decide) rfl (fun ls hl => ?_)
        refine lv_goto (tgt := 18) hx hb dL_law_804 (by decide) ?_
        refine W.widen (k := 70 + 2 * (i + 1)) (n := 4000 + 13 * (i + 1)) (by omega) (by omega) ?_
        exact ih (i + 1) (by omega) (by omega) nm ad M H locs ls hAD hI hP hS (lv_sub hl [1, 2, 3, 0] rfl)
      refine lv_aload_n hx hb dL_law_26 rfl (lv_at hl 0 rfl) ?_
      refine lv_iload_n hx hb dL_law_27 rfl (lv_at hl 3 rfl) ?_
      refine va_sld hx hb hX hbl hbA hS (vp_in_nI (by omega) (by omega)) dL_law_28 ?_
      refine lv_bipush (v := 31) hx hb dL_law_29 (by decide) ?_
      refine lv_iand hx hb dL_law_31 ?_
      obtain ⟨k, hk, ek⟩ := and31 (xs (nI (4 * i)).toNatClampNeg)
      rw [ek]
      by_cases h20 : 20 < k
      · refine lv_tableOut (tgt := 801) hx hb dL_law_32 (Or.inr (by rw [nI_toInt (by omega)]; omega)) (by decide) ?_
        refine W.widen (k := 72 + 2 * i) (n := 4013 + 13 * i) (by omega) (by omega) ?_
        exact nxt nm ad M H locs ls hAD hI hP hS hl
      · rcases (show k = 0 ∨ k = 1 ∨ k = 2 ∨ k = 3 ∨ k = 4 ∨ k = 5 ∨ k = 6 ∨ k = 7 ∨ k = 8 ∨ k = 9 ∨ k = 10 ∨ k = 11 ∨ k = 12 ∨ k = 13 ∨ k = 14 ∨ k = 15 ∨ k = 16 ∨ k = 17 ∨ k = 18 ∨ k = 19 ∨ k = 20 by omega) with rfl | rfl | rfl | rfl | rfl | rfl | rfl | rfl | rfl | rfl | rfl | rfl | rfl | rfl | rfl | rfl | rfl | rfl | rfl | rfl | rfl
        · exact lv_tableIn (tgt := 132) (off := 100) hx hb dL_law_32 (by decide) (by decide) (by decide) (by decide) (law_file G nxt nm ad M H locs ls hAD hI hP hS hl)
        · exact lv_tableIn (tgt := 155) (off := 123) hx hb dL_law_32 (by decide) (by decide) (by decide) (by decide) (law_put G nxt nm ad M H locs ls hAD hI hP hS hl)
        · exact lv_tableIn (tgt := 188) (off := 156) hx hb dL_law_32 (by decide) (by decide) (by decide) (by decide) (law_yank G nxt nm ad M H locs ls hAD hI hP hS hl)
        · exact lv_tableIn (tgt := 211) (off := 179) hx hb dL_law_32 (by decide) (by decide) (by decide) (by decide) (law_mirror G nxt nm ad M H locs ls hAD hI hP hS hl)
        · exact lv_tableIn (tgt := 254) (off := 222) hx hb dL_law_32 (by decide) (by decide) (by decide) (by decide) (law_speed G nxt nm ad M H locs ls hAD hI hP hS hl)
        · exact lv_tableIn (tgt := 287) (off := 255) hx hb dL_law_32 (by decide) (by decide) (by decide) (by decide) (law_fall G nxt nm ad M H locs ls hAD hI hP hS hl)
        · exact lv_tableIn (tgt := 330) (off := 298) hx hb dL_law_32 (by decide) (by decide) (by decide) (by decide) (law_lies G nxt nm ad M H locs ls hAD hI hP hS hl)
        · exact lv_tableIn (tgt := 379) (off := 347) hx hb dL_law_32 (by decide) (by decide) (by decide) (by decide) (law_pass G nxt nm ad M H locs ls hAD hI hP hS hl)
        · exact lv_tableIn (tgt := 402) (off := 370) hx hb dL_law_32 (by decide) (by decide) (by decide) (by decide) (law_cost G nxt nm ad M H locs ls hAD hI hP hS hl)
        · exact lv_tableIn (tgt := 445) (off := 413) hx hb dL_law_32 (by decide) (by decide) (by decide) (by decide) (law_bears G nxt nm ad M H locs ls hAD hI hP hS hl)
        · exact lv_tableIn (tgt := 478) (off := 446) hx hb dL_law_32 (by decide) (by decide) (by decide) (by decide) (law_grace G nxt nm ad M H locs ls hAD hI hP hS hl)
        · exact lv_tableIn (tgt := 501) (off := 469) hx hb dL_law_32 (by decide) (by decide) (by decide) (by decide) (law_forgives G nxt nm ad M H locs ls hAD hI hP hS hl)
        · exact lv_tableIn (tgt := 524) (off := 492) hx hb dL_law_32 (by decide) (by decide) (by decide) (by decide) (law_ask G nxt nm ad M H locs ls hAD hI hP hS hl)
        · exact lv_tableIn (tgt := 557) (off := 525) hx hb dL_law_32 (by decide) (by decide) (by decide) (by decide) (law_asked G nxt nm ad M H locs ls hAD hI hP hS hl)
        · exact lv_tableIn (tgt := 580) (off := 548) hx hb dL_law_32 (by decide) (by decide) (by decide) (by decide) (law_got G nxt nm ad M H locs ls hAD hI hP hS hl)
        · exact lv_tableIn (tgt := 613) (off := 581) hx hb dL_law_32 (by decide) (by decide) (by decide) (by decide) (law_asker G nxt nm ad M H locs ls hAD hI hP hS hl)
        · exact lv_tableIn (tgt := 646) (off := 614) hx hb dL_law_32 (by decide) (by decide) (by decide) (by decide) (law_names G nxt nm ad M H locs ls hAD hI hP hS hl)
        · exact lv_tableIn (tgt := 679) (off := 647) hx hb dL_law_32 (by decide) (by decide) (by decide) (by decide) (law_state G nxt nm ad M H locs ls hAD hI hP hS hl)
        · exact lv_tableIn (tgt := 712) (off := 680) hx hb dL_law_32 (by decide) (by decide) (by decide) (by decide) (law_about G nxt nm ad M H locs ls hAD hI hP hS hl)
        · exact lv_tableIn (tgt := 745) (off := 713) hx hb dL_law_32 (by decide) (by decide) (by decide) (by decide) (law_has G nxt nm ad M H locs ls hAD hI hP hS hl)
        · exact lv_tableIn (tgt := 778) (off := 746) hx hb dL_law_32 (by decide) (by decide) (by decide) (by decide) (law_count G nxt nm ad M H locs ls hAD hI hP hS hl)
