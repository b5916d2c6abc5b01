def rm_X6_ask : Room := { frames := 3, cells := 0, slots := 0, locals := 74 }
set_option maxHeartbeats 4000000 in
set_option maxRecDepth 100000 in
theorem ct_X6_ask (l : Launch) {D : va_G} {ad : Nat → Nat} {kc : Nat → ClassId} {nm z : Nat} (hAD : AD ad nm z) {M : Mem} {x1 : Int32} {x2 : Int32} {r : Int32} {Mr : Mem}  (h : fn_X6_ask M x1 x2 = some (r, Mr)) : Met l yX6_ask wsX6_ask rm_X6_ask (va_Pc [.ref (ad 35), .int x1, .int x2] (GW D ad kc nm z M)) (QWi D ad kc nm z r Mr) 0 0 (fun q => z ≤ q) := by
  refine q_met (cc := cX6_ask) (maxL := 7) (ret := (some .int)) (by decide) rfl (Nat.le_of_ble_eq_true rfl) ?_
  intro p e s m args below meth c Q ls hx hb hr hlk hml hown hts hB hQ hl
  obtain ⟨hP, hK, hz, hN⟩ := hB
  have hown : s.vm.findClass RX6 = some m.cls := hown
  have hl : lv_has ls 7 [(0, .ref (ad 35)), (1, .int x1), (2, .int x2)] := hl
  have hi_X6 : ∀ w ∈ u_ws RX6 TX6 40, w ∈ wsX6_ask := by decide +kernel
  have hS : va_S (fun q => z ≤ q) s.heap s.heap [] := va_S.rf
  have L_lq_X6_ask_151 : ∀ (x3 : Int32), ∀ (n151 : Nat) (M : Mem) (x4 : Int32) (H : Heap) (locs : List Loc) (ls : Array Slot), it2 (lq_X6_ask_151 x1 x2 x3) n151 M x4 = some (r, Mr) → va_P D vwCl (wl ad kc nm M) H → va_S (fun q => z ≤ q) s.heap H locs → lv_has ls 7 [(0, .ref (ad 35)), (1, .int x1), (2, .int x2), (3, .int x3), (4, .int x4)] → W p l e rm_X6_ask s m args below meth c H locs 0 0 Q (F0 m 151 ls []) := by
    intro x3 n151
    induction n151 with
    | zero =>
      intro M x4 H locs ls h hP hS hl
      exact (it2_0 h).elim
    | succ n151 ih151 =>
      have B_bk_X6_ask_252 : ∀ (M : Mem) (x4 : Int32) (H : Heap) (locs : List Loc) (ls : Array Slot), bk_X6_ask_252 (it2 (lq_X6_ask_151 x1 x2 x3) n151) M x1 x2 x3 x4 = some (r, Mr) → va_P D vwCl (wl ad kc nm M) H → va_S (fun q => z ≤ q) s.heap H locs → lv_has ls 7 [(0, .ref (ad 35)), (1, .int x1), (2, .int x2), (3, .int x3), (4, .int x4)] → W p l e rm_X6_ask s m args below meth c H locs 0 0 Q (F0 m 252 ls []) := by
        intro M x4 H locs ls h hP hS hl
        obtain ⟨v1, ev1, h⟩ := q_nx h
        refine lv_iinc (v := v1) (lv' := [(4, .int v1), (0, .ref (ad 35)), (1, .int x1), (2, .int x2), (3, .int x3)]) hx hb dX6_ask_252 hl (k := 4) rfl (by rw [ev1]; rfl) (by decide) rfl (fun ls hl => ?_)
        refine lv_goto (tgt := 151) hx hb dX6_ask_255 (by decide) ?_
        exact ih151 M v1 H locs ls  h hP hS (lv_sub hl [1, 2, 3, 4, 0] rfl)
      intro M x4 H locs ls h hP hS hl
      have h := it2_s h
      refine lv_iload hx hb dX6_ask_151 (lv_at hl 4 rfl) ?_
      refine lv_bipush (v := 12) hx hb dX6_ask_153 (by decide) ?_
      refine lv_icmp_ge (tgt := 258) hx hb dX6_ask_155 (by decide) (fun c2 => ?_) (fun c2 => ?_)
      · have h := q_t c2 h
        refine lv_aload_n hx hb dX6_ask_258 rfl (lv_at hl 0 rfl) ?_
        refine lv_aload_n hx hb dX6_ask_259 rfl (lv_at hl 0 rfl) ?_
        refine lv_iload_n hx hb dX6_ask_260 rfl (lv_at hl 1 rfl) ?_
        refine lv_iload_n hx hb dX6_ask_261 rfl (lv_at hl 2 rfl) ?_
        refine lv_iload_n hx hb dX6_ask_262 rfl (lv_at hl 3 rfl) ?_
        obtain ⟨r4, hc3, h⟩ := q_bd1 h
        refine q_cRi (va_runV (C := RX6) (As := [.int x1, .int x2, .int x3]) (rest := [.ref (ad 35)]) ⟨hx, hb, hml, hown, hts⟩ (ct_X6_least l hAD (M := M) hc3) (cwV 3 hts gX6_ask_X6_least rfl rfl rfl (by decide +kernel) ⟨Nat.le_of_ble_eq_true rfl, Nat.le_of_ble_eq_true rfl⟩) ⟨gw_blind, gw_recv ob_35 hK hP rfl, gw_pre _ hK hP (Nat.le_trans hz hS.1) hN⟩ rfl rfl hl.1 rfl (lv_room (Nat.le_of_ble_eq_true rfl)) dX6_ask_263 ⟨Nat.zero_le _, Nat.zero_le _⟩) ?_
        obtain ⟨M8, eM8, h⟩ := q_nx h
        refine q_putI hx hb hts hi_X6 tyX6 tyX6_ok nmX6 hown hK hP hAD hS ob_35 rfl 36 (by decide) rfl (hts (.fieldLink RX6 177 "MirrorNetModel" "foresight" "I") (by decide +kernel)) (fun _ h9 => h9) rfl (ty := .int) (by decide +kernel) rfl rfl dX6_ask_266 (fun H locs hP hS => ?_)
        rw [← eM8] at hP
        refine lv_iconst (v := 0) hx hb dX6_ask_269 (by decide) ?_
        exact q_rWi hQ hx hb hr hlk hP hS h dX6_ask_270
      · have h := q_f c2 h
        refine lv_iload_n hx hb dX6_ask_158 rfl (lv_at hl 2 rfl) ?_
        refine lv_iload hx hb dX6_ask_159 (lv_at hl 4 rfl) ?_
        refine lv_ishr hx hb dX6_ask_161 ?_
        refine lv_iconst (v := 1) hx hb dX6_ask_162 (by decide) ?_
        refine lv_iand hx hb dX6_ask_163 ?_
        refine lv_if_ne (tgt := 170) hx hb dX6_ask_164 (by decide) (fun c9 => ?_) (fun c9 => ?_)
        · have h := q_f c9 h
          refine lv_aload_n hx hb dX6_ask_170 rfl (lv_at hl 0 rfl) ?_
          refine q_getR hx hb hts hi_X6 hown hK hP ob_35 rfl 6 (by decide) rfl (hts (.fieldLink RX6 23 "MirrorNetModel" "named" "[I") (by decide +kernel)) (fun _ h9 => h9) dX6_ask_171 ?_
          refine lv_bipush (v := 12) hx hb dX6_ask_174 (by decide) ?_
          refine lv_aload_n hx hb dX6_ask_176 rfl (lv_at hl 0 rfl) ?_
          refine q_getI hx hb hts hi_X6 hown hK hP ob_35 rfl 31 (by decide) rfl (hts (.fieldLink RX6 164 "MirrorNetModel" "askedIndex" "I") (by decide +kernel)) (fun _ h9 => h9) dX6_ask_177 ?_
          refine lv_imul hx hb dX6_ask_180 ?_
          refine lv_iload hx hb dX6_ask_181 (lv_at hl 4 rfl) ?_
          refine lv_iadd hx hb dX6_ask_183 ?_
          obtain ⟨hk10, h⟩ := q_ck h
          refine q_iald hx hb hK hP ar_39 hk10 dX6_ask_184 ?_
          refine lv_topi (fun v11 ev11 => ?_)
          have h := q_nxe ev11 h
          refine lv_istore (lv' := [(5, .int v11), (0, .ref (ad 35)), (1, .int x1), (2, .int x2), (3, .int x3), (4, .int x4)]) hx hb dX6_ask_185 hl (by decide) rfl (fun ls hl => ?_)
          refine lv_aload_n hx hb dX6_ask_187 rfl (lv_at hl 1 rfl) ?_
          refine lv_iload_n hx hb dX6_ask_188 rfl (lv_at hl 2 rfl) ?_
          refine lv_iload hx hb dX6_ask_189 (lv_at hl 0 rfl) ?_
          obtain ⟨r13, M14, hc12, h⟩ := q_bd2 h
          refine q_cWi (va_runV (C := RX6) (As := [.int x1, .int v11]) (rest := []) ⟨hx, hb, hml, hown, hts⟩ (ct_X6_giver l hAD (M := M) hc12) (cwV 2 hts gX6_ask_X6_giver rfl rfl rfl (by decide +kernel) ⟨Nat.le_of_ble_eq_true rfl, Nat.le_of_ble_eq_true rfl⟩) ⟨gw_blind, gw_recv ob_35 hK hP rfl, gw_pre _ hK hP (Nat.le_trans hz hS.1) hN⟩ rfl rfl hl.1 rfl (lv_room (Nat.le_of_ble_eq_true rfl)) dX6_ask_191 ⟨Nat.zero_le _, Nat.zero_le _⟩) hS (fun H locs hP hS => ?_)
          refine lv_istore (lv' := [(6, .int r13), (5, .int v11), (0, .ref (ad 35)), (1, .int x1), (2, .int x2), (3, .int x3), (4, .int x4)]) hx hb dX6_ask_194 hl (by decide) rfl (fun ls hl => ?_)
          refine lv_iload hx hb dX6_ask_196 (lv_at hl 0 rfl) ?_
          refine lv_if_ge (tgt := 209) hx hb dX6_ask_198 (by decide) (fun c17 => ?_) (fun c17 => ?_)
          · have h := q_t c17 h
            refine lv_aload_n hx hb dX6_ask_209 rfl (lv_at hl 2 rfl) ?_
            refine q_getR hx hb hts hi_X6 hown hK hP ob_35 rfl 37 (by decide) rfl (hts (.fieldLink RX6 87 "MirrorNetModel" "gotFile" "[I") (by decide +kernel)) (fun _ h9 => h9) dX6_ask_210 ?_
            refine lv_aload_n hx hb dX6_ask_213 rfl (lv_at hl 2 rfl) ?_
            refine q_getI hx hb hts hi_X6 hown hK hP ob_35 rfl 34 (by decide) rfl (hts (.fieldLink RX6 167 "MirrorNetModel" "gotMany" "I") (by decide +kernel)) (fun _ h9 => h9) dX6_ask_214 ?_
            refine lv_iload hx hb dX6_ask_217 (lv_at hl 1 rfl) ?_
            obtain ⟨hk18, h⟩ := q_ck h
            obtain ⟨M19, eM19, h⟩ := q_nx h
            refine q_iast hx hb hK hP hAD hS ar_59 hk18 dX6_ask_219 (fun H locs hP hS => ?_)
            rw [← eM19] at hP
            refine lv_aload_n hx hb dX6_ask_220 rfl (lv_at hl 2 rfl) ?_
            refine q_getR hx hb hts hi_X6 hown hK hP ob_35 rfl 38 (by decide) rfl (hts (.fieldLink RX6 90 "MirrorNetModel" "gotPack" "[I") (by decide +kernel)) (fun _ h9 => h9) dX6_ask_221 ?_
            refine lv_aload_n hx hb dX6_ask_224 rfl (lv_at hl 2 rfl) ?_
            refine q_getI hx hb hts hi_X6 hown hK hP ob_35 rfl 34 (by decide) rfl (hts (.fieldLink RX6 167 "MirrorNetModel" "gotMany" "I") (by decide +kernel)) (fun _ h9 => h9) dX6_ask_225 ?_
            refine lv_iload hx hb dX6_ask_228 (lv_at hl 6 rfl) ?_
            obtain ⟨hk20, h⟩ := q_ck h
            obtain ⟨M21, eM21, h⟩ := q_nx h
            refine q_iast hx hb hK hP hAD hS ar_60 hk20 dX6_ask_230 (fun H locs hP hS => ?_)
            rw [← eM21] at hP
            refine lv_aload_n hx hb dX6_ask_231 rfl (lv_at hl 2 rfl) ?_
            refine q_getR hx hb hts hi_X6 hown hK hP ob_35 rfl 39 (by decide) rfl (hts (.fieldLink RX6 93 "MirrorNetModel" "gotOf" "[I") (by decide +kernel)) (fun _ h9 => h9) dX6_ask_232 ?_
            refine lv_aload_n hx hb dX6_ask_235 rfl (lv_at hl 2 rfl) ?_
            refine q_getI hx hb hts hi_X6 hown hK hP ob_35 rfl 34 (by decide) rfl (hts (.fieldLink RX6 167 "MirrorNetModel" "gotMany" "I") (by decide +kernel)) (fun _ h9 => h9) dX6_ask_236 ?_
            refine lv_iload hx hb dX6_ask_239 (lv_at hl 0 rfl) ?_
            obtain ⟨hk22, h⟩ := q_ck h
            obtain ⟨M23, eM23, h⟩ := q_nx h
            refine q_iast hx hb hK hP hAD hS ar_61 hk22 dX6_ask_241 (fun H locs hP hS => ?_)
            rw [← eM23] at hP
            refine lv_aload_n hx hb dX6_ask_242 rfl (lv_at hl 2 rfl) ?_
            refine lv_dup hx hb dX6_ask_243 rfl ?_
            refine q_getI hx hb hts hi_X6 hown hK hP ob_35 rfl 34 (by decide) rfl (hts (.fieldLink RX6 167 "MirrorNetModel" "gotMany" "I") (by decide +kernel)) (fun _ h9 => h9) dX6_ask_244 ?_
            refine lv_iconst (v := 1) hx hb dX6_ask_247 (by decide) ?_
            refine lv_iadd hx hb dX6_ask_248 ?_
            obtain ⟨M24, eM24, h⟩ := q_nx h
            refine q_putI hx hb hts hi_X6 tyX6 tyX6_ok nmX6 hown hK hP hAD hS ob_35 rfl 34 (by decide) rfl (hts (.fieldLink RX6 167 "MirrorNetModel" "gotMany" "I") (by decide +kernel)) (fun _ h9 => h9) rfl (ty := .int) (by decide +kernel) rfl rfl dX6_ask_249 (fun H locs hP hS => ?_)
            rw [← eM24] at hP
            exact B_bk_X6_ask_252 M24 x4 H locs ls  h hP hS (lv_sub hl [2, 3, 4, 5, 6] rfl)
          · have h := q_f c17 h
            refine lv_aload_n hx hb dX6_ask_201 rfl (lv_at hl 2 rfl) ?_
            refine lv_iload hx hb dX6_ask_202 (lv_at hl 6 rfl) ?_
            obtain ⟨M25, eM25, h⟩ := q_nx h
            refine q_putI hx hb hts hi_X6 tyX6 tyX6_ok nmX6 hown hK hP hAD hS ob_35 rfl 35 (by decide) rfl (hts (.fieldLink RX6 174 "MirrorNetModel" "lacks" "I") (by decide +kernel)) (fun _ h9 => h9) rfl (ty := .int) (by decide +kernel) rfl rfl dX6_ask_204 (fun H locs hP hS => ?_)
            rw [← eM25] at hP
            refine lv_iconst (v := 3) hx hb dX6_ask_207 (by decide) ?_
            exact q_rWi hQ hx hb hr hlk hP hS h dX6_ask_208
        · have h := q_t c9 h
          refine lv_goto (tgt := 252) hx hb dX6_ask_167 (by decide) ?_
          exact B_bk_X6_ask_252 M x4 H locs ls  h hP hS (lv_sub hl [0, 1, 2, 3, 4] rfl)
  have L_lq_X6_ask_94 : ∀ (x3 : Int32), ∀ (n94 : Nat) (M : Mem) (x4 : Int32) (H : Heap) (locs : List Loc) (ls : Array Slot), it2 (lq_X6_ask_94 x1 x2 x3) n94 M x4 = some (r, Mr) → va_P D vwCl (wl ad kc nm M) H → va_S (fun q => z ≤ q) s.heap H locs → lv_has ls 7 [(0, .ref (ad 35)), (1, .int x1), (2, .int x2), (3, .int x3), (4, .int x4)] → W p l e rm_X6_ask s m args below meth c H locs 0 0 Q (F0 m 94 ls []) := by
    intro x3 n94
    induction n94 with
    | zero =>
      intro M x4 H locs ls h hP hS hl
      exact (it2_0 h).elim
    | succ n94 ih94 =>
      have B_bk_X6_ask_133 : ∀ (M : Mem) (x4 : Int32) (H : Heap) (locs : List Loc) (ls : Array Slot), bk_X6_ask_133 (it2 (lq_X6_ask_94 x1 x2 x3) n94) M x1 x2 x3 x4 = some (r, Mr) → va_P D vwCl (wl ad kc nm M) H → va_S (fun q => z ≤ q) s.heap H locs → lv_has ls 7 [(0, .ref (ad 35)), (1, .int x1), (2, .int x2), (3, .int x3), (4, .int x4)] → W p l e rm_X6_ask s m args below meth c H locs 0 0 Q (F0 m 133 ls []) := by
        intro M x4 H locs ls h hP hS hl
        obtain ⟨v26, ev26, h⟩ := q_nx h
        refine lv_iinc (v := v26) (lv' := [(4, .int v26), (0, .ref (ad 35)), (1, .int x1), (2, .int x2), (3, .int x3)]) hx hb dX6_ask_133 hl (k := 4) rfl (by rw [ev26]; rfl) (by decide) rfl (fun ls hl => ?_)
        refine lv_goto (tgt := 94) hx hb dX6_ask_136 (by decide) ?_
        exact ih94 M v26 H locs ls  h hP hS (lv_sub hl [1, 2, 3, 4, 0] rfl)
      intro M x4 H locs ls h hP hS hl
      have h := it2_s h
      refine lv_iload hx hb dX6_ask_94 (lv_at hl 4 rfl) ?_
      refine lv_if_lt (tgt := 139) hx hb dX6_ask_96 (by decide) (fun c27 => ?_) (fun c27 => ?_)
      · have h := q_t c27 h
        refine lv_aload_n hx hb dX6_ask_139 rfl (lv_at hl 0 rfl) ?_
        refine q_getI hx hb hts hi_X6 hown hK hP ob_35 rfl 35 (by decide) rfl (hts (.fieldLink RX6 174 "MirrorNetModel" "lacks" "I") (by decide +kernel)) (fun _ h9 => h9) dX6_ask_140 ?_
        refine lv_if_lt (tgt := 148) hx hb dX6_ask_143 (by decide) (fun c28 => ?_) (fun c28 => ?_)
        · have h := q_t c28 h
          refine lv_iconst (v := 0) hx hb dX6_ask_148 (by decide) ?_
          refine lv_istore (lv' := [(4, .int (0 : Int32)), (0, .ref (ad 35)), (1, .int x1), (2, .int x2), (3, .int x3)]) hx hb dX6_ask_149 hl (by decide) rfl (fun ls hl => ?_)
          exact L_lq_X6_ask_151 x3 FU M (0 : Int32) H locs ls  h hP hS (lv_sub hl [1, 2, 3, 4, 0] rfl)
        · have h := q_f c28 h
          refine lv_iconst (v := 2) hx hb dX6_ask_146 (by decide) ?_
          exact q_rWi hQ hx hb hr hlk hP hS h dX6_ask_147
      · have h := q_f c27 h
        refine lv_iload_n hx hb dX6_ask_99 rfl (lv_at hl 2 rfl) ?_
        refine lv_iload hx hb dX6_ask_100 (lv_at hl 4 rfl) ?_
        refine lv_ishr hx hb dX6_ask_102 ?_
        refine lv_iconst (v := 1) hx hb dX6_ask_103 (by decide) ?_
        refine lv_iand hx hb dX6_ask_104 ?_
        refine lv_iconst (v := 1) hx hb dX6_ask_105 (by decide) ?_
        refine lv_icmp_ne (tgt := 133) hx hb dX6_ask_106 (by decide) (fun c29 => ?_) (fun c29 => ?_)
        · have h := q_f c29 h
          exact B_bk_X6_ask_133 M x4 H locs ls  h hP hS (lv_sub hl [0, 1, 2, 3, 4] rfl)
        · have h := q_t c29 h
          refine lv_aload_n hx hb dX6_ask_109 rfl (lv_at hl 0 rfl) ?_
          refine q_getR hx hb hts hi_X6 hown hK hP ob_35 rfl 6 (by decide) rfl (hts (.fieldLink RX6 23 "MirrorNetModel" "named" "[I") (by decide +kernel)) (fun _ h9 => h9) dX6_ask_110 ?_
          refine lv_bipush (v := 12) hx hb dX6_ask_113 (by decide) ?_
          refine lv_aload_n hx hb dX6_ask_115 rfl (lv_at hl 0 rfl) ?_
          refine q_getI hx hb hts hi_X6 hown hK hP ob_35 rfl 31 (by decide) rfl (hts (.fieldLink RX6 164 "MirrorNetModel" "askedIndex" "I") (by decide +kernel)) (fun _ h9 => h9) dX6_ask_116 ?_
          refine lv_imul hx hb dX6_ask_119 ?_
          refine lv_iload hx hb dX6_ask_120 (lv_at hl 4 rfl) ?_
          refine lv_iadd hx hb dX6_ask_122 ?_
          obtain ⟨hk30, h⟩ := q_ck h
          refine q_iald hx hb hK hP ar_39 hk30 dX6_ask_123 ?_
          refine lv_if_ge (tgt := 133) hx hb dX6_ask_124 (by decide) (fun c31 => ?_) (fun c31 => ?_)
          · have h := q_t c31 h
            exact B_bk_X6_ask_133 M x4 H locs ls  h hP hS (lv_sub hl [0, 1, 2, 3, 4] rfl)
          · have h := q_f c31 h
            refine lv_aload_n hx hb dX6_ask_127 rfl (lv_at hl 0 rfl) ?_
            refine lv_iload hx hb dX6_ask_128 (lv_at hl 4 rfl) ?_
            obtain ⟨M32, eM32, h⟩ := q_nx h
            refine q_putI hx hb hts hi_X6 tyX6 tyX6_ok nmX6 hown hK hP hAD hS ob_35 rfl 35 (by decide) rfl (hts (.fieldLink RX6 174 "MirrorNetModel" "lacks" "I") (by decide +kernel)) (fun _ h9 => h9) rfl (ty := .int) (by decide +kernel) rfl rfl dX6_ask_130 (fun H locs hP hS => ?_)
            rw [← eM32] at hP
            exact B_bk_X6_ask_133 M32 x4 H locs ls  h hP hS (lv_sub hl [0, 1, 2, 3, 4] rfl)
  obtain ⟨H, eH⟩ : ∃ H : Heap, H = s.heap := ⟨_, rfl⟩
  obtain ⟨locs, eL⟩ : ∃ L : List Loc, L = [] := ⟨_, rfl⟩
  have hP : va_P D vwCl (wl ad kc nm M) H := by rw [eH]; exact hP
  have hS : va_S (fun q => z ≤ q) s.heap H locs := by rw [eH, eL]; exact hS
  refine q_start eH eL ?_
  refine lv_iload_n hx hb dX6_ask_0 rfl (lv_at hl 1 rfl) ?_
  obtain ⟨r34, hc33, h⟩ := q_bd1 h
  refine q_cRz (va_runS (As := [.int x1]) (rest := []) ⟨hx, hb, hml, hown, hts⟩ (ct_X6_isAsker l hAD (M := M) hc33) (va_cwS 1 hts gX6_ask_X6_isAsker rfl rfl rfl (by decide +kernel) ⟨Nat.le_of_ble_eq_true rfl, Nat.le_of_ble_eq_true rfl⟩) ⟨gw_blind, gw_pre _ hK hP (Nat.le_trans hz hS.1) hN⟩ rfl rfl hl.1 rfl (lv_room (Nat.le_of_ble_eq_true rfl)) dX6_ask_1 ⟨Nat.zero_le _, Nat.zero_le _⟩) (fun hzr34 => ?_)
  refine lv_if_eq (tgt := 18) hx hb dX6_ask_4 (by decide) (fun c38 => ?_) (fun c38 => ?_)
  · have h := q_t c38 h
    refine lv_iconst (v := -1) hx hb dX6_ask_18 (by decide) ?_
    exact q_rWi hQ hx hb hr hlk hP hS h dX6_ask_19
  · have h := q_f c38 h
    refine lv_iload_n hx hb dX6_ask_7 rfl (lv_at hl 2 rfl) ?_
    refine lv_iconst (v := 1) hx hb dX6_ask_8 (by decide) ?_
    refine lv_sipush (v := 4095) hx hb dX6_ask_9 (by decide) ?_
    obtain ⟨r40, hc39, h⟩ := q_bd1 h
    refine q_cRz (va_runS (As := [.int x2, .int (1 : Int32), .int (4095 : Int32)]) (rest := []) ⟨hx, hb, hml, hown, hts⟩ (ct_X6_in l hAD (M := M) hc39) (va_cwS 3 hts gX6_ask_X6_in rfl rfl rfl (by decide +kernel) ⟨Nat.le_of_ble_eq_true rfl, Nat.le_of_ble_eq_true rfl⟩) ⟨gw_blind, gw_pre _ hK hP (Nat.le_trans hz hS.1) hN⟩ rfl rfl hl.1 rfl (lv_room (Nat.le_of_ble_eq_true rfl)) dX6_ask_12 ⟨Nat.zero_le _, Nat.zero_le _⟩) (fun hzr40 => ?_)
    refine lv_if_ne (tgt := 20) hx hb dX6_ask_15 (by decide) (fun c44 => ?_) (fun c44 => ?_)
    · have h := q_f c44 h
      refine lv_aload_n hx hb dX6_ask_20 rfl (lv_at hl 0 rfl) ?_
      refine lv_iconst (v := 1) hx hb dX6_ask_21 (by decide) ?_
      obtain ⟨M45, eM45, h⟩ := q_nx h
      refine q_putI hx hb hts hi_X6 tyX6 tyX6_ok nmX6 hown hK hP hAD hS ob_35 rfl 30 (by decide) rfl (hts (.fieldLink RX6 170 "MirrorNetModel" "hasAsked" "Z") (by decide +kernel)) (fun _ h9 => h9) rfl (ty := .boolean) (by decide +kernel) (nar_b (Or.inr rfl)) (fit_b (Or.inr rfl)) dX6_ask_22 (fun H locs hP hS => ?_)
      rw [← eM45] at hP
      refine lv_aload_n hx hb dX6_ask_25 rfl (lv_at hl 0 rfl) ?_
      refine lv_iconst (v := 0) hx hb dX6_ask_26 (by decide) ?_
      obtain ⟨M46, eM46, h⟩ := q_nx h
      refine q_putI hx hb hts hi_X6 tyX6 tyX6_ok nmX6 hown hK hP hAD hS ob_35 rfl 32 (by decide) rfl (hts (.fieldLink RX6 152 "MirrorNetModel" "spent" "I") (by decide +kernel)) (fun _ h9 => h9) rfl (ty := .int) (by decide +kernel) rfl rfl dX6_ask_27 (fun H locs hP hS => ?_)
      rw [← eM46] at hP
      refine lv_aload_n hx hb dX6_ask_30 rfl (lv_at hl 0 rfl) ?_
      refine lv_iconst (v := 0) hx hb dX6_ask_31 (by decide) ?_
      obtain ⟨M47, eM47, h⟩ := q_nx h
      refine q_putI hx hb hts hi_X6 tyX6 tyX6_ok nmX6 hown hK hP hAD hS ob_35 rfl 33 (by decide) rfl (hts (.fieldLink RX6 155 "MirrorNetModel" "askings" "I") (by decide +kernel)) (fun _ h9 => h9) rfl (ty := .int) (by decide +kernel) rfl rfl dX6_ask_32 (fun H locs hP hS => ?_)
      rw [← eM47] at hP
      refine lv_aload_n hx hb dX6_ask_35 rfl (lv_at hl 0 rfl) ?_
      refine lv_iconst (v := 0) hx hb dX6_ask_36 (by decide) ?_
      obtain ⟨M48, eM48, h⟩ := q_nx h
      refine q_putI hx hb hts hi_X6 tyX6 tyX6_ok nmX6 hown hK hP hAD hS ob_35 rfl 34 (by decide) rfl (hts (.fieldLink RX6 167 "MirrorNetModel" "gotMany" "I") (by decide +kernel)) (fun _ h9 => h9) rfl (ty := .int) (by decide +kernel) rfl rfl dX6_ask_37 (fun H locs hP hS => ?_)
      rw [← eM48] at hP
      refine lv_aload_n hx hb dX6_ask_40 rfl (lv_at hl 0 rfl) ?_
      refine lv_iconst (v := -1) hx hb dX6_ask_41 (by decide) ?_
      obtain ⟨M49, eM49, h⟩ := q_nx h
      refine q_putI hx hb hts hi_X6 tyX6 tyX6_ok nmX6 hown hK hP hAD hS ob_35 rfl 35 (by decide) rfl (hts (.fieldLink RX6 174 "MirrorNetModel" "lacks" "I") (by decide +kernel)) (fun _ h9 => h9) rfl (ty := .int) (by decide +kernel) rfl rfl dX6_ask_42 (fun H locs hP hS => ?_)
      rw [← eM49] at hP
      refine lv_aload_n hx hb dX6_ask_45 rfl (lv_at hl 0 rfl) ?_
      refine lv_iconst (v := -1) hx hb dX6_ask_46 (by decide) ?_
      obtain ⟨M50, eM50, h⟩ := q_nx h
      refine q_putI hx hb hts hi_X6 tyX6 tyX6_ok nmX6 hown hK hP hAD hS ob_35 rfl 36 (by decide) rfl (hts (.fieldLink RX6 177 "MirrorNetModel" "foresight" "I") (by decide +kernel)) (fun _ h9 => h9) rfl (ty := .int) (by decide +kernel) rfl rfl dX6_ask_47 (fun H locs hP hS => ?_)
      rw [← eM50] at hP
      refine lv_aload_n hx hb dX6_ask_50 rfl (lv_at hl 0 rfl) ?_
      refine q_getR hx hb hts hi_X6 hown hK hP ob_35 rfl 26 (by decide) rfl (hts (.fieldLink RX6 78 "MirrorNetModel" "seen" "[I") (by decide +kernel)) (fun _ h9 => h9) dX6_ask_51 ?_
      refine lv_iload_n hx hb dX6_ask_54 rfl (lv_at hl 1 rfl) ?_
      obtain ⟨hk51, h⟩ := q_ck h
      refine q_iald hx hb hK hP ar_56 hk51 dX6_ask_55 ?_
      refine lv_topi (fun v52 ev52 => ?_)
      have h := q_nxe ev52 h
      refine lv_istore_n (lv' := [(3, .int v52), (0, .ref (ad 35)), (1, .int x1), (2, .int x2)]) hx hb dX6_ask_56 rfl hl (by decide) rfl (fun ls hl => ?_)
      refine lv_aload_n hx hb dX6_ask_57 rfl (lv_at hl 1 rfl) ?_
      refine lv_iload_n hx hb dX6_ask_58 rfl (lv_at hl 2 rfl) ?_
      obtain ⟨M55, hc53, h⟩ := q_bd1 h
      refine q_cWv (va_runV (C := RX6) (As := [.int x1]) (rest := []) ⟨hx, hb, hml, hown, hts⟩ (ct_X6_orders l hAD (M := M50) hc53) (cwV 1 hts gX6_ask_X6_orders rfl rfl rfl (by decide +kernel) ⟨Nat.le_of_ble_eq_true rfl, Nat.le_of_ble_eq_true rfl⟩) ⟨gw_blind, gw_recv ob_35 hK hP rfl, gw_pre _ hK hP (Nat.le_trans hz hS.1) hN⟩ rfl rfl hl.1 rfl (lv_room (Nat.le_of_ble_eq_true rfl)) dX6_ask_59 ⟨Nat.zero_le _, Nat.zero_le _⟩) hS (fun H locs hP hS => ?_)
      refine lv_aload_n hx hb dX6_ask_62 rfl (lv_at hl 1 rfl) ?_
      refine lv_aload_n hx hb dX6_ask_63 rfl (lv_at hl 1 rfl) ?_
      refine lv_iload_n hx hb dX6_ask_64 rfl (lv_at hl 2 rfl) ?_
      obtain ⟨r59, M60, hc58, h⟩ := q_bd2 h
      refine q_cWi (va_runV (C := RX6) (As := [.int x1]) (rest := [.ref (ad 35)]) ⟨hx, hb, hml, hown, hts⟩ (ct_X6_indexFor l hAD (M := M55) hc58) (cwV 1 hts gX6_ask_X6_indexFor rfl rfl rfl (by decide +kernel) ⟨Nat.le_of_ble_eq_true rfl, Nat.le_of_ble_eq_true rfl⟩) ⟨gw_blind, gw_recv ob_35 hK hP rfl, gw_pre _ hK hP (Nat.le_trans hz hS.1) hN⟩ rfl rfl hl.1 rfl (lv_room (Nat.le_of_ble_eq_true rfl)) dX6_ask_65 ⟨Nat.zero_le _, Nat.zero_le _⟩) hS (fun H locs hP hS => ?_)
      obtain ⟨M63, eM63, h⟩ := q_nx h
      refine q_putI hx hb hts hi_X6 tyX6 tyX6_ok nmX6 hown hK hP hAD hS ob_35 rfl 31 (by decide) rfl (hts (.fieldLink RX6 164 "MirrorNetModel" "askedIndex" "I") (by decide +kernel)) (fun _ h9 => h9) rfl (ty := .int) (by decide +kernel) rfl rfl dX6_ask_68 (fun H locs hP hS => ?_)
      rw [← eM63] at hP
      refine lv_aload_n hx hb dX6_ask_71 rfl (lv_at hl 1 rfl) ?_
      refine q_getI hx hb hts hi_X6 hown hK hP ob_35 rfl 31 (by decide) rfl (hts (.fieldLink RX6 164 "MirrorNetModel" "askedIndex" "I") (by decide +kernel)) (fun _ h9 => h9) dX6_ask_72 ?_
      refine lv_if_ge (tgt := 80) hx hb dX6_ask_75 (by decide) (fun c64 => ?_) (fun c64 => ?_)
      · have h := q_t c64 h
        refine lv_aload_n hx hb dX6_ask_80 rfl (lv_at hl 1 rfl) ?_
        refine q_getR hx hb hts hi_X6 hown hK hP ob_35 rfl 26 (by decide) rfl (hts (.fieldLink RX6 78 "MirrorNetModel" "seen" "[I") (by decide +kernel)) (fun _ h9 => h9) dX6_ask_81 ?_
        refine lv_iload_n hx hb dX6_ask_84 rfl (lv_at hl 2 rfl) ?_
        refine lv_aload_n hx hb dX6_ask_85 rfl (lv_at hl 1 rfl) ?_
        refine q_getI hx hb hts hi_X6 hown hK hP ob_35 rfl 31 (by decide) rfl (hts (.fieldLink RX6 164 "MirrorNetModel" "askedIndex" "I") (by decide +kernel)) (fun _ h9 => h9) dX6_ask_86 ?_
        obtain ⟨hk65, h⟩ := q_ck h
        obtain ⟨M66, eM66, h⟩ := q_nx h
        refine q_iast hx hb hK hP hAD hS ar_56 hk65 dX6_ask_89 (fun H locs hP hS => ?_)
        rw [← eM66] at hP
        refine lv_bipush (v := 11) hx hb dX6_ask_90 (by decide) ?_
        refine lv_istore (lv' := [(4, .int (11 : Int32)), (3, .int v52), (0, .ref (ad 35)), (1, .int x1), (2, .int x2)]) hx hb dX6_ask_92 hl (by decide) rfl (fun ls hl => ?_)
        exact L_lq_X6_ask_94 v52 FU M66 (11 : Int32) H locs ls  h hP hS (lv_sub hl [2, 3, 4, 1, 0] rfl)
      · have h := q_f c64 h
        refine lv_iconst (v := 1) hx hb dX6_ask_78 (by decide) ?_
        exact q_rWi hQ hx hb hr hlk hP hS h dX6_ask_79
    · have h := q_t c44 h
      refine lv_iconst (v := -1) hx hb dX6_ask_18 (by decide) ?_
      exact q_rWi hQ hx hb hr hlk hP hS h dX6_ask_19
def rm_X6_asked : Room := { frames := 0, cells := 0, slots := 0, locals := 0 }
set_option maxHeartbeats 4000000 in
set_option maxRecDepth 100000 in
theorem ct_X6_asked (l : Launch) {D : va_G} {ad : Nat → Nat} {kc : Nat → ClassId} {nm z : Nat} (hAD : AD ad nm z) {M : Mem} {x1 : Int32} {r : Int32}  (h : fn_X6_asked M x1 = some r) : Met l yX6_asked wsX6_asked rm_X6_asked (va_Pc [.ref (ad 35), .int x1] (GW D ad kc nm z M)) (QRi r) 0 0 (fun _ => False) := by
  refine q_met (cc := cX6_asked) (maxL := 2) (ret := (some .int)) (by decide) rfl (Nat.le_of_ble_eq_true rfl) ?_
  intro p e s m args below meth c Q ls hx hb hr hlk hml hown hts hB hQ hl
  obtain ⟨hP, hK, hz, hN⟩ := hB
  have hown : s.vm.findClass RX6 = some m.cls := hown
  have hl : lv_has ls 2 [(0, .ref (ad 35)), (1, .int x1)] := hl
  have hi_X6 : ∀ w ∈ u_ws RX6 TX6 40, w ∈ wsX6_asked := by decide +kernel
  refine lv_aload_n hx hb dX6_asked_0 rfl (lv_at hl 0 rfl) ?_
  refine q_getI hx hb hts hi_X6 hown hK hP ob_35 rfl 30 (by decide) rfl (hts (.fieldLink RX6 170 "MirrorNetModel" "hasAsked" "Z") (by decide +kernel)) (fun _ h9 => h9) dX6_asked_1 ?_
  refine lv_if_ne (tgt := 9) hx hb dX6_asked_4 (by decide) (fun c1 => ?_) (fun c1 => ?_)
  · have h := q_f c1 h
    refine lv_iload_n hx hb dX6_asked_9 rfl (lv_at hl 1 rfl) ?_
    by_cases c2 : x1 = (0 : Int32)
    · have h := q_t c2 h
      refine lv_tableIn (off := 38) (tgt := 48) hx hb dX6_asked_10 (by rw [c2]; decide) (by rw [c2]; decide) (by rw [c2]; rfl) (by decide) ?_
      refine lv_aload_n hx hb dX6_asked_48 rfl (lv_at hl 0 rfl) ?_
      refine q_getI hx hb hts hi_X6 hown hK hP ob_35 rfl 31 (by decide) rfl (hts (.fieldLink RX6 164 "MirrorNetModel" "askedIndex" "I") (by decide +kernel)) (fun _ h9 => h9) dX6_asked_49 ?_
      exact q_rRi hQ hx hb hr hlk h dX6_asked_52
    have h := q_f c2 h
    by_cases c3 : x1 = (1 : Int32)
    · have h := q_t c3 h
      refine lv_tableIn (off := 43) (tgt := 53) hx hb dX6_asked_10 (by rw [c3]; decide) (by rw [c3]; decide) (by rw [c3]; rfl) (by decide) ?_
      refine lv_aload_n hx hb dX6_asked_53 rfl (lv_at hl 0 rfl) ?_
      refine q_getI hx hb hts hi_X6 hown hK hP ob_35 rfl 32 (by decide) rfl (hts (.fieldLink RX6 152 "MirrorNetModel" "spent" "I") (by decide +kernel)) (fun _ h9 => h9) dX6_asked_54 ?_
      exact q_rRi hQ hx hb hr hlk h dX6_asked_57
    have h := q_f c3 h
    by_cases c4 : x1 = (2 : Int32)
    · have h := q_t c4 h
      refine lv_tableIn (off := 48) (tgt := 58) hx hb dX6_asked_10 (by rw [c4]; decide) (by rw [c4]; decide) (by rw [c4]; rfl) (by decide) ?_
      refine lv_aload_n hx hb dX6_asked_58 rfl (lv_at hl 0 rfl) ?_
      refine q_getI hx hb hts hi_X6 hown hK hP ob_35 rfl 33 (by decide) rfl (hts (.fieldLink RX6 155 "MirrorNetModel" "askings" "I") (by decide +kernel)) (fun _ h9 => h9) dX6_asked_59 ?_
      exact q_rRi hQ hx hb hr hlk h dX6_asked_62
    have h := q_f c4 h
    by_cases c5 : x1 = (3 : Int32)
    · have h := q_t c5 h
      refine lv_tableIn (off := 53) (tgt := 63) hx hb dX6_asked_10 (by rw [c5]; decide) (by rw [c5]; decide) (by rw [c5]; rfl) (by decide) ?_
      refine lv_aload_n hx hb dX6_asked_63 rfl (lv_at hl 0 rfl) ?_
      refine q_getI hx hb hts hi_X6 hown hK hP ob_35 rfl 34 (by decide) rfl (hts (.fieldLink RX6 167 "MirrorNetModel" "gotMany" "I") (by decide +kernel)) (fun _ h9 => h9) dX6_asked_64 ?_
      exact q_rRi hQ hx hb hr hlk h dX6_asked_67
    have h := q_f c5 h
    by_cases c6 : x1 = (4 : Int32)
    · have h := q_t c6 h
      refine lv_tableIn (off := 58) (tgt := 68) hx hb dX6_asked_10 (by rw [c6]; decide) (by rw [c6]; decide) (by rw [c6]; rfl) (by decide) ?_
      refine lv_aload_n hx hb dX6_asked_68 rfl (lv_at hl 0 rfl) ?_
      refine q_getI hx hb hts hi_X6 hown hK hP ob_35 rfl 35 (by decide) rfl (hts (.fieldLink RX6 174 "MirrorNetModel" "lacks" "I") (by decide +kernel)) (fun _ h9 => h9) dX6_asked_69 ?_
      exact q_rRi hQ hx hb hr hlk h dX6_asked_72
    have h := q_f c6 h
    by_cases c7 : x1 = (5 : Int32)
    · have h := q_t c7 h
      refine lv_tableIn (off := 63) (tgt := 73) hx hb dX6_asked_10 (by rw [c7]; decide) (by rw [c7]; decide) (by rw [c7]; rfl) (by decide) ?_
      refine lv_aload_n hx hb dX6_asked_73 rfl (lv_at hl 0 rfl) ?_
      refine q_getI hx hb hts hi_X6 hown hK hP ob_35 rfl 36 (by decide) rfl (hts (.fieldLink RX6 177 "MirrorNetModel" "foresight" "I") (by decide +kernel)) (fun _ h9 => h9) dX6_asked_74 ?_
      exact q_rRi hQ hx hb hr hlk h dX6_asked_77
    have h := q_f c7 h
    refine lv_tableOut (tgt := 78) hx hb dX6_asked_10 (by have z0 := lv_neT c2 (a := 0) rfl; have z1 := lv_neT c3 (a := 1) rfl; have z2 := lv_neT c4 (a := 2) rfl; have z3 := lv_neT c5 (a := 3) rfl; have z4 := lv_neT c6 (a := 4) rfl; have z5 := lv_neT c7 (a := 5) rfl; omega) (by decide) ?_
    refine lv_iconst (v := -1) hx hb dX6_asked_78 (by decide) ?_
    exact q_rRi hQ hx hb hr hlk h dX6_asked_79
  · have h := q_t c1 h
    refine lv_iconst (v := -1) hx hb dX6_asked_7 (by decide) ?_
    exact q_rRi hQ hx hb hr hlk h dX6_asked_8
def rm_X6_got : Room := { frames := 1, cells := 0, slots := 0, locals := 22 }
set_option maxHeartbeats 4000000 in
set_option maxRecDepth 100000 in
theorem ct_X6_got (l : Launch) {D : va_G} {ad : Nat → Nat} {kc : Nat → ClassId} {nm z : Nat} (hAD : AD ad nm z) {M : Mem} {x1 : Int32} {x2 : Int32} {r : Int32}  (h : fn_X6_got M x1 x2 = some r) : Met l yX6_got wsX6_got rm_X6_got (va_Pc [.ref (ad 35), .int x1, .int x2] (GW D ad kc nm z M)) (QRi r) 0 0 (fun _ => False) := by
  refine q_met (cc := cX6_got) (maxL := 3) (ret := (some .int)) (by decide) rfl (Nat.le_of_ble_eq_true rfl) ?_
  intro p e s m args below meth c Q ls hx hb hr hlk hml hown hts hB hQ hl
  obtain ⟨hP, hK, hz, hN⟩ := hB
  have hown : s.vm.findClass RX6 = some m.cls := hown
  have hl : lv_has ls 3 [(0, .ref (ad 35)), (1, .int x1), (2, .int x2)] := hl
  have hi_X6 : ∀ w ∈ u_ws RX6 TX6 40, w ∈ wsX6_got := by decide +kernel
  refine lv_aload_n hx hb dX6_got_0 rfl (lv_at hl 0 rfl) ?_
  refine q_getI hx hb hts hi_X6 hown hK hP ob_35 rfl 30 (by decide) rfl (hts (.fieldLink RX6 170 "MirrorNetModel" "hasAsked" "Z") (by decide +kernel)) (fun _ h9 => h9) dX6_got_1 ?_
  refine lv_if_eq (tgt := 21) hx hb dX6_got_4 (by decide) (fun c1 => ?_) (fun c1 => ?_)
  · have h := q_t c1 h
    refine lv_iconst (v := -1) hx hb dX6_got_21 (by decide) ?_
    exact q_rRi hQ hx hb hr hlk h dX6_got_22
  · have h := q_f c1 h
    refine lv_iload_n hx hb dX6_got_7 rfl (lv_at hl 1 rfl) ?_
    refine lv_iconst (v := 0) hx hb dX6_got_8 (by decide) ?_
    refine lv_aload_n hx hb dX6_got_9 rfl (lv_at hl 0 rfl) ?_
    refine q_getI hx hb hts hi_X6 hown hK hP ob_35 rfl 34 (by decide) rfl (hts (.fieldLink RX6 167 "MirrorNetModel" "gotMany" "I") (by decide +kernel)) (fun _ h9 => h9) dX6_got_10 ?_
    refine lv_iconst (v := 1) hx hb dX6_got_13 (by decide) ?_
    refine lv_isub hx hb dX6_got_14 ?_
    obtain ⟨r3, hc2, h⟩ := q_bd1 h
    refine q_cRz (va_runS (As := [.int x1, .int (0 : Int32), .int ((gI M 35 34) - (1 : Int32))]) (rest := []) ⟨hx, hb, hml, hown, hts⟩ (ct_X6_in l hAD (M := M) hc2) (va_cwS 3 hts gX6_got_X6_in rfl rfl rfl (by decide +kernel) ⟨Nat.le_of_ble_eq_true rfl, Nat.le_of_ble_eq_true rfl⟩) ⟨gw_blind, gw_pre _ hK hP hz hN⟩ rfl rfl hl.1 rfl (lv_room (Nat.le_of_ble_eq_true rfl)) dX6_got_15 ⟨Nat.zero_le _, Nat.zero_le _⟩) (fun hzr3 => ?_)
    refine lv_if_ne (tgt := 23) hx hb dX6_got_18 (by decide) (fun c7 => ?_) (fun c7 => ?_)
    · have h := q_f c7 h
      refine lv_iload_n hx hb dX6_got_23 rfl (lv_at hl 2 rfl) ?_
      refine lv_if_ne (tgt := 36) hx hb dX6_got_24 (by decide) (fun c8 => ?_) (fun c8 => ?_)
      · have h := q_f c8 h
        refine lv_iload_n hx hb dX6_got_36 rfl (lv_at hl 2 rfl) ?_
        refine lv_iconst (v := 1) hx hb dX6_got_37 (by decide) ?_
        refine lv_icmp_ne (tgt := 50) hx hb dX6_got_38 (by decide) (fun c9 => ?_) (fun c9 => ?_)
        · have h := q_f c9 h
          refine lv_iload_n hx hb dX6_got_50 rfl (lv_at hl 2 rfl) ?_
          refine lv_iconst (v := 2) hx hb dX6_got_51 (by decide) ?_
          refine lv_icmp_ne (tgt := 64) hx hb dX6_got_52 (by decide) (fun c10 => ?_) (fun c10 => ?_)
          · have h := q_f c10 h
            refine lv_iconst (v := -1) hx hb dX6_got_64 (by decide) ?_
            exact q_rRi hQ hx hb hr hlk h dX6_got_65
          · have h := q_t c10 h
            refine lv_aload_n hx hb dX6_got_55 rfl (lv_at hl 0 rfl) ?_
            refine q_getR hx hb hts hi_X6 hown hK hP ob_35 rfl 39 (by decide) rfl (hts (.fieldLink RX6 93 "MirrorNetModel" "gotOf" "[I") (by decide +kernel)) (fun _ h9 => h9) dX6_got_56 ?_
            refine lv_iload_n hx hb dX6_got_59 rfl (lv_at hl 1 rfl) ?_
            obtain ⟨hk11, h⟩ := q_ck h
            refine q_iald hx hb hK hP ar_61 hk11 dX6_got_60 ?_
            refine lv_goto (tgt := 65) hx hb dX6_got_61 (by decide) ?_
            exact q_rRi hQ hx hb hr hlk h dX6_got_65
        · have h := q_t c9 h
          refine lv_aload_n hx hb dX6_got_41 rfl (lv_at hl 0 rfl) ?_
          refine q_getR hx hb hts hi_X6 hown hK hP ob_35 rfl 38 (by decide) rfl (hts (.fieldLink RX6 90 "MirrorNetModel" "gotPack" "[I") (by decide +kernel)) (fun _ h9 => h9) dX6_got_42 ?_
          refine lv_iload_n hx hb dX6_got_45 rfl (lv_at hl 1 rfl) ?_
          obtain ⟨hk12, h⟩ := q_ck h
          refine q_iald hx hb hK hP ar_60 hk12 dX6_got_46 ?_
          refine lv_goto (tgt := 65) hx hb dX6_got_47 (by decide) ?_
          exact q_rRi hQ hx hb hr hlk h dX6_got_65
      · have h := q_t c8 h
        refine lv_aload_n hx hb dX6_got_27 rfl (lv_at hl 0 rfl) ?_
        refine q_getR hx hb hts hi_X6 hown hK hP ob_35 rfl 37 (by decide) rfl (hts (.fieldLink RX6 87 "MirrorNetModel" "gotFile" "[I") (by decide +kernel)) (fun _ h9 => h9) dX6_got_28 ?_
        refine lv_iload_n hx hb dX6_got_31 rfl (lv_at hl 1 rfl) ?_
        obtain ⟨hk13, h⟩ := q_ck h
        refine q_iald hx hb hK hP ar_59 hk13 dX6_got_32 ?_
        refine lv_goto (tgt := 65) hx hb dX6_got_33 (by decide) ?_
        exact q_rRi hQ hx hb hr hlk h dX6_got_65
    · have h := q_t c7 h
      refine lv_iconst (v := -1) hx hb dX6_got_21 (by decide) ?_
      exact q_rRi hQ hx hb hr hlk h dX6_got_22
def rm_X6_asker : Room := { frames := 2, cells := 0, slots := 0, locals := 42 }
set_option maxHeartbeats 4000000 in
set_option maxRecDepth 100000 in
theorem ct_X6_asker (l : Launch) {D : va_G} {ad : Nat → Nat} {kc : Nat → ClassId} {nm z : Nat} (hAD : AD ad nm z) {M : Mem} {x1 : Int32} {x2 : Int32} {r : Int32}  (h : fn_X6_asker M x1 x2 = some r) : Met l yX6_asker wsX6_asker rm_X6_asker (va_Pc [.ref (ad 35), .int x1, .int x2] (GW D ad kc nm z M)) (QRi r) 0 0 (fun _ => False) := by
  refine q_met (cc := cX6_asker) (maxL := 3) (ret := (some .int)) (by decide) rfl (Nat.le_of_ble_eq_true rfl) ?_
  intro p e s m args below meth c Q ls hx hb hr hlk hml hown hts hB hQ hl
  obtain ⟨hP, hK, hz, hN⟩ := hB
  have hown : s.vm.findClass RX6 = some m.cls := hown
  have hl : lv_has ls 3 [(0, .ref (ad 35)), (1, .int x1), (2, .int x2)] := hl
  have hi_X6 : ∀ w ∈ u_ws RX6 TX6 40, w ∈ wsX6_asker := by decide +kernel
  refine lv_iload_n hx hb dX6_asker_0 rfl (lv_at hl 1 rfl) ?_
  obtain ⟨r2, hc1, h⟩ := q_bd1 h
  refine q_cRz (va_runS (As := [.int x1]) (rest := []) ⟨hx, hb, hml, hown, hts⟩ (ct_X6_isAsker l hAD (M := M) hc1) (va_cwS 1 hts gX6_asker_X6_isAsker rfl rfl rfl (by decide +kernel) ⟨Nat.le_of_ble_eq_true rfl, Nat.le_of_ble_eq_true rfl⟩) ⟨gw_blind, gw_pre _ hK hP hz hN⟩ rfl rfl hl.1 rfl (lv_room (Nat.le_of_ble_eq_true rfl)) dX6_asker_1 ⟨Nat.zero_le _, Nat.zero_le _⟩) (fun hzr2 => ?_)
  refine lv_if_ne (tgt := 9) hx hb dX6_asker_4 (by decide) (fun c6 => ?_) (fun c6 => ?_)
  · have h := q_f c6 h
    refine lv_iload_n hx hb dX6_asker_9 rfl (lv_at hl 2 rfl) ?_
    refine lv_if_ne (tgt := 22) hx hb dX6_asker_10 (by decide) (fun c7 => ?_) (fun c7 => ?_)
    · have h := q_f c7 h
      refine lv_iload_n hx hb dX6_asker_22 rfl (lv_at hl 2 rfl) ?_
      refine lv_iconst (v := 1) hx hb dX6_asker_23 (by decide) ?_
      refine lv_icmp_ne (tgt := 36) hx hb dX6_asker_24 (by decide) (fun c8 => ?_) (fun c8 => ?_)
      · have h := q_f c8 h
        refine lv_iload_n hx hb dX6_asker_36 rfl (lv_at hl 2 rfl) ?_
        refine lv_iconst (v := 2) hx hb dX6_asker_37 (by decide) ?_
        refine lv_icmp_ne (tgt := 50) hx hb dX6_asker_38 (by decide) (fun c9 => ?_) (fun c9 => ?_)
        · have h := q_f c9 h
          refine lv_iconst (v := -1) hx hb dX6_asker_50 (by decide) ?_
          exact q_rRi hQ hx hb hr hlk h dX6_asker_51
        · have h := q_t c9 h
          refine lv_aload_n hx hb dX6_asker_41 rfl (lv_at hl 0 rfl) ?_
          refine q_getR hx hb hts hi_X6 hown hK hP ob_35 rfl 27 (by decide) rfl (hts (.fieldLink RX6 81 "MirrorNetModel" "bad" "[I") (by decide +kernel)) (fun _ h9 => h9) dX6_asker_42 ?_
          refine lv_iload_n hx hb dX6_asker_45 rfl (lv_at hl 1 rfl) ?_
          obtain ⟨hk10, h⟩ := q_ck h
          refine q_iald hx hb hK hP ar_57 hk10 dX6_asker_46 ?_
          refine lv_goto (tgt := 51) hx hb dX6_asker_47 (by decide) ?_
          exact q_rRi hQ hx hb hr hlk h dX6_asker_51
      · have h := q_t c8 h
        refine lv_aload_n hx hb dX6_asker_27 rfl (lv_at hl 0 rfl) ?_
        refine q_getR hx hb hts hi_X6 hown hK hP ob_35 rfl 25 (by decide) rfl (hts (.fieldLink RX6 75 "MirrorNetModel" "bears" "[I") (by decide +kernel)) (fun _ h9 => h9) dX6_asker_28 ?_
        refine lv_iload_n hx hb dX6_asker_31 rfl (lv_at hl 1 rfl) ?_
        obtain ⟨hk11, h⟩ := q_ck h
        refine q_iald hx hb hK hP ar_55 hk11 dX6_asker_32 ?_
        refine lv_goto (tgt := 51) hx hb dX6_asker_33 (by decide) ?_
        exact q_rRi hQ hx hb hr hlk h dX6_asker_51
    · have h := q_t c7 h
      refine lv_aload_n hx hb dX6_asker_13 rfl (lv_at hl 0 rfl) ?_
      refine q_getR hx hb hts hi_X6 hown hK hP ob_35 rfl 26 (by decide) rfl (hts (.fieldLink RX6 78 "MirrorNetModel" "seen" "[I") (by decide +kernel)) (fun _ h9 => h9) dX6_asker_14 ?_
      refine lv_iload_n hx hb dX6_asker_17 rfl (lv_at hl 1 rfl) ?_
      obtain ⟨hk12, h⟩ := q_ck h
      refine q_iald hx hb hK hP ar_56 hk12 dX6_asker_18 ?_
      refine lv_goto (tgt := 51) hx hb dX6_asker_19 (by decide) ?_
      exact q_rRi hQ hx hb hr hlk h dX6_asker_51
  · have h := q_t c6 h
    refine lv_iconst (v := -1) hx hb dX6_asker_7 (by decide) ?_
    exact q_rRi hQ hx hb hr hlk h dX6_asker_8
def rm_X6_names : Room := { frames := 1, cells := 0, slots := 0, locals := 22 }
set_option maxHeartbeats 4000000 in
set_option maxRecDepth 100000 in
theorem ct_X6_names (l : Launch) {D : va_G} {ad : Nat → Nat} {kc : Nat → ClassId} {nm z : Nat} (hAD : AD ad nm z) {M : Mem} {x1 : Int32} {x2 : Int32} {r : Int32}  (h : fn_X6_names M x1 x2 = some r) : Met l yX6_names wsX6_names rm_X6_names (va_Pc [.ref (ad 35), .int x1, .int x2] (GW D ad kc nm z M)) (QRi r) 0 0 (fun _ => False) := by
  refine q_met (cc := cX6_names) (maxL := 3) (ret := (some .int)) (by decide) rfl (Nat.le_of_ble_eq_true rfl) ?_
  intro p e s m args below meth c Q ls hx hb hr hlk hml hown hts hB hQ hl
  obtain ⟨hP, hK, hz, hN⟩ := hB
  have hown : s.vm.findClass RX6 = some m.cls := hown
  have hl : lv_has ls 3 [(0, .ref (ad 35)), (1, .int x1), (2, .int x2)] := hl
  have hi_X6 : ∀ w ∈ u_ws RX6 TX6 40, w ∈ wsX6_names := by decide +kernel
  refine lv_iload_n hx hb dX6_names_0 rfl (lv_at hl 1 rfl) ?_
  refine lv_iconst (v := 0) hx hb dX6_names_1 (by decide) ?_
  refine lv_aload_n hx hb dX6_names_2 rfl (lv_at hl 0 rfl) ?_
  refine q_getI hx hb hts hi_X6 hown hK hP ob_35 rfl 4 (by decide) rfl (hts (.fieldLink RX6 16 "MirrorNetModel" "states" "I") (by decide +kernel)) (fun _ h9 => h9) dX6_names_3 ?_
  refine lv_iconst (v := 1) hx hb dX6_names_6 (by decide) ?_
  refine lv_isub hx hb dX6_names_7 ?_
  obtain ⟨r2, hc1, h⟩ := q_bd1 h
  refine q_cRz (va_runS (As := [.int x1, .int (0 : Int32), .int ((gI M 35 4) - (1 : Int32))]) (rest := []) ⟨hx, hb, hml, hown, hts⟩ (ct_X6_in l hAD (M := M) hc1) (va_cwS 3 hts gX6_names_X6_in rfl rfl rfl (by decide +kernel) ⟨Nat.le_of_ble_eq_true rfl, Nat.le_of_ble_eq_true rfl⟩) ⟨gw_blind, gw_pre _ hK hP hz hN⟩ rfl rfl hl.1 rfl (lv_room (Nat.le_of_ble_eq_true rfl)) dX6_names_8 ⟨Nat.zero_le _, Nat.zero_le _⟩) (fun hzr2 => ?_)
  refine lv_if_eq (tgt := 38) hx hb dX6_names_11 (by decide) (fun c6 => ?_) (fun c6 => ?_)
  · have h := q_t c6 h
    refine lv_iconst (v := -1) hx hb dX6_names_38 (by decide) ?_
    exact q_rRi hQ hx hb hr hlk h dX6_names_39
  · have h := q_f c6 h
    refine lv_iload_n hx hb dX6_names_14 rfl (lv_at hl 2 rfl) ?_
    refine lv_iconst (v := 0) hx hb dX6_names_15 (by decide) ?_
    refine lv_bipush (v := 11) hx hb dX6_names_16 (by decide) ?_
    obtain ⟨r8, hc7, h⟩ := q_bd1 h
    refine q_cRz (va_runS (As := [.int x2, .int (0 : Int32), .int (11 : Int32)]) (rest := []) ⟨hx, hb, hml, hown, hts⟩ (ct_X6_in l hAD (M := M) hc7) (va_cwS 3 hts gX6_names_X6_in rfl rfl rfl (by decide +kernel) ⟨Nat.le_of_ble_eq_true rfl, Nat.le_of_ble_eq_true rfl⟩) ⟨gw_blind, gw_pre _ hK hP hz hN⟩ rfl rfl hl.1 rfl (lv_room (Nat.le_of_ble_eq_true rfl)) dX6_names_18 ⟨Nat.zero_le _, Nat.zero_le _⟩) (fun hzr8 => ?_)
    refine lv_if_eq (tgt := 38) hx hb dX6_names_21 (by decide) (fun c12 => ?_) (fun c12 => ?_)
    · have h := q_t c12 h
      refine lv_iconst (v := -1) hx hb dX6_names_38 (by decide) ?_
      exact q_rRi hQ hx hb hr hlk h dX6_names_39
    · have h := q_f c12 h
      refine lv_aload_n hx hb dX6_names_24 rfl (lv_at hl 0 rfl) ?_
      refine q_getR hx hb hts hi_X6 hown hK hP ob_35 rfl 6 (by decide) rfl (hts (.fieldLink RX6 23 "MirrorNetModel" "named" "[I") (by decide +kernel)) (fun _ h9 => h9) dX6_names_25 ?_
      refine lv_bipush (v := 12) hx hb dX6_names_28 (by decide) ?_
      refine lv_iload_n hx hb dX6_names_30 rfl (lv_at hl 1 rfl) ?_
      refine lv_imul hx hb dX6_names_31 ?_
      refine lv_iload_n hx hb dX6_names_32 rfl (lv_at hl 2 rfl) ?_
      refine lv_iadd hx hb dX6_names_33 ?_
      obtain ⟨hk13, h⟩ := q_ck h
      refine q_iald hx hb hK hP ar_39 hk13 dX6_names_34 ?_
      refine lv_goto (tgt := 39) hx hb dX6_names_35 (by decide) ?_
      exact q_rRi hQ hx hb hr hlk h dX6_names_39
def rm_X6_state : Room := { frames := 1, cells := 0, slots := 0, locals := 23 }
set_option maxHeartbeats 4000000 in
set_option maxRecDepth 100000 in
theorem ct_X6_state (l : Launch) {D : va_G} {ad : Nat → Nat} {kc : Nat → ClassId} {nm z : Nat} (hAD : AD ad nm z) {M : Mem} {x1 : Int32} {x2 : Int32} {r : Int32}  (h : fn_X6_state M x1 x2 = some r) : Met l yX6_state wsX6_state rm_X6_state (va_Pc [.ref (ad 35), .int x1, .int x2] (GW D ad kc nm z M)) (QRi r) 0 0 (fun _ => False) := by
  refine q_met (cc := cX6_state) (maxL := 5) (ret := (some .int)) (by decide) rfl (Nat.le_of_ble_eq_true rfl) ?_
  intro p e s m args below meth c Q ls hx hb hr hlk hml hown hts hB hQ hl
  obtain ⟨hP, hK, hz, hN⟩ := hB
  have hown : s.vm.findClass RX6 = some m.cls := hown
  have hl : lv_has ls 5 [(0, .ref (ad 35)), (1, .int x1), (2, .int x2)] := hl
  have hi_X6 : ∀ w ∈ u_ws RX6 TX6 40, w ∈ wsX6_state := by decide +kernel
  have L_lq_X6_state_105 : ∀ (n105 : Nat) (x3 : Int32) (x4 : Int32) (ls : Array Slot), it2 (lq_X6_state_105 M x1) n105 x3 x4 = some r → lv_has ls 5 [(0, .ref (ad 35)), (1, .int x1), (3, .int x3), (4, .int x4)] → W p l e rm_X6_state s m args below meth c s.heap [] 0 0 Q (F0 m 105 ls []) := by
    intro n105
    induction n105 with
    | zero =>
      intro x3 x4 ls h hl
      exact (it2_0 h).elim
    | succ n105 ih105 =>
      have B_bk_X6_state_136 : ∀ (x4 : Int32) (sx0 : Int32) (sx1 : Int32) (ls : Array Slot), bk_X6_state_136 (it2 (lq_X6_state_105 M x1) n105) M x1 x4 sx0 sx1 = some r → lv_has ls 5 [(0, .ref (ad 35)), (1, .int x1), (4, .int x4)] → W p l e rm_X6_state s m args below meth c s.heap [] 0 0 Q (F0 m 136 ls [.int sx1, .int sx0]) := by
        intro x4 sx0 sx1 ls h hl
        refine lv_iadd hx hb dX6_state_136 ?_
        refine lv_topi (fun v1 ev1 => ?_)
        have h := q_nxe ev1 h
        refine lv_istore_n (lv' := [(3, .int v1), (0, .ref (ad 35)), (1, .int x1), (4, .int x4)]) hx hb dX6_state_137 rfl hl (by decide) rfl (fun ls hl => ?_)
        obtain ⟨v2, ev2, h⟩ := q_nx h
        refine lv_iinc (v := v2) (lv' := [(4, .int v2), (3, .int v1), (0, .ref (ad 35)), (1, .int x1)]) hx hb dX6_state_138 hl (k := 3) rfl (by rw [ev2]; rfl) (by decide) rfl (fun ls hl => ?_)
        refine lv_goto (tgt := 105) hx hb dX6_state_141 (by decide) ?_
        exact ih105 v1 v2 ls  h (lv_sub hl [2, 3, 1, 0] rfl)
      intro x3 x4 ls h hl
      have h := it2_s h
      refine lv_iload hx hb dX6_state_105 (lv_at hl 3 rfl) ?_
      refine lv_aload_n hx hb dX6_state_107 rfl (lv_at hl 0 rfl) ?_
      refine q_getI hx hb hts hi_X6 hown hK hP ob_35 rfl 1 (by decide) rfl (hts (.fieldLink RX6 96 "MirrorNetModel" "files" "I") (by decide +kernel)) (fun _ h9 => h9) dX6_state_108 ?_
      refine lv_icmp_ge (tgt := 144) hx hb dX6_state_111 (by decide) (fun c3 => ?_) (fun c3 => ?_)
      · have h := q_t c3 h
        refine lv_iload_n hx hb dX6_state_144 rfl (lv_at hl 2 rfl) ?_
        exact q_rRi hQ hx hb hr hlk h dX6_state_145
      · have h := q_f c3 h
        refine lv_iload_n hx hb dX6_state_114 rfl (lv_at hl 2 rfl) ?_
        refine lv_aload_n hx hb dX6_state_115 rfl (lv_at hl 0 rfl) ?_
        refine lv_iload_n hx hb dX6_state_116 rfl (lv_at hl 1 rfl) ?_
        refine lv_iload hx hb dX6_state_117 (lv_at hl 3 rfl) ?_
        obtain ⟨r5, hc4, h⟩ := q_bd1 h
        refine q_cRz (va_runV (C := RX6) (As := [.int x1, .int x4]) (rest := [.int x3]) ⟨hx, hb, hml, hown, hts⟩ (ct_X6_isNamed l hAD (M := M) hc4) (cwV 2 hts gX6_state_X6_isNamed rfl rfl rfl (by decide +kernel) ⟨Nat.le_of_ble_eq_true rfl, Nat.le_of_ble_eq_true rfl⟩) ⟨gw_blind, gw_recv ob_35 hK hP rfl, gw_pre _ hK hP hz hN⟩ rfl rfl hl.1 rfl (lv_room (Nat.le_of_ble_eq_true rfl)) dX6_state_119 ⟨Nat.zero_le _, Nat.zero_le _⟩) (fun hzr5 => ?_)
        refine lv_if_eq (tgt := 135) hx hb dX6_state_122 (by decide) (fun c9 => ?_) (fun c9 => ?_)
        · have h := q_t c9 h
          refine lv_iconst (v := 0) hx hb dX6_state_135 (by decide) ?_
          exact B_bk_X6_state_136 x4 x3 (0 : Int32) ls  h (lv_sub hl [0, 1, 3] rfl)
        · have h := q_f c9 h
          refine lv_aload_n hx hb dX6_state_125 rfl (lv_at hl 0 rfl) ?_
          refine q_getR hx hb hts hi_X6 hown hK hP ob_35 rfl 2 (by decide) rfl (hts (.fieldLink RX6 7 "MirrorNetModel" "size" "[I") (by decide +kernel)) (fun _ h9 => h9) dX6_state_126 ?_
          refine lv_iload hx hb dX6_state_129 (lv_at hl 3 rfl) ?_
          obtain ⟨hk10, h⟩ := q_ck h
          refine q_iald hx hb hK hP ar_36 hk10 dX6_state_131 ?_
          refine lv_goto (tgt := 136) hx hb dX6_state_132 (by decide) ?_
          exact B_bk_X6_state_136 x4 x3 (gI M 36 (ix x4)) ls  h (lv_sub hl [0, 1, 3] rfl)
  have L_lq_X6_state_64 : ∀ (n64 : Nat) (x3 : Int32) (x4 : Int32) (ls : Array Slot), it2 (lq_X6_state_64 M x1) n64 x3 x4 = some r → lv_has ls 5 [(0, .ref (ad 35)), (1, .int x1), (3, .int x3), (4, .int x4)] → W p l e rm_X6_state s m args below meth c s.heap [] 0 0 Q (F0 m 64 ls []) := by
    intro n64
    induction n64 with
    | zero =>
      intro x3 x4 ls h hl
      exact (it2_0 h).elim
    | succ n64 ih64 =>
      have B_bk_X6_state_92 : ∀ (x4 : Int32) (sx0 : Int32) (sx1 : Int32) (ls : Array Slot), bk_X6_state_92 (it2 (lq_X6_state_64 M x1) n64) M x1 x4 sx0 sx1 = some r → lv_has ls 5 [(0, .ref (ad 35)), (1, .int x1), (4, .int x4)] → W p l e rm_X6_state s m args below meth c s.heap [] 0 0 Q (F0 m 92 ls [.int sx1, .int sx0]) := by
        intro x4 sx0 sx1 ls h hl
        refine lv_iadd hx hb dX6_state_92 ?_
        refine lv_topi (fun v11 ev11 => ?_)
        have h := q_nxe ev11 h
        refine lv_istore_n (lv' := [(3, .int v11), (0, .ref (ad 35)), (1, .int x1), (4, .int x4)]) hx hb dX6_state_93 rfl hl (by decide) rfl (fun ls hl => ?_)
        obtain ⟨v12, ev12, h⟩ := q_nx h
        refine lv_iinc (v := v12) (lv' := [(4, .int v12), (3, .int v11), (0, .ref (ad 35)), (1, .int x1)]) hx hb dX6_state_94 hl (k := 3) rfl (by rw [ev12]; rfl) (by decide) rfl (fun ls hl => ?_)
        refine lv_goto (tgt := 64) hx hb dX6_state_97 (by decide) ?_
        exact ih64 v11 v12 ls  h (lv_sub hl [2, 3, 1, 0] rfl)
      intro x3 x4 ls h hl
      have h := it2_s h
      refine lv_iload hx hb dX6_state_64 (lv_at hl 3 rfl) ?_
      refine lv_bipush (v := 12) hx hb dX6_state_66 (by decide) ?_
      refine lv_icmp_ge (tgt := 100) hx hb dX6_state_68 (by decide) (fun c13 => ?_) (fun c13 => ?_)
      · have h := q_t c13 h
        refine lv_iload_n hx hb dX6_state_100 rfl (lv_at hl 2 rfl) ?_
        exact q_rRi hQ hx hb hr hlk h dX6_state_101
      · have h := q_f c13 h
        refine lv_iload_n hx hb dX6_state_71 rfl (lv_at hl 2 rfl) ?_
        refine lv_aload_n hx hb dX6_state_72 rfl (lv_at hl 0 rfl) ?_
        refine q_getR hx hb hts hi_X6 hown hK hP ob_35 rfl 6 (by decide) rfl (hts (.fieldLink RX6 23 "MirrorNetModel" "named" "[I") (by decide +kernel)) (fun _ h9 => h9) dX6_state_73 ?_
        refine lv_bipush (v := 12) hx hb dX6_state_76 (by decide) ?_
        refine lv_iload_n hx hb dX6_state_78 rfl (lv_at hl 1 rfl) ?_
        refine lv_imul hx hb dX6_state_79 ?_
        refine lv_iload hx hb dX6_state_80 (lv_at hl 3 rfl) ?_
        refine lv_iadd hx hb dX6_state_82 ?_
        obtain ⟨hk14, h⟩ := q_ck h
        refine q_iald hx hb hK hP ar_39 hk14 dX6_state_83 ?_
        refine lv_if_lt (tgt := 91) hx hb dX6_state_84 (by decide) (fun c15 => ?_) (fun c15 => ?_)
        · have h := q_t c15 h
          refine lv_iconst (v := 0) hx hb dX6_state_91 (by decide) ?_
          exact B_bk_X6_state_92 x4 x3 (0 : Int32) ls  h (lv_sub hl [0, 1, 3] rfl)
        · have h := q_f c15 h
          refine lv_iconst (v := 1) hx hb dX6_state_87 (by decide) ?_
          refine lv_goto (tgt := 92) hx hb dX6_state_88 (by decide) ?_
          exact B_bk_X6_state_92 x4 x3 (1 : Int32) ls  h (lv_sub hl [0, 1, 3] rfl)
  refine lv_iload_n hx hb dX6_state_0 rfl (lv_at hl 1 rfl) ?_
  refine lv_iconst (v := 0) hx hb dX6_state_1 (by decide) ?_
  refine lv_aload_n hx hb dX6_state_2 rfl (lv_at hl 0 rfl) ?_
  refine q_getI hx hb hts hi_X6 hown hK hP ob_35 rfl 4 (by decide) rfl (hts (.fieldLink RX6 16 "MirrorNetModel" "states" "I") (by decide +kernel)) (fun _ h9 => h9) dX6_state_3 ?_
  refine lv_iconst (v := 1) hx hb dX6_state_6 (by decide) ?_
  refine lv_isub hx hb dX6_state_7 ?_
  obtain ⟨r17, hc16, h⟩ := q_bd1 h
  refine q_cRz (va_runS (As := [.int x1, .int (0 : Int32), .int ((gI M 35 4) - (1 : Int32))]) (rest := []) ⟨hx, hb, hml, hown, hts⟩ (ct_X6_in l hAD (M := M) hc16) (va_cwS 3 hts gX6_state_X6_in rfl rfl rfl (by decide +kernel) ⟨Nat.le_of_ble_eq_true rfl, Nat.le_of_ble_eq_true rfl⟩) ⟨gw_blind, gw_pre _ hK hP hz hN⟩ rfl rfl hl.1 rfl (lv_room (Nat.le_of_ble_eq_true rfl)) dX6_state_8 ⟨Nat.zero_le _, Nat.zero_le _⟩) (fun hzr17 => ?_)
  refine lv_if_ne (tgt := 16) hx hb dX6_state_11 (by decide) (fun c21 => ?_) (fun c21 => ?_)
  · have h := q_f c21 h
    refine lv_iconst (v := 0) hx hb dX6_state_16 (by decide) ?_
    refine lv_istore_n (lv' := [(3, .int (0 : Int32)), (0, .ref (ad 35)), (1, .int x1), (2, .int x2)]) hx hb dX6_state_17 rfl hl (by decide) rfl (fun ls hl => ?_)
    refine lv_iload_n hx hb dX6_state_18 rfl (lv_at hl 3 rfl) ?_
    by_cases c22 : x2 = (0 : Int32)
    · have h := q_t c22 h
      refine lv_tableIn (off := 29) (tgt := 48) hx hb dX6_state_19 (by rw [c22]; decide) (by rw [c22]; decide) (by rw [c22]; rfl) (by decide) ?_
      refine lv_aload_n hx hb dX6_state_48 rfl (lv_at hl 1 rfl) ?_
      refine q_getR hx hb hts hi_X6 hown hK hP ob_35 rfl 5 (by decide) rfl (hts (.fieldLink RX6 20 "MirrorNetModel" "stateTick" "[I") (by decide +kernel)) (fun _ h9 => h9) dX6_state_49 ?_
      refine lv_iload_n hx hb dX6_state_52 rfl (lv_at hl 2 rfl) ?_
      obtain ⟨hk23, h⟩ := q_ck h
      refine q_iald hx hb hK hP ar_38 hk23 dX6_state_53 ?_
      exact q_rRi hQ hx hb hr hlk h dX6_state_54
    have h := q_f c22 h
    by_cases c24 : x2 = (1 : Int32)
    · have h := q_t c24 h
      refine lv_tableIn (off := 36) (tgt := 55) hx hb dX6_state_19 (by rw [c24]; decide) (by rw [c24]; decide) (by rw [c24]; rfl) (by decide) ?_
      refine lv_aload_n hx hb dX6_state_55 rfl (lv_at hl 1 rfl) ?_
      refine lv_iload_n hx hb dX6_state_56 rfl (lv_at hl 2 rfl) ?_
      obtain ⟨r26, hc25, h⟩ := q_bd1 h
      refine q_cRi (va_runV (C := RX6) (As := [.int x1]) (rest := []) ⟨hx, hb, hml, hown, hts⟩ (ct_X6_ageOf l hAD (M := M) hc25) (cwV 1 hts gX6_state_X6_ageOf rfl rfl rfl (by decide +kernel) ⟨Nat.le_of_ble_eq_true rfl, Nat.le_of_ble_eq_true rfl⟩) ⟨gw_blind, gw_recv ob_35 hK hP rfl, gw_pre _ hK hP hz hN⟩ rfl rfl hl.1 rfl (lv_room (Nat.le_of_ble_eq_true rfl)) dX6_state_57 ⟨Nat.zero_le _, Nat.zero_le _⟩) ?_
      exact q_rRi hQ hx hb hr hlk h dX6_state_60
    have h := q_f c24 h
    by_cases c30 : x2 = (2 : Int32)
    · have h := q_t c30 h
      refine lv_tableIn (off := 42) (tgt := 61) hx hb dX6_state_19 (by rw [c30]; decide) (by rw [c30]; decide) (by rw [c30]; rfl) (by decide) ?_
      refine lv_iconst (v := 0) hx hb dX6_state_61 (by decide) ?_
      refine lv_istore (lv' := [(4, .int (0 : Int32)), (3, .int (0 : Int32)), (0, .ref (ad 35)), (1, .int x1), (2, .int x2)]) hx hb dX6_state_62 hl (by decide) rfl (fun ls hl => ?_)
      exact L_lq_X6_state_64 FU (0 : Int32) (0 : Int32) ls  h (lv_sub hl [2, 3, 1, 0] rfl)
    have h := q_f c30 h
    by_cases c31 : x2 = (3 : Int32)
    · have h := q_t c31 h
      refine lv_tableIn (off := 83) (tgt := 102) hx hb dX6_state_19 (by rw [c31]; decide) (by rw [c31]; decide) (by rw [c31]; rfl) (by decide) ?_
      refine lv_iconst (v := 0) hx hb dX6_state_102 (by decide) ?_
      refine lv_istore (lv' := [(4, .int (0 : Int32)), (3, .int (0 : Int32)), (0, .ref (ad 35)), (1, .int x1), (2, .int x2)]) hx hb dX6_state_103 hl (by decide) rfl (fun ls hl => ?_)
      exact L_lq_X6_state_105 FU (0 : Int32) (0 : Int32) ls  h (lv_sub hl [2, 3, 1, 0] rfl)
    have h := q_f c31 h
    refine lv_tableOut (tgt := 146) hx hb dX6_state_19 (by have z0 := lv_neT c22 (a := 0) rfl; have z1 := lv_neT c24 (a := 1) rfl; have z2 := lv_neT c30 (a := 2) rfl; have z3 := lv_neT c31 (a := 3) rfl; omega) (by decide) ?_
    refine lv_iconst (v := -1) hx hb dX6_state_146 (by decide) ?_
    exact q_rRi hQ hx hb hr hlk h dX6_state_147
  · have h := q_t c21 h
    refine lv_iconst (v := -1) hx hb dX6_state_14 (by decide) ?_
    exact q_rRi hQ hx hb hr hlk h dX6_state_15
def rm_X6_about : Room := { frames := 2, cells := 0, slots := 0, locals := 43 }
set_option maxHeartbeats 4000000 in
set_option maxRecDepth 100000 in
theorem ct_X6_about (l : Launch) {D : va_G} {ad : Nat → Nat} {kc : Nat → ClassId} {nm z : Nat} (hAD : AD ad nm z) {M : Mem} {x1 : Int32} {x2 : Int32} {r : Int32}  (h : fn_X6_about M x1 x2 = some r) : Met l yX6_about wsX6_about rm_X6_about (va_Pc [.ref (ad 35), .int x1, .int x2] (GW D ad kc nm z M)) (QRi r) 0 0 (fun _ => False) := by
  refine q_met (cc := cX6_about) (maxL := 8) (ret := (some .int)) (by decide) rfl (Nat.le_of_ble_eq_true rfl) ?_
  intro p e s m args below meth c Q ls hx hb hr hlk hml hown hts hB hQ hl
  obtain ⟨hP, hK, hz, hN⟩ := hB
  have hown : s.vm.findClass RX6 = some m.cls := hown
  have hl : lv_has ls 8 [(0, .ref (ad 35)), (1, .int x1), (2, .int x2)] := hl
  have hi_X6 : ∀ w ∈ u_ws RX6 TX6 40, w ∈ wsX6_about := by decide +kernel
  have L_lq_X6_about_27 : ∀ (n27 : Nat) (x3 : Int32) (x4 : Int32) (x5 : Int32) (x6 : Int32) (ls : Array Slot), it4 (lq_X6_about_27 M x1 x2) n27 x3 x4 x5 x6 = some r → lv_has ls 8 [(0, .ref (ad 35)), (1, .int x1), (2, .int x2), (3, .int x3), (4, .int x4), (5, .int x5), (6, .int x6)] → W p l e rm_X6_about s m args below meth c s.heap [] 0 0 Q (F0 m 27 ls []) := by
    intro n27
    induction n27 with
    | zero =>
      intro x3 x4 x5 x6 ls h hl
      exact (it4_0 h).elim
    | succ n27 ih27 =>
      have B_bk_X6_about_127 : ∀ (x3 : Int32) (x4 : Int32) (x6 : Int32) (sx0 : Int32) (sx1 : Int32) (ls : Array Slot), bk_X6_about_127 (it4 (lq_X6_about_27 M x1 x2) n27) M x1 x2 x3 x4 x6 sx0 sx1 = some r → lv_has ls 8 [(0, .ref (ad 35)), (1, .int x1), (2, .int x2), (3, .int x3), (4, .int x4), (6, .int x6)] → W p l e rm_X6_about s m args below meth c s.heap [] 0 0 Q (F0 m 127 ls [.int sx1, .int sx0]) := by
        intro x3 x4 x6 sx0 sx1 ls h hl
        refine lv_iadd hx hb dX6_about_127 ?_
        refine lv_topi (fun v1 ev1 => ?_)
        have h := q_nxe ev1 h
        refine lv_istore (lv' := [(5, .int v1), (0, .ref (ad 35)), (1, .int x1), (2, .int x2), (3, .int x3), (4, .int x4), (6, .int x6)]) hx hb dX6_about_128 hl (by decide) rfl (fun ls hl => ?_)
        obtain ⟨v2, ev2, h⟩ := q_nx h
        refine lv_iinc (v := v2) (lv' := [(6, .int v2), (5, .int v1), (0, .ref (ad 35)), (1, .int x1), (2, .int x2), (3, .int x3), (4, .int x4)]) hx hb dX6_about_130 hl (k := 6) rfl (by rw [ev2]; rfl) (by decide) rfl (fun ls hl => ?_)
        refine lv_goto (tgt := 27) hx hb dX6_about_133 (by decide) ?_
        exact ih27 x3 x4 v1 v2 ls  h (lv_sub hl [2, 3, 4, 5, 6, 1, 0] rfl)
      have B_bk_X6_about_126 : ∀ (x3 : Int32) (x4 : Int32) (x6 : Int32) (sx0 : Int32) (ls : Array Slot), bk_X6_about_126 (it4 (lq_X6_about_27 M x1 x2) n27) M x1 x2 x3 x4 x6 sx0 = some r → lv_has ls 8 [(0, .ref (ad 35)), (1, .int x1), (2, .int x2), (3, .int x3), (4, .int x4), (6, .int x6)] → W p l e rm_X6_about s m args below meth c s.heap [] 0 0 Q (F0 m 126 ls [.int sx0]) := by
        intro x3 x4 x6 sx0 ls h hl
        refine lv_iconst (v := 0) hx hb dX6_about_126 (by decide) ?_
        exact B_bk_X6_about_127 x3 x4 x6 sx0 (0 : Int32) ls  h (lv_sub hl [0, 1, 2, 3, 4, 5] rfl)
      have B_bk_X6_about_81 : ∀ (x3 : Int32) (x5 : Int32) (x6 : Int32) (x7 : Int32) (sx0 : Int32) (sx1 : Int32) (ls : Array Slot), bk_X6_about_81 (it4 (lq_X6_about_27 M x1 x2) n27) M x1 x2 x3 x5 x6 x7 sx0 sx1 = some r → lv_has ls 8 [(0, .ref (ad 35)), (1, .int x1), (2, .int x2), (3, .int x3), (5, .int x5), (6, .int x6), (7, .int x7)] → W p l e rm_X6_about s m args below meth c s.heap [] 0 0 Q (F0 m 81 ls [.int sx1, .int sx0]) := by
        intro x3 x5 x6 x7 sx0 sx1 ls h hl
        refine lv_iadd hx hb dX6_about_81 ?_
        refine lv_topi (fun v3 ev3 => ?_)
        have h := q_nxe ev3 h
        refine lv_istore (lv' := [(4, .int v3), (0, .ref (ad 35)), (1, .int x1), (2, .int x2), (3, .int x3), (5, .int x5), (6, .int x6), (7, .int x7)]) hx hb dX6_about_82 hl (by decide) rfl (fun ls hl => ?_)
        refine lv_iload hx hb dX6_about_84 (lv_at hl 5 rfl) ?_
        refine lv_iload hx hb dX6_about_86 (lv_at hl 7 rfl) ?_
        refine lv_if_ne (tgt := 126) hx hb dX6_about_88 (by decide) (fun c4 => ?_) (fun c4 => ?_)
        · have h := q_f c4 h
          exact B_bk_X6_about_126 x3 v3 x6 x5 ls  h (lv_sub hl [1, 2, 3, 4, 0, 6] rfl)
        · have h := q_t c4 h
          refine lv_aload_n hx hb dX6_about_91 rfl (lv_at hl 1 rfl) ?_
          refine q_getR hx hb hts hi_X6 hown hK hP ob_35 rfl 12 (by decide) rfl (hts (.fieldLink RX6 38 "MirrorNetModel" "target" "[I") (by decide +kernel)) (fun _ h9 => h9) dX6_about_92 ?_
          refine lv_iload_n hx hb dX6_about_95 rfl (lv_at hl 2 rfl) ?_
          obtain ⟨hk5, h⟩ := q_ck h
          refine q_iald hx hb hK hP ar_44 hk5 dX6_about_96 ?_
          refine lv_iconst (v := -1) hx hb dX6_about_97 (by decide) ?_
          refine lv_icmp_eq (tgt := 126) hx hb dX6_about_98 (by decide) (fun c6 => ?_) (fun c6 => ?_)
          · have h := q_t c6 h
            exact B_bk_X6_about_126 x3 v3 x6 x5 ls  h (lv_sub hl [1, 2, 3, 4, 0, 6] rfl)
          · have h := q_f c6 h
            refine lv_aload_n hx hb dX6_about_101 rfl (lv_at hl 1 rfl) ?_
            refine lv_aload_n hx hb dX6_about_102 rfl (lv_at hl 1 rfl) ?_
            refine q_getR hx hb hts hi_X6 hown hK hP ob_35 rfl 12 (by decide) rfl (hts (.fieldLink RX6 38 "MirrorNetModel" "target" "[I") (by decide +kernel)) (fun _ h9 => h9) dX6_about_103 ?_
            refine lv_iload_n hx hb dX6_about_106 rfl (lv_at hl 2 rfl) ?_
            obtain ⟨hk7, h⟩ := q_ck h
            refine q_iald hx hb hK hP ar_44 hk7 dX6_about_107 ?_
            refine lv_iload hx hb dX6_about_108 (lv_at hl 6 rfl) ?_
            obtain ⟨r9, hc8, h⟩ := q_bd1 h
            refine q_cRz (va_runV (C := RX6) (As := [.int (gI M 44 (ix x1)), .int x6]) (rest := [.int x5]) ⟨hx, hb, hml, hown, hts⟩ (ct_X6_isNamed l hAD (M := M) hc8) (cwV 2 hts gX6_about_X6_isNamed rfl rfl rfl (by decide +kernel) ⟨Nat.le_of_ble_eq_true rfl, Nat.le_of_ble_eq_true rfl⟩) ⟨gw_blind, gw_recv ob_35 hK hP rfl, gw_pre _ hK hP hz hN⟩ rfl rfl hl.1 rfl (lv_room (Nat.le_of_ble_eq_true rfl)) dX6_about_110 ⟨Nat.zero_le _, Nat.zero_le _⟩) (fun hzr9 => ?_)
            refine lv_if_eq (tgt := 126) hx hb dX6_about_113 (by decide) (fun c13 => ?_) (fun c13 => ?_)
            · have h := q_t c13 h
              exact B_bk_X6_about_126 x3 v3 x6 x5 ls  h (lv_sub hl [1, 2, 3, 4, 0, 6] rfl)
            · have h := q_f c13 h
              refine lv_aload_n hx hb dX6_about_116 rfl (lv_at hl 1 rfl) ?_
              refine q_getR hx hb hts hi_X6 hown hK hP ob_35 rfl 2 (by decide) rfl (hts (.fieldLink RX6 7 "MirrorNetModel" "size" "[I") (by decide +kernel)) (fun _ h9 => h9) dX6_about_117 ?_
              refine lv_iload hx hb dX6_about_120 (lv_at hl 6 rfl) ?_
              obtain ⟨hk14, h⟩ := q_ck h
              refine q_iald hx hb hK hP ar_36 hk14 dX6_about_122 ?_
              refine lv_goto (tgt := 127) hx hb dX6_about_123 (by decide) ?_
              exact B_bk_X6_about_127 x3 v3 x6 x5 (gI M 36 (ix x6)) ls  h (lv_sub hl [1, 2, 3, 4, 0, 6] rfl)
      have B_bk_X6_about_61 : ∀ (x4 : Int32) (x5 : Int32) (x6 : Int32) (x7 : Int32) (sx0 : Int32) (sx1 : Int32) (ls : Array Slot), bk_X6_about_61 (it4 (lq_X6_about_27 M x1 x2) n27) M x1 x2 x4 x5 x6 x7 sx0 sx1 = some r → lv_has ls 8 [(0, .ref (ad 35)), (1, .int x1), (2, .int x2), (4, .int x4), (5, .int x5), (6, .int x6), (7, .int x7)] → W p l e rm_X6_about s m args below meth c s.heap [] 0 0 Q (F0 m 61 ls [.int sx1, .int sx0]) := by
        intro x4 x5 x6 x7 sx0 sx1 ls h hl
        refine lv_iadd hx hb dX6_about_61 ?_
        refine lv_topi (fun v15 ev15 => ?_)
        have h := q_nxe ev15 h
        refine lv_istore_n (lv' := [(3, .int v15), (0, .ref (ad 35)), (1, .int x1), (2, .int x2), (4, .int x4), (5, .int x5), (6, .int x6), (7, .int x7)]) hx hb dX6_about_62 rfl hl (by decide) rfl (fun ls hl => ?_)
        refine lv_iload hx hb dX6_about_63 (lv_at hl 4 rfl) ?_
        refine lv_iload hx hb dX6_about_65 (lv_at hl 7 rfl) ?_
        refine lv_if_eq (tgt := 80) hx hb dX6_about_67 (by decide) (fun c16 => ?_) (fun c16 => ?_)
        · have h := q_t c16 h
          refine lv_iconst (v := 0) hx hb dX6_about_80 (by decide) ?_
          exact B_bk_X6_about_81 v15 x5 x6 x7 x4 (0 : Int32) ls  h (lv_sub hl [1, 2, 3, 0, 5, 6, 7] rfl)
        · have h := q_f c16 h
          refine lv_aload_n hx hb dX6_about_70 rfl (lv_at hl 1 rfl) ?_
          refine q_getR hx hb hts hi_X6 hown hK hP ob_35 rfl 2 (by decide) rfl (hts (.fieldLink RX6 7 "MirrorNetModel" "size" "[I") (by decide +kernel)) (fun _ h9 => h9) dX6_about_71 ?_
          refine lv_iload hx hb dX6_about_74 (lv_at hl 6 rfl) ?_
          obtain ⟨hk17, h⟩ := q_ck h
          refine q_iald hx hb hK hP ar_36 hk17 dX6_about_76 ?_
          refine lv_goto (tgt := 81) hx hb dX6_about_77 (by decide) ?_
          exact B_bk_X6_about_81 v15 x5 x6 x7 x4 (gI M 36 (ix x6)) ls  h (lv_sub hl [1, 2, 3, 0, 5, 6, 7] rfl)
      intro x3 x4 x5 x6 ls h hl
      have h := it4_s h
      refine lv_iload hx hb dX6_about_27 (lv_at hl 6 rfl) ?_
      refine lv_aload_n hx hb dX6_about_29 rfl (lv_at hl 0 rfl) ?_
      refine q_getI hx hb hts hi_X6 hown hK hP ob_35 rfl 1 (by decide) rfl (hts (.fieldLink RX6 96 "MirrorNetModel" "files" "I") (by decide +kernel)) (fun _ h9 => h9) dX6_about_30 ?_
      refine lv_icmp_ge (tgt := 136) hx hb dX6_about_33 (by decide) (fun c18 => ?_) (fun c18 => ?_)
      · have h := q_t c18 h
        refine lv_iload_n hx hb dX6_about_136 rfl (lv_at hl 2 rfl) ?_
        by_cases c19 : x2 = (0 : Int32)
        · have h := q_t c19 h
          refine lv_tableIn (off := 51) (tgt := 188) hx hb dX6_about_137 (by rw [c19]; decide) (by rw [c19]; decide) (by rw [c19]; rfl) (by decide) ?_
          refine lv_aload_n hx hb dX6_about_188 rfl (lv_at hl 0 rfl) ?_
          refine q_getR hx hb hts hi_X6 hown hK hP ob_35 rfl 11 (by decide) rfl (hts (.fieldLink RX6 35 "MirrorNetModel" "index" "[I") (by decide +kernel)) (fun _ h9 => h9) dX6_about_189 ?_
          refine lv_iload_n hx hb dX6_about_192 rfl (lv_at hl 1 rfl) ?_
          obtain ⟨hk20, h⟩ := q_ck h
          refine q_iald hx hb hK hP ar_43 hk20 dX6_about_193 ?_
          exact q_rRi hQ hx hb hr hlk h dX6_about_194
        have h := q_f c19 h
        by_cases c21 : x2 = (1 : Int32)
        · have h := q_t c21 h
          refine lv_tableIn (off := 58) (tgt := 195) hx hb dX6_about_137 (by rw [c21]; decide) (by rw [c21]; decide) (by rw [c21]; rfl) (by decide) ?_
          refine lv_aload_n hx hb dX6_about_195 rfl (lv_at hl 0 rfl) ?_
          refine q_getR hx hb hts hi_X6 hown hK hP ob_35 rfl 12 (by decide) rfl (hts (.fieldLink RX6 38 "MirrorNetModel" "target" "[I") (by decide +kernel)) (fun _ h9 => h9) dX6_about_196 ?_
          refine lv_iload_n hx hb dX6_about_199 rfl (lv_at hl 1 rfl) ?_
          obtain ⟨hk22, h⟩ := q_ck h
          refine q_iald hx hb hK hP ar_44 hk22 dX6_about_200 ?_
          exact q_rRi hQ hx hb hr hlk h dX6_about_201
        have h := q_f c21 h
        by_cases c23 : x2 = (2 : Int32)
        · have h := q_t c23 h
          refine lv_tableIn (off := 65) (tgt := 202) hx hb dX6_about_137 (by rw [c23]; decide) (by rw [c23]; decide) (by rw [c23]; rfl) (by decide) ?_
          refine lv_iload_n hx hb dX6_about_202 rfl (lv_at hl 3 rfl) ?_
          exact q_rRi hQ hx hb hr hlk h dX6_about_203
        have h := q_f c23 h
        by_cases c24 : x2 = (3 : Int32)
        · have h := q_t c24 h
          refine lv_tableIn (off := 67) (tgt := 204) hx hb dX6_about_137 (by rw [c24]; decide) (by rw [c24]; decide) (by rw [c24]; rfl) (by decide) ?_
          refine lv_iload hx hb dX6_about_204 (lv_at hl 4 rfl) ?_
          exact q_rRi hQ hx hb hr hlk h dX6_about_206
        have h := q_f c24 h
        by_cases c25 : x2 = (4 : Int32)
        · have h := q_t c25 h
          refine lv_tableIn (off := 70) (tgt := 207) hx hb dX6_about_137 (by rw [c25]; decide) (by rw [c25]; decide) (by rw [c25]; rfl) (by decide) ?_
          refine lv_aload_n hx hb dX6_about_207 rfl (lv_at hl 0 rfl) ?_
          refine q_getR hx hb hts hi_X6 hown hK hP ob_35 rfl 13 (by decide) rfl (hts (.fieldLink RX6 41 "MirrorNetModel" "done" "[I") (by decide +kernel)) (fun _ h9 => h9) dX6_about_208 ?_
          refine lv_iload_n hx hb dX6_about_211 rfl (lv_at hl 1 rfl) ?_
          obtain ⟨hk26, h⟩ := q_ck h
          refine q_iald hx hb hK hP ar_45 hk26 dX6_about_212 ?_
          exact q_rRi hQ hx hb hr hlk h dX6_about_213
        have h := q_f c25 h
        by_cases c27 : x2 = (5 : Int32)
        · have h := q_t c27 h
          refine lv_tableIn (off := 77) (tgt := 214) hx hb dX6_about_137 (by rw [c27]; decide) (by rw [c27]; decide) (by rw [c27]; rfl) (by decide) ?_
          refine lv_aload_n hx hb dX6_about_214 rfl (lv_at hl 0 rfl) ?_
          refine q_getR hx hb hts hi_X6 hown hK hP ob_35 rfl 14 (by decide) rfl (hts (.fieldLink RX6 44 "MirrorNetModel" "taken" "[I") (by decide +kernel)) (fun _ h9 => h9) dX6_about_215 ?_
          refine lv_iload_n hx hb dX6_about_218 rfl (lv_at hl 1 rfl) ?_
          obtain ⟨hk28, h⟩ := q_ck h
          refine q_iald hx hb hK hP ar_46 hk28 dX6_about_219 ?_
          exact q_rRi hQ hx hb hr hlk h dX6_about_220
        have h := q_f c27 h
        by_cases c29 : x2 = (6 : Int32)
        · have h := q_t c29 h
          refine lv_tableIn (off := 84) (tgt := 221) hx hb dX6_about_137 (by rw [c29]; decide) (by rw [c29]; decide) (by rw [c29]; rfl) (by decide) ?_
          refine lv_aload_n hx hb dX6_about_221 rfl (lv_at hl 0 rfl) ?_
          refine lv_iload_n hx hb dX6_about_222 rfl (lv_at hl 1 rfl) ?_
          obtain ⟨r31, hc30, h⟩ := q_bd1 h
          refine q_cRz (va_runV (C := RX6) (As := [.int x1]) (rest := []) ⟨hx, hb, hml, hown, hts⟩ (ct_X6_isFallen l hAD (M := M) hc30) (cwV 1 hts gX6_about_X6_isFallen rfl rfl rfl (by decide +kernel) ⟨Nat.le_of_ble_eq_true rfl, Nat.le_of_ble_eq_true rfl⟩) ⟨gw_blind, gw_recv ob_35 hK hP rfl, gw_pre _ hK hP hz hN⟩ rfl rfl hl.1 rfl (lv_room (Nat.le_of_ble_eq_true rfl)) dX6_about_223 ⟨Nat.zero_le _, Nat.zero_le _⟩) (fun hzr31 => ?_)
          refine lv_if_eq (tgt := 233) hx hb dX6_about_226 (by decide) (fun c35 => ?_) (fun c35 => ?_)
          · have h := q_t c35 h
            refine lv_iconst (v := 0) hx hb dX6_about_233 (by decide) ?_
            exact q_rRi hQ hx hb hr hlk h dX6_about_234
          · have h := q_f c35 h
            refine lv_iconst (v := 1) hx hb dX6_about_229 (by decide) ?_
            refine lv_goto (tgt := 234) hx hb dX6_about_230 (by decide) ?_
            exact q_rRi hQ hx hb hr hlk h dX6_about_234
        have h := q_f c29 h
        by_cases c36 : x2 = (7 : Int32)
        · have h := q_t c36 h
          refine lv_tableIn (off := 98) (tgt := 235) hx hb dX6_about_137 (by rw [c36]; decide) (by rw [c36]; decide) (by rw [c36]; rfl) (by decide) ?_
          refine lv_aload_n hx hb dX6_about_235 rfl (lv_at hl 0 rfl) ?_
          refine q_getR hx hb hts hi_X6 hown hK hP ob_35 rfl 15 (by decide) rfl (hts (.fieldLink RX6 47 "MirrorNetModel" "isLying" "[Z") (by decide +kernel)) (fun _ h9 => h9) dX6_about_236 ?_
          refine lv_iload_n hx hb dX6_about_239 rfl (lv_at hl 1 rfl) ?_
          obtain ⟨hk37, h⟩ := q_ck h
          refine q_zald hx hb hK hP ar_47 hk37 dX6_about_240 ?_
          refine lv_if_eq (tgt := 248) hx hb dX6_about_241 (by decide) (fun c38 => ?_) (fun c38 => ?_)
          · have h := q_t c38 h
            refine lv_iconst (v := 0) hx hb dX6_about_248 (by decide) ?_
            exact q_rRi hQ hx hb hr hlk h dX6_about_249
          · have h := q_f c38 h
            refine lv_iconst (v := 1) hx hb dX6_about_244 (by decide) ?_
            refine lv_goto (tgt := 249) hx hb dX6_about_245 (by decide) ?_
            exact q_rRi hQ hx hb hr hlk h dX6_about_249
        have h := q_f c36 h
        by_cases c39 : x2 = (8 : Int32)
        · have h := q_t c39 h
          refine lv_tableIn (off := 113) (tgt := 250) hx hb dX6_about_137 (by rw [c39]; decide) (by rw [c39]; decide) (by rw [c39]; rfl) (by decide) ?_
          refine lv_aload_n hx hb dX6_about_250 rfl (lv_at hl 0 rfl) ?_
          refine q_getR hx hb hts hi_X6 hown hK hP ob_35 rfl 12 (by decide) rfl (hts (.fieldLink RX6 38 "MirrorNetModel" "target" "[I") (by decide +kernel)) (fun _ h9 => h9) dX6_about_251 ?_
          refine lv_iload_n hx hb dX6_about_254 rfl (lv_at hl 1 rfl) ?_
          obtain ⟨hk40, h⟩ := q_ck h
          refine q_iald hx hb hK hP ar_44 hk40 dX6_about_255 ?_
          refine lv_iconst (v := -1) hx hb dX6_about_256 (by decide) ?_
          refine lv_icmp_ne (tgt := 264) hx hb dX6_about_257 (by decide) (fun c41 => ?_) (fun c41 => ?_)
          · have h := q_f c41 h
            refine lv_iload hx hb dX6_about_264 (lv_at hl 5 rfl) ?_
            exact q_rRi hQ hx hb hr hlk h dX6_about_266
          · have h := q_t c41 h
            refine lv_iconst (v := -1) hx hb dX6_about_260 (by decide) ?_
            refine lv_goto (tgt := 266) hx hb dX6_about_261 (by decide) ?_
            exact q_rRi hQ hx hb hr hlk h dX6_about_266
        have h := q_f c39 h
        refine lv_tableOut (tgt := 267) hx hb dX6_about_137 (by have z0 := lv_neT c19 (a := 0) rfl; have z1 := lv_neT c21 (a := 1) rfl; have z2 := lv_neT c23 (a := 2) rfl; have z3 := lv_neT c24 (a := 3) rfl; have z4 := lv_neT c25 (a := 4) rfl; have z5 := lv_neT c27 (a := 5) rfl; have z6 := lv_neT c29 (a := 6) rfl; have z7 := lv_neT c36 (a := 7) rfl; have z8 := lv_neT c39 (a := 8) rfl; omega) (by decide) ?_
        refine lv_iconst (v := -1) hx hb dX6_about_267 (by decide) ?_
        exact q_rRi hQ hx hb hr hlk h dX6_about_268
      · have h := q_f c18 h
        refine lv_aload_n hx hb dX6_about_36 rfl (lv_at hl 0 rfl) ?_
        refine q_getR hx hb hts hi_X6 hown hK hP ob_35 rfl 16 (by decide) rfl (hts (.fieldLink RX6 51 "MirrorNetModel" "hasFile" "[Z") (by decide +kernel)) (fun _ h9 => h9) dX6_about_37 ?_
        refine lv_bipush (v := 60) hx hb dX6_about_40 (by decide) ?_
        refine lv_iload_n hx hb dX6_about_42 rfl (lv_at hl 1 rfl) ?_
        refine lv_imul hx hb dX6_about_43 ?_
        refine lv_iload hx hb dX6_about_44 (lv_at hl 6 rfl) ?_
        refine lv_iadd hx hb dX6_about_46 ?_
        obtain ⟨hk42, h⟩ := q_ck h
        refine q_zald hx hb hK hP ar_48 hk42 dX6_about_47 ?_
        refine lv_topi (fun v43 ev43 => ?_)
        have h := q_nxe ev43 h
        refine lv_istore (lv' := [(7, .int v43), (0, .ref (ad 35)), (1, .int x1), (2, .int x2), (3, .int x3), (4, .int x4), (5, .int x5), (6, .int x6)]) hx hb dX6_about_48 hl (by decide) rfl (fun ls hl => ?_)
        refine lv_iload_n hx hb dX6_about_50 rfl (lv_at hl 4 rfl) ?_
        refine lv_iload hx hb dX6_about_51 (lv_at hl 0 rfl) ?_
        refine lv_if_eq (tgt := 60) hx hb dX6_about_53 (by decide) (fun c44 => ?_) (fun c44 => ?_)
        · have h := q_t c44 h
          refine lv_iconst (v := 0) hx hb dX6_about_60 (by decide) ?_
          exact B_bk_X6_about_61 x4 x5 x6 v43 x3 (0 : Int32) ls  h (lv_sub hl [1, 2, 3, 5, 6, 7, 0] rfl)
        · have h := q_f c44 h
          refine lv_iconst (v := 1) hx hb dX6_about_56 (by decide) ?_
          refine lv_goto (tgt := 61) hx hb dX6_about_57 (by decide) ?_
          exact B_bk_X6_about_61 x4 x5 x6 v43 x3 (1 : Int32) ls  h (lv_sub hl [1, 2, 3, 5, 6, 7, 0] rfl)
  refine lv_aload_n hx hb dX6_about_0 rfl (lv_at hl 0 rfl) ?_
  refine lv_iload_n hx hb dX6_about_1 rfl (lv_at hl 1 rfl) ?_
  obtain ⟨r46, hc45, h⟩ := q_bd1 h
  refine q_cRz (va_runV (C := RX6) (As := [.int x1]) (rest := []) ⟨hx, hb, hml, hown, hts⟩ (ct_X6_isMirror l hAD (M := M) hc45) (cwV 1 hts gX6_about_X6_isMirror rfl rfl rfl (by decide +kernel) ⟨Nat.le_of_ble_eq_true rfl, Nat.le_of_ble_eq_true rfl⟩) ⟨gw_blind, gw_recv ob_35 hK hP rfl, gw_pre _ hK hP hz hN⟩ rfl rfl hl.1 rfl (lv_room (Nat.le_of_ble_eq_true rfl)) dX6_about_2 ⟨Nat.zero_le _, Nat.zero_le _⟩) (fun hzr46 => ?_)
  refine lv_if_ne (tgt := 10) hx hb dX6_about_5 (by decide) (fun c50 => ?_) (fun c50 => ?_)
  · have h := q_f c50 h
    refine lv_iconst (v := 0) hx hb dX6_about_10 (by decide) ?_
    refine lv_istore_n (lv' := [(3, .int (0 : Int32)), (0, .ref (ad 35)), (1, .int x1), (2, .int x2)]) hx hb dX6_about_11 rfl hl (by decide) rfl (fun ls hl => ?_)
    refine lv_iconst (v := 0) hx hb dX6_about_12 (by decide) ?_
    refine lv_istore (lv' := [(4, .int (0 : Int32)), (3, .int (0 : Int32)), (0, .ref (ad 35)), (1, .int x1), (2, .int x2)]) hx hb dX6_about_13 hl (by decide) rfl (fun ls hl => ?_)
    refine lv_aload_n hx hb dX6_about_15 rfl (lv_at hl 2 rfl) ?_
    refine q_getR hx hb hts hi_X6 hown hK hP ob_35 rfl 13 (by decide) rfl (hts (.fieldLink RX6 41 "MirrorNetModel" "done" "[I") (by decide +kernel)) (fun _ h9 => h9) dX6_about_16 ?_
    refine lv_iload_n hx hb dX6_about_19 rfl (lv_at hl 3 rfl) ?_
    obtain ⟨hk51, h⟩ := q_ck h
    refine q_iald hx hb hK hP ar_45 hk51 dX6_about_20 ?_
    refine lv_ineg hx hb dX6_about_21 ?_
    refine lv_topi (fun v52 ev52 => ?_)
    have h := q_nxe ev52 h
    refine lv_istore (lv' := [(5, .int v52), (4, .int (0 : Int32)), (3, .int (0 : Int32)), (0, .ref (ad 35)), (1, .int x1), (2, .int x2)]) hx hb dX6_about_22 hl (by decide) rfl (fun ls hl => ?_)
    refine lv_iconst (v := 0) hx hb dX6_about_24 (by decide) ?_
    refine lv_istore (lv' := [(6, .int (0 : Int32)), (5, .int v52), (4, .int (0 : Int32)), (3, .int (0 : Int32)), (0, .ref (ad 35)), (1, .int x1), (2, .int x2)]) hx hb dX6_about_25 hl (by decide) rfl (fun ls hl => ?_)
    exact L_lq_X6_about_27 FU (0 : Int32) (0 : Int32) v52 (0 : Int32) ls  h (lv_sub hl [4, 5, 6, 3, 2, 1, 0] rfl)
  · have h := q_t c50 h
    refine lv_iconst (v := -1) hx hb dX6_about_8 (by decide) ?_
    exact q_rRi hQ hx hb hr hlk h dX6_about_9
def rm_X6_has : Room := { frames := 2, cells := 0, slots := 0, locals := 43 }
set_option maxHeartbeats 4000000 in
set_option maxRecDepth 100000 in
theorem ct_X6_has (l : Launch) {D : va_G} {ad : Nat → Nat} {kc : Nat → ClassId} {nm z : Nat} (hAD : AD ad nm z) {M : Mem} {x1 : Int32} {x2 : Int32} {r : Int32}  (h : fn_X6_has M x1 x2 = some r) : Met l yX6_has wsX6_has rm_X6_has (va_Pc [.ref (ad 35), .int x1, .int x2] (GW D ad kc nm z M)) (QRi r) 0 0 (fun _ => False) := by
  refine q_met (cc := cX6_has) (maxL := 3) (ret := (some .int)) (by decide) rfl (Nat.le_of_ble_eq_true rfl) ?_
  intro p e s m args below meth c Q ls hx hb hr hlk hml hown hts hB hQ hl
  obtain ⟨hP, hK, hz, hN⟩ := hB
  have hown : s.vm.findClass RX6 = some m.cls := hown
  have hl : lv_has ls 3 [(0, .ref (ad 35)), (1, .int x1), (2, .int x2)] := hl
  have hi_X6 : ∀ w ∈ u_ws RX6 TX6 40, w ∈ wsX6_has := by decide +kernel
  have B_bk_X6_has_16 : ∀ (ls : Array Slot), bk_X6_has_16 M = some r → lv_has ls 3 [] → W p l e rm_X6_has s m args below meth c s.heap [] 0 0 Q (F0 m 16 ls []) := by
    intro ls h hl
    refine lv_iconst (v := -1) hx hb dX6_has_16 (by decide) ?_
    refine lv_goto (tgt := 39) hx hb dX6_has_17 (by decide) ?_
    exact q_rRi hQ hx hb hr hlk h dX6_has_39
  refine lv_aload_n hx hb dX6_has_0 rfl (lv_at hl 0 rfl) ?_
  refine lv_iload_n hx hb dX6_has_1 rfl (lv_at hl 1 rfl) ?_
  obtain ⟨r2, hc1, h⟩ := q_bd1 h
  refine q_cRz (va_runV (C := RX6) (As := [.int x1]) (rest := []) ⟨hx, hb, hml, hown, hts⟩ (ct_X6_isMirror l hAD (M := M) hc1) (cwV 1 hts gX6_has_X6_isMirror rfl rfl rfl (by decide +kernel) ⟨Nat.le_of_ble_eq_true rfl, Nat.le_of_ble_eq_true rfl⟩) ⟨gw_blind, gw_recv ob_35 hK hP rfl, gw_pre _ hK hP hz hN⟩ rfl rfl hl.1 rfl (lv_room (Nat.le_of_ble_eq_true rfl)) dX6_has_2 ⟨Nat.zero_le _, Nat.zero_le _⟩) (fun hzr2 => ?_)
  refine lv_if_eq (tgt := 16) hx hb dX6_has_5 (by decide) (fun c6 => ?_) (fun c6 => ?_)
  · have h := q_t c6 h
    exact B_bk_X6_has_16  ls  h (lv_sub hl [] rfl)
  · have h := q_f c6 h
    refine lv_aload_n hx hb dX6_has_8 rfl (lv_at hl 0 rfl) ?_
    refine lv_iload_n hx hb dX6_has_9 rfl (lv_at hl 2 rfl) ?_
    obtain ⟨r8, hc7, h⟩ := q_bd1 h
    refine q_cRz (va_runV (C := RX6) (As := [.int x2]) (rest := []) ⟨hx, hb, hml, hown, hts⟩ (ct_X6_isFile l hAD (M := M) hc7) (cwV 1 hts gX6_has_X6_isFile rfl rfl rfl (by decide +kernel) ⟨Nat.le_of_ble_eq_true rfl, Nat.le_of_ble_eq_true rfl⟩) ⟨gw_blind, gw_recv ob_35 hK hP rfl, gw_pre _ hK hP hz hN⟩ rfl rfl hl.1 rfl (lv_room (Nat.le_of_ble_eq_true rfl)) dX6_has_10 ⟨Nat.zero_le _, Nat.zero_le _⟩) (fun hzr8 => ?_)
    refine lv_if_ne (tgt := 20) hx hb dX6_has_13 (by decide) (fun c12 => ?_) (fun c12 => ?_)
    · have h := q_f c12 h
      refine lv_aload_n hx hb dX6_has_20 rfl (lv_at hl 0 rfl) ?_
      refine q_getR hx hb hts hi_X6 hown hK hP ob_35 rfl 16 (by decide) rfl (hts (.fieldLink RX6 51 "MirrorNetModel" "hasFile" "[Z") (by decide +kernel)) (fun _ h9 => h9) dX6_has_21 ?_
      refine lv_bipush (v := 60) hx hb dX6_has_24 (by decide) ?_
      refine lv_iload_n hx hb dX6_has_26 rfl (lv_at hl 1 rfl) ?_
      refine lv_imul hx hb dX6_has_27 ?_
      refine lv_iload_n hx hb dX6_has_28 rfl (lv_at hl 2 rfl) ?_
      refine lv_iadd hx hb dX6_has_29 ?_
      obtain ⟨hk13, h⟩ := q_ck h
      refine q_zald hx hb hK hP ar_48 hk13 dX6_has_30 ?_
      refine lv_if_eq (tgt := 38) hx hb dX6_has_31 (by decide) (fun c14 => ?_) (fun c14 => ?_)
      · have h := q_t c14 h
        refine lv_iconst (v := 0) hx hb dX6_has_38 (by decide) ?_
        exact q_rRi hQ hx hb hr hlk h dX6_has_39
      · have h := q_f c14 h
        refine lv_iconst (v := 1) hx hb dX6_has_34 (by decide) ?_
        refine lv_goto (tgt := 39) hx hb dX6_has_35 (by decide) ?_
        exact q_rRi hQ hx hb hr hlk h dX6_has_39
    · have h := q_t c12 h
      exact B_bk_X6_has_16  ls  h (lv_sub hl [] rfl)
def rm_X6_count : Room := { frames := 0, cells := 0, slots := 0, locals := 0 }
set_option maxHeartbeats 4000000 in
set_option maxRecDepth 100000 in
theorem ct_X6_count (l : Launch) {D : va_G} {ad : Nat → Nat} {kc : Nat → ClassId} {nm z : Nat} (hAD : AD ad nm z) {M : Mem} {x1 : Int32} {r : Int32}  (h : fn_X6_count M x1 = some r) : Met l yX6_count wsX6_count rm_X6_count (va_Pc [.ref (ad 35), .int x1] (GW D ad kc nm z M)) (QRi r) 0 0 (fun _ => False) := by
  refine q_met (cc := cX6_count) (maxL := 4) (ret := (some .int)) (by decide) rfl (Nat.le_of_ble_eq_true rfl) ?_
  intro p e s m args below meth c Q ls hx hb hr hlk hml hown hts hB hQ hl
  obtain ⟨hP, hK, hz, hN⟩ := hB
  have hown : s.vm.findClass RX6 = some m.cls := hown
  have hl : lv_has ls 4 [(0, .ref (ad 35)), (1, .int x1)] := hl
  have hi_X6 : ∀ w ∈ u_ws RX6 TX6 40, w ∈ wsX6_count := by decide +kernel
  have L_lq_X6_count_76 : ∀ (n76 : Nat) (x2 : Int32) (x3 : Int32) (ls : Array Slot), it2 (lq_X6_count_76 M) n76 x2 x3 = some r → lv_has ls 4 [(0, .ref (ad 35)), (2, .int x2), (3, .int x3)] → W p l e rm_X6_count s m args below meth c s.heap [] 0 0 Q (F0 m 76 ls []) := by
    intro n76
    induction n76 with
    | zero =>
      intro x2 x3 ls h hl
      exact (it2_0 h).elim
    | succ n76 ih76 =>
      have B_bk_X6_count_100 : ∀ (x3 : Int32) (sx0 : Int32) (sx1 : Int32) (ls : Array Slot), bk_X6_count_100 (it2 (lq_X6_count_76 M) n76) M x3 sx0 sx1 = some r → lv_has ls 4 [(0, .ref (ad 35)), (3, .int x3)] → W p l e rm_X6_count s m args below meth c s.heap [] 0 0 Q (F0 m 100 ls [.int sx1, .int sx0]) := by
        intro x3 sx0 sx1 ls h hl
        refine lv_iadd hx hb dX6_count_100 ?_
        refine lv_topi (fun v1 ev1 => ?_)
        have h := q_nxe ev1 h
        refine lv_istore_n (lv' := [(2, .int v1), (0, .ref (ad 35)), (3, .int x3)]) hx hb dX6_count_101 rfl hl (by decide) rfl (fun ls hl => ?_)
        obtain ⟨v2, ev2, h⟩ := q_nx h
        refine lv_iinc (v := v2) (lv' := [(3, .int v2), (2, .int v1), (0, .ref (ad 35))]) hx hb dX6_count_102 hl (k := 2) rfl (by rw [ev2]; rfl) (by decide) rfl (fun ls hl => ?_)
        refine lv_goto (tgt := 76) hx hb dX6_count_105 (by decide) ?_
        exact ih76 v1 v2 ls  h (lv_sub hl [2, 1, 0] rfl)
      intro x2 x3 ls h hl
      have h := it2_s h
      refine lv_iload_n hx hb dX6_count_76 rfl (lv_at hl 2 rfl) ?_
      refine lv_aload_n hx hb dX6_count_77 rfl (lv_at hl 0 rfl) ?_
      refine q_getI hx hb hts hi_X6 hown hK hP ob_35 rfl 1 (by decide) rfl (hts (.fieldLink RX6 96 "MirrorNetModel" "files" "I") (by decide +kernel)) (fun _ h9 => h9) dX6_count_78 ?_
      refine lv_icmp_ge (tgt := 108) hx hb dX6_count_81 (by decide) (fun c3 => ?_) (fun c3 => ?_)
      · have h := q_t c3 h
        refine lv_iload_n hx hb dX6_count_108 rfl (lv_at hl 1 rfl) ?_
        exact q_rRi hQ hx hb hr hlk h dX6_count_109
      · have h := q_f c3 h
        refine lv_iload_n hx hb dX6_count_84 rfl (lv_at hl 1 rfl) ?_
        refine lv_aload_n hx hb dX6_count_85 rfl (lv_at hl 0 rfl) ?_
        refine q_getR hx hb hts hi_X6 hown hK hP ob_35 rfl 3 (by decide) rfl (hts (.fieldLink RX6 13 "MirrorNetModel" "yankedAt" "[I") (by decide +kernel)) (fun _ h9 => h9) dX6_count_86 ?_
        refine lv_iload_n hx hb dX6_count_89 rfl (lv_at hl 2 rfl) ?_
        obtain ⟨hk4, h⟩ := q_ck h
        refine q_iald hx hb hK hP ar_37 hk4 dX6_count_90 ?_
        refine lv_iconst (v := -1) hx hb dX6_count_91 (by decide) ?_
        refine lv_icmp_eq (tgt := 99) hx hb dX6_count_92 (by decide) (fun c5 => ?_) (fun c5 => ?_)
        · have h := q_t c5 h
          refine lv_iconst (v := 0) hx hb dX6_count_99 (by decide) ?_
          exact B_bk_X6_count_100 x3 x2 (0 : Int32) ls  h (lv_sub hl [0, 2] rfl)
        · have h := q_f c5 h
          refine lv_iconst (v := 1) hx hb dX6_count_95 (by decide) ?_
          refine lv_goto (tgt := 100) hx hb dX6_count_96 (by decide) ?_
          exact B_bk_X6_count_100 x3 x2 (1 : Int32) ls  h (lv_sub hl [0, 2] rfl)
  refine lv_iconst (v := 0) hx hb dX6_count_0 (by decide) ?_
  refine lv_istore_n (lv' := [(2, .int (0 : Int32)), (0, .ref (ad 35)), (1, .int x1)]) hx hb dX6_count_1 rfl hl (by decide) rfl (fun ls hl => ?_)
  refine lv_iload_n hx hb dX6_count_2 rfl (lv_at hl 2 rfl) ?_
  by_cases c6 : x1 = (0 : Int32)
  · have h := q_t c6 h
    refine lv_tableIn (off := 41) (tgt := 44) hx hb dX6_count_3 (by rw [c6]; decide) (by rw [c6]; decide) (by rw [c6]; rfl) (by decide) ?_
    refine lv_aload_n hx hb dX6_count_44 rfl (lv_at hl 1 rfl) ?_
    refine q_getI hx hb hts hi_X6 hown hK hP ob_35 rfl 0 (by decide) rfl (hts (.fieldLink RX6 103 "MirrorNetModel" "now" "I") (by decide +kernel)) (fun _ h9 => h9) dX6_count_45 ?_
    exact q_rRi hQ hx hb hr hlk h dX6_count_48
  have h := q_f c6 h
  by_cases c7 : x1 = (1 : Int32)
  · have h := q_t c7 h
    refine lv_tableIn (off := 46) (tgt := 49) hx hb dX6_count_3 (by rw [c7]; decide) (by rw [c7]; decide) (by rw [c7]; rfl) (by decide) ?_
    refine lv_aload_n hx hb dX6_count_49 rfl (lv_at hl 1 rfl) ?_
    refine q_getI hx hb hts hi_X6 hown hK hP ob_35 rfl 1 (by decide) rfl (hts (.fieldLink RX6 96 "MirrorNetModel" "files" "I") (by decide +kernel)) (fun _ h9 => h9) dX6_count_50 ?_
    exact q_rRi hQ hx hb hr hlk h dX6_count_53
  have h := q_f c7 h
  by_cases c8 : x1 = (2 : Int32)
  · have h := q_t c8 h
    refine lv_tableIn (off := 51) (tgt := 54) hx hb dX6_count_3 (by rw [c8]; decide) (by rw [c8]; decide) (by rw [c8]; rfl) (by decide) ?_
    refine lv_aload_n hx hb dX6_count_54 rfl (lv_at hl 1 rfl) ?_
    refine q_getI hx hb hts hi_X6 hown hK hP ob_35 rfl 4 (by decide) rfl (hts (.fieldLink RX6 16 "MirrorNetModel" "states" "I") (by decide +kernel)) (fun _ h9 => h9) dX6_count_55 ?_
    exact q_rRi hQ hx hb hr hlk h dX6_count_58
  have h := q_f c8 h
  by_cases c9 : x1 = (3 : Int32)
  · have h := q_t c9 h
    refine lv_tableIn (off := 56) (tgt := 59) hx hb dX6_count_3 (by rw [c9]; decide) (by rw [c9]; decide) (by rw [c9]; rfl) (by decide) ?_
    refine lv_aload_n hx hb dX6_count_59 rfl (lv_at hl 1 rfl) ?_
    refine q_getI hx hb hts hi_X6 hown hK hP ob_35 rfl 7 (by decide) rfl (hts (.fieldLink RX6 113 "MirrorNetModel" "mirrors" "I") (by decide +kernel)) (fun _ h9 => h9) dX6_count_60 ?_
    exact q_rRi hQ hx hb hr hlk h dX6_count_63
  have h := q_f c9 h
  by_cases c10 : x1 = (4 : Int32)
  · have h := q_t c10 h
    refine lv_tableIn (off := 61) (tgt := 64) hx hb dX6_count_3 (by rw [c10]; decide) (by rw [c10]; decide) (by rw [c10]; rfl) (by decide) ?_
    refine lv_aload_n hx hb dX6_count_64 rfl (lv_at hl 1 rfl) ?_
    refine q_getI hx hb hts hi_X6 hown hK hP ob_35 rfl 19 (by decide) rfl (hts (.fieldLink RX6 119 "MirrorNetModel" "falls" "I") (by decide +kernel)) (fun _ h9 => h9) dX6_count_65 ?_
    exact q_rRi hQ hx hb hr hlk h dX6_count_68
  have h := q_f c10 h
  by_cases c11 : x1 = (5 : Int32)
  · have h := q_t c11 h
    refine lv_tableIn (off := 66) (tgt := 69) hx hb dX6_count_3 (by rw [c11]; decide) (by rw [c11]; decide) (by rw [c11]; rfl) (by decide) ?_
    refine lv_aload_n hx hb dX6_count_69 rfl (lv_at hl 1 rfl) ?_
    refine q_getI hx hb hts hi_X6 hown hK hP ob_35 rfl 23 (by decide) rfl (hts (.fieldLink RX6 69 "MirrorNetModel" "grace" "I") (by decide +kernel)) (fun _ h9 => h9) dX6_count_70 ?_
    exact q_rRi hQ hx hb hr hlk h dX6_count_73
  have h := q_f c11 h
  by_cases c12 : x1 = (6 : Int32)
  · have h := q_t c12 h
    refine lv_tableIn (off := 71) (tgt := 74) hx hb dX6_count_3 (by rw [c12]; decide) (by rw [c12]; decide) (by rw [c12]; rfl) (by decide) ?_
    refine lv_iconst (v := 0) hx hb dX6_count_74 (by decide) ?_
    refine lv_istore_n (lv' := [(3, .int (0 : Int32)), (2, .int (0 : Int32)), (0, .ref (ad 35)), (1, .int x1)]) hx hb dX6_count_75 rfl hl (by decide) rfl (fun ls hl => ?_)
    exact L_lq_X6_count_76 FU (0 : Int32) (0 : Int32) ls  h (lv_sub hl [2, 1, 0] rfl)
  have h := q_f c12 h
  refine lv_tableOut (tgt := 110) hx hb dX6_count_3 (by have z0 := lv_neT c6 (a := 0) rfl; have z1 := lv_neT c7 (a := 1) rfl; have z2 := lv_neT c8 (a := 2) rfl; have z3 := lv_neT c9 (a := 3) rfl; have z4 := lv_neT c10 (a := 4) rfl; have z5 := lv_neT c11 (a := 5) rfl; have z6 := lv_neT c12 (a := 6) rfl; omega) (by decide) ?_
  refine lv_iconst (v := -1) hx hb dX6_count_110 (by decide) ?_
  exact q_rRi hQ hx hb hr hlk h dX6_count_111
