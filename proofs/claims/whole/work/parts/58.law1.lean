def R_law : String := "MirrorNetLaw"
def lw_P (b : Addr) (xs : List Int32) (args : Array Value) (s : State) : Prop := args = #[.ref b] ∧ s.IntsAt b xs ∧ xs.length ≤ 2048 ∧ (Jvm.Cond.and given_1 narrow_1).before args s = true
def lw_Q (_ : Array Value) (s : State) (o : Outcome) (t : State) : Prop := o = .returned (some (.int 1)) ∧ Framed s o t [] 600000 7302250
def lw_Z (below : List Frame) (a : Array Value) (s : State) : State → Prop := fun t => ∃ o, t.status = .running ∧ Ended t below o ∧ lw_Q a s o t
/-- the law's own end, with 1 on the stack, nothing written that was there before, its room as the claim has it -/
theorem lw_ret {p : Program} {l : Launch} {e : Env} {s : State} {m : MethodId} {below : List Frame} {meth : Method} {c : Code} {b : Nat} (hx : p.tables.exec = Jvm.exec) (hb : c.code = code) (hr : meth.sig.returnType = ret) (hlocks : meth.locks = false) {pc : Nat} {H : Heap} {ls : Array Slot} (hdg : decode code pc = .ok (.ireturn, 1)) : W p l e room_1 s m #[Value.ref b] below meth c H [] 600000 7302250 (lw_Z below #[Value.ref b] s) (F0 m pc ls [.int 1]) := by
  intro T hT X
  obtain ⟨fs, hret, hrun, hended, hW, hframe⟩ := X.leave (v := some (.int 1)) (hlocks := hlocks) (fun h => by rw [hr] at h; cases h)
  have hmeth' : T.vm.method? m = some meth := X.method'
  refine ⟨T.setFrames fs, ?_, .returned (some (.int 1)), hrun, hended, rfl, ⟨_, rfl⟩, hW, hframe⟩
  jvm_step X.here [X.here.top, hx, hb, hdg, hmeth', hr, ret, narrow_b1]
  (try refine ⟨rfl, ?_⟩); (try refine ⟨rfl, ?_⟩)
  first | (intro acts; rw [hret _ acts rfl rfl rfl]) | rw [hret _ _ rfl rfl rfl]
  exact Steps.refl _
/-- what holds at the law's entry: the machine, the code, the tables' words (any of lw_tbl by 'hts w (by decide +kernel)'), the script of L ints xs at the cell b, what the Statement gives of the start (any of its parts by flat_of_before) -/
def lw_At (p : Program) (s : State) (m : MethodId) (meth : Method) (c : Code) (b L : Nat) (xs : Nat → Int32) : Prop :=
  p.tables.exec = Jvm.exec ∧ c.code = code ∧ meth.sig.returnType = ret ∧ c.maxLocals = 4 ∧ s.vm.findClass R_law = some m.cls ∧ (∀ w ∈ lw_tbl, w.before #[Value.ref b] s = true) ∧ va_X b L xs s s.heap ∧ b < s.heap.size ∧ meth.locks = false ∧ (Jvm.Cond.and given_1 narrow_1).before #[Value.ref b] s = true
/-! the law -/
def lwS (pc cells slots : Nat) (p : Program) (l : Launch) (e : Env) (s : State) (m : MethodId) (below : List Frame) (meth : Method) (c : Code) (b i : Nat) (D : va_G) (kc : Nat → ClassId) : Prop :=
  ∀ (nm : Nat) (ad : Nat → Nat) (M : Mem) (H : Heap) (locs : List Loc) (ls : Array Slot), AD ad nm s.heap.size → Inv nm M → va_P D vwCl (wl ad kc nm M) H → va_S (fun q : Nat => s.heap.size ≤ q) s.heap H locs → lv_has ls 4 [(0, .ref b), (1, .ref (ad 0)), (2, .ref (ad 35)), (3, .int (nI (4 * i)))] → W p l e room_1 s m #[Value.ref b] below meth c H locs cells slots (lw_Z below #[Value.ref b] s) (F0 m pc ls [])
def lwG (p : Program) (s : State) (m : MethodId) (meth : Method) (c : Code) (b L : Nat) (xs : Nat → Int32) (D : va_G) (kc : Nat → ClassId) (i : Nat) : Prop :=
  lw_At p s m meth c b L xs ∧ L ≤ 2048 ∧ 4 * i + 4 ≤ L ∧ va_K D vwCl (tysOf kc) s ∧ (∀ w ∈ nestW, va_Nw w s) ∧ va_AO "MirrorNet$Mirror" s ∧ va_AO "MirrorNet$Asker" s
theorem lw_ld {p : Program} {l : Launch} {e : Env} {s : State} {m : MethodId} {below : List Frame} {meth : Method} {c : Code} {D : va_G} {kc : Nat → ClassId} {b L i : Nat} {xs : Nat → Int32} {pc k cells slots : Nat} {n : Int} {H : Heap} {locs : List Loc} {Q : State → Prop} {ls : Array Slot} {a1 a2 : Nat} {rest : List Value} (G : lwG p s m meth c b L xs D kc i) (hk : k ≤ 3) (hn : Int32.ofInt n = nI k) (hS : va_S (fun q : Nat => s.heap.size ≤ q) s.heap H locs) (hl : lv_has ls 4 [(0, .ref b), (1, .ref a1), (2, .ref a2), (3, .int (nI (4 * i)))])
    (d0 : decode code pc = .ok (.aload_n 0, 1)) (d1 : decode code (pc + 1) = .ok (.iload_n 3, 1)) (d2 : decode code (pc + 2) = .ok (.iconst n, 1)) (d3 : decode code (pc + 3) = .ok (.iadd, 1)) (d4 : decode code (pc + 4) = .ok (.iaload, 1))
    (kk : W p l e room_1 s m #[Value.ref b] below meth c H locs cells slots Q (F0 m (pc + 5) ls (.int (xs (4 * i + k)) :: rest))) : W p l e room_1 s m #[Value.ref b] below meth c H locs cells slots Q (F0 m pc ls rest) := by
  obtain ⟨⟨hx, hb, hr, hml, hown, hts0, hX, hbl, hlocks, hgv⟩, hL, hi, -⟩ := G
  have hbA : ¬ (fun q : Nat => s.heap.size ≤ q) b := Nat.not_le.mpr hbl
  refine lv_aload_n hx hb d0 rfl (lv_at hl 0 rfl) ?_
  refine lv_iload_n hx hb d1 rfl (lv_at hl 3 rfl) ?_
  refine lv_iconst (v := nI k) hx hb d2 hn ?_
  refine lv_iadd hx hb d3 ?_
  rw [nI_add]
  refine va_sld hx hb hX hbl hbA hS (vp_in_nI (by omega) (by omega)) d4 ?_
  rw [nI_clamp (by omega)]
  exact kk
theorem lw_bool {p : Program} {l : Launch} {e : Env} {R : Room} {s : State} {m : MethodId} {args : Array Value} {below : List Frame} {meth : Method} {c : Code} {pc cells slots : Nat} {H : Heap} {locs : List Loc} {Q : State → Prop} {ls : Array Slot} {rest : List Value} {y : Int32} (hx : p.tables.exec = Jvm.exec) (hb : c.code = code)
    (d0 : decode code pc = .ok (.ifCond .eq 7, 3)) (d1 : decode code (pc + 3) = .ok (.iconst 1, 1)) (d2 : decode code (pc + 4) = .ok (.goto 4, 3)) (d3 : decode code (pc + 7) = .ok (.iconst 0, 1))
    (kk : W p l e R s m args below meth c H locs cells slots Q (F0 m (pc + 8) ls (.int (bI (decide (y ≠ 0))) :: rest))) : W p l e R s m args below meth c H locs cells slots Q (F0 m pc ls (.int y :: rest)) := by
  refine lv_if_eq (tgt := pc + 7) hx hb d0 (by omega) (fun c1 => ?_) (fun c1 => ?_)
  · rw [decide_eq_false (fun h => h c1)] at kk
    exact lv_iconst (v := 0) hx hb d3 (by decide) kk
  · rw [decide_eq_true c1] at kk
    exact lv_iconst (v := 1) hx hb d1 (by decide) (lv_goto (tgt := pc + 8) hx hb d2 (by omega) kk)
theorem bI_01 (b : Bool) : bI b = 0 ∨ bI b = 1 := by
  cases b
  · exact Or.inl rfl
  · exact Or.inr rfl
set_option maxHeartbeats 4000000 in
set_option maxRecDepth 100000 in
theorem law_file {p : Program} {l : Launch} {e : Env} {s : State} {m : MethodId} {below : List Frame} {meth : Method} {c : Code} {D : va_G} {kc : Nat → ClassId} {b L i : Nat} {xs : Nat → Int32} (G : lwG p s m meth c b L xs D kc i) (nxt : lwS 801 (72 + 2 * i) (4013 + 13 * i) p l e s m below meth c b i D kc) : lwS 132 (70 + 2 * i) (4000 + 13 * i) p l e s m below meth c b i D kc := by
  intro nm ad M H locs ls hAD hI hP hS hl
  obtain ⟨⟨hx, hb, hr, hml, hown, hts0, hX, hbl, hlocks, hgv⟩, hL, hi4, hK, hN, hAM, hAA⟩ := id G
  have hown : s.vm.findClass RL = some m.cls := hown
  have hts : ∀ w ∈ wsL_law, w.before #[Value.ref b] s = true := fun w h => hts0 w (wsL_law_in w h)
  refine lv_aload_n hx hb dL_law_132 rfl (lv_at hl 1 rfl) ?_
  refine lw_ld (k := 1) G (by omega) (by decide) hS hl dL_law_133 dL_law_134 dL_law_135 dL_law_136 dL_law_137 ?_
  obtain ⟨r, M1, M2, h5, h6, hI2⟩ := op_file hI (xs (4 * i + 1))
  refine q_cWi (va_runV (As := [.int (xs (4 * i + 1))]) (rest := []) ⟨hx, hb, hml, hown, hts⟩ (ct_X5_file l hAD (M := M) h5) (cwV 1 hts gL_law_X5_file rfl rfl rfl (by decide +kernel) ⟨(Nat.le_of_ble_eq_true rfl), (Nat.le_of_ble_eq_true rfl)⟩) ⟨gw_blind, gw_recv ob_0 hK hP rfl, gw_pre _ hK hP hS.1 hN⟩ rfl rfl hl.1 rfl (lv_room (Nat.le_of_ble_eq_true rfl)) dL_law_138 ⟨by show 70 + 2 * i + 0 ≤ 600000; omega, by show 4000 + 13 * i + 0 ≤ 7302250; omega⟩) hS (fun H locs hP hS => ?_)
  refine lv_aload_n hx hb dL_law_141 rfl (lv_at hl 2 rfl) ?_
  refine lw_ld (k := 1) G (by omega) (by decide) hS hl dL_law_142 dL_law_143 dL_law_144 dL_law_145 dL_law_146 ?_
  refine q_cWi (va_runV (As := [.int (xs (4 * i + 1))]) (rest := [.int r]) ⟨hx, hb, hml, hown, hts⟩ (ct_X6_file l hAD (M := M1) h6) (cwV 1 hts gL_law_X6_file rfl rfl rfl (by decide +kernel) ⟨(Nat.le_of_ble_eq_true rfl), (Nat.le_of_ble_eq_true rfl)⟩) ⟨gw_blind, gw_recv ob_35 hK hP rfl, gw_pre _ hK hP hS.1 hN⟩ rfl rfl hl.1 rfl (lv_room (Nat.le_of_ble_eq_true rfl)) dL_law_147 ⟨by show 70 + 2 * i + 0 ≤ 600000; omega, by show 4000 + 13 * i + 0 ≤ 7302250; omega⟩) hS (fun H locs hP hS => ?_)
  refine lv_icmp_eq (tgt := 801) hx hb dL_law_150 (by decide) (fun _ => ?_) (fun c1 => absurd rfl c1)
  refine W.widen (k := 72 + 2 * i) (n := 4013 + 13 * i) (by omega) (by omega) ?_
  exact nxt nm ad M2 H locs ls hAD hI2 hP hS hl
set_option maxHeartbeats 4000000 in
set_option maxRecDepth 100000 in
theorem law_put {p : Program} {l : Launch} {e : Env} {s : State} {m : MethodId} {below : List Frame} {meth : Method} {c : Code} {D : va_G} {kc : Nat → ClassId} {b L i : Nat} {xs : Nat → Int32} (G : lwG p s m meth c b L xs D kc i) (nxt : lwS 801 (72 + 2 * i) (4013 + 13 * i) p l e s m below meth c b i D kc) : lwS 155 (70 + 2 * i) (4000 + 13 * i) p l e s m below meth c b i D kc := by
  intro nm ad M H locs ls hAD hI hP hS hl
  obtain ⟨⟨hx, hb, hr, hml, hown, hts0, hX, hbl, hlocks, hgv⟩, hL, hi4, hK, hN, hAM, hAA⟩ := id G
  have hown : s.vm.findClass RL = some m.cls := hown
  have hts : ∀ w ∈ wsL_law, w.before #[Value.ref b] s = true := fun w h => hts0 w (wsL_law_in w h)
  refine lv_aload_n hx hb dL_law_155 rfl (lv_at hl 1 rfl) ?_
  refine lw_ld (k := 1) G (by omega) (by decide) hS hl dL_law_156 dL_law_157 dL_law_158 dL_law_159 dL_law_160 ?_
  refine lw_ld (k := 2) G (by omega) (by decide) hS hl dL_law_161 dL_law_162 dL_law_163 dL_law_164 dL_law_165 ?_
  obtain ⟨r, M1, M2, h5, h6, hI2⟩ := op_put hI (xs (4 * i + 1)) (xs (4 * i + 2))
  refine q_cWi (va_runV (As := [.int (xs (4 * i + 1)), .int (xs (4 * i + 2))]) (rest := []) ⟨hx, hb, hml, hown, hts⟩ (ct_X5_put l hAD (M := M) h5) (cwV 2 hts gL_law_X5_put rfl rfl rfl (by decide +kernel) ⟨(Nat.le_of_ble_eq_true rfl), (Nat.le_of_ble_eq_true rfl)⟩) ⟨gw_blind, gw_recv ob_0 hK hP rfl, gw_pre _ hK hP hS.1 hN⟩ rfl rfl hl.1 rfl (lv_room (Nat.le_of_ble_eq_true rfl)) dL_law_166 ⟨by show 70 + 2 * i + 0 ≤ 600000; omega, by show 4000 + 13 * i + 0 ≤ 7302250; omega⟩) hS (fun H locs hP hS => ?_)
  refine lv_aload_n hx hb dL_law_169 rfl (lv_at hl 2 rfl) ?_
  refine lw_ld (k := 1) G (by omega) (by decide) hS hl dL_law_170 dL_law_171 dL_law_172 dL_law_173 dL_law_174 ?_
  refine lw_ld (k := 2) G (by omega) (by decide) hS hl dL_law_175 dL_law_176 dL_law_177 dL_law_178 dL_law_179 ?_
  refine q_cWi (va_runV (As := [.int (xs (4 * i + 1)), .int (xs (4 * i + 2))]) (rest := [.int r]) ⟨hx, hb, hml, hown, hts⟩ (ct_X6_put l hAD (M := M1) h6) (cwV 2 hts gL_law_X6_put rfl rfl rfl (by decide +kernel) ⟨(Nat.le_of_ble_eq_true rfl), (Nat.le_of_ble_eq_true rfl)⟩) ⟨gw_blind, gw_recv ob_35 hK hP rfl, gw_pre _ hK hP hS.1 hN⟩ rfl rfl hl.1 rfl (lv_room (Nat.le_of_ble_eq_true rfl)) dL_law_180 ⟨by show 70 + 2 * i + 0 ≤ 600000; omega, by show 4000 + 13 * i + 0 ≤ 7302250; omega⟩) hS (fun H locs hP hS => ?_)
  refine lv_icmp_eq (tgt := 801) hx hb dL_law_183 (by decide) (fun _ => ?_) (fun c1 => absurd rfl c1)
  refine W.widen (k := 72 + 2 * i) (n := 4013 + 13 * i) (by omega) (by omega) ?_
  exact nxt nm ad M2 H locs ls hAD hI2 hP hS hl
set_option maxHeartbeats 4000000 in
set_option maxRecDepth 100000 in
theorem law_yank {p : Program} {l : Launch} {e : Env} {s : State} {m : MethodId} {below : List Frame} {meth : Method} {c : Code} {D : va_G} {kc : Nat → ClassId} {b L i : Nat} {xs : Nat → Int32} (G : lwG p s m meth c b L xs D kc i) (nxt : lwS 801 (72 + 2 * i) (4013 + 13 * i) p l e s m below meth c b i D kc) : lwS 188 (70 + 2 * i) (4000 + 13 * i) p l e s m below meth c b i D kc := by
  intro nm ad M H locs ls hAD hI hP hS hl
  obtain ⟨⟨hx, hb, hr, hml, hown, hts0, hX, hbl, hlocks, hgv⟩, hL, hi4, hK, hN, hAM, hAA⟩ := id G
  have hown : s.vm.findClass RL = some m.cls := hown
  have hts : ∀ w ∈ wsL_law, w.before #[Value.ref b] s = true := fun w h => hts0 w (wsL_law_in w h)
  refine lv_aload_n hx hb dL_law_188 rfl (lv_at hl 1 rfl) ?_
  refine lw_ld (k := 1) G (by omega) (by decide) hS hl dL_law_189 dL_law_190 dL_law_191 dL_law_192 dL_law_193 ?_
  obtain ⟨r, M1, M2, h5, h6, hI2⟩ := op_yank hI (xs (4 * i + 1))
  refine q_cWi (va_runV (As := [.int (xs (4 * i + 1))]) (rest := []) ⟨hx, hb, hml, hown, hts⟩ (ct_X5_yank l hAD (M := M) h5) (cwV 1 hts gL_law_X5_yank rfl rfl rfl (by decide +kernel) ⟨(Nat.le_of_ble_eq_true rfl), (Nat.le_of_ble_eq_true rfl)⟩) ⟨gw_blind, gw_recv ob_0 hK hP rfl, gw_pre _ hK hP hS.1 hN⟩ rfl rfl hl.1 rfl (lv_room (Nat.le_of_ble_eq_true rfl)) dL_law_194 ⟨by show 70 + 2 * i + 0 ≤ 600000; omega, by show 4000 + 13 * i + 0 ≤ 7302250; omega⟩) hS (fun H locs hP hS => ?_)
  refine lv_aload_n hx hb dL_law_197 rfl (lv_at hl 2 rfl) ?_
  refine lw_ld (k := 1) G (by omega) (by decide) hS hl dL_law_198 dL_law_199 dL_law_200 dL_law_201 dL_law_202 ?_
  refine q_cWi (va_runV (As := [.int (xs (4 * i + 1))]) (rest := [.int r]) ⟨hx, hb, hml, hown, hts⟩ (ct_X6_yank l hAD (M := M1) h6) (cwV 1 hts gL_law_X6_yank rfl rfl rfl (by decide +kernel) ⟨(Nat.le_of_ble_eq_true rfl), (Nat.le_of_ble_eq_true rfl)⟩) ⟨gw_blind, gw_recv ob_35 hK hP rfl, gw_pre _ hK hP hS.1 hN⟩ rfl rfl hl.1 rfl (lv_room (Nat.le_of_ble_eq_true rfl)) dL_law_203 ⟨by show 70 + 2 * i + 0 ≤ 600000; omega, by show 4000 + 13 * i + 0 ≤ 7302250; omega⟩) hS (fun H locs hP hS => ?_)
  refine lv_icmp_eq (tgt := 801) hx hb dL_law_206 (by decide) (fun _ => ?_) (fun c1 => absurd rfl c1)
  refine W.widen (k := 72 + 2 * i) (n := 4013 + 13 * i) (by omega) (by omega) ?_
  exact nxt nm ad M2 H locs ls hAD hI2 hP hS hl
set_option maxHeartbeats 4000000 in
set_option maxRecDepth 100000 in
theorem law_mirror {p : Program} {l : Launch} {e : Env} {s : State} {m : MethodId} {below : List Frame} {meth : Method} {c : Code} {D : va_G} {kc : Nat → ClassId} {b L i : Nat} {xs : Nat → Int32} (G : lwG p s m meth c b L xs D kc i) (nxt : lwS 801 (72 + 2 * i) (4013 + 13 * i) p l e s m below meth c b i D kc) : lwS 211 (70 + 2 * i) (4000 + 13 * i) p l e s m below meth c b i D kc := by
  intro nm ad M H locs ls hAD hI hP hS hl
  obtain ⟨⟨hx, hb, hr, hml, hown, hts0, hX, hbl, hlocks, hgv⟩, hL, hi4, hK, hN, hAM, hAA⟩ := id G
  have hown : s.vm.findClass RL = some m.cls := hown
  have hts : ∀ w ∈ wsL_law, w.before #[Value.ref b] s = true := fun w h => hts0 w (wsL_law_in w h)
  refine lv_aload_n hx hb dL_law_211 rfl (lv_at hl 1 rfl) ?_
  refine lw_ld (k := 1) G (by omega) (by decide) hS hl dL_law_212 dL_law_213 dL_law_214 dL_law_215 dL_law_216 ?_
  refine lw_ld (k := 2) G (by omega) (by decide) hS hl dL_law_217 dL_law_218 dL_law_219 dL_law_220 dL_law_221 ?_
  refine lw_ld (k := 3) G (by omega) (by decide) hS hl dL_law_222 dL_law_223 dL_law_224 dL_law_225 dL_law_226 ?_
  obtain ⟨w, nf, ns, tl, gr, hA, -⟩ := id hI
  have fin : ∀ (nm1 : Nat) (ad1 : Nat → Nat) (M1 M2 : Mem) (r : Int32) (H : Heap) (locs : List Loc), ad1 0 = ad 0 → ad1 35 = ad 35 → AD ad1 nm1 s.heap.size → fn_X6_mirror M1 (xs (4 * i + 1)) (xs (4 * i + 2)) (xs (4 * i + 3)) = some (r, M2) → Inv nm1 M2 → va_P D vwCl (wl ad1 kc nm1 M1) H → va_S (fun q : Nat => s.heap.size ≤ q) s.heap H locs → W p l e room_1 s m #[Value.ref b] below meth c H locs (72 + 2 * i) (4013 + 13 * i) (lw_Z below #[Value.ref b] s) (F0 m 230 ls [.int r]) := by
    intro nm1 ad1 M1 M2 r H locs e0 e35 hAD h6 hI2 hP hS
    have hl : lv_has ls 4 [(0, .ref b), (1, .ref (ad1 0)), (2, .ref (ad1 35)), (3, .int (nI (4 * i)))] := by rw [e0, e35]; exact hl
    refine lv_aload_n hx hb dL_law_230 rfl (lv_at hl 2 rfl) ?_
    refine lw_ld (k := 1) G (by omega) (by decide) hS hl dL_law_231 dL_law_232 dL_law_233 dL_law_234 dL_law_235 ?_
    refine lw_ld (k := 2) G (by omega) (by decide) hS hl dL_law_236 dL_law_237 dL_law_238 dL_law_239 dL_law_240 ?_
    refine lw_ld (k := 3) G (by omega) (by decide) hS hl dL_law_241 dL_law_242 dL_law_243 dL_law_244 dL_law_245 ?_
    refine q_cWi (va_runV (As := [.int (xs (4 * i + 1)), .int (xs (4 * i + 2)), .int (xs (4 * i + 3))]) (rest := [.int r]) ⟨hx, hb, hml, hown, hts⟩ (ct_X6_mirror l hAD (M := M1) h6) (cwV 3 hts gL_law_X6_mirror rfl rfl rfl (by decide +kernel) ⟨(Nat.le_of_ble_eq_true rfl), (Nat.le_of_ble_eq_true rfl)⟩) ⟨gw_blind, gw_recv ob_35 hK hP rfl, gw_pre _ hK hP hS.1 hN⟩ rfl rfl hl.1 rfl (lv_room (Nat.le_of_ble_eq_true rfl)) dL_law_246 ⟨by show 72 + 2 * i + 0 ≤ 600000; omega, by show 4013 + 13 * i + 0 ≤ 7302250; omega⟩) hS (fun H locs hP hS => ?_)
    refine lv_icmp_eq (tgt := 801) hx hb dL_law_249 (by decide) (fun _ => ?_) (fun c1 => absurd rfl c1)
    exact nxt nm1 ad1 M2 H locs ls hAD hI2 hP hS hl
  refine va_calli (va_runV (As := [.int (xs (4 * i + 1)), .int (xs (4 * i + 2)), .int (xs (4 * i + 3))]) (rest := []) ⟨hx, hb, hml, hown, hts⟩ (ct_X5_mirror l hAD (M := M) hA.1.1 hA.2.2.1) (cwV 3 hts gL_law_X5_mirror rfl rfl rfl (by decide +kernel) ⟨(Nat.le_of_ble_eq_true rfl), (Nat.le_of_ble_eq_true rfl)⟩) ⟨gx_blind, gw_recv ob_0 hK hP rfl, gx_pre _ hK hP hS.1 hN hAM hAA⟩ rfl rfl hl.1 rfl (lv_room (Nat.le_of_ble_eq_true rfl)) dL_law_227 ⟨by show 70 + 2 * i + 2 ≤ 600000; omega, by show 4000 + 13 * i + 13 ≤ 7302250; omega⟩) hS (fun _ _ h => h) (fun _ h => h) (fun r u t H1 locs1 ht _ hw hB _ _ hS1 => ?_)
  refine W.widen (k := 72 + 2 * i) (n := 4013 + 13 * i) (by omega) (by omega) ?_
  rcases hw with ⟨hno, rfl, rfl⟩ | ⟨hok, rfl, q1, q2, rfl, hAD1⟩
  · rw [ht] at hB
    exact fin nm ad M M (-1) H1 locs1 rfl rfl hAD (op_mirrorN hI _ _ _ hno) hI hB hS1
  · rw [ht] at hB
    exact fin _ _ _ _ _ H1 locs1 (adx_lt (by omega)) (adx_lt (by omega)) hAD1 (op_mirrorY hI _ _ _ hok).1 (op_mirrorY hI _ _ _ hok).2 hB hS1
set_option maxHeartbeats 4000000 in
set_option maxRecDepth 100000 in
theorem law_speed {p : Program} {l : Launch} {e : Env} {s : State} {m : MethodId} {below : List Frame} {meth : Method} {c : Code} {D : va_G} {kc : Nat → ClassId} {b L i : Nat} {xs : Nat → Int32} (G : lwG p s m meth c b L xs D kc i) (nxt : lwS 801 (72 + 2 * i) (4013 + 13 * i) p l e s m below meth c b i D kc) : lwS 254 (70 + 2 * i) (4000 + 13 * i) p l e s m below meth c b i D kc := by
  intro nm ad M H locs ls hAD hI hP hS hl
  obtain ⟨⟨hx, hb, hr, hml, hown, hts0, hX, hbl, hlocks, hgv⟩, hL, hi4, hK, hN, hAM, hAA⟩ := id G
  have hown : s.vm.findClass RL = some m.cls := hown
  have hts : ∀ w ∈ wsL_law, w.before #[Value.ref b] s = true := fun w h => hts0 w (wsL_law_in w h)
  refine lv_aload_n hx hb dL_law_254 rfl (lv_at hl 1 rfl) ?_
  refine lw_ld (k := 1) G (by omega) (by decide) hS hl dL_law_255 dL_law_256 dL_law_257 dL_law_258 dL_law_259 ?_
  refine lw_ld (k := 2) G (by omega) (by decide) hS hl dL_law_260 dL_law_261 dL_law_262 dL_law_263 dL_law_264 ?_
  obtain ⟨r, M1, M2, h5, h6, hI2⟩ := op_speed hI (xs (4 * i + 1)) (xs (4 * i + 2))
  refine q_cWi (va_runV (As := [.int (xs (4 * i + 1)), .int (xs (4 * i + 2))]) (rest := []) ⟨hx, hb, hml, hown, hts⟩ (ct_X5_speed l hAD (M := M) h5) (cwV 2 hts gL_law_X5_speed rfl rfl rfl (by decide +kernel) ⟨(Nat.le_of_ble_eq_true rfl), (Nat.le_of_ble_eq_true rfl)⟩) ⟨gw_blind, gw_recv ob_0 hK hP rfl, gw_pre _ hK hP hS.1 hN⟩ rfl rfl hl.1 rfl (lv_room (Nat.le_of_ble_eq_true rfl)) dL_law_265 ⟨by show 70 + 2 * i + 0 ≤ 600000; omega, by show 4000 + 13 * i + 0 ≤ 7302250; omega⟩) hS (fun H locs hP hS => ?_)
  refine lv_aload_n hx hb dL_law_268 rfl (lv_at hl 2 rfl) ?_
  refine lw_ld (k := 1) G (by omega) (by decide) hS hl dL_law_269 dL_law_270 dL_law_271 dL_law_272 dL_law_273 ?_
  refine lw_ld (k := 2) G (by omega) (by decide) hS hl dL_law_274 dL_law_275 dL_law_276 dL_law_277 dL_law_278 ?_
  refine q_cWi (va_runV (As := [.int (xs (4 * i + 1)), .int (xs (4 * i + 2))]) (rest := [.int r]) ⟨hx, hb, hml, hown, hts⟩ (ct_X6_speed l hAD (M := M1) h6) (cwV 2 hts gL_law_X6_speed rfl rfl rfl (by decide +kernel) ⟨(Nat.le_of_ble_eq_true rfl), (Nat.le_of_ble_eq_true rfl)⟩) ⟨gw_blind, gw_recv ob_35 hK hP rfl, gw_pre _ hK hP hS.1 hN⟩ rfl rfl hl.1 rfl (lv_room (Nat.le_of_ble_eq_true rfl)) dL_law_279 ⟨by show 70 + 2 * i + 0 ≤ 600000; omega, by show 4000 + 13 * i + 0 ≤ 7302250; omega⟩) hS (fun H locs hP hS => ?_)
  refine lv_icmp_eq (tgt := 801) hx hb dL_law_282 (by decide) (fun _ => ?_) (fun c1 => absurd rfl c1)
  refine W.widen (k := 72 + 2 * i) (n := 4013 + 13 * i) (by omega) (by omega) ?_
  exact nxt nm ad M2 H locs ls hAD hI2 hP hS hl
set_option maxHeartbeats 4000000 in
set_option maxRecDepth 100000 in
theorem law_fall {p : Program} {l : Launch} {e : Env} {s : State} {m : MethodId} {below : List Frame} {meth : Method} {c : Code} {D : va_G} {kc : Nat → ClassId} {b L i : Nat} {xs : Nat → Int32} (G : lwG p s m meth c b L xs D kc i) (nxt : lwS 801 (72 + 2 * i) (4013 + 13 * i) p l e s m below meth c b i D kc) : lwS 287 (70 + 2 * i) (4000 + 13 * i) p l e s m below meth c b i D kc := by
  intro nm ad M H locs ls hAD hI hP hS hl
  obtain ⟨⟨hx, hb, hr, hml, hown, hts0, hX, hbl, hlocks, hgv⟩, hL, hi4, hK, hN, hAM, hAA⟩ := id G
  have hown : s.vm.findClass RL = some m.cls := hown
  have hts : ∀ w ∈ wsL_law, w.before #[Value.ref b] s = true := fun w h => hts0 w (wsL_law_in w h)
  refine lv_aload_n hx hb dL_law_287 rfl (lv_at hl 1 rfl) ?_
  refine lw_ld (k := 1) G (by omega) (by decide) hS hl dL_law_288 dL_law_289 dL_law_290 dL_law_291 dL_law_292 ?_
  refine lw_ld (k := 2) G (by omega) (by decide) hS hl dL_law_293 dL_law_294 dL_law_295 dL_law_296 dL_law_297 ?_
  refine lw_ld (k := 3) G (by omega) (by decide) hS hl dL_law_298 dL_law_299 dL_law_300 dL_law_301 dL_law_302 ?_
  obtain ⟨r, M1, M2, h5, h6, hI2⟩ := op_fall hI (xs (4 * i + 1)) (xs (4 * i + 2)) (xs (4 * i + 3))
  refine q_cWi (va_runV (As := [.int (xs (4 * i + 1)), .int (xs (4 * i + 2)), .int (xs (4 * i + 3))]) (rest := []) ⟨hx, hb, hml, hown, hts⟩ (ct_X5_fall l hAD (M := M) h5) (cwV 3 hts gL_law_X5_fall rfl rfl rfl (by decide +kernel) ⟨(Nat.le_of_ble_eq_true rfl), (Nat.le_of_ble_eq_true rfl)⟩) ⟨gw_blind, gw_recv ob_0 hK hP rfl, gw_pre _ hK hP hS.1 hN⟩ rfl rfl hl.1 rfl (lv_room (Nat.le_of_ble_eq_true rfl)) dL_law_303 ⟨by show 70 + 2 * i + 0 ≤ 600000; omega, by show 4000 + 13 * i + 0 ≤ 7302250; omega⟩) hS (fun H locs hP hS => ?_)
  refine lv_aload_n hx hb dL_law_306 rfl (lv_at hl 2 rfl) ?_
  refine lw_ld (k := 1) G (by omega) (by decide) hS hl dL_law_307 dL_law_308 dL_law_309 dL_law_310 dL_law_311 ?_
  refine lw_ld (k := 2) G (by omega) (by decide) hS hl dL_law_312 dL_law_313 dL_law_314 dL_law_315 dL_law_316 ?_
  refine lw_ld (k := 3) G (by omega) (by decide) hS hl dL_law_317 dL_law_318 dL_law_319 dL_law_320 dL_law_321 ?_
  refine q_cWi (va_runV (As := [.int (xs (4 * i + 1)), .int (xs (4 * i + 2)), .int (xs (4 * i + 3))]) (rest := [.int r]) ⟨hx, hb, hml, hown, hts⟩ (ct_X6_fall l hAD (M := M1) h6) (cwV 3 hts gL_law_X6_fall rfl rfl rfl (by decide +kernel) ⟨(Nat.le_of_ble_eq_true rfl), (Nat.le_of_ble_eq_true rfl)⟩) ⟨gw_blind, gw_recv ob_35 hK hP rfl, gw_pre _ hK hP hS.1 hN⟩ rfl rfl hl.1 rfl (lv_room (Nat.le_of_ble_eq_true rfl)) dL_law_322 ⟨by show 70 + 2 * i + 0 ≤ 600000; omega, by show 4000 + 13 * i + 0 ≤ 7302250; omega⟩) hS (fun H locs hP hS => ?_)
  refine lv_icmp_eq (tgt := 801) hx hb dL_law_325 (by decide) (fun _ => ?_) (fun c1 => absurd rfl c1)
  refine W.widen (k := 72 + 2 * i) (n := 4013 + 13 * i) (by omega) (by omega) ?_
  exact nxt nm ad M2 H locs ls hAD hI2 hP hS hl
set_option maxHeartbeats 4000000 in
set_option maxRecDepth 100000 in
theorem law_lies {p : Program} {l : Launch} {e : Env} {s : State} {m : MethodId} {below : List Frame} {meth : Method} {c : Code} {D : va_G} {kc : Nat → ClassId} {b L i : Nat} {xs : Nat → Int32} (G : lwG p s m meth c b L xs D kc i) (nxt : lwS 801 (72 + 2 * i) (4013 + 13 * i) p l e s m below meth c b i D kc) : lwS 330 (70 + 2 * i) (4000 + 13 * i) p l e s m below meth c b i D kc := by
  intro nm ad M H locs ls hAD hI hP hS hl
  obtain ⟨⟨hx, hb, hr, hml, hown, hts0, hX, hbl, hlocks, hgv⟩, hL, hi4, hK, hN, hAM, hAA⟩ := id G
  have hown : s.vm.findClass RL = some m.cls := hown
  have hts : ∀ w ∈ wsL_law, w.before #[Value.ref b] s = true := fun w h => hts0 w (wsL_law_in w h)
  refine lv_aload_n hx hb dL_law_330 rfl (lv_at hl 1 rfl) ?_
  refine lw_ld (k := 1) G (by omega) (by decide) hS hl dL_law_331 dL_law_332 dL_law_333 dL_law_334 dL_law_335 ?_
  refine lw_ld (k := 2) G (by omega) (by decide) hS hl dL_law_336 dL_law_337 dL_law_338 dL_law_339 dL_law_340 ?_
  refine lw_bool hx hb dL_law_341 dL_law_344 dL_law_345 dL_law_348 ?_
  obtain ⟨r, M1, M2, h5, h6, hI2⟩ := op_lies hI (xs (4 * i + 1)) (decide (xs (4 * i + 2) ≠ 0))
  refine q_cWz (va_runV (As := [.int (xs (4 * i + 1)), .int (bI (decide (xs (4 * i + 2) ≠ 0)))]) (rest := []) ⟨hx, hb, hml, hown, hts⟩ (ct_X5_lies l hAD (M := M) (bI_01 _) h5) (cwV 2 hts gL_law_X5_lies rfl rfl rfl (by decide +kernel) ⟨(Nat.le_of_ble_eq_true rfl), (Nat.le_of_ble_eq_true rfl)⟩) ⟨gw_blind, gw_recv ob_0 hK hP rfl, gw_pre _ hK hP hS.1 hN⟩ rfl rfl hl.1 rfl (lv_room (Nat.le_of_ble_eq_true rfl)) dL_law_349 ⟨by show 70 + 2 * i + 0 ≤ 600000; omega, by show 4000 + 13 * i + 0 ≤ 7302250; omega⟩) hS (fun H locs _ hP hS => ?_)
  refine lv_aload_n hx hb dL_law_352 rfl (lv_at hl 2 rfl) ?_
  refine lw_ld (k := 1) G (by omega) (by decide) hS hl dL_law_353 dL_law_354 dL_law_355 dL_law_356 dL_law_357 ?_
  refine lw_ld (k := 2) G (by omega) (by decide) hS hl dL_law_358 dL_law_359 dL_law_360 dL_law_361 dL_law_362 ?_
  refine lw_bool hx hb dL_law_363 dL_law_366 dL_law_367 dL_law_370 ?_
  refine q_cWz (va_runV (As := [.int (xs (4 * i + 1)), .int (bI (decide (xs (4 * i + 2) ≠ 0)))]) (rest := [.int r]) ⟨hx, hb, hml, hown, hts⟩ (ct_X6_lies l hAD (M := M1) (bI_01 _) h6) (cwV 2 hts gL_law_X6_lies rfl rfl rfl (by decide +kernel) ⟨(Nat.le_of_ble_eq_true rfl), (Nat.le_of_ble_eq_true rfl)⟩) ⟨gw_blind, gw_recv ob_35 hK hP rfl, gw_pre _ hK hP hS.1 hN⟩ rfl rfl hl.1 rfl (lv_room (Nat.le_of_ble_eq_true rfl)) dL_law_371 ⟨by show 70 + 2 * i + 0 ≤ 600000; omega, by show 4000 + 13 * i + 0 ≤ 7302250; omega⟩) hS (fun H locs _ hP hS => ?_)
  refine lv_icmp_eq (tgt := 801) hx hb dL_law_374 (by decide) (fun _ => ?_) (fun c1 => absurd rfl c1)
  refine W.widen (k := 72 + 2 * i) (n := 4013 + 13 * i) (by omega) (by omega) ?_
  exact nxt nm ad M2 H locs ls hAD hI2 hP hS hl
set_option maxHeartbeats 4000000 in
set_option maxRecDepth 100000 in
theorem law_pass {p : Program} {l : Launch} {e : Env} {s : State} {m : MethodId} {below : List Frame} {meth : Method} {c : Code} {D : va_G} {kc : Nat → ClassId} {b L i : Nat} {xs : Nat → Int32} (G : lwG p s m meth c b L xs D kc i) (nxt : lwS 801 (72 + 2 * i) (4013 + 13 * i) p l e s m below meth c b i D kc) : lwS 379 (70 + 2 * i) (4000 + 13 * i) p l e s m below meth c b i D kc := by
  intro nm ad M H locs ls hAD hI hP hS hl
  obtain ⟨⟨hx, hb, hr, hml, hown, hts0, hX, hbl, hlocks, hgv⟩, hL, hi4, hK, hN, hAM, hAA⟩ := id G
  have hown : s.vm.findClass RL = some m.cls := hown
  have hts : ∀ w ∈ wsL_law, w.before #[Value.ref b] s = true := fun w h => hts0 w (wsL_law_in w h)
  refine lv_aload_n hx hb dL_law_379 rfl (lv_at hl 1 rfl) ?_
  refine lw_ld (k := 1) G (by omega) (by decide) hS hl dL_law_380 dL_law_381 dL_law_382 dL_law_383 dL_law_384 ?_
  obtain ⟨r, M1, M2, h5, h6, hI2⟩ := op_pass hI (xs (4 * i + 1))
  refine q_cWi (va_runV (As := [.int (xs (4 * i + 1))]) (rest := []) ⟨hx, hb, hml, hown, hts⟩ (ct_X5_pass l hAD (M := M) h5) (cwV 1 hts gL_law_X5_pass rfl rfl rfl (by decide +kernel) ⟨(Nat.le_of_ble_eq_true rfl), (Nat.le_of_ble_eq_true rfl)⟩) ⟨gw_blind, gw_recv ob_0 hK hP rfl, gw_pre _ hK hP hS.1 hN⟩ rfl rfl hl.1 rfl (lv_room (Nat.le_of_ble_eq_true rfl)) dL_law_385 ⟨by show 70 + 2 * i + 0 ≤ 600000; omega, by show 4000 + 13 * i + 0 ≤ 7302250; omega⟩) hS (fun H locs hP hS => ?_)
  refine lv_aload_n hx hb dL_law_388 rfl (lv_at hl 2 rfl) ?_
  refine lw_ld (k := 1) G (by omega) (by decide) hS hl dL_law_389 dL_law_390 dL_law_391 dL_law_392 dL_law_393 ?_
  refine q_cWi (va_runV (As := [.int (xs (4 * i + 1))]) (rest := [.int r]) ⟨hx, hb, hml, hown, hts⟩ (ct_X6_pass l hAD (M := M1) h6) (cwV 1 hts gL_law_X6_pass rfl rfl rfl (by decide +kernel) ⟨(Nat.le_of_ble_eq_true rfl), (Nat.le_of_ble_eq_true rfl)⟩) ⟨gw_blind, gw_recv ob_35 hK hP rfl, gw_pre _ hK hP hS.1 hN⟩ rfl rfl hl.1 rfl (lv_room (Nat.le_of_ble_eq_true rfl)) dL_law_394 ⟨by show 70 + 2 * i + 0 ≤ 600000; omega, by show 4000 + 13 * i + 0 ≤ 7302250; omega⟩) hS (fun H locs hP hS => ?_)
  refine lv_icmp_eq (tgt := 801) hx hb dL_law_397 (by decide) (fun _ => ?_) (fun c1 => absurd rfl c1)
  refine W.widen (k := 72 + 2 * i) (n := 4013 + 13 * i) (by omega) (by omega) ?_
  exact nxt nm ad M2 H locs ls hAD hI2 hP hS hl
set_option maxHeartbeats 4000000 in
set_option maxRecDepth 100000 in
theorem law_cost {p : Program} {l : Launch} {e : Env} {s : State} {m : MethodId} {below : List Frame} {meth : Method} {c : Code} {D : va_G} {kc : Nat → ClassId} {b L i : Nat} {xs : Nat → Int32} (G : lwG p s m meth c b L xs D kc i) (nxt : lwS 801 (72 + 2 * i) (4013 + 13 * i) p l e s m below meth c b i D kc) : lwS 402 (70 + 2 * i) (4000 + 13 * i) p l e s m below meth c b i D kc := by
  intro nm ad M H locs ls hAD hI hP hS hl
  obtain ⟨⟨hx, hb, hr, hml, hown, hts0, hX, hbl, hlocks, hgv⟩, hL, hi4, hK, hN, hAM, hAA⟩ := id G
  have hown : s.vm.findClass RL = some m.cls := hown
  have hts : ∀ w ∈ wsL_law, w.before #[Value.ref b] s = true := fun w h => hts0 w (wsL_law_in w h)
  refine lv_aload_n hx hb dL_law_402 rfl (lv_at hl 1 rfl) ?_
  refine lw_ld (k := 1) G (by omega) (by decide) hS hl dL_law_403 dL_law_404 dL_law_405 dL_law_406 dL_law_407 ?_
  refine lw_ld (k := 2) G (by omega) (by decide) hS hl dL_law_408 dL_law_409 dL_law_410 dL_law_411 dL_law_412 ?_
  refine lw_ld (k := 3) G (by omega) (by decide) hS hl dL_law_413 dL_law_414 dL_law_415 dL_law_416 dL_law_417 ?_
  obtain ⟨r, M1, M2, h5, h6, hI2⟩ := op_cost hI (xs (4 * i + 1)) (xs (4 * i + 2)) (xs (4 * i + 3))
  refine q_cWi (va_runV (As := [.int (xs (4 * i + 1)), .int (xs (4 * i + 2)), .int (xs (4 * i + 3))]) (rest := []) ⟨hx, hb, hml, hown, hts⟩ (ct_X5_cost l hAD (M := M) h5) (cwV 3 hts gL_law_X5_cost rfl rfl rfl (by decide +kernel) ⟨(Nat.le_of_ble_eq_true rfl), (Nat.le_of_ble_eq_true rfl)⟩) ⟨gw_blind, gw_recv ob_0 hK hP rfl, gw_pre _ hK hP hS.1 hN⟩ rfl rfl hl.1 rfl (lv_room (Nat.le_of_ble_eq_true rfl)) dL_law_418 ⟨by show 70 + 2 * i + 0 ≤ 600000; omega, by show 4000 + 13 * i + 0 ≤ 7302250; omega⟩) hS (fun H locs hP hS => ?_)
  refine lv_aload_n hx hb dL_law_421 rfl (lv_at hl 2 rfl) ?_
  refine lw_ld (k := 1) G (by omega) (by decide) hS hl dL_law_422 dL_law_423 dL_law_424 dL_law_425 dL_law_426 ?_
  refine lw_ld (k := 2) G (by omega) (by decide) hS hl dL_law_427 dL_law_428 dL_law_429 dL_law_430 dL_law_431 ?_
  refine lw_ld (k := 3) G (by omega) (by decide) hS hl dL_law_432 dL_law_433 dL_law_434 dL_law_435 dL_law_436 ?_
  refine q_cWi (va_runV (As := [.int (xs (4 * i + 1)), .int (xs (4 * i + 2)), .int (xs (4 * i + 3))]) (rest := [.int r]) ⟨hx, hb, hml, hown, hts⟩ (ct_X6_cost l hAD (M := M1) h6) (cwV 3 hts gL_law_X6_cost rfl rfl rfl (by decide +kernel) ⟨(Nat.le_of_ble_eq_true rfl), (Nat.le_of_ble_eq_true rfl)⟩) ⟨gw_blind, gw_recv ob_35 hK hP rfl, gw_pre _ hK hP hS.1 hN⟩ rfl rfl hl.1 rfl (lv_room (Nat.le_of_ble_eq_true rfl)) dL_law_437 ⟨by show 70 + 2 * i + 0 ≤ 600000; omega, by show 4000 + 13 * i + 0 ≤ 7302250; omega⟩) hS (fun H locs hP hS => ?_)
  refine lv_icmp_eq (tgt := 801) hx hb dL_law_440 (by decide) (fun _ => ?_) (fun c1 => absurd rfl c1)
  refine W.widen (k := 72 + 2 * i) (n := 4013 + 13 * i) (by omega) (by omega) ?_
  exact nxt nm ad M2 H locs ls hAD hI2 hP hS hl
set_option maxHeartbeats 4000000 in
set_option maxRecDepth 100000 in
theorem law_bears {p : Program} {l : Launch} {e : Env} {s : State} {m : MethodId} {below : List Frame} {meth : Method} {c : Code} {D : va_G} {kc : Nat → ClassId} {b L i : Nat} {xs : Nat → Int32} (G : lwG p s m meth c b L xs D kc i) (nxt : lwS 801 (72 + 2 * i) (4013 + 13 * i) p l e s m below meth c b i D kc) : lwS 445 (70 + 2 * i) (4000 + 13 * i) p l e s m below meth c b i D kc := by
  intro nm ad M H locs ls hAD hI hP hS hl
  obtain ⟨⟨hx, hb, hr, hml, hown, hts0, hX, hbl, hlocks, hgv⟩, hL, hi4, hK, hN, hAM, hAA⟩ := id G
  have hown : s.vm.findClass RL = some m.cls := hown
  have hts : ∀ w ∈ wsL_law, w.before #[Value.ref b] s = true := fun w h => hts0 w (wsL_law_in w h)
  refine lv_aload_n hx hb dL_law_445 rfl (lv_at hl 1 rfl) ?_
  refine lw_ld (k := 1) G (by omega) (by decide) hS hl dL_law_446 dL_law_447 dL_law_448 dL_law_449 dL_law_450 ?_
  refine lw_ld (k := 2) G (by omega) (by decide) hS hl dL_law_451 dL_law_452 dL_law_453 dL_law_454 dL_law_455 ?_
  obtain ⟨r, M1, M2, h5, h6, hI2⟩ := op_bears hI (xs (4 * i + 1)) (xs (4 * i + 2))
  refine q_cWi (va_runV (As := [.int (xs (4 * i + 1)), .int (xs (4 * i + 2))]) (rest := []) ⟨hx, hb, hml, hown, hts⟩ (ct_X5_bears l hAD (M := M) h5) (cwV 2 hts gL_law_X5_bears rfl rfl rfl (by decide +kernel) ⟨(Nat.le_of_ble_eq_true rfl), (Nat.le_of_ble_eq_true rfl)⟩) ⟨gw_blind, gw_recv ob_0 hK hP rfl, gw_pre _ hK hP hS.1 hN⟩ rfl rfl hl.1 rfl (lv_room (Nat.le_of_ble_eq_true rfl)) dL_law_456 ⟨by show 70 + 2 * i + 0 ≤ 600000; omega, by show 4000 + 13 * i + 0 ≤ 7302250; omega⟩) hS (fun H locs hP hS => ?_)
  refine lv_aload_n hx hb dL_law_459 rfl (lv_at hl 2 rfl) ?_
  refine lw_ld (k := 1) G (by omega) (by decide) hS hl dL_law_460 dL_law_461 dL_law_462 dL_law_463 dL_law_464 ?_
  refine lw_ld (k := 2) G (by omega) (by decide) hS hl dL_law_465 dL_law_466 dL_law_467 dL_law_468 dL_law_469 ?_
  refine q_cWi (va_runV (As := [.int (xs (4 * i + 1)), .int (xs (4 * i + 2))]) (rest := [.int r]) ⟨hx, hb, hml, hown, hts⟩ (ct_X6_bears l hAD (M := M1) h6) (cwV 2 hts gL_law_X6_bears rfl rfl rfl (by decide +kernel) ⟨(Nat.le_of_ble_eq_true rfl), (Nat.le_of_ble_eq_true rfl)⟩) ⟨gw_blind, gw_recv ob_35 hK hP rfl, gw_pre _ hK hP hS.1 hN⟩ rfl rfl hl.1 rfl (lv_room (Nat.le_of_ble_eq_true rfl)) dL_law_470 ⟨by show 70 + 2 * i + 0 ≤ 600000; omega, by show 4000 + 13 * i + 0 ≤ 7302250; omega⟩) hS (fun H locs hP hS => ?_)
  refine lv_icmp_eq (tgt := 801) hx hb dL_law_473 (by decide) (fun _ => ?_) (fun c1 => absurd rfl c1)
  refine W.widen (k := 72 + 2 * i) (n := 4013 + 13 * i) (by omega) (by omega) ?_
  exact nxt nm ad M2 H locs ls hAD hI2 hP hS hl
