/-! sets of files as longs, sets of mirrors and packages as ints -/
def hb (y : Int64) (f : Nat) : Bool := y.toBitVec.getLsbD f
def hbI (s : Int32) (j : Nat) : Bool := s.toBitVec.getLsbD j
def bt (f : Nat) : Int64 := lN (2 ^ f)
def b5 (j : Nat) : Int32 := nI (2 ^ j)
theorem hb_and (a b : Int64) (f : Nat) : hb (a &&& b) f = (hb a f && hb b f) := by unfold hb; rw [Int64.toBitVec_and, BitVec.getLsbD_and]
theorem hb_or (a b : Int64) (f : Nat) : hb (a ||| b) f = (hb a f || hb b f) := by unfold hb; rw [Int64.toBitVec_or, BitVec.getLsbD_or]
theorem hb_m1 : ∀ f, f < 64 → hb (-1) f = true := by decide +kernel
theorem hb_big {a : Int64} {f : Nat} (h : 64 ≤ f) : hb a f = false := BitVec.getLsbD_of_ge _ _ h
theorem hb_0 (f : Nat) : hb 0 f = false := BitVec.getLsbD_zero
theorem hb_not (a : Int64) {f : Nat} (h : f < 64) : hb (a ^^^ (-1)) f = !hb a f := by
  have : hb (a ^^^ (-1)) f = (hb a f ^^ hb (-1) f) := by unfold hb; rw [Int64.toBitVec_xor, BitVec.getLsbD_xor]
  rw [this, hb_m1 f h, Bool.xor_true]
theorem hb_ext {x y : Int64} (h : ∀ f, f < 64 → hb x f = hb y f) : x = y := Int64.toBitVec_inj.mp (BitVec.eq_of_getLsbD_eq (fun i hi => h i hi))
theorem hb_eq0 {y : Int64} : y = 0 ↔ ∀ f, f < 64 → hb y f = false := ⟨fun h f _ => by rw [h]; exact hb_0 f, fun h => hb_ext (fun f hf => by rw [h f hf, hb_0])⟩
theorem hb_bt {f : Nat} (h : f < 64) (g : Nat) : hb (bt f) g = decide (g = f) := by
  show (BitVec.ofNat 64 (2 ^ f)).getLsbD g = _
  rw [BitVec.getLsbD_ofNat, Nat.testBit_two_pow]
  by_cases hg : g = f
  · subst hg; simp [h]
  · simp [hg, Ne.symm hg]
theorem and_bt {y : Int64} {f : Nat} (h : f < 64) : y &&& bt f = 0 ↔ hb y f = false := by
  rw [hb_eq0]
  constructor
  · intro q
    have := q f h
    rw [hb_and, hb_bt h, decide_eq_true rfl, Bool.and_true] at this
    exact this
  · intro q g _
    rw [hb_and, hb_bt h]
    by_cases hg : g = f
    · rw [hg, q]; rfl
    · rw [decide_eq_false hg, Bool.and_false]
theorem cmp0 (y : Int64) : lg_cmp y 0 = nI 0 ↔ y = 0 := by
  unfold lg_cmp
  by_cases h1 : y > 0
  · rw [if_pos h1]
    constructor
    · intro q; exact absurd q (by decide)
    · intro q; rw [q] at h1; exact absurd h1 (by decide)
  · rw [if_neg h1]
    by_cases h2 : y = 0
    · rw [if_pos h2]; exact ⟨fun _ => h2, fun _ => rfl⟩
    · rw [if_neg h2]
      constructor
      · intro q; exact absurd q (by decide)
      · intro q; exact absurd q h2
theorem icmp0 {α : Type} {y : Int64} {A B : α} : (if lg_cmp y 0 = nI 0 then A else B) = if y = 0 then A else B := by
  by_cases h : y = 0
  · rw [if_pos h, if_pos ((cmp0 y).mpr h)]
  · rw [if_neg h, if_neg (fun q => h ((cmp0 y).mp q))]
theorem icmpb {α : Type} {y : Int64} {f : Nat} {A B : α} (h : f < 64) : (if lg_cmp (y &&& bt f) 0 = nI 0 then A else B) = if hb y f = true then B else A := by
  rw [icmp0]
  by_cases q : hb y f = true
  · rw [if_pos q, if_neg (fun z => by rw [and_bt h] at z; rw [z] at q; cases q)]
  · rw [if_neg q, if_pos ((and_bt h).mpr (by cases z : hb y f with | true => exact absurd z q | false => rfl))]
theorem e_bitOf60 : ∀ f : Fin 60, fn_X5_bitOf (nI f.val) = some (bt f.val) := by decide +kernel
theorem e_bitOf {f : Nat} (h : f < 60) : fn_X5_bitOf (nI f) = some (bt f) := e_bitOf60 ⟨f, h⟩
theorem e_bitOfm : fn_X5_bitOf m1 = some 0 := by decide +kernel
theorem allF60 : ∀ n : Fin 61, ((1 : Int64) <<< ((nI n.val).toInt64 &&& 63)) - (1 : Int64) = lN (2 ^ n.val - 1) := by decide +kernel
theorem hb_all {n : Nat} (h : n ≤ 60) (f : Nat) : hb (((1 : Int64) <<< ((nI n).toInt64 &&& 63)) - (1 : Int64)) f = decide (f < n) := by
  rw [allF60 ⟨n, by omega⟩]
  show (BitVec.ofNat 64 (2 ^ n - 1)).getLsbD f = _
  rw [BitVec.getLsbD_ofNat, Nat.testBit_two_pow_sub_one]
  by_cases q : f < n
  · have : f < 64 := by omega
    simp [q, this]
  · simp [q]
/-! ints -/
theorem hbI_and (a b : Int32) (f : Nat) : hbI (a &&& b) f = (hbI a f && hbI b f) := by unfold hbI; rw [Int32.toBitVec_and, BitVec.getLsbD_and]
theorem hbI_or (a b : Int32) (f : Nat) : hbI (a ||| b) f = (hbI a f || hbI b f) := by unfold hbI; rw [Int32.toBitVec_or, BitVec.getLsbD_or]
theorem hbI_0 (f : Nat) : hbI (nI 0) f = false := BitVec.getLsbD_zero
theorem hbI_ext {x y : Int32} (h : ∀ f, f < 32 → hbI x f = hbI y f) : x = y := Int32.toBitVec_inj.mp (BitVec.eq_of_getLsbD_eq (fun i hi => h i hi))
theorem hbI_b5 {f : Nat} (h : f < 32) (g : Nat) : hbI (b5 f) g = decide (g = f) := by
  show (BitVec.ofNat 32 (2 ^ f)).getLsbD g = _
  rw [BitVec.getLsbD_ofNat, Nat.testBit_two_pow]
  by_cases hg : g = f
  · subst hg; simp [h]
  · simp [hg, Ne.symm hg]
theorem shl32 : ∀ j : Fin 32, (nI 1) <<< (nI j.val &&& 31) = b5 j.val := by decide +kernel
theorem e_shl {j : Nat} (h : j < 32) : (nI 1) <<< (nI j &&& 31) = b5 j := shl32 ⟨j, h⟩
theorem and_b5 {y : Int32} {f : Nat} (h : f < 32) : y &&& b5 f = nI 0 ↔ hbI y f = false := by
  constructor
  · intro q
    have q2 : hbI (y &&& b5 f) f = hbI (nI 0) f := by rw [q]
    rw [hbI_and, hbI_b5 h, decide_eq_true rfl, Bool.and_true, hbI_0] at q2
    exact q2
  · intro q
    refine hbI_ext (fun g _ => ?_)
    rw [hbI_and, hbI_b5 h, hbI_0]
    by_cases hg : g = f
    · rw [hg, q]; rfl
    · rw [decide_eq_false hg, Bool.and_false]
theorem e_isIn {s : Int32} {j : Nat} (h : j < 32) : fn_X5_isIn s (nI j) = some (bI (hbI s j)) := by
  unfold fn_X5_isIn
  rw [e_within, bd1_s]
  have h1 : ((0 : Int32) ≤ nI j ∧ nI j ≤ (31 : Int32)) := ⟨nI_le (a := 0) (by omega) (by omega), nI_le (b := 31) (by omega) (by omega)⟩
  rw [decide_eq_true h1]
  show (if bI true = nI 0 then _ else _) = _
  rw [ibI0, if_pos rfl]
  show (if s &&& (nI 1 <<< (nI j &&& 31)) = nI 0 then _ else _) = _
  rw [e_shl h]
  cases q : hbI s j with
  | false => rw [if_pos ((and_b5 h).mpr q)]; rfl
  | true => rw [if_neg (fun z => by rw [and_b5 h, q] at z; cases z)]; rfl
theorem e_isInm {s : Int32} : fn_X5_isIn s m1 = some (bI false) := by
  unfold fn_X5_isIn
  rw [e_within, bd1_s]
  rfl
theorem sl32 : ∀ n, n < 32 → ((nI n &&& 31).toBitVec.smod 32).toNat = n := by decide +kernel
theorem hbI_one (g : Nat) : hbI (nI 1) g = decide (g = 0) := hbI_b5 (f := 0) (by decide) g
theorem e_shr {x : Int32} {j : Nat} (h : j < 32) : (x >>> (nI j &&& 31)) &&& nI 1 = bI (hbI x j) := by
  refine hbI_ext (fun g hg => ?_)
  rw [hbI_and, hbI_one]
  have e : ∀ b : Bool, hbI (bI b) g = (b && decide (g = 0)) := by
    intro b
    cases b with
    | false => exact hbI_0 g
    | true => rw [Bool.true_and]; exact hbI_one g
  rw [e]
  by_cases q : g = 0
  · subst q
    rw [decide_eq_true rfl, Bool.and_true, Bool.and_true]
    show (x >>> (nI j &&& 31)).toBitVec.getLsbD 0 = _
    rw [Int32.toBitVec_shiftRight]
    show (x.toBitVec.sshiftRight' ((nI j &&& 31).toBitVec.smod 32)).getLsbD 0 = _
    rw [BitVec.getLsbD_sshiftRight', sl32 j h, Nat.add_zero, if_pos h]
    rfl
  · rw [decide_eq_false q, Bool.and_false, Bool.and_false]
theorem e_shr2 {x : Int32} {j : Nat} (h : j < 32) : (x >>> (nI j &&& nI 31)) &&& nI 1 = bI (hbI x j) := e_shr h
theorem e_shl2 {j : Nat} (h : j < 32) : (nI 1) <<< (nI j &&& nI 31) = b5 j := e_shl h
/-! the count of bits -/
def cn (p : Nat → Bool) : Nat → Nat
  | 0 => 0
  | n + 1 => cn p n + (if p n = true then 1 else 0)
theorem cn_cong {p q : Nat → Bool} : ∀ {n : Nat}, (∀ k, k < n → p k = q k) → cn p n = cn q n
  | 0, _ => rfl
  | n + 1, h => by rw [cn, cn, cn_cong (fun k hk => h k (by omega)), h n (by omega)]
theorem cn_split (p : Nat → Bool) (m : Nat) : ∀ n, cn p (m + n) = cn p m + cn (fun k => p (m + k)) n
  | 0 => rfl
  | n + 1 => by
    show cn p (m + n) + (if p (m + n) = true then 1 else 0) = cn p m + (cn (fun k => p (m + k)) n + (if p (m + n) = true then 1 else 0))
    rw [cn_split p m n]
    omega
theorem cn_le (p : Nat → Bool) : ∀ n, cn p n ≤ n
  | 0 => Nat.le_refl 0
  | n + 1 => by
    have := cn_le p n
    rw [cn]
    split <;> omega
theorem cn_tail {p : Nat → Bool} {m : Nat} (h : ∀ k, m ≤ k → p k = false) : ∀ n, cn p (m + n) = cn p m
  | 0 => rfl
  | n + 1 => by
    show cn p (m + n) + (if p (m + n) = true then 1 else 0) = cn p m
    rw [cn_tail h n, h (m + n) (by omega)]
    rfl
def q1 (n m : Nat) : Nat := n - ((n / 2) &&& m)
def q2 (v m : Nat) : Nat := (v &&& m) + ((v / 4) &&& m)
def q3 (v m : Nat) : Nat := (v + v / 16) &&& m
theorem and_byte {a c d e : Nat} (ha : a < 256) (hd : d < 256) : (a + 256 * c) &&& (d + 256 * e) = (a &&& d) + 256 * (c &&& e) := by
  have h1 : a &&& d < 2 ^ 8 := Nat.lt_of_le_of_lt Nat.and_le_left ha
  apply Nat.eq_of_testBit_eq
  intro i
  rw [Nat.testBit_and, Nat.add_comm a, Nat.add_comm d, Nat.add_comm (a &&& d)]
  rw [show 256 = 2 ^ 8 from rfl]
  rw [Nat.testBit_two_pow_mul_add _ ha, Nat.testBit_two_pow_mul_add _ hd, Nat.testBit_two_pow_mul_add _ h1]
  by_cases q : i < 8
  · rw [if_pos q, if_pos q, if_pos q, Nat.testBit_and]
  · rw [if_neg q, if_neg q, if_neg q, Nat.testBit_and]
theorem y1a : ∀ b : Fin 256, ∀ t : Fin 2, (b.val / 2 + 128 * t.val) &&& 85 = (b.val / 2) &&& 85 := by decide +kernel
theorem y1b : ∀ b : Fin 256, (b.val / 2) &&& 85 ≤ b.val := by decide +kernel
theorem y1c : ∀ b : Fin 256, q1 b.val 85 < 256 := by decide +kernel
theorem y2a : ∀ b : Fin 256, ∀ t : Fin 4, (b.val / 4 + 64 * t.val) &&& 51 = (b.val / 4) &&& 51 := by decide +kernel
theorem y2c : ∀ b : Fin 256, q2 (q1 b.val 85) 51 < 256 ∧ q2 (q1 b.val 85) 51 % 16 ≤ 4 ∧ q2 (q1 b.val 85) 51 / 16 ≤ 4 := by decide +kernel
theorem y3a : ∀ v : Fin 80, ∀ t : Fin 5, v.val % 16 ≤ 4 → v.val / 16 ≤ 4 → (v.val + v.val / 16 + 16 * t.val) &&& 15 = (v.val + v.val / 16) &&& 15 := by decide +kernel
theorem y3c : ∀ b : Fin 256, q3 (q2 (q1 b.val 85) 51) 15 = cn (fun i => b.val.testBit i) 8 := by decide +kernel
theorem r1 {b r m : Nat} (hb : b < 256) : q1 (b + 256 * r) (85 + 256 * m) = q1 b 85 + 256 * q1 r m := by
  unfold q1
  have e : (b + 256 * r) / 2 = (b / 2 + 128 * (r % 2)) + 256 * (r / 2) := by omega
  have h0 : b / 2 + 128 * (r % 2) < 256 := by omega
  rw [e, and_byte h0 (by decide)]
  have h1 := y1a ⟨b, hb⟩ ⟨r % 2, Nat.mod_lt _ (by decide)⟩
  have h2 := y1b ⟨b, hb⟩
  dsimp only at h1 h2
  rw [h1]
  have h3 : r / 2 &&& m ≤ r := Nat.le_trans Nat.and_le_left (Nat.div_le_self _ _)
  omega
theorem r2 {b r m : Nat} (hb : b < 256) : q2 (b + 256 * r) (51 + 256 * m) = q2 b 51 + 256 * q2 r m := by
  unfold q2
  have e : (b + 256 * r) / 4 = (b / 4 + 64 * (r % 4)) + 256 * (r / 4) := by omega
  have h0 : b / 4 + 64 * (r % 4) < 256 := by omega
  rw [e, and_byte h0 (by decide), and_byte hb (by decide)]
  have h1 := y2a ⟨b, hb⟩ ⟨r % 4, Nat.mod_lt _ (by decide)⟩
  dsimp only at h1
  rw [h1]
  omega
theorem r3 {v r m : Nat} (hv : v < 256) (h1 : v % 16 ≤ 4) (h2 : v / 16 ≤ 4) (h3 : r % 16 ≤ 4) : q3 (v + 256 * r) (15 + 256 * m) = q3 v 15 + 256 * q3 r m := by
  unfold q3
  have e : v + 256 * r + (v + 256 * r) / 16 = (v + v / 16 + 16 * (r % 16)) + 256 * (r + r / 16) := by omega
  have h0 : v + v / 16 + 16 * (r % 16) < 256 := by omega
  rw [e, and_byte h0 (by decide)]
  have h4 := y3a ⟨v, by omega⟩ ⟨r % 16, by omega⟩ h1 h2
  dsimp only at h4
  rw [h4]
def mk (d : Nat) : Nat → Nat
  | 0 => 0
  | k + 1 => d + 256 * mk d k
def bc : Nat → Nat → Nat
  | 0, _ => 0
  | k + 1, n => cn (fun i => (n % 256).testBit i) 8 + 256 * bc k (n / 256)
theorem bc_ok : ∀ (k n : Nat), n < 256 ^ k → q3 (q2 (q1 n (mk 85 k)) (mk 51 k)) (mk 15 k) = bc k n ∧ q2 (q1 n (mk 85 k)) (mk 51 k) % 16 ≤ 4
  | 0, n, h => by
    have : n = 0 := by simpa using h
    subst this
    decide
  | k + 1, n, h => by
    have hb : n % 256 < 256 := Nat.mod_lt _ (by decide)
    have hq : n / 256 < 256 ^ k := by
      rw [Nat.pow_succ] at h
      omega
    obtain ⟨i1, i2⟩ := bc_ok k (n / 256) hq
    have e : n = n % 256 + 256 * (n / 256) := by omega
    have g1 := y1c ⟨n % 256, hb⟩
    obtain ⟨g2, g3, g4⟩ := y2c ⟨n % 256, hb⟩
    have g5 := y3c ⟨n % 256, hb⟩
    dsimp only at g1 g2 g3 g4 g5
    have s1 : q1 n (mk 85 (k + 1)) = q1 (n % 256) 85 + 256 * q1 (n / 256) (mk 85 k) := by
      conv => lhs; rw [e]
      exact r1 hb
    have s2 : q2 (q1 n (mk 85 (k + 1))) (mk 51 (k + 1)) = q2 (q1 (n % 256) 85) 51 + 256 * q2 (q1 (n / 256) (mk 85 k)) (mk 51 k) := by
      rw [s1]
      exact r2 g1
    rw [s2]
    refine ⟨?_, by omega⟩
    show q3 _ (15 + 256 * mk 15 k) = _
    rw [r3 g2 g3 g4 i2, g5, i1]
    rfl
theorem cn_byte (n : Nat) : ∀ k, cn (fun i => n.testBit i) (8 + k) = cn (fun i => (n % 256).testBit i) 8 + cn (fun i => (n / 256).testBit i) k := by
  intro k
  rw [cn_split]
  congr 1
  · apply cn_cong
    intro i hi
    rw [show 256 = 2 ^ 8 from rfl, Nat.testBit_mod_two_pow]
    simp [hi]
  · apply cn_cong
    intro i _
    rw [show 256 = 2 ^ 8 from rfl, Nat.testBit_div_two_pow, Nat.add_comm]
theorem wb_tb (n : Nat) : (lN n).toBitVec = BitVec.ofNat 64 n := rfl
theorem wb_inj {a b : Int64} (h : a.toBitVec = b.toBitVec) : a = b := Int64.toBitVec_inj.mp h
theorem wb_tn {n : Nat} (h : n < 2 ^ 64) : (lN n).toBitVec.toNat = n := by rw [wb_tb, BitVec.toNat_ofNat, Nat.mod_eq_of_lt h]
theorem wb_of (x : Int64) : ∃ n, n < 2 ^ 64 ∧ x = lN n := ⟨x.toBitVec.toNat, x.toBitVec.isLt, wb_inj (by rw [wb_tb]; simp)⟩
theorem wb_cu : ∀ k, k < 64 → ((nI k).toInt64.toUInt64 &&& Int64.toUInt64 63) = UInt64.ofNat k := by decide +kernel
theorem u_tn {n : Nat} (h : n < 2 ^ 64) : (UInt64.ofNat n).toNat = n := Nat.mod_eq_of_lt h
theorem wb_shr {n k : Nat} (hn : n < 2 ^ 64) (hk : k < 64) : ((lN n).toUInt64 >>> ((nI k).toInt64.toUInt64 &&& Int64.toUInt64 63)).toInt64 = lN (n / 2 ^ k) := by
  rw [wb_cu k hk]
  apply wb_inj
  apply BitVec.eq_of_toNat_eq
  show ((lN n).toUInt64 >>> UInt64.ofNat k).toNat = _
  rw [UInt64.toNat_shiftRight]
  have h1 : (UInt64.ofNat k).toNat = k := u_tn (by omega)
  have h2 : (lN n).toUInt64.toNat = n := wb_tn hn
  rw [h1, h2, Nat.mod_eq_of_lt hk, Nat.shiftRight_eq_div_pow, wb_tn (Nat.lt_of_le_of_lt (Nat.div_le_self _ _) hn)]
theorem wb_and {a b : Nat} (ha : a < 2 ^ 64) (hb : b < 2 ^ 64) : lN a &&& lN b = lN (a &&& b) := by
  apply wb_inj
  apply BitVec.eq_of_toNat_eq
  rw [Int64.toBitVec_and, BitVec.toNat_and, wb_tn ha, wb_tn hb, wb_tn (Nat.lt_of_le_of_lt Nat.and_le_left ha)]
theorem l2i_127 : ∀ n : Nat, n < 2 ^ 64 → (lN n).toInt32 &&& (127 : Int32) = nI (n % 128) := by
  intro n hn
  rw [lN_i]
  exact pk_and (nI n) (m := 127) 7 (by decide) |>.trans (by
    congr 1
    show (BitVec.ofNat 32 n).toNat % 2 ^ 7 = n % 128
    rw [BitVec.toNat_ofNat]
    omega)
theorem sum8 {p0 p1 p2 p3 p4 p5 p6 p7 v v4 v5 v6 : Nat} (h0 : p0 ≤ 8) (h1 : p1 ≤ 8) (h2 : p2 ≤ 8) (h3 : p3 ≤ 8) (h4 : p4 ≤ 8) (h5 : p5 ≤ 8) (h6 : p6 ≤ 8) (h7 : p7 ≤ 8) (hv : v = p0 + 256 * (p1 + 256 * (p2 + 256 * (p3 + 256 * (p4 + 256 * (p5 + 256 * (p6 + 256 * p7))))))) (e4 : v4 = v + v / 256) (e5 : v5 = v4 + v4 / 65536) (e6 : v6 = v5 + v5 / 4294967296) : v6 % 128 = p0 + (p1 + (p2 + (p3 + (p4 + (p5 + (p6 + p7)))))) := by
  obtain ⟨r6, e_6⟩ : ∃ r, r = p6 + 256 * p7 := ⟨_, rfl⟩
  obtain ⟨r5, e_5⟩ : ∃ r, r = p5 + 256 * r6 := ⟨_, rfl⟩
  obtain ⟨r4, e_4⟩ : ∃ r, r = p4 + 256 * r5 := ⟨_, rfl⟩
  obtain ⟨r3, e_3⟩ : ∃ r, r = p3 + 256 * r4 := ⟨_, rfl⟩
  obtain ⟨r2, e_2⟩ : ∃ r, r = p2 + 256 * r3 := ⟨_, rfl⟩
  rw [← e_6, ← e_5, ← e_4, ← e_3, ← e_2] at hv
  have a1 : v / 256 = p1 + 256 * r2 := by clear e4 e5 e6 e_2 e_3 e_4 e_5 e_6; omega
  have f4 : v4 = (p0 + p1 + 256 * (p1 + p2)) + 65536 * (r2 + r3) := by rw [e4, a1, hv, e_2]; clear e4 e5 e6 hv a1; omega
  have a2 : v4 / 65536 = r2 + r3 := by clear e4 e5 e6 e_2 e_3 e_4 e_5 e_6 a1 hv; omega
  have g2 : r2 + r3 = ((p2 + p3) + 256 * (p3 + p4)) + 65536 * (r4 + r5) := by clear e4 e5 e6 a1 a2 f4 hv e_5 e_6; omega
  have g4 : r4 + r5 = ((p4 + p5) + 256 * (p5 + p6)) + 65536 * (r6 + p7) := by clear e4 e5 e6 a1 a2 f4 hv g2 e_2 e_3; omega
  have f5 : v5 = (p0 + p1 + p2 + p3 + 256 * (p1 + p2 + p3 + p4) + 65536 * (p2 + p3 + p4 + p5) + 16777216 * (p3 + p4 + p5 + p6)) + 4294967296 * ((r4 + r5) + (r6 + p7)) := by
    rw [e5, a2, f4]
    clear e4 e5 e6 a1 a2 f4 hv e_2 e_3 e_4 e_5 e_6
    generalize r2 + r3 = x at *
    generalize r4 + r5 = y at *
    generalize r6 + p7 = w at *
    omega
  have a3 : v5 / 4294967296 = (r4 + r5) + (r6 + p7) := by
    clear e4 e5 e6 a1 a2 f4 hv e_2 e_3 e_4 e_5 e_6 g2 g4
    generalize (r4 + r5) + (r6 + p7) = y at *
    omega
  rw [e6, a3, f5]
  clear e4 e5 e6 a1 a2 f4 hv e_2 e_3 e_4 e_5 g2 f5 a3
  omega
theorem cn_64 (n : Nat) : ∃ p0 p1 p2 p3 p4 p5 p6 p7 : Nat, (p0 ≤ 8 ∧ p1 ≤ 8 ∧ p2 ≤ 8 ∧ p3 ≤ 8 ∧ p4 ≤ 8 ∧ p5 ≤ 8 ∧ p6 ≤ 8 ∧ p7 ≤ 8) ∧ bc 8 n = p0 + 256 * (p1 + 256 * (p2 + 256 * (p3 + 256 * (p4 + 256 * (p5 + 256 * (p6 + 256 * p7)))))) ∧ cn (fun i => n.testBit i) 64 = p0 + (p1 + (p2 + (p3 + (p4 + (p5 + (p6 + p7)))))) := by
  refine ⟨_, _, _, _, _, _, _, _, ⟨cn_le (fun i => (n % 256).testBit i) 8, cn_le (fun i => (n / 256 % 256).testBit i) 8, cn_le (fun i => (n / 256 / 256 % 256).testBit i) 8, cn_le (fun i => (n / 256 / 256 / 256 % 256).testBit i) 8, cn_le (fun i => (n / 256 / 256 / 256 / 256 % 256).testBit i) 8, cn_le (fun i => (n / 256 / 256 / 256 / 256 / 256 % 256).testBit i) 8, cn_le (fun i => (n / 256 / 256 / 256 / 256 / 256 / 256 % 256).testBit i) 8, cn_le (fun i => (n / 256 / 256 / 256 / 256 / 256 / 256 / 256 % 256).testBit i) 8⟩, ?_, ?_⟩
  · simp only [bc, Nat.mul_zero, Nat.add_zero]
  · rw [show 64 = 8 + 56 from rfl, cn_byte, show 56 = 8 + 48 from rfl, cn_byte, show 48 = 8 + 40 from rfl, cn_byte, show 40 = 8 + 32 from rfl, cn_byte, show 32 = 8 + 24 from rfl, cn_byte, show 24 = 8 + 16 from rfl, cn_byte, show 16 = 8 + 8 from rfl, cn_byte, show cn (fun i => (n / 256 / 256 / 256 / 256 / 256 / 256 / 256).testBit i) 8 = cn (fun i => (n / 256 / 256 / 256 / 256 / 256 / 256 / 256).testBit i) (8 + 0) from rfl, cn_byte]
    rfl
theorem hb_lN {n f : Nat} (hf : f < 64) : hb (lN n) f = n.testBit f := by
  show (BitVec.ofNat 64 n).getLsbD f = _
  rw [BitVec.getLsbD_ofNat, decide_eq_true hf, Bool.true_and]
theorem bitc {n : Nat} (hn : n < 2 ^ 64) : fn_J13_bitCount_95d88 (lN n) = some (nI (cn (fun i => n.testBit i) 64)) := by
  have m1 : (6148914691236517205 : Int64) = lN (mk 85 8) := by decide +kernel
  have m2 : (3689348814741910323 : Int64) = lN (mk 51 8) := by decide +kernel
  have m3 : (1085102592571150095 : Int64) = lN (mk 15 8) := by decide +kernel
  have b1 : mk 85 8 < 2 ^ 64 := by decide
  have b2 : mk 51 8 = 3689348814741910323 := by decide
  have b3 : mk 15 8 = 1085102592571150095 := by decide
  have sh : ∀ (k : Nat), k < 64 → ∀ v, v < 2 ^ 64 → ((lN v).toUInt64 >>> ((nI k).toInt64.toUInt64 &&& Int64.toUInt64 63)).toInt64 = lN (v / 2 ^ k) := fun k hk v hv => wb_shr hv hk
  obtain ⟨g1, -⟩ := bc_ok 8 n (by omega)
  have v1b : q1 n (mk 85 8) < 2 ^ 64 := Nat.lt_of_le_of_lt (Nat.sub_le _ _) hn
  have v2b : q2 (q1 n (mk 85 8)) (mk 51 8) ≤ 2 * mk 51 8 := by
    have h1 : q1 n (mk 85 8) &&& mk 51 8 ≤ mk 51 8 := Nat.and_le_right
    have h2 : (q1 n (mk 85 8)) / 4 &&& mk 51 8 ≤ mk 51 8 := Nat.and_le_right
    unfold q2
    omega
  have v3b : bc 8 n ≤ mk 15 8 := by rw [← g1]; exact Nat.and_le_right
  have e1 : lN n - (((lN n).toUInt64 >>> ((1 : Int32).toInt64.toUInt64 &&& Int64.toUInt64 63)).toInt64 &&& (6148914691236517205 : Int64)) = lN (q1 n (mk 85 8)) := by
    rw [show (1 : Int32) = nI 1 from rfl, sh 1 (by decide) n hn, m1, wb_and (by omega) b1, lN_sub (Nat.le_trans Nat.and_le_left (Nat.div_le_self _ _))]
    rfl
  have e2 : (lN (q1 n (mk 85 8)) &&& (3689348814741910323 : Int64)) + (((lN (q1 n (mk 85 8))).toUInt64 >>> ((2 : Int32).toInt64.toUInt64 &&& Int64.toUInt64 63)).toInt64 &&& (3689348814741910323 : Int64)) = lN (q2 (q1 n (mk 85 8)) (mk 51 8)) := by
    rw [show (2 : Int32) = nI 2 from rfl, sh 2 (by decide) _ v1b, m2, wb_and v1b (by omega), wb_and (Nat.lt_of_le_of_lt (Nat.div_le_self _ _) v1b) (by omega), lN_add]
    rfl
  have e3 : (lN (q2 (q1 n (mk 85 8)) (mk 51 8)) + ((lN (q2 (q1 n (mk 85 8)) (mk 51 8))).toUInt64 >>> ((4 : Int32).toInt64.toUInt64 &&& Int64.toUInt64 63)).toInt64) &&& (1085102592571150095 : Int64) = lN (bc 8 n) := by
    rw [show (4 : Int32) = nI 4 from rfl, sh 4 (by decide) _ (by omega), m3, lN_add, wb_and (by omega) (by omega), ← g1]
    rfl
  have e4 : lN (bc 8 n) + ((lN (bc 8 n)).toUInt64 >>> ((8 : Int32).toInt64.toUInt64 &&& Int64.toUInt64 63)).toInt64 = lN (bc 8 n + bc 8 n / 256) := by
    rw [show (8 : Int32) = nI 8 from rfl, sh 8 (by decide) _ (by omega), lN_add]
  have e5 : ∀ v, v < 2 ^ 62 → lN v + ((lN v).toUInt64 >>> ((16 : Int32).toInt64.toUInt64 &&& Int64.toUInt64 63)).toInt64 = lN (v + v / 65536) := by
    intro v hv
    rw [show (16 : Int32) = nI 16 from rfl, sh 16 (by decide) _ (by omega), lN_add]
  have e6 : ∀ v, v < 2 ^ 62 → lN v + ((lN v).toUInt64 >>> ((32 : Int32).toInt64.toUInt64 &&& Int64.toUInt64 63)).toInt64 = lN (v + v / 4294967296) := by
    intro v hv
    rw [show (32 : Int32) = nI 32 from rfl, sh 32 (by decide) _ (by omega), lN_add]
  unfold fn_J13_bitCount_95d88
  simp only [nx_e]
  rw [e1, e2, e3, e4, e5 _ (by omega), e6 _ (by omega), l2i_127 _ (by omega)]
  obtain ⟨p0, p1, p2, p3, p4, p5, p6, p7, ⟨h0, h1, h2, h3, h4, h5, h6, h7⟩, hv, hc⟩ := cn_64 n
  rw [hc, sum8 h0 h1 h2 h3 h4 h5 h6 h7 hv rfl rfl rfl]
theorem e_bitCount (y : Int64) : fn_J13_bitCount_95d88 y = some (nI (cn (hb y) 64)) := by
  obtain ⟨n, hn, rfl⟩ := wb_of y
  rw [bitc hn, cn_cong (fun k hk => (hb_lN hk).symm)]
theorem low64 : ∀ f : Fin 64, fn_J13_bitCount_95d88 (bt f.val - (1 : Int64)) = some (nI f.val) := by decide +kernel
theorem e_leastOf {y : Int64} {f : Nat} (hf : f < 64) (h1 : hb y f = true) (h2 : ∀ g, g < f → hb y g = false) : fn_X5_leastOf y = some (nI f) := by
  have e : y &&& (-y) = bt f := by
    refine hb_ext (fun g hg => ?_)
    rw [hb_and, hb_bt hf]
    have hn : hb (-y) g = (hb y g ^^ decide (∃ j, j < g ∧ hb y j = true)) := by
      show (-y).toBitVec.getLsbD g = _
      rw [Int64.toBitVec_neg, BitVec.getLsbD_neg, decide_eq_true hg, Bool.true_and]
      rfl
    rw [hn]
    by_cases q : g = f
    · subst q
      have : ¬ ∃ j, j < g ∧ hb y j = true := fun ⟨j, hj, z⟩ => by rw [h2 j hj] at z; cases z
      rw [h1, decide_eq_false this, decide_eq_true rfl]
      rfl
    · rw [decide_eq_false q]
      rcases Nat.lt_or_ge g f with z | z
      · rw [h2 g z]; rfl
      · have : ∃ j, j < g ∧ hb y j = true := ⟨f, by omega, h1⟩
        rw [decide_eq_true this]
        cases hb y g <;> rfl
  unfold fn_X5_leastOf
  rw [e, low64 ⟨f, hf⟩, bd1_s]
theorem least_ex {p : Nat → Bool} {n : Nat} (h : ∃ f, f < n ∧ p f = true) : ∃ f, f < n ∧ p f = true ∧ ∀ g, g < f → p g = false := by
  obtain ⟨f, ⟨h1, h2⟩, h3⟩ := pk_least (fun f => f < n ∧ p f = true) h
  refine ⟨f, h1, h2, fun g hg => ?_⟩
  cases q : p g with
  | false => rfl
  | true => exact absurd ⟨by omega, q⟩ (h3 g hg)
theorem bc256 : ∀ b : Fin 256, fn_J6_bitCount_0f7a4 (nI b.val) = some (nI (cn (hbI (nI b.val)) 8)) := by decide +kernel
