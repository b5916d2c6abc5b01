/-! numbers, for evaluation by simp with omega for the side conditions -/
theorem l_0 : (0 : Int32) = nI 0 := by decide
theorem l_1 : (1 : Int32) = nI 1 := by decide
theorem l_2 : (2 : Int32) = nI 2 := by decide
theorem l_3 : (3 : Int32) = nI 3 := by decide
theorem l_4 : (4 : Int32) = nI 4 := by decide
theorem l_5 : (5 : Int32) = nI 5 := by decide
theorem l_6 : (6 : Int32) = nI 6 := by decide
theorem l_7 : (7 : Int32) = nI 7 := by decide
theorem l_8 : (8 : Int32) = nI 8 := by decide
theorem l_11 : (11 : Int32) = nI 11 := by decide
theorem l_12 : (12 : Int32) = nI 12 := by decide
theorem l_31 : (31 : Int32) = nI 31 := by decide
theorem l_39 : (39 : Int32) = nI 39 := by decide
theorem l_40 : (40 : Int32) = nI 40 := by decide
theorem l_59 : (59 : Int32) = nI 59 := by decide
theorem l_60 : (60 : Int32) = nI 60 := by decide
theorem l_100 : (100 : Int32) = nI 100 := by decide
theorem l_500 : (500 : Int32) = nI 500 := by decide
theorem l_1000 : (1000 : Int32) = nI 1000 := by decide
theorem l_4095 : (4095 : Int32) = nI 4095 := by decide
theorem l_9999 : (9999 : Int32) = nI 9999 := by decide
theorem ix_nI {n : Nat} (h : n < 2147483648) : ix (nI n) = n := nI_clamp h
theorem ok_nI {i n : Nat} (h : i < 2147483648) : ok (nI i) n = decide (i < n) := by
  unfold ok
  rw [ix_nI h, decide_eq_true (nI_pos h)]
  rfl
theorem nx_e {α β : Type} (v : α) (k : α → Option β) : nx v k = k v := rfl
theorem ck_t {β : Type} (k : Option β) : ck true k = k := rfl
theorem ck_f {β : Type} (k : Option β) : ck false k = none := rfl
theorem ck_ok {β : Type} {i n : Nat} {k : Option β} (h : i < n) (hn : n < 2147483648) : ck (ok (nI i) n) k = k := by
  rw [ok_nI (by omega), decide_eq_true h]
  rfl
theorem bd1_s {α β : Type} (a : α) (k : α → Option β) : bd1 (some a) k = k a := rfl
theorem bd1_n {α β : Type} (k : α → Option β) : bd1 none k = none := rfl
theorem bd2_s {α γ β : Type} (a : α) (b : γ) (k : α → γ → Option β) : bd2 (some (a, b)) k = k a b := rfl
theorem oc_n {β : Type} (a : Option β) (f : Nat → Option β) : oc none a f = a := rfl
theorem oc_s {β : Type} (n : Nat) (a : Option β) (f : Nat → Option β) : oc (some n) a f = f n := rfl
theorem nI_sub {a b : Nat} (h : b ≤ a) : nI a - nI b = nI (a - b) := pk_sub h
theorem ile_t {α : Type} {a b : Nat} {A B : α} (h : a ≤ b) (hb : b < 2147483648) : (if nI a ≤ nI b then A else B) = A := if_pos (nI_le h hb)
theorem ile_f {α : Type} {a b : Nat} {A B : α} (h : b < a) (ha : a < 2147483648) : (if nI a ≤ nI b then A else B) = B := if_neg (nI_ge h ha)
theorem ilt_t {α : Type} {a b : Nat} {A B : α} (h : a < b) (hb : b < 2147483648) : (if nI a < nI b then A else B) = A := if_pos (nI_lt h hb)
theorem ilt_f {α : Type} {a b : Nat} {A B : α} (h : b ≤ a) (ha : a < 2147483648) : (if nI a < nI b then A else B) = B := if_neg (nI_nlt h ha)
theorem ieq_t {α : Type} {a b : Nat} {A B : α} (h : a = b) : (if nI a = nI b then A else B) = A := if_pos (by rw [h])
theorem ieq_f {α : Type} {a b : Nat} {A B : α} (h : a ≠ b) (ha : a < 2147483648) (hb : b < 2147483648) : (if nI a = nI b then A else B) = B := if_neg (fun q => h ((nI_eq ha hb).mp q))
def m1 : Int32 := -1
theorem m1_e : -nI 1 = m1 := by decide
theorem nI_ne_m1 {n : Nat} (h : n < 2147483648) : ¬ nI n = m1 := fun q => by
  have h1 := nI_toInt h
  rw [q] at h1
  have : m1.toInt = -1 := rfl
  omega
theorem m1_lt_nI {n : Nat} (h : n < 2147483648) : m1 < nI n := by
  rw [Int32.lt_iff_toInt_lt, nI_toInt h, show m1.toInt = -1 from rfl]
  omega
theorem m1_le_nI {n : Nat} (h : n < 2147483648) : m1 ≤ nI n := by
  rw [Int32.le_iff_toInt_le, nI_toInt h, show m1.toInt = -1 from rfl]
  omega
theorem nI_nlt_m1 {n : Nat} (h : n < 2147483648) : ¬ nI n < m1 := by
  rw [Int32.lt_iff_toInt_lt, nI_toInt h, show m1.toInt = -1 from rfl]
  omega
theorem nI_nle_m1 {n : Nat} (h : n < 2147483648) : ¬ nI n ≤ m1 := by
  rw [Int32.le_iff_toInt_le, nI_toInt h, show m1.toInt = -1 from rfl]
  omega
theorem ile_m1 {α : Type} {n : Nat} {A B : α} (h : n < 2147483648) : (if nI n ≤ m1 then A else B) = B := if_neg (nI_nle_m1 h)
theorem ilt_m1 {α : Type} {n : Nat} {A B : α} (h : n < 2147483648) : (if nI n < m1 then A else B) = B := if_neg (nI_nlt_m1 h)
theorem ieq_m1 {α : Type} {n : Nat} {A B : α} (h : n < 2147483648) : (if nI n = m1 then A else B) = B := if_neg (nI_ne_m1 h)
theorem imle_m1 {α : Type} {n : Nat} {A B : α} (h : n < 2147483648) : (if m1 ≤ nI n then A else B) = A := if_pos (m1_le_nI h)
theorem imlt_m1 {α : Type} {n : Nat} {A B : α} (h : n < 2147483648) : (if m1 < nI n then A else B) = A := if_pos (m1_lt_nI h)
theorem imeq_m1 {α : Type} {n : Nat} {A B : α} (h : n < 2147483648) : (if m1 = nI n then A else B) = B := if_neg (fun q => nI_ne_m1 h q.symm)
theorem imeq_s {α : Type} {A B : α} : (if m1 = m1 then A else B) = A := if_pos rfl
theorem ieq_s {α : Type} {x : Int32} {A B : α} : (if x = x then A else B) = A := if_pos rfl
theorem ile_s {α : Type} {x : Int32} {A B : α} : (if x ≤ x then A else B) = A := if_pos Int32.le_rfl
theorem ilt_s {α : Type} {x : Int32} {A B : α} : (if x < x then A else B) = B := if_neg (Int32.lt_irrefl)
/-! memory -/
theorem gI_s (M : Mem) (i j : Nat) (v : Int32) : gI (sI M i j v) i j = v := by simp [gI, sI]
theorem gI_ne1 {M : Mem} {i j a b : Nat} {v : Int32} (h : a ≠ i) : gI (sI M i j v) a b = gI M a b := by simp [gI, sI, h]
theorem gI_ne2 {M : Mem} {i j a b : Nat} {v : Int32} (h : b ≠ j) : gI (sI M i j v) a b = gI M a b := by simp [gI, sI, h]
theorem gJ_s (M : Mem) (i j : Nat) (v : Int64) : gJ (sJ M i j v) i j = v := by simp [gJ, sJ]
theorem gJ_ne1 {M : Mem} {i j a b : Nat} {v : Int64} (h : a ≠ i) : gJ (sJ M i j v) a b = gJ M a b := by simp [gJ, sJ, h]
theorem gJ_ne2 {M : Mem} {i j a b : Nat} {v : Int64} (h : b ≠ j) : gJ (sJ M i j v) a b = gJ M a b := by simp [gJ, sJ, h]
theorem gI_sJ (M : Mem) (i j a b : Nat) (v : Int64) : gI (sJ M i j v) a b = gI M a b := rfl
theorem gJ_sI (M : Mem) (i j a b : Nat) (v : Int32) : gJ (sI M i j v) a b = gJ M a b := rfl
theorem gI_if (M : Mem) (i j a b : Nat) (v : Int32) : gI (sI M i j v) a b = if a = i ∧ b = j then v else gI M a b := rfl
theorem gJ_if (M : Mem) (i j a b : Nat) (v : Int64) : gJ (sJ M i j v) a b = if a = i ∧ b = j then v else gJ M a b := rfl
theorem gI_cp (M : Mem) (i sp dp n a b : Nat) : gI (cpI M i sp dp n) a b = if a = i ∧ dp ≤ b ∧ b < dp + n then gI M a (sp + (b - dp)) else gI M a b := rfl
theorem gJ_cp (M : Mem) (i sp dp n a b : Nat) : gJ (cpI M i sp dp n) a b = gJ M a b := rfl
theorem gI_cpn {M : Mem} {i sp dp n a b : Nat} (h : a ≠ i) : gI (cpI M i sp dp n) a b = gI M a b := by simp [gI, cpI, h]
/-! an answer of true or false -/
def bI (b : Bool) : Int32 := if b then 1 else 0
theorem bI_t : bI true = nI 1 := rfl
theorem bI_f : bI false = nI 0 := rfl
theorem ibI0 {α : Type} {b : Bool} {A B : α} : (if bI b = nI 0 then A else B) = if b = true then B else A := by cases b <;> rfl
theorem ibI1 {α : Type} {b : Bool} {A B : α} : (if bI b = nI 1 then A else B) = if b = true then A else B := by cases b <;> rfl
theorem bI_inj {a b : Bool} (h : bI a = bI b) : a = b := by
  cases a <;> cases b <;> first | rfl | (exact absurd h (by decide))
/-! arguments of any kind -/
theorem ar_cases (x : Int32) (n : Nat) (hn : n < 2147483648) : x < nI 0 ∨ nI n ≤ x ∨ ∃ j : Nat, j < n ∧ x = nI j := pk_ix x hn
theorem lt_trans' {x : Int32} {n : Nat} (h : x < nI 0) (hn : n < 2147483648) : x < nI n := by
  rw [Int32.lt_iff_toInt_lt] at *
  rw [nI_toInt hn]
  rw [nI_toInt (by omega)] at h
  omega
theorem of_lt0 {x : Int32} (h : x < nI 0) {n : Nat} (hn : n < 2147483648) : ¬ nI n ≤ x ∧ x < nI n ∧ ¬ x = nI n := by
  rw [Int32.le_iff_toInt_le, Int32.lt_iff_toInt_lt, ← Int32.toInt_inj]
  rw [Int32.lt_iff_toInt_lt, nI_toInt (by omega)] at h
  rw [nI_toInt hn]
  omega
theorem of_ge {x : Int32} {n k : Nat} (h : nI n ≤ x) (hn : n < 2147483648) (hk : k < n) : nI k < x ∧ nI k ≤ x ∧ ¬ x ≤ nI k ∧ ¬ x < nI k ∧ ¬ x = nI k := by
  rw [Int32.le_iff_toInt_le, Int32.le_iff_toInt_le, Int32.lt_iff_toInt_lt, Int32.lt_iff_toInt_lt, ← Int32.toInt_inj]
  rw [Int32.le_iff_toInt_le, nI_toInt hn] at h
  rw [nI_toInt (by omega)]
  omega
theorem e_within (x a b : Int32) : fn_X5_isWithin x a b = some (bI (decide (a ≤ x ∧ x ≤ b))) := by
  unfold fn_X5_isWithin
  by_cases h1 : x < a
  · rw [if_pos h1, decide_eq_false (fun q => absurd h1 (Int32.not_lt.mpr q.1))]
    rfl
  · rw [if_neg h1]
    by_cases h2 : b < x
    · rw [if_pos h2, decide_eq_false (fun q => absurd h2 (Int32.not_lt.mpr q.2))]
      rfl
    · rw [if_neg h2, decide_eq_true ⟨Int32.not_lt.mp h1, Int32.not_lt.mp h2⟩]
      rfl
theorem e_in (x a b : Int32) : fn_X6_in x a b = some (bI (decide (a ≤ x ∧ x ≤ b))) := by
  unfold fn_X6_in
  by_cases h1 : x < a
  · rw [if_pos h1, decide_eq_false (fun q => absurd h1 (Int32.not_lt.mpr q.1))]
    rfl
  · rw [if_neg h1]
    by_cases h2 : b < x
    · rw [if_pos h2, decide_eq_false (fun q => absurd h2 (Int32.not_lt.mpr q.2))]
      rfl
    · rw [if_neg h2, decide_eq_true ⟨Int32.not_lt.mp h1, Int32.not_lt.mp h2⟩]
      rfl
theorem it1_h {A1 B : Type} {f : (A1 → Option B) → A1 → Option B} (P : A1 → Prop) (μ : A1 → Nat) (Q : A1 → B → Prop) (h : ∀ (a1 : A1), P a1 → ∀ rc : A1 → Option B, (∀ (b1 : A1), P b1 → μ b1 < μ a1 → ∃ r, rc b1 = some r ∧ Q b1 r) → ∃ r, f rc a1 = some r ∧ Q a1 r) : ∀ (n : Nat) (a1 : A1), P a1 → μ a1 < n → ∃ r, it1 f n a1 = some r ∧ Q a1 r := by
  intro n
  induction n with
  | zero => intro a1 _ hn; omega
  | succ n ih => intro a1 hp hn; exact h a1 hp (it1 f n) (fun b1 hq hm => ih b1 hq (by omega))
theorem it1_v {A1 B : Type} {f : (A1 → Option B) → A1 → Option B} (P : A1 → Prop) (μ : A1 → Nat) (val : A1 → Option B) (h : ∀ (a1 : A1), P a1 → ∀ rc : A1 → Option B, (∀ (b1 : A1), P b1 → μ b1 < μ a1 → rc b1 = val b1) → f rc a1 = val a1) : ∀ (n : Nat) (a1 : A1), P a1 → μ a1 < n → it1 f n a1 = val a1 := by
  intro n
  induction n with
  | zero => intro a1 _ hn; omega
  | succ n ih => intro a1 hp hn; exact h a1 hp (it1 f n) (fun b1 hq hm => ih b1 hq (by omega))
theorem it2_h {A1 A2 B : Type} {f : (A1 → A2 → Option B) → A1 → A2 → Option B} (P : A1 → A2 → Prop) (μ : A1 → A2 → Nat) (Q : A1 → A2 → B → Prop) (h : ∀ (a1 : A1) (a2 : A2), P a1 a2 → ∀ rc : A1 → A2 → Option B, (∀ (b1 : A1) (b2 : A2), P b1 b2 → μ b1 b2 < μ a1 a2 → ∃ r, rc b1 b2 = some r ∧ Q b1 b2 r) → ∃ r, f rc a1 a2 = some r ∧ Q a1 a2 r) : ∀ (n : Nat) (a1 : A1) (a2 : A2), P a1 a2 → μ a1 a2 < n → ∃ r, it2 f n a1 a2 = some r ∧ Q a1 a2 r := by
  intro n
  induction n with
  | zero => intro a1 a2 _ hn; omega
  | succ n ih => intro a1 a2 hp hn; exact h a1 a2 hp (it2 f n) (fun b1 b2 hq hm => ih b1 b2 hq (by omega))
theorem it2_v {A1 A2 B : Type} {f : (A1 → A2 → Option B) → A1 → A2 → Option B} (P : A1 → A2 → Prop) (μ : A1 → A2 → Nat) (val : A1 → A2 → Option B) (h : ∀ (a1 : A1) (a2 : A2), P a1 a2 → ∀ rc : A1 → A2 → Option B, (∀ (b1 : A1) (b2 : A2), P b1 b2 → μ b1 b2 < μ a1 a2 → rc b1 b2 = val b1 b2) → f rc a1 a2 = val a1 a2) : ∀ (n : Nat) (a1 : A1) (a2 : A2), P a1 a2 → μ a1 a2 < n → it2 f n a1 a2 = val a1 a2 := by
  intro n
  induction n with
  | zero => intro a1 a2 _ hn; omega
  | succ n ih => intro a1 a2 hp hn; exact h a1 a2 hp (it2 f n) (fun b1 b2 hq hm => ih b1 b2 hq (by omega))
theorem it3_h {A1 A2 A3 B : Type} {f : (A1 → A2 → A3 → Option B) → A1 → A2 → A3 → Option B} (P : A1 → A2 → A3 → Prop) (μ : A1 → A2 → A3 → Nat) (Q : A1 → A2 → A3 → B → Prop) (h : ∀ (a1 : A1) (a2 : A2) (a3 : A3), P a1 a2 a3 → ∀ rc : A1 → A2 → A3 → Option B, (∀ (b1 : A1) (b2 : A2) (b3 : A3), P b1 b2 b3 → μ b1 b2 b3 < μ a1 a2 a3 → ∃ r, rc b1 b2 b3 = some r ∧ Q b1 b2 b3 r) → ∃ r, f rc a1 a2 a3 = some r ∧ Q a1 a2 a3 r) : ∀ (n : Nat) (a1 : A1) (a2 : A2) (a3 : A3), P a1 a2 a3 → μ a1 a2 a3 < n → ∃ r, it3 f n a1 a2 a3 = some r ∧ Q a1 a2 a3 r := by
  intro n
  induction n with
  | zero => intro a1 a2 a3 _ hn; omega
  | succ n ih => intro a1 a2 a3 hp hn; exact h a1 a2 a3 hp (it3 f n) (fun b1 b2 b3 hq hm => ih b1 b2 b3 hq (by omega))
theorem it3_v {A1 A2 A3 B : Type} {f : (A1 → A2 → A3 → Option B) → A1 → A2 → A3 → Option B} (P : A1 → A2 → A3 → Prop) (μ : A1 → A2 → A3 → Nat) (val : A1 → A2 → A3 → Option B) (h : ∀ (a1 : A1) (a2 : A2) (a3 : A3), P a1 a2 a3 → ∀ rc : A1 → A2 → A3 → Option B, (∀ (b1 : A1) (b2 : A2) (b3 : A3), P b1 b2 b3 → μ b1 b2 b3 < μ a1 a2 a3 → rc b1 b2 b3 = val b1 b2 b3) → f rc a1 a2 a3 = val a1 a2 a3) : ∀ (n : Nat) (a1 : A1) (a2 : A2) (a3 : A3), P a1 a2 a3 → μ a1 a2 a3 < n → it3 f n a1 a2 a3 = val a1 a2 a3 := by
  intro n
  induction n with
  | zero => intro a1 a2 a3 _ hn; omega
  | succ n ih => intro a1 a2 a3 hp hn; exact h a1 a2 a3 hp (it3 f n) (fun b1 b2 b3 hq hm => ih b1 b2 b3 hq (by omega))
theorem it4_h {A1 A2 A3 A4 B : Type} {f : (A1 → A2 → A3 → A4 → Option B) → A1 → A2 → A3 → A4 → Option B} (P : A1 → A2 → A3 → A4 → Prop) (μ : A1 → A2 → A3 → A4 → Nat) (Q : A1 → A2 → A3 → A4 → B → Prop) (h : ∀ (a1 : A1) (a2 : A2) (a3 : A3) (a4 : A4), P a1 a2 a3 a4 → ∀ rc : A1 → A2 → A3 → A4 → Option B, (∀ (b1 : A1) (b2 : A2) (b3 : A3) (b4 : A4), P b1 b2 b3 b4 → μ b1 b2 b3 b4 < μ a1 a2 a3 a4 → ∃ r, rc b1 b2 b3 b4 = some r ∧ Q b1 b2 b3 b4 r) → ∃ r, f rc a1 a2 a3 a4 = some r ∧ Q a1 a2 a3 a4 r) : ∀ (n : Nat) (a1 : A1) (a2 : A2) (a3 : A3) (a4 : A4), P a1 a2 a3 a4 → μ a1 a2 a3 a4 < n → ∃ r, it4 f n a1 a2 a3 a4 = some r ∧ Q a1 a2 a3 a4 r := by
  intro n
  induction n with
  | zero => intro a1 a2 a3 a4 _ hn; omega
  | succ n ih => intro a1 a2 a3 a4 hp hn; exact h a1 a2 a3 a4 hp (it4 f n) (fun b1 b2 b3 b4 hq hm => ih b1 b2 b3 b4 hq (by omega))
theorem it4_v {A1 A2 A3 A4 B : Type} {f : (A1 → A2 → A3 → A4 → Option B) → A1 → A2 → A3 → A4 → Option B} (P : A1 → A2 → A3 → A4 → Prop) (μ : A1 → A2 → A3 → A4 → Nat) (val : A1 → A2 → A3 → A4 → Option B) (h : ∀ (a1 : A1) (a2 : A2) (a3 : A3) (a4 : A4), P a1 a2 a3 a4 → ∀ rc : A1 → A2 → A3 → A4 → Option B, (∀ (b1 : A1) (b2 : A2) (b3 : A3) (b4 : A4), P b1 b2 b3 b4 → μ b1 b2 b3 b4 < μ a1 a2 a3 a4 → rc b1 b2 b3 b4 = val b1 b2 b3 b4) → f rc a1 a2 a3 a4 = val a1 a2 a3 a4) : ∀ (n : Nat) (a1 : A1) (a2 : A2) (a3 : A3) (a4 : A4), P a1 a2 a3 a4 → μ a1 a2 a3 a4 < n → it4 f n a1 a2 a3 a4 = val a1 a2 a3 a4 := by
  intro n
  induction n with
  | zero => intro a1 a2 a3 a4 _ hn; omega
  | succ n ih => intro a1 a2 a3 a4 hp hn; exact h a1 a2 a3 a4 hp (it4 f n) (fun b1 b2 b3 b4 hq hm => ih b1 b2 b3 b4 hq (by omega))
