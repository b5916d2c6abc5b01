/-! the memory of the whole system: cells by numbers; ints and longs by cell and slot -/
abbrev Mem : Type := (Nat → Nat → Int32) × (Nat → Nat → Int64)
def gI (M : Mem) (i j : Nat) : Int32 := M.1 i j
def gJ (M : Mem) (i j : Nat) : Int64 := M.2 i j
def sI (M : Mem) (i j : Nat) (v : Int32) : Mem := (fun a b => if a = i ∧ b = j then v else M.1 a b, M.2)
def sJ (M : Mem) (i j : Nat) (v : Int64) : Mem := (M.1, fun a b => if a = i ∧ b = j then v else M.2 a b)
def cpI (M : Mem) (i sp dp n : Nat) : Mem := (fun a b => if a = i ∧ dp ≤ b ∧ b < dp + n then M.1 a (sp + (b - dp)) else M.1 a b, M.2)
def ix (j : Int32) : Nat := j.toNatClampNeg
def zb (x : Int32) : Int32 := vp_nar .boolean x
def ok (i : Int32) (n : Nat) : Bool := decide (¬ i < 0) && decide (ix i < n)
def okc (sp dp n : Int32) (len : Nat) : Bool := decide (¬ sp < 0) && (decide (¬ dp < 0) && (decide (¬ n < 0) && (decide (ix sp + ix n ≤ len) && decide (ix dp + ix n ≤ len))))
def mr (nm : Nat) (i : Int32) : Option Nat := if ix i < nm then some (ix i) else none
theorem ok_in {i : Int32} {n : Nat} (h : ok i n = true) : vp_in i n := by
  obtain ⟨h1, h2⟩ := (Bool.and_eq_true _ _).mp h
  rintro (q | q)
  · exact of_decide_eq_true h1 q
  · exact Nat.not_lt.mpr q (of_decide_eq_true h2)
/-! how the code's own functions are written -/
def nx {α β : Type} (v : α) (k : α → Option β) : Option β := k v
def ck {β : Type} (b : Bool) (k : Option β) : Option β := match b with
  | true => k
  | false => none
def bd1 {α β : Type} (x : Option α) (k : α → Option β) : Option β := match x with
  | none => none
  | some a => k a
def bd2 {α γ β : Type} (x : Option (α × γ)) (k : α → γ → Option β) : Option β := match x with
  | none => none
  | some p => k p.1 p.2
def oc {β : Type} (o : Option Nat) (a : Option β) (f : Nat → Option β) : Option β := match o with
  | none => a
  | some n => f n
theorem q_nx {α β : Type} {v : α} {k : α → Option β} {r : β} (h : nx v k = some r) : ∃ x, x = v ∧ k x = some r := ⟨v, rfl, h⟩
theorem q_ck {β : Type} {b : Bool} {k : Option β} {r : β} (h : ck b k = some r) : b = true ∧ k = some r := by
  cases b with
  | true => exact ⟨rfl, h⟩
  | false => cases h
theorem q_bd1 {α β : Type} {x : Option α} {k : α → Option β} {r : β} (h : bd1 x k = some r) : ∃ a, x = some a ∧ k a = some r := by
  cases x with
  | none => cases h
  | some a => exact ⟨a, rfl, h⟩
theorem q_bd2 {α γ β : Type} {x : Option (α × γ)} {k : α → γ → Option β} {r : β} (h : bd2 x k = some r) : ∃ a b, x = some (a, b) ∧ k a b = some r := by
  cases x with
  | none => cases h
  | some p => exact ⟨p.1, p.2, rfl, h⟩
theorem q_ocn {β : Type} {o : Option Nat} {a : Option β} {f : Nat → Option β} {r : β} (ho : o = none) (h : oc o a f = some r) : a = some r := by
  subst ho
  exact h
theorem q_ocs {β : Type} {o : Option Nat} {a : Option β} {f : Nat → Option β} {r : β} {n : Nat} (ho : o = some n) (h : oc o a f = some r) : f n = some r := by
  subst ho
  exact h
theorem q_t {β : Type} {c : Prop} [Decidable c] {a b : Option β} {r : β} (hc : c) (h : (if c then a else b) = some r) : a = some r := by
  rw [if_pos hc] at h
  exact h
theorem q_f {β : Type} {c : Prop} [Decidable c] {a b : Option β} {r : β} (hc : ¬ c) (h : (if c then a else b) = some r) : b = some r := by
  rw [if_neg hc] at h
  exact h
def it1 {A1 B : Type} (f : (A1 → Option B) → A1 → Option B) : Nat → A1 → Option B
  | 0 => fun _ => none
  | n + 1 => f (it1 f n)
theorem it1_0 {A1 B : Type} {f : (A1 → Option B) → A1 → Option B} {a1 : A1} {r : B} (h : it1 f 0 a1 = some r) : False := by cases h
theorem it1_s {A1 B : Type} {f : (A1 → Option B) → A1 → Option B} {n : Nat} {a1 : A1} {r : B} (h : it1 f (n + 1) a1 = some r) : f (it1 f n) a1 = some r := h
def it2 {A1 A2 B : Type} (f : (A1 → A2 → Option B) → A1 → A2 → Option B) : Nat → A1 → A2 → Option B
  | 0 => fun _ _ => none
  | n + 1 => f (it2 f n)
theorem it2_0 {A1 A2 B : Type} {f : (A1 → A2 → Option B) → A1 → A2 → Option B} {a1 : A1} {a2 : A2} {r : B} (h : it2 f 0 a1 a2 = some r) : False := by cases h
theorem it2_s {A1 A2 B : Type} {f : (A1 → A2 → Option B) → A1 → A2 → Option B} {n : Nat} {a1 : A1} {a2 : A2} {r : B} (h : it2 f (n + 1) a1 a2 = some r) : f (it2 f n) a1 a2 = some r := h
def it3 {A1 A2 A3 B : Type} (f : (A1 → A2 → A3 → Option B) → A1 → A2 → A3 → Option B) : Nat → A1 → A2 → A3 → Option B
  | 0 => fun _ _ _ => none
  | n + 1 => f (it3 f n)
theorem it3_0 {A1 A2 A3 B : Type} {f : (A1 → A2 → A3 → Option B) → A1 → A2 → A3 → Option B} {a1 : A1} {a2 : A2} {a3 : A3} {r : B} (h : it3 f 0 a1 a2 a3 = some r) : False := by cases h
theorem it3_s {A1 A2 A3 B : Type} {f : (A1 → A2 → A3 → Option B) → A1 → A2 → A3 → Option B} {n : Nat} {a1 : A1} {a2 : A2} {a3 : A3} {r : B} (h : it3 f (n + 1) a1 a2 a3 = some r) : f (it3 f n) a1 a2 a3 = some r := h
def it4 {A1 A2 A3 A4 B : Type} (f : (A1 → A2 → A3 → A4 → Option B) → A1 → A2 → A3 → A4 → Option B) : Nat → A1 → A2 → A3 → A4 → Option B
  | 0 => fun _ _ _ _ => none
  | n + 1 => f (it4 f n)
theorem it4_0 {A1 A2 A3 A4 B : Type} {f : (A1 → A2 → A3 → A4 → Option B) → A1 → A2 → A3 → A4 → Option B} {a1 : A1} {a2 : A2} {a3 : A3} {a4 : A4} {r : B} (h : it4 f 0 a1 a2 a3 a4 = some r) : False := by cases h
theorem it4_s {A1 A2 A3 A4 B : Type} {f : (A1 → A2 → A3 → A4 → Option B) → A1 → A2 → A3 → A4 → Option B} {n : Nat} {a1 : A1} {a2 : A2} {a3 : A3} {a4 : A4} {r : B} (h : it4 f (n + 1) a1 a2 a3 a4 = some r) : f (it4 f n) a1 a2 a3 a4 = some r := h
def it5 {A1 A2 A3 A4 A5 B : Type} (f : (A1 → A2 → A3 → A4 → A5 → Option B) → A1 → A2 → A3 → A4 → A5 → Option B) : Nat → A1 → A2 → A3 → A4 → A5 → Option B
  | 0 => fun _ _ _ _ _ => none
  | n + 1 => f (it5 f n)
theorem it5_0 {A1 A2 A3 A4 A5 B : Type} {f : (A1 → A2 → A3 → A4 → A5 → Option B) → A1 → A2 → A3 → A4 → A5 → Option B} {a1 : A1} {a2 : A2} {a3 : A3} {a4 : A4} {a5 : A5} {r : B} (h : it5 f 0 a1 a2 a3 a4 a5 = some r) : False := by cases h
theorem it5_s {A1 A2 A3 A4 A5 B : Type} {f : (A1 → A2 → A3 → A4 → A5 → Option B) → A1 → A2 → A3 → A4 → A5 → Option B} {n : Nat} {a1 : A1} {a2 : A2} {a3 : A3} {a4 : A4} {a5 : A5} {r : B} (h : it5 f (n + 1) a1 a2 a3 a4 a5 = some r) : f (it5 f n) a1 a2 a3 a4 a5 = some r := h
def it6 {A1 A2 A3 A4 A5 A6 B : Type} (f : (A1 → A2 → A3 → A4 → A5 → A6 → Option B) → A1 → A2 → A3 → A4 → A5 → A6 → Option B) : Nat → A1 → A2 → A3 → A4 → A5 → A6 → Option B
  | 0 => fun _ _ _ _ _ _ => none
  | n + 1 => f (it6 f n)
theorem it6_0 {A1 A2 A3 A4 A5 A6 B : Type} {f : (A1 → A2 → A3 → A4 → A5 → A6 → Option B) → A1 → A2 → A3 → A4 → A5 → A6 → Option B} {a1 : A1} {a2 : A2} {a3 : A3} {a4 : A4} {a5 : A5} {a6 : A6} {r : B} (h : it6 f 0 a1 a2 a3 a4 a5 a6 = some r) : False := by cases h
theorem it6_s {A1 A2 A3 A4 A5 A6 B : Type} {f : (A1 → A2 → A3 → A4 → A5 → A6 → Option B) → A1 → A2 → A3 → A4 → A5 → A6 → Option B} {n : Nat} {a1 : A1} {a2 : A2} {a3 : A3} {a4 : A4} {a5 : A5} {a6 : A6} {r : B} (h : it6 f (n + 1) a1 a2 a3 a4 a5 a6 = some r) : f (it6 f n) a1 a2 a3 a4 a5 a6 = some r := h
def it7 {A1 A2 A3 A4 A5 A6 A7 B : Type} (f : (A1 → A2 → A3 → A4 → A5 → A6 → A7 → Option B) → A1 → A2 → A3 → A4 → A5 → A6 → A7 → Option B) : Nat → A1 → A2 → A3 → A4 → A5 → A6 → A7 → Option B
  | 0 => fun _ _ _ _ _ _ _ => none
  | n + 1 => f (it7 f n)
theorem it7_0 {A1 A2 A3 A4 A5 A6 A7 B : Type} {f : (A1 → A2 → A3 → A4 → A5 → A6 → A7 → Option B) → A1 → A2 → A3 → A4 → A5 → A6 → A7 → Option B} {a1 : A1} {a2 : A2} {a3 : A3} {a4 : A4} {a5 : A5} {a6 : A6} {a7 : A7} {r : B} (h : it7 f 0 a1 a2 a3 a4 a5 a6 a7 = some r) : False := by cases h
theorem it7_s {A1 A2 A3 A4 A5 A6 A7 B : Type} {f : (A1 → A2 → A3 → A4 → A5 → A6 → A7 → Option B) → A1 → A2 → A3 → A4 → A5 → A6 → A7 → Option B} {n : Nat} {a1 : A1} {a2 : A2} {a3 : A3} {a4 : A4} {a5 : A5} {a6 : A6} {a7 : A7} {r : B} (h : it7 f (n + 1) a1 a2 a3 a4 a5 a6 a7 = some r) : f (it7 f n) a1 a2 a3 a4 a5 a6 a7 = some r := h
def it8 {A1 A2 A3 A4 A5 A6 A7 A8 B : Type} (f : (A1 → A2 → A3 → A4 → A5 → A6 → A7 → A8 → Option B) → A1 → A2 → A3 → A4 → A5 → A6 → A7 → A8 → Option B) : Nat → A1 → A2 → A3 → A4 → A5 → A6 → A7 → A8 → Option B
  | 0 => fun _ _ _ _ _ _ _ _ => none
  | n + 1 => f (it8 f n)
theorem it8_0 {A1 A2 A3 A4 A5 A6 A7 A8 B : Type} {f : (A1 → A2 → A3 → A4 → A5 → A6 → A7 → A8 → Option B) → A1 → A2 → A3 → A4 → A5 → A6 → A7 → A8 → Option B} {a1 : A1} {a2 : A2} {a3 : A3} {a4 : A4} {a5 : A5} {a6 : A6} {a7 : A7} {a8 : A8} {r : B} (h : it8 f 0 a1 a2 a3 a4 a5 a6 a7 a8 = some r) : False := by cases h
theorem it8_s {A1 A2 A3 A4 A5 A6 A7 A8 B : Type} {f : (A1 → A2 → A3 → A4 → A5 → A6 → A7 → A8 → Option B) → A1 → A2 → A3 → A4 → A5 → A6 → A7 → A8 → Option B} {n : Nat} {a1 : A1} {a2 : A2} {a3 : A3} {a4 : A4} {a5 : A5} {a6 : A6} {a7 : A7} {a8 : A8} {r : B} (h : it8 f (n + 1) a1 a2 a3 a4 a5 a6 a7 a8 = some r) : f (it8 f n) a1 a2 a3 a4 a5 a6 a7 a8 = some r := h
/-! the layout -/
def layF : List (Nat × List Nat) := [(5, [3, 9, 13, 14, 33, 0, 0, 0]), (4, [4, 5, 6, 7, 8, 0, 0, 1]), (7, [60]), (7, [60]), (7, [60]), (8, [60]), (7, [720]), (2, [10, 11, 12, 0]), (7, [40]), (7, [40]), (7, [40]), (10, [8]), (11, [6]), (0, [16, 17, 0, 0, 0, 0]), (7, [8]), (7, [8]), (0, [19, 20, 0, 0, 0, 0]), (7, [8]), (7, [8]), (0, [22, 23, 0, 0, 0, 0]), (7, [8]), (7, [8]), (0, [25, 26, 0, 0, 0, 0]), (7, [8]), (7, [8]), (0, [28, 29, 0, 0, 0, 0]), (7, [8]), (7, [8]), (0, [31, 32, 0, 0, 0, 0]), (7, [8]), (7, [8]), (1, [34, 35, 36, 0, 0, 0, 0, 0, 0, 0]), (7, [12]), (7, [12]), (7, [12]), (6, [0, 0, 38, 39, 0, 40, 41, 0, 42, 43, 44, 45, 46, 47, 48, 49, 50, 51, 52, 0, 53, 54, 55, 0, 56, 57, 58, 59, 60, 0, 0, 0, 0, 0, 0, 0, 0, 61, 62, 63]), (7, [60]), (7, [60]), (7, [60]), (7, [720]), (7, [8]), (7, [8]), (7, [8]), (7, [8]), (7, [8]), (7, [8]), (7, [8]), (9, [8]), (9, [480]), (7, [24]), (7, [8]), (7, [40]), (7, [40]), (7, [40]), (7, [48]), (7, [6]), (7, [6]), (7, [6]), (7, [8]), (7, [12]), (7, [12]), (7, [12])]
def lay (i : Nat) : Nat × List Nat := if i < 62 then layF.getD i (0, []) else if i % 2 = 0 then (3, [0, 0, i + 1 + 2, 0, 0, 0, 1, 0, 0, 0]) else (7, [3])
def Ob (nm i ci : Nat) (fk : List Nat) : Prop := i < 62 + 2 * nm ∧ lay i = (ci, fk) ∧ ci < 7
def Ar (nm i t n : Nat) : Prop := i < 62 + 2 * nm ∧ lay i = (t, [n])
theorem lay_mirror (m : Nat) : lay (62 + 2 * m) = (3, [0, 0, 62 + 2 * m + 1 + 2, 0, 0, 0, 1, 0, 0, 0]) := by
  unfold lay
  rw [if_neg (by omega), if_pos (by omega)]
theorem lay_mirrorA (m : Nat) : lay (62 + 2 * m + 1) = (7, [3]) := by
  unfold lay
  rw [if_neg (by omega), if_neg (by omega)]
theorem lay_asker (k : Nat) (h : k < 6) : lay (13 + 3 * k) = (0, [13 + 3 * k + 1 + 2, 13 + 3 * k + 2 + 2, 0, 0, 0, 0]) := by
  rcases (show k = 0 ∨ k = 1 ∨ k = 2 ∨ k = 3 ∨ k = 4 ∨ k = 5 by omega) with rfl | rfl | rfl | rfl | rfl | rfl <;> rfl
theorem lay_askerA (k : Nat) (h : k < 6) : lay (13 + 3 * k + 1) = (7, [8]) ∧ lay (13 + 3 * k + 2) = (7, [8]) := by
  rcases (show k = 0 ∨ k = 1 ∨ k = 2 ∨ k = 3 ∨ k = 4 ∨ k = 5 by omega) with rfl | rfl | rfl | rfl | rfl | rfl <;> exact ⟨rfl, rfl⟩
theorem ob_asker {nm k : Nat} (h : k < 6) : Ob nm (13 + 3 * k) 0 [13 + 3 * k + 1 + 2, 13 + 3 * k + 2 + 2, 0, 0, 0, 0] := ⟨by omega, lay_asker k h, by decide⟩
theorem ob_mirror {nm m : Nat} (h : m < nm) : Ob nm (62 + 2 * m) 3 [0, 0, 62 + 2 * m + 1 + 2, 0, 0, 0, 1, 0, 0, 0] := ⟨by omega, lay_mirror m, by decide⟩
theorem ar_asker1 {nm k : Nat} (h : k < 6) : Ar nm (13 + 3 * k + 1) 7 8 := ⟨by omega, (lay_askerA k h).1⟩
theorem ar_asker2 {nm k : Nat} (h : k < 6) : Ar nm (13 + 3 * k + 2) 7 8 := ⟨by omega, (lay_askerA k h).2⟩
theorem ar_mirror {nm m : Nat} (h : m < nm) : Ar nm (62 + 2 * m + 1) 7 3 := ⟨by omega, lay_mirrorA m⟩
theorem ob_0 {nm : Nat} : Ob nm 0 5 [3, 9, 13, 14, 33, 0, 0, 0] := ⟨by omega, rfl, by decide⟩
theorem ob_1 {nm : Nat} : Ob nm 1 4 [4, 5, 6, 7, 8, 0, 0, 1] := ⟨by omega, rfl, by decide⟩
theorem ar_2 {nm : Nat} : Ar nm 2 7 60 := ⟨by omega, rfl⟩
theorem ar_3 {nm : Nat} : Ar nm 3 7 60 := ⟨by omega, rfl⟩
theorem ar_4 {nm : Nat} : Ar nm 4 7 60 := ⟨by omega, rfl⟩
theorem ar_5 {nm : Nat} : Ar nm 5 8 60 := ⟨by omega, rfl⟩
theorem ar_6 {nm : Nat} : Ar nm 6 7 720 := ⟨by omega, rfl⟩
theorem ob_7 {nm : Nat} : Ob nm 7 2 [10, 11, 12, 0] := ⟨by omega, rfl, by decide⟩
theorem ar_8 {nm : Nat} : Ar nm 8 7 40 := ⟨by omega, rfl⟩
theorem ar_9 {nm : Nat} : Ar nm 9 7 40 := ⟨by omega, rfl⟩
theorem ar_10 {nm : Nat} : Ar nm 10 7 40 := ⟨by omega, rfl⟩
theorem ar_11 {nm : Nat} : Ar nm 11 10 8 := ⟨by omega, rfl⟩
theorem ar_12 {nm : Nat} : Ar nm 12 11 6 := ⟨by omega, rfl⟩
theorem ob_31 {nm : Nat} : Ob nm 31 1 [34, 35, 36, 0, 0, 0, 0, 0, 0, 0] := ⟨by omega, rfl, by decide⟩
theorem ar_32 {nm : Nat} : Ar nm 32 7 12 := ⟨by omega, rfl⟩
theorem ar_33 {nm : Nat} : Ar nm 33 7 12 := ⟨by omega, rfl⟩
theorem ar_34 {nm : Nat} : Ar nm 34 7 12 := ⟨by omega, rfl⟩
theorem ob_35 {nm : Nat} : Ob nm 35 6 [0, 0, 38, 39, 0, 40, 41, 0, 42, 43, 44, 45, 46, 47, 48, 49, 50, 51, 52, 0, 53, 54, 55, 0, 56, 57, 58, 59, 60, 0, 0, 0, 0, 0, 0, 0, 0, 61, 62, 63] := ⟨by omega, rfl, by decide⟩
theorem ar_36 {nm : Nat} : Ar nm 36 7 60 := ⟨by omega, rfl⟩
theorem ar_37 {nm : Nat} : Ar nm 37 7 60 := ⟨by omega, rfl⟩
theorem ar_38 {nm : Nat} : Ar nm 38 7 60 := ⟨by omega, rfl⟩
theorem ar_39 {nm : Nat} : Ar nm 39 7 720 := ⟨by omega, rfl⟩
theorem ar_40 {nm : Nat} : Ar nm 40 7 8 := ⟨by omega, rfl⟩
theorem ar_41 {nm : Nat} : Ar nm 41 7 8 := ⟨by omega, rfl⟩
theorem ar_42 {nm : Nat} : Ar nm 42 7 8 := ⟨by omega, rfl⟩
theorem ar_43 {nm : Nat} : Ar nm 43 7 8 := ⟨by omega, rfl⟩
theorem ar_44 {nm : Nat} : Ar nm 44 7 8 := ⟨by omega, rfl⟩
theorem ar_45 {nm : Nat} : Ar nm 45 7 8 := ⟨by omega, rfl⟩
theorem ar_46 {nm : Nat} : Ar nm 46 7 8 := ⟨by omega, rfl⟩
theorem ar_47 {nm : Nat} : Ar nm 47 9 8 := ⟨by omega, rfl⟩
theorem ar_48 {nm : Nat} : Ar nm 48 9 480 := ⟨by omega, rfl⟩
theorem ar_49 {nm : Nat} : Ar nm 49 7 24 := ⟨by omega, rfl⟩
theorem ar_50 {nm : Nat} : Ar nm 50 7 8 := ⟨by omega, rfl⟩
theorem ar_51 {nm : Nat} : Ar nm 51 7 40 := ⟨by omega, rfl⟩
theorem ar_52 {nm : Nat} : Ar nm 52 7 40 := ⟨by omega, rfl⟩
theorem ar_53 {nm : Nat} : Ar nm 53 7 40 := ⟨by omega, rfl⟩
theorem ar_54 {nm : Nat} : Ar nm 54 7 48 := ⟨by omega, rfl⟩
theorem ar_55 {nm : Nat} : Ar nm 55 7 6 := ⟨by omega, rfl⟩
theorem ar_56 {nm : Nat} : Ar nm 56 7 6 := ⟨by omega, rfl⟩
theorem ar_57 {nm : Nat} : Ar nm 57 7 6 := ⟨by omega, rfl⟩
theorem ar_58 {nm : Nat} : Ar nm 58 7 8 := ⟨by omega, rfl⟩
theorem ar_59 {nm : Nat} : Ar nm 59 7 12 := ⟨by omega, rfl⟩
theorem ar_60 {nm : Nat} : Ar nm 60 7 12 := ⟨by omega, rfl⟩
theorem ar_61 {nm : Nat} : Ar nm 61 7 12 := ⟨by omega, rfl⟩
/-! the picture of the memory in the heap -/
def fv (ad : Nat → Nat) (M : Mem) (i k : Nat) (t : Nat) : Value := match t with
  | 0 => .int (M.1 i k)
  | 1 => .long (M.2 i k)
  | r + 2 => .ref (ad r)
def fvs (ad : Nat → Nat) (M : Mem) (i : Nat) : Nat → List Nat → List Value
  | _, [] => []
  | k, t :: ts => fv ad M i k t :: fvs ad M i (k + 1) ts
theorem fvs_get (ad : Nat → Nat) (M : Mem) (i : Nat) : ∀ (ts : List Nat) (k0 k : Nat), (fvs ad M i k0 ts)[k]? = (ts[k]?).map (fv ad M i (k0 + k))
  | [], k0, k => by simp [fvs]
  | t :: ts, k0, 0 => by simp [fvs]
  | t :: ts, k0, k + 1 => by
    simp only [fvs, List.getElem?_cons_succ]
    rw [fvs_get ad M i ts (k0 + 1) k, show k0 + 1 + k = k0 + (k + 1) by omega]
theorem fvs_len (ad : Nat → Nat) (M : Mem) (i : Nat) : ∀ (ts : List Nat) (k0 : Nat), (fvs ad M i k0 ts).length = ts.length
  | [], k0 => rfl
  | t :: ts, k0 => by simp [fvs, fvs_len ad M i ts (k0 + 1)]
def ce (ad : Nat → Nat) (kc : Nat → ClassId) (nm : Nat) (M : Mem) (i : Nat) : va_E :=
  if (lay i).1 < 7 then .inr ((lay i).1, fvs ad M i 0 (lay i).2)
  else if (lay i).1 = 7 then .inl (kc 0, (lay i).2.headD 0, .inl (M.1 i))
  else if (lay i).1 = 8 then .inl (kc 1, (lay i).2.headD 0, .inr (.inl (M.2 i)))
  else if (lay i).1 = 9 then .inl (kc 2, (lay i).2.headD 0, .inl (M.1 i))
  else if (lay i).1 = 10 then .inl (kc 3, (lay i).2.headD 0, .inr (.inr (.inr (.inr (fun j => if j < nm then some (ad (62 + 2 * j)) else none)))))
  else .inl (kc 4, (lay i).2.headD 0, .inr (.inr (.inr (.inr (fun j => some (ad (13 + 3 * j)))))))
def wl (ad : Nat → Nat) (kc : Nat → ClassId) (nm : Nat) (M : Mem) : va_W := (List.range (62 + 2 * nm)).map (fun i => (ad i, ce ad kc nm M i))
def tysOf (kc : Nat → ClassId) : List (ClassId × FieldType) := [(kc 0, .int), (kc 1, .long), (kc 2, .boolean), (kc 3, .object "MirrorNet$Mirror"), (kc 4, .object "MirrorNet$Asker")]
def AD (ad : Nat → Nat) (nm z : Nat) : Prop := (∀ i j, i < 62 + 2 * nm → j < 62 + 2 * nm → ad i = ad j → i = j) ∧ ∀ i, i < 62 + 2 * nm → z ≤ ad i
theorem wl_at {ad : Nat → Nat} {kc : Nat → ClassId} {nm : Nat} {M : Mem} {i : Nat} (h : i < 62 + 2 * nm) : (wl ad kc nm M)[i]? = some (ad i, ce ad kc nm M i) := by
  simp [wl, h]
theorem wl_len {ad : Nat → Nat} {kc : Nat → ClassId} {nm : Nat} {M : Mem} : (wl ad kc nm M).length = 62 + 2 * nm := by simp [wl]
theorem wl_D {ad : Nat → Nat} {nm z : Nat} (h : AD ad nm z) (kc : Nat → ClassId) (M : Mem) : va_D (fun q => z ≤ q) (wl ad kc nm M) := by
  have key : ∀ (i : Nat) (p : Nat × va_E), (wl ad kc nm M)[i]? = some p → i < 62 + 2 * nm ∧ p.1 = ad i := by
    intro i p hi
    have hl : i < 62 + 2 * nm := by
      have := (List.getElem?_eq_some_iff.mp hi).1
      rwa [wl_len] at this
    rw [wl_at hl] at hi
    cases hi
    exact ⟨hl, rfl⟩
  refine ⟨fun i j p q hi hj hpq => ?_, fun k q hk => ?_⟩
  · obtain ⟨h1, h2⟩ := key i p hi
    obtain ⟨h3, h4⟩ := key j q hj
    exact h.1 i j h1 h3 (by rw [← h2, ← h4]; exact hpq)
  · obtain ⟨h1, h2⟩ := key k q hk
    show z ≤ q.1
    rw [h2]
    exact h.2 k h1
theorem wl_set {ad : Nat → Nat} {kc : Nat → ClassId} {nm : Nat} {M M' : Mem} {i : Nat} {e : va_E} (h1 : ce ad kc nm M' i = e) (h2 : ∀ j, j ≠ i → ce ad kc nm M' j = ce ad kc nm M j) : (wl ad kc nm M).set i (ad i, e) = wl ad kc nm M' := by
  apply List.ext_getElem?
  intro k
  by_cases hl : k < 62 + 2 * nm
  · by_cases hk : i = k
    · subst hk
      rw [List.getElem?_set_self (by rw [wl_len]; exact hl), wl_at hl, h1]
    · rw [List.getElem?_set_ne hk, wl_at hl, wl_at hl, h2 k (Ne.symm hk)]
  · rw [List.getElem?_eq_none (by rw [List.length_set, wl_len]; omega), List.getElem?_eq_none (by rw [wl_len]; omega)]
theorem fvs_congr {ad : Nat → Nat} {M M' : Mem} {i : Nat} (h1 : M'.1 i = M.1 i) (h2 : M'.2 i = M.2 i) : ∀ (ts : List Nat) (k : Nat), fvs ad M' i k ts = fvs ad M i k ts
  | [], k => rfl
  | t :: ts, k => by
    have e : fv ad M' i k t = fv ad M i k t := by
      unfold fv
      rw [h1, h2]
    simp only [fvs, e, fvs_congr h1 h2 ts (k + 1)]
theorem ce_congr {ad : Nat → Nat} {kc : Nat → ClassId} {nm : Nat} {M M' : Mem} {j : Nat} (h1 : M'.1 j = M.1 j) (h2 : M'.2 j = M.2 j) : ce ad kc nm M' j = ce ad kc nm M j := by
  unfold ce
  rw [h1, h2, fvs_congr h1 h2]
theorem ce_ob {ad : Nat → Nat} {kc : Nat → ClassId} {nm i ci : Nat} {fk : List Nat} {M : Mem} (ob : Ob nm i ci fk) : ce ad kc nm M i = .inr (ci, fvs ad M i 0 fk) := by
  unfold ce
  rw [ob.2.1]
  rw [if_pos ob.2.2]
theorem ce_ar7 {ad : Nat → Nat} {kc : Nat → ClassId} {nm i n : Nat} {M : Mem} (ar : Ar nm i 7 n) : ce ad kc nm M i = .inl (kc 0, n, .inl (M.1 i)) := by
  unfold ce
  rw [ar.2]
  rfl
theorem ce_ar8 {ad : Nat → Nat} {kc : Nat → ClassId} {nm i n : Nat} {M : Mem} (ar : Ar nm i 8 n) : ce ad kc nm M i = .inl (kc 1, n, .inr (.inl (M.2 i))) := by
  unfold ce
  rw [ar.2]
  rfl
theorem ce_ar9 {ad : Nat → Nat} {kc : Nat → ClassId} {nm i n : Nat} {M : Mem} (ar : Ar nm i 9 n) : ce ad kc nm M i = .inl (kc 2, n, .inl (M.1 i)) := by
  unfold ce
  rw [ar.2]
  rfl
theorem ce_ar10 {ad : Nat → Nat} {kc : Nat → ClassId} {nm i n : Nat} {M : Mem} (ar : Ar nm i 10 n) : ce ad kc nm M i = .inl (kc 3, n, .inr (.inr (.inr (.inr (fun j => if j < nm then some (ad (62 + 2 * j)) else none))))) := by
  unfold ce
  rw [ar.2]
  rfl
theorem ce_ar11 {ad : Nat → Nat} {kc : Nat → ClassId} {nm i n : Nat} {M : Mem} (ar : Ar nm i 11 n) : ce ad kc nm M i = .inl (kc 4, n, .inr (.inr (.inr (.inr (fun j => some (ad (13 + 3 * j))))))) := by
  unfold ce
  rw [ar.2]
  rfl
theorem sI_row (M : Mem) (i j : Nat) (v : Int32) : (sI M i j v).1 i = upd (M.1 i) j v := by
  funext k
  by_cases h : k = j <;> simp [sI, upd, h]
theorem sI_ne (M : Mem) (i j : Nat) (v : Int32) {a : Nat} (h : a ≠ i) : (sI M i j v).1 a = M.1 a := by
  funext k
  simp [sI, h]
theorem sJ_row (M : Mem) (i j : Nat) (v : Int64) : (sJ M i j v).2 i = vp_updL (M.2 i) j v := by
  funext k
  by_cases h : k = j <;> simp [sJ, vp_updL, h]
theorem sJ_ne (M : Mem) (i j : Nat) (v : Int64) {a : Nat} (h : a ≠ i) : (sJ M i j v).2 a = M.2 a := by
  funext k
  simp [sJ, h]
theorem fvs_setI {ad : Nat → Nat} {M : Mem} {i k : Nat} {fk : List Nat} (v : Int32) (h : fk[k]? = some 0) : (fvs ad M i 0 fk).set k (.int v) = fvs ad (sI M i k v) i 0 fk := by
  have hk : k < fk.length := (List.getElem?_eq_some_iff.mp h).1
  apply List.ext_getElem?
  intro q
  by_cases hq : k = q
  · subst hq
    rw [List.getElem?_set_self (by rw [fvs_len]; exact hk), fvs_get, h]
    simp [fv, sI]
  · rw [List.getElem?_set_ne hq, fvs_get, fvs_get]
    congr 1
    funext t
    match t with
    | 0 => simp [fv, sI, Ne.symm hq]
    | 1 => rfl
    | r + 2 => rfl
theorem fvs_setJ {ad : Nat → Nat} {M : Mem} {i k : Nat} {fk : List Nat} (v : Int64) (h : fk[k]? = some 1) : (fvs ad M i 0 fk).set k (.long v) = fvs ad (sJ M i k v) i 0 fk := by
  have hk : k < fk.length := (List.getElem?_eq_some_iff.mp h).1
  apply List.ext_getElem?
  intro q
  by_cases hq : k = q
  · subst hq
    rw [List.getElem?_set_self (by rw [fvs_len]; exact hk), fvs_get, h]
    simp [fv, sJ]
  · rw [List.getElem?_set_ne hq, fvs_get, fvs_get]
    congr 1
    funext t
    match t with
    | 0 => rfl
    | 1 => simp [fv, sJ, Ne.symm hq]
    | r + 2 => rfl
theorem wl_setI {ad : Nat → Nat} {kc : Nat → ClassId} {nm i j : Nat} {M : Mem} {v : Int32} {e : va_E} (h1 : ce ad kc nm (sI M i j v) i = e) : (wl ad kc nm M).set i (ad i, e) = wl ad kc nm (sI M i j v) :=
  wl_set h1 (fun a ha => ce_congr (sI_ne M i j v ha) rfl)
theorem wl_setJ {ad : Nat → Nat} {kc : Nat → ClassId} {nm i j : Nat} {M : Mem} {v : Int64} {e : va_E} (h1 : ce ad kc nm (sJ M i j v) i = e) : (wl ad kc nm M).set i (ad i, e) = wl ad kc nm (sJ M i j v) :=
  wl_set h1 (fun a ha => ce_congr rfl (sJ_ne M i j v ha))
theorem nar_b {v : Int32} (h : v = 0 ∨ v = 1) : narrow .boolean (.int v) = .int v := by
  rcases h with rfl | rfl <;> rfl
theorem fit_b {v : Int32} (h : v = 0 ∨ v = 1) : fits .boolean (.int v) = true := by
  rcases h with rfl | rfl <;> rfl
def nestW : List Cond := [(Jvm.Cond.methodLinkNest "MirrorNet" (11 : Nat) ({ cls := "MirrorNet$Shelf", name := "<init>", desc := "()V" } : Jvm.MethodName) "MirrorNet"),
  (Jvm.Cond.fieldLinkNest "MirrorNet" (211 : Nat) "MirrorNet$Shelf" "fileCount" "I" "MirrorNet"),
  (Jvm.Cond.fieldLinkNest "MirrorNet" (214 : Nat) "MirrorNet$Shelf" "stateCount" "I" "MirrorNet"),
  (Jvm.Cond.fieldLinkNest "MirrorNet" (220 : Nat) "MirrorNet$Shelf" "yanked" "J" "MirrorNet"),
  (Jvm.Cond.methodLinkNest "MirrorNet" (18 : Nat) ({ cls := "MirrorNet$Falls", name := "<init>", desc := "()V" } : Jvm.MethodName) "MirrorNet"),
  (Jvm.Cond.fieldLinkNest "MirrorNet" (217 : Nat) "MirrorNet$Falls" "told" "I" "MirrorNet"),
  (Jvm.Cond.methodLinkNest "MirrorNet" (35 : Nat) ({ cls := "MirrorNet$Asker", name := "<init>", desc := "()V" } : Jvm.MethodName) "MirrorNet"),
  (Jvm.Cond.fieldLinkNest "MirrorNet" (248 : Nat) "MirrorNet$Asker" "lineLength" "I" "MirrorNet"),
  (Jvm.Cond.fieldLinkNest "MirrorNet" (162 : Nat) "MirrorNet$Asker" "mostAge" "I" "MirrorNet"),
  (Jvm.Cond.fieldLinkNest "MirrorNet" (172 : Nat) "MirrorNet$Asker" "last" "I" "MirrorNet"),
  (Jvm.Cond.fieldLinkNest "MirrorNet" (165 : Nat) "MirrorNet$Asker" "bad" "I" "MirrorNet"),
  (Jvm.Cond.methodLinkNest "MirrorNet" (38 : Nat) ({ cls := "MirrorNet$Asking", name := "<init>", desc := "()V" } : Jvm.MethodName) "MirrorNet"),
  (Jvm.Cond.fieldLinkNest "MirrorNet" (192 : Nat) "MirrorNet$Asking" "isAny" "Z" "MirrorNet"),
  (Jvm.Cond.fieldLinkNest "MirrorNet" (195 : Nat) "MirrorNet$Asking" "index" "I" "MirrorNet"),
  (Jvm.Cond.fieldLinkNest "MirrorNet" (196 : Nat) "MirrorNet$Asking" "spent" "I" "MirrorNet"),
  (Jvm.Cond.fieldLinkNest "MirrorNet" (199 : Nat) "MirrorNet$Asking" "askings" "I" "MirrorNet"),
  (Jvm.Cond.fieldLinkNest "MirrorNet" (202 : Nat) "MirrorNet$Asking" "gotCount" "I" "MirrorNet"),
  (Jvm.Cond.fieldLinkNest "MirrorNet" (205 : Nat) "MirrorNet$Asking" "lacking" "I" "MirrorNet"),
  (Jvm.Cond.fieldLinkNest "MirrorNet" (189 : Nat) "MirrorNet$Asking" "foresight" "I" "MirrorNet"),
  (Jvm.Cond.methodLinkNest "MirrorNet" (51 : Nat) ({ cls := "MirrorNet$Shelf", name := "addFile", desc := "(I)I" } : Jvm.MethodName) "MirrorNet"),
  (Jvm.Cond.methodLinkNest "MirrorNet" (58 : Nat) ({ cls := "MirrorNet$Shelf", name := "addPut", desc := "(III)I" } : Jvm.MethodName) "MirrorNet"),
  (Jvm.Cond.methodLinkNest "MirrorNet$Shelf" (41 : Nat) ({ cls := "MirrorNet", name := "isWithin", desc := "(III)Z" } : Jvm.MethodName) "MirrorNet"),
  (Jvm.Cond.methodLinkNest "MirrorNet$Shelf" (69 : Nat) ({ cls := "MirrorNet", name := "bitOf", desc := "(I)J" } : Jvm.MethodName) "MirrorNet"),
  (Jvm.Cond.methodLinkNest "MirrorNet" (62 : Nat) ({ cls := "MirrorNet$Shelf", name := "addYank", desc := "(II)I" } : Jvm.MethodName) "MirrorNet"),
  (Jvm.Cond.methodLinkNest "MirrorNet" (66 : Nat) ({ cls := "MirrorNet$Shelf", name := "namedBy", desc := "(II)I" } : Jvm.MethodName) "MirrorNet"),
  (Jvm.Cond.methodLinkNest "MirrorNet" (69 : Nat) ({ cls := "MirrorNet$Shelf", name := "hasState", desc := "(I)Z" } : Jvm.MethodName) "MirrorNet"),
  (Jvm.Cond.methodLinkNest "MirrorNet" (73 : Nat) ({ cls := "MirrorNet$Shelf", name := "tickOf", desc := "(I)I" } : Jvm.MethodName) "MirrorNet"),
  (Jvm.Cond.methodLinkNest "MirrorNet" (76 : Nat) ({ cls := "MirrorNet$Shelf", name := "ageOf", desc := "(II)I" } : Jvm.MethodName) "MirrorNet"),
  (Jvm.Cond.methodLinkNest "MirrorNet" (79 : Nat) ({ cls := "MirrorNet$Shelf", name := "packagesNamedIn", desc := "(I)I" } : Jvm.MethodName) "MirrorNet"),
  (Jvm.Cond.methodLinkNest "MirrorNet" (82 : Nat) ({ cls := "MirrorNet$Shelf", name := "filesOf", desc := "(I)J" } : Jvm.MethodName) "MirrorNet"),
  (Jvm.Cond.methodLinkNest "MirrorNet" (86 : Nat) ({ cls := "MirrorNet$Shelf", name := "bytesOf", desc := "(J)I" } : Jvm.MethodName) "MirrorNet"),
  (Jvm.Cond.methodLinkNest "MirrorNet" (93 : Nat) ({ cls := "MirrorNet$Mirror", name := "<init>", desc := "(III)V" } : Jvm.MethodName) "MirrorNet"),
  (Jvm.Cond.fieldLinkNest "MirrorNet" (223 : Nat) "MirrorNet$Mirror" "source" "I" "MirrorNet"),
  (Jvm.Cond.fieldLinkNest "MirrorNet" (100 : Nat) "MirrorNet$Mirror" "bytesATick" "I" "MirrorNet"),
  (Jvm.Cond.fieldLinkNest "MirrorNet" (113 : Nat) "MirrorNet$Mirror" "index" "I" "MirrorNet"),
  (Jvm.Cond.fieldLinkNest "MirrorNet" (116 : Nat) "MirrorNet$Mirror" "target" "I" "MirrorNet"),
  (Jvm.Cond.fieldLinkNest "MirrorNet" (119 : Nat) "MirrorNet$Mirror" "files" "J" "MirrorNet"),
  (Jvm.Cond.fieldLinkNest "MirrorNet" (128 : Nat) "MirrorNet$Mirror" "done" "I" "MirrorNet"),
  (Jvm.Cond.fieldLinkNest "MirrorNet" (131 : Nat) "MirrorNet$Mirror" "taken" "I" "MirrorNet"),
  (Jvm.Cond.fieldLinkNest "MirrorNet" (106 : Nat) "MirrorNet$Mirror" "isLiar" "Z" "MirrorNet"),
  (Jvm.Cond.methodLinkNest "MirrorNet" (103 : Nat) ({ cls := "MirrorNet$Falls", name := "add", desc := "(III)I" } : Jvm.MethodName) "MirrorNet"),
  (Jvm.Cond.methodLinkNest "MirrorNet" (134 : Nat) ({ cls := "MirrorNet$Falls", name := "downAt", desc := "(I)I" } : Jvm.MethodName) "MirrorNet"),
  (Jvm.Cond.methodLinkNest "MirrorNet$Falls" (25 : Nat) ({ cls := "MirrorNet", name := "isWithin", desc := "(III)Z" } : Jvm.MethodName) "MirrorNet"),
  (Jvm.Cond.methodLinkNest "MirrorNet" (226 : Nat) ({ cls := "MirrorNet$Shelf", name := "latestState", desc := "()I" } : Jvm.MethodName) "MirrorNet"),
  (Jvm.Cond.methodLinkNest "MirrorNet" (230 : Nat) ({ cls := "MirrorNet$Shelf", name := "allFiles", desc := "()J" } : Jvm.MethodName) "MirrorNet"),
  (Jvm.Cond.methodLinkNest "MirrorNet" (234 : Nat) ({ cls := "MirrorNet$Mirror", name := "step", desc := "(LMirrorNet$Shelf;IJ)V" } : Jvm.MethodName) "MirrorNet"),
  (Jvm.Cond.methodLinkNest "MirrorNet$Mirror" (42 : Nat) ({ cls := "MirrorNet$Shelf", name := "filesOf", desc := "(I)J" } : Jvm.MethodName) "MirrorNet"),
  (Jvm.Cond.methodLinkNest "MirrorNet$Mirror" (74 : Nat) ({ cls := "MirrorNet", name := "leastOf", desc := "(J)I" } : Jvm.MethodName) "MirrorNet"),
  (Jvm.Cond.methodLinkNest "MirrorNet$Mirror" (38 : Nat) ({ cls := "MirrorNet", name := "bitOf", desc := "(I)J" } : Jvm.MethodName) "MirrorNet"),
  (Jvm.Cond.methodLinkNest "MirrorNet$Mirror" (77 : Nat) ({ cls := "MirrorNet$Shelf", name := "sizeOf", desc := "(I)I" } : Jvm.MethodName) "MirrorNet"),
  (Jvm.Cond.methodLinkNest "MirrorNet" (141 : Nat) ({ cls := "MirrorNet$Mirror", name := "bytesWanted", desc := "(LMirrorNet$Shelf;)I" } : Jvm.MethodName) "MirrorNet"),
  (Jvm.Cond.methodLinkNest "MirrorNet$Mirror" (53 : Nat) ({ cls := "MirrorNet$Shelf", name := "bytesOf", desc := "(J)I" } : Jvm.MethodName) "MirrorNet"),
  (Jvm.Cond.methodLinkNest "MirrorNet" (145 : Nat) ({ cls := "MirrorNet$Shelf", name := "hasFile", desc := "(I)Z" } : Jvm.MethodName) "MirrorNet"),
  (Jvm.Cond.methodLinkNest "MirrorNet" (148 : Nat) ({ cls := "MirrorNet$Mirror", name := "holds", desc := "(I)Z" } : Jvm.MethodName) "MirrorNet"),
  (Jvm.Cond.methodLinkNest "MirrorNet" (155 : Nat) ({ cls := "MirrorNet$Asker", name := "costOf", desc := "(I)I" } : Jvm.MethodName) "MirrorNet"),
  (Jvm.Cond.methodLinkNest "MirrorNet$Asker" (31 : Nat) ({ cls := "MirrorNet", name := "isWithin", desc := "(III)Z" } : Jvm.MethodName) "MirrorNet"),
  (Jvm.Cond.methodLinkNest "MirrorNet" (158 : Nat) ({ cls := "MirrorNet$Asker", name := "setCost", desc := "(II)V" } : Jvm.MethodName) "MirrorNet"),
  (Jvm.Cond.methodLinkNest "MirrorNet" (175 : Nat) ({ cls := "MirrorNet$Asking", name := "begin", desc := "()V" } : Jvm.MethodName) "MirrorNet"),
  (Jvm.Cond.methodLinkNest "MirrorNet" (178 : Nat) ({ cls := "MirrorNet$Asker", name := "lineUp", desc := "()V" } : Jvm.MethodName) "MirrorNet"),
  (Jvm.Cond.methodLinkNest "MirrorNet$Asker" (38 : Nat) ({ cls := "MirrorNet", name := "isIn", desc := "(II)Z" } : Jvm.MethodName) "MirrorNet"),
  (Jvm.Cond.methodLinkNest "MirrorNet" (251 : Nat) ({ cls := "MirrorNet$Asker", name := "inLine", desc := "(I)I" } : Jvm.MethodName) "MirrorNet"),
  (Jvm.Cond.methodLinkNest "MirrorNet" (254 : Nat) ({ cls := "MirrorNet$Asker", name := "knowsAsBad", desc := "(I)Z" } : Jvm.MethodName) "MirrorNet"),
  (Jvm.Cond.methodLinkNest "MirrorNet" (257 : Nat) ({ cls := "MirrorNet$Asking", name := "spend", desc := "(I)V" } : Jvm.MethodName) "MirrorNet"),
  (Jvm.Cond.methodLinkNest "MirrorNet" (261 : Nat) ({ cls := "MirrorNet$Asker", name := "markBad", desc := "(I)V" } : Jvm.MethodName) "MirrorNet"),
  (Jvm.Cond.methodLinkNest "MirrorNet" (267 : Nat) ({ cls := "MirrorNet$Shelf", name := "namesLongYanked", desc := "(III)Z" } : Jvm.MethodName) "MirrorNet"),
  (Jvm.Cond.methodLinkNest "MirrorNet" (273 : Nat) ({ cls := "MirrorNet$Asking", name := "keepGot", desc := "(III)V" } : Jvm.MethodName) "MirrorNet"),
  (Jvm.Cond.methodLinkNest "MirrorNet" (286 : Nat) ({ cls := "MirrorNet$Shelf", name := "namesAlike", desc := "(III)Z" } : Jvm.MethodName) "MirrorNet"),
  (Jvm.Cond.methodLinkNest "MirrorNet$Shelf" (85 : Nat) ({ cls := "MirrorNet", name := "isIn", desc := "(II)Z" } : Jvm.MethodName) "MirrorNet"),
  (Jvm.Cond.methodLinkNest "MirrorNet" (208 : Nat) ({ cls := "MirrorNet$Asking", name := "gotten", desc := "(II)I" } : Jvm.MethodName) "MirrorNet"),
  (Jvm.Cond.methodLinkNest "MirrorNet$Asking" (44 : Nat) ({ cls := "MirrorNet", name := "isWithin", desc := "(III)Z" } : Jvm.MethodName) "MirrorNet")]
theorem nw_0 : Cond.methodLinkNest RX5 11 yX4_init "MirrorNet" ∈ nestW := List.mem_of_getElem? (i := 0) rfl
theorem nw_1 : Cond.fieldLinkNest RX5 211 "MirrorNet$Shelf" "fileCount" "I" "MirrorNet" ∈ nestW := List.mem_of_getElem? (i := 1) rfl
theorem nw_2 : Cond.fieldLinkNest RX5 214 "MirrorNet$Shelf" "stateCount" "I" "MirrorNet" ∈ nestW := List.mem_of_getElem? (i := 2) rfl
theorem nw_3 : Cond.fieldLinkNest RX5 220 "MirrorNet$Shelf" "yanked" "J" "MirrorNet" ∈ nestW := List.mem_of_getElem? (i := 3) rfl
theorem nw_4 : Cond.methodLinkNest RX5 18 yX2_init "MirrorNet" ∈ nestW := List.mem_of_getElem? (i := 4) rfl
theorem nw_5 : Cond.fieldLinkNest RX5 217 "MirrorNet$Falls" "told" "I" "MirrorNet" ∈ nestW := List.mem_of_getElem? (i := 5) rfl
theorem nw_6 : Cond.methodLinkNest RX5 35 yX0_init "MirrorNet" ∈ nestW := List.mem_of_getElem? (i := 6) rfl
theorem nw_7 : Cond.fieldLinkNest RX5 248 "MirrorNet$Asker" "lineLength" "I" "MirrorNet" ∈ nestW := List.mem_of_getElem? (i := 7) rfl
theorem nw_8 : Cond.fieldLinkNest RX5 162 "MirrorNet$Asker" "mostAge" "I" "MirrorNet" ∈ nestW := List.mem_of_getElem? (i := 8) rfl
theorem nw_9 : Cond.fieldLinkNest RX5 172 "MirrorNet$Asker" "last" "I" "MirrorNet" ∈ nestW := List.mem_of_getElem? (i := 9) rfl
theorem nw_10 : Cond.fieldLinkNest RX5 165 "MirrorNet$Asker" "bad" "I" "MirrorNet" ∈ nestW := List.mem_of_getElem? (i := 10) rfl
theorem nw_11 : Cond.methodLinkNest RX5 38 yX1_init "MirrorNet" ∈ nestW := List.mem_of_getElem? (i := 11) rfl
theorem nw_12 : Cond.fieldLinkNest RX5 192 "MirrorNet$Asking" "isAny" "Z" "MirrorNet" ∈ nestW := List.mem_of_getElem? (i := 12) rfl
theorem nw_13 : Cond.fieldLinkNest RX5 195 "MirrorNet$Asking" "index" "I" "MirrorNet" ∈ nestW := List.mem_of_getElem? (i := 13) rfl
theorem nw_14 : Cond.fieldLinkNest RX5 196 "MirrorNet$Asking" "spent" "I" "MirrorNet" ∈ nestW := List.mem_of_getElem? (i := 14) rfl
theorem nw_15 : Cond.fieldLinkNest RX5 199 "MirrorNet$Asking" "askings" "I" "MirrorNet" ∈ nestW := List.mem_of_getElem? (i := 15) rfl
theorem nw_16 : Cond.fieldLinkNest RX5 202 "MirrorNet$Asking" "gotCount" "I" "MirrorNet" ∈ nestW := List.mem_of_getElem? (i := 16) rfl
theorem nw_17 : Cond.fieldLinkNest RX5 205 "MirrorNet$Asking" "lacking" "I" "MirrorNet" ∈ nestW := List.mem_of_getElem? (i := 17) rfl
theorem nw_18 : Cond.fieldLinkNest RX5 189 "MirrorNet$Asking" "foresight" "I" "MirrorNet" ∈ nestW := List.mem_of_getElem? (i := 18) rfl
theorem nw_19 : Cond.methodLinkNest RX5 51 yX4_addFile "MirrorNet" ∈ nestW := List.mem_of_getElem? (i := 19) rfl
theorem nw_20 : Cond.methodLinkNest RX5 58 yX4_addPut "MirrorNet" ∈ nestW := List.mem_of_getElem? (i := 20) rfl
theorem nw_21 : Cond.methodLinkNest RX4 41 yX5_isWithin "MirrorNet" ∈ nestW := List.mem_of_getElem? (i := 21) rfl
theorem nw_22 : Cond.methodLinkNest RX4 69 yX5_bitOf "MirrorNet" ∈ nestW := List.mem_of_getElem? (i := 22) rfl
theorem nw_23 : Cond.methodLinkNest RX5 62 yX4_addYank "MirrorNet" ∈ nestW := List.mem_of_getElem? (i := 23) rfl
theorem nw_24 : Cond.methodLinkNest RX5 66 yX4_namedBy "MirrorNet" ∈ nestW := List.mem_of_getElem? (i := 24) rfl
theorem nw_25 : Cond.methodLinkNest RX5 69 yX4_hasState "MirrorNet" ∈ nestW := List.mem_of_getElem? (i := 25) rfl
theorem nw_26 : Cond.methodLinkNest RX5 73 yX4_tickOf "MirrorNet" ∈ nestW := List.mem_of_getElem? (i := 26) rfl
theorem nw_27 : Cond.methodLinkNest RX5 76 yX4_ageOf "MirrorNet" ∈ nestW := List.mem_of_getElem? (i := 27) rfl
theorem nw_28 : Cond.methodLinkNest RX5 79 yX4_packagesNamedIn "MirrorNet" ∈ nestW := List.mem_of_getElem? (i := 28) rfl
theorem nw_29 : Cond.methodLinkNest RX5 82 yX4_filesOf "MirrorNet" ∈ nestW := List.mem_of_getElem? (i := 29) rfl
theorem nw_30 : Cond.methodLinkNest RX5 86 yX4_bytesOf "MirrorNet" ∈ nestW := List.mem_of_getElem? (i := 30) rfl
theorem nw_31 : Cond.methodLinkNest RX5 93 yX3_init "MirrorNet" ∈ nestW := List.mem_of_getElem? (i := 31) rfl
theorem nw_32 : Cond.fieldLinkNest RX5 223 "MirrorNet$Mirror" "source" "I" "MirrorNet" ∈ nestW := List.mem_of_getElem? (i := 32) rfl
theorem nw_33 : Cond.fieldLinkNest RX5 100 "MirrorNet$Mirror" "bytesATick" "I" "MirrorNet" ∈ nestW := List.mem_of_getElem? (i := 33) rfl
theorem nw_34 : Cond.fieldLinkNest RX5 113 "MirrorNet$Mirror" "index" "I" "MirrorNet" ∈ nestW := List.mem_of_getElem? (i := 34) rfl
theorem nw_35 : Cond.fieldLinkNest RX5 116 "MirrorNet$Mirror" "target" "I" "MirrorNet" ∈ nestW := List.mem_of_getElem? (i := 35) rfl
theorem nw_36 : Cond.fieldLinkNest RX5 119 "MirrorNet$Mirror" "files" "J" "MirrorNet" ∈ nestW := List.mem_of_getElem? (i := 36) rfl
theorem nw_37 : Cond.fieldLinkNest RX5 128 "MirrorNet$Mirror" "done" "I" "MirrorNet" ∈ nestW := List.mem_of_getElem? (i := 37) rfl
theorem nw_38 : Cond.fieldLinkNest RX5 131 "MirrorNet$Mirror" "taken" "I" "MirrorNet" ∈ nestW := List.mem_of_getElem? (i := 38) rfl
theorem nw_39 : Cond.fieldLinkNest RX5 106 "MirrorNet$Mirror" "isLiar" "Z" "MirrorNet" ∈ nestW := List.mem_of_getElem? (i := 39) rfl
theorem nw_40 : Cond.methodLinkNest RX5 103 yX2_add "MirrorNet" ∈ nestW := List.mem_of_getElem? (i := 40) rfl
theorem nw_41 : Cond.methodLinkNest RX5 134 yX2_downAt "MirrorNet" ∈ nestW := List.mem_of_getElem? (i := 41) rfl
theorem nw_42 : Cond.methodLinkNest RX2 25 yX5_isWithin "MirrorNet" ∈ nestW := List.mem_of_getElem? (i := 42) rfl
theorem nw_43 : Cond.methodLinkNest RX5 226 yX4_latestState "MirrorNet" ∈ nestW := List.mem_of_getElem? (i := 43) rfl
theorem nw_44 : Cond.methodLinkNest RX5 230 yX4_allFiles "MirrorNet" ∈ nestW := List.mem_of_getElem? (i := 44) rfl
theorem nw_45 : Cond.methodLinkNest RX5 234 yX3_step "MirrorNet" ∈ nestW := List.mem_of_getElem? (i := 45) rfl
theorem nw_46 : Cond.methodLinkNest RX3 42 yX4_filesOf "MirrorNet" ∈ nestW := List.mem_of_getElem? (i := 46) rfl
theorem nw_47 : Cond.methodLinkNest RX3 74 yX5_leastOf "MirrorNet" ∈ nestW := List.mem_of_getElem? (i := 47) rfl
theorem nw_48 : Cond.methodLinkNest RX3 38 yX5_bitOf "MirrorNet" ∈ nestW := List.mem_of_getElem? (i := 48) rfl
theorem nw_49 : Cond.methodLinkNest RX3 77 yX4_sizeOf "MirrorNet" ∈ nestW := List.mem_of_getElem? (i := 49) rfl
theorem nw_50 : Cond.methodLinkNest RX5 141 yX3_bytesWanted "MirrorNet" ∈ nestW := List.mem_of_getElem? (i := 50) rfl
theorem nw_51 : Cond.methodLinkNest RX3 53 yX4_bytesOf "MirrorNet" ∈ nestW := List.mem_of_getElem? (i := 51) rfl
theorem nw_52 : Cond.methodLinkNest RX5 145 yX4_hasFile "MirrorNet" ∈ nestW := List.mem_of_getElem? (i := 52) rfl
theorem nw_53 : Cond.methodLinkNest RX5 148 yX3_holds "MirrorNet" ∈ nestW := List.mem_of_getElem? (i := 53) rfl
theorem nw_54 : Cond.methodLinkNest RX5 155 yX0_costOf "MirrorNet" ∈ nestW := List.mem_of_getElem? (i := 54) rfl
theorem nw_55 : Cond.methodLinkNest RX0 31 yX5_isWithin "MirrorNet" ∈ nestW := List.mem_of_getElem? (i := 55) rfl
theorem nw_56 : Cond.methodLinkNest RX5 158 yX0_setCost "MirrorNet" ∈ nestW := List.mem_of_getElem? (i := 56) rfl
theorem nw_57 : Cond.methodLinkNest RX5 175 yX1_begin "MirrorNet" ∈ nestW := List.mem_of_getElem? (i := 57) rfl
theorem nw_58 : Cond.methodLinkNest RX5 178 yX0_lineUp "MirrorNet" ∈ nestW := List.mem_of_getElem? (i := 58) rfl
theorem nw_59 : Cond.methodLinkNest RX0 38 yX5_isIn "MirrorNet" ∈ nestW := List.mem_of_getElem? (i := 59) rfl
theorem nw_60 : Cond.methodLinkNest RX5 251 yX0_inLine "MirrorNet" ∈ nestW := List.mem_of_getElem? (i := 60) rfl
theorem nw_61 : Cond.methodLinkNest RX5 254 yX0_knowsAsBad "MirrorNet" ∈ nestW := List.mem_of_getElem? (i := 61) rfl
theorem nw_62 : Cond.methodLinkNest RX5 257 yX1_spend "MirrorNet" ∈ nestW := List.mem_of_getElem? (i := 62) rfl
theorem nw_63 : Cond.methodLinkNest RX5 261 yX0_markBad "MirrorNet" ∈ nestW := List.mem_of_getElem? (i := 63) rfl
theorem nw_64 : Cond.methodLinkNest RX5 267 yX4_namesLongYanked "MirrorNet" ∈ nestW := List.mem_of_getElem? (i := 64) rfl
theorem nw_65 : Cond.methodLinkNest RX5 273 yX1_keepGot "MirrorNet" ∈ nestW := List.mem_of_getElem? (i := 65) rfl
theorem nw_66 : Cond.methodLinkNest RX5 286 yX4_namesAlike "MirrorNet" ∈ nestW := List.mem_of_getElem? (i := 66) rfl
theorem nw_67 : Cond.methodLinkNest RX4 85 yX5_isIn "MirrorNet" ∈ nestW := List.mem_of_getElem? (i := 67) rfl
theorem nw_68 : Cond.methodLinkNest RX5 208 yX1_gotten "MirrorNet" ∈ nestW := List.mem_of_getElem? (i := 68) rfl
theorem nw_69 : Cond.methodLinkNest RX1 44 yX5_isWithin "MirrorNet" ∈ nestW := List.mem_of_getElem? (i := 69) rfl
def isNest (w : Cond) : Bool := match w with
  | .fieldLinkNest .. => true
  | .methodLinkNest .. => true
  | _ => false
theorem nest_ok : nestW.all isNest = true := by decide +kernel
theorem nest_tab {w : Cond} (h : isNest w = true) : w.onTables = true := by
  cases w <;> first | rfl | cases h
theorem nest_warm1 {w : Cond} (h : isNest w = true) {s U : State} (hW : s.WarmedH U.vm) (hZ : va_Nw w s) : va_Nw w U := by
  cases w <;> first | exact va_Nw.warmF hW hZ | exact va_Nw.warmM hW hZ | cases h
theorem nest_is {w : Cond} (h : w ∈ nestW) : isNest w = true := List.all_eq_true.mp nest_ok w h
/-- what a method finds: the memory in the heap, the tables -/
def GW (D : va_G) (ad : Nat → Nat) (kc : Nat → ClassId) (nm z : Nat) (M : Mem) (U : State) : Prop :=
  va_P D vwCl (wl ad kc nm M) U.heap ∧ va_K D vwCl (tysOf kc) U ∧ z ≤ U.heap.size ∧ ∀ w ∈ nestW, va_Nw w U
theorem gw_blind {D : va_G} {ad : Nat → Nat} {kc : Nat → ClassId} {nm z : Nat} {M : Mem} {av : List Value} : FrameBlind (va_Pc av (GW D ad kc nm z M)) := by
  intro a U g mk q
  obtain ⟨q0, qP, qK, qz, qN⟩ := q
  exact ⟨q0, qP, va_K.moved (u := U) (U := U.calling g mk a) (Vm.Alike.refl U.vm) qK, qz, fun w hw => va_Nw.same (nest_tab (nest_is hw)) (u := U) (U := U.calling g mk a) rfl (qN w hw)⟩
theorem gw_pre {D : va_G} {ad : Nat → Nat} {kc : Nat → ClassId} {nm z : Nat} {M : Mem} {s : State} {H : Heap} (av : List Value) (hK : va_K D vwCl (tysOf kc) s) (hP : va_P D vwCl (wl ad kc nm M) H) (hz : z ≤ H.size) (hN : ∀ w ∈ nestW, va_Nw w s) : ∀ U : State, U.heap = H → s.WarmedH U.vm → va_Pc av (GW D ad kc nm z M) av.toArray U :=
  fun U hU hW => ⟨rfl, by rw [hU]; exact hP, va_K.moved hW.alike hK, by rw [hU]; exact hz, fun w hw => nest_warm1 (nest_is hw) hW (hN w hw)⟩
theorem gw_recv {D : va_G} {ad : Nat → Nat} {kc : Nat → ClassId} {nm : Nat} {M : Mem} {s : State} {H : Heap} {i ci : Nat} {fk : List Nat} {q : vw_C} (ob : Ob nm i ci fk) (hK : va_K D vwCl (tysOf kc) s) (hP : va_P D vwCl (wl ad kc nm M) H) (hc : vwCl[ci]? = some q) : ∃ cell : Cell, H[ad i]? = some cell ∧ cell.vm.isStatics = false ∧ s.vm.findClass q.1 = some cell.cls :=
  va_recv hK hP hc (q0 := i) (fs := fvs ad M i 0 fk) (by rw [wl_at ob.1, ce_ob ob])
section RowQ
variable {p : Program} {l : Launch} {e : Env} {R : Room} {s : State} {m : MethodId} {args : Array Value} {below : List Frame} {meth : Method} {c : Code} {H : Heap} {locs : List Loc} {cells slots : Nat} {Q : State → Prop}
variable {cc : ByteArray} {pc : Nat} {ls : Array Slot} {rest st0 : List Value} {D : va_G} {ad : Nat → Nat} {kc : Nat → ClassId} {nm z : Nat} {M : Mem} {H0 : Heap}
theorem q_getI (hexec : p.tables.exec = Jvm.exec) (hb : c.code = cc) {own ref C : String} {T : u_T} {N ci index : Nat} {Ts : List Cond} (hts : ∀ w ∈ Ts, w.before args s = true) (hin : ∀ w ∈ u_ws C T N, w ∈ Ts) (hown : s.vm.findClass own = some m.cls) (hK : va_K D vwCl (tysOf kc) s) (hP : va_P D vwCl (wl ad kc nm M) H) {i : Nat} {fk : List Nat} (ob : Ob nm i ci fk) (hc : vwCl[ci]? = some (C, T, N)) (k : Nat) (hk : k < N) (hf : fk[k]? = some 0) (hlink : (Cond.fieldLink own index ref (T k).2.1 (T k).2.2.1).before args s = true) (hsame : ∀ x, s.fieldFound? (T k).1 (T k).2.1 (T k).2.2.1 = some x → s.fieldFound? ref (T k).2.1 (T k).2.2.1 = some x) (hdg : decode cc pc = .ok (.getfield index, 3))
    (kk : W p l e R s m args below meth c H locs cells slots Q (F0 m (pc + 3) ls (.int (gI M i k) :: rest))) : W p l e R s m args below meth c H locs cells slots Q (F0 m pc ls (.ref (ad i) :: rest)) :=
  va_get hexec hb hts hin hown hK hP i (fs := fvs ad M i 0 fk) (by rw [wl_at ob.1, ce_ob ob]) hc k hk hlink hsame (v := .int (gI M i k)) (by rw [fvs_get, hf, Nat.zero_add]; rfl) hdg kk
theorem q_getJ (hexec : p.tables.exec = Jvm.exec) (hb : c.code = cc) {own ref C : String} {T : u_T} {N ci index : Nat} {Ts : List Cond} (hts : ∀ w ∈ Ts, w.before args s = true) (hin : ∀ w ∈ u_ws C T N, w ∈ Ts) (hown : s.vm.findClass own = some m.cls) (hK : va_K D vwCl (tysOf kc) s) (hP : va_P D vwCl (wl ad kc nm M) H) {i : Nat} {fk : List Nat} (ob : Ob nm i ci fk) (hc : vwCl[ci]? = some (C, T, N)) (k : Nat) (hk : k < N) (hf : fk[k]? = some 1) (hlink : (Cond.fieldLink own index ref (T k).2.1 (T k).2.2.1).before args s = true) (hsame : ∀ x, s.fieldFound? (T k).1 (T k).2.1 (T k).2.2.1 = some x → s.fieldFound? ref (T k).2.1 (T k).2.2.1 = some x) (hdg : decode cc pc = .ok (.getfield index, 3))
    (kk : W p l e R s m args below meth c H locs cells slots Q (F0 m (pc + 3) ls (.long (gJ M i k) :: rest))) : W p l e R s m args below meth c H locs cells slots Q (F0 m pc ls (.ref (ad i) :: rest)) :=
  va_get hexec hb hts hin hown hK hP i (fs := fvs ad M i 0 fk) (by rw [wl_at ob.1, ce_ob ob]) hc k hk hlink hsame (v := .long (gJ M i k)) (by rw [fvs_get, hf, Nat.zero_add]; rfl) hdg kk
theorem q_getR (hexec : p.tables.exec = Jvm.exec) (hb : c.code = cc) {own ref C : String} {T : u_T} {N ci index : Nat} {Ts : List Cond} (hts : ∀ w ∈ Ts, w.before args s = true) (hin : ∀ w ∈ u_ws C T N, w ∈ Ts) (hown : s.vm.findClass own = some m.cls) (hK : va_K D vwCl (tysOf kc) s) (hP : va_P D vwCl (wl ad kc nm M) H) {i : Nat} {fk : List Nat} (ob : Ob nm i ci fk) (hc : vwCl[ci]? = some (C, T, N)) (k : Nat) (hk : k < N) {r : Nat} (hf : fk[k]? = some (r + 2)) (hlink : (Cond.fieldLink own index ref (T k).2.1 (T k).2.2.1).before args s = true) (hsame : ∀ x, s.fieldFound? (T k).1 (T k).2.1 (T k).2.2.1 = some x → s.fieldFound? ref (T k).2.1 (T k).2.2.1 = some x) (hdg : decode cc pc = .ok (.getfield index, 3))
    (kk : W p l e R s m args below meth c H locs cells slots Q (F0 m (pc + 3) ls (.ref (ad r) :: rest))) : W p l e R s m args below meth c H locs cells slots Q (F0 m pc ls (.ref (ad i) :: rest)) :=
  va_get hexec hb hts hin hown hK hP i (fs := fvs ad M i 0 fk) (by rw [wl_at ob.1, ce_ob ob]) hc k hk hlink hsame (v := .ref (ad r)) (by rw [fvs_get, hf]; rfl) hdg kk
theorem q_getIN (hexec : p.tables.exec = Jvm.exec) (hb : c.code = cc) {own ref C host : String} {T : u_T} {N ci index : Nat} {Ts : List Cond} (hts : ∀ w ∈ Ts, w.before args s = true) (hin : ∀ w ∈ u_ws C T N, w ∈ Ts) (hown : s.vm.findClass own = some m.cls) (hK : va_K D vwCl (tysOf kc) s) (hP : va_P D vwCl (wl ad kc nm M) H) {i : Nat} {fk : List Nat} (ob : Ob nm i ci fk) (hc : vwCl[ci]? = some (C, T, N)) (k : Nat) (hk : k < N) (hf : fk[k]? = some 0) (hlink : va_Nw (Cond.fieldLinkNest own index ref (T k).2.1 (T k).2.2.1 host) s) (hsame : ∀ x, s.fieldFound? (T k).1 (T k).2.1 (T k).2.2.1 = some x → s.fieldFound? ref (T k).2.1 (T k).2.2.1 = some x) (hdg : decode cc pc = .ok (.getfield index, 3))
    (kk : W p l e R s m args below meth c H locs cells slots Q (F0 m (pc + 3) ls (.int (gI M i k) :: rest))) : W p l e R s m args below meth c H locs cells slots Q (F0 m pc ls (.ref (ad i) :: rest)) :=
  va_getN hexec hb hts hin hown hK hP i (fs := fvs ad M i 0 fk) (by rw [wl_at ob.1, ce_ob ob]) hc k hk (va_Nw.use rfl hlink) hsame (v := .int (gI M i k)) (by rw [fvs_get, hf, Nat.zero_add]; rfl) hdg kk
theorem q_getJN (hexec : p.tables.exec = Jvm.exec) (hb : c.code = cc) {own ref C host : String} {T : u_T} {N ci index : Nat} {Ts : List Cond} (hts : ∀ w ∈ Ts, w.before args s = true) (hin : ∀ w ∈ u_ws C T N, w ∈ Ts) (hown : s.vm.findClass own = some m.cls) (hK : va_K D vwCl (tysOf kc) s) (hP : va_P D vwCl (wl ad kc nm M) H) {i : Nat} {fk : List Nat} (ob : Ob nm i ci fk) (hc : vwCl[ci]? = some (C, T, N)) (k : Nat) (hk : k < N) (hf : fk[k]? = some 1) (hlink : va_Nw (Cond.fieldLinkNest own index ref (T k).2.1 (T k).2.2.1 host) s) (hsame : ∀ x, s.fieldFound? (T k).1 (T k).2.1 (T k).2.2.1 = some x → s.fieldFound? ref (T k).2.1 (T k).2.2.1 = some x) (hdg : decode cc pc = .ok (.getfield index, 3))
    (kk : W p l e R s m args below meth c H locs cells slots Q (F0 m (pc + 3) ls (.long (gJ M i k) :: rest))) : W p l e R s m args below meth c H locs cells slots Q (F0 m pc ls (.ref (ad i) :: rest)) :=
  va_getN hexec hb hts hin hown hK hP i (fs := fvs ad M i 0 fk) (by rw [wl_at ob.1, ce_ob ob]) hc k hk (va_Nw.use rfl hlink) hsame (v := .long (gJ M i k)) (by rw [fvs_get, hf, Nat.zero_add]; rfl) hdg kk
theorem q_putI (hexec : p.tables.exec = Jvm.exec) (hb : c.code = cc) {own ref C : String} {T : u_T} {N ci index : Nat} {Ts : List Cond} (hts : ∀ w ∈ Ts, w.before args s = true) (hin : ∀ w ∈ u_ws C T N, w ∈ Ts) (ty0 : Nat → FieldType) (hty : ∀ k, k < N → parseFieldDescriptor (T k).2.2.1 = some (ty0 k)) (hnm : ∀ a, a < N → ∀ b, b < N → a ≠ b → (T a).2.1 ≠ (T b).2.1) (hown : s.vm.findClass own = some m.cls) (hK : va_K D vwCl (tysOf kc) s) (hP : va_P D vwCl (wl ad kc nm M) H) (hAD : AD ad nm z) (hS0 : va_S (fun q => z ≤ q) H0 H locs) {i : Nat} {fk : List Nat} (ob : Ob nm i ci fk) (hc : vwCl[ci]? = some (C, T, N)) (k : Nat) (hk : k < N) (hf : fk[k]? = some 0) (hlink : (Cond.fieldLink own index ref (T k).2.1 (T k).2.2.1).before args s = true) (hsame : ∀ x, s.fieldFound? (T k).1 (T k).2.1 (T k).2.2.1 = some x → s.fieldFound? ref (T k).2.1 (T k).2.2.1 = some x) (hfin : (T k).2.2.2 = false) {ty : FieldType} {v : Int32} (hd : parseFieldDescriptor (T k).2.2.1 = some ty) (hn : narrow ty (.int v) = .int v) (hfit : fits ty (.int v) = true)
    (hdg : decode cc pc = .ok (.putfield index, 3)) (kk : ∀ (H1 : Heap) (locs1 : List Loc), va_P D vwCl (wl ad kc nm (sI M i k v)) H1 → va_S (fun q => z ≤ q) H0 H1 locs1 → W p l e R s m args below meth c H1 locs1 cells slots Q (F0 m (pc + 3) ls rest)) : W p l e R s m args below meth c H locs cells slots Q (F0 m pc ls (.int v :: .ref (ad i) :: rest)) := by
  have hkl : k < fk.length := (List.getElem?_eq_some_iff.mp hf).1
  refine va_put hexec hb hts hin ty0 hty hnm hown hK hP (wl_D hAD kc M) hS0 i (fs := fvs ad M i 0 fk) (by rw [wl_at ob.1, ce_ob ob]) hc k hk hlink hsame hfin hd hn hfit (by rw [fvs_len]; exact hkl) hdg fun H1 locs1 hP1 _ hS1 => ?_
  rw [fvs_setI v hf, wl_setI (j := k) (v := v) (ce_ob ob)] at hP1
  exact kk H1 locs1 hP1 hS1
theorem q_putJ (hexec : p.tables.exec = Jvm.exec) (hb : c.code = cc) {own ref C : String} {T : u_T} {N ci index : Nat} {Ts : List Cond} (hts : ∀ w ∈ Ts, w.before args s = true) (hin : ∀ w ∈ u_ws C T N, w ∈ Ts) (ty0 : Nat → FieldType) (hty : ∀ k, k < N → parseFieldDescriptor (T k).2.2.1 = some (ty0 k)) (hnm : ∀ a, a < N → ∀ b, b < N → a ≠ b → (T a).2.1 ≠ (T b).2.1) (hown : s.vm.findClass own = some m.cls) (hK : va_K D vwCl (tysOf kc) s) (hP : va_P D vwCl (wl ad kc nm M) H) (hAD : AD ad nm z) (hS0 : va_S (fun q => z ≤ q) H0 H locs) {i : Nat} {fk : List Nat} (ob : Ob nm i ci fk) (hc : vwCl[ci]? = some (C, T, N)) (k : Nat) (hk : k < N) (hf : fk[k]? = some 1) (hlink : (Cond.fieldLink own index ref (T k).2.1 (T k).2.2.1).before args s = true) (hsame : ∀ x, s.fieldFound? (T k).1 (T k).2.1 (T k).2.2.1 = some x → s.fieldFound? ref (T k).2.1 (T k).2.2.1 = some x) (hfin : (T k).2.2.2 = false) {v : Int64} (hd : parseFieldDescriptor (T k).2.2.1 = some .long)
    (hdg : decode cc pc = .ok (.putfield index, 3)) (kk : ∀ (H1 : Heap) (locs1 : List Loc), va_P D vwCl (wl ad kc nm (sJ M i k v)) H1 → va_S (fun q => z ≤ q) H0 H1 locs1 → W p l e R s m args below meth c H1 locs1 cells slots Q (F0 m (pc + 3) ls rest)) : W p l e R s m args below meth c H locs cells slots Q (F0 m pc ls (.long v :: .ref (ad i) :: rest)) := by
  have hkl : k < fk.length := (List.getElem?_eq_some_iff.mp hf).1
  refine va_put hexec hb hts hin ty0 hty hnm hown hK hP (wl_D hAD kc M) hS0 i (fs := fvs ad M i 0 fk) (by rw [wl_at ob.1, ce_ob ob]) hc k hk hlink hsame hfin hd (v := .long v) rfl rfl (by rw [fvs_len]; exact hkl) hdg fun H1 locs1 hP1 _ hS1 => ?_
  rw [fvs_setJ v hf, wl_setJ (j := k) (v := v) (ce_ob ob)] at hP1
  exact kk H1 locs1 hP1 hS1
theorem q_putIN (hexec : p.tables.exec = Jvm.exec) (hb : c.code = cc) {own ref C host : String} {T : u_T} {N ci index : Nat} {Ts : List Cond} (hts : ∀ w ∈ Ts, w.before args s = true) (hin : ∀ w ∈ u_ws C T N, w ∈ Ts) (ty0 : Nat → FieldType) (hty : ∀ k, k < N → parseFieldDescriptor (T k).2.2.1 = some (ty0 k)) (hnm : ∀ a, a < N → ∀ b, b < N → a ≠ b → (T a).2.1 ≠ (T b).2.1) (hown : s.vm.findClass own = some m.cls) (hK : va_K D vwCl (tysOf kc) s) (hP : va_P D vwCl (wl ad kc nm M) H) (hAD : AD ad nm z) (hS0 : va_S (fun q => z ≤ q) H0 H locs) {i : Nat} {fk : List Nat} (ob : Ob nm i ci fk) (hc : vwCl[ci]? = some (C, T, N)) (k : Nat) (hk : k < N) (hf : fk[k]? = some 0) (hlink : va_Nw (Cond.fieldLinkNest own index ref (T k).2.1 (T k).2.2.1 host) s) (hsame : ∀ x, s.fieldFound? (T k).1 (T k).2.1 (T k).2.2.1 = some x → s.fieldFound? ref (T k).2.1 (T k).2.2.1 = some x) (hfin : (T k).2.2.2 = false) {ty : FieldType} {v : Int32} (hd : parseFieldDescriptor (T k).2.2.1 = some ty) (hn : narrow ty (.int v) = .int v) (hfit : fits ty (.int v) = true)
    (hdg : decode cc pc = .ok (.putfield index, 3)) (kk : ∀ (H1 : Heap) (locs1 : List Loc), va_P D vwCl (wl ad kc nm (sI M i k v)) H1 → va_S (fun q => z ≤ q) H0 H1 locs1 → W p l e R s m args below meth c H1 locs1 cells slots Q (F0 m (pc + 3) ls rest)) : W p l e R s m args below meth c H locs cells slots Q (F0 m pc ls (.int v :: .ref (ad i) :: rest)) := by
  have hkl : k < fk.length := (List.getElem?_eq_some_iff.mp hf).1
  refine va_putN hexec hb hts hin ty0 hty hnm hown hK hP (wl_D hAD kc M) hS0 i (fs := fvs ad M i 0 fk) (by rw [wl_at ob.1, ce_ob ob]) hc k hk (va_Nw.use rfl hlink) hsame hfin hd hn hfit (by rw [fvs_len]; exact hkl) hdg fun H1 locs1 hP1 _ hS1 => ?_
  rw [fvs_setI v hf, wl_setI (j := k) (v := v) (ce_ob ob)] at hP1
  exact kk H1 locs1 hP1 hS1
theorem q_iald (hexec : p.tables.exec = Jvm.exec) (hb : c.code = cc) (hK : va_K D vwCl (tysOf kc) s) (hP : va_P D vwCl (wl ad kc nm M) H) {i n : Nat} (ar : Ar nm i 7 n) {j : Int32} (hin : ok j n = true) (hdg : decode cc pc = .ok (.iaload, 1))
    (kk : W p l e R s m args below meth c H locs cells slots Q (F0 m (pc + 1) ls (.int (gI M i (ix j)) :: rest))) : W p l e R s m args below meth c H locs cells slots Q (F0 m pc ls (.int j :: .ref (ad i) :: rest)) :=
  va_iald hexec hb hK hP i 0 (cA := kc 0) (n := n) (f := M.1 i) (by rw [wl_at ar.1, ce_ar7 ar]) rfl (ok_in hin) hdg kk
theorem q_zald (hexec : p.tables.exec = Jvm.exec) (hb : c.code = cc) (hK : va_K D vwCl (tysOf kc) s) (hP : va_P D vwCl (wl ad kc nm M) H) {i n : Nat} (ar : Ar nm i 9 n) {j : Int32} (hin : ok j n = true) (hdg : decode cc pc = .ok (.baload, 1))
    (kk : W p l e R s m args below meth c H locs cells slots Q (F0 m (pc + 1) ls (.int (gI M i (ix j)) :: rest))) : W p l e R s m args below meth c H locs cells slots Q (F0 m pc ls (.int j :: .ref (ad i) :: rest)) :=
  va_zald hexec hb hK hP i 2 (cA := kc 2) (n := n) (f := M.1 i) (by rw [wl_at ar.1, ce_ar9 ar]) rfl (ok_in hin) hdg kk
theorem q_lald (hexec : p.tables.exec = Jvm.exec) (hb : c.code = cc) (hK : va_K D vwCl (tysOf kc) s) (hP : va_P D vwCl (wl ad kc nm M) H) {i n : Nat} (ar : Ar nm i 8 n) {j : Int32} (hin : ok j n = true) (hdg : decode cc pc = .ok (.laload, 1))
    (kk : W p l e R s m args below meth c H locs cells slots Q (F0 m (pc + 1) ls (.long (gJ M i (ix j)) :: rest))) : W p l e R s m args below meth c H locs cells slots Q (F0 m pc ls (.int j :: .ref (ad i) :: rest)) :=
  va_lald hexec hb hK hP i 1 (cA := kc 1) (n := n) (f := M.2 i) (by rw [wl_at ar.1, ce_ar8 ar]) rfl (ok_in hin) hdg kk
theorem q_iast (hexec : p.tables.exec = Jvm.exec) (hb : c.code = cc) (hK : va_K D vwCl (tysOf kc) s) (hP : va_P D vwCl (wl ad kc nm M) H) (hAD : AD ad nm z) (hS : va_S (fun q => z ≤ q) H0 H locs) {i n : Nat} (ar : Ar nm i 7 n) {j x : Int32} (hin : ok j n = true) (hdg : decode cc pc = .ok (.iastore, 1))
    (kk : ∀ (H1 : Heap) (locs1 : List Loc), va_P D vwCl (wl ad kc nm (sI M i (ix j) x)) H1 → va_S (fun q => z ≤ q) H0 H1 locs1 → W p l e R s m args below meth c H1 locs1 cells slots Q (F0 m (pc + 1) ls rest)) : W p l e R s m args below meth c H locs cells slots Q (F0 m pc ls (.int x :: .int j :: .ref (ad i) :: rest)) := by
  refine va_iast hexec hb hK hP (wl_D hAD kc M) hS i 0 (cA := kc 0) (n := n) (f := M.1 i) (by rw [wl_at ar.1, ce_ar7 ar]) rfl (ok_in hin) hdg fun H1 locs1 hP1 _ hS1 => ?_
  rw [wl_setI (j := ix j) (v := x) (by rw [ce_ar7 ar, sI_row]; rfl)] at hP1
  exact kk H1 locs1 hP1 hS1
theorem q_zast (hexec : p.tables.exec = Jvm.exec) (hb : c.code = cc) (hK : va_K D vwCl (tysOf kc) s) (hP : va_P D vwCl (wl ad kc nm M) H) (hAD : AD ad nm z) (hS : va_S (fun q => z ≤ q) H0 H locs) {i n : Nat} (ar : Ar nm i 9 n) {j x : Int32} (hin : ok j n = true) (hdg : decode cc pc = .ok (.bastore, 1))
    (kk : ∀ (H1 : Heap) (locs1 : List Loc), va_P D vwCl (wl ad kc nm (sI M i (ix j) (zb x))) H1 → va_S (fun q => z ≤ q) H0 H1 locs1 → W p l e R s m args below meth c H1 locs1 cells slots Q (F0 m (pc + 1) ls rest)) : W p l e R s m args below meth c H locs cells slots Q (F0 m pc ls (.int x :: .int j :: .ref (ad i) :: rest)) := by
  refine va_zast hexec hb hK hP (wl_D hAD kc M) hS i 2 (cA := kc 2) (n := n) (f := M.1 i) (by rw [wl_at ar.1, ce_ar9 ar]) rfl (ok_in hin) hdg fun H1 locs1 hP1 _ hS1 => ?_
  rw [wl_setI (j := ix j) (v := zb x) (by rw [ce_ar9 ar, sI_row]; rfl)] at hP1
  exact kk H1 locs1 hP1 hS1
theorem q_last (hexec : p.tables.exec = Jvm.exec) (hb : c.code = cc) (hK : va_K D vwCl (tysOf kc) s) (hP : va_P D vwCl (wl ad kc nm M) H) (hAD : AD ad nm z) (hS : va_S (fun q => z ≤ q) H0 H locs) {i n : Nat} (ar : Ar nm i 8 n) {j : Int32} {x : Int64} (hin : ok j n = true) (hdg : decode cc pc = .ok (.lastore, 1))
    (kk : ∀ (H1 : Heap) (locs1 : List Loc), va_P D vwCl (wl ad kc nm (sJ M i (ix j) x)) H1 → va_S (fun q => z ≤ q) H0 H1 locs1 → W p l e R s m args below meth c H1 locs1 cells slots Q (F0 m (pc + 1) ls rest)) : W p l e R s m args below meth c H locs cells slots Q (F0 m pc ls (.long x :: .int j :: .ref (ad i) :: rest)) := by
  refine va_last hexec hb hK hP (wl_D hAD kc M) hS i 1 (cA := kc 1) (n := n) (f := M.2 i) (by rw [wl_at ar.1, ce_ar8 ar]) rfl (ok_in hin) hdg fun H1 locs1 hP1 _ hS1 => ?_
  rw [wl_setJ (j := ix j) (v := x) (by rw [ce_ar8 ar, sJ_row]; rfl)] at hP1
  exact kk H1 locs1 hP1 hS1
theorem q_aldM (hexec : p.tables.exec = Jvm.exec) (hb : c.code = cc) (hK : va_K D vwCl (tysOf kc) s) (hP : va_P D vwCl (wl ad kc nm M) H) {i n : Nat} (ar : Ar nm i 10 n) {j : Int32} (hin : ok j n = true) (hdg : decode cc pc = .ok (.aaload, 1))
    (kn : mr nm j = none → W p l e R s m args below meth c H locs cells slots Q (F0 m (pc + 1) ls (.null :: rest)))
    (ks : ∀ q : Nat, mr nm j = some q → q < nm → W p l e R s m args below meth c H locs cells slots Q (F0 m (pc + 1) ls (.ref (ad (62 + 2 * q)) :: rest))) : W p l e R s m args below meth c H locs cells slots Q (F0 m pc ls (.int j :: .ref (ad i) :: rest)) := by
  refine va_aldq hexec hb hK hP i 3 (cA := kc 3) (n := n) (C := "MirrorNet$Mirror") (f := fun j => if j < nm then some (ad (62 + 2 * j)) else none) (by rw [wl_at ar.1, ce_ar10 ar]) rfl (ok_in hin) hdg ?_
  by_cases h : ix j < nm
  · have hi : j.toNatClampNeg < nm := h
    simp only [hi, if_true]
    exact ks (ix j) (by simp [mr, h]) h
  · have hi : ¬ j.toNatClampNeg < nm := h
    simp only [hi, if_false]
    exact kn (by simp [mr, h])
theorem q_aldA (hexec : p.tables.exec = Jvm.exec) (hb : c.code = cc) (hK : va_K D vwCl (tysOf kc) s) (hP : va_P D vwCl (wl ad kc nm M) H) {i n : Nat} (ar : Ar nm i 11 n) {j : Int32} (hin : ok j n = true) (hdg : decode cc pc = .ok (.aaload, 1))
    (kk : W p l e R s m args below meth c H locs cells slots Q (F0 m (pc + 1) ls (.ref (ad (13 + 3 * ix j)) :: rest))) : W p l e R s m args below meth c H locs cells slots Q (F0 m pc ls (.int j :: .ref (ad i) :: rest)) :=
  va_aldq hexec hb hK hP i 4 (cA := kc 4) (n := n) (C := "MirrorNet$Asker") (f := fun j => some (ad (13 + 3 * j))) (by rw [wl_at ar.1, ce_ar11 ar]) rfl (ok_in hin) hdg kk
theorem okc_spec {sp dp n : Int32} {len : Nat} (h : okc sp dp n len = true) : ¬ sp < 0 ∧ ¬ dp < 0 ∧ ¬ n < 0 ∧ ix sp + ix n ≤ len ∧ ix dp + ix n ≤ len := by
  simpa only [okc, Bool.and_eq_true, decide_eq_true_eq] using h
theorem cpI_row (M : Mem) (i sp dp n : Nat) : (cpI M i sp dp n).1 i = va_cpy (M.1 i) (M.1 i) sp dp n := by
  funext k
  simp [cpI, va_cpy]
theorem cpI_ne (M : Mem) (i sp dp n : Nat) {a : Nat} (h : a ≠ i) : (cpI M i sp dp n).1 a = M.1 a := by
  funext k
  simp [cpI, h]
theorem q_copy (hexec : p.tables.exec = Jvm.exec) (hb : c.code = cc) (hml : c.maxLocals = ls.size) {own : String} {index : Nat} (hown : s.vm.findClass own = some m.cls) (hlink : (Cond.methodLink own index arraycopyName).before args s = true) (hnat : (Cond.native arraycopyName).before args s = true) (hstat : (Cond.static arraycopyName).before args s = true) (hini : (Cond.initialized "java/lang/System").before args s = true) (hK : va_K D vwCl (tysOf kc) s) (hP : va_P D vwCl (wl ad kc nm M) H) (hAD : AD ad nm z) (hS : va_S (fun q => z ≤ q) H0 H locs) {i len : Nat} (ar : Ar nm i 7 len) {sp dp n : Int32} (hin : okc sp dp n len = true)
    (hframes : 1 ≤ R.frames) (hlocals : (rest.map fun v => v.category).sum + (nativeFrameWords "java/lang/System" "arraycopy" 5 + 11) ≤ R.locals) (hdg : decode cc pc = .ok (.invokestatic index, 3))
    (kk : ∀ (H1 : Heap) (locs1 : List Loc), va_P D vwCl (wl ad kc nm (cpI M i (ix sp) (ix dp) (ix n))) H1 → va_S (fun q => z ≤ q) H0 H1 locs1 → W p l e R s m args below meth c H1 locs1 cells slots Q (F0 m (pc + 3) ls rest)) : W p l e R s m args below meth c H locs cells slots Q (F0 m pc ls (.int n :: .int dp :: .ref (ad i) :: .int sp :: .ref (ad i) :: rest)) := by
  obtain ⟨h1, h2, h3, h4, h5⟩ := okc_spec hin
  refine va_copyi hexec hb hml hown hlink hnat hstat hini hK hP (wl_D hAD kc M) hS i i 0 0 (c0 := kc 0) (c1 := kc 0) (n0 := len) (n1 := len) (f := M.1 i) (g := M.1 i) (ty := .int) (by rw [wl_at ar.1, ce_ar7 ar]) (by rw [wl_at ar.1, ce_ar7 ar]) rfl rfl rfl h1 h2 h3 h4 h5 (fun _ _ => rfl) hframes hlocals hdg fun H1 locs1 hP1 _ hS1 => ?_
  rw [wl_set (M' := cpI M i (ix sp) (ix dp) (ix n)) (by rw [ce_ar7 ar, cpI_row]; rfl) (fun a ha => ce_congr (cpI_ne M i _ _ _ ha) rfl)] at hP1
  exact kk H1 locs1 hP1 hS1
/-! answers -/
def QRi (r : Int32) : Array Value → State → Outcome → State → Prop := vp_Si (fun x => x = r)
def QRz (r : Int32) : Array Value → State → Outcome → State → Prop := vp_Si (fun x => x = r ∧ (x = 0 ∨ x = 1))
def QRl (r : Int64) : Array Value → State → Outcome → State → Prop := vp_Sl (fun x => x = r)
def QRm (ad : Nat → Nat) (nm : Nat) (r : Option Nat) : Array Value → State → Outcome → State → Prop := va_Sq (fun x => x = r.map (fun q => ad (62 + 2 * q)) ∧ ∀ q, r = some q → q < nm)
def QRa (ad : Nat → Nat) (r : Option Nat) : Array Value → State → Outcome → State → Prop := va_Sq (fun x => x = r.map (fun q => ad (13 + 3 * q)) ∧ ∀ q, r = some q → q < 6)
def QWi (D : va_G) (ad : Nat → Nat) (kc : Nat → ClassId) (nm z : Nat) (r : Int32) (M : Mem) : Array Value → State → Outcome → State → Prop := va_Qi (fun x (_ : Unit) => x = r) (fun _ t => va_P D vwCl (wl ad kc nm M) t.heap) (fun q => z ≤ q)
def QWz (D : va_G) (ad : Nat → Nat) (kc : Nat → ClassId) (nm z : Nat) (r : Int32) (M : Mem) : Array Value → State → Outcome → State → Prop := va_Qi (fun x (_ : Unit) => x = r ∧ (x = 0 ∨ x = 1)) (fun _ t => va_P D vwCl (wl ad kc nm M) t.heap) (fun q => z ≤ q)
def QWv (D : va_G) (ad : Nat → Nat) (kc : Nat → ClassId) (nm z : Nat) (M : Mem) : Array Value → State → Outcome → State → Prop := va_Qv (fun (_ : Unit) => True) (fun _ t => va_P D vwCl (wl ad kc nm M) t.heap) (fun q => z ≤ q)
theorem q_cRi {r : Int32} {a : Array Value} (hr : va_Run p l e R s m args below meth c H locs cells slots 0 0 (F0 m pc ls st0) rest (QRi r a) (fun _ => False)) (kk : W p l e R s m args below meth c H locs cells slots Q (F0 m (pc + 3) ls (.int r :: rest))) : W p l e R s m args below meth c H locs cells slots Q (F0 m pc ls st0) :=
  vp_callSi hr.run (fun _ h => by subst h; exact kk)
theorem q_cRz {r : Int32} {a : Array Value} (hr : va_Run p l e R s m args below meth c H locs cells slots 0 0 (F0 m pc ls st0) rest (QRz r a) (fun _ => False)) (kk : (r = 0 ∨ r = 1) → W p l e R s m args below meth c H locs cells slots Q (F0 m (pc + 3) ls (.int r :: rest))) : W p l e R s m args below meth c H locs cells slots Q (F0 m pc ls st0) :=
  vp_callSi hr.run (fun _ h => by obtain ⟨h, h2⟩ := h; subst h; exact kk h2)
theorem q_cRl {r : Int64} {a : Array Value} (hr : va_Run p l e R s m args below meth c H locs cells slots 0 0 (F0 m pc ls st0) rest (QRl r a) (fun _ => False)) (kk : W p l e R s m args below meth c H locs cells slots Q (F0 m (pc + 3) ls (.long r :: rest))) : W p l e R s m args below meth c H locs cells slots Q (F0 m pc ls st0) :=
  vp_callSl hr.run (fun _ h => by subst h; exact kk)
theorem q_cRm {r : Option Nat} {a : Array Value} (hr : va_Run p l e R s m args below meth c H locs cells slots 0 0 (F0 m pc ls st0) rest (QRm ad nm r a) (fun _ => False)) (kn : r = none → W p l e R s m args below meth c H locs cells slots Q (F0 m (pc + 3) ls (.null :: rest))) (ks : ∀ q : Nat, r = some q → q < nm → W p l e R s m args below meth c H locs cells slots Q (F0 m (pc + 3) ls (.ref (ad (62 + 2 * q)) :: rest))) : W p l e R s m args below meth c H locs cells slots Q (F0 m pc ls st0) :=
  va_csq hr.run (fun x h => by
    obtain ⟨h1, h2⟩ := h
    subst h1
    cases r with
    | none => exact kn rfl
    | some q => exact ks q rfl (h2 q rfl))
theorem q_cRa {r : Option Nat} {a : Array Value} (hr : va_Run p l e R s m args below meth c H locs cells slots 0 0 (F0 m pc ls st0) rest (QRa ad r a) (fun _ => False)) (kn : r = none → W p l e R s m args below meth c H locs cells slots Q (F0 m (pc + 3) ls (.null :: rest))) (ks : ∀ q : Nat, r = some q → q < 6 → W p l e R s m args below meth c H locs cells slots Q (F0 m (pc + 3) ls (.ref (ad (13 + 3 * q)) :: rest))) : W p l e R s m args below meth c H locs cells slots Q (F0 m pc ls st0) :=
  va_csq hr.run (fun x h => by
    obtain ⟨h1, h2⟩ := h
    subst h1
    cases r with
    | none => exact kn rfl
    | some q => exact ks q rfl (h2 q rfl))
theorem q_cWi {r : Int32} {M1 : Mem} {a : Array Value} (hr : va_Run p l e R s m args below meth c H locs cells slots 0 0 (F0 m pc ls st0) rest (QWi D ad kc nm z r M1 a) (fun q => z ≤ q)) (hS : va_S (fun q => z ≤ q) H0 H locs) (kk : ∀ (H1 : Heap) (locs1 : List Loc), va_P D vwCl (wl ad kc nm M1) H1 → va_S (fun q => z ≤ q) H0 H1 locs1 → W p l e R s m args below meth c H1 locs1 cells slots Q (F0 m (pc + 3) ls (.int r :: rest))) : W p l e R s m args below meth c H locs cells slots Q (F0 m pc ls st0) :=
  va_calli hr hS (fun _ _ h => h) (fun _ h => h) (fun _ _ t H1 locs1 ht _ hw hB _ _ hS1 => by subst hw; exact kk H1 locs1 (by rw [← ht]; exact hB) hS1)
theorem q_cWz {r : Int32} {M1 : Mem} {a : Array Value} (hr : va_Run p l e R s m args below meth c H locs cells slots 0 0 (F0 m pc ls st0) rest (QWz D ad kc nm z r M1 a) (fun q => z ≤ q)) (hS : va_S (fun q => z ≤ q) H0 H locs) (kk : ∀ (H1 : Heap) (locs1 : List Loc), (r = 0 ∨ r = 1) → va_P D vwCl (wl ad kc nm M1) H1 → va_S (fun q => z ≤ q) H0 H1 locs1 → W p l e R s m args below meth c H1 locs1 cells slots Q (F0 m (pc + 3) ls (.int r :: rest))) : W p l e R s m args below meth c H locs cells slots Q (F0 m pc ls st0) :=
  va_calli hr hS (fun _ _ h => h) (fun _ h => h) (fun _ _ t H1 locs1 ht _ hw hB _ _ hS1 => by obtain ⟨hw, hw2⟩ := hw; subst hw; exact kk H1 locs1 hw2 (by rw [← ht]; exact hB) hS1)
theorem q_cWv {M1 : Mem} {a : Array Value} (hr : va_Run p l e R s m args below meth c H locs cells slots 0 0 (F0 m pc ls st0) rest (QWv D ad kc nm z M1 a) (fun q => z ≤ q)) (hS : va_S (fun q => z ≤ q) H0 H locs) (kk : ∀ (H1 : Heap) (locs1 : List Loc), va_P D vwCl (wl ad kc nm M1) H1 → va_S (fun q => z ≤ q) H0 H1 locs1 → W p l e R s m args below meth c H1 locs1 cells slots Q (F0 m (pc + 3) ls rest)) : W p l e R s m args below meth c H locs cells slots Q (F0 m pc ls st0) :=
  va_callv hr hS (fun _ _ h => h) (fun _ h => h) (fun _ t H1 locs1 ht _ _ hB _ _ hS1 => kk H1 locs1 (by rw [← ht]; exact hB) hS1)
/-! returns -/
theorem q_rRi {r v : Int32} (hQ : Q = MQ below (QRi r) args s 0 0 (fun _ => False)) (hexec : p.tables.exec = Jvm.exec) (hb : c.code = cc) (hr : meth.sig.returnType = some .int) (hlk : meth.locks = false) (hv : some v = some r) (hdg : decode cc pc = .ok (.ireturn, 1)) : W p l e R s m args below meth c s.heap [] 0 0 Q (F0 m pc ls [.int v]) := by
  subst hQ
  exact W.iret hexec hb hr (fun t ht _ => ⟨v, rfl, Option.some.inj hv, ht⟩) (fun q h => by cases h) hdg hlk
theorem q_rRz {r v : Int32} (hQ : Q = MQ below (QRz r) args s 0 0 (fun _ => False)) (hexec : p.tables.exec = Jvm.exec) (hb : c.code = cc) (hr : meth.sig.returnType = some .boolean) (hlk : meth.locks = false) (hv : some v = some r) (hz : v = 0 ∨ v = 1) (hdg : decode cc pc = .ok (.ireturn, 1)) : W p l e R s m args below meth c s.heap [] 0 0 Q (F0 m pc ls [.int v]) := by
  subst hQ
  exact W.zret hexec hb hr (nar_b hz) (fun t ht _ => ⟨v, rfl, ⟨Option.some.inj hv, hz⟩, ht⟩) (fun q h => by cases h) hdg hlk
theorem q_rRl {r v : Int64} (hQ : Q = MQ below (QRl r) args s 0 0 (fun _ => False)) (hexec : p.tables.exec = Jvm.exec) (hb : c.code = cc) (hr : meth.sig.returnType = some .long) (hlk : meth.locks = false) (hv : some v = some r) (hdg : decode cc pc = .ok (.lreturn, 1)) : W p l e R s m args below meth c s.heap [] 0 0 Q (F0 m pc ls [.long v]) := by
  subst hQ
  exact W.lret hexec hb hr (fun t ht _ => ⟨v, rfl, Option.some.inj hv, ht⟩) (fun q h => by cases h) hdg hlk
theorem q_rRmN {r : Option Nat} {rt : String} (hQ : Q = MQ below (QRm ad nm r) args s 0 0 (fun _ => False)) (hexec : p.tables.exec = Jvm.exec) (hb : c.code = cc) (hr : meth.sig.returnType = some (.object rt)) (hlk : meth.locks = false) (hv : some (none : Option Nat) = some r) (hdg : decode cc pc = .ok (.areturn, 1)) : W p l e R s m args below meth c s.heap [] 0 0 Q (F0 m pc ls [.null]) := by
  subst hQ
  cases hv
  exact W.aret hexec hb hr (Or.inl ⟨_, rfl⟩) (Or.inl rfl) (fun t ht _ => ⟨none, rfl, ⟨rfl, fun q h => by cases h⟩, ht⟩) (fun q h => by cases h) hdg hlk
theorem q_rRmS {r : Option Nat} {rt : String} {v : Nat} (hQ : Q = MQ below (QRm ad nm r) args s 0 0 (fun _ => False)) (hexec : p.tables.exec = Jvm.exec) (hb : c.code = cc) (hr : meth.sig.returnType = some (.object rt)) (hlk : meth.locks = false) (hv : some (some v) = some r) (hz : v < nm) (hdg : decode cc pc = .ok (.areturn, 1)) : W p l e R s m args below meth c s.heap [] 0 0 Q (F0 m pc ls [.ref (ad (62 + 2 * v))]) := by
  subst hQ
  cases hv
  exact W.aret hexec hb hr (Or.inl ⟨_, rfl⟩) (Or.inr ⟨_, rfl⟩) (fun t ht _ => ⟨some (ad (62 + 2 * v)), rfl, ⟨rfl, fun q h => by cases h; exact hz⟩, ht⟩) (fun q h => by cases h) hdg hlk
theorem q_rRaN {r : Option Nat} {rt : String} (hQ : Q = MQ below (QRa ad r) args s 0 0 (fun _ => False)) (hexec : p.tables.exec = Jvm.exec) (hb : c.code = cc) (hr : meth.sig.returnType = some (.object rt)) (hlk : meth.locks = false) (hv : some (none : Option Nat) = some r) (hdg : decode cc pc = .ok (.areturn, 1)) : W p l e R s m args below meth c s.heap [] 0 0 Q (F0 m pc ls [.null]) := by
  subst hQ
  cases hv
  exact W.aret hexec hb hr (Or.inl ⟨_, rfl⟩) (Or.inl rfl) (fun t ht _ => ⟨none, rfl, ⟨rfl, fun q h => by cases h⟩, ht⟩) (fun q h => by cases h) hdg hlk
theorem q_rRaS {r : Option Nat} {rt : String} {v : Nat} (hQ : Q = MQ below (QRa ad r) args s 0 0 (fun _ => False)) (hexec : p.tables.exec = Jvm.exec) (hb : c.code = cc) (hr : meth.sig.returnType = some (.object rt)) (hlk : meth.locks = false) (hv : some (some v) = some r) (hz : v < 6) (hdg : decode cc pc = .ok (.areturn, 1)) : W p l e R s m args below meth c s.heap [] 0 0 Q (F0 m pc ls [.ref (ad (13 + 3 * v))]) := by
  subst hQ
  cases hv
  exact W.aret hexec hb hr (Or.inl ⟨_, rfl⟩) (Or.inr ⟨_, rfl⟩) (fun t ht _ => ⟨some (ad (13 + 3 * v)), rfl, ⟨rfl, fun q h => by cases h; exact hz⟩, ht⟩) (fun q h => by cases h) hdg hlk
theorem q_rWi {r v : Int32} {M1 : Mem} (hQ : Q = MQ below (QWi D ad kc nm z r M1) args s 0 0 (fun q => z ≤ q)) (hexec : p.tables.exec = Jvm.exec) (hb : c.code = cc) (hr : meth.sig.returnType = some .int) (hlk : meth.locks = false) (hP : va_P D vwCl (wl ad kc nm M) H) (hS : va_S (fun q => z ≤ q) s.heap H locs) (hv : some (v, M) = some (r, M1)) (hdg : decode cc pc = .ok (.ireturn, 1)) : W p l e R s m args below meth c H locs 0 0 Q (F0 m pc ls [.int v]) := by
  subst hQ
  cases hv
  exact W.iret hexec hb hr (fun t ht _ => ⟨⟨_, (), rfl, rfl, (show va_P D vwCl (wl ad kc nm M) t.heap by rw [ht]; exact hP)⟩, hS.F ht⟩) hS.2.2 hdg hlk
theorem q_rWz {r v : Int32} {M1 : Mem} (hQ : Q = MQ below (QWz D ad kc nm z r M1) args s 0 0 (fun q => z ≤ q)) (hexec : p.tables.exec = Jvm.exec) (hb : c.code = cc) (hr : meth.sig.returnType = some .boolean) (hlk : meth.locks = false) (hP : va_P D vwCl (wl ad kc nm M) H) (hS : va_S (fun q => z ≤ q) s.heap H locs) (hv : some (v, M) = some (r, M1)) (hz : v = 0 ∨ v = 1) (hdg : decode cc pc = .ok (.ireturn, 1)) : W p l e R s m args below meth c H locs 0 0 Q (F0 m pc ls [.int v]) := by
  subst hQ
  cases hv
  exact W.zret hexec hb hr (nar_b hz) (fun t ht _ => ⟨⟨_, (), rfl, ⟨rfl, hz⟩, (show va_P D vwCl (wl ad kc nm M) t.heap by rw [ht]; exact hP)⟩, hS.F ht⟩) hS.2.2 hdg hlk
theorem q_rWv {M1 : Mem} (hQ : Q = MQ below (QWv D ad kc nm z M1) args s 0 0 (fun q => z ≤ q)) (hexec : p.tables.exec = Jvm.exec) (hb : c.code = cc) (hr : meth.sig.returnType = none) (hlk : meth.locks = false) (hP : va_P D vwCl (wl ad kc nm M) H) (hS : va_S (fun q => z ≤ q) s.heap H locs) (hv : some M = some M1) (hdg : decode cc pc = .ok (.return_, 1)) : W p l e R s m args below meth c H locs 0 0 Q (F0 m pc ls []) := by
  subst hQ
  cases hv
  exact W.vret hexec hb hr (fun t ht _ => ⟨⟨(), rfl, trivial, (show va_P D vwCl (wl ad kc nm M) t.heap by rw [ht]; exact hP)⟩, hS.F ht⟩) hS.2.2 hdg hlk
end RowQ
/-- a contract out of a walk from pc 0 -/
theorem q_met {l : Launch} {y : MethodName} {ws ws' : List Cond} {rm : Room} {av : List Value} {B : State → Prop} {Qc : Array Value → State → Outcome → State → Prop} {mc ms : Nat} {free : Addr → Prop} {cc : ByteArray} {maxL : Nat} {ret : Option FieldType}
    (hy : plainName y.cls = true) (hw : ws = Cond.code y cc maxL ret :: ws') (hlen : (lg_sl av).length ≤ maxL)
    (body : ∀ (p : Program) (e : Env) (s : State) (m : MethodId) (args : Array Value) (below : List Frame) (meth : Method) (c : Code) (Q : State → Prop) (ls : Array Slot), p.tables.exec = Jvm.exec → c.code = cc → meth.sig.returnType = ret → meth.locks = false → c.maxLocals = maxL → s.vm.findClass y.cls = some m.cls → (∀ w ∈ ws, w.before args s = true) → B s → Q = MQ below Qc args s mc ms free → lv_has ls maxL (lv_args 0 av) →
      W p l e rm s m args below meth c s.heap [] 0 0 Q (F0 m 0 ls [])) : Met l y ws rm (va_Pc av B) Qc mc ms free := by
  refine Met.ofW (cc := cc) (maxL := maxL) (ret := ret) hy hw ?_
  intro p e s m args below meth c s₁ B0 hml hv
  obtain ⟨ha, hB⟩ := hv
  have hl := lv_entry av (n := maxL) hlen
  refine W.eq (g2 := F0 m 0 ((lg_sl av ++ List.replicate (maxL - (lg_sl av).length) Slot.unset).toArray) []) ?_ ?_
  · rw [ha, lg_entry_eq]
  · exact body p e s m args below meth c _ _ B0.exec B0.bytes B0.returns B0.notSynchronized hml (findClass_of_methodNamed B0.named) (atoms_spec (ws := ws) B0.pre) hB rfl hl
theorem q_nxe {α β : Type} {v x : α} {k : α → Option β} {r : β} (hx : x = v) (h : nx v k = some r) : k x = some r := by
  subst hx
  exact h
theorem ok_lt {i : Int32} {n : Nat} (h : ok i n = true) : ix i < n := by
  exact of_decide_eq_true ((Bool.and_eq_true _ _).mp h).2
def FU : Nat := 1000
theorem q_start {p : Program} {l : Launch} {e : Env} {R : Room} {s : State} {m : MethodId} {args : Array Value} {below : List Frame} {meth : Method} {c : Code} {H : Heap} {locs : List Loc} {cells slots : Nat} {Q : State → Prop} {g : JFrame} (eH : H = s.heap) (eL : locs = []) (k : W p l e R s m args below meth c H locs cells slots Q g) : W p l e R s m args below meth c s.heap [] cells slots Q g := by
  subst eH
  subst eL
  exact k
