/-! the memory at the start -/
def ad0 (b g : Nat → Nat) : Nat → Nat := fun i => if i < 35 then b i else g i
def M0 : Mem := (fun i => if i = 0 then (fun j => if j = 7 then 9999 else 0) else if i = 1 then (fun j => if j = 6 then 1 else 0) else if i = 6 then fl 720 (-1) (fun _ => 0) else if i = 35 then (fun j => if j = 4 then 1 else if j = 23 then 9999 else 0) else if i = 39 then fl 12 (-1) (fun _ => 0) else if i = 54 then fl 48 (-1) (fun _ => 0) else if i = 55 then fl 6 9999 (fun _ => 0) else if i = 56 then fl 6 (-1) (fun _ => 0) else if 13 ≤ i ∧ i < 31 then (if (i - 13) % 3 = 0 then (fun j => if j = 3 then 9999 else if j = 4 then -1 else 0) else if (i - 13) % 3 = 1 then fl 8 (-1) (fun _ => 0) else fun _ => 0) else fun _ => 0, fun _ => fun _ => 0)
def w5 (kc : Nat → ClassId) (b : Nat → Nat) : va_W := [((b 0), .inr (5, [.ref (b 1), .ref (b 7), .ref (b 11), .ref (b 12), .ref (b 31), .int 0, .int 0, .int 9999])), ((b 1), .inr (4, [.ref (b 2), .ref (b 3), .ref (b 4), .ref (b 5), .ref (b 6), .int 0, .int 1, .long 0])), ((b 2), .inl (kc 0, 60, .inl (fun _ => 0))), ((b 3), .inl (kc 0, 60, .inl (fun _ => 0))), ((b 4), .inl (kc 0, 60, .inl (fun _ => 0))), ((b 5), .inl (kc 1, 60, .inr (.inl (fun _ => 0)))), ((b 6), .inl (kc 0, 720, .inl (fl 720 (-1) (fun _ => 0)))), ((b 7), .inr (2, [.ref (b 8), .ref (b 9), .ref (b 10), .int 0])), ((b 8), .inl (kc 0, 40, .inl (fun _ => 0))), ((b 9), .inl (kc 0, 40, .inl (fun _ => 0))), ((b 10), .inl (kc 0, 40, .inl (fun _ => 0))), ((b 11), .inl (kc 3, 8, .inr (.inr (.inr (.inr (fun _ => none)))))), ((b 12), .inl (kc 4, 6, .inr (.inr (.inr (.inr (va_up (va_up (va_up (va_up (va_up (va_up (fun _ => none) 0 (some (b 13))) 1 (some (b 16))) 2 (some (b 19))) 3 (some (b 22))) 4 (some (b 25))) 5 (some (b 28)))))))), ((b 13), .inr (0, [.ref (b 14), .ref (b 15), .int 0, .int 9999, .int (-1), .int 0])), ((b 14), .inl (kc 0, 8, .inl (fl 8 (-1) (fun _ => 0)))), ((b 15), .inl (kc 0, 8, .inl (fun _ => 0))), ((b 16), .inr (0, [.ref (b 17), .ref (b 18), .int 0, .int 9999, .int (-1), .int 0])), ((b 17), .inl (kc 0, 8, .inl (fl 8 (-1) (fun _ => 0)))), ((b 18), .inl (kc 0, 8, .inl (fun _ => 0))), ((b 19), .inr (0, [.ref (b 20), .ref (b 21), .int 0, .int 9999, .int (-1), .int 0])), ((b 20), .inl (kc 0, 8, .inl (fl 8 (-1) (fun _ => 0)))), ((b 21), .inl (kc 0, 8, .inl (fun _ => 0))), ((b 22), .inr (0, [.ref (b 23), .ref (b 24), .int 0, .int 9999, .int (-1), .int 0])), ((b 23), .inl (kc 0, 8, .inl (fl 8 (-1) (fun _ => 0)))), ((b 24), .inl (kc 0, 8, .inl (fun _ => 0))), ((b 25), .inr (0, [.ref (b 26), .ref (b 27), .int 0, .int 9999, .int (-1), .int 0])), ((b 26), .inl (kc 0, 8, .inl (fl 8 (-1) (fun _ => 0)))), ((b 27), .inl (kc 0, 8, .inl (fun _ => 0))), ((b 28), .inr (0, [.ref (b 29), .ref (b 30), .int 0, .int 9999, .int (-1), .int 0])), ((b 29), .inl (kc 0, 8, .inl (fl 8 (-1) (fun _ => 0)))), ((b 30), .inl (kc 0, 8, .inl (fun _ => 0))), ((b 31), .inr (1, [.ref (b 32), .ref (b 33), .ref (b 34), .int 0, .int 0, .int 0, .int 0, .int 0, .int 0, .int 0])), ((b 32), .inl (kc 0, 12, .inl (fun _ => 0))), ((b 33), .inl (kc 0, 12, .inl (fun _ => 0))), ((b 34), .inl (kc 0, 12, .inl (fun _ => 0)))]
def w6 (kc : Nat → ClassId) (g : Nat → Nat) : va_W := [((g 35), .inr (6, [.int 0, .int 0, .ref (g 36), .ref (g 37), .int 1, .ref (g 38), .ref (g 39), .int 0, .ref (g 40), .ref (g 41), .ref (g 42), .ref (g 43), .ref (g 44), .ref (g 45), .ref (g 46), .ref (g 47), .ref (g 48), .ref (g 49), .ref (g 50), .int 0, .ref (g 51), .ref (g 52), .ref (g 53), .int 9999, .ref (g 54), .ref (g 55), .ref (g 56), .ref (g 57), .ref (g 58), .int 0, .int 0, .int 0, .int 0, .int 0, .int 0, .int 0, .int 0, .ref (g 59), .ref (g 60), .ref (g 61)])), ((g 36), .inl (kc 0, 60, .inl (fun _ => 0))), ((g 37), .inl (kc 0, 60, .inl (fun _ => 0))), ((g 38), .inl (kc 0, 60, .inl (fun _ => 0))), ((g 39), .inl (kc 0, 720, .inl (fl 12 (-1) (fun _ => 0)))), ((g 40), .inl (kc 0, 8, .inl (fun _ => 0))), ((g 41), .inl (kc 0, 8, .inl (fun _ => 0))), ((g 42), .inl (kc 0, 8, .inl (fun _ => 0))), ((g 43), .inl (kc 0, 8, .inl (fun _ => 0))), ((g 44), .inl (kc 0, 8, .inl (fun _ => 0))), ((g 45), .inl (kc 0, 8, .inl (fun _ => 0))), ((g 46), .inl (kc 0, 8, .inl (fun _ => 0))), ((g 47), .inl (kc 2, 8, .inl (fun _ => 0))), ((g 48), .inl (kc 2, 480, .inl (fun _ => 0))), ((g 49), .inl (kc 0, 24, .inl (fun _ => 0))), ((g 50), .inl (kc 0, 8, .inl (fun _ => 0))), ((g 51), .inl (kc 0, 40, .inl (fun _ => 0))), ((g 52), .inl (kc 0, 40, .inl (fun _ => 0))), ((g 53), .inl (kc 0, 40, .inl (fun _ => 0))), ((g 54), .inl (kc 0, 48, .inl (fl 48 (-1) (fun _ => 0)))), ((g 55), .inl (kc 0, 6, .inl (fl 6 9999 (fun _ => 0)))), ((g 56), .inl (kc 0, 6, .inl (fl 6 (-1) (fun _ => 0)))), ((g 57), .inl (kc 0, 6, .inl (fun _ => 0))), ((g 58), .inl (kc 0, 8, .inl (fun _ => 0))), ((g 59), .inl (kc 0, 12, .inl (fun _ => 0))), ((g 60), .inl (kc 0, 12, .inl (fun _ => 0))), ((g 61), .inl (kc 0, 12, .inl (fun _ => 0)))]
def wst (kc : Nat → ClassId) (b g : Nat → Nat) : va_W := [((b 0), .inr (5, [.ref (b 1), .ref (b 7), .ref (b 11), .ref (b 12), .ref (b 31), .int 0, .int 0, .int 9999])), ((b 1), .inr (4, [.ref (b 2), .ref (b 3), .ref (b 4), .ref (b 5), .ref (b 6), .int 0, .int 1, .long 0])), ((b 2), .inl (kc 0, 60, .inl (fun _ => 0))), ((b 3), .inl (kc 0, 60, .inl (fun _ => 0))), ((b 4), .inl (kc 0, 60, .inl (fun _ => 0))), ((b 5), .inl (kc 1, 60, .inr (.inl (fun _ => 0)))), ((b 6), .inl (kc 0, 720, .inl (fl 720 (-1) (fun _ => 0)))), ((b 7), .inr (2, [.ref (b 8), .ref (b 9), .ref (b 10), .int 0])), ((b 8), .inl (kc 0, 40, .inl (fun _ => 0))), ((b 9), .inl (kc 0, 40, .inl (fun _ => 0))), ((b 10), .inl (kc 0, 40, .inl (fun _ => 0))), ((b 11), .inl (kc 3, 8, .inr (.inr (.inr (.inr (fun j => if j < 0 then some (ad0 b g (62 + 2 * j)) else none)))))), ((b 12), .inl (kc 4, 6, .inr (.inr (.inr (.inr (fun j => some (ad0 b g (13 + 3 * j)))))))), ((b 13), .inr (0, [.ref (b 14), .ref (b 15), .int 0, .int 9999, .int (-1), .int 0])), ((b 14), .inl (kc 0, 8, .inl (fl 8 (-1) (fun _ => 0)))), ((b 15), .inl (kc 0, 8, .inl (fun _ => 0))), ((b 16), .inr (0, [.ref (b 17), .ref (b 18), .int 0, .int 9999, .int (-1), .int 0])), ((b 17), .inl (kc 0, 8, .inl (fl 8 (-1) (fun _ => 0)))), ((b 18), .inl (kc 0, 8, .inl (fun _ => 0))), ((b 19), .inr (0, [.ref (b 20), .ref (b 21), .int 0, .int 9999, .int (-1), .int 0])), ((b 20), .inl (kc 0, 8, .inl (fl 8 (-1) (fun _ => 0)))), ((b 21), .inl (kc 0, 8, .inl (fun _ => 0))), ((b 22), .inr (0, [.ref (b 23), .ref (b 24), .int 0, .int 9999, .int (-1), .int 0])), ((b 23), .inl (kc 0, 8, .inl (fl 8 (-1) (fun _ => 0)))), ((b 24), .inl (kc 0, 8, .inl (fun _ => 0))), ((b 25), .inr (0, [.ref (b 26), .ref (b 27), .int 0, .int 9999, .int (-1), .int 0])), ((b 26), .inl (kc 0, 8, .inl (fl 8 (-1) (fun _ => 0)))), ((b 27), .inl (kc 0, 8, .inl (fun _ => 0))), ((b 28), .inr (0, [.ref (b 29), .ref (b 30), .int 0, .int 9999, .int (-1), .int 0])), ((b 29), .inl (kc 0, 8, .inl (fl 8 (-1) (fun _ => 0)))), ((b 30), .inl (kc 0, 8, .inl (fun _ => 0))), ((b 31), .inr (1, [.ref (b 32), .ref (b 33), .ref (b 34), .int 0, .int 0, .int 0, .int 0, .int 0, .int 0, .int 0])), ((b 32), .inl (kc 0, 12, .inl (fun _ => 0))), ((b 33), .inl (kc 0, 12, .inl (fun _ => 0))), ((b 34), .inl (kc 0, 12, .inl (fun _ => 0))), ((g 35), .inr (6, [.int 0, .int 0, .ref (g 36), .ref (g 37), .int 1, .ref (g 38), .ref (g 39), .int 0, .ref (g 40), .ref (g 41), .ref (g 42), .ref (g 43), .ref (g 44), .ref (g 45), .ref (g 46), .ref (g 47), .ref (g 48), .ref (g 49), .ref (g 50), .int 0, .ref (g 51), .ref (g 52), .ref (g 53), .int 9999, .ref (g 54), .ref (g 55), .ref (g 56), .ref (g 57), .ref (g 58), .int 0, .int 0, .int 0, .int 0, .int 0, .int 0, .int 0, .int 0, .ref (g 59), .ref (g 60), .ref (g 61)])), ((g 36), .inl (kc 0, 60, .inl (fun _ => 0))), ((g 37), .inl (kc 0, 60, .inl (fun _ => 0))), ((g 38), .inl (kc 0, 60, .inl (fun _ => 0))), ((g 39), .inl (kc 0, 720, .inl (fl 12 (-1) (fun _ => 0)))), ((g 40), .inl (kc 0, 8, .inl (fun _ => 0))), ((g 41), .inl (kc 0, 8, .inl (fun _ => 0))), ((g 42), .inl (kc 0, 8, .inl (fun _ => 0))), ((g 43), .inl (kc 0, 8, .inl (fun _ => 0))), ((g 44), .inl (kc 0, 8, .inl (fun _ => 0))), ((g 45), .inl (kc 0, 8, .inl (fun _ => 0))), ((g 46), .inl (kc 0, 8, .inl (fun _ => 0))), ((g 47), .inl (kc 2, 8, .inl (fun _ => 0))), ((g 48), .inl (kc 2, 480, .inl (fun _ => 0))), ((g 49), .inl (kc 0, 24, .inl (fun _ => 0))), ((g 50), .inl (kc 0, 8, .inl (fun _ => 0))), ((g 51), .inl (kc 0, 40, .inl (fun _ => 0))), ((g 52), .inl (kc 0, 40, .inl (fun _ => 0))), ((g 53), .inl (kc 0, 40, .inl (fun _ => 0))), ((g 54), .inl (kc 0, 48, .inl (fl 48 (-1) (fun _ => 0)))), ((g 55), .inl (kc 0, 6, .inl (fl 6 9999 (fun _ => 0)))), ((g 56), .inl (kc 0, 6, .inl (fl 6 (-1) (fun _ => 0)))), ((g 57), .inl (kc 0, 6, .inl (fun _ => 0))), ((g 58), .inl (kc 0, 8, .inl (fun _ => 0))), ((g 59), .inl (kc 0, 12, .inl (fun _ => 0))), ((g 60), .inl (kc 0, 12, .inl (fun _ => 0))), ((g 61), .inl (kc 0, 12, .inl (fun _ => 0)))]
theorem st_0 (kc : Nat → ClassId) (b g : Nat → Nat) : (ad0 b g 0, ce (ad0 b g) kc 0 M0 0) = ((b 0), .inr (5, [.ref (b 1), .ref (b 7), .ref (b 11), .ref (b 12), .ref (b 31), .int 0, .int 0, .int 9999])) := by rfl
theorem st_1 (kc : Nat → ClassId) (b g : Nat → Nat) : (ad0 b g 1, ce (ad0 b g) kc 0 M0 1) = ((b 1), .inr (4, [.ref (b 2), .ref (b 3), .ref (b 4), .ref (b 5), .ref (b 6), .int 0, .int 1, .long 0])) := by rfl
theorem st_2 (kc : Nat → ClassId) (b g : Nat → Nat) : (ad0 b g 2, ce (ad0 b g) kc 0 M0 2) = ((b 2), .inl (kc 0, 60, .inl (fun _ => 0))) := by rfl
theorem st_3 (kc : Nat → ClassId) (b g : Nat → Nat) : (ad0 b g 3, ce (ad0 b g) kc 0 M0 3) = ((b 3), .inl (kc 0, 60, .inl (fun _ => 0))) := by rfl
theorem st_4 (kc : Nat → ClassId) (b g : Nat → Nat) : (ad0 b g 4, ce (ad0 b g) kc 0 M0 4) = ((b 4), .inl (kc 0, 60, .inl (fun _ => 0))) := by rfl
theorem st_5 (kc : Nat → ClassId) (b g : Nat → Nat) : (ad0 b g 5, ce (ad0 b g) kc 0 M0 5) = ((b 5), .inl (kc 1, 60, .inr (.inl (fun _ => 0)))) := by rfl
theorem st_6 (kc : Nat → ClassId) (b g : Nat → Nat) : (ad0 b g 6, ce (ad0 b g) kc 0 M0 6) = ((b 6), .inl (kc 0, 720, .inl (fl 720 (-1) (fun _ => 0)))) := by rfl
theorem st_7 (kc : Nat → ClassId) (b g : Nat → Nat) : (ad0 b g 7, ce (ad0 b g) kc 0 M0 7) = ((b 7), .inr (2, [.ref (b 8), .ref (b 9), .ref (b 10), .int 0])) := by rfl
theorem st_8 (kc : Nat → ClassId) (b g : Nat → Nat) : (ad0 b g 8, ce (ad0 b g) kc 0 M0 8) = ((b 8), .inl (kc 0, 40, .inl (fun _ => 0))) := by rfl
theorem st_9 (kc : Nat → ClassId) (b g : Nat → Nat) : (ad0 b g 9, ce (ad0 b g) kc 0 M0 9) = ((b 9), .inl (kc 0, 40, .inl (fun _ => 0))) := by rfl
theorem st_10 (kc : Nat → ClassId) (b g : Nat → Nat) : (ad0 b g 10, ce (ad0 b g) kc 0 M0 10) = ((b 10), .inl (kc 0, 40, .inl (fun _ => 0))) := by rfl
theorem st_11 (kc : Nat → ClassId) (b g : Nat → Nat) : (ad0 b g 11, ce (ad0 b g) kc 0 M0 11) = ((b 11), .inl (kc 3, 8, .inr (.inr (.inr (.inr (fun j => if j < 0 then some (ad0 b g (62 + 2 * j)) else none)))))) := by rfl
theorem st_12 (kc : Nat → ClassId) (b g : Nat → Nat) : (ad0 b g 12, ce (ad0 b g) kc 0 M0 12) = ((b 12), .inl (kc 4, 6, .inr (.inr (.inr (.inr (fun j => some (ad0 b g (13 + 3 * j)))))))) := by rfl
theorem st_13 (kc : Nat → ClassId) (b g : Nat → Nat) : (ad0 b g 13, ce (ad0 b g) kc 0 M0 13) = ((b 13), .inr (0, [.ref (b 14), .ref (b 15), .int 0, .int 9999, .int (-1), .int 0])) := by rfl
theorem st_14 (kc : Nat → ClassId) (b g : Nat → Nat) : (ad0 b g 14, ce (ad0 b g) kc 0 M0 14) = ((b 14), .inl (kc 0, 8, .inl (fl 8 (-1) (fun _ => 0)))) := by rfl
theorem st_15 (kc : Nat → ClassId) (b g : Nat → Nat) : (ad0 b g 15, ce (ad0 b g) kc 0 M0 15) = ((b 15), .inl (kc 0, 8, .inl (fun _ => 0))) := by rfl
theorem st_16 (kc : Nat → ClassId) (b g : Nat → Nat) : (ad0 b g 16, ce (ad0 b g) kc 0 M0 16) = ((b 16), .inr (0, [.ref (b 17), .ref (b 18), .int 0, .int 9999, .int (-1), .int 0])) := by rfl
theorem st_17 (kc : Nat → ClassId) (b g : Nat → Nat) : (ad0 b g 17, ce (ad0 b g) kc 0 M0 17) = ((b 17), .inl (kc 0, 8, .inl (fl 8 (-1) (fun _ => 0)))) := by rfl
theorem st_18 (kc : Nat → ClassId) (b g : Nat → Nat) : (ad0 b g 18, ce (ad0 b g) kc 0 M0 18) = ((b 18), .inl (kc 0, 8, .inl (fun _ => 0))) := by rfl
theorem st_19 (kc : Nat → ClassId) (b g : Nat → Nat) : (ad0 b g 19, ce (ad0 b g) kc 0 M0 19) = ((b 19), .inr (0, [.ref (b 20), .ref (b 21), .int 0, .int 9999, .int (-1), .int 0])) := by rfl
theorem st_20 (kc : Nat → ClassId) (b g : Nat → Nat) : (ad0 b g 20, ce (ad0 b g) kc 0 M0 20) = ((b 20), .inl (kc 0, 8, .inl (fl 8 (-1) (fun _ => 0)))) := by rfl
theorem st_21 (kc : Nat → ClassId) (b g : Nat → Nat) : (ad0 b g 21, ce (ad0 b g) kc 0 M0 21) = ((b 21), .inl (kc 0, 8, .inl (fun _ => 0))) := by rfl
theorem st_22 (kc : Nat → ClassId) (b g : Nat → Nat) : (ad0 b g 22, ce (ad0 b g) kc 0 M0 22) = ((b 22), .inr (0, [.ref (b 23), .ref (b 24), .int 0, .int 9999, .int (-1), .int 0])) := by rfl
theorem st_23 (kc : Nat → ClassId) (b g : Nat → Nat) : (ad0 b g 23, ce (ad0 b g) kc 0 M0 23) = ((b 23), .inl (kc 0, 8, .inl (fl 8 (-1) (fun _ => 0)))) := by rfl
theorem st_24 (kc : Nat → ClassId) (b g : Nat → Nat) : (ad0 b g 24, ce (ad0 b g) kc 0 M0 24) = ((b 24), .inl (kc 0, 8, .inl (fun _ => 0))) := by rfl
theorem st_25 (kc : Nat → ClassId) (b g : Nat → Nat) : (ad0 b g 25, ce (ad0 b g) kc 0 M0 25) = ((b 25), .inr (0, [.ref (b 26), .ref (b 27), .int 0, .int 9999, .int (-1), .int 0])) := by rfl
theorem st_26 (kc : Nat → ClassId) (b g : Nat → Nat) : (ad0 b g 26, ce (ad0 b g) kc 0 M0 26) = ((b 26), .inl (kc 0, 8, .inl (fl 8 (-1) (fun _ => 0)))) := by rfl
theorem st_27 (kc : Nat → ClassId) (b g : Nat → Nat) : (ad0 b g 27, ce (ad0 b g) kc 0 M0 27) = ((b 27), .inl (kc 0, 8, .inl (fun _ => 0))) := by rfl
theorem st_28 (kc : Nat → ClassId) (b g : Nat → Nat) : (ad0 b g 28, ce (ad0 b g) kc 0 M0 28) = ((b 28), .inr (0, [.ref (b 29), .ref (b 30), .int 0, .int 9999, .int (-1), .int 0])) := by rfl
theorem st_29 (kc : Nat → ClassId) (b g : Nat → Nat) : (ad0 b g 29, ce (ad0 b g) kc 0 M0 29) = ((b 29), .inl (kc 0, 8, .inl (fl 8 (-1) (fun _ => 0)))) := by rfl
theorem st_30 (kc : Nat → ClassId) (b g : Nat → Nat) : (ad0 b g 30, ce (ad0 b g) kc 0 M0 30) = ((b 30), .inl (kc 0, 8, .inl (fun _ => 0))) := by rfl
theorem st_31 (kc : Nat → ClassId) (b g : Nat → Nat) : (ad0 b g 31, ce (ad0 b g) kc 0 M0 31) = ((b 31), .inr (1, [.ref (b 32), .ref (b 33), .ref (b 34), .int 0, .int 0, .int 0, .int 0, .int 0, .int 0, .int 0])) := by rfl
theorem st_32 (kc : Nat → ClassId) (b g : Nat → Nat) : (ad0 b g 32, ce (ad0 b g) kc 0 M0 32) = ((b 32), .inl (kc 0, 12, .inl (fun _ => 0))) := by rfl
theorem st_33 (kc : Nat → ClassId) (b g : Nat → Nat) : (ad0 b g 33, ce (ad0 b g) kc 0 M0 33) = ((b 33), .inl (kc 0, 12, .inl (fun _ => 0))) := by rfl
theorem st_34 (kc : Nat → ClassId) (b g : Nat → Nat) : (ad0 b g 34, ce (ad0 b g) kc 0 M0 34) = ((b 34), .inl (kc 0, 12, .inl (fun _ => 0))) := by rfl
theorem st_35 (kc : Nat → ClassId) (b g : Nat → Nat) : (ad0 b g 35, ce (ad0 b g) kc 0 M0 35) = ((g 35), .inr (6, [.int 0, .int 0, .ref (g 36), .ref (g 37), .int 1, .ref (g 38), .ref (g 39), .int 0, .ref (g 40), .ref (g 41), .ref (g 42), .ref (g 43), .ref (g 44), .ref (g 45), .ref (g 46), .ref (g 47), .ref (g 48), .ref (g 49), .ref (g 50), .int 0, .ref (g 51), .ref (g 52), .ref (g 53), .int 9999, .ref (g 54), .ref (g 55), .ref (g 56), .ref (g 57), .ref (g 58), .int 0, .int 0, .int 0, .int 0, .int 0, .int 0, .int 0, .int 0, .ref (g 59), .ref (g 60), .ref (g 61)])) := by rfl
theorem st_36 (kc : Nat → ClassId) (b g : Nat → Nat) : (ad0 b g 36, ce (ad0 b g) kc 0 M0 36) = ((g 36), .inl (kc 0, 60, .inl (fun _ => 0))) := by rfl
theorem st_37 (kc : Nat → ClassId) (b g : Nat → Nat) : (ad0 b g 37, ce (ad0 b g) kc 0 M0 37) = ((g 37), .inl (kc 0, 60, .inl (fun _ => 0))) := by rfl
theorem st_38 (kc : Nat → ClassId) (b g : Nat → Nat) : (ad0 b g 38, ce (ad0 b g) kc 0 M0 38) = ((g 38), .inl (kc 0, 60, .inl (fun _ => 0))) := by rfl
theorem st_39 (kc : Nat → ClassId) (b g : Nat → Nat) : (ad0 b g 39, ce (ad0 b g) kc 0 M0 39) = ((g 39), .inl (kc 0, 720, .inl (fl 12 (-1) (fun _ => 0)))) := by rfl
theorem st_40 (kc : Nat → ClassId) (b g : Nat → Nat) : (ad0 b g 40, ce (ad0 b g) kc 0 M0 40) = ((g 40), .inl (kc 0, 8, .inl (fun _ => 0))) := by rfl
theorem st_41 (kc : Nat → ClassId) (b g : Nat → Nat) : (ad0 b g 41, ce (ad0 b g) kc 0 M0 41) = ((g 41), .inl (kc 0, 8, .inl (fun _ => 0))) := by rfl
theorem st_42 (kc : Nat → ClassId) (b g : Nat → Nat) : (ad0 b g 42, ce (ad0 b g) kc 0 M0 42) = ((g 42), .inl (kc 0, 8, .inl (fun _ => 0))) := by rfl
theorem st_43 (kc : Nat → ClassId) (b g : Nat → Nat) : (ad0 b g 43, ce (ad0 b g) kc 0 M0 43) = ((g 43), .inl (kc 0, 8, .inl (fun _ => 0))) := by rfl
theorem st_44 (kc : Nat → ClassId) (b g : Nat → Nat) : (ad0 b g 44, ce (ad0 b g) kc 0 M0 44) = ((g 44), .inl (kc 0, 8, .inl (fun _ => 0))) := by rfl
theorem st_45 (kc : Nat → ClassId) (b g : Nat → Nat) : (ad0 b g 45, ce (ad0 b g) kc 0 M0 45) = ((g 45), .inl (kc 0, 8, .inl (fun _ => 0))) := by rfl
theorem st_46 (kc : Nat → ClassId) (b g : Nat → Nat) : (ad0 b g 46, ce (ad0 b g) kc 0 M0 46) = ((g 46), .inl (kc 0, 8, .inl (fun _ => 0))) := by rfl
theorem st_47 (kc : Nat → ClassId) (b g : Nat → Nat) : (ad0 b g 47, ce (ad0 b g) kc 0 M0 47) = ((g 47), .inl (kc 2, 8, .inl (fun _ => 0))) := by rfl
theorem st_48 (kc : Nat → ClassId) (b g : Nat → Nat) : (ad0 b g 48, ce (ad0 b g) kc 0 M0 48) = ((g 48), .inl (kc 2, 480, .inl (fun _ => 0))) := by rfl
theorem st_49 (kc : Nat → ClassId) (b g : Nat → Nat) : (ad0 b g 49, ce (ad0 b g) kc 0 M0 49) = ((g 49), .inl (kc 0, 24, .inl (fun _ => 0))) := by rfl
theorem st_50 (kc : Nat → ClassId) (b g : Nat → Nat) : (ad0 b g 50, ce (ad0 b g) kc 0 M0 50) = ((g 50), .inl (kc 0, 8, .inl (fun _ => 0))) := by rfl
theorem st_51 (kc : Nat → ClassId) (b g : Nat → Nat) : (ad0 b g 51, ce (ad0 b g) kc 0 M0 51) = ((g 51), .inl (kc 0, 40, .inl (fun _ => 0))) := by rfl
theorem st_52 (kc : Nat → ClassId) (b g : Nat → Nat) : (ad0 b g 52, ce (ad0 b g) kc 0 M0 52) = ((g 52), .inl (kc 0, 40, .inl (fun _ => 0))) := by rfl
theorem st_53 (kc : Nat → ClassId) (b g : Nat → Nat) : (ad0 b g 53, ce (ad0 b g) kc 0 M0 53) = ((g 53), .inl (kc 0, 40, .inl (fun _ => 0))) := by rfl
theorem st_54 (kc : Nat → ClassId) (b g : Nat → Nat) : (ad0 b g 54, ce (ad0 b g) kc 0 M0 54) = ((g 54), .inl (kc 0, 48, .inl (fl 48 (-1) (fun _ => 0)))) := by rfl
theorem st_55 (kc : Nat → ClassId) (b g : Nat → Nat) : (ad0 b g 55, ce (ad0 b g) kc 0 M0 55) = ((g 55), .inl (kc 0, 6, .inl (fl 6 9999 (fun _ => 0)))) := by rfl
theorem st_56 (kc : Nat → ClassId) (b g : Nat → Nat) : (ad0 b g 56, ce (ad0 b g) kc 0 M0 56) = ((g 56), .inl (kc 0, 6, .inl (fl 6 (-1) (fun _ => 0)))) := by rfl
theorem st_57 (kc : Nat → ClassId) (b g : Nat → Nat) : (ad0 b g 57, ce (ad0 b g) kc 0 M0 57) = ((g 57), .inl (kc 0, 6, .inl (fun _ => 0))) := by rfl
theorem st_58 (kc : Nat → ClassId) (b g : Nat → Nat) : (ad0 b g 58, ce (ad0 b g) kc 0 M0 58) = ((g 58), .inl (kc 0, 8, .inl (fun _ => 0))) := by rfl
theorem st_59 (kc : Nat → ClassId) (b g : Nat → Nat) : (ad0 b g 59, ce (ad0 b g) kc 0 M0 59) = ((g 59), .inl (kc 0, 12, .inl (fun _ => 0))) := by rfl
theorem st_60 (kc : Nat → ClassId) (b g : Nat → Nat) : (ad0 b g 60, ce (ad0 b g) kc 0 M0 60) = ((g 60), .inl (kc 0, 12, .inl (fun _ => 0))) := by rfl
theorem st_61 (kc : Nat → ClassId) (b g : Nat → Nat) : (ad0 b g 61, ce (ad0 b g) kc 0 M0 61) = ((g 61), .inl (kc 0, 12, .inl (fun _ => 0))) := by rfl
theorem wl_start (kc : Nat → ClassId) (b g : Nat → Nat) : wl (ad0 b g) kc 0 M0 = wst kc b g := by
  show [(ad0 b g 0, ce (ad0 b g) kc 0 M0 0), (ad0 b g 1, ce (ad0 b g) kc 0 M0 1), (ad0 b g 2, ce (ad0 b g) kc 0 M0 2), (ad0 b g 3, ce (ad0 b g) kc 0 M0 3), (ad0 b g 4, ce (ad0 b g) kc 0 M0 4), (ad0 b g 5, ce (ad0 b g) kc 0 M0 5), (ad0 b g 6, ce (ad0 b g) kc 0 M0 6), (ad0 b g 7, ce (ad0 b g) kc 0 M0 7), (ad0 b g 8, ce (ad0 b g) kc 0 M0 8), (ad0 b g 9, ce (ad0 b g) kc 0 M0 9), (ad0 b g 10, ce (ad0 b g) kc 0 M0 10), (ad0 b g 11, ce (ad0 b g) kc 0 M0 11), (ad0 b g 12, ce (ad0 b g) kc 0 M0 12), (ad0 b g 13, ce (ad0 b g) kc 0 M0 13), (ad0 b g 14, ce (ad0 b g) kc 0 M0 14), (ad0 b g 15, ce (ad0 b g) kc 0 M0 15), (ad0 b g 16, ce (ad0 b g) kc 0 M0 16), (ad0 b g 17, ce (ad0 b g) kc 0 M0 17), (ad0 b g 18, ce (ad0 b g) kc 0 M0 18), (ad0 b g 19, ce (ad0 b g) kc 0 M0 19), (ad0 b g 20, ce (ad0 b g) kc 0 M0 20), (ad0 b g 21, ce (ad0 b g) kc 0 M0 21), (ad0 b g 22, ce (ad0 b g) kc 0 M0 22), (ad0 b g 23, ce (ad0 b g) kc 0 M0 23), (ad0 b g 24, ce (ad0 b g) kc 0 M0 24), (ad0 b g 25, ce (ad0 b g) kc 0 M0 25), (ad0 b g 26, ce (ad0 b g) kc 0 M0 26), (ad0 b g 27, ce (ad0 b g) kc 0 M0 27), (ad0 b g 28, ce (ad0 b g) kc 0 M0 28), (ad0 b g 29, ce (ad0 b g) kc 0 M0 29), (ad0 b g 30, ce (ad0 b g) kc 0 M0 30), (ad0 b g 31, ce (ad0 b g) kc 0 M0 31), (ad0 b g 32, ce (ad0 b g) kc 0 M0 32), (ad0 b g 33, ce (ad0 b g) kc 0 M0 33), (ad0 b g 34, ce (ad0 b g) kc 0 M0 34), (ad0 b g 35, ce (ad0 b g) kc 0 M0 35), (ad0 b g 36, ce (ad0 b g) kc 0 M0 36), (ad0 b g 37, ce (ad0 b g) kc 0 M0 37), (ad0 b g 38, ce (ad0 b g) kc 0 M0 38), (ad0 b g 39, ce (ad0 b g) kc 0 M0 39), (ad0 b g 40, ce (ad0 b g) kc 0 M0 40), (ad0 b g 41, ce (ad0 b g) kc 0 M0 41), (ad0 b g 42, ce (ad0 b g) kc 0 M0 42), (ad0 b g 43, ce (ad0 b g) kc 0 M0 43), (ad0 b g 44, ce (ad0 b g) kc 0 M0 44), (ad0 b g 45, ce (ad0 b g) kc 0 M0 45), (ad0 b g 46, ce (ad0 b g) kc 0 M0 46), (ad0 b g 47, ce (ad0 b g) kc 0 M0 47), (ad0 b g 48, ce (ad0 b g) kc 0 M0 48), (ad0 b g 49, ce (ad0 b g) kc 0 M0 49), (ad0 b g 50, ce (ad0 b g) kc 0 M0 50), (ad0 b g 51, ce (ad0 b g) kc 0 M0 51), (ad0 b g 52, ce (ad0 b g) kc 0 M0 52), (ad0 b g 53, ce (ad0 b g) kc 0 M0 53), (ad0 b g 54, ce (ad0 b g) kc 0 M0 54), (ad0 b g 55, ce (ad0 b g) kc 0 M0 55), (ad0 b g 56, ce (ad0 b g) kc 0 M0 56), (ad0 b g 57, ce (ad0 b g) kc 0 M0 57), (ad0 b g 58, ce (ad0 b g) kc 0 M0 58), (ad0 b g 59, ce (ad0 b g) kc 0 M0 59), (ad0 b g 60, ce (ad0 b g) kc 0 M0 60), (ad0 b g 61, ce (ad0 b g) kc 0 M0 61)] = _
  rw [st_0, st_1, st_2, st_3, st_4, st_5, st_6, st_7, st_8, st_9, st_10, st_11, st_12, st_13, st_14, st_15, st_16, st_17, st_18, st_19, st_20, st_21, st_22, st_23, st_24, st_25, st_26, st_27, st_28, st_29, st_30, st_31, st_32, st_33, st_34, st_35, st_36, st_37, st_38, st_39, st_40, st_41, st_42, st_43, st_44, st_45, st_46, st_47, st_48, st_49, st_50, st_51, st_52, st_53, st_54, st_55, st_56, st_57, st_58, st_59, st_60, st_61]
  rfl
theorem va_P_swap {D : va_G} {cl : List vw_C} {ws : va_W} {H : Heap} {a k : Nat} {e e' : va_E} (h : va_P D cl ws H) (hk : ws[k]? = some (a, e)) (he : va_at D cl (a, e) H → va_at D cl (a, e') H) : va_P D cl (ws.set k (a, e')) H := by
  intro j q hj
  by_cases hjk : k = j
  · subst hjk
    rw [List.getElem?_set_self (List.getElem?_eq_some_iff.mp hk).1] at hj
    cases hj
    exact he (h k _ hk)
  · rw [List.getElem?_set_ne hjk] at hj
    exact h j q hj
theorem st_P {D : va_G} {kc : Nat → ClassId} {b g : Nat → Nat} {H : Heap} (h : va_P D vwCl (w5 kc b ++ w6 kc g) H) : va_P D vwCl (wl (ad0 b g) kc 0 M0) H := by
  have h1 := va_P_swap (k := 11) (a := b 11) (e := .inl (kc 3, 8, .inr (.inr (.inr (.inr (fun _ => none)))))) (e' := .inl (kc 3, 8, .inr (.inr (.inr (.inr (fun j => if j < 0 then some (ad0 b g (62 + 2 * j)) else none)))))) h rfl (fun q => arrQ q (fun j hj => by
    show none = if j < 0 then _ else none
    rw [if_neg (by omega)]))
  have h2 := va_P_swap (k := 12) (a := b 12) (e := .inl (kc 4, 6, .inr (.inr (.inr (.inr (va_up (va_up (va_up (va_up (va_up (va_up (fun _ => none) 0 (some (b 13))) 1 (some (b 16))) 2 (some (b 19))) 3 (some (b 22))) 4 (some (b 25))) 5 (some (b 28)))))))) (e' := .inl (kc 4, 6, .inr (.inr (.inr (.inr (fun j => some (ad0 b g (13 + 3 * j)))))))) h1 rfl (fun q => arrQ q (fun j hj => by
    rcases (show j = 0 ∨ j = 1 ∨ j = 2 ∨ j = 3 ∨ j = 4 ∨ j = 5 by omega) with rfl | rfl | rfl | rfl | rfl | rfl <;> rfl))
  rw [wl_start]
  exact h2
theorem st_AD {kc : Nat → ClassId} {b g : Nat → Nat} {z : Nat} (h : va_D (fun q => z ≤ q) (w5 kc b ++ w6 kc g)) : AD (ad0 b g) 0 z := by
  have h1 := va_D.set (p := 11) (a := b 11) (e := .inl (kc 3, 8, .inr (.inr (.inr (.inr (fun j => if j < 0 then some (ad0 b g (62 + 2 * j)) else none)))))) h (e0 := .inl (kc 3, 8, .inr (.inr (.inr (.inr (fun _ => none)))))) rfl
  have h2 := va_D.set (p := 12) (a := b 12) (e := .inl (kc 4, 6, .inr (.inr (.inr (.inr (fun j => some (ad0 b g (13 + 3 * j)))))))) h1 (e0 := .inl (kc 4, 6, .inr (.inr (.inr (.inr (va_up (va_up (va_up (va_up (va_up (va_up (fun _ => none) 0 (some (b 13))) 1 (some (b 16))) 2 (some (b 19))) 3 (some (b 22))) 4 (some (b 25))) 5 (some (b 28)))))))) rfl
  have h3 : va_D (fun q => z ≤ q) (wl (ad0 b g) kc 0 M0) := by
    rw [wl_start]
    exact h2
  exact ⟨fun i j hi hj e => h3.1 i j _ _ (wl_at hi) (wl_at hj) e, fun i hi => h3.2 i _ (wl_at hi)⟩
theorem fl_in {n j : Nat} {v : Int32} {f : Nat → Int32} (h : j < n) : fl n v f j = v := if_pos h
theorem inv_start : Inv 0 M0 := by
  refine ⟨0, 0, 1, 0, 9999, ?_, ⟨?_, ⟨?_, ?_⟩, ?_, ?_, ?_⟩, ?_, ⟨?_, ?_⟩, ?_, ?_, ?_⟩
  · exact ⟨⟨rfl, rfl, rfl, rfl, rfl, rfl⟩, ⟨rfl, rfl, rfl, rfl, rfl, rfl⟩, by omega, by omega, by omega, by omega, by omega, by omega, by omega⟩
  · intro f hf
    exact absurd hf (by omega)
  · intro f hf
    exact absurd hf (by omega)
  · intro f _
    exact hb_0 f
  · intro s hs
    obtain rfl : s = 0 := by omega
    exact ⟨rfl, 0, by omega, rfl⟩
  · intro s p hs hp
    obtain rfl : s = 0 := by omega
    have e1 : gI M0 6 (12 * 0 + p) = m1 := by
      show fl 720 (-1) (fun _ => 0) (12 * 0 + p) = m1
      rw [fl_in (by omega)]
      rfl
    have e2 : gI M0 39 (12 * 0 + p) = m1 := by
      show fl 12 (-1) (fun _ => 0) (12 * 0 + p) = m1
      rw [fl_in (by omega)]
      rfl
    rw [e1, e2]
    exact ⟨rfl, Or.inl rfl⟩
  · intro s f hs hf
    obtain rfl : s = 0 := by omega
    refine ⟨fun h => ?_, fun ⟨p, hp, h⟩ => ?_⟩
    · rw [show gJ M0 5 0 = 0 from rfl, hb_0] at h
      exact absurd h (by decide)
    · rw [show gI M0 39 (12 * 0 + p) = m1 from (fl_in (by omega) : fl 12 (-1) (fun _ => 0) (12 * 0 + p) = -1)] at h
      exact absurd h.symm (nI_ne_m1 (by omega))
  · intro k hk
    exact absurd hk (by omega)
  · intro m hm
    exact absurd hm (by omega)
  · intro m _ _
    exact ⟨rfl, rfl, rfl, rfl, fun f _ => rfl, rfl⟩
  · intro k hk
    refine ⟨fun m hm => ?_, ?_, ?_, ?_⟩
    · have e1 : gI M0 54 (8 * k + m) = m1 := by
        show fl 48 (-1) (fun _ => 0) (8 * k + m) = m1
        rw [fl_in (by omega)]
        rfl
      have e2 : gI M0 (13 + 3 * k + 1) m = m1 := by
        rcases (show k = 0 ∨ k = 1 ∨ k = 2 ∨ k = 3 ∨ k = 4 ∨ k = 5 by omega) with rfl | rfl | rfl | rfl | rfl | rfl <;> exact (fl_in hm : fl 8 (-1) (fun _ => 0) m = -1)
      rw [e1, e2]
      exact ⟨rfl, Or.inl rfl⟩
    · rcases (show k = 0 ∨ k = 1 ∨ k = 2 ∨ k = 3 ∨ k = 4 ∨ k = 5 by omega) with rfl | rfl | rfl | rfl | rfl | rfl <;> exact ⟨rfl, 9999, by omega, rfl⟩
    · rcases (show k = 0 ∨ k = 1 ∨ k = 2 ∨ k = 3 ∨ k = 4 ∨ k = 5 by omega) with rfl | rfl | rfl | rfl | rfl | rfl <;> exact ⟨rfl, Or.inl rfl⟩
    · rcases (show k = 0 ∨ k = 1 ∨ k = 2 ∨ k = 3 ∨ k = 4 ∨ k = 5 by omega) with rfl | rfl | rfl | rfl | rfl | rfl <;> exact ⟨rfl, 0, by omega, rfl⟩
  · exact ⟨rfl, rfl, rfl, rfl, rfl, rfl, rfl⟩
  · exact ⟨false, rfl, 0, by omega, rfl, fun _ => rfl, fun k hk => absurd hk (by omega)⟩
