/-! X5_isWithin -/
def fn_X5_isWithin (x0 : Int32) (x1 : Int32) (x2 : Int32) : Option Int32 :=
  if x0 < x1 then
    some ((0 : Int32))
  else
  if x2 < x0 then
    some ((0 : Int32))
  else
  some ((1 : Int32))
/-! X0_costOf -/
def fn_X0_costOf (M : Mem) (n0 : Nat) (x1 : Int32) : Option Int32 :=
  bd1 (fn_X5_isWithin x1 (0 : Int32) (7 : Int32)) fun r_1 =>
  if r_1 = (0 : Int32) then
    some ((-1 : Int32))
  else
  ck (ok x1 8) (
  some (gI M (13 + 3 * n0 + 1) (ix x1)))
/-! X0_setCost -/
def fn_X0_setCost (M : Mem) (n0 : Nat) (x1 : Int32) (x2 : Int32) : Option Mem :=
  bd1 (fn_X5_isWithin x1 (0 : Int32) (7 : Int32)) fun r_1 =>
  if r_1 = (0 : Int32) then
    some M
  else
  ck (ok x1 8) (nx (sI M (13 + 3 * n0 + 1) (ix x1) x2) fun M_2 =>
  some M_2)
/-! X5_isIn -/
def fn_X5_isIn (x0 : Int32) (x1 : Int32) : Option Int32 :=
  bd1 (fn_X5_isWithin x1 (0 : Int32) (31 : Int32)) fun r_1 =>
  if r_1 = (0 : Int32) then
    some ((0 : Int32))
  else
  if (x0 &&& ((1 : Int32) <<< (x1 &&& 31))) = (0 : Int32) then
    some ((0 : Int32))
  else
  some ((1 : Int32))
/-! X0_knowsAsBad -/
def fn_X0_knowsAsBad (M : Mem) (n0 : Nat) (x1 : Int32) : Option Int32 :=
  bd1 (fn_X5_isIn (gI M (13 + 3 * n0) 5) x1) fun r_1 =>
  some (r_1)
/-! X0_markBad -/
def fn_X0_markBad (M : Mem) (n0 : Nat) (x1 : Int32) : Option Mem :=
  bd1 (fn_X5_isWithin x1 (0 : Int32) (7 : Int32)) fun r_1 =>
  if r_1 = (0 : Int32) then
    some M
  else
  nx (sI M (13 + 3 * n0) 5 ((gI M (13 + 3 * n0) 5) ||| ((1 : Int32) <<< (x1 &&& 31)))) fun M_2 =>
  some M_2
/-! X0_inLine -/
def fn_X0_inLine (M : Mem) (n0 : Nat) (x1 : Int32) : Option Int32 :=
  bd1 (fn_X5_isWithin x1 (0 : Int32) ((gI M (13 + 3 * n0) 2) - (1 : Int32))) fun r_1 =>
  if r_1 = (0 : Int32) then
    some ((-1 : Int32))
  else
  ck (ok x1 8) (
  some (gI M (13 + 3 * n0 + 2) (ix x1)))
/-! X0_putInLine -/
def bk_X0_putInLine_61 (M : Mem) (n0 : Nat) (x1 : Int32) (x2 : Int32) : Option Mem :=
  ck (ok x2 8) (nx (sI M (13 + 3 * n0 + 2) (ix x2) x1) fun M_2 =>
  nx (sI M_2 (13 + 3 * n0) 2 ((gI M_2 (13 + 3 * n0) 2) + (1 : Int32))) fun M_3 =>
  some M_3)
def lq_X0_putInLine_15 (n0 : Nat) (x1 : Int32) (rc15 : Mem → Int32 → Option Mem) (M : Mem) (x2 : Int32) : Option Mem :=
  if x2 ≤ (0 : Int32) then
    bk_X0_putInLine_61 M n0 x1 x2
  else
  ck (ok (x2 - (1 : Int32)) 8) (
  ck (ok (gI M (13 + 3 * n0 + 2) (ix (x2 - (1 : Int32)))) 8) (
  ck (ok x1 8) (
  if (gI M (13 + 3 * n0 + 1) (ix (gI M (13 + 3 * n0 + 2) (ix (x2 - (1 : Int32)))))) ≤ (gI M (13 + 3 * n0 + 1) (ix x1)) then
    bk_X0_putInLine_61 M n0 x1 x2
  else
  ck (ok (x2 - (1 : Int32)) 8) (
  ck (ok x2 8) (nx (sI M (13 + 3 * n0 + 2) (ix x2) (gI M (13 + 3 * n0 + 2) (ix (x2 - (1 : Int32))))) fun M_4 =>
  nx (x2 + (-1 : Int32)) fun v_5 =>
  rc15 M_4 v_5)))))
def fn_X0_putInLine (M : Mem) (n0 : Nat) (x1 : Int32) : Option Mem :=
  if (gI M (13 + 3 * n0) 2) < (8 : Int32) then
    nx (gI M (13 + 3 * n0) 2) fun v_1 =>
    it2 (lq_X0_putInLine_15 n0 x1) FU M v_1
  else
  some M
/-! X0_lineUp -/
def bk_X0_lineUp_36 (rc7 : Mem → Int32 → Option Mem) (M : Mem) (n0 : Nat) (x1 : Int32) : Option Mem :=
  nx (x1 + (1 : Int32)) fun v_2 =>
  rc7 M v_2
def lq_X0_lineUp_7 (n0 : Nat) (rc7 : Mem → Int32 → Option Mem) (M : Mem) (x1 : Int32) : Option Mem :=
  if (8 : Int32) ≤ x1 then
    some M
  else
  ck (ok x1 8) (
  if (gI M (13 + 3 * n0 + 1) (ix x1)) = (-1 : Int32) then
    bk_X0_lineUp_36 rc7 M n0 x1
  else
  bd1 (fn_X0_knowsAsBad M n0 x1) fun r_3 =>
  if r_3 = (0 : Int32) then
    bd1 (fn_X0_putInLine M n0 x1) fun M_4 =>
    bk_X0_lineUp_36 rc7 M_4 n0 x1
  else
  bk_X0_lineUp_36 rc7 M n0 x1)
def fn_X0_lineUp (M : Mem) (n0 : Nat) : Option Mem :=
  nx (sI M (13 + 3 * n0) 2 (0 : Int32)) fun M_1 =>
  it2 (lq_X0_lineUp_7 n0) FU M_1 (0 : Int32)
/-! X1_begin -/
def fn_X1_begin (M : Mem) : Option Mem :=
  nx (sI M 31 3 (1 : Int32)) fun M_1 =>
  nx (sI M_1 31 4 (-1 : Int32)) fun M_2 =>
  nx (sI M_2 31 5 (0 : Int32)) fun M_3 =>
  nx (sI M_3 31 6 (0 : Int32)) fun M_4 =>
  nx (sI M_4 31 7 (0 : Int32)) fun M_5 =>
  nx (sI M_5 31 8 (-1 : Int32)) fun M_6 =>
  nx (sI M_6 31 9 (-1 : Int32)) fun M_7 =>
  some M_7
/-! X1_spend -/
def fn_X1_spend (M : Mem) (x1 : Int32) : Option Mem :=
  nx (sI M 31 5 ((gI M 31 5) + x1)) fun M_1 =>
  nx (sI M_1 31 6 ((gI M_1 31 6) + (1 : Int32))) fun M_2 =>
  some M_2
/-! X1_keepGot -/
def fn_X1_keepGot (M : Mem) (x1 : Int32) (x2 : Int32) (x3 : Int32) : Option Mem :=
  if (12 : Int32) ≤ (gI M 31 7) then
    some M
  else
  ck (ok (gI M 31 7) 12) (nx (sI M 32 (ix (gI M 31 7)) x1) fun M_1 =>
  ck (ok (gI M_1 31 7) 12) (nx (sI M_1 33 (ix (gI M_1 31 7)) x2) fun M_2 =>
  ck (ok (gI M_2 31 7) 12) (nx (sI M_2 34 (ix (gI M_2 31 7)) x3) fun M_3 =>
  nx (sI M_3 31 7 ((gI M_3 31 7) + (1 : Int32))) fun M_4 =>
  some M_4)))
/-! X1_gotten -/
def fn_X1_gotten (M : Mem) (x1 : Int32) (x2 : Int32) : Option Int32 :=
  bd1 (fn_X5_isWithin x1 (0 : Int32) ((gI M 31 7) - (1 : Int32))) fun r_1 =>
  if r_1 = (0 : Int32) then
    some ((-1 : Int32))
  else
  if x2 = (0 : Int32) then
    ck (ok x1 12) (
    some (gI M 32 (ix x1)))
  else
  if x2 = (1 : Int32) then
    ck (ok x1 12) (
    some (gI M 33 (ix x1)))
  else
  if x2 = (2 : Int32) then
    ck (ok x1 12) (
    some (gI M 34 (ix x1)))
  else
  some ((-1 : Int32))
/-! X2_add -/
def fn_X2_add (M : Mem) (x1 : Int32) (x2 : Int32) (x3 : Int32) : Option (Int32 × Mem) :=
  if (gI M 7 3) < (40 : Int32) then
    ck (ok (gI M 7 3) 40) (nx (sI M 8 (ix (gI M 7 3)) x1) fun M_1 =>
    ck (ok (gI M_1 7 3) 40) (nx (sI M_1 9 (ix (gI M_1 7 3)) x2) fun M_2 =>
    ck (ok (gI M_2 7 3) 40) (nx (sI M_2 10 (ix (gI M_2 7 3)) x3) fun M_3 =>
    nx (sI M_3 7 3 ((gI M_3 7 3) + (1 : Int32))) fun M_4 =>
    some (gI M_4 7 3, M_4))))
  else
  some ((-1 : Int32), M)
/-! X2_downAt -/
def bk_X2_downAt_42 (rc4 : Int32 → Int32 → Option Int32) (M : Mem) (x1 : Int32) (x2 : Int32) (x3 : Int32) : Option Int32 :=
  nx (x3 + (1 : Int32)) fun v_2 =>
  rc4 x2 v_2
def lq_X2_downAt_4 (M : Mem) (x1 : Int32) (rc4 : Int32 → Int32 → Option Int32) (x2 : Int32) (x3 : Int32) : Option Int32 :=
  if (gI M 7 3) ≤ x3 then
    some (x2)
  else
  ck (ok x3 40) (
  ck (ok x3 40) (
  bd1 (fn_X5_isWithin x1 (gI M 9 (ix x3)) (gI M 10 (ix x3))) fun r_1 =>
  if r_1 = (0 : Int32) then
    bk_X2_downAt_42 rc4 M x1 x2 x3
  else
  ck (ok x3 40) (
  nx (x2 ||| ((1 : Int32) <<< ((gI M 8 (ix x3)) &&& 31))) fun v_3 =>
  bk_X2_downAt_42 rc4 M x1 v_3 x3)))
def fn_X2_downAt (M : Mem) (x1 : Int32) : Option Int32 :=
  it2 (lq_X2_downAt_4 M x1) FU (0 : Int32) (0 : Int32)
/-! X5_bitOf -/
def fn_X5_bitOf (x0 : Int32) : Option Int64 :=
  bd1 (fn_X5_isWithin x0 (0 : Int32) (59 : Int32)) fun r_1 =>
  if r_1 = (0 : Int32) then
    some ((0 : Int64))
  else
  some ((1 : Int64) <<< (x0.toInt64 &&& 63))
/-! X3_holds -/
def fn_X3_holds (M : Mem) (n0 : Nat) (x1 : Int32) : Option Int32 :=
  bd1 (fn_X5_bitOf x1) fun r_1 =>
  if (lg_cmp ((gJ M (62 + 2 * n0) 6) &&& r_1) (0 : Int64)) = (0 : Int32) then
    some ((0 : Int32))
  else
  some ((1 : Int32))
/-! X4_hasState -/
def fn_X4_hasState (M : Mem) (x1 : Int32) : Option Int32 :=
  if x1 < (0 : Int32) then
    some ((0 : Int32))
  else
  if (gI M 1 6) ≤ x1 then
    some ((0 : Int32))
  else
  some ((1 : Int32))
/-! X4_filesOf -/
def fn_X4_filesOf (M : Mem) (x1 : Int32) : Option Int64 :=
  bd1 (fn_X4_hasState M x1) fun r_1 =>
  if r_1 = (0 : Int32) then
    some ((0 : Int64))
  else
  ck (ok x1 60) (
  some (gJ M 5 (ix x1)))
/-! X3_missing -/
def fn_X3_missing (M : Mem) (n0 : Nat) : Option Int64 :=
  bd1 (fn_X4_filesOf M (gI M (62 + 2 * n0) 5)) fun r_1 =>
  some (r_1 &&& ((gJ M (62 + 2 * n0) 6) ^^^ (-1 : Int64)))
/-! X4_bytesOf -/
def bk_X4_bytesOf_36 (rc5 : Int32 → Int32 → Option Int32) (M : Mem) (y1 : Int64) (x3 : Int32) (x4 : Int32) : Option Int32 :=
  nx (x4 + (1 : Int32)) fun v_2 =>
  rc5 x3 v_2
def lq_X4_bytesOf_5 (M : Mem) (y1 : Int64) (rc5 : Int32 → Int32 → Option Int32) (x3 : Int32) (x4 : Int32) : Option Int32 :=
  if (gI M 1 5) ≤ x4 then
    some (x3)
  else
  bd1 (fn_X5_bitOf x4) fun r_1 =>
  if (lg_cmp (y1 &&& r_1) (0 : Int64)) = (0 : Int32) then
    bk_X4_bytesOf_36 rc5 M y1 x3 x4
  else
  ck (ok x4 60) (
  nx (x3 + (gI M 2 (ix x4))) fun v_3 =>
  bk_X4_bytesOf_36 rc5 M y1 v_3 x4)
def fn_X4_bytesOf (M : Mem) (y1 : Int64) : Option Int32 :=
  it2 (lq_X4_bytesOf_5 M y1) FU (0 : Int32) (0 : Int32)
/-! X3_bytesWanted -/
def fn_X3_bytesWanted (M : Mem) (n0 : Nat) : Option Int32 :=
  if (gI M (62 + 2 * n0) 5) = (-1 : Int32) then
    some ((-1 : Int32))
  else
  bd1 (fn_X3_missing M n0) fun r_1 =>
  bd1 (fn_X4_bytesOf M r_1) fun r_2 =>
  some (r_2 - (gI M (62 + 2 * n0) 7))
/-! J13_bitCount_95d88 -/
def fn_J13_bitCount_95d88 (y0 : Int64) : Option Int32 :=
  nx (y0 - (((y0.toUInt64 >>> ((1 : Int32).toInt64.toUInt64 &&& Int64.toUInt64 63)).toInt64) &&& (6148914691236517205 : Int64))) fun v_1 =>
  nx ((v_1 &&& (3689348814741910323 : Int64)) + (((v_1.toUInt64 >>> ((2 : Int32).toInt64.toUInt64 &&& Int64.toUInt64 63)).toInt64) &&& (3689348814741910323 : Int64))) fun v_2 =>
  nx ((v_2 + ((v_2.toUInt64 >>> ((4 : Int32).toInt64.toUInt64 &&& Int64.toUInt64 63)).toInt64)) &&& (1085102592571150095 : Int64)) fun v_3 =>
  nx (v_3 + ((v_3.toUInt64 >>> ((8 : Int32).toInt64.toUInt64 &&& Int64.toUInt64 63)).toInt64)) fun v_4 =>
  nx (v_4 + ((v_4.toUInt64 >>> ((16 : Int32).toInt64.toUInt64 &&& Int64.toUInt64 63)).toInt64)) fun v_5 =>
  nx (v_5 + ((v_5.toUInt64 >>> ((32 : Int32).toInt64.toUInt64 &&& Int64.toUInt64 63)).toInt64)) fun v_6 =>
  some (v_6.toInt32 &&& (127 : Int32))
/-! X5_leastOf -/
def fn_X5_leastOf (y0 : Int64) : Option Int32 :=
  bd1 (fn_J13_bitCount_95d88 ((y0 &&& (-y0)) - (1 : Int64))) fun r_1 =>
  some (r_1)
/-! X4_hasFile -/
def fn_X4_hasFile (M : Mem) (x1 : Int32) : Option Int32 :=
  if x1 < (0 : Int32) then
    some ((0 : Int32))
  else
  if (gI M 1 5) ≤ x1 then
    some ((0 : Int32))
  else
  some ((1 : Int32))
/-! X4_sizeOf -/
def fn_X4_sizeOf (M : Mem) (x1 : Int32) : Option Int32 :=
  bd1 (fn_X4_hasFile M x1) fun r_1 =>
  if r_1 = (0 : Int32) then
    some ((0 : Int32))
  else
  ck (ok x1 60) (
  some (gI M 2 (ix x1)))
/-! X3_takeBytes -/
def bk_X3_takeBytes_60 (M : Mem) (x4 : Int32) : Option (Int32 × Mem) :=
  some (x4, M)
def fn_X3_takeBytes (M : Mem) (n0 : Nat) (x1 : Int32) (x2 : Int32) (x3 : Int32) : Option (Int32 × Mem) :=
  nx (if (x2 - (gI M (62 + 2 * n0) 7)) < x3 then (x2 - (gI M (62 + 2 * n0) 7)) else x3) fun v_1 =>
  nx (sI M (62 + 2 * n0) 8 ((gI M (62 + 2 * n0) 8) + v_1)) fun M_2 =>
  nx (sI M_2 (62 + 2 * n0) 7 ((gI M_2 (62 + 2 * n0) 7) + v_1)) fun M_3 =>
  if (gI M_3 (62 + 2 * n0) 7) < x2 then
    bk_X3_takeBytes_60 M_3 v_1
  else
  bd1 (fn_X5_bitOf x1) fun r_4 =>
  nx (sJ M_3 (62 + 2 * n0) 6 ((gJ M_3 (62 + 2 * n0) 6) ||| r_4)) fun M_5 =>
  nx (sI M_5 (62 + 2 * n0) 7 (0 : Int32)) fun M_6 =>
  bk_X3_takeBytes_60 M_6 v_1
/-! X3_copyFiles -/
def lq_X3_copyFiles_9 (n0 : Nat) (y2 : Int64) (rc9 : Mem → Int32 → Int32 → Option Mem) (M : Mem) (x4 : Int32) (x5 : Int32) : Option Mem :=
  if (60 : Int32) ≤ x5 then
    some M
  else
  if x4 ≤ (0 : Int32) then
    some M
  else
  bd1 (fn_X3_missing M n0) fun r_2 =>
  if (lg_cmp r_2 (0 : Int64)) = (0 : Int32) then
    some M
  else
  bd1 (fn_X5_leastOf r_2) fun r_3 =>
  bd1 (fn_X5_bitOf r_3) fun r_4 =>
  if (lg_cmp (y2 &&& r_4) (0 : Int64)) = (0 : Int32) then
    nx (sI M (62 + 2 * n0) 5 (-1 : Int32)) fun M_10 =>
    nx (sI M_10 (62 + 2 * n0) 7 (0 : Int32)) fun M_11 =>
    some M_11
  else
  bd1 (fn_X4_sizeOf M r_3) fun r_5 =>
  bd2 (fn_X3_takeBytes M n0 r_3 r_5 x4) fun r_7 M_6 =>
  nx (x4 - r_7) fun v_8 =>
  nx (x5 + (1 : Int32)) fun v_9 =>
  rc9 M_6 v_8 v_9
def fn_X3_copyFiles (M : Mem) (n0 : Nat) (y2 : Int64) : Option Mem :=
  nx (gI M (62 + 2 * n0) 3) fun v_1 =>
  it3 (lq_X3_copyFiles_9 n0 y2) FU M v_1 (0 : Int32)
/-! X3_takeIndex -/
def lq_X3_takeIndex_2 (n0 : Nat) (rc2 : Mem → Int32 → Option Mem) (M : Mem) (x1 : Int32) : Option Mem :=
  if x1 ≤ (0 : Int32) then
    ck (ok (0 : Int32) 3) (nx (sI M (62 + 2 * n0 + 1) (ix (0 : Int32)) (gI M (62 + 2 * n0) 4)) fun M_1 =>
    nx (sI M_1 (62 + 2 * n0) 4 (gI M_1 (62 + 2 * n0) 5)) fun M_2 =>
    nx (sI M_2 (62 + 2 * n0) 5 (-1 : Int32)) fun M_3 =>
    some M_3)
  else
  ck (ok (x1 - (1 : Int32)) 3) (
  ck (ok x1 3) (nx (sI M (62 + 2 * n0 + 1) (ix x1) (gI M (62 + 2 * n0 + 1) (ix (x1 - (1 : Int32))))) fun M_4 =>
  nx (x1 + (-1 : Int32)) fun v_5 =>
  rc2 M_4 v_5))
def fn_X3_takeIndex (M : Mem) (n0 : Nat) : Option Mem :=
  it2 (lq_X3_takeIndex_2 n0) FU M (2 : Int32)
/-! X3_dropOld -/
def bk_X3_dropOld_47 (M : Mem) (n0 : Nat) (y2 : Int64) : Option Mem :=
  nx (sJ M (62 + 2 * n0) 6 ((gJ M (62 + 2 * n0) 6) &&& y2)) fun M_2 =>
  some M_2
def lq_X3_dropOld_12 (M : Mem) (n0 : Nat) (rc12 : Int64 → Int32 → Option Mem) (y2 : Int64) (x4 : Int32) : Option Mem :=
  if (gI M (62 + 2 * n0) 1) ≤ x4 then
    bk_X3_dropOld_47 M n0 y2
  else
  if (3 : Int32) ≤ x4 then
    bk_X3_dropOld_47 M n0 y2
  else
  ck (ok x4 3) (
  bd1 (fn_X4_filesOf M (gI M (62 + 2 * n0 + 1) (ix x4))) fun r_3 =>
  nx (y2 ||| r_3) fun v_4 =>
  nx (x4 + (1 : Int32)) fun v_5 =>
  rc12 v_4 v_5)
def fn_X3_dropOld (M : Mem) (n0 : Nat) : Option Mem :=
  bd1 (fn_X4_filesOf M (gI M (62 + 2 * n0) 4)) fun r_1 =>
  it2 (lq_X3_dropOld_12 M n0) FU r_1 (0 : Int32)
/-! X3_step -/
def bk_X3_step_21 (M : Mem) (n0 : Nat) (y3 : Int64) : Option Mem :=
  if (gI M (62 + 2 * n0) 5) = (-1 : Int32) then
    some M
  else
  bd1 (fn_X3_copyFiles M n0 y3) fun M_1 =>
  if (gI M_1 (62 + 2 * n0) 5) = (-1 : Int32) then
    some M_1
  else
  bd1 (fn_X3_missing M_1 n0) fun r_2 =>
  if (lg_cmp r_2 (0 : Int64)) = (0 : Int32) then
    bd1 (fn_X3_takeIndex M_1 n0) fun M_3 =>
    bd1 (fn_X3_dropOld M_3 n0) fun M_4 =>
    some M_4
  else
  some M_1
def fn_X3_step (M : Mem) (n0 : Nat) (x2 : Int32) (y3 : Int64) : Option Mem :=
  if (gI M (62 + 2 * n0) 5) = (-1 : Int32) then
    if x2 ≤ (gI M (62 + 2 * n0) 4) then
      bk_X3_step_21 M n0 y3
    else
    nx (sI M (62 + 2 * n0) 5 x2) fun M_5 =>
    bk_X3_step_21 M_5 n0 y3
  else
  bk_X3_step_21 M n0 y3
/-! X4_latestState -/
def fn_X4_latestState (M : Mem) : Option Int32 :=
  some ((gI M 1 6) - (1 : Int32))
/-! X4_allFiles -/
def fn_X4_allFiles (M : Mem) : Option Int64 :=
  some (((1 : Int64) <<< ((gI M 1 5).toInt64 &&& 63)) - (1 : Int64))
/-! X4_addFile -/
def fn_X4_addFile (M : Mem) (x1 : Int32) : Option (Int32 × Mem) :=
  if (gI M 1 5) < (60 : Int32) then
    ck (ok (gI M 1 5) 60) (nx (sI M 2 (ix (gI M 1 5)) x1) fun M_1 =>
    nx (sI M_1 1 5 ((gI M_1 1 5) + (1 : Int32))) fun M_2 =>
    some ((gI M_2 1 5) - (1 : Int32), M_2))
  else
  some ((-1 : Int32), M)
/-! X4_mayChange -/
def fn_X4_mayChange (M : Mem) (x1 : Int32) : Option Int32 :=
  if (60 : Int32) ≤ (gI M 1 6) then
    some ((0 : Int32))
  else
  bd1 (fn_X4_hasFile M x1) fun r_1 =>
  if r_1 = (0 : Int32) then
    some ((0 : Int32))
  else
  bd1 (fn_X5_bitOf x1) fun r_2 =>
  if (lg_cmp ((gJ M 1 7) &&& r_2) (0 : Int64)) = (0 : Int32) then
    some ((1 : Int32))
  else
  some ((0 : Int32))
/-! X4_namedBy -/
def fn_X4_namedBy (M : Mem) (x1 : Int32) (x2 : Int32) : Option Int32 :=
  bd1 (fn_X4_hasState M x1) fun r_1 =>
  if r_1 = (0 : Int32) then
    some ((-1 : Int32))
  else
  bd1 (fn_X5_isWithin x2 (0 : Int32) (11 : Int32)) fun r_2 =>
  if r_2 = (0 : Int32) then
    some ((-1 : Int32))
  else
  ck (ok ((x1 * (12 : Int32)) + x2) 720) (
  some (gI M 6 (ix ((x1 * (12 : Int32)) + x2))))
/-! X4_addState -/
def fn_X4_addState (M : Mem) (x1 : Int32) : Option (Int32 × Mem) :=
  nx (gI M 1 6) fun v_1 =>
  ck (okc ((v_1 - (1 : Int32)) * (12 : Int32)) (v_1 * (12 : Int32)) (12 : Int32) 720) (nx (cpI M 6 (ix ((v_1 - (1 : Int32)) * (12 : Int32))) (ix (v_1 * (12 : Int32))) (ix (12 : Int32))) fun M_2 =>
  ck (ok v_1 60) (nx (sI M_2 4 (ix v_1) x1) fun M_3 =>
  nx (sI M_3 1 6 ((gI M_3 1 6) + (1 : Int32))) fun M_4 =>
  some (v_1, M_4)))
/-! X4_gatherFiles -/
def lq_X4_gatherFiles_5 (M : Mem) (x1 : Int32) (rc5 : Int64 → Int32 → Option Mem) (y2 : Int64) (x4 : Int32) : Option Mem :=
  if (12 : Int32) ≤ x4 then
    ck (ok x1 60) (nx (sJ M 5 (ix x1) y2) fun M_1 =>
    some M_1)
  else
  bd1 (fn_X4_namedBy M x1 x4) fun r_2 =>
  bd1 (fn_X5_bitOf r_2) fun r_3 =>
  nx (y2 ||| r_3) fun v_4 =>
  nx (x4 + (1 : Int32)) fun v_5 =>
  rc5 v_4 v_5
def fn_X4_gatherFiles (M : Mem) (x1 : Int32) : Option Mem :=
  it2 (lq_X4_gatherFiles_5 M x1) FU (0 : Int64) (0 : Int32)
/-! X4_addPut -/
def fn_X4_addPut (M : Mem) (x1 : Int32) (x2 : Int32) (x3 : Int32) : Option (Int32 × Mem) :=
  bd1 (fn_X5_isWithin x1 (0 : Int32) (11 : Int32)) fun r_1 =>
  if r_1 = (0 : Int32) then
    some ((-1 : Int32), M)
  else
  bd1 (fn_X4_mayChange M x2) fun r_2 =>
  if r_2 = (0 : Int32) then
    some ((-1 : Int32), M)
  else
  bd1 (fn_X4_latestState M) fun r_3 =>
  bd1 (fn_X4_namedBy M r_3 x1) fun r_4 =>
  if r_4 = x2 then
    some ((-1 : Int32), M)
  else
  bd2 (fn_X4_addState M x3) fun r_6 M_5 =>
  ck (ok ((r_6 * (12 : Int32)) + x1) 720) (nx (sI M_5 6 (ix ((r_6 * (12 : Int32)) + x1)) x2) fun M_7 =>
  bd1 (fn_X4_gatherFiles M_7 r_6) fun M_8 =>
  some (r_6, M_8))
/-! X4_addYank -/
def bk_X4_addYank_72 (rc42 : Mem → Int32 → Option (Int32 × Mem)) (M : Mem) (x1 : Int32) (x3 : Int32) (x4 : Int32) : Option (Int32 × Mem) :=
  nx (x4 + (1 : Int32)) fun v_9 =>
  rc42 M v_9
def lq_X4_addYank_42 (x1 : Int32) (x3 : Int32) (rc42 : Mem → Int32 → Option (Int32 × Mem)) (M : Mem) (x4 : Int32) : Option (Int32 × Mem) :=
  if ((x3 + (1 : Int32)) * (12 : Int32)) ≤ x4 then
    bd1 (fn_X4_gatherFiles M x3) fun M_8 =>
    some (x3, M_8)
  else
  ck (ok x4 720) (
  if (gI M 6 (ix x4)) = x1 then
    ck (ok x4 720) (nx (sI M 6 (ix x4) (-1 : Int32)) fun M_10 =>
    bk_X4_addYank_72 rc42 M_10 x1 x3 x4)
  else
  bk_X4_addYank_72 rc42 M x1 x3 x4)
def fn_X4_addYank (M : Mem) (x1 : Int32) (x2 : Int32) : Option (Int32 × Mem) :=
  bd1 (fn_X4_mayChange M x1) fun r_1 =>
  if r_1 = (0 : Int32) then
    some ((-1 : Int32), M)
  else
  bd1 (fn_X5_bitOf x1) fun r_2 =>
  nx (sJ M 1 7 ((gJ M 1 7) ||| r_2)) fun M_3 =>
  ck (ok x1 60) (nx (sI M_3 3 (ix x1) x2) fun M_4 =>
  bd2 (fn_X4_addState M_4 x2) fun r_6 M_5 =>
  nx (r_6 * (12 : Int32)) fun v_7 =>
  it2 (lq_X4_addYank_42 x1 r_6) FU M_5 v_7)
/-! X4_namesAlike -/
def bk_X4_namesAlike_38 (rc3 : Int32 → Option Int32) (M : Mem) (x1 : Int32) (x2 : Int32) (x3 : Int32) (x4 : Int32) : Option Int32 :=
  nx (x4 + (1 : Int32)) fun v_2 =>
  rc3 v_2
def lq_X4_namesAlike_3 (M : Mem) (x1 : Int32) (x2 : Int32) (x3 : Int32) (rc3 : Int32 → Option Int32) (x4 : Int32) : Option Int32 :=
  if (12 : Int32) ≤ x4 then
    some ((1 : Int32))
  else
  bd1 (fn_X5_isIn x3 x4) fun r_1 =>
  if r_1 = (0 : Int32) then
    bk_X4_namesAlike_38 rc3 M x1 x2 x3 x4
  else
  bd1 (fn_X4_namedBy M x1 x4) fun r_3 =>
  bd1 (fn_X4_namedBy M x2 x4) fun r_4 =>
  if r_3 = r_4 then
    bk_X4_namesAlike_38 rc3 M x1 x2 x3 x4
  else
  some ((0 : Int32))
def fn_X4_namesAlike (M : Mem) (x1 : Int32) (x2 : Int32) (x3 : Int32) : Option Int32 :=
  it1 (lq_X4_namesAlike_3 M x1 x2 x3) FU (0 : Int32)
/-! X4_namesLongYanked -/
def bk_X4_namesLongYanked_59 (rc15 : Int32 → Option Int32) (M : Mem) (x2 : Int32) (x3 : Int32) (y4 : Int64) (x6 : Int32) : Option Int32 :=
  nx (x6 + (1 : Int32)) fun v_4 =>
  rc15 v_4
def lq_X4_namesLongYanked_15 (M : Mem) (x2 : Int32) (x3 : Int32) (y4 : Int64) (rc15 : Int32 → Option Int32) (x6 : Int32) : Option Int32 :=
  if (gI M 1 5) ≤ x6 then
    some ((0 : Int32))
  else
  if (lg_cmp y4 (0 : Int64)) = (0 : Int32) then
    some ((0 : Int32))
  else
  bd1 (fn_X5_bitOf x6) fun r_3 =>
  if (lg_cmp (y4 &&& r_3) (0 : Int64)) = (0 : Int32) then
    bk_X4_namesLongYanked_59 rc15 M x2 x3 y4 x6
  else
  ck (ok x6 60) (
  if (x2 - (gI M 3 (ix x6))) ≤ x3 then
    bk_X4_namesLongYanked_59 rc15 M x2 x3 y4 x6
  else
  some ((1 : Int32)))
def fn_X4_namesLongYanked (M : Mem) (x1 : Int32) (x2 : Int32) (x3 : Int32) : Option Int32 :=
  bd1 (fn_X4_filesOf M x1) fun r_1 =>
  nx (r_1 &&& (gJ M 1 7)) fun v_2 =>
  it1 (lq_X4_namesLongYanked_15 M x2 x3 v_2) FU (0 : Int32)
/-! X4_packagesNamedIn -/
def bk_X4_packagesNamedIn_23 (rc4 : Int32 → Int32 → Option Int32) (M : Mem) (x1 : Int32) (x2 : Int32) (x3 : Int32) : Option Int32 :=
  nx (x3 + (1 : Int32)) fun v_2 =>
  rc4 x2 v_2
def lq_X4_packagesNamedIn_4 (M : Mem) (x1 : Int32) (rc4 : Int32 → Int32 → Option Int32) (x2 : Int32) (x3 : Int32) : Option Int32 :=
  if (12 : Int32) ≤ x3 then
    some (x2)
  else
  bd1 (fn_X4_namedBy M x1 x3) fun r_1 =>
  if r_1 = (-1 : Int32) then
    bk_X4_packagesNamedIn_23 rc4 M x1 x2 x3
  else
  nx (x2 + (1 : Int32)) fun v_3 =>
  bk_X4_packagesNamedIn_23 rc4 M x1 v_3 x3
def fn_X4_packagesNamedIn (M : Mem) (x1 : Int32) : Option Int32 :=
  it2 (lq_X4_packagesNamedIn_4 M x1) FU (0 : Int32) (0 : Int32)
/-! X4_tickOf -/
def fn_X4_tickOf (M : Mem) (x1 : Int32) : Option Int32 :=
  bd1 (fn_X4_hasState M x1) fun r_1 =>
  if r_1 = (0 : Int32) then
    some ((-1 : Int32))
  else
  ck (ok x1 60) (
  some (gI M 4 (ix x1)))
/-! X4_ageOf -/
def fn_X4_ageOf (M : Mem) (x1 : Int32) (x2 : Int32) : Option Int32 :=
  bd1 (fn_X4_hasState M (x1 + (1 : Int32))) fun r_1 =>
  if r_1 = (0 : Int32) then
    some ((0 : Int32))
  else
  ck (ok (x1 + (1 : Int32)) 60) (
  some (x2 - (gI M 4 (ix (x1 + (1 : Int32))))))
/-! X5_file -/
def fn_X5_file (M : Mem) (x1 : Int32) : Option (Int32 × Mem) :=
  bd1 (fn_X5_isWithin x1 (1 : Int32) (500 : Int32)) fun r_1 =>
  if r_1 = (0 : Int32) then
    some ((-1 : Int32), M)
  else
  bd2 (fn_X4_addFile M x1) fun r_3 M_2 =>
  some (r_3, M_2)
/-! X5_put -/
def fn_X5_put (M : Mem) (x1 : Int32) (x2 : Int32) : Option (Int32 × Mem) :=
  bd2 (fn_X4_addPut M x1 x2 (gI M 0 6)) fun r_2 M_1 =>
  some (r_2, M_1)
/-! X5_yank -/
def fn_X5_yank (M : Mem) (x1 : Int32) : Option (Int32 × Mem) :=
  bd2 (fn_X4_addYank M x1 (gI M 0 6)) fun r_2 M_1 =>
  some (r_2, M_1)
/-! X5_names -/
def fn_X5_names (M : Mem) (x1 : Int32) (x2 : Int32) : Option Int32 :=
  bd1 (fn_X4_namedBy M x1 x2) fun r_1 =>
  some (r_1)
/-! X5_state -/
def fn_X5_state (M : Mem) (x1 : Int32) (x2 : Int32) : Option Int32 :=
  bd1 (fn_X4_hasState M x1) fun r_1 =>
  if r_1 = (0 : Int32) then
    some ((-1 : Int32))
  else
  if x2 = (0 : Int32) then
    bd1 (fn_X4_tickOf M x1) fun r_2 =>
    some (r_2)
  else
  if x2 = (1 : Int32) then
    bd1 (fn_X4_ageOf M x1 (gI M 0 6)) fun r_3 =>
    some (r_3)
  else
  if x2 = (2 : Int32) then
    bd1 (fn_X4_packagesNamedIn M x1) fun r_4 =>
    some (r_4)
  else
  if x2 = (3 : Int32) then
    bd1 (fn_X4_filesOf M x1) fun r_5 =>
    bd1 (fn_X4_bytesOf M r_5) fun r_6 =>
    some (r_6)
  else
  some ((-1 : Int32))
/-! X5_mirrorAt -/
def fn_X5_mirrorAt (nm : Nat) (M : Mem) (x1 : Int32) : Option (Option Nat) :=
  bd1 (fn_X5_isWithin x1 (0 : Int32) ((gI M 0 5) - (1 : Int32))) fun r_1 =>
  if r_1 = (0 : Int32) then
    some none
  else
  ck (ok x1 8) (oc (mr nm x1) (
    some none) (fun q_2 =>
    some (some q_2)))
/-! X5_speed -/
def fn_X5_speed (nm : Nat) (M : Mem) (x1 : Int32) (x2 : Int32) : Option (Int32 × Mem) :=
  bd1 (fn_X5_mirrorAt nm M x1) fun o_2 => oc o_2 (
    some ((-1 : Int32), M)) (fun q_1 =>
    bd1 (fn_X5_isWithin x2 (1 : Int32) (1000 : Int32)) fun r_3 =>
    if r_3 = (0 : Int32) then
      some ((-1 : Int32), M)
    else
    nx (gI M (62 + 2 * q_1) 3) fun v_4 =>
    nx (sI M (62 + 2 * q_1) 3 x2) fun M_5 =>
    some (v_4, M_5))
/-! X5_fall -/
def fn_X5_fall (nm : Nat) (M : Mem) (x1 : Int32) (x2 : Int32) (x3 : Int32) : Option (Int32 × Mem) :=
  bd1 (fn_X5_mirrorAt nm M x1) fun o_2 => oc o_2 (
    some ((-1 : Int32), M)) (fun q_1 =>
    bd1 (fn_X5_isWithin x2 (gI M 0 6) (9999 : Int32)) fun r_3 =>
    if r_3 = (0 : Int32) then
      some ((-1 : Int32), M)
    else
    bd1 (fn_X5_isWithin x3 x2 (9999 : Int32)) fun r_4 =>
    if r_4 = (0 : Int32) then
      some ((-1 : Int32), M)
    else
    bd2 (fn_X2_add M x1 x2 x3) fun r_6 M_5 =>
    some (r_6, M_5))
/-! X5_lies -/
def fn_X5_lies (nm : Nat) (M : Mem) (x1 : Int32) (x2 : Int32) : Option (Int32 × Mem) :=
  bd1 (fn_X5_mirrorAt nm M x1) fun o_2 => oc o_2 (
    some ((0 : Int32), M)) (fun q_1 =>
    if (gI M (62 + 2 * q_1) 9) = x2 then
      some ((0 : Int32), M)
    else
    nx (sI M (62 + 2 * q_1) 9 x2) fun M_3 =>
    some ((1 : Int32), M_3))
/-! X5_stepAll -/
def bk_X5_stepAll_120 (rc14 : Mem → Int32 → Option Mem) (nm : Nat) (M : Mem) (x1 : Int32) (x2 : Int32) : Option Mem :=
  nx (x2 + (1 : Int32)) fun v_4 =>
  rc14 M v_4
def lq_X5_stepAll_14 (nm : Nat) (x1 : Int32) (rc14 : Mem → Int32 → Option Mem) (M : Mem) (x2 : Int32) : Option Mem :=
  if (gI M 0 5) ≤ x2 then
    some M
  else
  bd1 (fn_X5_mirrorAt nm M x2) fun o_3 => oc o_3 (
    bk_X5_stepAll_120 rc14 nm M x1 x2) (fun q_2 =>
    bd1 (fn_X5_mirrorAt nm M (gI M (62 + 2 * q_2) 0)) fun o_6 => oc o_6 (
      bd1 (fn_X5_isIn x1 x2) fun r_7 =>
      if r_7 = (0 : Int32) then
        bd1 (fn_X4_latestState M) fun r_8 =>
        bd1 (fn_X4_allFiles M) fun r_9 =>
        bd1 (fn_X3_step M q_2 r_8 r_9) fun M_10 =>
        bk_X5_stepAll_120 rc14 nm M_10 x1 x2
      else
      nx (sI M (62 + 2 * q_2) 7 (0 : Int32)) fun M_11 =>
      bk_X5_stepAll_120 rc14 nm M_11 x1 x2) (fun q_5 =>
      bd1 (fn_X5_isIn x1 x2) fun r_12 =>
      if r_12 = (0 : Int32) then
        bd1 (fn_X5_isIn x1 (gI M (62 + 2 * q_2) 0)) fun r_13 =>
        if r_13 = (0 : Int32) then
          bd1 (fn_X3_step M q_2 (gI M (62 + 2 * q_5) 4) (gJ M (62 + 2 * q_5) 6)) fun M_14 =>
          bk_X5_stepAll_120 rc14 nm M_14 x1 x2
        else
        bk_X5_stepAll_120 rc14 nm M x1 x2
      else
      nx (sI M (62 + 2 * q_2) 7 (0 : Int32)) fun M_15 =>
      bk_X5_stepAll_120 rc14 nm M_15 x1 x2))
def fn_X5_stepAll (nm : Nat) (M : Mem) : Option Mem :=
  bd1 (fn_X2_downAt M (gI M 0 6)) fun r_1 =>
  it2 (lq_X5_stepAll_14 nm r_1) FU M (0 : Int32)
/-! X5_pass -/
def lq_X5_pass_27 (nm : Nat) (x1 : Int32) (rc27 : Mem → Int32 → Option (Int32 × Mem)) (M : Mem) (x2 : Int32) : Option (Int32 × Mem) :=
  if x1 ≤ x2 then
    some (gI M 0 6, M)
  else
  bd1 (fn_X5_stepAll nm M) fun M_2 =>
  nx (sI M_2 0 6 ((gI M_2 0 6) + (1 : Int32))) fun M_3 =>
  nx (x2 + (1 : Int32)) fun v_4 =>
  rc27 M_3 v_4
def fn_X5_pass (nm : Nat) (M : Mem) (x1 : Int32) : Option (Int32 × Mem) :=
  bd1 (fn_X5_isWithin x1 (1 : Int32) (500 : Int32)) fun r_1 =>
  if r_1 = (0 : Int32) then
    some ((-1 : Int32), M)
  else
  if x1 ≤ ((9999 : Int32) - (gI M 0 6)) then
    it2 (lq_X5_pass_27 nm x1) FU M (0 : Int32)
  else
  some ((-1 : Int32), M)
/-! X5_about -/
def fn_X5_about (nm : Nat) (M : Mem) (x1 : Int32) (x2 : Int32) : Option Int32 :=
  bd1 (fn_X5_mirrorAt nm M x1) fun o_2 => oc o_2 (
    some ((-1 : Int32))) (fun q_1 =>
    if x2 = (0 : Int32) then
      some (gI M (62 + 2 * q_1) 4)
    else
    if x2 = (1 : Int32) then
      some (gI M (62 + 2 * q_1) 5)
    else
    if x2 = (2 : Int32) then
      bd1 (fn_J13_bitCount_95d88 (gJ M (62 + 2 * q_1) 6)) fun r_3 =>
      some (r_3)
    else
    if x2 = (3 : Int32) then
      bd1 (fn_X4_bytesOf M (gJ M (62 + 2 * q_1) 6)) fun r_4 =>
      some (r_4)
    else
    if x2 = (4 : Int32) then
      some (gI M (62 + 2 * q_1) 7)
    else
    if x2 = (5 : Int32) then
      some (gI M (62 + 2 * q_1) 8)
    else
    if x2 = (6 : Int32) then
      bd1 (fn_X2_downAt M (gI M 0 6)) fun r_5 =>
      bd1 (fn_X5_isIn r_5 x1) fun r_6 =>
      if r_6 = (0 : Int32) then
        some ((0 : Int32))
      else
      some ((1 : Int32))
    else
    if x2 = (7 : Int32) then
      if (gI M (62 + 2 * q_1) 9) = (0 : Int32) then
        some ((0 : Int32))
      else
      some ((1 : Int32))
    else
    if x2 = (8 : Int32) then
      bd1 (fn_X3_bytesWanted M q_1) fun r_7 =>
      some (r_7)
    else
    some ((-1 : Int32)))
/-! X5_has -/
def fn_X5_has (nm : Nat) (M : Mem) (x1 : Int32) (x2 : Int32) : Option Int32 :=
  bd1 (fn_X5_mirrorAt nm M x1) fun o_2 => oc o_2 (
    some ((-1 : Int32))) (fun q_1 =>
    bd1 (fn_X4_hasFile M x2) fun r_3 =>
    if r_3 = (0 : Int32) then
      some ((-1 : Int32))
    else
    bd1 (fn_X3_holds M q_1 x2) fun r_4 =>
    if r_4 = (0 : Int32) then
      some ((0 : Int32))
    else
    some ((1 : Int32)))
/-! X5_askerAt -/
def fn_X5_askerAt (nm : Nat) (M : Mem) (x1 : Int32) : Option (Option Nat) :=
  bd1 (fn_X5_isWithin x1 (0 : Int32) (5 : Int32)) fun r_1 =>
  if r_1 = (0 : Int32) then
    some none
  else
  ck (ok x1 6) (
  some (some (ix x1)))
/-! X5_cost -/
def bk_X5_cost_30 (nm : Nat) (M : Mem) : Option (Int32 × Mem) :=
  some ((-2 : Int32), M)
def fn_X5_cost (nm : Nat) (M : Mem) (x1 : Int32) (x2 : Int32) (x3 : Int32) : Option (Int32 × Mem) :=
  bd1 (fn_X5_askerAt nm M x1) fun o_2 => oc o_2 (
    bk_X5_cost_30 nm M) (fun q_1 =>
    bd1 (fn_X5_mirrorAt nm M x2) fun o_4 => oc o_4 (
      bk_X5_cost_30 nm M) (fun q_3 =>
      bd1 (fn_X5_isWithin x3 (-1 : Int32) (100 : Int32)) fun r_5 =>
      if r_5 = (0 : Int32) then
        bk_X5_cost_30 nm M
      else
      bd1 (fn_X0_costOf M q_1 x2) fun r_6 =>
      bd1 (fn_X0_setCost M q_1 x2 x3) fun M_7 =>
      some (r_6, M_7)))
/-! X5_bears -/
def fn_X5_bears (nm : Nat) (M : Mem) (x1 : Int32) (x2 : Int32) : Option (Int32 × Mem) :=
  bd1 (fn_X5_askerAt nm M x1) fun o_2 => oc o_2 (
    some ((-1 : Int32), M)) (fun q_1 =>
    bd1 (fn_X5_isWithin x2 (0 : Int32) (9999 : Int32)) fun r_3 =>
    if r_3 = (0 : Int32) then
      some ((-1 : Int32), M)
    else
    nx (gI M (13 + 3 * q_1) 3) fun v_4 =>
    nx (sI M (13 + 3 * q_1) 3 x2) fun M_5 =>
    some (v_4, M_5))
/-! X5_grace -/
def fn_X5_grace (M : Mem) (x1 : Int32) : Option (Int32 × Mem) :=
  bd1 (fn_X5_isWithin x1 (0 : Int32) (9999 : Int32)) fun r_1 =>
  if r_1 = (0 : Int32) then
    some ((-1 : Int32), M)
  else
  nx (gI M 0 7) fun v_2 =>
  nx (sI M 0 7 x1) fun M_3 =>
  some (v_2, M_3)
/-! J6_bitCount_0f7a4 -/
def fn_J6_bitCount_0f7a4 (x0 : Int32) : Option Int32 :=
  nx (x0 - (((x0.toUInt32 >>> ((1 : Int32).toUInt32 &&& Int32.toUInt32 31)).toInt32) &&& (1431655765 : Int32))) fun v_1 =>
  nx ((v_1 &&& (858993459 : Int32)) + (((v_1.toUInt32 >>> ((2 : Int32).toUInt32 &&& Int32.toUInt32 31)).toInt32) &&& (858993459 : Int32))) fun v_2 =>
  nx ((v_2 + ((v_2.toUInt32 >>> ((4 : Int32).toUInt32 &&& Int32.toUInt32 31)).toInt32)) &&& (252645135 : Int32)) fun v_3 =>
  nx (v_3 + ((v_3.toUInt32 >>> ((8 : Int32).toUInt32 &&& Int32.toUInt32 31)).toInt32)) fun v_4 =>
  nx (v_4 + ((v_4.toUInt32 >>> ((16 : Int32).toUInt32 &&& Int32.toUInt32 31)).toInt32)) fun v_5 =>
  some (v_5 &&& (63 : Int32))
/-! X5_forgives -/
def fn_X5_forgives (nm : Nat) (M : Mem) (x1 : Int32) : Option (Int32 × Mem) :=
  bd1 (fn_X5_askerAt nm M x1) fun o_2 => oc o_2 (
    some ((-1 : Int32), M)) (fun q_1 =>
    bd1 (fn_J6_bitCount_0f7a4 (gI M (13 + 3 * q_1) 5)) fun r_3 =>
    nx (sI M (13 + 3 * q_1) 5 (0 : Int32)) fun M_4 =>
    some (r_3, M_4))
/-! X5_suits -/
def fn_X5_suits (M : Mem) (x1 : Int32) (x2 : Int32) (x3 : Int32) : Option Int32 :=
  if x1 < x3 then
    some ((0 : Int32))
  else
  bd1 (fn_X4_ageOf M x1 (gI M 0 6)) fun r_1 =>
  if x2 < r_1 then
    some ((0 : Int32))
  else
  bd1 (fn_X4_namesLongYanked M x1 (gI M 0 6) (gI M 0 7)) fun r_2 =>
  if r_2 = (0 : Int32) then
    some ((1 : Int32))
  else
  some ((0 : Int32))
/-! X5_findIndex -/
def bk_X5_findIndex_110 (rc2 : Mem → Int32 → Option (Int32 × Mem)) (nm : Nat) (M : Mem) (n1 : Nat) (x2 : Int32) (x3 : Int32) : Option (Int32 × Mem) :=
  nx (x3 + (1 : Int32)) fun v_4 =>
  rc2 M v_4
def lq_X5_findIndex_2 (nm : Nat) (n1 : Nat) (x2 : Int32) (rc2 : Mem → Int32 → Option (Int32 × Mem)) (M : Mem) (x3 : Int32) : Option (Int32 × Mem) :=
  if (gI M (13 + 3 * n1) 2) ≤ x3 then
    some ((-1 : Int32), M)
  else
  bd1 (fn_X0_inLine M n1 x3) fun r_1 =>
  bd1 (fn_X5_mirrorAt nm M r_1) fun o_3 => oc o_3 (
    bk_X5_findIndex_110 rc2 nm M n1 x2 x3) (fun q_2 =>
    bd1 (fn_X0_knowsAsBad M n1 r_1) fun r_5 =>
    if r_5 = (0 : Int32) then
      bd1 (fn_X0_costOf M n1 r_1) fun r_6 =>
      bd1 (fn_X1_spend M r_6) fun M_7 =>
      bd1 (fn_X5_isIn x2 r_1) fun r_8 =>
      if r_8 = (0 : Int32) then
        if (gI M_7 (62 + 2 * q_2) 9) = (0 : Int32) then
          bd1 (fn_X5_suits M_7 (gI M_7 (62 + 2 * q_2) 4) (gI M_7 (13 + 3 * n1) 3) (gI M_7 (13 + 3 * n1) 4)) fun r_9 =>
          if r_9 = (0 : Int32) then
            bk_X5_findIndex_110 rc2 nm M_7 n1 x2 x3
          else
          some (gI M_7 (62 + 2 * q_2) 4, M_7)
        else
        bd1 (fn_X0_markBad M_7 n1 r_1) fun M_10 =>
        bk_X5_findIndex_110 rc2 nm M_10 n1 x2 x3
      else
      bk_X5_findIndex_110 rc2 nm M_7 n1 x2 x3
    else
    bk_X5_findIndex_110 rc2 nm M n1 x2 x3)
def fn_X5_findIndex (nm : Nat) (M : Mem) (n1 : Nat) (x2 : Int32) : Option (Int32 × Mem) :=
  it2 (lq_X5_findIndex_2 nm n1 x2) FU M (0 : Int32)
/-! X5_firstNotNamed -/
def bk_X5_firstNotNamed_31 (rc2 : Int32 → Option Int32) (M : Mem) (x1 : Int32) (x2 : Int32) (x3 : Int32) : Option Int32 :=
  nx (x3 + (1 : Int32)) fun v_2 =>
  rc2 v_2
def lq_X5_firstNotNamed_2 (M : Mem) (x1 : Int32) (x2 : Int32) (rc2 : Int32 → Option Int32) (x3 : Int32) : Option Int32 :=
  if (12 : Int32) ≤ x3 then
    some ((-1 : Int32))
  else
  bd1 (fn_X5_isIn x2 x3) fun r_1 =>
  if r_1 = (0 : Int32) then
    bk_X5_firstNotNamed_31 rc2 M x1 x2 x3
  else
  bd1 (fn_X4_namedBy M x1 x3) fun r_3 =>
  if r_3 = (-1 : Int32) then
    some (x3)
  else
  bk_X5_firstNotNamed_31 rc2 M x1 x2 x3
def fn_X5_firstNotNamed (M : Mem) (x1 : Int32) (x2 : Int32) : Option Int32 :=
  it1 (lq_X5_firstNotNamed_2 M x1 x2) FU (0 : Int32)
/-! X5_findGiver -/
def bk_X5_findGiver_96 (rc3 : Mem → Int32 → Option (Int32 × Mem)) (nm : Nat) (M : Mem) (n1 : Nat) (x2 : Int32) (x3 : Int32) (x4 : Int32) : Option (Int32 × Mem) :=
  nx (x4 + (1 : Int32)) fun v_4 =>
  rc3 M v_4
def lq_X5_findGiver_3 (nm : Nat) (n1 : Nat) (x2 : Int32) (x3 : Int32) (rc3 : Mem → Int32 → Option (Int32 × Mem)) (M : Mem) (x4 : Int32) : Option (Int32 × Mem) :=
  if (gI M (13 + 3 * n1) 2) ≤ x4 then
    some ((-1 : Int32), M)
  else
  bd1 (fn_X0_inLine M n1 x4) fun r_1 =>
  bd1 (fn_X5_mirrorAt nm M r_1) fun o_3 => oc o_3 (
    bk_X5_findGiver_96 rc3 nm M n1 x2 x3 x4) (fun q_2 =>
    bd1 (fn_X0_knowsAsBad M n1 r_1) fun r_5 =>
    if r_5 = (0 : Int32) then
      bd1 (fn_X0_costOf M n1 r_1) fun r_6 =>
      bd1 (fn_X1_spend M r_6) fun M_7 =>
      bd1 (fn_X5_isIn x3 r_1) fun r_8 =>
      if r_8 = (0 : Int32) then
        bd1 (fn_X3_holds M_7 q_2 x2) fun r_9 =>
        if r_9 = (0 : Int32) then
          bk_X5_findGiver_96 rc3 nm M_7 n1 x2 x3 x4
        else
        if (gI M_7 (62 + 2 * q_2) 9) = (0 : Int32) then
          some (r_1, M_7)
        else
        bd1 (fn_X0_markBad M_7 n1 r_1) fun M_10 =>
        bk_X5_findGiver_96 rc3 nm M_10 n1 x2 x3 x4
      else
      bk_X5_findGiver_96 rc3 nm M_7 n1 x2 x3 x4
    else
    bk_X5_findGiver_96 rc3 nm M n1 x2 x3 x4)
def fn_X5_findGiver (nm : Nat) (M : Mem) (n1 : Nat) (x2 : Int32) (x3 : Int32) : Option (Int32 × Mem) :=
  it2 (lq_X5_findGiver_3 nm n1 x2 x3) FU M (0 : Int32)
/-! X5_getFiles -/
def bk_X5_getFiles_72 (rc3 : Mem → Int32 → Option (Int32 × Mem)) (nm : Nat) (M : Mem) (n1 : Nat) (x2 : Int32) (x3 : Int32) (x4 : Int32) : Option (Int32 × Mem) :=
  nx (x4 + (1 : Int32)) fun v_6 =>
  rc3 M v_6
def lq_X5_getFiles_3 (nm : Nat) (n1 : Nat) (x2 : Int32) (x3 : Int32) (rc3 : Mem → Int32 → Option (Int32 × Mem)) (M : Mem) (x4 : Int32) : Option (Int32 × Mem) :=
  if (12 : Int32) ≤ x4 then
    some ((-1 : Int32), M)
  else
  bd1 (fn_X5_isIn x2 x4) fun r_1 =>
  if r_1 = (0 : Int32) then
    bk_X5_getFiles_72 rc3 nm M n1 x2 x3 x4
  else
  bd1 (fn_X4_namedBy M (gI M 31 4) x4) fun r_2 =>
  bd2 (fn_X5_findGiver nm M n1 r_2 x3) fun r_4 M_3 =>
  if r_4 = (-1 : Int32) then
    some (x4, M_3)
  else
  bd1 (fn_X1_keepGot M_3 r_2 x4 r_4) fun M_5 =>
  bk_X5_getFiles_72 rc3 nm M_5 n1 x2 x3 x4
def fn_X5_getFiles (nm : Nat) (M : Mem) (n1 : Nat) (x2 : Int32) (x3 : Int32) : Option (Int32 × Mem) :=
  it2 (lq_X5_getFiles_3 nm n1 x2 x3) FU M (0 : Int32)
/-! X5_carryOut -/
def fn_X5_carryOut (nm : Nat) (M : Mem) (n1 : Nat) (x2 : Int32) (x3 : Int32) : Option (Int32 × Mem) :=
  bd2 (fn_X5_findIndex nm M n1 x3) fun r_2 M_1 =>
  nx (sI M_1 31 4 r_2) fun M_3 =>
  if (gI M_3 31 4) = (-1 : Int32) then
    some ((1 : Int32), M_3)
  else
  nx (sI M_3 (13 + 3 * n1) 4 (gI M_3 31 4)) fun M_4 =>
  bd1 (fn_X5_firstNotNamed M_4 (gI M_4 31 4) x2) fun r_5 =>
  nx (sI M_4 31 8 r_5) fun M_6 =>
  if (gI M_6 31 8) = (-1 : Int32) then
    bd2 (fn_X5_getFiles nm M_6 n1 x2 x3) fun r_8 M_7 =>
    nx (sI M_7 31 8 r_8) fun M_9 =>
    if (gI M_9 31 8) = (-1 : Int32) then
      some ((0 : Int32), M_9)
    else
    some ((3 : Int32), M_9)
  else
  some ((2 : Int32), M_6)
/-! X5_wouldAnswer -/
def fn_X5_wouldAnswer (M : Mem) (n0 : Nat) (n1 : Nat) (x2 : Int32) (x3 : Int32) : Option Int32 :=
  bd1 (fn_X0_costOf M n0 x2) fun r_1 =>
  if r_1 = (-1 : Int32) then
    some ((0 : Int32))
  else
  bd1 (fn_X5_isIn x3 x2) fun r_2 =>
  if r_2 = (0 : Int32) then
    if (gI M (62 + 2 * n1) 9) = (0 : Int32) then
      some ((1 : Int32))
    else
    some ((0 : Int32))
  else
  some ((0 : Int32))
/-! X5_leastForIndex -/
def bk_X5_leastForIndex_95 (rc7 : Int32 → Int32 → Option Int32) (nm : Nat) (M : Mem) (n1 : Nat) (x2 : Int32) (x3 : Int32) (x4 : Int32) (x5 : Int32) (x6 : Int32) : Option Int32 :=
  nx (x6 + (1 : Int32)) fun v_3 =>
  rc7 x5 v_3
def lq_X5_leastForIndex_7 (nm : Nat) (M : Mem) (n1 : Nat) (x2 : Int32) (x3 : Int32) (x4 : Int32) (rc7 : Int32 → Int32 → Option Int32) (x5 : Int32) (x6 : Int32) : Option Int32 :=
  if (gI M 0 5) ≤ x6 then
    some (x5)
  else
  bd1 (fn_X5_mirrorAt nm M x6) fun o_2 => oc o_2 (
    bk_X5_leastForIndex_95 rc7 nm M n1 x2 x3 x4 x5 x6) (fun q_1 =>
    bd1 (fn_X5_wouldAnswer M n1 q_1 x6 x4) fun r_4 =>
    if r_4 = (0 : Int32) then
      bk_X5_leastForIndex_95 rc7 nm M n1 x2 x3 x4 x5 x6
    else
    bd1 (fn_X5_suits M (gI M (62 + 2 * q_1) 4) (gI M (13 + 3 * n1) 3) x3) fun r_5 =>
    if r_5 = (0 : Int32) then
      bk_X5_leastForIndex_95 rc7 nm M n1 x2 x3 x4 x5 x6
    else
    bd1 (fn_X4_namesAlike M (gI M (62 + 2 * q_1) 4) (gI M 31 4) x2) fun r_6 =>
    if r_6 = (0 : Int32) then
      bk_X5_leastForIndex_95 rc7 nm M n1 x2 x3 x4 x5 x6
    else
    bd1 (fn_X0_costOf M n1 x6) fun r_7 =>
    nx (if r_7 < x5 then r_7 else x5) fun v_8 =>
    bk_X5_leastForIndex_95 rc7 nm M n1 x2 x3 x4 v_8 x6)
def fn_X5_leastForIndex (nm : Nat) (M : Mem) (n1 : Nat) (x2 : Int32) (x3 : Int32) (x4 : Int32) : Option Int32 :=
  it2 (lq_X5_leastForIndex_7 nm M n1 x2 x3 x4) FU (100 : Int32) (0 : Int32)
/-! X5_leastForFile -/
def bk_X5_leastForFile_63 (rc7 : Int32 → Int32 → Option Int32) (nm : Nat) (M : Mem) (n1 : Nat) (x2 : Int32) (x3 : Int32) (x4 : Int32) (x5 : Int32) : Option Int32 :=
  nx (x5 + (1 : Int32)) fun v_3 =>
  rc7 x4 v_3
def lq_X5_leastForFile_7 (nm : Nat) (M : Mem) (n1 : Nat) (x2 : Int32) (x3 : Int32) (rc7 : Int32 → Int32 → Option Int32) (x4 : Int32) (x5 : Int32) : Option Int32 :=
  if (gI M 0 5) ≤ x5 then
    some (x4)
  else
  bd1 (fn_X5_mirrorAt nm M x5) fun o_2 => oc o_2 (
    bk_X5_leastForFile_63 rc7 nm M n1 x2 x3 x4 x5) (fun q_1 =>
    bd1 (fn_X5_wouldAnswer M n1 q_1 x5 x3) fun r_4 =>
    if r_4 = (0 : Int32) then
      bk_X5_leastForFile_63 rc7 nm M n1 x2 x3 x4 x5
    else
    bd1 (fn_X3_holds M q_1 x2) fun r_5 =>
    if r_5 = (0 : Int32) then
      bk_X5_leastForFile_63 rc7 nm M n1 x2 x3 x4 x5
    else
    bd1 (fn_X0_costOf M n1 x5) fun r_6 =>
    nx (if r_6 < x4 then r_6 else x4) fun v_7 =>
    bk_X5_leastForFile_63 rc7 nm M n1 x2 x3 v_7 x5)
def fn_X5_leastForFile (nm : Nat) (M : Mem) (n1 : Nat) (x2 : Int32) (x3 : Int32) : Option Int32 :=
  it2 (lq_X5_leastForFile_7 nm M n1 x2 x3) FU (100 : Int32) (0 : Int32)
/-! X5_foresee -/
def bk_X5_foresee_58 (rc14 : Int32 → Int32 → Option Int32) (nm : Nat) (M : Mem) (n1 : Nat) (x2 : Int32) (x4 : Int32) (x5 : Int32) (x6 : Int32) : Option Int32 :=
  nx (x6 + (1 : Int32)) fun v_3 =>
  rc14 x5 v_3
def lq_X5_foresee_14 (nm : Nat) (M : Mem) (n1 : Nat) (x2 : Int32) (x4 : Int32) (rc14 : Int32 → Int32 → Option Int32) (x5 : Int32) (x6 : Int32) : Option Int32 :=
  if (12 : Int32) ≤ x6 then
    some (x5)
  else
  bd1 (fn_X5_isIn x2 x6) fun r_2 =>
  if r_2 = (0 : Int32) then
    bk_X5_foresee_58 rc14 nm M n1 x2 x4 x5 x6
  else
  bd1 (fn_X4_namedBy M (gI M 31 4) x6) fun r_4 =>
  bd1 (fn_X5_leastForFile nm M n1 r_4 x4) fun r_5 =>
  nx (x5 + r_5) fun v_6 =>
  bk_X5_foresee_58 rc14 nm M n1 x2 x4 v_6 x6
def fn_X5_foresee (nm : Nat) (M : Mem) (n1 : Nat) (x2 : Int32) (x3 : Int32) (x4 : Int32) : Option Int32 :=
  bd1 (fn_X5_leastForIndex nm M n1 x2 x3 x4) fun r_1 =>
  it2 (lq_X5_foresee_14 nm M n1 x2 x4) FU r_1 (0 : Int32)
/-! X5_ask -/
def bk_X5_ask_85 (nm : Nat) (M : Mem) (x6 : Int32) : Option (Int32 × Mem) :=
  some (x6, M)
def fn_X5_ask (nm : Nat) (M : Mem) (x1 : Int32) (x2 : Int32) : Option (Int32 × Mem) :=
  bd1 (fn_X5_askerAt nm M x1) fun o_2 => oc o_2 (
    some ((-1 : Int32), M)) (fun q_1 =>
    bd1 (fn_X5_isWithin x2 (1 : Int32) (4095 : Int32)) fun r_3 =>
    if r_3 = (0 : Int32) then
      some ((-1 : Int32), M)
    else
    nx (gI M (13 + 3 * q_1) 4) fun v_4 =>
    bd1 (fn_X2_downAt M (gI M 0 6)) fun r_5 =>
    bd1 (fn_X1_begin M) fun M_6 =>
    bd1 (fn_X0_lineUp M_6 q_1) fun M_7 =>
    bd2 (fn_X5_carryOut nm M_7 q_1 x2 r_5) fun r_9 M_8 =>
    if r_9 = (0 : Int32) then
      bd1 (fn_X5_foresee nm M_8 q_1 x2 v_4 r_5) fun r_10 =>
      nx (sI M_8 31 9 r_10) fun M_11 =>
      bk_X5_ask_85 nm M_11 r_9
    else
    bk_X5_ask_85 nm M_8 r_9)
/-! X5_asked -/
def fn_X5_asked (M : Mem) (x1 : Int32) : Option Int32 :=
  if (gI M 31 3) = (0 : Int32) then
    some ((-1 : Int32))
  else
  if x1 = (0 : Int32) then
    some (gI M 31 4)
  else
  if x1 = (1 : Int32) then
    some (gI M 31 5)
  else
  if x1 = (2 : Int32) then
    some (gI M 31 6)
  else
  if x1 = (3 : Int32) then
    some (gI M 31 7)
  else
  if x1 = (4 : Int32) then
    some (gI M 31 8)
  else
  if x1 = (5 : Int32) then
    some (gI M 31 9)
  else
  some ((-1 : Int32))
/-! X5_got -/
def fn_X5_got (M : Mem) (x1 : Int32) (x2 : Int32) : Option Int32 :=
  bd1 (fn_X1_gotten M x1 x2) fun r_1 =>
  some (r_1)
/-! X5_asker -/
def fn_X5_asker (nm : Nat) (M : Mem) (x1 : Int32) (x2 : Int32) : Option Int32 :=
  bd1 (fn_X5_askerAt nm M x1) fun o_2 => oc o_2 (
    some ((-1 : Int32))) (fun q_1 =>
    if x2 = (0 : Int32) then
      some (gI M (13 + 3 * q_1) 4)
    else
    if x2 = (1 : Int32) then
      some (gI M (13 + 3 * q_1) 3)
    else
    if x2 = (2 : Int32) then
      some (gI M (13 + 3 * q_1) 5)
    else
    some ((-1 : Int32)))
/-! X5_count -/
def fn_X5_count (M : Mem) (x1 : Int32) : Option Int32 :=
  if x1 = (0 : Int32) then
    some (gI M 0 6)
  else
  if x1 = (1 : Int32) then
    some (gI M 1 5)
  else
  if x1 = (2 : Int32) then
    some (gI M 1 6)
  else
  if x1 = (3 : Int32) then
    some (gI M 0 5)
  else
  if x1 = (4 : Int32) then
    some (gI M 7 3)
  else
  if x1 = (5 : Int32) then
    some (gI M 0 7)
  else
  if x1 = (6 : Int32) then
    bd1 (fn_J13_bitCount_95d88 (gJ M 1 7)) fun r_1 =>
    some (r_1)
  else
  some ((-1 : Int32))
/-! X6_in -/
def fn_X6_in (x0 : Int32) (x1 : Int32) (x2 : Int32) : Option Int32 :=
  if x0 < x1 then
    some ((0 : Int32))
  else
  if x2 < x0 then
    some ((0 : Int32))
  else
  some ((1 : Int32))
/-! X6_file -/
def fn_X6_file (M : Mem) (x1 : Int32) : Option (Int32 × Mem) :=
  if (gI M 35 1) = (60 : Int32) then
    some ((-1 : Int32), M)
  else
  bd1 (fn_X6_in x1 (1 : Int32) (500 : Int32)) fun r_1 =>
  if r_1 = (0 : Int32) then
    some ((-1 : Int32), M)
  else
  ck (ok (gI M 35 1) 60) (nx (sI M 36 (ix (gI M 35 1)) x1) fun M_2 =>
  ck (ok (gI M_2 35 1) 60) (nx (sI M_2 37 (ix (gI M_2 35 1)) (-1 : Int32)) fun M_3 =>
  nx (sI M_3 35 1 ((gI M_3 35 1) + (1 : Int32))) fun M_4 =>
  some ((gI M_4 35 1) - (1 : Int32), M_4)))
/-! X6_isFile -/
def fn_X6_isFile (M : Mem) (x1 : Int32) : Option Int32 :=
  bd1 (fn_X6_in x1 (0 : Int32) ((gI M 35 1) - (1 : Int32))) fun r_1 =>
  some (r_1)
/-! X6_comes -/
def lq_X6_comes_2 (rc2 : Mem → Int32 → Option Mem) (M : Mem) (x1 : Int32) : Option Mem :=
  if (12 : Int32) ≤ x1 then
    ck (ok (gI M 35 4) 60) (nx (sI M 38 (ix (gI M 35 4)) (gI M 35 0)) fun M_1 =>
    nx (sI M_1 35 4 ((gI M_1 35 4) + (1 : Int32))) fun M_2 =>
    some M_2)
  else
  ck (ok (((12 : Int32) * ((gI M 35 4) - (1 : Int32))) + x1) 720) (
  ck (ok (((12 : Int32) * (gI M 35 4)) + x1) 720) (nx (sI M 39 (ix (((12 : Int32) * (gI M 35 4)) + x1)) (gI M 39 (ix (((12 : Int32) * ((gI M 35 4) - (1 : Int32))) + x1)))) fun M_3 =>
  nx (x1 + (1 : Int32)) fun v_4 =>
  rc2 M_3 v_4))
def fn_X6_comes (M : Mem) : Option Mem :=
  it2 (lq_X6_comes_2) FU M (0 : Int32)
/-! X6_put -/
def fn_X6_put (M : Mem) (x1 : Int32) (x2 : Int32) : Option (Int32 × Mem) :=
  if (gI M 35 4) = (60 : Int32) then
    some ((-1 : Int32), M)
  else
  bd1 (fn_X6_in x1 (0 : Int32) (11 : Int32)) fun r_1 =>
  if r_1 = (0 : Int32) then
    some ((-1 : Int32), M)
  else
  bd1 (fn_X6_isFile M x2) fun r_2 =>
  if r_2 = (0 : Int32) then
    some ((-1 : Int32), M)
  else
  ck (ok x2 60) (
  if (gI M 37 (ix x2)) = (-1 : Int32) then
    ck (ok (((12 : Int32) * ((gI M 35 4) - (1 : Int32))) + x1) 720) (
    if (gI M 39 (ix (((12 : Int32) * ((gI M 35 4) - (1 : Int32))) + x1))) = x2 then
      some ((-1 : Int32), M)
    else
    bd1 (fn_X6_comes M) fun M_3 =>
    ck (ok (((12 : Int32) * ((gI M_3 35 4) - (1 : Int32))) + x1) 720) (nx (sI M_3 39 (ix (((12 : Int32) * ((gI M_3 35 4) - (1 : Int32))) + x1)) x2) fun M_4 =>
    some ((gI M_4 35 4) - (1 : Int32), M_4)))
  else
  some ((-1 : Int32), M))
/-! X6_yank -/
def bk_X6_yank_88 (rc45 : Mem → Int32 → Option (Int32 × Mem)) (M : Mem) (x1 : Int32) (x2 : Int32) : Option (Int32 × Mem) :=
  nx (x2 + (1 : Int32)) fun v_4 =>
  rc45 M v_4
def lq_X6_yank_45 (x1 : Int32) (rc45 : Mem → Int32 → Option (Int32 × Mem)) (M : Mem) (x2 : Int32) : Option (Int32 × Mem) :=
  if (12 : Int32) ≤ x2 then
    some ((gI M 35 4) - (1 : Int32), M)
  else
  ck (ok (((12 : Int32) * ((gI M 35 4) - (1 : Int32))) + x2) 720) (
  if (gI M 39 (ix (((12 : Int32) * ((gI M 35 4) - (1 : Int32))) + x2))) = x1 then
    ck (ok (((12 : Int32) * ((gI M 35 4) - (1 : Int32))) + x2) 720) (nx (sI M 39 (ix (((12 : Int32) * ((gI M 35 4) - (1 : Int32))) + x2)) (-1 : Int32)) fun M_5 =>
    bk_X6_yank_88 rc45 M_5 x1 x2)
  else
  bk_X6_yank_88 rc45 M x1 x2)
def fn_X6_yank (M : Mem) (x1 : Int32) : Option (Int32 × Mem) :=
  if (gI M 35 4) = (60 : Int32) then
    some ((-1 : Int32), M)
  else
  bd1 (fn_X6_isFile M x1) fun r_1 =>
  if r_1 = (0 : Int32) then
    some ((-1 : Int32), M)
  else
  ck (ok x1 60) (
  if (gI M 37 (ix x1)) = (-1 : Int32) then
    bd1 (fn_X6_comes M) fun M_2 =>
    ck (ok x1 60) (nx (sI M_2 37 (ix x1) (gI M_2 35 0)) fun M_3 =>
    it2 (lq_X6_yank_45 x1) FU M_3 (0 : Int32))
  else
  some ((-1 : Int32), M))
/-! X6_mirror -/
def fn_X6_mirror (M : Mem) (x1 : Int32) (x2 : Int32) (x3 : Int32) : Option (Int32 × Mem) :=
  if (gI M 35 7) = (8 : Int32) then
    some ((-1 : Int32), M)
  else
  bd1 (fn_X6_in x1 (-1 : Int32) ((gI M 35 7) - (1 : Int32))) fun r_1 =>
  if r_1 = (0 : Int32) then
    some ((-1 : Int32), M)
  else
  bd1 (fn_X6_in x2 (1 : Int32) (1000 : Int32)) fun r_2 =>
  if r_2 = (0 : Int32) then
    some ((-1 : Int32), M)
  else
  bd1 (fn_X6_in x3 (0 : Int32) (3 : Int32)) fun r_3 =>
  if r_3 = (0 : Int32) then
    some ((-1 : Int32), M)
  else
  ck (ok (gI M 35 7) 8) (nx (sI M 40 (ix (gI M 35 7)) x1) fun M_4 =>
  ck (ok (gI M_4 35 7) 8) (nx (sI M_4 41 (ix (gI M_4 35 7)) x2) fun M_5 =>
  ck (ok (gI M_5 35 7) 8) (nx (sI M_5 42 (ix (gI M_5 35 7)) x3) fun M_6 =>
  ck (ok (gI M_6 35 7) 8) (nx (sI M_6 44 (ix (gI M_6 35 7)) (-1 : Int32)) fun M_7 =>
  nx (sI M_7 35 7 ((gI M_7 35 7) + (1 : Int32))) fun M_8 =>
  some ((gI M_8 35 7) - (1 : Int32), M_8)))))
/-! X6_isMirror -/
def fn_X6_isMirror (M : Mem) (x1 : Int32) : Option Int32 :=
  bd1 (fn_X6_in x1 (0 : Int32) ((gI M 35 7) - (1 : Int32))) fun r_1 =>
  some (r_1)
/-! X6_speed -/
def fn_X6_speed (M : Mem) (x1 : Int32) (x2 : Int32) : Option (Int32 × Mem) :=
  bd1 (fn_X6_isMirror M x1) fun r_1 =>
  if r_1 = (0 : Int32) then
    some ((-1 : Int32), M)
  else
  bd1 (fn_X6_in x2 (1 : Int32) (1000 : Int32)) fun r_2 =>
  if r_2 = (0 : Int32) then
    some ((-1 : Int32), M)
  else
  ck (ok x1 8) (
  nx (gI M 41 (ix x1)) fun v_3 =>
  ck (ok x1 8) (nx (sI M 41 (ix x1) x2) fun M_4 =>
  some (v_3, M_4)))
/-! X6_fall -/
def fn_X6_fall (M : Mem) (x1 : Int32) (x2 : Int32) (x3 : Int32) : Option (Int32 × Mem) :=
  if (gI M 35 19) = (40 : Int32) then
    some ((-1 : Int32), M)
  else
  bd1 (fn_X6_isMirror M x1) fun r_1 =>
  if r_1 = (0 : Int32) then
    some ((-1 : Int32), M)
  else
  bd1 (fn_X6_in x2 (gI M 35 0) x3) fun r_2 =>
  if r_2 = (0 : Int32) then
    some ((-1 : Int32), M)
  else
  bd1 (fn_X6_in x3 (0 : Int32) (9999 : Int32)) fun r_3 =>
  if r_3 = (0 : Int32) then
    some ((-1 : Int32), M)
  else
  ck (ok (gI M 35 19) 40) (nx (sI M 51 (ix (gI M 35 19)) x1) fun M_4 =>
  ck (ok (gI M_4 35 19) 40) (nx (sI M_4 52 (ix (gI M_4 35 19)) x2) fun M_5 =>
  ck (ok (gI M_5 35 19) 40) (nx (sI M_5 53 (ix (gI M_5 35 19)) x3) fun M_6 =>
  nx (sI M_6 35 19 ((gI M_6 35 19) + (1 : Int32))) fun M_7 =>
  some (gI M_7 35 19, M_7))))
/-! X6_lies -/
def fn_X6_lies (M : Mem) (x1 : Int32) (x2 : Int32) : Option (Int32 × Mem) :=
  bd1 (fn_X6_isMirror M x1) fun r_1 =>
  if r_1 = (0 : Int32) then
    some ((0 : Int32), M)
  else
  ck (ok x1 8) (
  if (gI M 47 (ix x1)) = x2 then
    some ((0 : Int32), M)
  else
  ck (ok x1 8) (nx (sI M 47 (ix x1) (zb x2)) fun M_2 =>
  some ((1 : Int32), M_2)))
/-! X6_isFallen -/
def bk_X6_isFallen_48 (rc2 : Int32 → Option Int32) (M : Mem) (x1 : Int32) (x2 : Int32) : Option Int32 :=
  nx (x2 + (1 : Int32)) fun v_1 =>
  rc2 v_1
def lq_X6_isFallen_2 (M : Mem) (x1 : Int32) (rc2 : Int32 → Option Int32) (x2 : Int32) : Option Int32 :=
  if (gI M 35 19) ≤ x2 then
    some ((0 : Int32))
  else
  ck (ok x2 40) (
  if (gI M 51 (ix x2)) = x1 then
    ck (ok x2 40) (
    if (gI M 35 0) < (gI M 52 (ix x2)) then
      bk_X6_isFallen_48 rc2 M x1 x2
    else
    ck (ok x2 40) (
    if (gI M 53 (ix x2)) < (gI M 35 0) then
      bk_X6_isFallen_48 rc2 M x1 x2
    else
    some ((1 : Int32))))
  else
  bk_X6_isFallen_48 rc2 M x1 x2)
def fn_X6_isFallen (M : Mem) (x1 : Int32) : Option Int32 :=
  it1 (lq_X6_isFallen_2 M x1) FU (0 : Int32)
/-! X6_isNamed -/
def lq_X6_isNamed_2 (M : Mem) (x1 : Int32) (x2 : Int32) (rc2 : Int32 → Option Int32) (x3 : Int32) : Option Int32 :=
  if (12 : Int32) ≤ x3 then
    some ((0 : Int32))
  else
  ck (ok (((12 : Int32) * x1) + x3) 720) (
  if (gI M 39 (ix (((12 : Int32) * x1) + x3))) = x2 then
    some ((1 : Int32))
  else
  nx (x3 + (1 : Int32)) fun v_1 =>
  rc2 v_1)
def fn_X6_isNamed (M : Mem) (x1 : Int32) (x2 : Int32) : Option Int32 :=
  it1 (lq_X6_isNamed_2 M x1 x2) FU (0 : Int32)
/-! X6_lacking -/
def bk_X6_lacking_40 (rc2 : Int32 → Option Int32) (M : Mem) (x1 : Int32) (x2 : Int32) : Option Int32 :=
  nx (x2 + (1 : Int32)) fun v_1 =>
  rc2 v_1
def lq_X6_lacking_2 (M : Mem) (x1 : Int32) (rc2 : Int32 → Option Int32) (x2 : Int32) : Option Int32 :=
  if (gI M 35 1) ≤ x2 then
    some ((-1 : Int32))
  else
  ck (ok (((60 : Int32) * x1) + x2) 480) (
  if (gI M 48 (ix (((60 : Int32) * x1) + x2))) = (0 : Int32) then
    ck (ok x1 8) (
    bd1 (fn_X6_isNamed M (gI M 44 (ix x1)) x2) fun r_2 =>
    if r_2 = (0 : Int32) then
      bk_X6_lacking_40 rc2 M x1 x2
    else
    some (x2))
  else
  bk_X6_lacking_40 rc2 M x1 x2)
def fn_X6_lacking (M : Mem) (x1 : Int32) : Option Int32 :=
  it1 (lq_X6_lacking_2 M x1) FU (0 : Int32)
/-! X6_copies -/
def bk_X6_copies_101 (rc7 : Mem → Int32 → Option (Int32 × Mem)) (M : Mem) (x1 : Int32) (x2 : Int32) (x3 : Int32) (sx0 : Int32) : Option (Int32 × Mem) :=
  ck (ok x1 8) (
  ck (ok x1 8) (nx (sI M 45 (ix x1) ((gI M 45 (ix x1)) + sx0)) fun M_3 =>
  ck (ok x1 8) (
  ck (ok x1 8) (nx (sI M_3 46 (ix x1) ((gI M_3 46 (ix x1)) + sx0)) fun M_4 =>
  nx (x2 - sx0) fun v_5 =>
  ck (ok x1 8) (
  ck (ok x3 60) (
  if (gI M_4 36 (ix x3)) ≤ (gI M_4 45 (ix x1)) then
    ck (ok (((60 : Int32) * x1) + x3) 480) (nx (sI M_4 48 (ix (((60 : Int32) * x1) + x3)) (zb (1 : Int32))) fun M_6 =>
    ck (ok x1 8) (nx (sI M_6 45 (ix x1) (0 : Int32)) fun M_7 =>
    rc7 M_7 v_5))
  else
  rc7 M_4 v_5))))))
def bk_X6_copies_67 (rc7 : Mem → Int32 → Option (Int32 × Mem)) (M : Mem) (x1 : Int32) (x2 : Int32) (x3 : Int32) : Option (Int32 × Mem) :=
  ck (ok x3 60) (
  ck (ok x1 8) (
  if x2 ≤ ((gI M 36 (ix x3)) - (gI M 45 (ix x1))) then
    bk_X6_copies_101 rc7 M x1 x2 x3 x2
  else
  ck (ok x3 60) (
  ck (ok x1 8) (
  bk_X6_copies_101 rc7 M x1 x2 x3 ((gI M 36 (ix x3)) - (gI M 45 (ix x1)))))))
def lq_X6_copies_7 (x1 : Int32) (rc7 : Mem → Int32 → Option (Int32 × Mem)) (M : Mem) (x2 : Int32) : Option (Int32 × Mem) :=
  if x2 ≤ (0 : Int32) then
    some ((1 : Int32), M)
  else
  bd1 (fn_X6_lacking M x1) fun r_2 =>
  if (0 : Int32) ≤ r_2 then
    ck (ok x1 8) (
    if (gI M 40 (ix x1)) < (0 : Int32) then
      bk_X6_copies_67 rc7 M x1 x2 r_2
    else
    ck (ok x1 8) (
    ck (ok (((60 : Int32) * (gI M 40 (ix x1))) + r_2) 480) (
    if (gI M 48 (ix (((60 : Int32) * (gI M 40 (ix x1))) + r_2))) = (0 : Int32) then
      ck (ok x1 8) (nx (sI M 44 (ix x1) (-1 : Int32)) fun M_8 =>
      ck (ok x1 8) (nx (sI M_8 45 (ix x1) (0 : Int32)) fun M_9 =>
      some ((0 : Int32), M_9)))
    else
    bk_X6_copies_67 rc7 M x1 x2 r_2)))
  else
  some ((1 : Int32), M)
def fn_X6_copies (M : Mem) (x1 : Int32) : Option (Int32 × Mem) :=
  ck (ok x1 8) (
  nx (gI M 41 (ix x1)) fun v_1 =>
  it2 (lq_X6_copies_7 x1) FU M v_1)
/-! X6_turns -/
def bk_X6_turns_217 (rc104 : Mem → Int32 → Option Mem) (M : Mem) (x1 : Int32) (x2 : Int32) (sx1 : Int32) (sx2 : Int32) : Option Mem :=
  ck (ok sx1 480) (nx (sI M 48 (ix sx1) (zb sx2)) fun M_7 =>
  nx (x2 + (1 : Int32)) fun v_8 =>
  rc104 M_7 v_8)
def bk_X6_turns_216 (rc104 : Mem → Int32 → Option Mem) (M : Mem) (x1 : Int32) (x2 : Int32) (sx1 : Int32) : Option Mem :=
  bk_X6_turns_217 rc104 M x1 x2 sx1 (0 : Int32)
def bk_X6_turns_184 (rc104 : Mem → Int32 → Option Mem) (M : Mem) (x1 : Int32) (x2 : Int32) (x3 : Int32) : Option Mem :=
  ck (ok (((60 : Int32) * x1) + x2) 480) (
  if (gI M 48 (ix (((60 : Int32) * x1) + x2))) = (0 : Int32) then
    bk_X6_turns_216 rc104 M x1 x2 (((60 : Int32) * x1) + x2)
  else
  if x3 = (0 : Int32) then
    bk_X6_turns_216 rc104 M x1 x2 (((60 : Int32) * x1) + x2)
  else
  bk_X6_turns_217 rc104 M x1 x2 (((60 : Int32) * x1) + x2) (1 : Int32))
def bk_X6_turns_177 (rc104 : Mem → Int32 → Option Mem) (rc127 : Int32 → Int32 → Option Mem) (M : Mem) (x1 : Int32) (x2 : Int32) (x4 : Int32) (sx0 : Int32) : Option Mem :=
  nx (x4 + (1 : Int32)) fun v_9 =>
  rc127 sx0 v_9
def bk_X6_turns_172 (rc104 : Mem → Int32 → Option Mem) (rc127 : Int32 → Int32 → Option Mem) (M : Mem) (x1 : Int32) (x2 : Int32) (x4 : Int32) : Option Mem :=
  bk_X6_turns_177 rc104 rc127 M x1 x2 x4 (1 : Int32)
def lq_X6_turns_127 (rc104 : Mem → Int32 → Option Mem) (M : Mem) (x1 : Int32) (x2 : Int32) (rc127 : Int32 → Int32 → Option Mem) (x3 : Int32) (x4 : Int32) : Option Mem :=
  ck (ok x1 8) (
  if (gI M 42 (ix x1)) ≤ x4 then
    bk_X6_turns_184 rc104 M x1 x2 x3
  else
  ck (ok x1 8) (
  if (gI M 50 (ix x1)) ≤ x4 then
    bk_X6_turns_184 rc104 M x1 x2 x3
  else
  if x3 = (0 : Int32) then
    ck (ok (((3 : Int32) * x1) + x4) 24) (
    bd1 (fn_X6_isNamed M (gI M 49 (ix (((3 : Int32) * x1) + x4))) x2) fun r_10 =>
    if r_10 = (0 : Int32) then
      bk_X6_turns_177 rc104 rc127 M x1 x2 x4 (0 : Int32)
    else
    bk_X6_turns_172 rc104 rc127 M x1 x2 x4)
  else
  bk_X6_turns_172 rc104 rc127 M x1 x2 x4))
def lq_X6_turns_104 (x1 : Int32) (rc104 : Mem → Int32 → Option Mem) (M : Mem) (x2 : Int32) : Option Mem :=
  if (gI M 35 1) ≤ x2 then
    some M
  else
  ck (ok x1 8) (
  bd1 (fn_X6_isNamed M (gI M 43 (ix x1)) x2) fun r_6 =>
  it2 (lq_X6_turns_127 rc104 M x1 x2) FU r_6 (0 : Int32))
def bk_X6_turns_75 (M : Mem) (x1 : Int32) (sx1 : Int32) (sx2 : Int32) : Option Mem :=
  ck (ok sx1 8) (nx (sI M 50 (ix sx1) sx2) fun M_2 =>
  ck (ok x1 8) (
  ck (ok x1 8) (nx (sI M_2 43 (ix x1) (gI M_2 44 (ix x1))) fun M_3 =>
  ck (ok x1 8) (nx (sI M_3 44 (ix x1) (-1 : Int32)) fun M_4 =>
  ck (ok x1 8) (nx (sI M_4 45 (ix x1) (0 : Int32)) fun M_5 =>
  it2 (lq_X6_turns_104 x1) FU M_5 (0 : Int32))))))
def lq_X6_turns_2 (x1 : Int32) (rc2 : Mem → Int32 → Option Mem) (M : Mem) (x2 : Int32) : Option Mem :=
  if x2 ≤ (0 : Int32) then
    ck (ok x1 8) (
    ck (ok ((3 : Int32) * x1) 24) (nx (sI M 49 (ix ((3 : Int32) * x1)) (gI M 43 (ix x1))) fun M_1 =>
    ck (ok x1 8) (
    if (3 : Int32) ≤ (gI M_1 50 (ix x1)) then
      bk_X6_turns_75 M_1 x1 x1 (3 : Int32)
    else
    ck (ok x1 8) (
    bk_X6_turns_75 M_1 x1 x1 ((gI M_1 50 (ix x1)) + (1 : Int32))))))
  else
  ck (ok ((((3 : Int32) * x1) + x2) - (1 : Int32)) 24) (
  ck (ok (((3 : Int32) * x1) + x2) 24) (nx (sI M 49 (ix (((3 : Int32) * x1) + x2)) (gI M 49 (ix ((((3 : Int32) * x1) + x2) - (1 : Int32))))) fun M_11 =>
  nx (x2 + (-1 : Int32)) fun v_12 =>
  rc2 M_11 v_12))
def fn_X6_turns (M : Mem) (x1 : Int32) : Option Mem :=
  it2 (lq_X6_turns_2 x1) FU M (2 : Int32)
/-! X6_goes -/
def bk_X6_goes_96 (M : Mem) (x1 : Int32) : Option Mem :=
  ck (ok x1 8) (
  if (gI M 44 (ix x1)) = (-1 : Int32) then
    some M
  else
  bd2 (fn_X6_copies M x1) fun r_3 M_2 =>
  if r_3 = (0 : Int32) then
    some M_2
  else
  bd1 (fn_X6_lacking M_2 x1) fun r_4 =>
  if (0 : Int32) ≤ r_4 then
    some M_2
  else
  bd1 (fn_X6_turns M_2 x1) fun M_5 =>
  some M_5)
def bk_X6_goes_78 (M : Mem) (x1 : Int32) (sx0 : Int32) : Option Mem :=
  ck (ok x1 8) (
  if sx0 ≤ (gI M 43 (ix x1)) then
    bk_X6_goes_96 M x1
  else
  ck (ok x1 8) (nx (sI M 44 (ix x1) sx0) fun M_6 =>
  bk_X6_goes_96 M_6 x1))
def bk_X6_goes_39 (M : Mem) (x1 : Int32) : Option Mem :=
  ck (ok x1 8) (
  if (gI M 44 (ix x1)) = (-1 : Int32) then
    ck (ok x1 8) (
    if (0 : Int32) ≤ (gI M 40 (ix x1)) then
      ck (ok x1 8) (
      ck (ok (gI M 40 (ix x1)) 8) (
      bk_X6_goes_78 M x1 (gI M 43 (ix (gI M 40 (ix x1))))))
    else
    bk_X6_goes_78 M x1 ((gI M 35 4) - (1 : Int32)))
  else
  bk_X6_goes_96 M x1)
def fn_X6_goes (M : Mem) (x1 : Int32) : Option Mem :=
  bd1 (fn_X6_isFallen M x1) fun r_1 =>
  if r_1 = (0 : Int32) then
    ck (ok x1 8) (
    if (gI M 40 (ix x1)) < (0 : Int32) then
      bk_X6_goes_39 M x1
    else
    ck (ok x1 8) (
    bd1 (fn_X6_isFallen M (gI M 40 (ix x1))) fun r_7 =>
    if r_7 = (0 : Int32) then
      bk_X6_goes_39 M x1
    else
    some M))
  else
  ck (ok x1 8) (nx (sI M 45 (ix x1) (0 : Int32)) fun M_8 =>
  some M_8)
/-! X6_pass -/
def lq_X6_pass_34 (rc27 : Mem → Int32 → Option (Int32 × Mem)) (x1 : Int32) (x2 : Int32) (rc34 : Mem → Int32 → Option (Int32 × Mem)) (M : Mem) (x3 : Int32) : Option (Int32 × Mem) :=
  if (gI M 35 7) ≤ x3 then
    nx (sI M 35 0 ((gI M 35 0) + (1 : Int32))) fun M_2 =>
    nx (x2 + (1 : Int32)) fun v_3 =>
    rc27 M_2 v_3
  else
  bd1 (fn_X6_goes M x3) fun M_4 =>
  nx (x3 + (1 : Int32)) fun v_5 =>
  rc34 M_4 v_5
def lq_X6_pass_27 (x1 : Int32) (rc27 : Mem → Int32 → Option (Int32 × Mem)) (M : Mem) (x2 : Int32) : Option (Int32 × Mem) :=
  if x1 ≤ x2 then
    some (gI M 35 0, M)
  else
  it2 (lq_X6_pass_34 rc27 x1 x2) FU M (0 : Int32)
def fn_X6_pass (M : Mem) (x1 : Int32) : Option (Int32 × Mem) :=
  bd1 (fn_X6_in x1 (1 : Int32) (500 : Int32)) fun r_1 =>
  if r_1 = (0 : Int32) then
    some ((-1 : Int32), M)
  else
  if ((gI M 35 0) + x1) ≤ (9999 : Int32) then
    it2 (lq_X6_pass_27 x1) FU M (0 : Int32)
  else
  some ((-1 : Int32), M)
/-! X6_isAsker -/
def fn_X6_isAsker (x0 : Int32) : Option Int32 :=
  bd1 (fn_X6_in x0 (0 : Int32) (5 : Int32)) fun r_1 =>
  some (r_1)
/-! X6_cost -/
def bk_X6_cost_25 (M : Mem) : Option (Int32 × Mem) :=
  some ((-2 : Int32), M)
def fn_X6_cost (M : Mem) (x1 : Int32) (x2 : Int32) (x3 : Int32) : Option (Int32 × Mem) :=
  bd1 (fn_X6_isAsker x1) fun r_1 =>
  if r_1 = (0 : Int32) then
    bk_X6_cost_25 M
  else
  bd1 (fn_X6_isMirror M x2) fun r_2 =>
  if r_2 = (0 : Int32) then
    bk_X6_cost_25 M
  else
  bd1 (fn_X6_in x3 (-1 : Int32) (100 : Int32)) fun r_3 =>
  if r_3 = (0 : Int32) then
    bk_X6_cost_25 M
  else
  ck (ok (((8 : Int32) * x1) + x2) 48) (
  nx (gI M 54 (ix (((8 : Int32) * x1) + x2))) fun v_4 =>
  ck (ok (((8 : Int32) * x1) + x2) 48) (nx (sI M 54 (ix (((8 : Int32) * x1) + x2)) x3) fun M_5 =>
  some (v_4, M_5)))
/-! X6_bears -/
def fn_X6_bears (M : Mem) (x1 : Int32) (x2 : Int32) : Option (Int32 × Mem) :=
  bd1 (fn_X6_isAsker x1) fun r_1 =>
  if r_1 = (0 : Int32) then
    some ((-1 : Int32), M)
  else
  bd1 (fn_X6_in x2 (0 : Int32) (9999 : Int32)) fun r_2 =>
  if r_2 = (0 : Int32) then
    some ((-1 : Int32), M)
  else
  ck (ok x1 6) (
  nx (gI M 55 (ix x1)) fun v_3 =>
  ck (ok x1 6) (nx (sI M 55 (ix x1) x2) fun M_4 =>
  some (v_3, M_4)))
/-! X6_grace -/
def fn_X6_grace (M : Mem) (x1 : Int32) : Option (Int32 × Mem) :=
  bd1 (fn_X6_in x1 (0 : Int32) (9999 : Int32)) fun r_1 =>
  if r_1 = (0 : Int32) then
    some ((-1 : Int32), M)
  else
  nx (gI M 35 23) fun v_2 =>
  nx (sI M 35 23 x1) fun M_3 =>
  some (v_2, M_3)
/-! X6_forgives -/
def lq_X6_forgives_13 (M : Mem) (x1 : Int32) (rc13 : Int32 → Int32 → Option (Int32 × Mem)) (x2 : Int32) (x3 : Int32) : Option (Int32 × Mem) :=
  if (8 : Int32) ≤ x3 then
    ck (ok x1 6) (nx (sI M 57 (ix x1) (0 : Int32)) fun M_2 =>
    some (x2, M_2))
  else
  ck (ok x1 6) (
  nx (x2 + (((gI M 57 (ix x1)) >>> (x3 &&& 31)) &&& (1 : Int32))) fun v_3 =>
  nx (x3 + (1 : Int32)) fun v_4 =>
  rc13 v_3 v_4)
def fn_X6_forgives (M : Mem) (x1 : Int32) : Option (Int32 × Mem) :=
  bd1 (fn_X6_isAsker x1) fun r_1 =>
  if r_1 = (0 : Int32) then
    some ((-1 : Int32), M)
  else
  it2 (lq_X6_forgives_13 M x1) FU (0 : Int32) (0 : Int32)
/-! X6_ageOf -/
def fn_X6_ageOf (M : Mem) (x1 : Int32) : Option Int32 :=
  if x1 = ((gI M 35 4) - (1 : Int32)) then
    some ((0 : Int32))
  else
  ck (ok (x1 + (1 : Int32)) 60) (
  some ((gI M 35 0) - (gI M 38 (ix (x1 + (1 : Int32))))))
/-! X6_isGood -/
def bk_X6_isGood_82 (rc24 : Int32 → Option Int32) (M : Mem) (x2 : Int32) (x4 : Int32) : Option Int32 :=
  nx (x4 + (1 : Int32)) fun v_3 =>
  rc24 v_3
def lq_X6_isGood_24 (M : Mem) (x2 : Int32) (rc24 : Int32 → Option Int32) (x4 : Int32) : Option Int32 :=
  if (12 : Int32) ≤ x4 then
    some ((1 : Int32))
  else
  ck (ok (((12 : Int32) * x2) + x4) 720) (
  nx (gI M 39 (ix (((12 : Int32) * x2) + x4))) fun v_2 =>
  if v_2 < (0 : Int32) then
    bk_X6_isGood_82 rc24 M x2 x4
  else
  ck (ok v_2 60) (
  if (gI M 37 (ix v_2)) = (-1 : Int32) then
    bk_X6_isGood_82 rc24 M x2 x4
  else
  ck (ok v_2 60) (
  if ((gI M 35 0) - (gI M 37 (ix v_2))) ≤ (gI M 35 23) then
    bk_X6_isGood_82 rc24 M x2 x4
  else
  some ((0 : Int32)))))
def fn_X6_isGood (M : Mem) (x1 : Int32) (x2 : Int32) (x3 : Int32) : Option Int32 :=
  if x2 < x3 then
    some ((0 : Int32))
  else
  bd1 (fn_X6_ageOf M x2) fun r_1 =>
  ck (ok x1 6) (
  if r_1 ≤ (gI M 55 (ix x1)) then
    it1 (lq_X6_isGood_24 M x2) FU (0 : Int32)
  else
  some ((0 : Int32)))
/-! X6_orders -/
def bk_X6_orders_124 (rc7 : Mem → Int32 → Option Mem) (M : Mem) (x1 : Int32) (x2 : Int32) : Option Mem :=
  nx (x2 + (1 : Int32)) fun v_2 =>
  rc7 M v_2
def bk_X6_orders_107 (rc7 : Mem → Int32 → Option Mem) (M : Mem) (x1 : Int32) (x2 : Int32) (x3 : Int32) : Option Mem :=
  ck (ok x3 8) (nx (sI M 58 (ix x3) x2) fun M_4 =>
  nx (sI M_4 35 29 ((gI M_4 35 29) + (1 : Int32))) fun M_5 =>
  bk_X6_orders_124 rc7 M_5 x1 x2)
def lq_X6_orders_51 (rc7 : Mem → Int32 → Option Mem) (x1 : Int32) (x2 : Int32) (rc51 : Mem → Int32 → Option Mem) (M : Mem) (x3 : Int32) : Option Mem :=
  if x3 ≤ (0 : Int32) then
    bk_X6_orders_107 rc7 M x1 x2 x3
  else
  ck (ok (x3 - (1 : Int32)) 8) (
  ck (ok (((8 : Int32) * x1) + (gI M 58 (ix (x3 - (1 : Int32))))) 48) (
  ck (ok (((8 : Int32) * x1) + x2) 48) (
  if (gI M 54 (ix (((8 : Int32) * x1) + (gI M 58 (ix (x3 - (1 : Int32))))))) ≤ (gI M 54 (ix (((8 : Int32) * x1) + x2))) then
    bk_X6_orders_107 rc7 M x1 x2 x3
  else
  ck (ok (x3 - (1 : Int32)) 8) (
  ck (ok x3 8) (nx (sI M 58 (ix x3) (gI M 58 (ix (x3 - (1 : Int32))))) fun M_6 =>
  nx (x3 + (-1 : Int32)) fun v_7 =>
  rc51 M_6 v_7)))))
def lq_X6_orders_7 (x1 : Int32) (rc7 : Mem → Int32 → Option Mem) (M : Mem) (x2 : Int32) : Option Mem :=
  if (gI M 35 7) ≤ x2 then
    some M
  else
  ck (ok (((8 : Int32) * x1) + x2) 48) (
  if (gI M 54 (ix (((8 : Int32) * x1) + x2))) < (0 : Int32) then
    bk_X6_orders_124 rc7 M x1 x2
  else
  ck (ok x1 6) (
  if (((gI M 57 (ix x1)) >>> (x2 &&& 31)) &&& (1 : Int32)) = (1 : Int32) then
    bk_X6_orders_124 rc7 M x1 x2
  else
  nx (gI M 35 29) fun v_3 =>
  it2 (lq_X6_orders_51 rc7 x1 x2) FU M v_3))
def fn_X6_orders (M : Mem) (x1 : Int32) : Option Mem :=
  nx (sI M 35 29 (0 : Int32)) fun M_1 =>
  it2 (lq_X6_orders_7 x1) FU M_1 (0 : Int32)
/-! X6_tells -/
def fn_X6_tells (M : Mem) (x1 : Int32) (x2 : Int32) : Option (Int32 × Mem) :=
  ck (ok (((8 : Int32) * x1) + x2) 48) (
  nx (sI M 35 32 ((gI M 35 32) + (gI M 54 (ix (((8 : Int32) * x1) + x2))))) fun M_1 =>
  nx (sI M_1 35 33 ((gI M_1 35 33) + (1 : Int32))) fun M_2 =>
  bd1 (fn_X6_isFallen M_2 x2) fun r_3 =>
  if r_3 = (0 : Int32) then
    some ((1 : Int32), M_2)
  else
  some ((0 : Int32), M_2))
/-! X6_indexFor -/
def bk_X6_indexFor_80 (rc2 : Mem → Int32 → Option (Int32 × Mem)) (M : Mem) (x1 : Int32) (x2 : Int32) : Option (Int32 × Mem) :=
  nx (x2 + (1 : Int32)) fun v_5 =>
  rc2 M v_5
def lq_X6_indexFor_2 (x1 : Int32) (rc2 : Mem → Int32 → Option (Int32 × Mem)) (M : Mem) (x2 : Int32) : Option (Int32 × Mem) :=
  if (gI M 35 29) ≤ x2 then
    some ((-1 : Int32), M)
  else
  ck (ok x2 8) (
  nx (gI M 58 (ix x2)) fun v_1 =>
  bd2 (fn_X6_tells M x1 v_1) fun r_3 M_2 =>
  if r_3 = (0 : Int32) then
    bk_X6_indexFor_80 rc2 M_2 x1 x2
  else
  ck (ok v_1 8) (
  if (gI M_2 47 (ix v_1)) = (0 : Int32) then
    ck (ok v_1 8) (
    ck (ok x1 6) (
    bd1 (fn_X6_isGood M_2 x1 (gI M_2 43 (ix v_1)) (gI M_2 56 (ix x1))) fun r_4 =>
    if r_4 = (0 : Int32) then
      bk_X6_indexFor_80 rc2 M_2 x1 x2
    else
    ck (ok v_1 8) (
    some (gI M_2 43 (ix v_1), M_2))))
  else
  ck (ok x1 6) (
  ck (ok x1 6) (nx (sI M_2 57 (ix x1) ((gI M_2 57 (ix x1)) ||| ((1 : Int32) <<< (v_1 &&& 31)))) fun M_6 =>
  bk_X6_indexFor_80 rc2 M_6 x1 x2))))
def fn_X6_indexFor (M : Mem) (x1 : Int32) : Option (Int32 × Mem) :=
  it2 (lq_X6_indexFor_2 x1) FU M (0 : Int32)
/-! X6_giver -/
def bk_X6_giver_87 (rc2 : Mem → Int32 → Option (Int32 × Mem)) (M : Mem) (x1 : Int32) (x2 : Int32) (x3 : Int32) : Option (Int32 × Mem) :=
  nx (x3 + (1 : Int32)) fun v_2 =>
  rc2 M v_2
def lq_X6_giver_2 (x1 : Int32) (x2 : Int32) (rc2 : Mem → Int32 → Option (Int32 × Mem)) (M : Mem) (x3 : Int32) : Option (Int32 × Mem) :=
  if (gI M 35 29) ≤ x3 then
    some ((-1 : Int32), M)
  else
  ck (ok x3 8) (
  nx (gI M 58 (ix x3)) fun v_1 =>
  ck (ok x1 6) (
  if (((gI M 57 (ix x1)) >>> (v_1 &&& 31)) &&& (1 : Int32)) = (1 : Int32) then
    bk_X6_giver_87 rc2 M x1 x2 x3
  else
  bd2 (fn_X6_tells M x1 v_1) fun r_4 M_3 =>
  if r_4 = (0 : Int32) then
    bk_X6_giver_87 rc2 M_3 x1 x2 x3
  else
  ck (ok (((60 : Int32) * v_1) + x2) 480) (
  if (gI M_3 48 (ix (((60 : Int32) * v_1) + x2))) = (0 : Int32) then
    bk_X6_giver_87 rc2 M_3 x1 x2 x3
  else
  ck (ok v_1 8) (
  if (gI M_3 47 (ix v_1)) = (0 : Int32) then
    some (v_1, M_3)
  else
  ck (ok x1 6) (
  ck (ok x1 6) (nx (sI M_3 57 (ix x1) ((gI M_3 57 (ix x1)) ||| ((1 : Int32) <<< (v_1 &&& 31)))) fun M_5 =>
  bk_X6_giver_87 rc2 M_5 x1 x2 x3))))))
def fn_X6_giver (M : Mem) (x1 : Int32) (x2 : Int32) : Option (Int32 × Mem) :=
  it2 (lq_X6_giver_2 x1 x2) FU M (0 : Int32)
/-! X6_least -/
def bk_X6_least_284 (rc182 : Int32 → Int32 → Option Int32) (rc197 : Int32 → Int32 → Option Int32) (M : Mem) (x1 : Int32) (x4 : Int32) (x5 : Int32) (x6 : Int32) (x7 : Int32) : Option Int32 :=
  nx (x7 + (1 : Int32)) fun v_4 =>
  rc197 x4 v_4
def bk_X6_least_280 (rc182 : Int32 → Int32 → Option Int32) (rc197 : Int32 → Int32 → Option Int32) (M : Mem) (x1 : Int32) (x5 : Int32) (x6 : Int32) (x7 : Int32) (x8 : Int32) : Option Int32 :=
  bk_X6_least_284 rc182 rc197 M x1 x8 x5 x6 x7
def lq_X6_least_197 (rc182 : Int32 → Int32 → Option Int32) (M : Mem) (x1 : Int32) (x5 : Int32) (x6 : Int32) (rc197 : Int32 → Int32 → Option Int32) (x4 : Int32) (x7 : Int32) : Option Int32 :=
  if (gI M 35 7) ≤ x7 then
    nx (x5 + x4) fun v_1 =>
    nx (x6 + (1 : Int32)) fun v_2 =>
    rc182 v_1 v_2
  else
  ck (ok (((8 : Int32) * x1) + x7) 48) (
  nx (gI M 54 (ix (((8 : Int32) * x1) + x7))) fun v_3 =>
  if v_3 < (0 : Int32) then
    bk_X6_least_284 rc182 rc197 M x1 x4 x5 x6 x7
  else
  bd1 (fn_X6_isFallen M x7) fun r_5 =>
  if r_5 = (0 : Int32) then
    ck (ok x7 8) (
    if (gI M 47 (ix x7)) = (0 : Int32) then
      ck (ok x6 12) (
      ck (ok (((60 : Int32) * x7) + (gI M 59 (ix x6))) 480) (
      if (gI M 48 (ix (((60 : Int32) * x7) + (gI M 59 (ix x6))))) = (0 : Int32) then
        bk_X6_least_284 rc182 rc197 M x1 x4 x5 x6 x7
      else
      if x4 < (0 : Int32) then
        bk_X6_least_280 rc182 rc197 M x1 x5 x6 x7 v_3
      else
      if v_3 < x4 then
        bk_X6_least_280 rc182 rc197 M x1 x5 x6 x7 v_3
      else
      bk_X6_least_284 rc182 rc197 M x1 x4 x5 x6 x7))
    else
    bk_X6_least_284 rc182 rc197 M x1 x4 x5 x6 x7)
  else
  bk_X6_least_284 rc182 rc197 M x1 x4 x5 x6 x7)
def lq_X6_least_182 (M : Mem) (x1 : Int32) (rc182 : Int32 → Int32 → Option Int32) (x5 : Int32) (x6 : Int32) : Option Int32 :=
  if (gI M 35 34) ≤ x6 then
    some (x5)
  else
  it2 (lq_X6_least_197 rc182 M x1 x5 x6) FU (-1 : Int32) (0 : Int32)
def bk_X6_least_169 (rc6 : Int32 → Int32 → Option Int32) (M : Mem) (x1 : Int32) (x2 : Int32) (x3 : Int32) (x4 : Int32) (x5 : Int32) : Option Int32 :=
  nx (x5 + (1 : Int32)) fun v_7 =>
  rc6 x4 v_7
def bk_X6_least_152 (rc6 : Int32 → Int32 → Option Int32) (rc90 : Int32 → Int32 → Option Int32) (M : Mem) (x1 : Int32) (x2 : Int32) (x3 : Int32) (x4 : Int32) (x5 : Int32) (x6 : Int32) (x8 : Int32) (sx0 : Int32) : Option Int32 :=
  nx (x8 + (1 : Int32)) fun v_10 =>
  rc90 sx0 v_10
def bk_X6_least_151 (rc6 : Int32 → Int32 → Option Int32) (rc90 : Int32 → Int32 → Option Int32) (M : Mem) (x1 : Int32) (x2 : Int32) (x3 : Int32) (x4 : Int32) (x5 : Int32) (x6 : Int32) (x8 : Int32) : Option Int32 :=
  bk_X6_least_152 rc6 rc90 M x1 x2 x3 x4 x5 x6 x8 (0 : Int32)
def bk_X6_least_147 (rc6 : Int32 → Int32 → Option Int32) (rc90 : Int32 → Int32 → Option Int32) (M : Mem) (x1 : Int32) (x2 : Int32) (x3 : Int32) (x4 : Int32) (x5 : Int32) (x6 : Int32) (x8 : Int32) : Option Int32 :=
  bk_X6_least_152 rc6 rc90 M x1 x2 x3 x4 x5 x6 x8 (1 : Int32)
def lq_X6_least_90 (rc6 : Int32 → Int32 → Option Int32) (M : Mem) (x1 : Int32) (x2 : Int32) (x3 : Int32) (x4 : Int32) (x5 : Int32) (x6 : Int32) (rc90 : Int32 → Int32 → Option Int32) (x7 : Int32) (x8 : Int32) : Option Int32 :=
  if (12 : Int32) ≤ x8 then
    if x7 = (0 : Int32) then
      bk_X6_least_169 rc6 M x1 x2 x3 x4 x5
    else
    bk_X6_least_169 rc6 M x1 x2 x3 x6 x5
  else
  if x7 = (0 : Int32) then
    bk_X6_least_151 rc6 rc90 M x1 x2 x3 x4 x5 x6 x8
  else
  if ((x2 >>> (x8 &&& 31)) &&& (1 : Int32)) = (0 : Int32) then
    bk_X6_least_147 rc6 rc90 M x1 x2 x3 x4 x5 x6 x8
  else
  ck (ok x5 8) (
  ck (ok (((12 : Int32) * (gI M 43 (ix x5))) + x8) 720) (
  ck (ok (((12 : Int32) * (gI M 35 31)) + x8) 720) (
  if (gI M 39 (ix (((12 : Int32) * (gI M 43 (ix x5))) + x8))) = (gI M 39 (ix (((12 : Int32) * (gI M 35 31)) + x8))) then
    bk_X6_least_147 rc6 rc90 M x1 x2 x3 x4 x5 x6 x8
  else
  bk_X6_least_151 rc6 rc90 M x1 x2 x3 x4 x5 x6 x8)))
def bk_X6_least_84 (rc6 : Int32 → Int32 → Option Int32) (M : Mem) (x1 : Int32) (x2 : Int32) (x3 : Int32) (x4 : Int32) (x5 : Int32) (x6 : Int32) : Option Int32 :=
  it2 (lq_X6_least_90 rc6 M x1 x2 x3 x4 x5 x6) FU (1 : Int32) (0 : Int32)
def lq_X6_least_6 (M : Mem) (x1 : Int32) (x2 : Int32) (x3 : Int32) (rc6 : Int32 → Int32 → Option Int32) (x4 : Int32) (x5 : Int32) : Option Int32 :=
  if (gI M 35 7) ≤ x5 then
    it2 (lq_X6_least_182 M x1) FU x4 (0 : Int32)
  else
  ck (ok (((8 : Int32) * x1) + x5) 48) (
  nx (gI M 54 (ix (((8 : Int32) * x1) + x5))) fun v_6 =>
  if v_6 < (0 : Int32) then
    bk_X6_least_169 rc6 M x1 x2 x3 x4 x5
  else
  bd1 (fn_X6_isFallen M x5) fun r_8 =>
  if r_8 = (0 : Int32) then
    ck (ok x5 8) (
    if (gI M 47 (ix x5)) = (0 : Int32) then
      ck (ok x5 8) (
      bd1 (fn_X6_isGood M x1 (gI M 43 (ix x5)) x3) fun r_9 =>
      if r_9 = (0 : Int32) then
        bk_X6_least_169 rc6 M x1 x2 x3 x4 x5
      else
      if x4 < (0 : Int32) then
        bk_X6_least_84 rc6 M x1 x2 x3 x4 x5 v_6
      else
      if v_6 < x4 then
        bk_X6_least_84 rc6 M x1 x2 x3 x4 x5 v_6
      else
      bk_X6_least_169 rc6 M x1 x2 x3 x4 x5)
    else
    bk_X6_least_169 rc6 M x1 x2 x3 x4 x5)
  else
  bk_X6_least_169 rc6 M x1 x2 x3 x4 x5)
def fn_X6_least (M : Mem) (x1 : Int32) (x2 : Int32) (x3 : Int32) : Option Int32 :=
  it2 (lq_X6_least_6 M x1 x2 x3) FU (-1 : Int32) (0 : Int32)
/-! X6_ask -/
def bk_X6_ask_252 (rc151 : Mem → Int32 → Option (Int32 × Mem)) (M : Mem) (x1 : Int32) (x2 : Int32) (x3 : Int32) (x4 : Int32) : Option (Int32 × Mem) :=
  nx (x4 + (1 : Int32)) fun v_24 =>
  rc151 M v_24
def lq_X6_ask_151 (x1 : Int32) (x2 : Int32) (x3 : Int32) (rc151 : Mem → Int32 → Option (Int32 × Mem)) (M : Mem) (x4 : Int32) : Option (Int32 × Mem) :=
  if (12 : Int32) ≤ x4 then
    bd1 (fn_X6_least M x1 x2 x3) fun r_15 =>
    nx (sI M 35 36 r_15) fun M_16 =>
    some ((0 : Int32), M_16)
  else
  if ((x2 >>> (x4 &&& 31)) &&& (1 : Int32)) = (0 : Int32) then
    bk_X6_ask_252 rc151 M x1 x2 x3 x4
  else
  ck (ok (((12 : Int32) * (gI M 35 31)) + x4) 720) (
  nx (gI M 39 (ix (((12 : Int32) * (gI M 35 31)) + x4))) fun v_17 =>
  bd2 (fn_X6_giver M x1 v_17) fun r_19 M_18 =>
  if (0 : Int32) ≤ r_19 then
    ck (ok (gI M_18 35 34) 12) (nx (sI M_18 59 (ix (gI M_18 35 34)) v_17) fun M_20 =>
    ck (ok (gI M_20 35 34) 12) (nx (sI M_20 60 (ix (gI M_20 35 34)) x4) fun M_21 =>
    ck (ok (gI M_21 35 34) 12) (nx (sI M_21 61 (ix (gI M_21 35 34)) r_19) fun M_22 =>
    nx (sI M_22 35 34 ((gI M_22 35 34) + (1 : Int32))) fun M_23 =>
    bk_X6_ask_252 rc151 M_23 x1 x2 x3 x4)))
  else
  nx (sI M_18 35 35 x4) fun M_25 =>
  some ((3 : Int32), M_25))
def bk_X6_ask_133 (rc94 : Mem → Int32 → Option (Int32 × Mem)) (M : Mem) (x1 : Int32) (x2 : Int32) (x3 : Int32) (x4 : Int32) : Option (Int32 × Mem) :=
  nx (x4 + (-1 : Int32)) fun v_26 =>
  rc94 M v_26
def lq_X6_ask_94 (x1 : Int32) (x2 : Int32) (x3 : Int32) (rc94 : Mem → Int32 → Option (Int32 × Mem)) (M : Mem) (x4 : Int32) : Option (Int32 × Mem) :=
  if x4 < (0 : Int32) then
    if (gI M 35 35) < (0 : Int32) then
      it2 (lq_X6_ask_151 x1 x2 x3) FU M (0 : Int32)
    else
    some ((2 : Int32), M)
  else
  if ((x2 >>> (x4 &&& 31)) &&& (1 : Int32)) = (1 : Int32) then
    ck (ok (((12 : Int32) * (gI M 35 31)) + x4) 720) (
    if (0 : Int32) ≤ (gI M 39 (ix (((12 : Int32) * (gI M 35 31)) + x4))) then
      bk_X6_ask_133 rc94 M x1 x2 x3 x4
    else
    nx (sI M 35 35 x4) fun M_27 =>
    bk_X6_ask_133 rc94 M_27 x1 x2 x3 x4)
  else
  bk_X6_ask_133 rc94 M x1 x2 x3 x4
def fn_X6_ask (M : Mem) (x1 : Int32) (x2 : Int32) : Option (Int32 × Mem) :=
  bd1 (fn_X6_isAsker x1) fun r_1 =>
  if r_1 = (0 : Int32) then
    some ((-1 : Int32), M)
  else
  bd1 (fn_X6_in x2 (1 : Int32) (4095 : Int32)) fun r_2 =>
  if r_2 = (0 : Int32) then
    some ((-1 : Int32), M)
  else
  nx (sI M 35 30 (1 : Int32)) fun M_3 =>
  nx (sI M_3 35 32 (0 : Int32)) fun M_4 =>
  nx (sI M_4 35 33 (0 : Int32)) fun M_5 =>
  nx (sI M_5 35 34 (0 : Int32)) fun M_6 =>
  nx (sI M_6 35 35 (-1 : Int32)) fun M_7 =>
  nx (sI M_7 35 36 (-1 : Int32)) fun M_8 =>
  ck (ok x1 6) (
  nx (gI M_8 56 (ix x1)) fun v_9 =>
  bd1 (fn_X6_orders M_8 x1) fun M_10 =>
  bd2 (fn_X6_indexFor M_10 x1) fun r_12 M_11 =>
  nx (sI M_11 35 31 r_12) fun M_13 =>
  if (0 : Int32) ≤ (gI M_13 35 31) then
    ck (ok x1 6) (nx (sI M_13 56 (ix x1) (gI M_13 35 31)) fun M_14 =>
    it2 (lq_X6_ask_94 x1 x2 v_9) FU M_14 (11 : Int32))
  else
  some ((1 : Int32), M_13))
/-! X6_asked -/
def fn_X6_asked (M : Mem) (x1 : Int32) : Option Int32 :=
  if (gI M 35 30) = (0 : Int32) then
    some ((-1 : Int32))
  else
  if x1 = (0 : Int32) then
    some (gI M 35 31)
  else
  if x1 = (1 : Int32) then
    some (gI M 35 32)
  else
  if x1 = (2 : Int32) then
    some (gI M 35 33)
  else
  if x1 = (3 : Int32) then
    some (gI M 35 34)
  else
  if x1 = (4 : Int32) then
    some (gI M 35 35)
  else
  if x1 = (5 : Int32) then
    some (gI M 35 36)
  else
  some ((-1 : Int32))
/-! X6_got -/
def fn_X6_got (M : Mem) (x1 : Int32) (x2 : Int32) : Option Int32 :=
  if (gI M 35 30) = (0 : Int32) then
    some ((-1 : Int32))
  else
  bd1 (fn_X6_in x1 (0 : Int32) ((gI M 35 34) - (1 : Int32))) fun r_1 =>
  if r_1 = (0 : Int32) then
    some ((-1 : Int32))
  else
  if x2 = (0 : Int32) then
    ck (ok x1 12) (
    some (gI M 59 (ix x1)))
  else
  if x2 = (1 : Int32) then
    ck (ok x1 12) (
    some (gI M 60 (ix x1)))
  else
  if x2 = (2 : Int32) then
    ck (ok x1 12) (
    some (gI M 61 (ix x1)))
  else
  some ((-1 : Int32))
/-! X6_asker -/
def fn_X6_asker (M : Mem) (x1 : Int32) (x2 : Int32) : Option Int32 :=
  bd1 (fn_X6_isAsker x1) fun r_1 =>
  if r_1 = (0 : Int32) then
    some ((-1 : Int32))
  else
  if x2 = (0 : Int32) then
    ck (ok x1 6) (
    some (gI M 56 (ix x1)))
  else
  if x2 = (1 : Int32) then
    ck (ok x1 6) (
    some (gI M 55 (ix x1)))
  else
  if x2 = (2 : Int32) then
    ck (ok x1 6) (
    some (gI M 57 (ix x1)))
  else
  some ((-1 : Int32))
/-! X6_names -/
def fn_X6_names (M : Mem) (x1 : Int32) (x2 : Int32) : Option Int32 :=
  bd1 (fn_X6_in x1 (0 : Int32) ((gI M 35 4) - (1 : Int32))) fun r_1 =>
  if r_1 = (0 : Int32) then
    some ((-1 : Int32))
  else
  bd1 (fn_X6_in x2 (0 : Int32) (11 : Int32)) fun r_2 =>
  if r_2 = (0 : Int32) then
    some ((-1 : Int32))
  else
  ck (ok (((12 : Int32) * x1) + x2) 720) (
  some (gI M 39 (ix (((12 : Int32) * x1) + x2))))
/-! X6_state -/
def bk_X6_state_92 (rc64 : Int32 → Int32 → Option Int32) (M : Mem) (x1 : Int32) (x4 : Int32) (sx0 : Int32) (sx1 : Int32) : Option Int32 :=
  nx (sx0 + sx1) fun v_3 =>
  nx (x4 + (1 : Int32)) fun v_4 =>
  rc64 v_3 v_4
def lq_X6_state_64 (M : Mem) (x1 : Int32) (rc64 : Int32 → Int32 → Option Int32) (x3 : Int32) (x4 : Int32) : Option Int32 :=
  if (12 : Int32) ≤ x4 then
    some (x3)
  else
  ck (ok (((12 : Int32) * x1) + x4) 720) (
  if (gI M 39 (ix (((12 : Int32) * x1) + x4))) < (0 : Int32) then
    bk_X6_state_92 rc64 M x1 x4 x3 (0 : Int32)
  else
  bk_X6_state_92 rc64 M x1 x4 x3 (1 : Int32))
def bk_X6_state_136 (rc105 : Int32 → Int32 → Option Int32) (M : Mem) (x1 : Int32) (x4 : Int32) (sx0 : Int32) (sx1 : Int32) : Option Int32 :=
  nx (sx0 + sx1) fun v_6 =>
  nx (x4 + (1 : Int32)) fun v_7 =>
  rc105 v_6 v_7
def lq_X6_state_105 (M : Mem) (x1 : Int32) (rc105 : Int32 → Int32 → Option Int32) (x3 : Int32) (x4 : Int32) : Option Int32 :=
  if (gI M 35 1) ≤ x4 then
    some (x3)
  else
  bd1 (fn_X6_isNamed M x1 x4) fun r_5 =>
  if r_5 = (0 : Int32) then
    bk_X6_state_136 rc105 M x1 x4 x3 (0 : Int32)
  else
  ck (ok x4 60) (
  bk_X6_state_136 rc105 M x1 x4 x3 (gI M 36 (ix x4)))
def fn_X6_state (M : Mem) (x1 : Int32) (x2 : Int32) : Option Int32 :=
  bd1 (fn_X6_in x1 (0 : Int32) ((gI M 35 4) - (1 : Int32))) fun r_1 =>
  if r_1 = (0 : Int32) then
    some ((-1 : Int32))
  else
  if x2 = (0 : Int32) then
    ck (ok x1 60) (
    some (gI M 38 (ix x1)))
  else
  if x2 = (1 : Int32) then
    bd1 (fn_X6_ageOf M x1) fun r_2 =>
    some (r_2)
  else
  if x2 = (2 : Int32) then
    it2 (lq_X6_state_64 M x1) FU (0 : Int32) (0 : Int32)
  else
  if x2 = (3 : Int32) then
    it2 (lq_X6_state_105 M x1) FU (0 : Int32) (0 : Int32)
  else
  some ((-1 : Int32))
/-! X6_about -/
def bk_X6_about_127 (rc27 : Int32 → Int32 → Int32 → Int32 → Option Int32) (M : Mem) (x1 : Int32) (x2 : Int32) (x3 : Int32) (x4 : Int32) (x6 : Int32) (sx0 : Int32) (sx1 : Int32) : Option Int32 :=
  nx (sx0 + sx1) fun v_7 =>
  nx (x6 + (1 : Int32)) fun v_8 =>
  rc27 x3 x4 v_7 v_8
def bk_X6_about_126 (rc27 : Int32 → Int32 → Int32 → Int32 → Option Int32) (M : Mem) (x1 : Int32) (x2 : Int32) (x3 : Int32) (x4 : Int32) (x6 : Int32) (sx0 : Int32) : Option Int32 :=
  bk_X6_about_127 rc27 M x1 x2 x3 x4 x6 sx0 (0 : Int32)
def bk_X6_about_81 (rc27 : Int32 → Int32 → Int32 → Int32 → Option Int32) (M : Mem) (x1 : Int32) (x2 : Int32) (x3 : Int32) (x5 : Int32) (x6 : Int32) (x7 : Int32) (sx0 : Int32) (sx1 : Int32) : Option Int32 :=
  nx (sx0 + sx1) fun v_6 =>
  if x7 = (0 : Int32) then
    ck (ok x1 8) (
    if (gI M 44 (ix x1)) = (-1 : Int32) then
      bk_X6_about_126 rc27 M x1 x2 x3 v_6 x6 x5
    else
    ck (ok x1 8) (
    bd1 (fn_X6_isNamed M (gI M 44 (ix x1)) x6) fun r_9 =>
    if r_9 = (0 : Int32) then
      bk_X6_about_126 rc27 M x1 x2 x3 v_6 x6 x5
    else
    ck (ok x6 60) (
    bk_X6_about_127 rc27 M x1 x2 x3 v_6 x6 x5 (gI M 36 (ix x6)))))
  else
  bk_X6_about_126 rc27 M x1 x2 x3 v_6 x6 x5
def bk_X6_about_61 (rc27 : Int32 → Int32 → Int32 → Int32 → Option Int32) (M : Mem) (x1 : Int32) (x2 : Int32) (x4 : Int32) (x5 : Int32) (x6 : Int32) (x7 : Int32) (sx0 : Int32) (sx1 : Int32) : Option Int32 :=
  nx (sx0 + sx1) fun v_5 =>
  if x7 = (0 : Int32) then
    bk_X6_about_81 rc27 M x1 x2 v_5 x5 x6 x7 x4 (0 : Int32)
  else
  ck (ok x6 60) (
  bk_X6_about_81 rc27 M x1 x2 v_5 x5 x6 x7 x4 (gI M 36 (ix x6)))
def lq_X6_about_27 (M : Mem) (x1 : Int32) (x2 : Int32) (rc27 : Int32 → Int32 → Int32 → Int32 → Option Int32) (x3 : Int32) (x4 : Int32) (x5 : Int32) (x6 : Int32) : Option Int32 :=
  if (gI M 35 1) ≤ x6 then
    if x2 = (0 : Int32) then
      ck (ok x1 8) (
      some (gI M 43 (ix x1)))
    else
    if x2 = (1 : Int32) then
      ck (ok x1 8) (
      some (gI M 44 (ix x1)))
    else
    if x2 = (2 : Int32) then
      some (x3)
    else
    if x2 = (3 : Int32) then
      some (x4)
    else
    if x2 = (4 : Int32) then
      ck (ok x1 8) (
      some (gI M 45 (ix x1)))
    else
    if x2 = (5 : Int32) then
      ck (ok x1 8) (
      some (gI M 46 (ix x1)))
    else
    if x2 = (6 : Int32) then
      bd1 (fn_X6_isFallen M x1) fun r_3 =>
      if r_3 = (0 : Int32) then
        some ((0 : Int32))
      else
      some ((1 : Int32))
    else
    if x2 = (7 : Int32) then
      ck (ok x1 8) (
      if (gI M 47 (ix x1)) = (0 : Int32) then
        some ((0 : Int32))
      else
      some ((1 : Int32)))
    else
    if x2 = (8 : Int32) then
      ck (ok x1 8) (
      if (gI M 44 (ix x1)) = (-1 : Int32) then
        some ((-1 : Int32))
      else
      some (x5))
    else
    some ((-1 : Int32))
  else
  ck (ok (((60 : Int32) * x1) + x6) 480) (
  nx (gI M 48 (ix (((60 : Int32) * x1) + x6))) fun v_4 =>
  if v_4 = (0 : Int32) then
    bk_X6_about_61 rc27 M x1 x2 x4 x5 x6 v_4 x3 (0 : Int32)
  else
  bk_X6_about_61 rc27 M x1 x2 x4 x5 x6 v_4 x3 (1 : Int32))
def fn_X6_about (M : Mem) (x1 : Int32) (x2 : Int32) : Option Int32 :=
  bd1 (fn_X6_isMirror M x1) fun r_1 =>
  if r_1 = (0 : Int32) then
    some ((-1 : Int32))
  else
  ck (ok x1 8) (
  nx (-(gI M 45 (ix x1))) fun v_2 =>
  it4 (lq_X6_about_27 M x1 x2) FU (0 : Int32) (0 : Int32) v_2 (0 : Int32))
/-! X6_has -/
def bk_X6_has_16 (M : Mem) : Option Int32 :=
  some ((-1 : Int32))
def fn_X6_has (M : Mem) (x1 : Int32) (x2 : Int32) : Option Int32 :=
  bd1 (fn_X6_isMirror M x1) fun r_1 =>
  if r_1 = (0 : Int32) then
    bk_X6_has_16 M
  else
  bd1 (fn_X6_isFile M x2) fun r_2 =>
  if r_2 = (0 : Int32) then
    bk_X6_has_16 M
  else
  ck (ok (((60 : Int32) * x1) + x2) 480) (
  if (gI M 48 (ix (((60 : Int32) * x1) + x2))) = (0 : Int32) then
    some ((0 : Int32))
  else
  some ((1 : Int32)))
/-! X6_count -/
def bk_X6_count_100 (rc76 : Int32 → Int32 → Option Int32) (M : Mem) (x3 : Int32) (sx0 : Int32) (sx1 : Int32) : Option Int32 :=
  nx (sx0 + sx1) fun v_1 =>
  nx (x3 + (1 : Int32)) fun v_2 =>
  rc76 v_1 v_2
def lq_X6_count_76 (M : Mem) (rc76 : Int32 → Int32 → Option Int32) (x2 : Int32) (x3 : Int32) : Option Int32 :=
  if (gI M 35 1) ≤ x3 then
    some (x2)
  else
  ck (ok x3 60) (
  if (gI M 37 (ix x3)) = (-1 : Int32) then
    bk_X6_count_100 rc76 M x3 x2 (0 : Int32)
  else
  bk_X6_count_100 rc76 M x3 x2 (1 : Int32))
def fn_X6_count (M : Mem) (x1 : Int32) : Option Int32 :=
  if x1 = (0 : Int32) then
    some (gI M 35 0)
  else
  if x1 = (1 : Int32) then
    some (gI M 35 1)
  else
  if x1 = (2 : Int32) then
    some (gI M 35 4)
  else
  if x1 = (3 : Int32) then
    some (gI M 35 7)
  else
  if x1 = (4 : Int32) then
    some (gI M 35 19)
  else
  if x1 = (5 : Int32) then
    some (gI M 35 23)
  else
  if x1 = (6 : Int32) then
    it2 (lq_X6_count_76 M) FU (0 : Int32) (0 : Int32)
  else
  some ((-1 : Int32))
