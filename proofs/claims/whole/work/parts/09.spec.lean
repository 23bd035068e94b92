/-! the pure functions, 1 -/
def f_in (v lo hi : Int32) : Bool := !decide (v < lo) && !decide (hi < v)
def rkN (k : Nat) : Nat := if k = 10 then 4 else if k = 11 then 7 else if k = 12 then 8 else 10
def f_isOf (r : RS) (t k : Nat) : Bool := decide (t = 0) || (decide (rK r t = k) || (decide (k = 8) && decide (rK r t = 9)))
def f_looked (r : RS) (t : Nat) (i : Int32) : Nat := if t = 0 then 1 else if f_in i 0 (nI (rMn r t) - 1) then 0 else 3
def f_zero (I : Nat → Int64) (N n : Nat) : Nat → Int64 := fun j => if N ≤ j ∧ j < N + n then 0 else I j
def f_table (r : RS) (k n : Nat) : RS := (rT r + 1, va_up (rK r) (rT r + 1) k, va_up (rMn r) (rT r + 1) n, va_up (rS r) (rT r + 1) (rN r), rN r + n, f_zero (rI r) (rN r) n, rM r, rTN r, rIM r, rHd r, rTr r, rPa r, rNu r, rFa r)
def f_at (r : RS) (t j : Nat) : Int64 := rI r (rS r t + j)
def f_put (r : RS) (t j : Nat) (v : Int64) : RS := sI r (va_up (rI r) (rS r t + j) v)
def f_unlike (r : RS) (a b : Nat) : Bool := !decide (rK r a = rK r b) && (decide (rK r a < 8) || decide (rK r b < 8))
def f_shaped (r : RS) (a b : Nat) : Bool := !decide (a = 0) && !decide (b = 0) && decide (rK r a = rK r b) && decide (rMn r a = rMn r b)
def f_thl (r : RS) (x y : Nat) : Bool := decide (x = y) || (!decide (x = 0) && !decide (y = 0) && decide (rTN r x = rTN r y) && decide (rIM r x = rIM r y))
def f_cut (k : Nat) (b : Int64) : Int64 := if k = 0 then b &&& 1 else if k = 1 then b.toInt32.toInt8.toInt32.toInt64 else if k = 2 then b.toInt32.toInt16.toInt32.toInt64 else if k = 3 then b &&& 65535 else if k = 4 then b.toInt32.toInt64 else if k = 6 then (if 2139095040 < b &&& 2147483647 then 2143289344 else b.toInt32.toInt64) else if k = 7 then (if 9218868437227405312 < b &&& 9223372036854775807 then 9221120237041090560 else b) else b
theorem f_zero_0 (I : Nat → Int64) (N : Nat) : f_zero I N 0 = I := by
  funext j
  simp only [f_zero]
  rw [if_neg (by omega)]
theorem f_zero_s (I : Nat → Int64) (N n : Nat) : va_up (f_zero I N n) (N + n) 0 = f_zero I N (n + 1) := by
  funext j
  simp only [f_zero, va_up]
  by_cases h : j = N + n
  · rw [if_pos h, if_pos (by omega)]
  · rw [if_neg h]
    by_cases h2 : N ≤ j ∧ j < N + n
    · rw [if_pos h2, if_pos (by omega)]
    · rw [if_neg h2, if_neg (by omega)]
