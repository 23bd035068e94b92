theorem ge16 {c : Int32} (h : ¬ c < 16) : 15 < c := by
  rw [Int32.not_lt, Int32.le_iff_toInt_le] at h
  rw [Int32.lt_iff_toInt_lt]
  have e1 : (16 : Int32).toInt = 16 := rfl
  have e2 : (15 : Int32).toInt = 15 := rfl
  omega
theorem lt16 {c : Int32} (h : c < 16) : ¬ 15 < c := by
  rw [Int32.lt_iff_toInt_lt] at h ⊢
  have e1 : (16 : Int32).toInt = 16 := rfl
  have e2 : (15 : Int32).toInt = 15 := rfl
  omega
theorem ge8 {c : Int32} (h : ¬ c < 8) : 7 < c := by
  rw [Int32.not_lt, Int32.le_iff_toInt_le] at h
  rw [Int32.lt_iff_toInt_lt]
  have e1 : (8 : Int32).toInt = 8 := rfl
  have e2 : (7 : Int32).toInt = 7 := rfl
  omega
theorem lt8 {c : Int32} (h : c < 8) : ¬ 7 < c := by
  rw [Int32.lt_iff_toInt_lt] at h ⊢
  have e1 : (8 : Int32).toInt = 8 := rfl
  have e2 : (7 : Int32).toInt = 7 := rfl
  omega
theorem looked_neg {r : RS} {t : Nat} {i : Int32} (h0 : t ≠ 0) (h : i < 0) : f_looked r t i = 3 := by
  unfold f_looked
  rw [if_neg h0, if_neg (by simp [f_in, h])]
theorem looked_big {r : RS} {t : Nat} {i : Int32} (h0 : t ≠ 0) (hm : rMn r t ≤ 30) (h : ¬ i < nI (rMn r t)) : f_looked r t i = 3 := by
  unfold f_looked
  rw [if_neg h0, if_neg]
  intro q
  simp only [f_in, Bool.and_eq_true, Bool.not_eq_true', decide_eq_false_iff_not] at q
  have q2 := q.2
  rw [Int32.not_lt, Int32.le_iff_toInt_le] at q2 h
  have e : (nI (rMn r t) - 1 : Int32).toInt = (rMn r t : Int) - 1 := pk_sub_toInt (a := rMn r t) (b := 1) (by omega) (by omega)
  rw [e] at q2
  rw [nI_toInt (by omega)] at h
  omega
theorem looked_in {r : RS} {t : Nat} {i : Int32} (h0 : t ≠ 0) (hm : rMn r t ≤ 30) (h1 : ¬ i < 0) (h : i < nI (rMn r t)) : f_looked r t i = 0 := by
  unfold f_looked
  rw [if_neg h0, if_pos]
  simp only [f_in, Bool.and_eq_true, Bool.not_eq_true', decide_eq_false_iff_not]
  refine ⟨h1, ?_⟩
  rw [Int32.not_lt, Int32.le_iff_toInt_le]
  rw [Int32.lt_iff_toInt_lt, nI_toInt (by omega)] at h
  have e : (nI (rMn r t) - 1 : Int32).toInt = (rMn r t : Int) - 1 := pk_sub_toInt (a := rMn r t) (b := 1) (by omega) (by omega)
  rw [e]
  omega
theorem col_t {ad : Nat → Nat} {t : Nat} (h : t ≠ 0) : (.ref (ad (3 * t)) : Value) = va_rf (c_col ad t) := by
  rw [show c_col ad t = some (ad (3 * t)) from if_neg h]; rfl
theorem col_0 {ad : Nat → Nat} {t : Nat} (h : t = 0) : (.null : Value) = va_rf (c_col ad t) := by
  rw [show c_col ad t = none from if_pos h]; rfl
def f_fit (r : RS) (t : Nat) (k : Int32) : Bool := decide (t = 0) || (decide (nI (rK r t) = k) || (decide (k = 8) && decide (rK r t = 9)))
theorem fit_nI {r : RS} {t k : Nat} (h1 : rK r t < 100) (h2 : k < 100) : f_fit r t (nI k) = f_isOf r t k := by
  unfold f_fit f_isOf
  rw [show (decide (nI (rK r t) = nI k)) = decide (rK r t = k) from by rw [decide_eq_decide]; exact nI_eq (by omega) (by omega), show (decide (nI k = 8)) = decide (k = 8) from by rw [decide_eq_decide]; exact nI_eq (b := 8) (by omega) (by omega)]
def c_item (ad : Nat → Nat) (r : RS) (t : Nat) (i : Int32) : Option Nat := if t = 0 ∨ rK r t < 8 ∨ ¬ f_looked r t i = 0 then none else c_ref ad (rK r t) (f_at r t (ix i))
def f_rowAt (r : RS) (t : Nat) (i : Int32) : Nat := if t = 0 ∨ rK r t < 10 ∨ ¬ f_looked r t i = 0 then 0 else iv (f_at r t (ix i))
def f_kor (k : Nat) : Int32 := if k = 10 then 4 else if k = 11 then 7 else if k = 12 then 8 else if k = 13 then 10 else -1
def f_str (r : RS) (t : Nat) (i n : Int32) : Bool := !decide (i < 0) && !decide (n < 0) && !decide (nI (rMn r t) - n < i)
