theorem f_all_le (q : Nat → Bool) {k : Nat} (h : f_all q k = false) : ∀ n, k ≤ n → f_all q n = false := by
  intro n hn
  induction n with
  | zero => rw [show k = 0 by omega] at h; exact h
  | succ n ih =>
    by_cases hk : k = n + 1
    · rw [← hk]; exact h
    · simp [f_all, ih (by omega)]
theorem b2i_1 {b : Bool} (h : b = true) : b2i b = 1 := by rw [h]; rfl
theorem b2i_0 {b : Bool} (h : b = false) : b2i b = 0 := by rw [h]; rfl
theorem shaped_t {r : RS} {a b : Nat} (h : f_shaped r a b = true) : a ≠ 0 ∧ b ≠ 0 ∧ rK r a = rK r b ∧ rMn r a = rMn r b := by
  simp only [f_shaped, Bool.and_eq_true, Bool.not_eq_true', decide_eq_false_iff_not, decide_eq_true_eq] at h
  exact ⟨h.1.1.1, h.1.1.2, h.1.2, h.2⟩
theorem rkN_lt {k : Nat} (h : k < 13) (h2 : 10 ≤ k) : rkN k ≤ 8 := by
  rcases (show k = 10 ∨ k = 11 ∨ k = 12 by omega) with rfl | rfl | rfl <;> decide
