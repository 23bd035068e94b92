def clrH (f : Nat → Nat) (k : Nat) : Nat → Nat := fun j => if j < k then 0 else f j
theorem clrH_0 (f : Nat → Nat) : clrH f 0 = f := by funext j; simp [clrH]
theorem clrH_k (f : Nat → Nat) (k : Nat) : clrH f k k = f k := by simp [clrH]
theorem clrH_s (f : Nat → Nat) (k : Nat) : va_up (clrH f k) k 0 = clrH f (k + 1) := by
  funext j
  simp only [va_up, clrH]
  by_cases h : j = k
  · rw [if_pos h, if_pos (by omega)]
  · rw [if_neg h]
    by_cases h2 : j < k
    · rw [if_pos h2, if_pos (by omega)]
    · rw [if_neg h2, if_neg (by omega)]
def clrT (f : Nat → Int32) (k : Nat) : Nat → Int32 := fun j => if j < k then -1 else f j
theorem clrT_0 (f : Nat → Int32) : clrT f 0 = f := by funext j; simp [clrT]
theorem clrT_s (f : Nat → Int32) (k : Nat) : va_up (clrT f k) k (-1) = clrT f (k + 1) := by
  funext j
  simp only [va_up, clrT]
  by_cases h : j = k
  · rw [if_pos h, if_pos (by omega)]
  · rw [if_neg h]
    by_cases h2 : j < k
    · rw [if_pos h2, if_pos (by omega)]
    · rw [if_neg h2, if_neg (by omega)]
def kE (v : Nat → Int64) (E : Nat → Int64) (k : Nat) : Nat → Int64 := fun q => if q < k then v q else E q
theorem kE_0 (v E : Nat → Int64) : kE v E 0 = E := by funext j; simp [kE]
theorem kE_s (v E : Nat → Int64) (k : Nat) : va_up (kE v E k) k (v k) = kE v E (k + 1) := by
  funext j
  simp only [va_up, kE]
  by_cases h : j = k
  · rw [if_pos h, if_pos (by omega), h]
  · rw [if_neg h]
    by_cases h2 : j < k
    · rw [if_pos h2, if_pos (by omega)]
    · rw [if_neg h2, if_neg (by omega)]
theorem kE_at (v E : Nat → Int64) {n k : Nat} (h : k < n) : kE v E n k = v k := by simp [kE, h]
def putI (I : Nat → Int64) (s : Nat) (v : Nat → Int64) : Nat → (Nat → Int64)
  | 0 => I
  | k + 1 => va_up (putI I s v k) (s + k) (v k)
theorem comI_run (can : Int64 → Bool) (s n : Nat) (v : Nat → Int64) (I : Nat → Int64) : ∀ k, k ≤ n → (∀ q, q < k → can (v q) = true) → comI can s n v n I = comI can s n v (n - k) (putI I s v k) := by
  intro k
  induction k with
  | zero => intro _ _; rfl
  | succ k ih =>
    intro hk hc
    rw [ih (by omega) (fun q hq => hc q (by omega))]
    obtain ⟨d, hd⟩ : ∃ d, n - k = d + 1 := ⟨n - k - 1, by omega⟩
    rw [hd, comI]
    have e : n - (d + 1) = k := by omega
    rw [e, if_pos (hc k (by omega)), show n - (k + 1) = d by omega]
    rfl
theorem comI_end (can : Int64 → Bool) (s n : Nat) (v : Nat → Int64) (I : Nat → Int64) (hc : ∀ q, q < n → can (v q) = true) : comI can s n v n I = (putI I s v n, nI n) := by
  rw [comI_run can s n v I n (Nat.le_refl n) hc, Nat.sub_self]
  rfl
theorem comI_stop (can : Int64 → Bool) (s n : Nat) (v : Nat → Int64) (I : Nat → Int64) {k : Nat} (hk : k < n) (hc : ∀ q, q < k → can (v q) = true) (h : can (v k) = false) : comI can s n v n I = (putI I s v k, -15) := by
  rw [comI_run can s n v I k (by omega) hc]
  obtain ⟨d, hd⟩ : ∃ d, n - k = d + 1 := ⟨n - k - 1, by omega⟩
  rw [hd, comI]
  have e : n - (d + 1) = k := by omega
  rw [e, if_neg (by rw [h]; decide)]
theorem cp_nat {i n : Int32} {M : Nat} (hM : M ≤ 30) (hi : ¬ i < 0) (hn : ¬ n < 0) (h : ¬ nI M - i < n) : ∃ a b : Nat, i = nI a ∧ n = nI b ∧ a + b ≤ M := by
  obtain ⟨a, ha, rfl⟩ := nI_of hi
  obtain ⟨b, hb, rfl⟩ := nI_of hn
  refine ⟨a, b, rfl, rfl, ?_⟩
  rw [Int32.not_lt, Int32.le_iff_toInt_le] at h
  have e : (nI M - nI a).toInt = (M : Int) - a := by
    rw [Int32.toInt_sub, nI_toInt (by omega), nI_toInt ha]
    apply Int.bmod_eq_of_le <;> omega
  rw [e, nI_toInt hb] at h
  omega
theorem unlike_f {r : RS} {a b : Nat} (h : f_unlike r a b = false) (hb : 8 ≤ rK r b) : 8 ≤ rK r a := by
  simp only [f_unlike, Bool.and_eq_false_iff, Bool.not_eq_false', decide_eq_true_eq, Bool.or_eq_false_iff, decide_eq_false_iff_not] at h
  omega
