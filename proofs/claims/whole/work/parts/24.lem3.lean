theorem tb_S (r : RS) (k n : Nat) {t : Nat} (h : t ≤ rT r) : rS (f_table r k n) t = rS r t := va_up_ne _ _ (by omega)
theorem tb_Sn (r : RS) (k n : Nat) : rS (f_table r k n) (rT r + 1) = rN r := va_up_self _ _ _
theorem dp_in_T (row l : Nat) (r : RS) : ∀ j, rT (dp_in row l r j) = rT r + j := by
  intro j
  induction j with
  | zero => rfl
  | succ j ih => show rT (dp_in row l r j) + 1 = _; rw [ih]; omega
theorem dp_in_N (row l : Nat) (r : RS) : ∀ j, rN (dp_in row l r j) = rN r + j * l := by
  intro j
  induction j with
  | zero => simp [dp_in]
  | succ j ih => show rN (dp_in row l r j) + l = _; rw [ih, Nat.succ_mul]; omega
theorem dp_in_S (row l : Nat) (r : RS) {t : Nat} (h : t ≤ rT r) : ∀ j, rS (dp_in row l r j) t = rS r t := by
  intro j
  induction j with
  | zero => rfl
  | succ j ih =>
    show rS (f_table (dp_in row l r j) 4 l) t = _
    rw [tb_S _ _ _ (by rw [dp_in_T]; omega), ih]
def dpx (kd m l : Nat) : Nat := if kd = 13 then m * l else 0
def dpy (kd m : Nat) : Nat := if kd = 13 then m else 0
theorem dp_row_T (kd m l t0 i : Nat) (r : RS) : rT (dp_row kd m l t0 i r) = rT r + 1 + dpy kd m := by
  unfold dp_row dpy
  by_cases h : kd = 13
  · rw [if_pos h, if_pos h, dp_in_T]; rfl
  · rw [if_neg h, if_neg h]; rfl
theorem dp_row_N (kd m l t0 i : Nat) (r : RS) : rN (dp_row kd m l t0 i r) = rN r + m + dpx kd m l := by
  unfold dp_row dpx
  by_cases h : kd = 13
  · rw [if_pos h, if_pos h, dp_in_N]; rfl
  · rw [if_neg h, if_neg h]; rfl
theorem dp_row_S (kd m l t0 i : Nat) (r : RS) {t : Nat} (h : t ≤ rT r) : rS (dp_row kd m l t0 i r) t = rS r t := by
  unfold dp_row
  have h1 : rS (f_put (f_table r (rkN kd) m) t0 i (lN (rT r + 1))) t = rS r t := tb_S r (rkN kd) m h
  by_cases hk : kd = 13
  · rw [if_pos hk, dp_in_S _ _ _ (show t ≤ rT r + 1 by omega)]; exact h1
  · rw [if_neg hk]; exact h1
theorem dp_out_T (kd m l t0 : Nat) (r : RS) : ∀ i, rT (dp_out kd m l t0 r i) = rT r + i * (1 + dpy kd m) := by
  intro i
  induction i with
  | zero => simp [dp_out]
  | succ i ih => rw [dp_out, dp_row_T, ih, Nat.succ_mul]; omega
theorem dp_out_N (kd m l t0 : Nat) (r : RS) : ∀ i, rN (dp_out kd m l t0 r i) = rN r + i * (m + dpx kd m l) := by
  intro i
  induction i with
  | zero => simp [dp_out]
  | succ i ih => rw [dp_out, dp_row_N, ih, Nat.succ_mul]; omega
theorem dp_out_S (kd m l t0 : Nat) (r : RS) {t : Nat} (h : t ≤ rT r) : ∀ i, rS (dp_out kd m l t0 r i) t = rS r t := by
  intro i
  induction i with
  | zero => rfl
  | succ i ih => rw [dp_out, dp_row_S _ _ _ _ _ _ (by rw [dp_out_T]; omega), ih]
theorem dp_bd {kd n m l i : Nat} (hn : n ≤ 30) (hm : m ≤ 30) (hl : kd = 13 → l ≤ 30) (hi : i ≤ n) (hp : kd = 13 → n * m * l ≤ 400) : i * (1 + dpy kd m) ≤ 930 ∧ i * (m + dpx kd m l) ≤ 1300 ∧ dpx kd m l ≤ 900 ∧ dpy kd m ≤ 30 := by
  have hy : dpy kd m ≤ 30 := by unfold dpy; split <;> omega
  have hx : n * dpx kd m l ≤ 400 := by
    unfold dpx
    split
    · rename_i h; rw [← Nat.mul_assoc]; exact hp h
    · simp
  have hx9 : dpx kd m l ≤ 900 := by
    unfold dpx
    split
    · rename_i h; exact Nat.le_trans (Nat.mul_le_mul hm (hl h)) (by decide)
    · omega
  refine ⟨Nat.le_trans (Nat.mul_le_mul (show i ≤ 30 by omega) (show 1 + dpy kd m ≤ 31 by omega)) (by decide), ?_, hx9, hy⟩
  have h1 : i * (m + dpx kd m l) ≤ n * (m + dpx kd m l) := Nat.mul_le_mul_right _ hi
  have h2 : n * m ≤ 900 := Nat.le_trans (Nat.mul_le_mul hn hm) (by decide)
  rw [Nat.mul_add n] at h1
  omega
theorem dp_in_Hd (row l : Nat) (r : RS) : ∀ j, rHd (dp_in row l r j) = rHd r := by
  intro j
  induction j with
  | zero => rfl
  | succ j ih => exact ih
theorem dp_row_Hd (kd m l t0 i : Nat) (r : RS) : rHd (dp_row kd m l t0 i r) = rHd r := by
  unfold dp_row
  by_cases h : kd = 13
  · rw [if_pos h, dp_in_Hd]; rfl
  · rw [if_neg h]; rfl
theorem dp_out_Hd (kd m l t0 : Nat) (r : RS) : ∀ i, rHd (dp_out kd m l t0 r i) = rHd r := by
  intro i
  induction i with
  | zero => rfl
  | succ i ih => rw [dp_out, dp_row_Hd, ih]
