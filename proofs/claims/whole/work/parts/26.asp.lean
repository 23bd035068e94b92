/-! aside: the pure functions; what holds while it goes on -/
abbrev AS : Type := RS × (Nat → Nat)
def a_flat (x : AS) (t : Nat) : AS := if t = 0 ∨ ¬ x.2 t = 0 then x else (f_cpy (f_table x.1 (rK x.1 t) (rMn x.1 t)) t (rT x.1 + 1) (rMn x.1 t), va_up x.2 t (rT x.1 + 1))
def a_fans (x : AS) (t : Nat) : Nat := if t = 0 then 0 else (a_flat x t).2 t
def a_midL (t u : Nat) (x : AS) : Nat → AS
  | 0 => x
  | k + 1 => (f_put (a_flat (a_midL t u x k) (iv (f_at (a_midL t u x k).1 t k))).1 u k (lN (a_fans (a_midL t u x k) (iv (f_at (a_midL t u x k).1 t k)))), (a_flat (a_midL t u x k) (iv (f_at (a_midL t u x k).1 t k))).2)
def a_mid (x : AS) (t : Nat) : AS := if t = 0 ∨ rK x.1 t < 10 then a_flat x t else if ¬ x.2 t = 0 then x else a_midL t (rT x.1 + 1) (a_flat x t) (rMn x.1 t)
def a_mans (x : AS) (t : Nat) : Nat := if t = 0 then 0 else (a_mid x t).2 t
def a_topL (t u : Nat) (x : AS) : Nat → AS
  | 0 => x
  | k + 1 => (f_put (a_mid (a_topL t u x k) (iv (f_at (a_topL t u x k).1 t k))).1 u k (lN (a_mans (a_topL t u x k) (iv (f_at (a_topL t u x k).1 t k)))), (a_mid (a_topL t u x k) (iv (f_at (a_topL t u x k).1 t k))).2)
def a_top (x : AS) (t : Nat) : AS := if ¬ t = 0 ∧ rK x.1 t = 13 then a_topL t (a_fans x t) (a_flat x t) (rMn x.1 t) else a_mid x t
def a_tans (x : AS) (t : Nat) : Nat := if ¬ t = 0 ∧ rK x.1 t = 13 then a_fans x t else a_mans x t
def f_aside (r : RS) (C : Nat → Nat) (c f : Int32) : RS × Int32 := if !(f_in c 0 15) || !(f_in f 0 15) then (r, -2) else if 6000 ≤ rN r then (r, -3) else (sHd (a_top (r, clrH C (rT r + 1)) (rHd r (ix f))).1 (va_up (rHd r) (ix c) (a_tans (r, clrH C (rT r + 1)) (rHd r (ix f)))), 1)
def phi (M : Nat → Nat) (C : Nat → Nat) : Nat → Nat
  | 0 => 0
  | n + 1 => phi M C n + (if C (n + 1) = 0 then M (n + 1) else 0)
theorem phi_le (M C : Nat → Nat) : ∀ n, phi M C n ≤ psum M n := by
  intro n
  induction n with
  | zero => exact Nat.le_refl _
  | succ n ih => simp only [phi, psum]; split <;> omega
theorem phi_0 (M C : Nat → Nat) : ∀ n, (∀ t, t ≤ n → C t = 0) → phi M C n = psum M n := by
  intro n
  induction n with
  | zero => intro _; rfl
  | succ n ih => intro h; simp only [phi, psum]; rw [ih (fun t ht => h t (by omega)), if_pos (h _ (Nat.le_refl _))]
theorem phi_big (M C : Nat → Nat) (t v : Nat) : ∀ n, n < t → phi M (va_up C t v) n = phi M C n := by
  intro n
  induction n with
  | zero => intro _; rfl
  | succ n ih => intro h; simp only [phi]; rw [ih (by omega), va_up_ne _ _ (by omega)]
theorem phi_up (M C : Nat → Nat) {t v : Nat} (h1 : 1 ≤ t) (hc : C t = 0) (hv : v ≠ 0) : ∀ n, t ≤ n → phi M (va_up C t v) n + M t = phi M C n := by
  intro n
  induction n with
  | zero => intro h; omega
  | succ n ih =>
    intro h
    simp only [phi]
    by_cases he : t = n + 1
    · subst he
      rw [phi_big _ _ _ _ _ (by omega), va_up_self, if_neg hv, if_pos hc]
      omega
    · rw [va_up_ne _ _ (by omega), ← ih (by omega)]
      omega
theorem psum_mono (M : Nat → Nat) {a b : Nat} (h : a ≤ b) : psum M a ≤ psum M b := by
  induction b with
  | zero => rw [show a = 0 by omega]; exact Nat.le_refl _
  | succ b ih =>
    by_cases e : a = b + 1
    · rw [e]; exact Nat.le_refl _
    · have := ih (by omega)
      simp only [psum]; omega
/-- while an aside goes on -/
def AI (r0 : RS) (x : AS) : Prop := rT r0 ≤ rT x.1 ∧ (∀ t, t ≤ rT r0 → rK x.1 t = rK r0 t ∧ rMn x.1 t = rMn r0 t ∧ rS x.1 t = rS r0 t) ∧ (∀ q, q < rN r0 → rI x.1 q = rI r0 q) ∧ (∀ t, rT r0 < t → t ≤ rT x.1 → rN r0 ≤ rS x.1 t ∧ rS x.1 t + rMn x.1 t ≤ rN x.1) ∧ rN x.1 + phi (rMn r0) x.2 (rT r0) = 2 * rN r0 ∧ (∀ t, t ≤ rT r0 → x.2 t ≤ rT x.1) ∧ x.2 0 = 0 ∧ rHd x.1 = rHd r0 ∧ rM x.1 = rM r0 ∧ rIM x.1 = rIM r0 ∧ rN r0 ≤ rN x.1
theorem AI.at {r0 : RS} {x : AS} (h : AI r0 x) {k : Nat} (hI : Inv k r0) {t j : Nat} (ht : t ≤ rT r0) (hj : j < rMn r0 t) : f_at x.1 t j = f_at r0 t j := by
  have h1 := hI.tb t ht
  unfold f_at
  rw [(h.2.1 t ht).2.2]
  exact h.2.2.1 _ (by omega)
theorem AI.init {r0 : RS} {k : Nat} (hI : Inv k r0) (C : Nat → Nat) : AI r0 (r0, clrH C (rT r0 + 1)) := by
  have hc : ∀ t, t ≤ rT r0 → clrH C (rT r0 + 1) t = 0 := fun t ht => by simp [clrH]; omega
  refine ⟨Nat.le_refl _, fun t _ => ⟨rfl, rfl, rfl⟩, fun _ _ => rfl, fun t h1 h2 => absurd h1 (by exact Nat.not_lt.mpr h2), ?_, fun t ht => ?_, hc 0 (by omega), rfl, rfl, rfl, Nat.le_refl _⟩
  · show rN r0 + phi (rMn r0) (clrH C (rT r0 + 1)) (rT r0) = _
    rw [phi_0 _ _ _ hc, ← hI.2.2.2.2.2.2.1]; omega
  · show clrH C (rT r0 + 1) t ≤ _
    rw [hc t ht]; omega
theorem cpyI_low (I : Nat → Int64) (a b : Nat) : ∀ k q, q < b → cpyI I a b k q = I q := by
  intro k
  induction k with
  | zero => intro q _; rfl
  | succ k ih => intro q hq; rw [cpyI, va_up_ne _ _ (by omega), ih q hq]
theorem AI.flat {r0 : RS} {x : AS} (h : AI r0 x) {k : Nat} (hI : Inv k r0) {t : Nat} (ht : t ≤ rT r0) : AI r0 (a_flat x t) := by
  unfold a_flat
  by_cases hc : t = 0 ∨ ¬ x.2 t = 0
  · rw [if_pos hc]; exact h
  · rw [if_neg hc]
    have h0 : t ≠ 0 := fun q => hc (Or.inl q)
    have hc0 : x.2 t = 0 := Decidable.of_not_not (fun q => hc (Or.inr q))
    have hb := hI.tb t ht
    obtain ⟨e1, e2, e3⟩ := h.2.1 t ht
    have hps : rN r0 = psum (rMn r0) (rT r0) := hI.2.2.2.2.2.2.1
    have hphi := phi_up (rMn r0) x.2 (v := rT x.1 + 1) (show 1 ≤ t by omega) hc0 (by omega) _ ht
    have hT := h.1
    have h5 := h.2.2.2.2.1
    have h11 := h.2.2.2.2.2.2.2.2.2.2
    refine ⟨?_, fun q hq => ?_, fun q hq => ?_, fun q h1 h2 => ?_, ?_, fun q hq => ?_, ?_, h.2.2.2.2.2.2.2.1, h.2.2.2.2.2.2.2.2.1, h.2.2.2.2.2.2.2.2.2.1, ?_⟩
    · show rT r0 ≤ rT x.1 + 1; omega
    · have q1 := h.2.1 q hq
      refine ⟨?_, ?_, ?_⟩
      · show va_up (rK x.1) (rT x.1 + 1) _ q = _
        rw [va_up_ne _ _ (by omega)]; exact q1.1
      · show va_up (rMn x.1) (rT x.1 + 1) _ q = _
        rw [va_up_ne _ _ (by omega)]; exact q1.2.1
      · show va_up (rS x.1) (rT x.1 + 1) _ q = _
        rw [va_up_ne _ _ (by omega)]; exact q1.2.2
    · show cpyI (f_zero (rI x.1) (rN x.1) (rMn x.1 t)) _ (va_up (rS x.1) (rT x.1 + 1) (rN x.1) (rT x.1 + 1)) _ q = _
      rw [va_up_self, cpyI_low _ _ _ _ _ (by omega)]
      simp only [f_zero]
      rw [if_neg (by omega)]
      exact h.2.2.1 q hq
    · have h2' : q ≤ rT x.1 + 1 := h2
      show rN r0 ≤ va_up (rS x.1) (rT x.1 + 1) (rN x.1) q ∧ va_up (rS x.1) (rT x.1 + 1) (rN x.1) q + va_up (rMn x.1) (rT x.1 + 1) (rMn x.1 t) q ≤ rN x.1 + rMn x.1 t
      by_cases e : q = rT x.1 + 1
      · subst e; rw [va_up_self, va_up_self]; omega
      · rw [va_up_ne _ _ e, va_up_ne _ _ e]
        have := h.2.2.2.1 q h1 (by omega)
        omega
    · show rN x.1 + rMn x.1 t + phi (rMn r0) (va_up x.2 t (rT x.1 + 1)) (rT r0) = _
      omega
    · show va_up x.2 t (rT x.1 + 1) q ≤ rT x.1 + 1
      by_cases e : q = t
      · subst e; rw [va_up_self]; omega
      · rw [va_up_ne _ _ e]; have := h.2.2.2.2.2.1 q hq; omega
    · show va_up x.2 t (rT x.1 + 1) 0 = 0
      rw [va_up_ne _ _ (by omega)]; exact h.2.2.2.2.2.2.1
    · show rN r0 ≤ rN x.1 + rMn x.1 t; omega
theorem AI.put {r0 : RS} {x : AS} (h : AI r0 x) {u j : Nat} (v : Int64) (hu : rT r0 < u) (hu2 : u ≤ rT x.1) : AI r0 (f_put x.1 u j v, x.2) := by
  refine ⟨h.1, h.2.1, fun q hq => ?_, h.2.2.2.1, h.2.2.2.2⟩
  show va_up (rI x.1) (rS x.1 u + j) v q = _
  have := (h.2.2.2.1 u hu hu2).1
  rw [va_up_ne _ _ (by omega)]
  exact h.2.2.1 q hq
theorem a_flat_T (x : AS) (t : Nat) : rT (a_flat x t).1 ≤ rT x.1 + 1 ∧ rT x.1 ≤ rT (a_flat x t).1 ∧ rN x.1 ≤ rN (a_flat x t).1 := by
  unfold a_flat
  split
  · exact ⟨by omega, Nat.le_refl _, Nat.le_refl _⟩
  · exact ⟨Nat.le_refl _, by show _ ≤ rT x.1 + 1; omega, by show _ ≤ rN x.1 + _; omega⟩
theorem a_flat_new {x : AS} {t : Nat} (h0 : ¬ t = 0) (hc : x.2 t = 0) : a_flat x t = (f_cpy (f_table x.1 (rK x.1 t) (rMn x.1 t)) t (rT x.1 + 1) (rMn x.1 t), va_up x.2 t (rT x.1 + 1)) := by
  unfold a_flat
  rw [if_neg (fun q => q.elim h0 (fun q => q hc))]
theorem a_fans_le {r0 : RS} {x : AS} (h : AI r0 x) {k : Nat} (hI : Inv k r0) {t : Nat} (ht : t ≤ rT r0) : a_fans x t ≤ rT (a_flat x t).1 := by
  unfold a_fans
  split
  · omega
  · exact (h.flat hI ht).2.2.2.2.2.1 t ht
