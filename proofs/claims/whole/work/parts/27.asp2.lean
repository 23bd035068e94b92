theorem AI.row {r0 : RS} {x : AS} (h : AI r0 x) {k : Nat} (hI : Inv k r0) {t j : Nat} (h0 : t ≠ 0) (ht : t ≤ rT r0) (hj : j < rMn r0 t) (hk : 10 ≤ rK r0 t) : f_at x.1 t j = lN (iv (f_at r0 t j)) ∧ iv (f_at x.1 t j) = iv (f_at r0 t j) ∧ iv (f_at r0 t j) ≤ rT r0 ∧ (iv (f_at r0 t j) ≠ 0 → f_isOf r0 (iv (f_at r0 t j)) (rkN (rK r0 t)) = true) := by
  have e := h.at hI ht hj
  have hit := hI.it h0 ht hj (by omega)
  rw [e]
  exact ⟨hit.1, rfl, (hit.2.2.2.2 hk).1, (hit.2.2.2.2 hk).2⟩
theorem AI.midL {r0 : RS} {x : AS} (h : AI r0 x) {kk : Nat} (hI : Inv kk r0) {t u : Nat} (h0 : t ≠ 0) (ht : t ≤ rT r0) (hk : 10 ≤ rK r0 t) (hu : rT r0 < u) (hu2 : u ≤ rT x.1) : ∀ k, k ≤ rMn r0 t → AI r0 (a_midL t u x k) ∧ rT (a_midL t u x k).1 ≤ rT x.1 + k ∧ rT x.1 ≤ rT (a_midL t u x k).1 ∧ rN x.1 ≤ rN (a_midL t u x k).1 := by
  intro k
  induction k with
  | zero => intro _; exact ⟨h, Nat.le_refl _, Nat.le_refl _, Nat.le_refl _⟩
  | succ k ih =>
    intro hkm
    obtain ⟨i1, i2, i3, i4⟩ := ih (by omega)
    have hr := i1.row hI h0 ht (show k < rMn r0 t by omega) hk
    have hw : iv (f_at (a_midL t u x k).1 t k) ≤ rT r0 := by rw [hr.2.1]; exact hr.2.2.1
    have hf := i1.flat hI hw
    have hT := a_flat_T (a_midL t u x k) (iv (f_at (a_midL t u x k).1 t k))
    refine ⟨hf.put _ hu (by omega), ?_, ?_, ?_⟩
    · show rT (a_flat _ _).1 ≤ _; omega
    · show _ ≤ rT (a_flat _ _).1; omega
    · show _ ≤ rN (a_flat _ _).1; omega
theorem AI.mid {r0 : RS} {x : AS} (h : AI r0 x) {kk : Nat} (hI : Inv kk r0) {t : Nat} (ht : t ≤ rT r0) : AI r0 (a_mid x t) ∧ rT (a_mid x t).1 + rN x.1 ≤ rT x.1 + 1 + rN (a_mid x t).1 ∧ rT x.1 ≤ rT (a_mid x t).1 ∧ rN x.1 ≤ rN (a_mid x t).1 := by
  have hT := a_flat_T x t
  have hb := hI.tb t ht
  obtain ⟨e1, e2, e3⟩ := h.2.1 t ht
  unfold a_mid
  by_cases hc : t = 0 ∨ rK x.1 t < 10
  · rw [if_pos hc]
    exact ⟨h.flat hI ht, by omega, hT.2.1, hT.2.2⟩
  · rw [if_neg hc]
    by_cases hc2 : ¬ x.2 t = 0
    · rw [if_pos hc2]
      exact ⟨h, by omega, Nat.le_refl _, Nat.le_refl _⟩
    · rw [if_neg hc2]
      have h0 : ¬ t = 0 := fun q => hc (Or.inl q)
      have hc3 : x.2 t = 0 := Decidable.of_not_not hc2
      have en := a_flat_new (x := x) h0 hc3
      have eT : rT (a_flat x t).1 = rT x.1 + 1 := by rw [en]; rfl
      have eN : rN (a_flat x t).1 = rN x.1 + rMn x.1 t := by rw [en]; rfl
      have hm := (h.flat hI ht).midL hI h0 ht (by omega) (show rT r0 < rT x.1 + 1 by have := h.1; omega) (by omega) (rMn x.1 t) (by omega)
      exact ⟨hm.1, by omega, by omega, by omega⟩
theorem a_mid_C {x : AS} {t : Nat} (h0 : ¬ t = 0) (h10 : ¬ rK x.1 t < 10) (hc : ¬ x.2 t = 0) : a_mid x t = x := by
  unfold a_mid; rw [if_neg (fun q => q.elim h0 h10), if_pos hc]
theorem a_mid_L {x : AS} {t : Nat} (h0 : ¬ t = 0) (h10 : ¬ rK x.1 t < 10) (hc : x.2 t = 0) : a_mid x t = a_midL t (rT x.1 + 1) (a_flat x t) (rMn x.1 t) := by
  unfold a_mid; rw [if_neg (fun q => q.elim h0 h10), if_neg (fun q => q hc)]
theorem a_mid_F {x : AS} {t : Nat} (h : t = 0 ∨ rK x.1 t < 10) : a_mid x t = a_flat x t := by
  unfold a_mid; rw [if_pos h]
theorem AI.topL {r0 : RS} {x : AS} (h : AI r0 x) {kk : Nat} (hI : Inv kk r0) {t u : Nat} (h0 : t ≠ 0) (ht : t ≤ rT r0) (hk : 10 ≤ rK r0 t) (hu : rT r0 < u) (hu2 : u ≤ rT x.1) : ∀ k, k ≤ rMn r0 t → AI r0 (a_topL t u x k) ∧ rT (a_topL t u x k).1 + rN x.1 ≤ rT x.1 + k + rN (a_topL t u x k).1 ∧ rT x.1 ≤ rT (a_topL t u x k).1 ∧ rN x.1 ≤ rN (a_topL t u x k).1 := by
  intro k
  induction k with
  | zero => intro _; exact ⟨h, Nat.le_refl _, Nat.le_refl _, Nat.le_refl _⟩
  | succ k ih =>
    intro hkm
    obtain ⟨i1, i2, i3, i4⟩ := ih (by omega)
    have hr := i1.row hI h0 ht (show k < rMn r0 t by omega) hk
    have hw : iv (f_at (a_topL t u x k).1 t k) ≤ rT r0 := by rw [hr.2.1]; exact hr.2.2.1
    obtain ⟨j1, j2, j3, j4⟩ := i1.mid hI hw
    refine ⟨j1.put _ hu (by omega), ?_, ?_, ?_⟩
    · show rT (a_mid _ _).1 + _ ≤ _ + rN (a_mid _ _).1; omega
    · show _ ≤ rT (a_mid _ _).1; omega
    · show _ ≤ rN (a_mid _ _).1; omega
theorem AI.N {r0 : RS} {x : AS} (h : AI r0 x) : rN x.1 ≤ 2 * rN r0 := by
  have := h.2.2.2.2.1
  omega
theorem a_mans_le {r0 : RS} {x : AS} (h : AI r0 x) {k : Nat} (hI : Inv k r0) {t : Nat} (ht : t ≤ rT r0) : a_mans x t ≤ rT (a_mid x t).1 := by
  unfold a_mans
  split
  · omega
  · exact (h.mid hI ht).1.2.2.2.2.2.1 t ht
theorem AI.fh {r0 : RS} {x : AS} (h : AI r0 x) {k : Nat} (hI : Inv k r0) (hf : rN r0 < 6000) {t : Nat} (ht : t ≤ rT r0) : t ≤ rT x.1 ∧ rK x.1 t ≤ 13 ∧ rMn x.1 t ≤ 30 ∧ rS x.1 t + rMn x.1 t ≤ rN x.1 ∧ (¬ t = 0 → x.2 t = 0 → rN x.1 + rMn x.1 t ≤ 12200) ∧ rN x.1 ≤ 12200 ∧ x.2 t ≤ rT x.1 := by
  have hb := hI.tb t ht
  obtain ⟨e1, e2, e3⟩ := h.2.1 t ht
  have h5 := h.2.2.2.2.1
  have h11 := h.2.2.2.2.2.2.2.2.2.2
  refine ⟨Nat.le_trans ht h.1, by omega, by omega, by omega, fun h0 hc => ?_, by omega, h.2.2.2.2.2.1 t ht⟩
  have hphi := phi_up (rMn r0) x.2 (v := 1) (show 1 ≤ t by omega) hc (by omega) _ ht
  omega
