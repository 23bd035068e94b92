/-! the class: twins: more pure facts -/
theorem c_ref_th {r : RS} {u j : Nat} (ad : Nat → Nat) (h10 : rK r u < 10) (h8 : 8 ≤ rK r u) (hv : IV r u) (hj : j < rMn r u) : c_ref ad (rK r u) (f_at r u j) = none ∨ ∃ w, w ≠ 0 ∧ w ≤ rM r ∧ w = iv (f_at r u j) ∧ c_ref ad (rK r u) (f_at r u j) = some (ad (3 * w + 2)) := by
  obtain ⟨z1, z2, z3⟩ := hv j hj h8
  unfold c_ref
  by_cases hz : f_at r u j = 0
  · exact Or.inl (if_pos hz)
  · exact Or.inr ⟨iv (f_at r u j), fun q => hz (by rw [z1, q]; rfl), z2 h10, rfl, by rw [if_neg hz, if_pos h10]⟩
theorem c_ref_tb {T : Nat} {kd : Nat} {v : Int64} (ad : Nat → Nat) (h10 : 10 ≤ kd) (z1 : v = lN (iv v)) (z3 : iv v ≤ T) : (v = 0 ∧ c_ref ad kd v = none) ∨ ∃ w, v = lN w ∧ w = iv v ∧ w ≠ 0 ∧ w ≤ T ∧ c_ref ad kd v = some (ad (3 * w)) := by
  unfold c_ref
  by_cases hz : v = 0
  · exact Or.inl ⟨hz, if_pos hz⟩
  · exact Or.inr ⟨iv v, z1, rfl, fun q => hz (by rw [z1, q]; rfl), z3, by rw [if_neg hz, if_neg (by omega)]⟩
theorem col_ref {ad : Nat → Nat} {kd w : Nat} (h10 : 10 ≤ kd) (hw : w < 2 ^ 31) : c_col ad w = c_ref ad kd (lN w) := by
  unfold c_col c_ref
  by_cases h : w = 0
  · subst h; rw [if_pos rfl, if_pos (show lN 0 = 0 from rfl)]
  · rw [if_neg h, if_neg (lN_0 hw h), if_neg (by omega), iv_lN hw]
theorem col_any {s : State} {H : Heap} {D : va_G} {cy : Nat → ClassId} {A : Nat → Prop} {r : RS} {g : CG} {w : Nat} (hK : KK D cy s) (hC : CR D cy A r g H) (hw : w ≤ rT r) : ∀ a, c_col (gA g) w = some a → va_Any RX1 s H a := by
  intro a ha
  unfold c_col at ha
  by_cases h : w = 0
  · rw [if_pos h] at ha; cases ha
  · rw [if_neg h] at ha; cases ha; exact c_anyIt hK hC h hw
theorem a_flat_MN (x : AS) (t : Nat) : MN x.1 (a_flat x t).1 := by
  unfold a_flat
  split
  · exact MN.rf
  · exact ⟨Nat.le_succ _, Nat.le_add_right _ _, Nat.le_refl _⟩
theorem a_flat_0 {x : AS} {t : Nat} (h : t = 0) : a_flat x t = x := if_pos (Or.inl h)
theorem a_fans_0 {x : AS} {t : Nat} (h : t = 0) : a_fans x t = 0 := if_pos h
theorem a_mans_0 {x : AS} {t : Nat} (h : t = 0) : a_mans x t = 0 := if_pos h
theorem a_mid_0 {x : AS} {t : Nat} (h : t = 0) : a_mid x t = x := (a_mid_F (Or.inl h)).trans (a_flat_0 h)
theorem midL_mono (t u : Nat) (x : AS) {k k' : Nat} (h : k ≤ k') : MN (a_midL t u x k).1 (a_midL t u x k').1 := by
  induction k' with
  | zero => rw [show k = 0 by omega]; exact MN.rf
  | succ n ih =>
    by_cases q : k = n + 1
    · rw [q]; exact MN.rf
    · exact (ih (by omega)).tr (a_flat_MN (a_midL t u x n) _)
theorem a_mid_MN (x : AS) (t : Nat) : MN x.1 (a_mid x t).1 := by
  unfold a_mid
  split
  · exact a_flat_MN x t
  · split
    · exact MN.rf
    · exact (a_flat_MN x t).tr (midL_mono t (rT x.1 + 1) (a_flat x t) (Nat.zero_le _))
theorem topL_mono (t u : Nat) (x : AS) {k k' : Nat} (h : k ≤ k') : MN (a_topL t u x k).1 (a_topL t u x k').1 := by
  induction k' with
  | zero => rw [show k = 0 by omega]; exact MN.rf
  | succ n ih =>
    by_cases q : k = n + 1
    · rw [q]; exact MN.rf
    · exact (ih (by omega)).tr (a_mid_MN (a_topL t u x n) _)
theorem flat_mid_MN {x : AS} {t : Nat} (h0 : ¬ t = 0) (hc : x.2 t = 0) : MN (a_flat x t).1 (a_mid x t).1 := by
  unfold a_mid
  split
  · exact MN.rf
  · exact midL_mono t (rT x.1 + 1) (a_flat x t) (Nat.zero_le _)
theorem flat_top_MN {x : AS} {t : Nat} (h0 : ¬ t = 0) (hc : x.2 t = 0) : MN (a_flat x t).1 (a_top x t).1 := by
  unfold a_top
  split
  · exact topL_mono t (a_fans x t) (a_flat x t) (Nat.zero_le _)
  · exact flat_mid_MN h0 hc
theorem a_flat_C {x : AS} {t : Nat} (h : x.2 t ≠ 0) (w : Nat) : (a_flat x w).2 t = x.2 t := by
  unfold a_flat
  by_cases hc : w = 0 ∨ ¬ x.2 w = 0
  · rw [if_pos hc]
  · rw [if_neg hc]
    exact va_up_ne _ _ (fun e => hc (Or.inr (by rw [← e]; exact h)))
theorem midL_C {t u : Nat} {x : AS} (v : Nat) (h : x.2 v ≠ 0) : ∀ k, (a_midL t u x k).2 v = x.2 v := by
  intro k
  induction k with
  | zero => rfl
  | succ k ih =>
    show (a_flat (a_midL t u x k) _).2 v = _
    rw [a_flat_C (by rw [ih]; exact h), ih]
theorem flat_C_new {x : AS} {t : Nat} (h0 : ¬ t = 0) (hc : x.2 t = 0) : (a_flat x t).2 t = rT x.1 + 1 := by
  rw [a_flat_new h0 hc]; exact va_up_self _ _ _
theorem fans_new {x : AS} {t : Nat} (h0 : ¬ t = 0) (hc : x.2 t = 0) : a_fans x t = rT x.1 + 1 := by
  unfold a_fans
  rw [if_neg h0, flat_C_new h0 hc]
theorem mans_new {x : AS} {t : Nat} (h0 : ¬ t = 0) (hc : x.2 t = 0) : a_mans x t = rT x.1 + 1 := by
  unfold a_mans
  rw [if_neg h0]
  by_cases h10 : rK x.1 t < 10
  · rw [a_mid_F (Or.inr h10), flat_C_new h0 hc]
  · rw [a_mid_L h0 h10 hc, midL_C t (by rw [flat_C_new h0 hc]; omega), flat_C_new h0 hc]
theorem tans_new {x : AS} {t : Nat} (h0 : ¬ t = 0) (hc : x.2 t = 0) : a_tans x t = rT x.1 + 1 := by
  unfold a_tans
  split
  · exact fans_new h0 hc
  · exact mans_new h0 hc
theorem fans_old {x : AS} {t : Nat} (h0 : ¬ t = 0) (hc : ¬ x.2 t = 0) : a_flat x t = x ∧ a_fans x t = x.2 t := by
  have e : a_flat x t = x := if_pos (Or.inr hc)
  refine ⟨e, ?_⟩
  unfold a_fans
  rw [if_neg h0, e]
theorem mans_old {x : AS} {t : Nat} (h0 : ¬ t = 0) (hc : ¬ x.2 t = 0) : a_mid x t = x ∧ a_mans x t = x.2 t := by
  have e : a_mid x t = x := by
    by_cases h10 : rK x.1 t < 10
    · rw [a_mid_F (Or.inr h10)]; exact (fans_old h0 hc).1
    · exact a_mid_C h0 h10 hc
  refine ⟨e, ?_⟩
  unfold a_mans
  rw [if_neg h0, e]
theorem midL_0 {t u k : Nat} {x : AS} (h1 : iv (f_at (a_midL t u x k).1 t k) = 0) (h2 : f_at (a_midL t u x k).1 u k = 0) : a_midL t u x (k + 1) = a_midL t u x k := by
  show (f_put (a_flat (a_midL t u x k) (iv (f_at (a_midL t u x k).1 t k))).1 u k (lN (a_fans (a_midL t u x k) (iv (f_at (a_midL t u x k).1 t k)))), (a_flat (a_midL t u x k) (iv (f_at (a_midL t u x k).1 t k))).2) = _
  rw [h1, a_flat_0 rfl, a_fans_0 rfl, f_put_same _ _ _ (show f_at _ u k = lN 0 from h2)]
theorem topL_0 {t u k : Nat} {x : AS} (h1 : iv (f_at (a_topL t u x k).1 t k) = 0) (h2 : f_at (a_topL t u x k).1 u k = 0) : a_topL t u x (k + 1) = a_topL t u x k := by
  show (f_put (a_mid (a_topL t u x k) (iv (f_at (a_topL t u x k).1 t k))).1 u k (lN (a_mans (a_topL t u x k) (iv (f_at (a_topL t u x k).1 t k)))), (a_mid (a_topL t u x k) (iv (f_at (a_topL t u x k).1 t k))).2) = _
  rw [h1, a_mid_0 rfl, a_mans_0 rfl, f_put_same _ _ _ (show f_at _ u k = lN 0 from h2)]
theorem midL_1 {t u k w : Nat} {x : AS} (h1 : iv (f_at (a_midL t u x k).1 t k) = w) : a_midL t u x (k + 1) = (f_put (a_flat (a_midL t u x k) w).1 u k (lN (a_fans (a_midL t u x k) w)), (a_flat (a_midL t u x k) w).2) := by
  show (f_put (a_flat (a_midL t u x k) (iv (f_at (a_midL t u x k).1 t k))).1 u k (lN (a_fans (a_midL t u x k) (iv (f_at (a_midL t u x k).1 t k)))), (a_flat (a_midL t u x k) (iv (f_at (a_midL t u x k).1 t k))).2) = _
  rw [h1]
theorem topL_1 {t u k w : Nat} {x : AS} (h1 : iv (f_at (a_topL t u x k).1 t k) = w) : a_topL t u x (k + 1) = (f_put (a_mid (a_topL t u x k) w).1 u k (lN (a_mans (a_topL t u x k) w)), (a_mid (a_topL t u x k) w).2) := by
  show (f_put (a_mid (a_topL t u x k) (iv (f_at (a_topL t u x k).1 t k))).1 u k (lN (a_mans (a_topL t u x k) (iv (f_at (a_topL t u x k).1 t k)))), (a_mid (a_topL t u x k) (iv (f_at (a_topL t u x k).1 t k))).2) = _
  rw [h1]
theorem GY.st {r r' r2 : RS} {g g' : CG} (h : GY r g r' g') (h1 : rT r2 = rT r') (h2 : rM r2 = rM r') : GY r g r2 g' := h.tr (GY.rf h1 h2)
theorem row_k {r0 : RS} {t w : Nat} (hk : rK r0 t ≤ 13) (hk10 : 10 ≤ rK r0 t) (h0 : w ≠ 0) (h : f_isOf r0 w (rkN (rK r0 t)) = true) : (rK r0 t < 13 → rK r0 w < 10) ∧ rK r0 w < 13 := by
  simp only [f_isOf, Bool.or_eq_true, Bool.and_eq_true, decide_eq_true_eq] at h
  have hrk : rkN (rK r0 t) ≤ 10 ∧ (rK r0 t < 13 → rkN (rK r0 t) < 10) := by
    rcases (show rK r0 t = 10 ∨ rK r0 t = 11 ∨ rK r0 t = 12 ∨ rK r0 t = 13 by omega) with z | z | z | z <;> rw [z] <;> decide
  rcases h with q | q | q
  · exact absurd q h0
  · exact ⟨fun z => by have := hrk.2 z; omega, by omega⟩
  · exact ⟨fun _ => by omega, by omega⟩
