/-! the invariant is kept: aside -/
def AK (r0 : RS) (x : AS) : Prop := IP x.1 ∧ ∀ t, t ≤ rT r0 → x.2 t ≠ 0 → x.2 t ≤ rT x.1 ∧ rK x.1 (x.2 t) = rK r0 t
theorem ak_flat {r0 : RS} {x : AS} {k t : Nat} (h : AV r0 x) (ha : AK r0 x) (hI : Inv k r0) (ht : t ≤ rT r0) : AK r0 (a_flat x t) := by
  unfold a_flat
  by_cases hc : t = 0 ∨ ¬ x.2 t = 0
  · rw [if_pos hc]; exact ha
  · rw [if_neg hc]
    have h0 : t ≠ 0 := fun q => hc (Or.inl q)
    have hT := h.1.1
    have e := h.1.2.1 t ht
    have hm := (h.2.2 t).2
    refine ⟨ha.1.flat h0 (by omega) (Nat.le_refl _) (Nat.le_refl _) hm, fun u hu hne => ?_⟩
    have hne' : va_up x.2 t (rT x.1 + 1) u ≠ 0 := hne
    show va_up x.2 t (rT x.1 + 1) u ≤ rT x.1 + 1 ∧ va_up (rK x.1) (rT x.1 + 1) (rK x.1 t) (va_up x.2 t (rT x.1 + 1) u) = rK r0 u
    by_cases q : u = t
    · subst q
      rw [va_up_self, va_up_self]
      exact ⟨Nat.le_refl _, e.1⟩
    · rw [va_up_ne _ _ q] at hne' ⊢
      obtain ⟨z1, z2⟩ := ha.2 u hu hne'
      rw [va_up_ne _ _ (by omega)]
      exact ⟨by omega, z2⟩
theorem ak_ok {r0 : RS} {z : AS} {w kd a : Nat} (hz : AK r0 z) (hw : w ≤ rT r0) (hk : w ≠ 0 → f_isOf r0 w (rkN kd) = true) (h10 : 10 ≤ kd) (ha : a = if w = 0 then 0 else z.2 w) : f_ok z.1 kd (lN a) := by
  by_cases w0 : w = 0
  · rw [if_pos w0] at ha; rw [ha]; exact ok_0 _ _
  · rw [if_neg w0] at ha
    by_cases a0 : a = 0
    · rw [a0]; exact ok_0 _ _
    · obtain ⟨q1, q2⟩ := hz.2 w hw (by rw [← ha]; exact a0)
      rw [← ha] at q1 q2
      refine Or.inr ⟨a, rfl, Or.inr (Or.inr (Or.inr ⟨h10, q1, ?_⟩))⟩
      have q3 := isOf_k (hk w0) w0
      unfold f_isOf
      rw [q2]
      simp only [Bool.or_eq_true, decide_eq_true_eq, Bool.and_eq_true]
      exact Or.inr (q3.imp id id)
theorem ak_put {r0 : RS} {z : AS} {u j : Nat} {v : Int64} (hz : AK r0 z) (hT : rT z.1 < 2 ^ 31) (hM : rM z.1 < 2 ^ 31) (u0 : u ≠ 0) (hu : u ≤ rT z.1) (hj : j < rMn z.1 u) (hv : f_ok z.1 (rK z.1 u) v) : AK r0 (f_put z.1 u j v, z.2) := ⟨hz.1.put hT hM u0 hu hj hv, hz.2⟩
theorem ak_midL {r0 : RS} {x : AS} {kk t u : Nat} (h : AV r0 x) (ha : AK r0 x) (hI : Inv kk r0) (h0 : t ≠ 0) (ht : t ≤ rT r0) (hk : 10 ≤ rK r0 t) (hu : rT r0 < u) (hu2 : u ≤ rT x.1) (hKu : rK x.1 u = rK r0 t) (hMu : rMn x.1 u = rMn r0 t) (hb : rT x.1 < 90000) : ∀ k, k ≤ rMn r0 t → AK r0 (a_midL t u x k) := by
  intro k
  induction k with
  | zero => intro _; exact ha
  | succ k ih =>
    intro hkm
    have hb0 := hI.bd
    obtain ⟨i1, i2, i3⟩ := midL_f h hI h0 ht hk hu hu2 hKu hMu hb k (by omega)
    have hm30 := (hI.tb t ht).2.1
    have hr := i1.1.row hI h0 ht (show k < rMn r0 t by omega) hk
    have hw : iv (f_at (a_midL t u x k).1 t k) ≤ rT r0 := by rw [hr.2.1]; exact hr.2.2.1
    have hf := i1.flat hI hw
    have hT := a_flat_T (a_midL t u x k) (iv (f_at (a_midL t u x k).1 t k))
    have hp := i2.tr ((PR.flat i1.2.1 (Nat.le_trans hw i1.1.1)).weak u k)
    have e := hp.2.1 u hu2
    have hz := ak_flat i1 (ih (by omega)) hI hw
    refine ak_put hz (by omega) (by rw [hf.1.2.2.2.2.2.2.2.2.1]; omega) (by omega) (Nat.le_trans hu2 hp.1.1) (by rw [e.2]; omega) ?_
    rw [e.1, hKu]
    exact ak_ok hz hw (fun q => by rw [hr.2.1] at q ⊢; exact hr.2.2.2 q) hk rfl
theorem ak_mid {r0 : RS} {x : AS} {kk t : Nat} (h : AV r0 x) (ha : AK r0 x) (hI : Inv kk r0) (ht : t ≤ rT r0) (hb : rT x.1 < 80000) : AK r0 (a_mid x t) := by
  have hf := h.flat hI ht
  obtain ⟨e1, e2, e3⟩ := h.1.2.1 t ht
  unfold a_mid
  by_cases hc : t = 0 ∨ rK x.1 t < 10
  · rw [if_pos hc]; exact ak_flat h ha hI ht
  · rw [if_neg hc]
    by_cases hc2 : ¬ x.2 t = 0
    · rw [if_pos hc2]; exact ha
    · rw [if_neg hc2]
      have h0 : ¬ t = 0 := fun q => hc (Or.inl q)
      have hc3 : x.2 t = 0 := Decidable.of_not_not hc2
      have en := a_flat_new (x := x) h0 hc3
      have eT : rT (a_flat x t).1 = rT x.1 + 1 := by rw [en]; rfl
      have eK : rK (a_flat x t).1 (rT x.1 + 1) = rK x.1 t := by rw [en]; exact va_up_self _ _ _
      have eM : rMn (a_flat x t).1 (rT x.1 + 1) = rMn x.1 t := by rw [en]; exact va_up_self _ _ _
      have hT := h.1.1
      exact ak_midL hf (ak_flat h ha hI ht) hI h0 ht (by omega) (show rT r0 < rT x.1 + 1 by omega) (by omega) (by omega) (by omega) (by omega) (rMn x.1 t) (by omega)
theorem ak_topL {r0 : RS} {x : AS} {kk t u : Nat} (h : AV r0 x) (ha : AK r0 x) (hI : Inv kk r0) (h0 : t ≠ 0) (ht : t ≤ rT r0) (hk : 10 ≤ rK r0 t) (hu : rT r0 < u) (hu2 : u ≤ rT x.1) (hKu : rK x.1 u = rK r0 t) (hMu : rMn x.1 u = rMn r0 t) (hb : rT x.1 < 40000) : ∀ k, k ≤ rMn r0 t → AK r0 (a_topL t u x k) := by
  intro k
  induction k with
  | zero => intro _; exact ha
  | succ k ih =>
    intro hkm
    have hb0 := hI.bd
    obtain ⟨i1, i2, i3⟩ := topL_f h hI h0 ht hk hu hu2 hKu hMu hb k (by omega)
    have j3 := (topL_f h hI h0 ht hk hu hu2 hKu hMu hb (k + 1) hkm).2.2
    have hm30 := (hI.tb t ht).2.1
    have hr := i1.1.row hI h0 ht (show k < rMn r0 t by omega) hk
    have hw : iv (f_at (a_topL t u x k).1 t k) ≤ rT r0 := by rw [hr.2.1]; exact hr.2.2.1
    obtain ⟨hf, hpm⟩ := mid_f i1 hI hw (by omega)
    have hp := i2.tr (hpm.weak u k)
    have e := hp.2.1 u hu2
    have eT : rT (a_topL t u x (k + 1)).1 = rT (a_mid (a_topL t u x k) (iv (f_at (a_topL t u x k).1 t k))).1 := rfl
    have hz := ak_mid i1 (ih (by omega)) hI hw (by omega)
    refine ak_put hz (by omega) (by rw [hf.1.2.2.2.2.2.2.2.2.1]; omega) (by omega) (Nat.le_trans hu2 hp.1.1) (by rw [e.2]; omega) ?_
    rw [e.1, hKu]
    exact ak_ok hz hw (fun q => by rw [hr.2.1] at q ⊢; exact hr.2.2.2 q) hk rfl
theorem ak_top {r : RS} {kk t : Nat} (C : Nat → Nat) (hI : Inv kk r) (hi : IP r) (ht : t ≤ rT r) : AK r (a_top (r, clrH C (rT r + 1)) t) ∧ rT (a_top (r, clrH C (rT r + 1)) t).1 + rN r ≤ rT r + 1 + rN (a_top (r, clrH C (rT r + 1)) t).1 := by
  have hb := hI.bd
  have hC : ∀ u, u ≤ rT r → clrH C (rT r + 1) u = 0 := fun u hu => by unfold clrH; rw [if_pos (by omega)]
  have hA : AV r (r, clrH C (rT r + 1)) := ⟨AI.init hI C, hi.1, hi.2.1⟩
  have hK : AK r (r, clrH C (rT r + 1)) := ⟨hi, fun u hu hne => absurd (hC u hu) hne⟩
  unfold a_top
  by_cases hc : ¬ t = 0 ∧ rK (r, clrH C (rT r + 1)).1 t = 13
  · rw [if_pos hc]
    obtain ⟨h0, h13⟩ := hc
    have h13 : rK r t = 13 := h13
    have hf := a_flat_new (x := (r, clrH C (rT r + 1))) h0 (hC t ht)
    have hT : rT (a_flat (r, clrH C (rT r + 1)) t).1 = rT r + 1 := by rw [hf]; rfl
    have hN : rN (a_flat (r, clrH C (rT r + 1)) t).1 = rN r + rMn r t := by rw [hf]; rfl
    have hF := hA.flat hI ht
    rw [fans_new (x := (r, clrH C (rT r + 1))) h0 (hC t ht)]
    have eK : rK (a_flat (r, clrH C (rT r + 1)) t).1 (rT r + 1) = rK r t := by rw [hf]; exact va_up_self _ _ _
    have eM : rMn (a_flat (r, clrH C (rT r + 1)) t).1 (rT r + 1) = rMn r t := by rw [hf]; exact va_up_self _ _ _
    refine ⟨ak_topL (u := rT r + 1) hF (ak_flat hA hK hI ht) hI h0 ht (by omega) (by omega) (Nat.le_of_eq hT.symm) eK eM (by omega) _ (Nat.le_refl _), ?_⟩
    have z := (hF.1.topL (u := rT r + 1) hI h0 ht (by omega) (by omega) (Nat.le_of_eq hT.symm) (rMn r t) (Nat.le_refl _)).2.1
    show rT (a_topL t (rT r + 1) (a_flat (r, clrH C (rT r + 1)) t) (rMn r t)).1 + rN r ≤ rT r + 1 + rN (a_topL t (rT r + 1) (a_flat (r, clrH C (rT r + 1)) t) (rMn r t)).1
    omega
  · rw [if_neg hc]
    exact ⟨ak_mid hA hK hI ht (by show rT r < 80000; omega), (hA.1.mid hI ht).2.1⟩
theorem lv_aside {k : Nat} {r : RS} (h : LV k r) (hk : k + 1 ≤ 512) (C : Nat → Nat) (c f : Int32) : LV (k + 1) (f_aside r C c f).1 ∧ MN r (f_aside r C c f).1 := by
  have hi := h.2.2.2.2
  have hI := h.inv
  have hs := h.same hk hi (SM.rf r)
  unfold f_aside
  split
  · exact ⟨hs, MN.rf⟩
  · split
    · exact ⟨hs, MN.rf⟩
    · rename_i hf
      have ht := hi.1.2.2 (ix f)
      obtain ⟨a1, a2, a3⟩ := top_av C hI hi.1 hi.2.1 ht
      obtain ⟨b1, b2⟩ := ak_top C hI hi ht
      have hN := a1.1.N
      have hHd : rHd (a_top (r, clrH C (rT r + 1)) (rHd r (ix f))).1 = rHd r := a1.1.2.2.2.2.2.2.2.1
      have hM : rM (a_top (r, clrH C (rT r + 1)) (rHd r (ix f))).1 = rM r := a1.1.2.2.2.2.2.2.2.2.1
      have z := b1.1.hd (ix c) a3
      rw [hHd] at z
      obtain ⟨h1, h2, h3, h4, -⟩ := h
      refine ⟨⟨hk, ?_, ?_, ?_, z⟩, a2⟩
      · show rT (a_top (r, clrH C (rT r + 1)) (rHd r (ix f))).1 ≤ rN (a_top (r, clrH C (rT r + 1)) (rHd r (ix f))).1 + (k + 1); omega
      · show rN (a_top (r, clrH C (rT r + 1)) (rHd r (ix f))).1 ≤ 12000; omega
      · show rM (a_top (r, clrH C (rT r + 1)) (rHd r (ix f))).1 ≤ k + 1; omega
theorem lv_init : LV 0 r_init := by
  refine ⟨Nat.zero_le _, Nat.le_refl _, Nat.zero_le _, Nat.le_refl _, ⟨⟨fun t a b => ?_, rfl⟩, fun t a b => ?_, fun j => Nat.le_refl _⟩, fun w => ⟨Nat.zero_le _, Nat.zero_le _⟩, fun t a b => ?_, rfl, rfl⟩
  · have b' : t ≤ 0 := b
    omega
  · have b' : t ≤ 0 := b
    omega
  · have b' : t ≤ 0 := b
    omega
