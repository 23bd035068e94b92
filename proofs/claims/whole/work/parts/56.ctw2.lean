/-! the class: twins: what holds while an aside goes on -/
theorem str_ok {r : RS} {t c : Nat} (hm : rMn r t ≤ 30) (hc : c ≤ rMn r t) : f_str r t 0 (nI c) = true := by
  unfold f_str
  rw [decide_eq_false (show ¬ ((0 : Int32) < 0) by decide), decide_eq_false (nI_pos (show c < 2 ^ 31 by omega)), pk_sub hc, decide_eq_false (nI_pos (show rMn r t - c < 2 ^ 31 by omega))]
  rfl
theorem tr_flat {r : RS} (hV : VR r) {t n c : Nat} (h0 : t ≠ 0) (ht : t ≤ rT r) (hc : c ≤ rMn r t) (hcn : c ≤ n) (hn : n ≤ 30) (hcan : ∀ q, q < c → f_canStand r t (f_at r t q) t = true) : f_tr (f_table r (rK r t) n) t (rT r + 1) 0 0 (nI c) = (f_cpy (f_table r (rK r t) n) t (rT r + 1) c, nI c) := by
  have hv := hV.2.1 t h0 ht
  have eK : rK (f_table r (rK r t) n) t = rK r t := va_up_ne _ _ (by omega)
  have eK2 : rK (f_table r (rK r t) n) (rT r + 1) = rK r t := va_up_self _ _ _
  have eM : rMn (f_table r (rK r t) n) t = rMn r t := va_up_ne _ _ (by omega)
  have eM2 : rMn (f_table r (rK r t) n) (rT r + 1) = n := va_up_self _ _ _
  have hcp : f_cpo (f_table r (rK r t) n) t (rT r + 1) 0 0 (nI c) = false := by
    rw [str_cpo (by rw [eM]; exact hv.2.1) (by rw [eM2]; exact hn), str_ok (by rw [eM]; exact hv.2.1) (by rw [eM]; exact hc), str_ok (by rw [eM2]; exact hn) (by rw [eM2]; exact hcn)]
    rfl
  unfold f_tr
  rw [hcp, ix_nI (show c < 2 ^ 31 by omega), show ix 0 = 0 from rfl, flat_eq hV.1 (rK r t) h0 ht hc hn]
  have e := come_all (r := f_table r (rK r t) n) (a := t) (b := rT r + 1) (j := 0) (n := c) (v := fun q => f_at (f_table r (rK r t) n) t (0 + q)) (fun q hq => by
    show f_canStand (f_table r (rK r t) n) t (f_at (f_table r (rK r t) n) t (0 + q)) (rT r + 1) = true
    rw [Nat.zero_add, at_table hV.1 h0 ht (show q < rMn r t by omega), can_congr (r := r) (b := t) eK eK2 rfl (fun h10 => va_up_ne _ _ (by have := (hv.2.2 q (by omega) (by omega)).2.2 h10; omega))]
    exact hcan q hq)
  rw [if_neg (by decide), e, Nat.add_zero]
  simp only [Nat.zero_add]
def PR (ex k : Nat) (x y : AS) : Prop := MN x.1 y.1 ∧ (∀ w, w ≤ rT x.1 → rK y.1 w = rK x.1 w ∧ rMn y.1 w = rMn x.1 w) ∧ (∀ v, v ≠ 0 → v ≤ rT x.1 → ∀ q, q < rMn x.1 v → (v = ex → k ≤ q) → f_at y.1 v q = f_at x.1 v q) ∧ rM y.1 = rM x.1
theorem PR.rf (ex k : Nat) (x : AS) : PR ex k x x := ⟨MN.rf, fun _ _ => ⟨rfl, rfl⟩, fun _ _ _ _ _ _ => rfl, rfl⟩
theorem PR.tr {ex k : Nat} {x y z : AS} (h : PR ex k x y) (h2 : PR ex k y z) : PR ex k x z := ⟨h.1.tr h2.1, fun w hw => ⟨(h2.2.1 w (Nat.le_trans hw h.1.1)).1.trans (h.2.1 w hw).1, (h2.2.1 w (Nat.le_trans hw h.1.1)).2.trans (h.2.1 w hw).2⟩, fun v v0 hv q hq he => (h2.2.2.1 v v0 (Nat.le_trans hv h.1.1) q (by rw [(h.2.1 v hv).2]; exact hq) he).trans (h.2.2.1 v v0 hv q hq he), h2.2.2.2.trans h.2.2.2⟩
theorem PR.weak {x y : AS} (h : PR 0 0 x y) (ex k : Nat) : PR ex k x y := ⟨h.1, h.2.1, fun v v0 hv q hq _ => h.2.2.1 v v0 hv q hq (fun z => absurd z v0), h.2.2.2⟩
theorem PR.flat {x : AS} (hV : VR x.1) {t : Nat} (ht : t ≤ rT x.1) : PR 0 0 x (a_flat x t) := by
  unfold a_flat
  by_cases hc : t = 0 ∨ ¬ x.2 t = 0
  · rw [if_pos hc]; exact PR.rf 0 0 x
  · rw [if_neg hc]
    have h0 : t ≠ 0 := fun q => hc (Or.inl q)
    have hm := (hV.2.1 t h0 ht).2.1
    exact ⟨⟨Nat.le_succ _, Nat.le_add_right _ _, Nat.le_refl _⟩, fun w hw => ⟨va_up_ne _ _ (by omega), va_up_ne _ _ (by omega)⟩, fun v v0 hv q hq _ => flat_old hV.1 h0 ht (Nat.le_refl _) (Nat.le_refl _) hm v0 hv hq, rfl⟩
theorem AV.flat {r0 : RS} {x : AS} {k t : Nat} (h : AV r0 x) (hI : Inv k r0) (ht : t ≤ rT r0) : AV r0 (a_flat x t) := by
  refine ⟨h.1.flat hI ht, ?_, ?_⟩
  · unfold a_flat
    by_cases hc : t = 0 ∨ ¬ x.2 t = 0
    · rw [if_pos hc]; exact h.2.1
    · rw [if_neg hc]
      have h0 : t ≠ 0 := fun q => hc (Or.inl q)
      have ht' := Nat.le_trans ht h.1.1
      exact h.2.1.flat h0 ht' (Nat.le_refl _) (Nat.le_refl _) (h.2.1.2.1 t h0 ht').2.1
  · unfold a_flat
    by_cases hc : t = 0 ∨ ¬ x.2 t = 0
    · rw [if_pos hc]; exact h.2.2
    · rw [if_neg hc]
      exact h.2.2.table (h.2.2 t).1 (h.2.2 t).2
theorem AV.put {r0 : RS} {z : AS} {u j w : Nat} (h : AV r0 z) (hu : rT r0 < u) (hu2 : u ≤ rT z.1) (hj : j < rMn z.1 u) (h10 : 10 ≤ rK z.1 u) (hw : w ≤ rT z.1) (hb : w < 2 ^ 31) : AV r0 (f_put z.1 u j (lN w), z.2) := ⟨h.1.put _ hu hu2, h.2.1.put (by omega) hu2 hj (fun _ => by rw [iv_lN hb]; exact ⟨rfl, fun q => by omega, fun _ => hw⟩), h.2.2⟩
theorem PR.put {u k w : Nat} {x z : AS} (h : PR u k x z) (hV : VR z.1) (hu0 : u ≠ 0) (hu : u ≤ rT x.1) (hj : k < rMn x.1 u) : PR u (k + 1) x (f_put z.1 u k (lN w), z.2) := by
  refine ⟨h.1, h.2.1, fun v v0 hv q hq he => ?_, h.2.2.2⟩
  have hj' : k < rMn z.1 u := by rw [(h.2.1 u hu).2]; exact hj
  have hq' : q < rMn z.1 v := by rw [(h.2.1 v hv).2]; exact hq
  show f_at (f_put z.1 u k (lN w)) v q = _
  rw [at_put hV.1 _ hu0 (Nat.le_trans hu h.1.1) hj' v0 (Nat.le_trans hv h.1.1) hq', if_neg (fun e => by have := he e.1; omega)]
  exact h.2.2.1 v v0 hv q hq (fun e => by have := he e; omega)
theorem midL_f {r0 : RS} {x : AS} {kk t u : Nat} (h : AV r0 x) (hI : Inv kk r0) (h0 : t ≠ 0) (ht : t ≤ rT r0) (hk : 10 ≤ rK r0 t) (hu : rT r0 < u) (hu2 : u ≤ rT x.1) (hKu : rK x.1 u = rK r0 t) (hMu : rMn x.1 u = rMn r0 t) (hb : rT x.1 < 90000) : ∀ k, k ≤ rMn r0 t → AV r0 (a_midL t u x k) ∧ PR u k x (a_midL t u x k) ∧ rT (a_midL t u x k).1 ≤ rT x.1 + k := by
  intro k
  induction k with
  | zero => intro _; exact ⟨h, PR.rf u 0 x, Nat.le_refl _⟩
  | succ k ih =>
    intro hkm
    obtain ⟨i1, i2, i3⟩ := ih (by omega)
    have hm30 := (hI.tb t ht).2.1
    have hr := i1.1.row hI h0 ht (show k < rMn r0 t by omega) hk
    have hw : iv (f_at (a_midL t u x k).1 t k) ≤ rT r0 := by rw [hr.2.1]; exact hr.2.2.1
    have hf := i1.flat hI hw
    have hT := a_flat_T (a_midL t u x k) (iv (f_at (a_midL t u x k).1 t k))
    have hp := i2.tr ((PR.flat i1.2.1 (Nat.le_trans hw i1.1.1)).weak u k)
    have hle := a_fans_le i1.1 hI hw
    have e := hp.2.1 u hu2
    refine ⟨hf.put hu (Nat.le_trans hu2 hp.1.1) (by rw [e.2]; omega) (by rw [e.1]; omega) hle (by omega), hp.put hf.2.1 (by omega) hu2 (by omega), ?_⟩
    show rT (a_flat _ _).1 ≤ _
    omega
theorem mid_f {r0 : RS} {x : AS} {kk t : Nat} (h : AV r0 x) (hI : Inv kk r0) (ht : t ≤ rT r0) (hb : rT x.1 < 80000) : AV r0 (a_mid x t) ∧ PR 0 0 x (a_mid x t) := by
  have hf := h.flat hI ht
  have hpf := PR.flat h.2.1 (Nat.le_trans ht h.1.1)
  obtain ⟨e1, e2, e3⟩ := h.1.2.1 t ht
  unfold a_mid
  by_cases hc : t = 0 ∨ rK x.1 t < 10
  · rw [if_pos hc]; exact ⟨hf, hpf⟩
  · rw [if_neg hc]
    by_cases hc2 : ¬ x.2 t = 0
    · rw [if_pos hc2]; exact ⟨h, PR.rf 0 0 x⟩
    · rw [if_neg hc2]
      have h0 : ¬ t = 0 := fun q => hc (Or.inl q)
      have hc3 : x.2 t = 0 := Decidable.of_not_not hc2
      have en := a_flat_new (x := x) h0 hc3
      have eT : rT (a_flat x t).1 = rT x.1 + 1 := by rw [en]; rfl
      have eK : rK (a_flat x t).1 (rT x.1 + 1) = rK x.1 t := by rw [en]; exact va_up_self _ _ _
      have eM : rMn (a_flat x t).1 (rT x.1 + 1) = rMn x.1 t := by rw [en]; exact va_up_self _ _ _
      have hT := h.1.1
      obtain ⟨m1, m2, m3⟩ := midL_f hf hI h0 ht (by omega) (show rT r0 < rT x.1 + 1 by omega) (by omega) (by omega) (by omega) (by omega) (rMn x.1 t) (by omega)
      refine ⟨m1, hpf.1.tr m2.1, fun w hw => ?_, fun v v0 hv q hq _ => ?_, m2.2.2.2.trans hpf.2.2.2⟩
      · have a1 := hpf.2.1 w hw
        have a2 := m2.2.1 w (by omega)
        exact ⟨a2.1.trans a1.1, a2.2.trans a1.2⟩
      · rw [m2.2.2.1 v v0 (by omega) q (by rw [(hpf.2.1 v hv).2]; exact hq) (fun z => by omega)]
        exact hpf.2.2.1 v v0 hv q hq (fun z => absurd z v0)
theorem topL_f {r0 : RS} {x : AS} {kk t u : Nat} (h : AV r0 x) (hI : Inv kk r0) (h0 : t ≠ 0) (ht : t ≤ rT r0) (hk : 10 ≤ rK r0 t) (hu : rT r0 < u) (hu2 : u ≤ rT x.1) (hKu : rK x.1 u = rK r0 t) (hMu : rMn x.1 u = rMn r0 t) (hb : rT x.1 < 40000) : ∀ k, k ≤ rMn r0 t → AV r0 (a_topL t u x k) ∧ PR u k x (a_topL t u x k) ∧ rT (a_topL t u x k).1 ≤ rT x.1 + k + 24000 := by
  intro k
  induction k with
  | zero => intro _; exact ⟨h, PR.rf u 0 x, Nat.le_add_right _ _⟩
  | succ k ih =>
    intro hkm
    obtain ⟨i1, i2, i3⟩ := ih (by omega)
    have hm30 := (hI.tb t ht).2.1
    have hN0 := hI.bd
    have hr := i1.1.row hI h0 ht (show k < rMn r0 t by omega) hk
    have hw : iv (f_at (a_topL t u x k).1 t k) ≤ rT r0 := by rw [hr.2.1]; exact hr.2.2.1
    obtain ⟨hf, hpm⟩ := mid_f i1 hI hw (by omega)
    have hp := i2.tr (hpm.weak u k)
    have hle := a_mans_le i1.1 hI hw
    have e := hp.2.1 u hu2
    have hall := (h.1.topL hI h0 ht hk hu hu2 (k + 1) hkm)
    have hN2 := hall.1.N
    have hT2 := hall.2.1
    have eT : rT (a_topL t u x (k + 1)).1 = rT (a_mid (a_topL t u x k) (iv (f_at (a_topL t u x k).1 t k))).1 := rfl
    have hfin : rT (a_topL t u x (k + 1)).1 ≤ rT x.1 + (k + 1) + 24000 := by omega
    exact ⟨hf.put hu (Nat.le_trans hu2 hp.1.1) (by rw [e.2]; omega) (by rw [e.1]; omega) hle (by omega), hp.put hf.2.1 (by omega) hu2 (by omega), hfin⟩
/-- rows of kinds below 10: the two ways are one -/
theorem topL_midL {r0 : RS} {x : AS} {kk t u : Nat} (h : AV r0 x) (hI : Inv kk r0) (h0 : t ≠ 0) (ht : t ≤ rT r0) (hk : 10 ≤ rK r0 t) (hk13 : rK r0 t < 13) (hu : rT r0 < u) (hu2 : u ≤ rT x.1) (hKu : rK x.1 u = rK r0 t) (hMu : rMn x.1 u = rMn r0 t) (hb : rT x.1 < 40000) : ∀ k, k ≤ rMn r0 t → a_topL t u x k = a_midL t u x k := by
  intro k
  induction k with
  | zero => intro _; rfl
  | succ k ih =>
    intro hkm
    have e := ih (by omega)
    obtain ⟨i1, i2, i3⟩ := midL_f h hI h0 ht hk hu hu2 hKu hMu (by omega) k (by omega)
    have hr := i1.1.row hI h0 ht (show k < rMn r0 t by omega) hk
    have hw : iv (f_at (a_midL t u x k).1 t k) ≤ rT r0 := by rw [hr.2.1]; exact hr.2.2.1
    have hF : iv (f_at (a_midL t u x k).1 t k) = 0 ∨ rK (a_midL t u x k).1 (iv (f_at (a_midL t u x k).1 t k)) < 10 := by
      by_cases z : iv (f_at r0 t k) = 0
      · left; rw [hr.2.1]; exact z
      · right
        rw [(i1.1.2.1 _ hw).1, hr.2.1]
        have q := hr.2.2.2 z
        simp only [f_isOf, Bool.or_eq_true, Bool.and_eq_true, decide_eq_true_eq] at q
        have hrk : rkN (rK r0 t) < 10 := by
          rcases (show rK r0 t = 10 ∨ rK r0 t = 11 ∨ rK r0 t = 12 by omega) with z | z | z <;> rw [z] <;> decide
        rcases q with q | q | q
        · exact absurd q z
        · omega
        · omega
    have e2 : a_mid (a_midL t u x k) (iv (f_at (a_midL t u x k).1 t k)) = a_flat (a_midL t u x k) (iv (f_at (a_midL t u x k).1 t k)) := a_mid_F hF
    show (f_put (a_mid (a_topL t u x k) (iv (f_at (a_topL t u x k).1 t k))).1 u k (lN (a_mans (a_topL t u x k) (iv (f_at (a_topL t u x k).1 t k)))), (a_mid (a_topL t u x k) (iv (f_at (a_topL t u x k).1 t k))).2) = (f_put (a_flat (a_midL t u x k) (iv (f_at (a_midL t u x k).1 t k))).1 u k (lN (a_fans (a_midL t u x k) (iv (f_at (a_midL t u x k).1 t k)))), (a_flat (a_midL t u x k) (iv (f_at (a_midL t u x k).1 t k))).2)
    rw [e, e2]
    unfold a_mans a_fans
    rw [e2]
theorem TW.ext {r0 r1 r2 : RS} {C : Nat → Nat} {g g' : CG} (h : TW r0 (r1, C) g) (hC : ∀ t, t ≤ rT r0 → C t ≤ rT r1) (hT : rT r0 ≤ rT r1) (hx : GX r1 g r2 g') (r3 : RS) : TW r0 (r3, C) g' := by
  intro t t0 ht
  have hb := hx.2.2.2.2.1 t (Nat.le_trans ht hT)
  rcases h t t0 ht with ⟨a, b⟩ | ⟨a, b, c⟩
  · exact Or.inl ⟨a, by rw [hb.1, hx.2.2.2.1]; exact b⟩
  · refine Or.inr ⟨a, by rw [hb.1, hx.2.2.2.1]; exact b, ?_⟩
    rw [hb.2, c]
    exact congrArg some (hx.t (hC t ht)).symm
theorem TW.fl {r0 r1 : RS} {C : Nat → Nat} {g : CG} (h : TW r0 (r1, C) g) {t u : Nat} (hu : u ≠ 0) (r3 : RS) : TW r0 (r3, va_up C t u) (g_w (g_b g t (gN g)) t (some (gA g (3 * u)))) := by
  intro v v0 hv
  show (va_up C t u v = 0 ∧ va_up (gB g) t (gN g) v ≠ gN g) ∨ (va_up C t u v ≠ 0 ∧ va_up (gB g) t (gN g) v = gN g ∧ va_up (gW g) t (some (gA g (3 * u))) v = some (gA g (3 * va_up C t u v)))
  by_cases e : v = t
  · subst e
    rw [va_up_self, va_up_self, va_up_self]
    exact Or.inr ⟨hu, rfl, rfl⟩
  · rw [va_up_ne _ _ e, va_up_ne _ _ e, va_up_ne _ _ e]
    exact h v v0 hv
theorem TW.st {r0 r1 r2 : RS} {C : Nat → Nat} {g : CG} (h : TW r0 (r1, C) g) : TW r0 (r2, C) g := h
def px_Ca (D : va_G) (cy : Nat → ClassId) (A : Nat → Prop) (r0 r : RS) (g : CG) (vf : CG → Option Value) (x' : AS) : Option Value → Heap → Prop := fun v' H => ∃ g' : CG, v' = vf g' ∧ GY r g x'.1 g' ∧ TW r0 x' g' ∧ CR D cy A x'.1 g' H
theorem px_goCa {p : Program} {l : Launch} {e : Env} {R : Room} {s : State} {m : MethodId} {args : Array Value} {below : List Frame} {meth : Method} {c : Code} {H : Heap} {locs : List Loc} {cells slots : Nat} {Q : State → Prop} {pc : Nat} {ls : Array Slot} {rest st0 : List Value} {D : va_G} {cy : Nat → ClassId} {A : Nat → Prop} {H0 : Heap} {g : CG} {vf : CG → Option Value} {r0 r : RS} {x' : AS} {mc ms : Nat} {a : Array Value} (hr : va_Run p l e R s m args below meth c H locs cells slots mc ms (F0 m pc ls st0) rest (px_Q (px_Ca D cy A r0 r g vf x') A a) A) (hS : va_S A H0 H locs) {c2 s2 : Nat} (hc : cells + mc ≤ c2) (hs : slots + ms ≤ s2)
    (kk : ∀ (H : Heap) (locs : List Loc) (g' : CG), GY r g x'.1 g' → TW r0 x' g' → CR D cy A x'.1 g' H → va_S A H0 H locs → W p l e R s m args below meth c H locs c2 s2 Q (F0 m (pc + 3) ls ((vf g').toList ++ rest))) : W p l e R s m args below meth c H locs cells slots Q (F0 m pc ls st0) := by
  refine px_goQ hr hS (fun v' H1 locs1 hp _ _ hS => ?_)
  obtain ⟨g', rfl, hx, hm, hR⟩ := hp
  exact W.widen hc hs (kk H1 locs1 g' hx hm hR hS)
