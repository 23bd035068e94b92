/-! the class: new deep tables, the pure side; what cells and slots cost -/
def VK (r : RS) : Prop := ∀ w, rK r w ≤ 13 ∧ rMn r w ≤ 30
theorem VK.table {r : RS} (h : VK r) {k n : Nat} (hk : k ≤ 13) (hn : n ≤ 30) : VK (f_table r k n) := by
  intro w
  show va_up (rK r) (rT r + 1) k w ≤ 13 ∧ va_up (rMn r) (rT r + 1) n w ≤ 30
  by_cases q : w = rT r + 1
  · subst q; rw [va_up_self, va_up_self]; exact ⟨hk, hn⟩
  · rw [va_up_ne _ _ q, va_up_ne _ _ q]; exact h w
theorem VK.k {r : RS} (h : VK r) : ∀ w, rK r w < 100 := fun w => by have := (h w).1; omega
theorem at_put {r : RS} (hs : SI r) {t j t' q : Nat} (v : Int64) (h1 : t ≠ 0) (h2 : t ≤ rT r) (hj : j < rMn r t) (h1' : t' ≠ 0) (h2' : t' ≤ rT r) (hq : q < rMn r t') : f_at (f_put r t j v) t' q = if t' = t ∧ q = j then v else f_at r t' q := by
  show va_up (rI r) (rS r t + j) v (rS r t' + q) = _
  by_cases e : t' = t
  · subst e
    by_cases e2 : q = j
    · subst e2; rw [va_up_self, if_pos ⟨rfl, rfl⟩]
    · rw [va_up_ne _ _ (by omega), if_neg (fun z => e2 z.2)]; rfl
  · rw [va_up_ne _ _ (hs.dis h1 h2 h1' h2' e hq hj), if_neg (fun z => e z.1)]; rfl
theorem VR.put {r : RS} (h : VR r) {t j : Nat} {v : Int64} (h1 : t ≠ 0) (h2 : t ≤ rT r) (hj : j < rMn r t) (hv : 8 ≤ rK r t → v = lN (iv v) ∧ (rK r t < 10 → iv v ≤ rM r) ∧ (10 ≤ rK r t → iv v ≤ rT r)) : VR (f_put r t j v) := by
  refine ⟨h.1, fun u u0 hu => ⟨(h.2.1 u u0 hu).1, (h.2.1 u u0 hu).2.1, fun q hq h8 => ?_⟩, h.2.2⟩
  rw [at_put h.1 v h1 h2 hj u0 hu hq]
  by_cases e : u = t ∧ q = j
  · rw [if_pos e]
    obtain ⟨rfl, rfl⟩ := e
    exact hv h8
  · rw [if_neg e]
    exact (h.2.1 u u0 hu).2.2 q hq h8
def MN (r r' : RS) : Prop := rT r ≤ rT r' ∧ rN r ≤ rN r' ∧ rM r ≤ rM r'
theorem MN.rf {r : RS} : MN r r := ⟨Nat.le_refl _, Nat.le_refl _, Nat.le_refl _⟩
theorem MN.tr {r r1 r2 : RS} (h : MN r r1) (k : MN r1 r2) : MN r r2 := ⟨Nat.le_trans h.1 k.1, Nat.le_trans h.2.1 k.2.1, Nat.le_trans h.2.2 k.2.2⟩
theorem MN.table (r : RS) (k n : Nat) : MN r (f_table r k n) := ⟨Nat.le_succ _, Nat.le_add_right _ _, Nat.le_refl _⟩
theorem MN.put (r : RS) (t j : Nat) (v : Int64) : MN r (f_put r t j v) := ⟨Nat.le_refl _, Nat.le_refl _, Nat.le_refl _⟩
def cC (r r' : RS) : Nat := 2 * (rT r' - rT r) + (rM r' - rM r)
def cS (r r' : RS) : Nat := 4 * (rT r' - rT r) + (rN r' - rN r) + 2 * (rM r' - rM r)
theorem cC_add {r r1 r2 : RS} (h : MN r r1) (k : MN r1 r2) : cC r r1 + cC r1 r2 ≤ cC r r2 := by
  obtain ⟨a1, a2, a3⟩ := h
  obtain ⟨b1, b2, b3⟩ := k
  unfold cC
  omega
theorem cS_add {r r1 r2 : RS} (h : MN r r1) (k : MN r1 r2) : cS r r1 + cS r1 r2 ≤ cS r r2 := by
  obtain ⟨a1, a2, a3⟩ := h
  obtain ⟨b1, b2, b3⟩ := k
  unfold cS
  omega
theorem cC_t {r r1 : RS} (h : MN r r1) (k n : Nat) : cC r r1 + 2 ≤ cC r (f_table r1 k n) := by
  obtain ⟨a1, a2, a3⟩ := h
  have e1 : rT (f_table r1 k n) = rT r1 + 1 := rfl
  have e2 : rM (f_table r1 k n) = rM r1 := rfl
  unfold cC
  omega
theorem cS_t {r r1 : RS} (h : MN r r1) (k n : Nat) : cS r r1 + (4 + n) ≤ cS r (f_table r1 k n) := by
  obtain ⟨a1, a2, a3⟩ := h
  have e1 : rT (f_table r1 k n) = rT r1 + 1 := rfl
  have e2 : rM (f_table r1 k n) = rM r1 := rfl
  have e3 : rN (f_table r1 k n) = rN r1 + n := rfl
  unfold cS
  omega
theorem cC_le {r r1 r2 : RS} (k : MN r1 r2) : cC r r1 ≤ cC r r2 := by
  obtain ⟨b1, b2, b3⟩ := k
  unfold cC
  omega
theorem cS_le {r r1 r2 : RS} (k : MN r1 r2) : cS r r1 ≤ cS r r2 := by
  obtain ⟨b1, b2, b3⟩ := k
  unfold cS
  omega
theorem cC_0 (r : RS) : cC r r = 0 := by unfold cC; omega
theorem cS_0 (r : RS) : cS r r = 0 := by unfold cS; omega
theorem place_ok {r : RS} {t j w : Nat} (h0 : t ≠ 0) (hm : rMn r t ≤ 30) (hj : j < rMn r t) (h8 : 8 ≤ rK r t) (hc : f_cs r 2 w (rK r t) = true) : f_place r t (nI j) 2 w = (f_put r t j (lN w), 1) := by
  have hl : f_looked r t (nI j) = 0 := looked_in h0 hm (nI_pos (by omega)) (nI_lt hj (by omega))
  unfold f_place
  rw [if_neg (fun q => q hl), if_pos ⟨h8, hc⟩, ix_nI (show j < 2 ^ 31 by omega)]; rfl
theorem rkN_le10 (k : Nat) : rkN k ≤ 10 := by
  unfold rkN
  split
  · omega
  · split
    · omega
    · split <;> omega
/-- a row just made can stand -/
theorem cs_row {r : RS} {t n : Nat} (h10 : 10 ≤ rK r t) (h13 : rK r t ≤ 13) (ht : t ≤ rT r) : f_cs (f_table r (rkN (rK r t)) n) 2 (rT r + 1) (rK (f_table r (rkN (rK r t)) n) t) = true := by
  have e1 : rK (f_table r (rkN (rK r t)) n) t = rK r t := va_up_ne _ _ (by omega)
  have e2 : rK (f_table r (rkN (rK r t)) n) (rT r + 1) = rkN (rK r t) := va_up_self _ _ _
  rw [e1]
  show f_fit (f_table r (rkN (rK r t)) n) (rT r + 1) (f_kor (rK r t)) = true
  rw [kor_rk h10 h13]
  unfold f_fit
  rw [e2, decide_eq_true rfl]
  simp
def DF (r r' : RS) : Prop := VR r' ∧ VK r' ∧ MN r r' ∧ rM r' = rM r ∧ (∀ t, t ≤ rT r → rK r' t = rK r t ∧ rMn r' t = rMn r t) ∧ rHd r' = rHd r
theorem DF.rf {r : RS} (hV : VR r) (hK : VK r) : DF r r := ⟨hV, hK, MN.rf, rfl, fun _ _ => ⟨rfl, rfl⟩, rfl⟩
theorem DF.tr {r r1 r2 : RS} (h : DF r r1) (k : DF r1 r2) : DF r r2 := ⟨k.1, k.2.1, h.2.2.1.tr k.2.2.1, k.2.2.2.1.trans h.2.2.2.1, fun t ht => ⟨(k.2.2.2.2.1 t (Nat.le_trans ht h.2.2.1.1)).1.trans (h.2.2.2.2.1 t ht).1, (k.2.2.2.2.1 t (Nat.le_trans ht h.2.2.1.1)).2.trans (h.2.2.2.2.1 t ht).2⟩, k.2.2.2.2.2.trans h.2.2.2.2.2⟩
theorem DF.table {r : RS} (hV : VR r) (hK : VK r) {k n : Nat} (hk : k ≤ 13) (hn : n ≤ 30) : DF r (f_table r k n) := ⟨hV.table hk hn, hK.table hk hn, MN.table r k n, rfl, fun t ht => ⟨va_up_ne _ _ (by omega), va_up_ne _ _ (by omega)⟩, rfl⟩
theorem DF.put {r : RS} (hV : VR r) (hK : VK r) {t j w : Nat} (h1 : t ≠ 0) (h2 : t ≤ rT r) (hj : j < rMn r t) (h10 : 10 ≤ rK r t) (hw : w ≤ rT r) (hb : w < 2 ^ 31) : DF r (f_put r t j (lN w)) := ⟨hV.put h1 h2 hj (fun _ => by rw [iv_lN hb]; exact ⟨rfl, fun q => by omega, fun _ => hw⟩), hK, MN.put _ _ _ _, rfl, fun _ _ => ⟨rfl, rfl⟩, rfl⟩
/-- a row made and placed -/
theorem DF.row {r : RS} (hV : VR r) (hK : VK r) {t j n k : Nat} (h1 : t ≠ 0) (h2 : t ≤ rT r) (hj : j < rMn r t) (h10 : 10 ≤ rK r t) (hk : k ≤ 13) (hn : n ≤ 30) (hb : rT r < 100000) : DF r (f_put (f_table r k n) t j (lN (rT r + 1))) := by
  have a := DF.table hV hK hk hn
  have e := a.2.2.2.2.1 t h2
  exact a.tr (DF.put a.1 a.2.1 h1 (Nat.le_trans h2 a.2.2.1.1) (by rw [e.2]; exact hj) (by rw [e.1]; exact h10) (Nat.le_refl (rT r + 1)) (by omega))
theorem dp_in_f {r : RS} {row l : Nat} (hV : VR r) (hK : VK r) (h0 : row ≠ 0) (ht : row ≤ rT r) (hk : rK r row = 10) (hl : l ≤ 30) (hb : rT r < 90000) : ∀ k, k ≤ rMn r row → DF r (dp_in row l r k) ∧ rT (dp_in row l r k) = rT r + k := by
  intro k
  induction k with
  | zero => intro _; exact ⟨DF.rf hV hK, rfl⟩
  | succ k ih =>
    intro hkm
    obtain ⟨i1, i2⟩ := ih (by omega)
    have e := i1.2.2.2.2.1 row ht
    have hm := (hV.2.1 row h0 ht).2.1
    refine ⟨i1.tr (DF.row i1.1 i1.2.1 h0 (Nat.le_trans ht i1.2.2.1.1) (by rw [e.2]; omega) (by rw [e.1]; omega) (by omega) hl (by omega)), ?_⟩
    show rT (dp_in row l r k) + 1 = _
    omega
theorem dp_row_f {r : RS} {kd m l t0 i : Nat} (hV : VR r) (hK : VK r) (h0 : t0 ≠ 0) (ht : t0 ≤ rT r) (hk : rK r t0 = kd) (h10 : 10 ≤ kd) (h13 : kd ≤ 13) (hi : i < rMn r t0) (hm : m ≤ 30) (hl : l ≤ 30) (hb : rT r < 80000) : DF r (dp_row kd m l t0 i r) ∧ rT (dp_row kd m l t0 i r) ≤ rT r + 31 := by
  have a := DF.row (k := rkN kd) (n := m) hV hK h0 ht hi (by omega) (by have := rkN_le10 kd; omega) hm (by omega)
  unfold dp_row
  by_cases q : kd = 13
  · rw [if_pos q]
    have e1 : rK (f_put (f_table r (rkN kd) m) t0 i (lN (rT r + 1))) (rT r + 1) = 10 := by
      show va_up (rK r) (rT r + 1) (rkN kd) (rT r + 1) = 10
      rw [va_up_self, q]; rfl
    have e2 : rMn (f_put (f_table r (rkN kd) m) t0 i (lN (rT r + 1))) (rT r + 1) = m := va_up_self _ _ _
    have e3 : rT (f_put (f_table r (rkN kd) m) t0 i (lN (rT r + 1))) = rT r + 1 := rfl
    obtain ⟨b1, b2⟩ := dp_in_f (row := rT r + 1) (l := l) a.1 a.2.1 (by omega) (Nat.le_refl (rT r + 1)) e1 hl (by omega) m (by omega)
    exact ⟨a.tr b1, by omega⟩
  · rw [if_neg q]
    exact ⟨a, by show rT r + 1 ≤ _; omega⟩
theorem dp_out_f {r : RS} {kd m l t0 : Nat} (hV : VR r) (hK : VK r) (h0 : t0 ≠ 0) (ht : t0 ≤ rT r) (hk : rK r t0 = kd) (h10 : 10 ≤ kd) (h13 : kd ≤ 13) (hm : m ≤ 30) (hl : l ≤ 30) (hb : rT r < 70000) : ∀ i, i ≤ rMn r t0 → DF r (dp_out kd m l t0 r i) ∧ rT (dp_out kd m l t0 r i) ≤ rT r + 31 * i := by
  intro i
  induction i with
  | zero => intro _; exact ⟨DF.rf hV hK, Nat.le_refl _⟩
  | succ i ih =>
    intro hi
    obtain ⟨i1, i2⟩ := ih (by omega)
    have e := i1.2.2.2.2.1 t0 ht
    have hm30 := (hV.2.1 t0 h0 ht).2.1
    obtain ⟨a1, a2⟩ := dp_row_f (kd := kd) (m := m) (l := l) (i := i) i1.1 i1.2.1 h0 (Nat.le_trans ht i1.2.2.1.1) (by rw [e.1]; exact hk) h10 h13 (by rw [e.2]; omega) hm hl (by omega)
    refine ⟨i1.tr a1, ?_⟩
    show rT (dp_row kd m l t0 i (dp_out kd m l t0 r i)) ≤ _
    omega
theorem cost_t {r r1 : RS} {mc ms k n : Nat} (h : MN r r1) (h1 : mc ≤ cC r r1) (h2 : ms ≤ cS r r1) : mc + 2 ≤ cC r (f_table r1 k n) ∧ ms + (4 + n) ≤ cS r (f_table r1 k n) := ⟨Nat.le_trans (Nat.add_le_add_right h1 2) (cC_t h k n), Nat.le_trans (Nat.add_le_add_right h2 _) (cS_t h k n)⟩
theorem dp_in_mono (row l : Nat) (r : RS) {k k' : Nat} (h : k ≤ k') : MN (dp_in row l r k) (dp_in row l r k') := by
  induction k' with
  | zero => rw [show k = 0 by omega]; exact MN.rf
  | succ n ih =>
    by_cases q : k = n + 1
    · rw [q]; exact MN.rf
    · exact (ih (by omega)).tr ((MN.table (dp_in row l r n) 4 l).tr (MN.put _ row n (lN (rT (dp_in row l r n) + 1))))
theorem GX.put {r r1 : RS} {g g1 : CG} (h : GX r g r1 g1) (t j : Nat) (v : Int64) : GX r g (f_put r1 t j v) g1 := h
theorem MN.row_mono (kd m l t0 i : Nat) (r : RS) : MN (f_put (f_table r (rkN kd) m) t0 i (lN (rT r + 1))) (dp_row kd m l t0 i r) := by
  unfold dp_row
  split
  · exact dp_in_mono (rT r + 1) l (f_put (f_table r (rkN kd) m) t0 i (lN (rT r + 1))) (Nat.zero_le m)
  · exact MN.rf
theorem MN.dp_row (kd m l t0 i : Nat) (r : RS) : MN r (dp_row kd m l t0 i r) := ((MN.table r (rkN kd) m).tr (MN.put _ t0 i (lN (rT r + 1)))).tr (MN.row_mono kd m l t0 i r)
theorem dp_out_mono (kd m l t0 : Nat) (r : RS) {k k' : Nat} (h : k ≤ k') : MN (dp_out kd m l t0 r k) (dp_out kd m l t0 r k') := by
  induction k' with
  | zero => rw [show k = 0 by omega]; exact MN.rf
  | succ n ih =>
    by_cases q : k = n + 1
    · rw [q]; exact MN.rf
    · exact (ih (by omega)).tr (MN.dp_row kd m l t0 n _)
