/-! the invariant is kept: pieces -/
def OI (r : RS) : Prop := ∀ t, t ≠ 0 → t ≤ rT r → ∀ j, j < rMn r t → f_ok r (rK r t) (f_at r t j)
def IP (r : RS) : Prop := VR r ∧ VK r ∧ OI r ∧ rS r 0 = 0 ∧ rMn r 0 = 0
def SM (r r' : RS) : Prop := rT r' = rT r ∧ rN r' = rN r ∧ rM r' = rM r
def LV (k : Nat) (r : RS) : Prop := k ≤ 512 ∧ rT r ≤ rN r + k ∧ rN r ≤ 12000 ∧ rM r ≤ k ∧ IP r
theorem LV.inv {k : Nat} {r : RS} (h : LV k r) : Inv k r := by
  obtain ⟨h1, h2, h3, h4, hV, hK, hO, z1, z2⟩ := h
  refine ⟨h1, h2, h3, h4, fun t ht => ⟨(hK t).1, (hK t).2, ?_⟩, hV.1.1, hV.1.2, fun c _ => hV.2.2 c, fun t a b j hj => hO t (by omega) b j hj⟩
  by_cases t0 : t = 0
  · rw [t0, z1, z2]; omega
  · exact si_end hV.1 t0 ht
theorem LV.same {k : Nat} {r r' : RS} (h : LV k r) (hk : k + 1 ≤ 512) (hi : IP r') (hs : SM r r') : LV (k + 1) r' := by
  obtain ⟨h1, h2, h3, h4, -⟩ := h
  obtain ⟨s1, s2, s3⟩ := hs
  exact ⟨hk, by omega, by omega, by omega, hi⟩
theorem SM.mn {r r' : RS} (h : SM r r') : MN r r' := ⟨Nat.le_of_eq h.1.symm, Nat.le_of_eq h.2.1.symm, Nat.le_of_eq h.2.2.symm⟩
theorem SM.rf (r : RS) : SM r r := ⟨rfl, rfl, rfl⟩
theorem SM.tr {r r1 r2 : RS} (h : SM r r1) (k : SM r1 r2) : SM r r2 := ⟨k.1.trans h.1, k.2.1.trans h.2.1, k.2.2.trans h.2.2⟩
theorem LV.b {k : Nat} {r : RS} (h : LV k r) : rT r ≤ 12512 ∧ rM r ≤ 512 ∧ rN r ≤ 12000 := by
  obtain ⟨h1, h2, h3, h4, -⟩ := h
  omega
theorem ok_0 (r : RS) (kd : Nat) : f_ok r kd 0 := Or.inr ⟨0, rfl, Or.inl rfl⟩
theorem ok_mono {r r' : RS} {kd : Nat} {v : Int64} (h : f_ok r kd v) (hM : rM r ≤ rM r') (hIM : ∀ w, w ≤ rM r → rIM r' w = rIM r w) (hT : rT r ≤ rT r') (hK : ∀ w, w ≤ rT r → rK r' w = rK r w) : f_ok r' kd v := by
  rcases h with h | ⟨w, e, h⟩
  · exact Or.inl h
  · refine Or.inr ⟨w, e, ?_⟩
    rcases h with h | ⟨h1, h2⟩ | ⟨h1, h2, h3⟩ | ⟨h1, h2, h3⟩
    · exact Or.inl h
    · exact Or.inr (Or.inl ⟨h1, by omega⟩)
    · exact Or.inr (Or.inr (Or.inl ⟨h1, by omega, by rw [hIM w h2]; exact h3⟩))
    · refine Or.inr (Or.inr (Or.inr ⟨h1, by omega, ?_⟩))
      unfold f_isOf at h3 ⊢
      rw [hK w h2]; exact h3
theorem ok_iv {r : RS} {kd : Nat} {v : Int64} (h : f_ok r kd v) (h8 : 8 ≤ kd) (hT : rT r < 2 ^ 31) (hM : rM r < 2 ^ 31) : v = lN (iv v) ∧ (kd < 10 → iv v ≤ rM r) ∧ (10 ≤ kd → iv v ≤ rT r) := by
  rcases h with h | ⟨w, e, h⟩
  · omega
  · have hw : w < 2 ^ 31 := by omega
    have e2 : iv v = w := by rw [e]; exact iv_lN hw
    rw [e2]
    refine ⟨e, fun q => ?_, fun q => ?_⟩ <;> omega
theorem IP.put {r : RS} (h : IP r) (hT : rT r < 2 ^ 31) (hM : rM r < 2 ^ 31) {t j : Nat} {v : Int64} (t0 : t ≠ 0) (ht : t ≤ rT r) (hj : j < rMn r t) (hv : f_ok r (rK r t) v) : IP (f_put r t j v) := by
  obtain ⟨hV, hK, hO, z1, z2⟩ := h
  refine ⟨hV.put t0 ht hj (fun h8 => ok_iv hv h8 hT hM), hK, fun u u0 hu q hq => ?_, z1, z2⟩
  rw [at_put hV.1 v t0 ht hj u0 hu hq]
  by_cases e : u = t ∧ q = j
  · rw [if_pos e]; obtain ⟨rfl, rfl⟩ := e; exact hv
  · rw [if_neg e]; exact hO u u0 hu q hq
theorem SM.put (r : RS) (t j : Nat) (v : Int64) : SM r (f_put r t j v) := ⟨rfl, rfl, rfl⟩
theorem at_new (r : RS) (k n : Nat) {j : Nat} (hj : j < n) : f_at (f_table r k n) (rT r + 1) j = 0 := by
  show f_zero (rI r) (rN r) n (va_up (rS r) (rT r + 1) (rN r) (rT r + 1) + j) = 0
  rw [va_up_self]
  simp only [f_zero]
  rw [if_pos (by omega)]
theorem tb_0S (r : RS) (k n : Nat) : rS (f_table r k n) 0 = rS r 0 := va_up_ne (rS r) (rN r) (show 0 ≠ rT r + 1 by omega)
theorem tb_0M (r : RS) (k n : Nat) : rMn (f_table r k n) 0 = rMn r 0 := va_up_ne (rMn r) n (show 0 ≠ rT r + 1 by omega)
theorem IP.table {r : RS} (h : IP r) {k n : Nat} (hk : k ≤ 13) (hn : n ≤ 30) : IP (f_table r k n) := by
  obtain ⟨hV, hK, hO, z1, z2⟩ := h
  refine ⟨hV.table hk hn, hK.table hk hn, fun u u0 hu q hq => ?_, (tb_0S r _ n).trans z1, (tb_0M r _ n).trans z2⟩
  have hu' : u ≤ rT r + 1 := hu
  have hq' : q < va_up (rMn r) (rT r + 1) n u := hq
  by_cases e : u = rT r + 1
  · subst e
    rw [va_up_self] at hq'
    rw [at_new r k n hq']
    exact ok_0 _ _
  · rw [va_up_ne _ _ e] at hq'
    rw [at_table hV.1 u0 (by omega) hq', show rK (f_table r k n) u = rK r u from va_up_ne _ _ e]
    exact ok_mono (hO u u0 (by omega) q hq') (Nat.le_refl _) (fun _ _ => rfl) (Nat.le_succ _) (fun w hw => va_up_ne _ _ (by omega))
theorem IP.newT {r : RS} (h : IP r) (b : Bool) (nu : Int32) : IP (f_newT r b nu) := by
  obtain ⟨hV, hK, hO, z1, z2⟩ := h
  exact ⟨hV.newT b nu, hK, fun u u0 hu q hq => ok_mono (hO u u0 hu q hq) (Nat.le_succ _) (fun w hw => va_up_ne _ _ (by omega)) (Nat.le_refl _) (fun _ _ => rfl), z1, z2⟩
theorem IP.hd {r : RS} (h : IP r) (c : Nat) {t : Nat} (ht : t ≤ rT r) : IP (sHd r (va_up (rHd r) c t)) := by
  obtain ⟨hV, hK, hO, z1, z2⟩ := h
  refine ⟨⟨hV.1, hV.2.1, fun j => ?_⟩, hK, hO, z1, z2⟩
  show va_up (rHd r) c t j ≤ rT r
  by_cases e : j = c
  · subst e; rw [va_up_self]; exact ht
  · rw [va_up_ne _ _ e]; exact hV.2.2 j
theorem SM.hd (r : RS) (f : Nat → Nat) : SM r (sHd r f) := ⟨rfl, rfl, rfl⟩
theorem IP.tr {r : RS} (h : IP r) (f : Nat → Int32) : IP (sTr r f) := h
theorem IP.pa {r : RS} (h : IP r) (v : Int32) : IP (sPa r v) := h
theorem IP.nu {r : RS} (h : IP r) (v : Int32) : IP (sNu r v) := h
theorem IP.fa {r : RS} (h : IP r) (v : Int32) : IP (sFa r v) := h
theorem SM.tr' (r : RS) (f : Nat → Int32) : SM r (sTr r f) := ⟨rfl, rfl, rfl⟩
theorem SM.pa (r : RS) (v : Int32) : SM r (sPa r v) := ⟨rfl, rfl, rfl⟩
theorem SM.nu (r : RS) (v : Int32) : SM r (sNu r v) := ⟨rfl, rfl, rfl⟩
theorem SM.fa (r : RS) (v : Int32) : SM r (sFa r v) := ⟨rfl, rfl, rfl⟩
theorem IP.cl {r : RS} (h : IP r) (f : Nat → Nat) (hf : ∀ j, f j ≤ rT r) (g : Nat → Int32) (a b c : Int32) : IP (rT r, rK r, rMn r, rS r, rN r, rI r, rM r, rTN r, rIM r, f, g, a, b, c) := by
  obtain ⟨hV, hK, hO, z1, z2⟩ := h
  exact ⟨⟨hV.1, hV.2.1, hf⟩, hK, hO, z1, z2⟩
theorem IP.flat {r : RS} (h : IP r) {t n c : Nat} (t0 : t ≠ 0) (ht : t ≤ rT r) (hc : c ≤ rMn r t) (hcn : c ≤ n) (hn : n ≤ 30) : IP (f_cpy (f_table r (rK r t) n) t (rT r + 1) c) := by
  obtain ⟨hV, hK, hO, z1, z2⟩ := h
  have hk := (hK t).1
  refine ⟨hV.flat t0 ht hc hcn hn, hK.table hk hn, fun u u0 hu q hq => ?_, (tb_0S r (rK r t) n).trans z1, (tb_0M r (rK r t) n).trans z2⟩
  have hu' : u ≤ rT r + 1 := hu
  have hq' : q < va_up (rMn r) (rT r + 1) n u := hq
  have mono : ∀ {kd : Nat} {v : Int64}, f_ok r kd v → f_ok (f_cpy (f_table r (rK r t) n) t (rT r + 1) c) kd v := fun z => ok_mono z (Nat.le_refl _) (fun _ _ => rfl) (Nat.le_succ _) (fun w hw => va_up_ne _ _ (by omega))
  by_cases e : u = rT r + 1
  · subst e
    rw [va_up_self] at hq'
    rw [flat_new hV.1 t0 ht hc hcn hn hq', show rK (f_cpy (f_table r (rK r t) n) t (rT r + 1) c) (rT r + 1) = rK r t from va_up_self _ _ _]
    by_cases z : q < c
    · rw [if_pos z]; exact mono (hO t t0 ht q (by omega))
    · rw [if_neg z]; exact ok_0 _ _
  · rw [va_up_ne _ _ e] at hq'
    rw [flat_old hV.1 t0 ht hc hcn hn u0 (by omega) hq', show rK (f_cpy (f_table r (rK r t) n) t (rT r + 1) c) u = rK r u from va_up_ne _ _ e]
    exact mono (hO u u0 (by omega) q hq')
/-- a row's kind -/
theorem ok_row {r : RS} {kd w : Nat} (h10 : 10 ≤ kd) (hw : w ≤ rT r) (hk : rK r w = rkN kd) : f_ok r kd (lN w) := by
  refine Or.inr ⟨w, rfl, ?_⟩
  by_cases h0 : w = 0
  · exact Or.inl h0
  · exact Or.inr (Or.inr (Or.inr ⟨h10, hw, by simp [f_isOf, hk]⟩))
theorem IP.row {r : RS} (h : IP r) (hT : rT r < 100000) (hM : rM r < 100000) {t j n : Nat} (t0 : t ≠ 0) (ht : t ≤ rT r) (hj : j < rMn r t) (h10 : 10 ≤ rK r t) (hn : n ≤ 30) : IP (f_put (f_table r (rkN (rK r t)) n) t j (lN (rT r + 1))) := by
  have hrk := rkN_le10 (rK r t)
  have a := h.table (k := rkN (rK r t)) (n := n) (by omega) hn
  have eK : rK (f_table r (rkN (rK r t)) n) t = rK r t := va_up_ne _ _ (by omega)
  have eM : rMn (f_table r (rkN (rK r t)) n) t = rMn r t := va_up_ne _ _ (by omega)
  refine a.put (show rT r + 1 < 2 ^ 31 by omega) (show rM r < 2 ^ 31 by omega) t0 (show t ≤ rT r + 1 by omega) (by rw [eM]; exact hj) ?_
  rw [eK]
  exact ok_row h10 (Nat.le_refl _) (va_up_self _ _ _)
theorem ip_dp_in {r : RS} {row l : Nat} (h : IP r) (hM : rM r < 100000) (h0 : row ≠ 0) (ht : row ≤ rT r) (hk : rK r row = 10) (hl : l ≤ 30) (hb : rT r < 90000) : ∀ k, k ≤ rMn r row → IP (dp_in row l r k) := by
  intro k
  induction k with
  | zero => intro _; exact h
  | succ k ih =>
    intro hkm
    obtain ⟨i1, i2⟩ := dp_in_f (l := l) h.1 h.2.1 h0 ht hk hl hb k (by omega)
    have e := i1.2.2.2.2.1 row ht
    have hm := (h.2.1 row).2
    have z := IP.row (n := l) (ih (by omega)) (by omega) (by rw [i1.2.2.2.1]; exact hM) h0 (Nat.le_trans ht i1.2.2.1.1) (show k < _ by rw [e.2]; omega) (by rw [e.1]; omega) hl
    rw [show rkN (rK (dp_in row l r k) row) = 4 by rw [e.1, hk]; rfl] at z
    exact z
theorem ip_dp_row {r : RS} {kd m l t0 i : Nat} (h : IP r) (hM : rM r < 100000) (h0 : t0 ≠ 0) (ht : t0 ≤ rT r) (hk : rK r t0 = kd) (h10 : 10 ≤ kd) (h13 : kd ≤ 13) (hi : i < rMn r t0) (hm : m ≤ 30) (hl : l ≤ 30) (hb : rT r < 80000) : IP (dp_row kd m l t0 i r) := by
  have a := IP.row (n := m) h (by omega) hM h0 ht hi (by omega) hm
  rw [hk] at a
  unfold dp_row
  by_cases q : kd = 13
  · rw [if_pos q]
    have e1 : rK (f_put (f_table r (rkN kd) m) t0 i (lN (rT r + 1))) (rT r + 1) = 10 := by
      show va_up (rK r) (rT r + 1) (rkN kd) (rT r + 1) = 10
      rw [va_up_self, q]; rfl
    have e2 : rMn (f_put (f_table r (rkN kd) m) t0 i (lN (rT r + 1))) (rT r + 1) = m := va_up_self _ _ _
    have e3 : rT (f_put (f_table r (rkN kd) m) t0 i (lN (rT r + 1))) = rT r + 1 := rfl
    exact ip_dp_in (row := rT r + 1) (l := l) a hM (by omega) (Nat.le_refl (rT r + 1)) e1 hl (by omega) m (by omega)
  · rw [if_neg q]; exact a
theorem ip_dp_out {r : RS} {kd m l t0 : Nat} (h : IP r) (hM : rM r < 100000) (h0 : t0 ≠ 0) (ht : t0 ≤ rT r) (hk : rK r t0 = kd) (h10 : 10 ≤ kd) (h13 : kd ≤ 13) (hm : m ≤ 30) (hl : l ≤ 30) (hb : rT r < 70000) : ∀ i, i ≤ rMn r t0 → IP (dp_out kd m l t0 r i) := by
  intro i
  induction i with
  | zero => intro _; exact h
  | succ i ih =>
    intro hi
    obtain ⟨i1, i2⟩ := dp_out_f (m := m) (l := l) h.1 h.2.1 h0 ht hk h10 h13 hm hl hb i (by omega)
    have e := i1.2.2.2.2.1 t0 ht
    have hm30 := (h.2.1 t0).2
    exact ip_dp_row (kd := kd) (m := m) (l := l) (i := i) (ih (by omega)) (by rw [i1.2.2.2.1]; exact hM) h0 (Nat.le_trans ht i1.2.2.1.1) (by rw [e.1]; exact hk) h10 h13 (by rw [e.2]; omega) hm hl (by omega)
theorem ip_deepT {r : RS} (h : IP r) (hT : rT r < 60000) (hM : rM r < 100000) {kd n m l : Nat} (h10 : 10 ≤ kd) (h13 : kd ≤ 13) (hn : n ≤ 30) (hm : m ≤ 30) (hl : l ≤ 30) : IP (f_deepT r kd n m l) := by
  have a := h.table (k := kd) (n := n) h13 hn
  have e1 : rK (f_table r kd n) (rT r + 1) = kd := va_up_self _ _ _
  have e2 : rMn (f_table r kd n) (rT r + 1) = n := va_up_self _ _ _
  have e3 : rT (f_table r kd n) = rT r + 1 := rfl
  exact ip_dp_out (m := m) (l := l) (t0 := rT r + 1) a hM (Nat.succ_ne_zero _) (Nat.le_refl _) e1 h10 h13 hm hl (by omega) n (Nat.le_of_eq e2.symm)
/-- an item goes over -/
theorem can_ok {r : RS} {a b : Nat} {v : Int64} (hT : rT r < 2 ^ 31) (hM : rM r < 2 ^ 31) (h : f_canStand r a v b = true) (ha : f_ok r (rK r a) v) (hkk : rK r a < 8 ↔ rK r b < 8) (h13 : rK r b ≤ 13) : f_ok r (rK r b) v := by
  by_cases hb : rK r b < 8
  · exact Or.inl (by omega)
  by_cases hv : v = 0
  · rw [hv]; exact ok_0 _ _
  unfold f_canStand at h
  rw [if_neg (fun q => q.elim hb hv)] at h
  have z := ok_iv ha (by omega) hT hM
  by_cases h10 : rK r a < 10
  · rw [if_pos h10] at h
    simp only [Bool.or_eq_true, Bool.and_eq_true, decide_eq_true_eq] at h
    refine Or.inr ⟨iv v, z.1, ?_⟩
    rcases h with h | ⟨h, h2⟩
    · exact Or.inr (Or.inl ⟨h, z.2.1 h10⟩)
    · exact Or.inr (Or.inr (Or.inl ⟨h, z.2.1 h10, h2⟩))
  · rw [if_neg h10] at h
    simp only [Bool.and_eq_true, decide_eq_true_eq] at h
    exact Or.inr ⟨iv v, z.1, Or.inr (Or.inr (Or.inr ⟨h.1, z.2.2 (by omega), h.2⟩))⟩
theorem ip_come {r : RS} (hT : rT r < 2 ^ 31) (hM : rM r < 2 ^ 31) {a b j n : Nat} {v : Nat → Int64} (b0 : b ≠ 0) (hb : b ≤ rT r) (hj : j + n ≤ rMn r b) (hv : ∀ q, q < n → f_canStand r a (v q) b = true → f_ok r (rK r b) (v q)) : ∀ (d : Nat) (I : Nat → Int64), d ≤ n → IP (sI r I) → IP (sI r (comI (fun x => f_canStand r a x b) (rS r b + j) n v d I).1) := by
  intro d
  induction d with
  | zero => intro I _ h; exact h
  | succ d ih =>
    intro I hd h
    unfold comI
    by_cases hc : f_canStand r a (v (n - (d + 1))) b = true
    · rw [if_pos hc]
      apply ih _ (by omega)
      have z := IP.put (r := sI r I) (j := j + (n - (d + 1))) h hT hM b0 hb (show j + (n - (d + 1)) < rMn r b by omega) (hv _ (by omega) hc)
      rw [Nat.add_assoc]
      exact z
    · rw [if_neg hc]; exact h
theorem ip_fil {r : RS} (hT : rT r < 2 ^ 31) (hM : rM r < 2 ^ 31) (h : IP r) {t : Nat} {v : Int64} (t0 : t ≠ 0) (ht : t ≤ rT r) (hk : rK r t ≤ 7) : ∀ k, k ≤ rMn r t → IP (f_fil r t v k) := by
  intro k
  induction k with
  | zero => intro _; exact h
  | succ k ih =>
    intro hk2
    exact IP.put (r := f_fil r t v k) (j := k) (ih (by omega)) hT hM t0 ht (show k < rMn r t by omega) (Or.inl hk)
