/-! the class: transfer, the pure side -/
def mvF (I : Nat → Int64) (s : Nat) (v : Nat → Int64) : Nat → (Nat → Int64)
  | 0 => I
  | k + 1 => va_up (mvF I s v k) (s + k) (v k)
def mvB (I : Nat → Int64) (s n : Nat) (v : Nat → Int64) : Nat → (Nat → Int64)
  | 0 => I
  | k + 1 => va_up (mvB I s n v k) (s + (n - 1 - k)) (v (n - 1 - k))
theorem mvF_eq (I : Nat → Int64) (s : Nat) (v : Nat → Int64) : ∀ k q, mvF I s v k q = if s ≤ q ∧ q < s + k then v (q - s) else I q := by
  intro k
  induction k with
  | zero => intro q; rw [if_neg (by omega)]; rfl
  | succ k ih =>
    intro q
    show va_up (mvF I s v k) (s + k) (v k) q = _
    by_cases h : q = s + k
    · subst h; rw [va_up_self, if_pos (by omega), show s + k - s = k by omega]
    · rw [va_up_ne _ _ h, ih]
      by_cases h2 : s ≤ q ∧ q < s + k
      · rw [if_pos h2, if_pos (by omega)]
      · rw [if_neg h2, if_neg (by omega)]
theorem mvB_eq (I : Nat → Int64) (s n : Nat) (v : Nat → Int64) : ∀ k q, k ≤ n → mvB I s n v k q = if s + (n - k) ≤ q ∧ q < s + n then v (q - s) else I q := by
  intro k
  induction k with
  | zero => intro q _; rw [if_neg (by omega)]; rfl
  | succ k ih =>
    intro q hk
    show va_up (mvB I s n v k) (s + (n - 1 - k)) (v (n - 1 - k)) q = _
    by_cases h : q = s + (n - 1 - k)
    · subst h; rw [va_up_self, if_pos (by omega), show s + (n - 1 - k) - s = n - 1 - k by omega]
    · rw [va_up_ne _ _ h, ih q (by omega)]
      by_cases h2 : s + (n - k) ≤ q ∧ q < s + n
      · rw [if_pos h2, if_pos (by omega)]
      · rw [if_neg h2, if_neg (by omega)]
theorem mvBF (I : Nat → Int64) (s n : Nat) (v : Nat → Int64) : mvB I s n v n = mvF I s v n := by
  funext q
  rw [mvB_eq I s n v n q (Nat.le_refl _), mvF_eq, show s + (n - n) = s by omega]
/-- where all can stand, all come -/
theorem comI_all {can : Int64 → Bool} {s n : Nat} {v : Nat → Int64} (h : ∀ q, q < n → can (v q) = true) (I0 : Nat → Int64) : ∀ d, d ≤ n → comI can s n v d (mvF I0 s v (n - d)) = (mvF I0 s v n, nI n) := by
  intro d
  induction d with
  | zero => intro _; rfl
  | succ d ih =>
    intro hd
    simp only [comI]
    rw [if_pos (h _ (by omega)), show va_up (mvF I0 s v (n - (d + 1))) (s + (n - (d + 1))) (v (n - (d + 1))) = mvF I0 s v (n - (d + 1) + 1) from rfl, show n - (d + 1) + 1 = n - d by omega]
    exact ih (by omega)
theorem come_all {r : RS} {a b j n : Nat} {v : Nat → Int64} (h : ∀ q, q < n → f_canStand r a (v q) b = true) : f_come r a b j n v = (sI r (mvF (rI r) (rS r b + j) v n), nI n) := by
  have e := comI_all (can := fun x => f_canStand r a x b) (v := v) (s := rS r b + j) h (rI r) n (Nat.le_refl _)
  rw [show n - n = 0 by omega, show mvF (rI r) (rS r b + j) v 0 = rI r from rfl] at e
  unfold f_come
  rw [e]
theorem kor_rk {k : Nat} (h1 : 10 ≤ k) (h2 : k ≤ 13) : f_kor k = nI (rkN k) := by
  rcases (show k = 10 ∨ k = 11 ∨ k = 12 ∨ k = 13 by omega) with rfl | rfl | rfl | rfl <;> rfl
theorem lN_0 {w : Nat} (h : w < 2 ^ 31) (h0 : w ≠ 0) : ¬ lN w = 0 := fun q => h0 (by have := congrArg iv q; rw [iv_lN h] at this; exact this)
/-- what place asks and what copying asks are one thing -/
theorem cs_can {r : RS} {a b ty w : Nat} {v : Int64} (hb8 : 8 ≤ rK r b) (hb13 : rK r b ≤ 13) (hw : w < 2 ^ 31) (hkw : rK r w < 100) (h : (ty = 0 ∧ v = 0) ∨ (ty = 1 ∧ w ≠ 0 ∧ v = lN w ∧ rK r a < 10) ∨ (ty = 2 ∧ w ≠ 0 ∧ v = lN w ∧ 10 ≤ rK r a)) : f_canStand r a v b = f_cs r ty w (rK r b) := by
  rcases h with ⟨rfl, rfl⟩ | ⟨rfl, h0, rfl, h1⟩ | ⟨rfl, h0, rfl, h1⟩
  · unfold f_canStand
    rw [if_pos (Or.inr rfl)]; rfl
  · unfold f_canStand
    rw [if_neg (fun q => q.elim (by omega) (lN_0 hw h0)), if_pos h1, iv_lN hw]; rfl
  · unfold f_canStand
    rw [if_neg (fun q => q.elim (by omega) (lN_0 hw h0)), if_neg (by omega), iv_lN hw]
    show _ = f_fit r w (f_kor (rK r b))
    by_cases h10 : 10 ≤ rK r b
    · rw [kor_rk h10 hb13, fit_nI hkw (by unfold rkN; split <;> (try split) <;> (try split) <;> omega), decide_eq_true h10, Bool.true_and]
    · rw [decide_eq_false h10, Bool.false_and]
      have e : f_kor (rK r b) = -1 := by
        unfold f_kor
        rw [if_neg (by omega), if_neg (by omega), if_neg (by omega), if_neg (by omega)]
      rw [e]
      unfold f_fit
      rw [decide_eq_false h0, decide_eq_false (show ¬ nI (rK r w) = -1 from fun q => by
        have := congrArg Int32.toInt q
        rw [nI_toInt (by omega)] at this
        have e : (-1 : Int32).toInt = -1 := rfl
        omega), decide_eq_false (show ¬ (-1 : Int32) = 8 by decide)]
      rfl
theorem str_cpo {r : RS} {a b : Nat} {i j n : Int32} (ha : rMn r a ≤ 30) (hb : rMn r b ≤ 30) : f_cpo r a b i j n = !(f_str r a i n && f_str r b j n) := by
  have key : ∀ {x : Nat} {p : Int32}, x ≤ 30 → ¬ p < 0 → ¬ n < 0 → (nI x - p < n ↔ nI x - n < p) := by
    intro x p hx hp hn
    obtain ⟨P, hP, rfl⟩ := nI_of hp
    obtain ⟨N, hN, rfl⟩ := nI_of hn
    rw [Int32.lt_iff_toInt_lt, Int32.lt_iff_toInt_lt]
    have e1 : (nI x - nI P).toInt = (x : Int) - P := by
      rw [Int32.toInt_sub, nI_toInt (show x < 2 ^ 31 by omega), nI_toInt hP]
      rw [Int.bmod_def]; omega
    have e2 : (nI x - nI N).toInt = (x : Int) - N := by
      rw [Int32.toInt_sub, nI_toInt (show x < 2 ^ 31 by omega), nI_toInt hN]
      rw [Int.bmod_def]; omega
    rw [e1, e2, nI_toInt hP, nI_toInt hN]
    omega
  unfold f_cpo f_str
  by_cases h1 : i < 0
  · simp [h1]
  by_cases h3 : n < 0
  · simp [h3]
  by_cases h2 : j < 0
  · simp [h2]
  have k1 := key (x := rMn r a) ha h1 h3
  have k2 := key (x := rMn r b) hb h2 h3
  simp [h1, h2, h3, k1, k2]
theorem str_nat {r : RS} {t : Nat} {i n : Int32} (hm : rMn r t ≤ 30) (h : f_str r t i n = true) : ∃ x y : Nat, i = nI x ∧ n = nI y ∧ x + y ≤ rMn r t := by
  simp only [f_str, Bool.and_eq_true, Bool.not_eq_true', decide_eq_false_iff_not] at h
  obtain ⟨⟨h1, h2⟩, h3⟩ := h
  obtain ⟨x, hx, rfl⟩ := nI_of h1
  obtain ⟨y, hy, rfl⟩ := nI_of h2
  refine ⟨x, y, rfl, rfl, ?_⟩
  rw [Int32.not_lt, Int32.le_iff_toInt_le] at h3
  have e2 : (nI (rMn r t) - nI y).toInt = (rMn r t : Int) - y := by
    rw [Int32.toInt_sub, nI_toInt (show rMn r t < 2 ^ 31 by omega), nI_toInt hy]
    rw [Int.bmod_def]; omega
  rw [nI_toInt hx, e2] at h3
  omega
def f_tr (r : RS) (a b : Nat) (i j n : Int32) : RS × Int32 := if f_cpo r a b i j n then (r, -13) else f_come r a b (ix j) (ix n) (fun q => f_at r a (ix i + q))
