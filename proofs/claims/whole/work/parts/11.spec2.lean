/-! the pure functions, 2: the public methods; the invariant -/
def ix (v : Int32) : Nat := v.toNatClampNeg
theorem ix_nI {n : Nat} (h : n < 2 ^ 31) : ix (nI n) = n := nI_clamp h
def iv (v : Int64) : Nat := v.toInt.toNat
theorem iv_lN {n : Nat} (h : n < 2 ^ 31) : iv (lN n) = n := by rw [iv, lN_toInt h]; rfl
def psum (f : Nat → Nat) : Nat → Nat
  | 0 => 0
  | n + 1 => psum f n + f (n + 1)
/-- an item of a table of kind kd -/
def f_ok (r : RS) (kd : Nat) (v : Int64) : Prop := kd ≤ 7 ∨ ∃ w : Nat, v = lN w ∧ (w = 0 ∨ (kd = 8 ∧ w ≤ rM r) ∨ (kd = 9 ∧ w ≤ rM r ∧ rIM r w = true) ∨ (10 ≤ kd ∧ w ≤ rT r ∧ f_isOf r w (rkN kd) = true))
def Inv (k : Nat) (r : RS) : Prop := k ≤ 512 ∧ rT r ≤ rN r + k ∧ rN r ≤ 12000 ∧ rM r ≤ k ∧ (∀ t, t ≤ rT r → rK r t ≤ 13 ∧ rMn r t ≤ 30 ∧ rS r t + rMn r t ≤ rN r) ∧ (∀ t, 1 ≤ t → t ≤ rT r → rS r t = psum (rMn r) (t - 1)) ∧ rN r = psum (rMn r) (rT r) ∧ (∀ c, c < 16 → rHd r c ≤ rT r) ∧ (∀ t, 1 ≤ t → t ≤ rT r → ∀ j, j < rMn r t → f_ok r (rK r t) (f_at r t j))
theorem Inv.bd {k : Nat} {r : RS} (h : Inv k r) : rT r ≤ 12512 ∧ rN r ≤ 12000 ∧ rM r ≤ 512 := by
  obtain ⟨h1, h2, h3, h4, -⟩ := h
  omega
theorem Inv.tb {k : Nat} {r : RS} (h : Inv k r) (t : Nat) (ht : t ≤ rT r) : rK r t ≤ 13 ∧ rMn r t ≤ 30 ∧ rS r t + rMn r t ≤ rN r := h.2.2.2.2.1 t ht
theorem Inv.hd {k : Nat} {r : RS} (h : Inv k r) (c : Nat) (hc : c < 16) : rHd r c ≤ rT r := h.2.2.2.2.2.2.2.1 c hc
theorem f_in_nat {v lo hi : Int32} (h : f_in v lo hi = true) (a b : Nat) (ha : lo = nI a) (hb : hi = nI b) (ha2 : a < 2 ^ 31) (hb2 : b < 2 ^ 31) : ∃ n : Nat, a ≤ n ∧ n ≤ b ∧ v = nI n := by
  subst ha; subst hb
  simp only [f_in, Bool.and_eq_true, Bool.not_eq_true', decide_eq_false_iff_not] at h
  have h0 : ¬ v < 0 := by
    intro q
    apply h.1
    have := nI_pos' ha2
    exact Int32.lt_of_lt_of_le q this
  obtain ⟨n, hn, rfl⟩ := nI_of h0
  exact ⟨n, nInlt h.1 hn ha2, nInlt h.2 hb2 hn, rfl⟩
theorem le_nat {v hi : Int32} (b : Nat) (h0 : ¬ v < 0) (h : ¬ hi < v) (hb : hi = nI b) (hb2 : b < 2 ^ 31) : ∃ n : Nat, n ≤ b ∧ v = nI n := by
  subst hb
  obtain ⟨n, hn, rfl⟩ := nI_of h0
  exact ⟨n, nInlt h hb2 hn, rfl⟩
theorem looked_0 {r : RS} {t : Nat} {i : Int32} (h : f_looked r t i = 0) (hm : rMn r t ≤ 30) : t ≠ 0 ∧ ∃ j, j < rMn r t ∧ i = nI j := by
  unfold f_looked at h
  by_cases ht : t = 0
  · rw [if_pos ht] at h; cases h
  · rw [if_neg ht] at h
    refine ⟨ht, ?_⟩
    by_cases hf : f_in i 0 (nI (rMn r t) - 1) = true
    · simp only [f_in, Bool.and_eq_true, Bool.not_eq_true', decide_eq_false_iff_not] at hf
      obtain ⟨j, hj, rfl⟩ := nI_of hf.1
      refine ⟨j, ?_, rfl⟩
      have h2 := hf.2
      rw [Int32.not_lt, Int32.le_iff_toInt_le] at h2
      have e : (nI (rMn r t) - 1 : Int32).toInt = (rMn r t : Int) - 1 := pk_sub_toInt (a := rMn r t) (b := 1) (by omega) (by omega)
      rw [e, nI_toInt hj] at h2
      omega
    · rw [if_neg hf] at h; cases h
theorem looked_le (r : RS) (t : Nat) (i : Int32) : f_looked r t i ≤ 3 := by
  unfold f_looked
  split
  · omega
  · split <;> omega
def f_make (r : RS) (c k n : Int32) : RS × Int32 := if !(f_in c 0 15) || !(f_in k 0 13) || decide (30 < n) then (r, -2) else if 6000 ≤ rN r then (r, -3) else if n < 0 then (r, -14) else (sHd (f_table r (ix k) (ix n)) (va_up (rHd r) (ix c) (rT r + 1)), 1)
def dp_in (row l : Nat) (r : RS) : Nat → RS
  | 0 => r
  | j + 1 => f_put (f_table (dp_in row l r j) 4 l) row j (lN (rT (dp_in row l r j) + 1))
def dp_row (kd m l t0 i : Nat) (r : RS) : RS := if kd = 13 then dp_in (rT r + 1) l (f_put (f_table r (rkN kd) m) t0 i (lN (rT r + 1))) m else f_put (f_table r (rkN kd) m) t0 i (lN (rT r + 1))
def dp_out (kd m l t0 : Nat) (r : RS) : Nat → RS
  | 0 => r
  | i + 1 => dp_row kd m l t0 i (dp_out kd m l t0 r i)
def f_deepT (r : RS) (kd n m l : Nat) : RS := dp_out kd m l (rT r + 1) (f_table r kd n) n
def f_below (k n m l : Int32) : Bool := decide (n < 0) || decide (m < 0) || (decide (k = 13) && decide (l < 0))
def f_prod (k n m l : Int32) : Int32 := if f_below k n m l then 0 else if k = 13 then n * m * l else n * m
def f_deep (r : RS) (c k n m l : Int32) : RS × Int32 := if !(f_in c 0 15) || !(f_in k 10 13) || decide (30 < n) || decide (30 < m) || (decide (k = 13) && decide (30 < l)) then (r, -2) else if 400 < f_prod k n m l then (r, -2) else if 6000 ≤ rN r then (r, -3) else if f_below k n m l then (r, -14) else (sHd (f_deepT r (ix k) (ix n) (ix m) (ix l)) (va_up (rHd r) (ix c) (rT r + 1)), 1)
def f_share (r : RS) (c f : Int32) : RS × Int32 := if !(f_in c 0 15) || !(f_in f 0 15) then (r, -2) else (sHd r (va_up (rHd r) (ix c) (rHd r (ix f))), 1)
def f_drop (r : RS) (c : Int32) : RS × Int32 := if !(f_in c 0 15) then (r, -2) else (sHd r (va_up (rHd r) (ix c) 0), if rHd r (ix c) = 0 then 0 else 1)
def f_kind (r : RS) (c : Int32) : Int32 := if !(f_in c 0 15) then -2 else if rHd r (ix c) = 0 then -1 else nI (rK r (rHd r (ix c)))
def f_length (r : RS) (c k : Int32) : Int32 := if !(f_in c 0 15) || !(f_in k 0 13) then -2 else if !(f_isOf r (rHd r (ix c)) (ix k)) then -12 else if rHd r (ix c) = 0 then -11 else nI (rMn r (rHd r (ix c)))
def f_itemOf (r : RS) (t : Nat) (i : Int32) (b : Nat) : RS × Int64 := if ¬ (if b = 0 then f_looked r t i else b) = 0 then (sFa r (nI (if b = 0 then f_looked r t i else b)), 0) else if rK r t = 8 ∨ rK r t = 9 then (if f_at r t (ix i) = 0 then (sFa r 1, 0) else (sFa r 0, (rTN r (iv (f_at r t (ix i)))).toInt64)) else (sFa r 0, f_at r t (ix i))
def f_read (r : RS) (c k i : Int32) : RS × Int64 := if !(f_in c 0 15) || !(f_in k 0 9) then (sFa r (-2), 0) else f_itemOf r (rHd r (ix c)) i (if f_isOf r (rHd r (ix c)) (ix k) then 0 else 2)
/-- what taking column c for kind k and looking at item i comes to -/
def f_no (r : RS) (t k : Nat) (i : Int32) : Nat := if f_isOf r t k then f_looked r t i else 2
def f_write (r : RS) (c k i : Int32) (b : Int64) : RS × Int32 := if !(f_in c 0 15) || !(f_in k 0 7) then (r, -2) else if ¬ f_no r (rHd r (ix c)) (ix k) i = 0 then (r, -10 - nI (f_no r (rHd r (ix c)) (ix k) i)) else (f_put r (rHd r (ix c)) (ix i) (f_cut (ix k) b), 1)
def f_newT (r : RS) (mk : Bool) (nu : Int32) : RS := (rT r, rK r, rMn r, rS r, rN r, rI r, rM r + 1, va_up (rTN r) (rM r + 1) nu, va_up (rIM r) (rM r + 1) mk, rHd r, rTr r, rPa r, rNu r, rFa r)
def f_thno (r : RS) (t : Nat) (i mk : Int32) : Nat := if f_no r t 8 i = 0 ∧ mk = 0 ∧ rK r t = 9 then 5 else f_no r t 8 i
def f_thing (r : RS) (c i mk nu : Int32) : RS × Int32 := if !(f_in c 0 15) || !(f_in mk 0 2) then (r, -2) else if mk < 2 ∧ 3000 ≤ rM r then (r, -3) else if ¬ f_thno r (rHd r (ix c)) i mk = 0 then (if mk < 2 then f_newT r (decide (mk = 1)) nu else r, -10 - nI (f_thno r (rHd r (ix c)) i mk)) else if mk < 2 then (f_put (f_newT r (decide (mk = 1)) nu) (rHd r (ix c)) (ix i) (lN (rM r + 1)), 1) else (f_put r (rHd r (ix c)) (ix i) 0, 1)
def f_marked (r : RS) (c i : Int32) : Int32 := if !(f_in c 0 15) then -2 else if ¬ f_no r (rHd r (ix c)) 8 i = 0 then -10 - nI (f_no r (rHd r (ix c)) 8 i) else if f_at r (rHd r (ix c)) (ix i) = 0 then 0 else b2i (rIM r (iv (f_at r (rHd r (ix c)) (ix i))))
def f_cell (r : RS) (c k i j : Int32) : RS × Int64 := if !(f_in c 0 15) || !(f_in k 10 12) then (sFa r (-2), 0) else f_itemOf r (if f_no r (rHd r (ix c)) (ix k) i = 0 then iv (f_at r (rHd r (ix c)) (ix i)) else 0) j (f_no r (rHd r (ix c)) (ix k) i)
def f_rowno (r : RS) (t : Nat) (i j : Int32) (no : Nat) : Nat := if no = 0 then f_looked r (iv (f_at r t (ix i))) j else no
def f_set (r : RS) (c k i j : Int32) (b : Int64) : RS × Int32 := if !(f_in c 0 15) || !(f_in k 10 11) then (r, -2) else if ¬ f_rowno r (rHd r (ix c)) i j (f_no r (rHd r (ix c)) (ix k) i) = 0 then (r, -10 - nI (f_rowno r (rHd r (ix c)) i j (f_no r (rHd r (ix c)) (ix k) i))) else (f_put r (iv (f_at r (rHd r (ix c)) (ix i))) (ix j) (f_cut (rkN (ix k)) b), 1)
def f_deepest (r : RS) (c i j k : Int32) : RS × Int64 := if !(f_in c 0 15) then (sFa r (-2), 0) else f_itemOf r (if f_rowno r (rHd r (ix c)) i j (f_no r (rHd r (ix c)) 13 i) = 0 then iv (f_at r (iv (f_at r (rHd r (ix c)) (ix i))) (ix j)) else 0) k (f_rowno r (rHd r (ix c)) i j (f_no r (rHd r (ix c)) 13 i))
def f_rno (r : RS) (t f k : Nat) (i : Int32) : Nat := if f_isOf r t k && f_isOf r f (rkN k) then f_looked r t i else 2
def f_row (r : RS) (c k i f : Int32) : RS × Int32 := if !(f_in c 0 15) || !(f_in k 10 13) || !(f_in f 0 15) then (r, -2) else if ¬ f_rno r (rHd r (ix c)) (rHd r (ix f)) (ix k) i = 0 then (r, -10 - nI (f_rno r (rHd r (ix c)) (rHd r (ix f)) (ix k) i)) else (f_put r (rHd r (ix c)) (ix i) (lN (rHd r (ix f))), 1)
def f_take (r : RS) (c f k i : Int32) : RS × Int32 := if !(f_in c 0 15) || !(f_in f 0 15) || !(f_in k 10 13) then (r, -2) else if ¬ f_no r (rHd r (ix f)) (ix k) i = 0 then (r, -10 - nI (f_no r (rHd r (ix f)) (ix k) i)) else (sHd r (va_up (rHd r) (ix c) (iv (f_at r (rHd r (ix f)) (ix i)))), 1)
/-- k items from a on come to b -/
def cpyI (I : Nat → Int64) (a b : Nat) : Nat → (Nat → Int64)
  | 0 => I
  | k + 1 => va_up (cpyI I a b k) (b + k) (cpyI I a b k (a + k))
abbrev f_cpy (r : RS) (t u k : Nat) : RS := sI r (cpyI (rI r) (rS r t) (rS r u) k)
def f_grow (r : RS) (c n : Int32) : RS × Int32 := if !(f_in c 0 15) || decide (30 < n) then (r, -2) else if 6000 ≤ rN r then (r, -3) else if rHd r (ix c) = 0 then (r, -11) else if n < 0 then (r, -14) else (sHd (f_cpy (f_table r (rK r (rHd r (ix c))) (ix n)) (rHd r (ix c)) (rT r + 1) (min (ix n) (rMn r (rHd r (ix c))))) (va_up (rHd r) (ix c) (rT r + 1)), 1)
def f_canStand (r : RS) (a : Nat) (v : Int64) (b : Nat) : Bool := if rK r b < 8 ∨ v = 0 then true else if rK r a < 10 then (decide (rK r b = 8) || (decide (rK r b = 9) && rIM r (iv v))) else decide (10 ≤ rK r b) && f_isOf r (iv v) (rkN (rK r b))
/-- items v 0 .. come to s on, as long as they can stand there -/
def comI (can : Int64 → Bool) (s n : Nat) (v : Nat → Int64) : Nat → (Nat → Int64) → (Nat → Int64) × Int32
  | 0, I => (I, nI n)
  | d + 1, I => if can (v (n - (d + 1))) then comI can s n v d (va_up I (s + (n - (d + 1))) (v (n - (d + 1)))) else (I, -15)
def f_come (r : RS) (a b j n : Nat) (v : Nat → Int64) : RS × Int32 := (sI r (comI (fun x => f_canStand r a x b) (rS r b + j) n v n (rI r)).1, (comI (fun x => f_canStand r a x b) (rS r b + j) n v n (rI r)).2)
def f_cpo (r : RS) (a b : Nat) (i j n : Int32) : Bool := decide (i < 0) || decide (j < 0) || decide (n < 0) || decide (nI (rMn r a) - i < n) || decide (nI (rMn r b) - j < n)
def f_copy (r : RS) (c i o j n : Int32) : RS × Int32 := if !(f_in c 0 15) || !(f_in o 0 15) then (r, -2) else if rHd r (ix c) = 0 ∨ rHd r (ix o) = 0 then (r, -11) else if f_unlike r (rHd r (ix c)) (rHd r (ix o)) then (r, -15) else if f_cpo r (rHd r (ix c)) (rHd r (ix o)) i j n then (r, -13) else f_come r (rHd r (ix c)) (rHd r (ix o)) (ix j) (ix n) (fun q => f_at r (rHd r (ix c)) (ix i + q))
def filI (I : Nat → Int64) (a : Nat) (v : Int64) : Nat → (Nat → Int64)
  | 0 => I
  | k + 1 => va_up (filI I a v k) (a + k) v
abbrev f_fil (r : RS) (t : Nat) (v : Int64) (k : Nat) : RS := sI r (filI (rI r) (rS r t) v k)
def f_fill (r : RS) (c k : Int32) (b : Int64) : RS × Int32 := if !(f_in c 0 15) || !(f_in k 0 7) then (r, -2) else if !(f_isOf r (rHd r (ix c)) (ix k)) then (r, -12) else if rHd r (ix c) = 0 then (r, -11) else (f_fil r (rHd r (ix c)) (f_cut (ix k) b) (rMn r (rHd r (ix c))), nI (rMn r (rHd r (ix c))))
def f_cnt (f : Nat → Nat) : Nat → Nat
  | 0 => 0
  | k + 1 => f_cnt f k + f k
def f_fsz (r : RS) (t : Nat) : Nat := if t = 0 then 0 else if rK r t < 8 then rMn r t else f_cnt (fun k => if f_at r t k = 0 then 0 else 1) (rMn r t)
def f_msz (r : RS) (t : Nat) : Nat := if t = 0 ∨ rK r t < 10 then f_fsz r t else f_cnt (fun k => f_fsz r (iv (f_at r t k))) (rMn r t)
def f_tsz (r : RS) (t : Nat) : Nat := if t = 0 ∨ rK r t < 13 then f_msz r t else f_cnt (fun k => f_msz r (iv (f_at r t k))) (rMn r t)
def f_size (r : RS) (c : Int32) : Int32 := if !(f_in c 0 15) then -2 else nI (f_tsz r (rHd r (ix c)))
def f_all (p : Nat → Bool) : Nat → Bool
  | 0 => true
  | k + 1 => f_all p k && p k
def f_fla (r : RS) (a b : Nat) : Bool := decide (a = b) || (f_shaped r a b && f_all (fun k => if rK r a < 8 then decide (f_at r a k = f_at r b k) else f_thl r (iv (f_at r a k)) (iv (f_at r b k))) (rMn r a))
def f_mla (r : RS) (a b : Nat) : Bool := decide (a = b) || (if a = 0 ∨ b = 0 ∨ rK r a < 10 then f_fla r a b else f_shaped r a b && f_all (fun k => f_fla r (iv (f_at r a k)) (iv (f_at r b k))) (rMn r a))
def f_tla (r : RS) (a b : Nat) : Bool := if a = 0 ∨ b = 0 ∨ rK r a < 13 then f_mla r a b else f_shaped r a b && f_all (fun k => f_mla r (iv (f_at r a k)) (iv (f_at r b k))) (rMn r a)
def f_alike (r : RS) (c o : Int32) : Int32 := if !(f_in c 0 15) || !(f_in o 0 15) then -2 else if rHd r (ix c) = rHd r (ix o) then 2 else b2i (f_tla r (rHd r (ix c)) (rHd r (ix o)))
def f_trouble (r : RS) (t n : Int32) : RS × Int32 := if !(f_in t 0 7) || decide (n < -1) then (r, -2) else (sTr r (va_up (rTr r) (ix t) n), rTr r (ix t))
def f_figs (n : Nat) : Nat → Int32
  | 0 => 0
  | k + 1 => 10 * f_figs n k + nI (n - k)
def f_raise (r : RS) (t f : Int32) : RS × Int32 := if !(f_in t 0 7) || !(f_in f 1 8) then (r, -2) else (sNu (sPa r (f_figs (ix f) (ix f))) (rTr r (ix t)), if rTr r (ix t) = -1 then -11 else -16)
def f_held (r : RS) : Nat := f_cnt (fun k => if rHd r k = 0 then 0 else 1) 16
def f_clear (r : RS) : RS × Int32 := ((rT r, rK r, rMn r, rS r, rN r, rI r, rM r, rTN r, rIM r, (fun k => if k < 16 then 0 else rHd r k), (fun k => if k < 8 then -1 else rTr r k), 0, -1, 0), nI (f_held r))
def f_told (r : RS) (w : Int32) : Int32 := if w = 0 then nI (f_held r) else if w = 1 then nI (rN r) else if w = 2 then nI (rM r) else -2
