theorem c_item_4 {r : RS} {t j : Nat} (ad : Nat → Nat) (h0 : t ≠ 0) (h8 : 8 ≤ rK r t) (hm : rMn r t ≤ 30) (hj : j < rMn r t) {v : Int64} (hv : f_at r t j = v) (h1 : v = lN (iv v)) (h2 : rK r t < 10 → iv v ≤ rM r) (h3 : 10 ≤ rK r t → iv v ≤ rT r) : (v = 0 ∧ c_item ad r t (nI j) = none) ∨ (∃ w, v = lN w ∧ w ≠ 0 ∧ w ≤ rM r ∧ rK r t < 10 ∧ c_item ad r t (nI j) = some (ad (3 * w + 2))) ∨ (∃ w, v = lN w ∧ w ≠ 0 ∧ w ≤ rT r ∧ 10 ≤ rK r t ∧ c_item ad r t (nI j) = some (ad (3 * w))) := by
  have hl : f_looked r t (nI j) = 0 := looked_in h0 hm (nI_pos (by omega)) (nI_lt hj (by omega))
  have e : c_item ad r t (nI j) = c_ref ad (rK r t) v := by
    unfold c_item
    rw [if_neg (fun q => q.elim h0 (fun q => q.elim (by omega) (fun q => q hl))), ix_nI (show j < 2 ^ 31 by omega), hv]
  rw [e]
  by_cases hz : v = 0
  · exact Or.inl ⟨hz, if_pos hz⟩
  · have hz2 : iv v ≠ 0 := fun q => hz (by rw [h1, q]; rfl)
    by_cases h10 : rK r t < 10
    · refine Or.inr (Or.inl ⟨iv v, h1, hz2, h2 h10, h10, ?_⟩)
      unfold c_ref; rw [if_neg hz, if_pos h10]
    · refine Or.inr (Or.inr ⟨iv v, h1, hz2, h3 (by omega), by omega, ?_⟩)
      unfold c_ref; rw [if_neg hz, if_neg h10]
theorem place_eq {r : RS} {a b j ty w : Nat} {v : Int64} (h0 : b ≠ 0) (hm : rMn r b ≤ 30) (hj : j < rMn r b) (hb8 : 8 ≤ rK r b) (hb13 : rK r b ≤ 13) (hw : w < 2 ^ 31) (hkw : rK r w < 100) (h : (ty = 0 ∧ v = 0) ∨ (ty = 1 ∧ w ≠ 0 ∧ v = lN w ∧ rK r a < 10) ∨ (ty = 2 ∧ w ≠ 0 ∧ v = lN w ∧ 10 ≤ rK r a)) : f_place r b (nI j) ty w = if f_canStand r a v b then (f_put r b j v, 1) else (r, -15) := by
  have hl : f_looked r b (nI j) = 0 := looked_in h0 hm (nI_pos (by omega)) (nI_lt hj (by omega))
  have ho : o_v ty w = v := by
    rcases h with ⟨rfl, rfl⟩ | ⟨rfl, _, rfl, _⟩ | ⟨rfl, _, rfl, _⟩ <;> rfl
  have hc := cs_can (a := a) (b := b) hb8 hb13 hw hkw h
  unfold f_place
  rw [if_neg (fun q => q hl), hc, ho, ix_nI (show j < 2 ^ 31 by omega)]
  by_cases q : f_cs r ty w (rK r b) = true
  · rw [if_pos ⟨hb8, q⟩, if_pos q]
  · rw [if_neg (fun z => q z.2), if_neg q]
theorem comI_yes {can : Int64 → Bool} {s n : Nat} {v : Nat → Int64} {I0 : Nat → Int64} {k d : Nat} (h : k + (d + 1) = n) (hc : can (v k) = true) : comI can s n v (d + 1) (mvF I0 s v k) = comI can s n v d (mvF I0 s v (k + 1)) := by
  simp only [comI]
  rw [show n - (d + 1) = k by omega, if_pos hc]; rfl
theorem comI_no {can : Int64 → Bool} {s n : Nat} {v : Nat → Int64} {I0 : Nat → Int64} {k d : Nat} (h : k + (d + 1) = n) (hc : can (v k) = false) : comI can s n v (d + 1) (mvF I0 s v k) = (mvF I0 s v k, -15) := by
  simp only [comI]
  rw [show n - (d + 1) = k by omega, if_neg (by rw [hc]; decide)]
theorem at_mv {r : RS} (hs : SI r) {a b j n q x : Nat} (ha : a ≠ 0) (ha2 : a ≤ rT r) (hb : b ≠ 0) (hb2 : b ≤ rT r) (hj : j + n ≤ rMn r b) (hx : x < rMn r a) (hne : a ≠ b) (h1 : rS r b + j ≤ rS r a + x) (h2 : rS r a + x < rS r b + j + q) (hq : q ≤ n) : False := by
  exact hs.dis (t := b) (t' := a) (q := x) (j := rS r a + x - rS r b) hb hb2 ha ha2 hne hx (by omega) (by omega)
theorem at_mvF {r : RS} (hs : SI r) {a b j n k x : Nat} {v : Nat → Int64} (ha : a ≠ 0) (ha2 : a ≤ rT r) (hb : b ≠ 0) (hb2 : b ≤ rT r) (hj : j + n ≤ rMn r b) (hx : x < rMn r a) (hk : k ≤ n) (hd : a ≠ b ∨ (a = b ∧ j + k ≤ x)) : f_at (sI r (mvF (rI r) (rS r b + j) v k)) a x = f_at r a x := by
  show mvF (rI r) (rS r b + j) v k (rS r a + x) = _
  rw [mvF_eq, if_neg]
  · rfl
  · intro h
    rcases hd with hd | ⟨rfl, hd⟩
    · exact at_mv hs ha ha2 hb hb2 hj hx hd h.1 h.2 hk
    · omega
theorem at_mvB {r : RS} {a b j n k x : Nat} {v : Nat → Int64} (hab : a = b) (hk : k ≤ n) (hd : x < j + (n - k)) : f_at (sI r (mvB (rI r) (rS r b + j) n v k)) a x = f_at r a x := by
  subst hab
  show mvB (rI r) (rS r a + j) n v k (rS r a + x) = _
  rw [mvB_eq _ _ _ _ _ _ hk, if_neg (by omega)]
  rfl
