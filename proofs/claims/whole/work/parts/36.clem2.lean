theorem px_topv {p : Program} {l : Launch} {e : Env} {R : Room} {s : State} {m : MethodId} {args : Array Value} {below : List Frame} {meth : Method} {c : Code} {H : Heap} {locs : List Loc} {cells slots : Nat} {Q : State → Prop} {pc : Nat} {ls : Array Slot} {rest : List Value} {x y : Value} (h : x = y) (k : W p l e R s m args below meth c H locs cells slots Q (F0 m pc ls (y :: rest))) : W p l e R s m args below meth c H locs cells slots Q (F0 m pc ls (x :: rest)) := h ▸ k
/-- the items of table t are numbers of things, or of tables, that are there -/
def IV (r : RS) (t : Nat) : Prop := ∀ j, j < rMn r t → 8 ≤ rK r t → f_at r t j = lN (iv (f_at r t j)) ∧ (rK r t < 10 → iv (f_at r t j) ≤ rM r) ∧ (10 ≤ rK r t → iv (f_at r t j) ≤ rT r)
theorem Inv.iv {k : Nat} {r : RS} (h : Inv k r) {t : Nat} (ht : t ≤ rT r) (h0 : t ≠ 0) : IV r t := fun _ hj hk => ⟨(h.it h0 ht hj hk).1, (h.it h0 ht hj hk).2.2.1, fun q => ((h.it h0 ht hj hk).2.2.2.2 q).1⟩
def f_thAt (r : RS) (t : Nat) (i : Int32) : Nat := if t = 0 ∨ rK r t < 8 ∨ 10 ≤ rK r t ∨ ¬ f_looked r t i = 0 then 0 else iv (f_at r t (ix i))
theorem c_item_3 {r : RS} {t : Nat} {i : Int32} (ad : Nat → Nat) (hm : rMn r t ≤ 30) (hv : t ≠ 0 → IV r t) : (c_item ad r t i = none ∧ f_rowAt r t i = 0 ∧ f_thAt r t i = 0) ∨ (∃ w, w = f_thAt r t i ∧ w ≠ 0 ∧ w ≤ rM r ∧ f_rowAt r t i = 0 ∧ c_item ad r t i = some (ad (3 * w + 2))) ∨ (∃ w, w = f_rowAt r t i ∧ w ≠ 0 ∧ w ≤ rT r ∧ f_thAt r t i = 0 ∧ c_item ad r t i = some (ad (3 * w))) := by
  unfold c_item f_rowAt f_thAt
  by_cases h0 : t = 0
  · exact Or.inl ⟨if_pos (Or.inl h0), if_pos (Or.inl h0), if_pos (Or.inl h0)⟩
  by_cases h8 : rK r t < 8
  · exact Or.inl ⟨if_pos (Or.inr (Or.inl h8)), if_pos (Or.inr (Or.inl (by omega))), if_pos (Or.inr (Or.inl h8))⟩
  by_cases hl : f_looked r t i = 0
  · obtain ⟨_, j, hj, rfl⟩ := looked_0 hl hm
    have h := hv h0 j hj (by omega)
    rw [ix_nI (show j < 2 ^ 31 by omega)]
    have hn : ¬ (t = 0 ∨ rK r t < 8 ∨ ¬ f_looked r t (nI j) = 0) := fun q => q.elim h0 (fun q => q.elim h8 (fun q => q hl))
    rw [if_neg hn]
    by_cases hz : f_at r t j = 0
    · have hz2 : iv (f_at r t j) = 0 := by rw [hz]; rfl
      refine Or.inl ⟨if_pos hz, ?_, ?_⟩
      · split <;> first | rfl | exact hz2
      · split <;> first | rfl | exact hz2
    · have hz2 : iv (f_at r t j) ≠ 0 := fun q => hz (by rw [h.1, q]; rfl)
      by_cases h10 : rK r t < 10
      · refine Or.inr (Or.inl ⟨iv (f_at r t j), ?_, hz2, h.2.1 h10, if_pos (Or.inr (Or.inl h10)), ?_⟩)
        · rw [if_neg (fun q => q.elim h0 (fun q => q.elim h8 (fun q => q.elim (by omega) (fun q => q hl))))]
        · unfold c_ref; rw [if_neg hz, if_pos h10]
      · refine Or.inr (Or.inr ⟨iv (f_at r t j), ?_, hz2, h.2.2 (by omega), if_pos (Or.inr (Or.inr (Or.inl (by omega)))), ?_⟩)
        · rw [if_neg (fun q => q.elim h0 (fun q => q.elim h10 (fun q => q hl)))]
        · unfold c_ref; rw [if_neg hz, if_neg h10]
  · exact Or.inl ⟨if_pos (Or.inr (Or.inr hl)), if_pos (Or.inr (Or.inr hl)), if_pos (Or.inr (Or.inr (Or.inr hl)))⟩
