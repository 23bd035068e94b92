/-! base, 3: compares of longs; items that are numbers of tables or things -/
theorem lg_cmp_eq0 {x y : Int64} : lg_cmp x y = 0 ↔ x = y := by
  unfold lg_cmp
  by_cases h1 : y < x
  · have : x ≠ y := fun q => by rw [q] at h1; exact Int64.lt_irrefl h1
    simp [h1, this]
  · by_cases h2 : x = y
    · simp [h2]
    · simp [h1, h2]
theorem lg_cmp_le0 {x y : Int64} : lg_cmp x y ≤ 0 ↔ ¬ y < x := by
  unfold lg_cmp
  by_cases h1 : y < x
  · simp [h1]
  · by_cases h2 : x = y
    · simp [h2]
    · simp [h1, h2]
section PX3
variable {p : Program} {l : Launch} {e : Env} {R : Room} {s : State} {m : MethodId} {args : Array Value} {below : List Frame} {meth : Method} {c : Code} {H : Heap} {locs : List Loc} {cells slots : Nat} {Q : State → Prop} {cc : ByteArray} {pc nL : Nat} {ls : Array Slot} {rest : List Value}
theorem x_cmp_eq {x y : Int64} (hexec : p.tables.exec = Jvm.exec) (hb : c.code = cc) {off : Int} {tgt : Nat} (hdg : decode cc pc = .ok (.ifCond .eq off, 3)) (ht : (pc : Int) + off = (tgt : Int)) (kt : x = y → W p l e R s m args below meth c H locs cells slots Q (F0 m tgt ls rest)) (kf : ¬ x = y → W p l e R s m args below meth c H locs cells slots Q (F0 m (pc + 3) ls rest)) : W p l e R s m args below meth c H locs cells slots Q (F0 m pc ls (.int (lg_cmp x y) :: rest)) :=
  lv_if_eq hexec hb hdg ht (fun h => kt (lg_cmp_eq0.mp h)) (fun h => kf (fun q => h (lg_cmp_eq0.mpr q)))
theorem x_cmp_ne {x y : Int64} (hexec : p.tables.exec = Jvm.exec) (hb : c.code = cc) {off : Int} {tgt : Nat} (hdg : decode cc pc = .ok (.ifCond .ne off, 3)) (ht : (pc : Int) + off = (tgt : Int)) (kt : ¬ x = y → W p l e R s m args below meth c H locs cells slots Q (F0 m tgt ls rest)) (kf : x = y → W p l e R s m args below meth c H locs cells slots Q (F0 m (pc + 3) ls rest)) : W p l e R s m args below meth c H locs cells slots Q (F0 m pc ls (.int (lg_cmp x y) :: rest)) :=
  lv_if_ne hexec hb hdg ht (fun h => kt (fun q => h (lg_cmp_eq0.mpr q))) (fun h => kf (lg_cmp_eq0.mp h))
theorem x_cmp_le {x y : Int64} (hexec : p.tables.exec = Jvm.exec) (hb : c.code = cc) {off : Int} {tgt : Nat} (hdg : decode cc pc = .ok (.ifCond .le off, 3)) (ht : (pc : Int) + off = (tgt : Int)) (kt : ¬ y < x → W p l e R s m args below meth c H locs cells slots Q (F0 m tgt ls rest)) (kf : y < x → W p l e R s m args below meth c H locs cells slots Q (F0 m (pc + 3) ls rest)) : W p l e R s m args below meth c H locs cells slots Q (F0 m pc ls (.int (lg_cmp x y) :: rest)) :=
  lv_if_le hexec hb hdg ht (fun h => kt (lg_cmp_le0.mp h)) (fun h => kf (Decidable.of_not_not (fun q => h (lg_cmp_le0.mpr q))))
end PX3
theorem Inv.it {k : Nat} {r : RS} (h : Inv k r) {t j : Nat} (h1 : t ≠ 0) (ht : t ≤ rT r) (hj : j < rMn r t) (hk : 8 ≤ rK r t) : f_at r t j = lN (iv (f_at r t j)) ∧ iv (f_at r t j) ≤ 12512 ∧ (rK r t < 10 → iv (f_at r t j) ≤ rM r) ∧ (rK r t = 9 → iv (f_at r t j) ≠ 0 → rIM r (iv (f_at r t j)) = true) ∧ (10 ≤ rK r t → iv (f_at r t j) ≤ rT r ∧ (iv (f_at r t j) ≠ 0 → f_isOf r (iv (f_at r t j)) (rkN (rK r t)) = true)) := by
  have hb := h.bd
  have ho := h.2.2.2.2.2.2.2.2 t (by omega) ht j hj
  rcases ho with ho | ⟨w, hw, ho⟩
  · omega
  · have hw2 : w ≤ 12512 := by rcases ho with ho | ho | ho | ho <;> omega
    have e : iv (f_at r t j) = w := by rw [hw]; exact iv_lN (by omega)
    rw [e]
    refine ⟨hw, hw2, fun h10 => ?_, fun h9 hn => ?_, fun h10 => ?_⟩
    · rcases ho with ho | ho | ho | ho <;> omega
    · rcases ho with ho | ho | ho | ho
      · omega
      · omega
      · exact ho.2.2
      · omega
    · rcases ho with ho | ho | ho | ho
      · exact ⟨by omega, fun q => absurd ho q⟩
      · omega
      · omega
      · exact ⟨ho.2.1, fun _ => ho.2.2⟩
theorem isOf_k {r : RS} {w k : Nat} (h : f_isOf r w k = true) (hw : w ≠ 0) : rK r w = k ∨ (k = 8 ∧ rK r w = 9) := by
  simp only [f_isOf, Bool.or_eq_true, Bool.and_eq_true, decide_eq_true_eq] at h
  rcases h with h | h | h
  · exact absurd h hw
  · exact Or.inl h
  · exact Or.inr h
theorem le_nat2 {v hi : Int32} (b : Nat) (h0 : 0 ≤ v) (h : v ≤ hi) (hb : hi = nI b) (hb2 : b < 2 ^ 31) : ∃ n : Nat, n ≤ b ∧ v = nI n := le_nat b (Int32.not_lt.mpr h0) (Int32.not_lt.mpr h) hb hb2
theorem b2i_inj {a b : Bool} (h : b2i a = b2i b) : a = b := by cases a <;> cases b <;> simp_all [b2i]
theorem b2i_ninj {a b : Bool} (h : ¬ b2i a = b2i b) : ¬ a = b := fun q => h (by rw [q])
theorem rkN_le (k : Nat) : rkN k ≤ 10 := by
  unfold rkN
  split
  · omega
  · split
    · omega
    · split <;> omega
