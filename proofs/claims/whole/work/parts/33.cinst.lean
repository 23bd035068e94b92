/-! the class: instanceof, casts, receivers, values that may be nothing -/
section CZ
variable {p : Program} {l : Launch} {e : Env} {R : Room} {s : State} {m : MethodId} {args : Array Value} {below : List Frame} {meth : Method} {c : Code} {H : Heap} {locs : List Loc} {cells slots : Nat} {Q : State → Prop} {cc : ByteArray} {pc nL : Nat} {ls : Array Slot} {rest st0 : List Value} {D : va_G} {cy : Nat → ClassId} {A A' : Nat → Prop} {H0 : Heap} {r : RS} {g : CG} {own : String}
theorem px_As.nw {C T : String} {U : State} (h : px_As C T true U) : va_Nw (.castable C T) U := by
  obtain ⟨a, b, h1, h2, h3⟩ := h
  simp [va_Nw, Cond.before, Cond.holds, Cond.value, h1, h2, h3]
theorem c_inst (F : px_F p m c cc nL s args own) (hK : KK D cy s) {a : Nat} {C nm : String} (b : Bool) (hr : ∃ cell : Cell, H[a]? = some cell ∧ cell.vm.isStatics = false ∧ s.vm.findClass C = some cell.cls) (hp : (C, nm, b) ∈ px_prs) {idx : Nat} (hw : Cond.classLink own idx nm ∈ bigW) (hdg : decode cc pc = .ok (.instanceof idx, 3)) (kk : W p l e R s m args below meth c H locs cells slots Q (F0 m (pc + 3) ls (.int (b2i b) :: rest))) : W p l e R s m args below meth c H locs cells slots Q (F0 m pc ls (.ref a :: rest)) := by
  have h := hK.2.1 _ hp
  cases b with
  | true => exact va_instY F.1 F.2.1 F.2.2.2.1 (F.2.2.2.2 _ hw) (px_As.nw h) hr hdg kk
  | false => exact va_instNo F.1 F.2.1 F.2.2.2.1 (F.2.2.2.2 _ hw) h hr hdg kk
theorem c_cast (F : px_F p m c cc nL s args own) (hK : KK D cy s) {a : Nat} {C nm : String} (hr : ∃ cell : Cell, H[a]? = some cell ∧ cell.vm.isStatics = false ∧ s.vm.findClass C = some cell.cls) (hp : (C, nm, true) ∈ px_prs) {idx : Nat} (hw : Cond.classLink own idx nm ∈ bigW) (hdg : decode cc pc = .ok (.checkcast idx, 3)) (kk : W p l e R s m args below meth c H locs cells slots Q (F0 m (pc + 3) ls (.ref a :: rest))) : W p l e R s m args below meth c H locs cells slots Q (F0 m pc ls (.ref a :: rest)) :=
  va_castY F.1 F.2.1 F.2.2.2.1 (F.2.2.2.2 _ hw) (px_As.nw (hK.2.1 _ hp)) hr hdg kk
theorem c_rP (hK : KK D cy s) (hC : CR D cy A r g H) {t : Nat} (h0 : t ≠ 0) (ht : t ≤ rT r) (hk : rK r t < 8) : ∃ cell : Cell, H[gA g (3 * t)]? = some cell ∧ cell.vm.isStatics = false ∧ s.vm.findClass RX2 = some cell.cls := va_recv hK.1 (hC.tabP h0 ht hk) (ci := 1) (q0 := 0) rfl rfl
theorem c_rH (hK : KK D cy s) (hC : CR D cy A r g H) {t : Nat} (h0 : t ≠ 0) (ht : t ≤ rT r) (hk : 8 ≤ rK r t) : ∃ cell : Cell, H[gA g (3 * t)]? = some cell ∧ cell.vm.isStatics = false ∧ s.vm.findClass RX0 = some cell.cls := va_recv hK.1 (hC.tabH h0 ht hk) (ci := 0) (q0 := 0) rfl rfl
theorem c_rV (hK : KK D cy s) (hC : CR D cy A r g H) {v : Nat} (h0 : v ≠ 0) (hv : v ≤ rM r) : ∃ cell : Cell, H[gA g (3 * v + 2)]? = some cell ∧ cell.vm.isStatics = false ∧ s.vm.findClass RX4 = some cell.cls := va_recv hK.1 (hC.thg h0 hv) (ci := 2) (q0 := 0) rfl rfl
theorem c_iP (F : px_F p m c cc nL s args own) (hK : KK D cy s) (hC : CR D cy A r g H) {t : Nat} (h0 : t ≠ 0) (ht : t ≤ rT r) {idx : Nat} (hw : Cond.classLink own idx RX2 ∈ bigW) (hdg : decode cc pc = .ok (.instanceof idx, 3)) (kk : W p l e R s m args below meth c H locs cells slots Q (F0 m (pc + 3) ls (.int (b2i (decide (rK r t < 8))) :: rest))) : W p l e R s m args below meth c H locs cells slots Q (F0 m pc ls (.ref (gA g (3 * t)) :: rest)) := by
  by_cases h : rK r t < 8
  · rw [decide_eq_true h] at kk
    exact c_inst F hK true (c_rP hK hC h0 ht h) (List.mem_of_getElem? (i := 9) rfl) hw hdg kk
  · rw [decide_eq_false h] at kk
    exact c_inst F hK false (c_rH hK hC h0 ht (by omega)) (List.mem_of_getElem? (i := 10) rfl) hw hdg kk
theorem c_iH (F : px_F p m c cc nL s args own) (hK : KK D cy s) (hC : CR D cy A r g H) {t : Nat} (h0 : t ≠ 0) (ht : t ≤ rT r) {idx : Nat} (hw : Cond.classLink own idx RX0 ∈ bigW) (hdg : decode cc pc = .ok (.instanceof idx, 3)) (kk : W p l e R s m args below meth c H locs cells slots Q (F0 m (pc + 3) ls (.int (b2i (decide (8 ≤ rK r t))) :: rest))) : W p l e R s m args below meth c H locs cells slots Q (F0 m pc ls (.ref (gA g (3 * t)) :: rest)) := by
  by_cases h : 8 ≤ rK r t
  · rw [decide_eq_true h] at kk
    exact c_inst F hK true (c_rH hK hC h0 ht h) (List.mem_of_getElem? (i := 12) rfl) hw hdg kk
  · rw [decide_eq_false h] at kk
    exact c_inst F hK false (c_rP hK hC h0 ht (by omega)) (List.mem_of_getElem? (i := 11) rfl) hw hdg kk
theorem c_iTt (F : px_F p m c cc nL s args own) (hK : KK D cy s) (hC : CR D cy A r g H) {t : Nat} (h0 : t ≠ 0) (ht : t ≤ rT r) {idx : Nat} (hw : Cond.classLink own idx RX3 ∈ bigW) (hdg : decode cc pc = .ok (.instanceof idx, 3)) (kk : W p l e R s m args below meth c H locs cells slots Q (F0 m (pc + 3) ls (.int 1 :: rest))) : W p l e R s m args below meth c H locs cells slots Q (F0 m pc ls (.ref (gA g (3 * t)) :: rest)) := by
  by_cases h : rK r t < 8
  · exact c_inst F hK true (c_rP hK hC h0 ht h) (List.mem_of_getElem? (i := 3) rfl) hw hdg kk
  · exact c_inst F hK true (c_rH hK hC h0 ht (by omega)) (List.mem_of_getElem? (i := 4) rfl) hw hdg kk
theorem c_iVt (F : px_F p m c cc nL s args own) (hK : KK D cy s) (hC : CR D cy A r g H) {t : Nat} (h0 : t ≠ 0) (ht : t ≤ rT r) {idx : Nat} (hw : Cond.classLink own idx RX4 ∈ bigW) (hdg : decode cc pc = .ok (.instanceof idx, 3)) (kk : W p l e R s m args below meth c H locs cells slots Q (F0 m (pc + 3) ls (.int 0 :: rest))) : W p l e R s m args below meth c H locs cells slots Q (F0 m pc ls (.ref (gA g (3 * t)) :: rest)) := by
  by_cases h : rK r t < 8
  · exact c_inst F hK false (c_rP hK hC h0 ht h) (List.mem_of_getElem? (i := 7) rfl) hw hdg kk
  · exact c_inst F hK false (c_rH hK hC h0 ht (by omega)) (List.mem_of_getElem? (i := 8) rfl) hw hdg kk
theorem c_iTv (F : px_F p m c cc nL s args own) (hK : KK D cy s) (hC : CR D cy A r g H) {v : Nat} (h0 : v ≠ 0) (hv : v ≤ rM r) {idx : Nat} (hw : Cond.classLink own idx RX3 ∈ bigW) (hdg : decode cc pc = .ok (.instanceof idx, 3)) (kk : W p l e R s m args below meth c H locs cells slots Q (F0 m (pc + 3) ls (.int 0 :: rest))) : W p l e R s m args below meth c H locs cells slots Q (F0 m pc ls (.ref (gA g (3 * v + 2)) :: rest)) :=
  c_inst F hK false (c_rV hK hC h0 hv) (List.mem_of_getElem? (i := 5) rfl) hw hdg kk
theorem c_iVv (F : px_F p m c cc nL s args own) (hK : KK D cy s) (hC : CR D cy A r g H) {v : Nat} (h0 : v ≠ 0) (hv : v ≤ rM r) {idx : Nat} (hw : Cond.classLink own idx RX4 ∈ bigW) (hdg : decode cc pc = .ok (.instanceof idx, 3)) (kk : W p l e R s m args below meth c H locs cells slots Q (F0 m (pc + 3) ls (.int 1 :: rest))) : W p l e R s m args below meth c H locs cells slots Q (F0 m pc ls (.ref (gA g (3 * v + 2)) :: rest)) :=
  c_inst F hK true (c_rV hK hC h0 hv) (List.mem_of_getElem? (i := 6) rfl) hw hdg kk
theorem c_cP (F : px_F p m c cc nL s args own) (hK : KK D cy s) (hC : CR D cy A r g H) {t : Nat} (h0 : t ≠ 0) (ht : t ≤ rT r) (hk : rK r t < 8) {idx : Nat} (hw : Cond.classLink own idx RX2 ∈ bigW) (hdg : decode cc pc = .ok (.checkcast idx, 3)) (kk : W p l e R s m args below meth c H locs cells slots Q (F0 m (pc + 3) ls (.ref (gA g (3 * t)) :: rest))) : W p l e R s m args below meth c H locs cells slots Q (F0 m pc ls (.ref (gA g (3 * t)) :: rest)) :=
  c_cast F hK (c_rP hK hC h0 ht hk) (List.mem_of_getElem? (i := 9) rfl) hw hdg kk
theorem c_cH (F : px_F p m c cc nL s args own) (hK : KK D cy s) (hC : CR D cy A r g H) {t : Nat} (h0 : t ≠ 0) (ht : t ≤ rT r) (hk : 8 ≤ rK r t) {idx : Nat} (hw : Cond.classLink own idx RX0 ∈ bigW) (hdg : decode cc pc = .ok (.checkcast idx, 3)) (kk : W p l e R s m args below meth c H locs cells slots Q (F0 m (pc + 3) ls (.ref (gA g (3 * t)) :: rest))) : W p l e R s m args below meth c H locs cells slots Q (F0 m pc ls (.ref (gA g (3 * t)) :: rest)) :=
  c_cast F hK (c_rH hK hC h0 ht hk) (List.mem_of_getElem? (i := 12) rfl) hw hdg kk
theorem c_cT (F : px_F p m c cc nL s args own) (hK : KK D cy s) (hC : CR D cy A r g H) {t : Nat} (h0 : t ≠ 0) (ht : t ≤ rT r) {idx : Nat} (hw : Cond.classLink own idx RX3 ∈ bigW) (hdg : decode cc pc = .ok (.checkcast idx, 3)) (kk : W p l e R s m args below meth c H locs cells slots Q (F0 m (pc + 3) ls (.ref (gA g (3 * t)) :: rest))) : W p l e R s m args below meth c H locs cells slots Q (F0 m pc ls (.ref (gA g (3 * t)) :: rest)) := by
  by_cases h : rK r t < 8
  · exact c_cast F hK (c_rP hK hC h0 ht h) (List.mem_of_getElem? (i := 3) rfl) hw hdg kk
  · exact c_cast F hK (c_rH hK hC h0 ht (by omega)) (List.mem_of_getElem? (i := 4) rfl) hw hdg kk
theorem c_cV (F : px_F p m c cc nL s args own) (hK : KK D cy s) (hC : CR D cy A r g H) {v : Nat} (h0 : v ≠ 0) (hv : v ≤ rM r) {idx : Nat} (hw : Cond.classLink own idx RX4 ∈ bigW) (hdg : decode cc pc = .ok (.checkcast idx, 3)) (kk : W p l e R s m args below meth c H locs cells slots Q (F0 m (pc + 3) ls (.ref (gA g (3 * v + 2)) :: rest))) : W p l e R s m args below meth c H locs cells slots Q (F0 m pc ls (.ref (gA g (3 * v + 2)) :: rest)) :=
  c_cast F hK (c_rV hK hC h0 hv) (List.mem_of_getElem? (i := 6) rfl) hw hdg kk
theorem asg_any {C T : String} {a : Nat} (h : px_As C T true s) (hr : ∃ cell : Cell, H[a]? = some cell ∧ cell.vm.isStatics = false ∧ s.vm.findClass C = some cell.cls) : va_Any T s H a := by
  obtain ⟨x, y, h1, h2, h3⟩ := h
  obtain ⟨cell, q1, q2, q3⟩ := hr
  obtain ⟨kC, hkC, -⟩ := Vm.findClass_spec q3
  have e1 : x = cell.cls := Option.some.inj (h1.symm.trans q3)
  exact ⟨cell, q1, q2, ⟨kC, hkC⟩, fun comp hc => by rw [← e1, show comp = y from Option.some.inj (hc.symm.trans h2)]; exact h3⟩
theorem c_anyIt (hK : KK D cy s) (hC : CR D cy A r g H) {t : Nat} (h0 : t ≠ 0) (ht : t ≤ rT r) : va_Any RX1 s H (gA g (3 * t)) := by
  by_cases h : rK r t < 8
  · exact asg_any (hK.2.1 (RX2, RX1, true) (List.mem_of_getElem? (i := 1) rfl)) (c_rP hK hC h0 ht h)
  · exact asg_any (hK.2.1 (RX0, RX1, true) (List.mem_of_getElem? (i := 2) rfl)) (c_rH hK hC h0 ht (by omega))
theorem c_anyIv (hK : KK D cy s) (hC : CR D cy A r g H) {v : Nat} (h0 : v ≠ 0) (hv : v ≤ rM r) : va_Any RX1 s H (gA g (3 * v + 2)) :=
  asg_any (hK.2.1 (RX4, RX1, true) (List.mem_of_getElem? (i := 0) rfl)) (c_rV hK hC h0 hv)
/-- behind a call whose free cells are fewer than the caller's -/
theorem px_goQ2 {post : Option Value → Heap → Prop} {mc ms : Nat} {a : Array Value} (hr : va_Run p l e R s m args below meth c H locs cells slots mc ms (F0 m pc ls st0) rest (px_Q post A' a) A') (hAA : ∀ q, A' q → A q) (hS : va_S A H0 H locs)
    (kk : ∀ (v : Option Value) (H1 : Heap) (locs1 : List Loc), post v H1 → H.size ≤ H1.size → (∀ q : Nat, q < H.size → ¬ A' q → H1[q]? = H[q]?) → va_S A H0 H1 locs1 → W p l e R s m args below meth c H1 locs1 (cells + mc) (slots + ms) Q (F0 m (pc + 3) ls (v.toList ++ rest))) : W p l e R s m args below meth c H locs cells slots Q (F0 m pc ls st0) := by
  intro T hT X
  obtain ⟨v, st₀, t, T', L, h0, X', hL, e1, e2, ⟨⟨v2, hv, hp⟩, hz, hk⟩, st⟩ := hr T hT X
  cases hv
  rw [h0] at hz hk
  obtain ⟨t2, a1, b1⟩ := kk v T'.heap (locs ++ L) (by rw [e1]; exact hp) (by rw [e1]; exact hz) (fun q h1 h2 => by rw [e1]; exact hk q h1 h2)
    ⟨Nat.le_trans hS.1 (by rw [e1]; exact hz), fun q h1 h2 => by rw [e1, hk q (Nat.lt_of_lt_of_le h1 hS.1) (fun z => h2 (hAA q z))]; exact hS.2.1 q h1 h2, fun q hq => (List.mem_append.mp hq).elim (hS.2.2 q) (fun z => hAA _ (hL q z))⟩ T' rfl X'
  exact ⟨t2, st t2 a1, b1⟩
end CZ
