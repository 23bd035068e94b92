/-! base, 2: booleans, answers that are known, rooms by depth -/
def rmd (d mc ms : Nat) : Room := { frames := d, cells := mc, slots := ms, locals := 40 * d }
theorem b2i_01 (b : Bool) : b2i b = 0 ∨ b2i b = 1 := by cases b <;> simp [b2i]
theorem b2i_eq0 {b : Bool} (h : b2i b = 0) : b = false := by cases b <;> simp_all [b2i]
theorem b2i_ne0 {b : Bool} (h : ¬ b2i b = 0) : b = true := by cases b <;> simp_all [b2i]
def px_V (v : Option Value) : Array Value → State → Outcome → State → Prop := fun _ st oc t => oc = .returned v ∧ t.heap = st.heap
def px_M (D : va_G) (cy : Nat → ClassId) (A : Nat → Prop) (G : Nat → Nat) (v : Option Value) (r' : RS) : Option Value → Heap → Prop := fun v' H => v' = v ∧ ∃ (C : Nat → Nat) (E : Nat → Int64), MR D cy A G r' C E H
def px_Mx (D : va_G) (cy : Nat → ClassId) (A : Nat → Prop) (G : Nat → Nat) (v : Option Value) (r' : RS) (C : Nat → Nat) (E : Nat → Int64) : Option Value → Heap → Prop := fun v' H => v' = v ∧ MR D cy A G r' C E H
theorem nIlt {a b : Nat} (h : nI a < nI b) (ha : a < 2 ^ 31) (hb : b < 2 ^ 31) : a < b := (nI_ltI ha hb).mp h
theorem nInlt {a b : Nat} (h : ¬ nI a < nI b) (ha : a < 2 ^ 31) (hb : b < 2 ^ 31) : b ≤ a := Nat.not_lt.mp fun q => h ((nI_ltI ha hb).mpr q)
theorem nIle {a b : Nat} (h : nI a ≤ nI b) (ha : a < 2 ^ 31) (hb : b < 2 ^ 31) : a ≤ b := (nI_leI ha hb).mp h
theorem nInle {a b : Nat} (h : ¬ nI a ≤ nI b) (ha : a < 2 ^ 31) (hb : b < 2 ^ 31) : b < a := Nat.not_le.mp fun q => h ((nI_leI ha hb).mpr q)
theorem nIeq {a b : Nat} (h : nI a = nI b) (ha : a < 2 ^ 31) (hb : b < 2 ^ 31) : a = b := (nI_eq ha hb).mp h
theorem nIne {a b : Nat} (h : ¬ nI a = nI b) : ¬ a = b := fun q => h (by rw [q])
section PX2
variable {p : Program} {l : Launch} {e : Env} {R : Room} {s : State} {m : MethodId} {args : Array Value} {below : List Frame} {meth : Method} {c : Code} {H : Heap} {locs : List Loc} {cells slots : Nat} {Q : State → Prop} {cc : ByteArray} {pc nL : Nat} {ls : Array Slot} {rest st0 st1 : List Value} {own : String} {D : va_G} {cy : Nat → ClassId} {A : Nat → Prop} {H0 : Heap}
theorem px_topi {x y : Int32} (h : x = y) (k : W p l e R s m args below meth c H locs cells slots Q (F0 m pc ls (.int y :: rest))) : W p l e R s m args below meth c H locs cells slots Q (F0 m pc ls (.int x :: rest)) := h ▸ k
theorem px_topl {x y : Int64} (h : x = y) (k : W p l e R s m args below meth c H locs cells slots Q (F0 m pc ls (.long y :: rest))) : W p l e R s m args below meth c H locs cells slots Q (F0 m pc ls (.long x :: rest)) := h ▸ k
theorem x_ifeq_b {b : Bool} (hexec : p.tables.exec = Jvm.exec) (hb : c.code = cc) {off : Int} {tgt : Nat} (hdg : decode cc pc = .ok (.ifCond .eq off, 3)) (ht : (pc : Int) + off = (tgt : Int)) (kt : b = false → W p l e R s m args below meth c H locs cells slots Q (F0 m tgt ls rest)) (kf : b = true → W p l e R s m args below meth c H locs cells slots Q (F0 m (pc + 3) ls rest)) : W p l e R s m args below meth c H locs cells slots Q (F0 m pc ls (.int (b2i b) :: rest)) :=
  lv_if_eq hexec hb hdg ht (fun h => kt (b2i_eq0 h)) (fun h => kf (b2i_ne0 h))
theorem x_ifne_b {b : Bool} (hexec : p.tables.exec = Jvm.exec) (hb : c.code = cc) {off : Int} {tgt : Nat} (hdg : decode cc pc = .ok (.ifCond .ne off, 3)) (ht : (pc : Int) + off = (tgt : Int)) (kt : b = true → W p l e R s m args below meth c H locs cells slots Q (F0 m tgt ls rest)) (kf : b = false → W p l e R s m args below meth c H locs cells slots Q (F0 m (pc + 3) ls rest)) : W p l e R s m args below meth c H locs cells slots Q (F0 m pc ls (.int (b2i b) :: rest)) :=
  lv_if_ne hexec hb hdg ht (fun h => kt (b2i_ne0 h)) (fun h => kf (b2i_eq0 h))
theorem px_goV {v : Option Value} {a : Array Value} (hr : va_Run p l e R s m args below meth c H locs cells slots 0 0 (F0 m pc ls st0) rest (px_V v a) (fun _ => False)) (h1 : v.toList ++ rest = st1)
    (kk : W p l e R s m args below meth c H locs cells slots Q (F0 m (pc + 3) ls st1)) : W p l e R s m args below meth c H locs cells slots Q (F0 m pc ls st0) := by
  intro T hT X
  obtain ⟨v, st₀, t, T', L, h0, X', hL, e1, e2, ⟨hv, hh⟩, st⟩ := hr T hT X
  cases hv
  subst h1
  obtain ⟨t2, a1, b1⟩ := kk T' (by rw [e1, hh, h0]) (Stand.forget X' (fun q h => (hL q h).elim))
  exact ⟨t2, st t2 a1, b1⟩
theorem px_goM {G : Nat → Nat} {v : Option Value} {r' : RS} {a : Array Value} (hr : va_Run p l e R s m args below meth c H locs cells slots 0 0 (F0 m pc ls st0) rest (px_Q (px_M D cy A G v r') A a) A) (hS : va_S A H0 H locs) (h1 : v.toList ++ rest = st1)
    (kk : ∀ (H : Heap) (locs : List Loc) (C : Nat → Nat) (E : Nat → Int64), MR D cy A G r' C E H → va_S A H0 H locs → W p l e R s m args below meth c H locs cells slots Q (F0 m (pc + 3) ls st1)) : W p l e R s m args below meth c H locs cells slots Q (F0 m pc ls st0) := by
  refine px_goQ hr hS (fun v' H1 locs1 hp _ _ hS => ?_)
  obtain ⟨rfl, C, E, hR⟩ := hp
  subst h1
  exact kk H1 locs1 C E hR hS
theorem px_goMx {G : Nat → Nat} {v : Option Value} {r' : RS} {C : Nat → Nat} {E : Nat → Int64} {a : Array Value} (hr : va_Run p l e R s m args below meth c H locs cells slots 0 0 (F0 m pc ls st0) rest (px_Q (px_Mx D cy A G v r' C E) A a) A) (hS : va_S A H0 H locs) (h1 : v.toList ++ rest = st1)
    (kk : ∀ (H : Heap) (locs : List Loc), MR D cy A G r' C E H → va_S A H0 H locs → W p l e R s m args below meth c H locs cells slots Q (F0 m (pc + 3) ls st1)) : W p l e R s m args below meth c H locs cells slots Q (F0 m pc ls st0) := by
  refine px_goQ hr hS (fun v' H1 locs1 hp _ _ hS => ?_)
  obtain ⟨rfl, hR⟩ := hp
  subst h1
  exact kk H1 locs1 hR hS
theorem pv_iret {x : Int32} {v : Option Value} (F : px_F p m c cc nL s args own) (hr : meth.sig.returnType = some .int) (hlocks : meth.locks = false) (hp : some (.int x) = v) (hdg : decode cc pc = .ok (.ireturn, 1)) : W p l e R s m args below meth c s.heap [] 0 0 (MQ below (px_V v) args s 0 0 (fun _ => False)) (F0 m pc ls [.int x]) :=
  W.iret F.1 F.2.1 hr (fun t ht hW => ⟨by rw [hp], ht⟩) (fun _ h => by cases h) hdg
theorem pv_zret {x : Int32} {v : Option Value} (F : px_F p m c cc nL s args own) (hr : meth.sig.returnType = some .boolean) (hlocks : meth.locks = false) (hn : x = 0 ∨ x = 1) (hp : some (.int x) = v) (hdg : decode cc pc = .ok (.ireturn, 1)) : W p l e R s m args below meth c s.heap [] 0 0 (MQ below (px_V v) args s 0 0 (fun _ => False)) (F0 m pc ls [.int x]) :=
  W.zret F.1 F.2.1 hr (by rcases hn with rfl | rfl <;> rfl) (fun t ht hW => ⟨by rw [hp], ht⟩) (fun _ h => by cases h) hdg
theorem pv_lret {x : Int64} {v : Option Value} (F : px_F p m c cc nL s args own) (hr : meth.sig.returnType = some .long) (hlocks : meth.locks = false) (hp : some (.long x) = v) (hdg : decode cc pc = .ok (.lreturn, 1)) : W p l e R s m args below meth c s.heap [] 0 0 (MQ below (px_V v) args s 0 0 (fun _ => False)) (F0 m pc ls [.long x]) :=
  W.lret F.1 F.2.1 hr (fun t ht hW => ⟨by rw [hp], ht⟩) (fun _ h => by cases h) hdg
theorem pv_aret {x : Option Nat} {C : String} {v : Option Value} (F : px_F p m c cc nL s args own) (hr : meth.sig.returnType = some (.object C)) (hlocks : meth.locks = false) (hp : some (va_rf x) = v) (hdg : decode cc pc = .ok (.areturn, 1)) : W p l e R s m args below meth c s.heap [] 0 0 (MQ below (px_V v) args s 0 0 (fun _ => False)) (F0 m pc ls [va_rf x]) :=
  W.aret F.1 F.2.1 hr (Or.inl ⟨C, rfl⟩) (va_rf_or x) (fun t ht hW => ⟨by rw [hp], ht⟩) (fun _ h => by cases h) hdg
theorem m_recv {G : Nat → Nat} {r : RS} {C : Nat → Nat} {E : Nat → Int64} (hK : KK D cy s) (hR : MR D cy A G r C E H) : ∃ cell : Cell, H[G 0]? = some cell ∧ cell.vm.isStatics = false ∧ s.vm.findClass RX6 = some cell.cls := va_recv hK.1 hR.1 (ci := 4) (q0 := 0) rfl rfl
end PX2
