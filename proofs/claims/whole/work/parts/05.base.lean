/-! base: one word list for all methods; contracts' starts and ends; calls -/
abbrev px_w (y : MethodName) (b : ByteArray) (n : Nat) (r : Option FieldType) : List Cond := Cond.code y b n r :: bigW
theorem px_gin {Ts : List Cond} (hT : ∀ w ∈ bigW, w ∈ Ts) {y : MethodName} {b : ByteArray} {n : Nat} {r : Option FieldType} (hk : Cond.code y b n r ∈ bigW) : GoodIn Ts (px_w y b n r) := by
  intro w hw
  have hg : w ∈ bigW := (List.mem_cons.mp hw).elim (fun e => by rw [e]; exact hk) id
  exact ⟨hT w hg, good_of_word (List.all_eq_true.mp bigW_good w hg)⟩
/-- a class is assignable to another, or not -/
def px_As (C T : String) (b : Bool) (U : State) : Prop := ∃ c t : ClassId, U.vm.findClass C = some c ∧ U.vm.findClass T = some t ∧ U.vm.assignable c t = b
theorem px_As.moved {C T : String} {b : Bool} {u U : State} (hvm : u.vm.Alike U.vm) (h : px_As C T b u) : px_As C T b U := by
  obtain ⟨c, t, h1, h2, h3⟩ := h
  exact ⟨c, t, by rw [hvm.findClass]; exact h1, by rw [hvm.findClass]; exact h2, by rw [hvm.assignable]; exact h3⟩
def px_prs : List (String × String × Bool) := [(RX4, RX1, true), (RX2, RX1, true), (RX0, RX1, true), (RX2, RX3, true), (RX0, RX3, true), (RX4, RX3, false), (RX4, RX4, true), (RX2, RX4, false), (RX0, RX4, false), (RX2, RX2, true), (RX0, RX2, false), (RX2, RX0, false), (RX0, RX0, true)]
/-- what the tables say, at any state of the run -/
def KK (D : va_G) (cy : Nat → ClassId) (U : State) : Prop := va_K D vwCl [(cy 0, .byte), (cy 1, .int), (cy 2, .long), (cy 3, .boolean), (cy 4, .object RX3), (cy 5, .object RX1)] U ∧ (∀ q ∈ px_prs, px_As q.1 q.2.1 q.2.2 U) ∧ va_AO RX3 U ∧ va_AO RX1 U ∧ va_Nw (.declares ⟨RX3, "count", "()I"⟩) U ∧ va_Nw (.methodLinkNest RX3 1 yX1_init "PlanCopies") U ∧ va_Nw (.methodLinkNest RX4 1 yX1_init "PlanCopies") U
theorem KK.warm {D : va_G} {cy : Nat → ClassId} {s U : State} (hW : s.WarmedH U.vm) (h : KK D cy s) : KK D cy U := ⟨va_K.moved hW.alike h.1, fun q hq => (h.2.1 q hq).moved hW.alike, va_AO.moved hW.alike h.2.2.1, va_AO.moved hW.alike h.2.2.2.1, va_Nw.warmD hW h.2.2.2.2.1, va_Nw.warmM hW h.2.2.2.2.2.1, va_Nw.warmM hW h.2.2.2.2.2.2⟩
theorem KK.call {D : va_G} {cy : Nat → ClassId} {U : State} {g : JFrame} {mk : MethodId} {a : Array Value} (h : KK D cy U) : KK D cy (U.calling g mk a) := ⟨va_K.moved (u := U) (U := U.calling g mk a) (Vm.Alike.refl U.vm) h.1, fun q hq => (h.2.1 q hq).moved (U := U.calling g mk a) (Vm.Alike.refl U.vm), va_AO.moved (U := U.calling g mk a) (Vm.Alike.refl U.vm) h.2.2.1, va_AO.moved (U := U.calling g mk a) (Vm.Alike.refl U.vm) h.2.2.2.1, va_Nw.same (U := U.calling g mk a) rfl rfl h.2.2.2.2.1, va_Nw.same (U := U.calling g mk a) rfl rfl h.2.2.2.2.2.1, va_Nw.same (U := U.calling g mk a) rfl rfl h.2.2.2.2.2.2⟩
/-- a contract's start, its end where the heap may change, its end where it doesn't -/
def px_P (D : va_G) (cy : Nat → ClassId) (av : List Value) (sz : Nat) (B : Heap → Prop) : Array Value → State → Prop := fun v U => v = av.toArray ∧ U.heap.size = sz ∧ B U.heap ∧ KK D cy U
def px_Q (post : Option Value → Heap → Prop) (A : Nat → Prop) : Array Value → State → Outcome → State → Prop := fun _ st oc t => (∃ v : Option Value, oc = .returned v ∧ post v t.heap) ∧ va_F A st t
def px_N (post : Option Value → Prop) : Array Value → State → Outcome → State → Prop := fun _ st oc t => ∃ v : Option Value, oc = .returned v ∧ post v ∧ t.heap = st.heap
theorem px_P.blind {D : va_G} {cy : Nat → ClassId} {av : List Value} {sz : Nat} {B : Heap → Prop} : FrameBlind (px_P D cy av sz B) := fun _ _ _ _ h => ⟨h.1, h.2.1, h.2.2.1, h.2.2.2.call⟩
/-- inside a method -/
def px_F (p : Program) (m : MethodId) (c : Code) (cc : ByteArray) (nL : Nat) (s : State) (args : Array Value) (own : String) : Prop := p.tables.exec = Jvm.exec ∧ c.code = cc ∧ c.maxLocals = nL ∧ s.vm.findClass own = some m.cls ∧ ∀ w ∈ bigW, w.before args s = true
/-- a method that can be called: static; by its receiver; a constructor -/
def px_YS (y : MethodName) (b : ByteArray) (n : Nat) (r : Option FieldType) (k : Nat) : Prop := Cond.code y b n r ∈ bigW ∧ Cond.static y ∈ bigW ∧ Cond.initialized y.cls ∈ bigW ∧ (y.cls ≠ "java/lang/invoke/MethodHandle" ∧ y.cls ≠ "java/lang/invoke/VarHandle" ∧ (parseMethodDescriptor y.desc).map (fun d => d.parameters.length) = some k)
def px_YV (y : MethodName) (b : ByteArray) (n : Nat) (r : Option FieldType) (k : Nat) : Prop := Cond.code y b n r ∈ bigW ∧ Cond.instanceMethod y ∈ bigW ∧ Cond.selects y.cls y y ∈ bigW ∧ Cond.initialized y.cls ∈ bigW ∧ (y.cls ≠ "java/lang/invoke/MethodHandle" ∧ y.cls ≠ "java/lang/invoke/VarHandle" ∧ (parseMethodDescriptor y.desc).map (fun d => d.parameters.length) = some k)
def px_YI (y : MethodName) (b : ByteArray) (n : Nat) (k : Nat) : Prop := Cond.code y b n none ∈ bigW ∧ Cond.instanceMethod y ∈ bigW ∧ y.name = "<init>" ∧ Cond.initialized y.cls ∈ bigW ∧ (y.cls ≠ "java/lang/invoke/MethodHandle" ∧ y.cls ≠ "java/lang/invoke/VarHandle" ∧ (parseMethodDescriptor y.desc).map (fun d => d.parameters.length) = some k)
section PX
variable {p : Program} {l : Launch} {e : Env} {R : Room} {s : State} {m : MethodId} {args : Array Value} {below : List Frame} {meth : Method} {c : Code} {H : Heap} {locs : List Loc} {cells slots : Nat} {Q : State → Prop} {cc : ByteArray} {pc nL : Nat} {ls : Array Slot} {rest st0 : List Value} {own : String} {D : va_G} {cy : Nat → ClassId} {A : Nat → Prop} {H0 : Heap}
theorem px_met {y : MethodName} {b : ByteArray} {n : Nat} {r : Option FieldType} {rm : Room} {av : List Value} {sz : Nat} {B : Heap → Prop} {Qc : Array Value → State → Outcome → State → Prop} {mc ms : Nat} {free : Addr → Prop} (hy : plainName y.cls = true) (hn : (lg_sl av).length ≤ n)
    (body : ∀ (p : Program) (e : Env) (s : State) (m : MethodId) (below : List Frame) (meth : Method) (c : Code), px_F p m c b n s av.toArray y.cls → meth.sig.returnType = r → meth.locks = false → meth.name = y.name → KK D cy s → s.heap.size = sz → B s.heap → ∀ ls : Array Slot, lv_has ls n (lv_args 0 av) → W p l e rm s m av.toArray below meth c s.heap [] 0 0 (MQ below Qc av.toArray s mc ms free) (F0 m 0 ls [])) :
    Met l y (px_w y b n r) rm (px_P D cy av sz B) Qc mc ms free := by
  refine Met.ofW (cc := b) (maxL := n) (ret := r) hy rfl ?_
  intro p e s m args below meth c s₁ B0 hml hv
  obtain ⟨rfl, hsz, hB, hK⟩ := hv
  have hts := atoms_spec (ws := px_w y b n r) B0.pre
  have hl := lv_entry av (n := n) hn
  rw [lg_entry_eq]
  exact body p e s m below meth c ⟨B0.exec, B0.bytes, hml, findClass_of_methodNamed B0.named, fun w hw => hts w (List.mem_cons_of_mem _ hw)⟩ B0.returns B0.notSynchronized (name_of_methodNamed B0.named B0.method).1 hK hsz hB _ hl
theorem px_callS {y : MethodName} {b : ByteArray} {n k idx : Nat} {r : Option FieldType} {rm : Room} {As : List Value} {sz : Nat} {B : Heap → Prop} {Qc : Array Value → State → Outcome → State → Prop} {mc ms : Nat} {free : Addr → Prop} (F : px_F p m c cc nL s args own) (hK : KK D cy s) (hM : Met l y (px_w y b n r) rm (px_P D cy As sz B) Qc mc ms free) (kc : px_YS y b n r k) (kl : Cond.methodLink own idx y ∈ bigW) (hsz : H.size = sz) (hB : B H) (hk : As.length = k) (hc : rm.cells = mc ∧ rm.slots = ms) (hR : rm.frames + 1 ≤ R.frames ∧ 8 + (n + 11) + rm.locals ≤ R.locals) (hl : ls.size = nL) (hst : st0 = As.reverse ++ rest) (hr : (rest.map fun v => v.category).sum ≤ 8) (hdg : decode cc pc = .ok (.invokestatic idx, 3)) (hf : cells + mc ≤ R.cells ∧ slots + ms ≤ R.slots) :
    va_Run p l e R s m args below meth c H locs cells slots mc ms (F0 m pc ls st0) rest (Qc As.toArray) free := by
  obtain ⟨hx, hb, hml, hown, hts⟩ := F
  obtain ⟨k1, k2, k3, k4⟩ := kc
  subst hk
  exact va_runS (As := As) ⟨hx, hb, hml, hown, hts⟩ hM ⟨callB_of _ hts (px_gin (fun _ h => h) k1) rfl hc.1 hc.2 (hts _ k3) (hts _ kl) k4 hR, hts _ k2⟩ ⟨px_P.blind, fun U hU hW => ⟨rfl, by rw [hU]; exact hsz, by rw [hU]; exact hB, hK.warm hW⟩⟩ rfl rfl hl hst (lv_room hr) hdg hf
theorem px_callV {y : MethodName} {b : ByteArray} {n k idx : Nat} {r : Option FieldType} {rm : Room} {o : Nat} {As : List Value} {sz : Nat} {B : Heap → Prop} {Qc : Array Value → State → Outcome → State → Prop} {mc ms : Nat} {free : Addr → Prop} (F : px_F p m c cc nL s args own) (hK : KK D cy s) (hM : Met l y (px_w y b n r) rm (px_P D cy (.ref o :: As) sz B) Qc mc ms free) (kc : px_YV y b n r k) (kl : Cond.methodLink own idx y ∈ bigW) (hsz : H.size = sz) (hB : B H) (hrc : ∃ cell : Cell, H[o]? = some cell ∧ cell.vm.isStatics = false ∧ s.vm.findClass y.cls = some cell.cls) (hk : As.length = k) (hc : rm.cells = mc ∧ rm.slots = ms) (hR : rm.frames + 1 ≤ R.frames ∧ 8 + (n + 11) + rm.locals ≤ R.locals) (hl : ls.size = nL) (hst : st0 = As.reverse ++ .ref o :: rest) (hr : (rest.map fun v => v.category).sum ≤ 8) (hdg : decode cc pc = .ok (.invokevirtual idx, 3)) (hf : cells + mc ≤ R.cells ∧ slots + ms ≤ R.slots) :
    va_Run p l e R s m args below meth c H locs cells slots mc ms (F0 m pc ls st0) rest (Qc (Value.ref o :: As).toArray) free := by
  obtain ⟨hx, hb, hml, hown, hts⟩ := F
  obtain ⟨k1, k2, k3, k5, k4⟩ := kc
  subst hk
  exact va_runV (C := y.cls) (As := As) ⟨hx, hb, hml, hown, hts⟩ hM ⟨callB_of _ hts (px_gin (fun _ h => h) k1) rfl hc.1 hc.2 (hts _ k5) (hts _ kl) k4 hR, hts _ k2, hts _ k3⟩ ⟨px_P.blind, hrc, fun U hU hW => ⟨rfl, by rw [hU]; exact hsz, by rw [hU]; exact hB, hK.warm hW⟩⟩ rfl rfl hl hst (lv_room hr) hdg hf
theorem px_callI {y : MethodName} {b : ByteArray} {n k idx : Nat} {rm : Room} {o : Nat} {As : List Value} {sz : Nat} {B : Heap → Prop} {Qc : Array Value → State → Outcome → State → Prop} {mc ms : Nat} {free : Addr → Prop} (F : px_F p m c cc nL s args own) (hK : KK D cy s) (hM : Met l y (px_w y b n none) rm (px_P D cy (.ref o :: As) sz B) Qc mc ms free) (kc : px_YI y b n k) (kl : Cond.methodLink own idx y ∈ bigW) (hsz : H.size = sz) (hB : B H) (hk : As.length = k) (hc : rm.cells = mc ∧ rm.slots = ms) (hR : rm.frames + 1 ≤ R.frames ∧ 8 + (n + 11) + rm.locals ≤ R.locals) (hl : ls.size = nL) (hst : st0 = As.reverse ++ .ref o :: rest) (hr : (rest.map fun v => v.category).sum ≤ 8) (hdg : decode cc pc = .ok (.invokespecial idx, 3)) (hf : cells + mc ≤ R.cells ∧ slots + ms ≤ R.slots) :
    va_Run p l e R s m args below meth c H locs cells slots mc ms (F0 m pc ls st0) rest (Qc (Value.ref o :: As).toArray) free := by
  obtain ⟨hx, hb, hml, hown, hts⟩ := F
  obtain ⟨k1, k2, k3, k5, k4⟩ := kc
  subst hk
  exact va_runI (As := As) ⟨hx, hb, hml, hown, hts⟩ hM ⟨callB_of _ hts (px_gin (fun _ h => h) k1) rfl hc.1 hc.2 (hts _ k5) (hts _ kl) k4 hR, k3, hts _ k2⟩ ⟨px_P.blind, fun U hU hW => ⟨rfl, by rw [hU]; exact hsz, by rw [hU]; exact hB, hK.warm hW⟩⟩ rfl rfl hl hst (lv_room hr) hdg hf
/-- behind a call -/
theorem px_goQ {post : Option Value → Heap → Prop} {mc ms : Nat} {a : Array Value} (hr : va_Run p l e R s m args below meth c H locs cells slots mc ms (F0 m pc ls st0) rest (px_Q post A a) A) (hS : va_S A H0 H locs)
    (kk : ∀ (v : Option Value) (H1 : Heap) (locs1 : List Loc), post v H1 → H.size ≤ H1.size → (∀ q : Nat, q < H.size → ¬ A q → H1[q]? = H[q]?) → va_S A H0 H1 locs1 → W p l e R s m args below meth c H1 locs1 (cells + mc) (slots + ms) Q (F0 m (pc + 3) ls (v.toList ++ rest))) : W p l e R s m args below meth c H locs cells slots Q (F0 m pc ls st0) := by
  intro T hT X
  obtain ⟨v, st₀, t, T', L, h0, X', hL, e1, e2, ⟨⟨v2, hv, hp⟩, hz, hk⟩, st⟩ := hr T hT X
  cases hv
  rw [h0] at hz hk
  obtain ⟨t2, a1, b1⟩ := kk v T'.heap (locs ++ L) (by rw [e1]; exact hp) (by rw [e1]; exact hz) (fun q h1 h2 => by rw [e1]; exact hk q h1 h2)
    ⟨Nat.le_trans hS.1 (by rw [e1]; exact hz), fun q h1 h2 => by rw [e1, hk q (Nat.lt_of_lt_of_le h1 hS.1) h2]; exact hS.2.1 q h1 h2, fun q hq => (List.mem_append.mp hq).elim (hS.2.2 q) (hL q)⟩ T' rfl X'
  exact ⟨t2, st t2 a1, b1⟩
theorem px_goN {post : Option Value → Prop} {a : Array Value} (hr : va_Run p l e R s m args below meth c H locs cells slots 0 0 (F0 m pc ls st0) rest (px_N post a) (fun _ => False))
    (kk : ∀ v : Option Value, post v → W p l e R s m args below meth c H locs cells slots Q (F0 m (pc + 3) ls (v.toList ++ rest))) : W p l e R s m args below meth c H locs cells slots Q (F0 m pc ls st0) := by
  intro T hT X
  obtain ⟨v, st₀, t, T', L, h0, X', hL, e1, e2, ⟨v2, hv, hp, hh⟩, st⟩ := hr T hT X
  cases hv
  obtain ⟨t2, a1, b1⟩ := kk v hp T' (by rw [e1, hh, h0]) (Stand.forget X' (fun q h => (hL q h).elim))
  exact ⟨t2, st t2 a1, b1⟩
/-- returns -/
theorem px_iret {v : Int32} {post : Option Value → Heap → Prop} (F : px_F p m c cc nL s args own) (hr : meth.sig.returnType = some .int) (hlocks : meth.locks = false) (hS : va_S A s.heap H locs) (hp : post (some (.int v)) H) (hdg : decode cc pc = .ok (.ireturn, 1)) : W p l e R s m args below meth c H locs cells slots (MQ below (px_Q post A) args s cells slots A) (F0 m pc ls [.int v]) :=
  W.iret F.1 F.2.1 hr (fun t ht hW => ⟨⟨_, rfl, by rw [ht]; exact hp⟩, hS.F ht⟩) hS.2.2 hdg
theorem px_lret {v : Int64} {post : Option Value → Heap → Prop} (F : px_F p m c cc nL s args own) (hr : meth.sig.returnType = some .long) (hlocks : meth.locks = false) (hS : va_S A s.heap H locs) (hp : post (some (.long v)) H) (hdg : decode cc pc = .ok (.lreturn, 1)) : W p l e R s m args below meth c H locs cells slots (MQ below (px_Q post A) args s cells slots A) (F0 m pc ls [.long v]) :=
  W.lret F.1 F.2.1 hr (fun t ht hW => ⟨⟨_, rfl, by rw [ht]; exact hp⟩, hS.F ht⟩) hS.2.2 hdg
theorem px_vret {post : Option Value → Heap → Prop} (F : px_F p m c cc nL s args own) (hr : meth.sig.returnType = none) (hlocks : meth.locks = false) (hS : va_S A s.heap H locs) (hp : post none H) (hdg : decode cc pc = .ok (.return_, 1)) : W p l e R s m args below meth c H locs cells slots (MQ below (px_Q post A) args s cells slots A) (F0 m pc ls []) :=
  W.vret F.1 F.2.1 hr (fun t ht hW => ⟨⟨_, rfl, by rw [ht]; exact hp⟩, hS.F ht⟩) hS.2.2 hdg
theorem px_aret {r : Option Nat} {C : String} {post : Option Value → Heap → Prop} (F : px_F p m c cc nL s args own) (hr : meth.sig.returnType = some (.object C)) (hlocks : meth.locks = false) (hS : va_S A s.heap H locs) (hp : post (some (va_rf r)) H) (hdg : decode cc pc = .ok (.areturn, 1)) : W p l e R s m args below meth c H locs cells slots (MQ below (px_Q post A) args s cells slots A) (F0 m pc ls [va_rf r]) :=
  W.aret F.1 F.2.1 hr (Or.inl ⟨C, rfl⟩) (va_rf_or r) (fun t ht hW => ⟨⟨_, rfl, by rw [ht]; exact hp⟩, hS.F ht⟩) hS.2.2 hdg
theorem pn_iret {v : Int32} {post : Option Value → Prop} (F : px_F p m c cc nL s args own) (hr : meth.sig.returnType = some .int) (hlocks : meth.locks = false) (hp : post (some (.int v))) (hdg : decode cc pc = .ok (.ireturn, 1)) : W p l e R s m args below meth c s.heap [] 0 0 (MQ below (px_N post) args s 0 0 (fun _ => False)) (F0 m pc ls [.int v]) :=
  W.iret F.1 F.2.1 hr (fun t ht hW => ⟨_, rfl, hp, ht⟩) (fun _ h => by cases h) hdg
theorem pn_zret {v : Int32} {post : Option Value → Prop} (F : px_F p m c cc nL s args own) (hr : meth.sig.returnType = some .boolean) (hlocks : meth.locks = false) (hn : v = 0 ∨ v = 1) (hp : post (some (.int v))) (hdg : decode cc pc = .ok (.ireturn, 1)) : W p l e R s m args below meth c s.heap [] 0 0 (MQ below (px_N post) args s 0 0 (fun _ => False)) (F0 m pc ls [.int v]) :=
  W.zret F.1 F.2.1 hr (by rcases hn with rfl | rfl <;> rfl) (fun t ht hW => ⟨_, rfl, hp, ht⟩) (fun _ h => by cases h) hdg
theorem pn_lret {v : Int64} {post : Option Value → Prop} (F : px_F p m c cc nL s args own) (hr : meth.sig.returnType = some .long) (hlocks : meth.locks = false) (hp : post (some (.long v))) (hdg : decode cc pc = .ok (.lreturn, 1)) : W p l e R s m args below meth c s.heap [] 0 0 (MQ below (px_N post) args s 0 0 (fun _ => False)) (F0 m pc ls [.long v]) :=
  W.lret F.1 F.2.1 hr (fun t ht hW => ⟨_, rfl, hp, ht⟩) (fun _ h => by cases h) hdg
theorem pn_aret {r : Option Nat} {C : String} {post : Option Value → Prop} (F : px_F p m c cc nL s args own) (hr : meth.sig.returnType = some (.object C)) (hlocks : meth.locks = false) (hp : post (some (va_rf r))) (hdg : decode cc pc = .ok (.areturn, 1)) : W p l e R s m args below meth c s.heap [] 0 0 (MQ below (px_N post) args s 0 0 (fun _ => False)) (F0 m pc ls [va_rf r]) :=
  W.aret F.1 F.2.1 hr (Or.inl ⟨C, rfl⟩) (va_rf_or r) (fun t ht hW => ⟨_, rfl, hp, ht⟩) (fun _ h => by cases h) hdg
end PX
