/-! the class: the constructors of Item, Table, Plain, Holder, Thing -/
theorem pv_vret {p : Program} {l : Launch} {e : Env} {R : Room} {s : State} {m : MethodId} {args : Array Value} {below : List Frame} {meth : Method} {c : Code} {cc : ByteArray} {pc nL : Nat} {ls : Array Slot} {own : String} {v : Option Value} (F : px_F p m c cc nL s args own) (hr : meth.sig.returnType = none) (hlocks : meth.locks = false) (hp : none = v) (hdg : decode cc pc = .ok (.return_, 1)) : W p l e R s m args below meth c s.heap [] 0 0 (MQ below (px_V v) args s 0 0 (fun _ => False)) (F0 m pc ls []) :=
  W.vret F.1 F.2.1 hr (fun t ht hW => ⟨by rw [hp], ht⟩) (fun _ h => by cases h) hdg
theorem px_newq {p : Program} {l : Launch} {e : Env} {R : Room} {s : State} {m : MethodId} {args : Array Value} {below : List Frame} {meth : Method} {c : Code} {H : Heap} {locs : List Loc} {cells slots : Nat} {Q : State → Prop} {cc : ByteArray} {pc nL : Nat} {ls : Array Slot} {rest : List Value} {own : String} {D : va_G} {cy : Nat → ClassId} {A : Nat → Prop} {H0 : Heap} {ws : va_W} (F : px_F p m c cc nL s args own) (hK : KK D cy s) (hP : va_P D vwCl ws H) (hD : va_D A ws) (hS : va_S A H0 H locs) (hA : ∀ q, H0.size ≤ q → A q) {idx : Nat} {C : String} (t0 : Nat) (ht : ([(cy 0, .byte), (cy 1, .int), (cy 2, .long), (cy 3, .boolean), (cy 4, .object RX3), (cy 5, .object RX1)] : List (ClassId × FieldType))[t0]? = some (cy t0, .object C)) (hw : Cond.classLink own idx C ∈ bigW) (hover : va_AO C s) {n : Int32} {N' : Nat} (hn : ¬ n < 0) (hN : n.toNatClampNeg = N') (hbytes : N' * 4 ≤ 536870912) (hcells : cells + 1 ≤ R.cells) (hslots : slots + N' ≤ R.slots) (hdg : decode cc pc = .ok (.anewarray idx, 3))
    (kk : ∀ (q : Nat) (H1 : Heap), va_P D vwCl (ws ++ [(q, .inl (cy t0, N', .inr (.inr (.inr (.inr (fun _ => none))))))]) H1 → va_D A (ws ++ [(q, .inl (cy t0, N', .inr (.inr (.inr (.inr (fun _ => none))))))]) → va_S A H0 H1 locs → W p l e R s m args below meth c H1 locs (cells + 1) (slots + N') Q (F0 m (pc + 3) ls (.ref q :: rest))) : W p l e R s m args below meth c H locs cells slots Q (F0 m pc ls (.int n :: rest)) := by
  refine va_newq F.1 F.2.1 F.2.2.2.1 (F.2.2.2.2 _ hw) hover hK.1 hP hD hS hA hn hN hbytes hcells hslots hdg (fun q cA H1 hK' hP hD hS => ?_)
  have h1 := (hK'.2 6 (cA, .object C) rfl).2
  have h2 : va_RA s (cy t0) (.object C) := (hK.1.2 t0 _ ht).2
  have e : cA = cy t0 := by
    obtain ⟨_, _, _, _, _, q1⟩ := h1
    obtain ⟨_, _, _, _, _, q2⟩ := h2
    exact Option.some.inj (q1.symm.trans q2)
  subst e
  exact kk q H1 hP hD hS
theorem va_D1 {A : Nat → Prop} {o : Nat} {e : va_E} (h : A o) : va_D A [(o, e)] := by
  refine ⟨fun i j p q hi hj _ => ?_, fun k q hk => ?_⟩
  · have h1 : i < 1 := (List.getElem?_eq_some_iff.mp hi).1
    have h2 : j < 1 := (List.getElem?_eq_some_iff.mp hj).1
    omega
  · have h1 : k < 1 := (List.getElem?_eq_some_iff.mp hk).1
    rw [show k = 0 by omega] at hk
    cases hk
    exact h
theorem px_callIN {p : Program} {l : Launch} {e : Env} {R : Room} {s : State} {m : MethodId} {args : Array Value} {below : List Frame} {meth : Method} {c : Code} {H : Heap} {locs : List Loc} {cells slots : Nat} {cc : ByteArray} {pc nL : Nat} {ls : Array Slot} {rest st0 : List Value} {own : String} {D : va_G} {cy : Nat → ClassId} {y : MethodName} {b : ByteArray} {n k idx : Nat} {rm : Room} {o : Nat} {As : List Value} {sz : Nat} {B : Heap → Prop} {Qc : Array Value → State → Outcome → State → Prop} {mc ms : Nat} {free : Addr → Prop} {host : String} (F : px_F p m c cc nL s args own) (hK : KK D cy s) (hM : Met l y (px_w y b n none) rm (px_P D cy (.ref o :: As) sz B) Qc mc ms free) (kc : px_YI y b n k) (kl : va_Nw (.methodLinkNest own idx y host) s) (hsz : H.size = sz) (hB : B H) (hk : As.length = k) (hc : rm.cells = mc ∧ rm.slots = ms) (hR : rm.frames + 1 ≤ R.frames ∧ 8 + (n + 11) + rm.locals ≤ R.locals) (hl : ls.size = nL) (hst : st0 = As.reverse ++ .ref o :: rest) (hr : (rest.map fun v => v.category).sum ≤ 8) (hdg : decode cc pc = .ok (.invokespecial idx, 3)) (hf : cells + mc ≤ R.cells ∧ slots + ms ≤ R.slots) :
    va_Run p l e R s m args below meth c H locs cells slots mc ms (F0 m pc ls st0) rest (Qc (Value.ref o :: As).toArray) free := by
  obtain ⟨hx, hb, hml, hown, hts⟩ := F
  obtain ⟨k1, k2, k3, k5, k4⟩ := kc
  subst hk
  exact va_runIN (As := As) ⟨hx, hb, hml, hown, hts⟩ hM ⟨va_cnB _ hts (px_gin (fun _ h => h) k1) rfl hc.1 hc.2 kl (hts _ k5) k4 hR, k3, hts _ k2⟩ ⟨px_P.blind, fun U hU hW => ⟨rfl, by rw [hU]; exact hsz, by rw [hU]; exact hB, hK.warm hW⟩⟩ rfl rfl hl hst (lv_room hr) hdg hf
set_option maxHeartbeats 400000 in
set_option maxRecDepth 100000 in
theorem c_X1_init (l : Launch) (D : va_G) (cy : Nat → ClassId) (o sz : Nat) : Met l yX1_init (px_w yX1_init cX1_init 1 none) (rmd 1 0 0) (px_P D cy [.ref o] sz (fun _ => True)) (px_V none) 0 0 (fun _ => False) := by
  refine px_met (by decide) (Nat.le_of_ble_eq_true rfl) ?_
  intro p e s m below meth c F hr hlocks hnm hK hsz hB ls hl
  have hx := F.1
  have hb := F.2.1
  have hown := F.2.2.2.1
  have hts := F.2.2.2.2
  have hl : lv_has ls 1 [(0, .ref o)] := hl
  refine lv_aload_n hx hb dX1_init_0 rfl (lv_at hl 0 rfl) ?_
  refine W.objInit hx hb hown (hts _ kw_methodLink_RX1_1) (hts _ kw_instanceMethod_Object_init) (hts _ kw_code_objectInit) rfl (by rw [F.2.2.1]; exact hl.1) rfl dX1_init_1 (Nat.le_of_ble_eq_true rfl) (Nat.le_of_ble_eq_true rfl) ?_
  refine W.eq (g2 := F0 m 4 ls []) rfl ?_
  exact pv_vret F hr hlocks rfl dX1_init_4
set_option maxHeartbeats 400000 in
set_option maxRecDepth 100000 in
theorem c_X3_initP (l : Launch) (D : va_G) (cy : Nat → ClassId) (o sz : Nat) (k : Int32) : Met l yX3_init (px_w yX3_init cX3_init 2 none) (rmd 2 0 0) (px_P D cy [.ref o, .int k] sz (fun H => va_P D vwCl [(o, .inr (1, [.int 0, .int 0, .null, .null]))] H)) (px_Q (fun v H => v = none ∧ va_P D vwCl [(o, .inr (1, [.int k, .int 0, .null, .null]))] H) (fun q => q = o)) 0 0 (fun q => q = o) := by
  refine px_met (by decide) (Nat.le_of_ble_eq_true rfl) ?_
  intro p e s m below meth c F hr hlocks hnm hK hsz hB ls hl
  have hx := F.1
  have hb := F.2.1
  have hown := F.2.2.2.1
  have hts := F.2.2.2.2
  have hl : lv_has ls 2 [(0, .ref o), (1, .int k)] := hl
  have hS : va_S (fun q => q = o) s.heap s.heap [] := va_S.rf
  have hD : va_D (fun q => q = o) [(o, (.inr (1, [.int 0, .int 0, .null, .null]) : va_E))] := va_D1 rfl
  refine lv_aload_n hx hb dX3_init_0 rfl (lv_at hl 0 rfl) ?_
  refine px_goV (st1 := []) (px_callIN F hK (c_X1_init l D cy o _) kc_X1_init hK.2.2.2.2.2.1 rfl trivial rfl ⟨rfl, rfl⟩ ⟨Nat.le_of_ble_eq_true rfl, Nat.le_of_ble_eq_true rfl⟩ hl.1 rfl (Nat.le_of_ble_eq_true rfl) dX3_init_1 ⟨Nat.zero_le _, Nat.zero_le _⟩) rfl ?_
  refine lv_aload_n hx hb dX3_init_4 rfl (lv_at hl 0 rfl) ?_
  refine lv_iload_n hx hb dX3_init_5 rfl (lv_at hl 1 rfl) ?_
  refine va_putF (D := D) (ci := 1) (v := .int k) (ty := .int) (C := RX2) (T := TX2) (N := 4) hx hb hts inlX2 tyX2 tyX2_ok nmX2 hown hK.1 hB hD hS 0 rfl rfl 0 (by decide) (hts _ kw_fieldLink_RX3_7) (fun _ h9 => h9) rfl hnm rfl (by decide +kernel) rfl rfl (Nat.le_of_ble_eq_true rfl) dX3_init_6 (fun H locs hP hD hS => ?_)
  exact px_vret F hr hlocks hS ⟨rfl, hP⟩ dX3_init_9
set_option maxHeartbeats 400000 in
set_option maxRecDepth 100000 in
theorem c_X3_initH (l : Launch) (D : va_G) (cy : Nat → ClassId) (o sz : Nat) (k : Int32) : Met l yX3_init (px_w yX3_init cX3_init 2 none) (rmd 2 0 0) (px_P D cy [.ref o, .int k] sz (fun H => va_P D vwCl [(o, .inr (0, [.int 0, .int 0, .null, .null]))] H)) (px_Q (fun v H => v = none ∧ va_P D vwCl [(o, .inr (0, [.int k, .int 0, .null, .null]))] H) (fun q => q = o)) 0 0 (fun q => q = o) := by
  refine px_met (by decide) (Nat.le_of_ble_eq_true rfl) ?_
  intro p e s m below meth c F hr hlocks hnm hK hsz hB ls hl
  have hx := F.1
  have hb := F.2.1
  have hown := F.2.2.2.1
  have hts := F.2.2.2.2
  have hl : lv_has ls 2 [(0, .ref o), (1, .int k)] := hl
  have hS : va_S (fun q => q = o) s.heap s.heap [] := va_S.rf
  have hD : va_D (fun q => q = o) [(o, (.inr (0, [.int 0, .int 0, .null, .null]) : va_E))] := va_D1 rfl
  refine lv_aload_n hx hb dX3_init_0 rfl (lv_at hl 0 rfl) ?_
  refine px_goV (st1 := []) (px_callIN F hK (c_X1_init l D cy o _) kc_X1_init hK.2.2.2.2.2.1 rfl trivial rfl ⟨rfl, rfl⟩ ⟨Nat.le_of_ble_eq_true rfl, Nat.le_of_ble_eq_true rfl⟩ hl.1 rfl (Nat.le_of_ble_eq_true rfl) dX3_init_1 ⟨Nat.zero_le _, Nat.zero_le _⟩) rfl ?_
  refine lv_aload_n hx hb dX3_init_4 rfl (lv_at hl 0 rfl) ?_
  refine lv_iload_n hx hb dX3_init_5 rfl (lv_at hl 1 rfl) ?_
  refine va_putF (D := D) (ci := 0) (v := .int k) (ty := .int) (C := RX0) (T := TX0) (N := 4) hx hb hts inlX0 tyX0 tyX0_ok nmX0 hown hK.1 hB hD hS 0 rfl rfl 0 (by decide) (hts _ kw_fieldLink_RX3_7) (fun _ h9 => h9) rfl hnm rfl (by decide +kernel) rfl rfl (Nat.le_of_ble_eq_true rfl) dX3_init_6 (fun H locs hP hD hS => ?_)
  exact px_vret F hr hlocks hS ⟨rfl, hP⟩ dX3_init_9
set_option maxHeartbeats 400000 in
set_option maxRecDepth 100000 in
theorem c_X2_init (l : Launch) (D : va_G) (cy : Nat → ClassId) (o sz : Nat) (k : Int32) (n : Nat) (hn : n ≤ 1000) : Met l yX2_init (px_w yX2_init cX2_init 3 none) (rmd 3 1 n) (px_P D cy [.ref o, .int k, .int (nI n)] sz (fun H => va_P D vwCl [(o, .inr (1, [.int 0, .int 0, .null, .null]))] H)) (px_Q (fun v H => v = none ∧ ∃ q, va_P D vwCl [(o, .inr (1, [.int k, .int 0, .null, .ref q])), (q, .inl (cy 2, n, .inr (.inl (fun _ => 0))))] H ∧ va_D (fun q => q = o ∨ sz ≤ q) [(o, (.inr (1, [.int k, .int 0, .null, .ref q]) : va_E)), (q, .inl (cy 2, n, .inr (.inl (fun _ => 0))))]) (fun q => q = o ∨ sz ≤ q)) 1 n (fun q => q = o ∨ sz ≤ q) := by
  refine px_met (by decide) (Nat.le_of_ble_eq_true rfl) ?_
  intro p e s m below meth c F hr hlocks hnm hK hsz hB ls hl
  have hx := F.1
  have hb := F.2.1
  have hown := F.2.2.2.1
  have hts := F.2.2.2.2
  have hl : lv_has ls 3 [(0, .ref o), (1, .int k), (2, .int (nI n))] := hl
  have hS : va_S (fun q => q = o ∨ sz ≤ q) s.heap s.heap [] := va_S.rf
  have hA : ∀ q, s.heap.size ≤ q → (q = o ∨ sz ≤ q) := fun q h => Or.inr (by omega)
  refine lv_aload_n hx hb dX2_init_0 rfl (lv_at hl 0 rfl) ?_
  refine lv_iload_n hx hb dX2_init_1 rfl (lv_at hl 1 rfl) ?_
  refine px_goQ2 (px_callI F hK (c_X3_initP l D cy o _ k) kc_X3_init kw_methodLink_RX2_1 rfl hB rfl ⟨rfl, rfl⟩ ⟨Nat.le_of_ble_eq_true rfl, Nat.le_of_ble_eq_true rfl⟩ hl.1 rfl (Nat.le_of_ble_eq_true rfl) dX2_init_2 ⟨Nat.zero_le _, Nat.zero_le _⟩) (fun q h => Or.inl h) hS (fun v H locs hp _ _ hS => ?_)
  obtain ⟨rfl, hP⟩ := hp
  have hD : va_D (fun q => q = o ∨ sz ≤ q) [(o, (.inr (1, [.int k, .int 0, .null, .null]) : va_E))] := va_D1 (Or.inl rfl)
  refine lv_aload_n hx hb dX2_init_5 rfl (lv_at hl 0 rfl) ?_
  refine lv_iload_n hx hb dX2_init_6 rfl (lv_at hl 2 rfl) ?_
  refine px_newa (atype := .long) (a0 := (n, .inr (.inl (fun _ => 0)))) (N' := n) F hK hP hD hS hA 2 rfl rfl kw_arrayClass__long (fun _ => rfl) (nI_pos (show n < 2 ^ 31 by omega)) (nI_clamp (show n < 2 ^ 31 by omega)) (by show n * 8 ≤ _; omega) (Nat.le_of_ble_eq_true rfl) (show 0 + n ≤ n by omega) dX2_init_7 (fun q H hP hD hS => ?_)
  have hP : va_P D vwCl [(o, .inr (1, [.int k, .int 0, .null, .null])), (q, .inl (cy 2, n, .inr (.inl (fun _ => 0))))] H := hP
  have hD : va_D (fun q => q = o ∨ sz ≤ q) [(o, (.inr (1, [.int k, .int 0, .null, .null]) : va_E)), (q, .inl (cy 2, n, .inr (.inl (fun _ => 0))))] := hD
  refine va_putF (D := D) (ci := 1) (v := .ref q) (ty := .array .long) (C := RX2) (T := TX2) (N := 4) hx hb hts inlX2 tyX2 tyX2_ok nmX2 hown hK.1 hP hD hS 0 rfl rfl 3 (by decide) (hts _ kw_fieldLink_RX2_7) (fun _ h9 => h9) rfl hnm rfl (by decide +kernel) rfl rfl (Nat.le_of_ble_eq_true rfl) dX2_init_9 (fun H locs hP hD hS => ?_)
  refine W.widen (k := 1) (n := n) (by omega) (by omega) ?_
  exact px_vret F hr hlocks hS ⟨rfl, q, hP, hD⟩ dX2_init_12
set_option maxHeartbeats 400000 in
set_option maxRecDepth 100000 in
theorem c_X0_init (l : Launch) (D : va_G) (cy : Nat → ClassId) (o sz : Nat) (k : Int32) (n : Nat) (hn : n ≤ 1000) : Met l yX0_init (px_w yX0_init cX0_init 3 none) (rmd 3 1 n) (px_P D cy [.ref o, .int k, .int (nI n)] sz (fun H => va_P D vwCl [(o, .inr (0, [.int 0, .int 0, .null, .null]))] H)) (px_Q (fun v H => v = none ∧ ∃ q, va_P D vwCl [(o, .inr (0, [.int k, .int 0, .null, .ref q])), (q, .inl (cy 5, n, .inr (.inr (.inr (.inr (fun _ => none))))))] H ∧ va_D (fun q => q = o ∨ sz ≤ q) [(o, (.inr (0, [.int k, .int 0, .null, .ref q]) : va_E)), (q, .inl (cy 5, n, .inr (.inr (.inr (.inr (fun _ => none))))))]) (fun q => q = o ∨ sz ≤ q)) 1 n (fun q => q = o ∨ sz ≤ q) := by
  refine px_met (by decide) (Nat.le_of_ble_eq_true rfl) ?_
  intro p e s m below meth c F hr hlocks hnm hK hsz hB ls hl
  have hx := F.1
  have hb := F.2.1
  have hown := F.2.2.2.1
  have hts := F.2.2.2.2
  have hl : lv_has ls 3 [(0, .ref o), (1, .int k), (2, .int (nI n))] := hl
  have hS : va_S (fun q => q = o ∨ sz ≤ q) s.heap s.heap [] := va_S.rf
  have hA : ∀ q, s.heap.size ≤ q → (q = o ∨ sz ≤ q) := fun q h => Or.inr (by omega)
  refine lv_aload_n hx hb dX0_init_0 rfl (lv_at hl 0 rfl) ?_
  refine lv_iload_n hx hb dX0_init_1 rfl (lv_at hl 1 rfl) ?_
  refine px_goQ2 (px_callI F hK (c_X3_initH l D cy o _ k) kc_X3_init kw_methodLink_RX0_1 rfl hB rfl ⟨rfl, rfl⟩ ⟨Nat.le_of_ble_eq_true rfl, Nat.le_of_ble_eq_true rfl⟩ hl.1 rfl (Nat.le_of_ble_eq_true rfl) dX0_init_2 ⟨Nat.zero_le _, Nat.zero_le _⟩) (fun q h => Or.inl h) hS (fun v H locs hp _ _ hS => ?_)
  obtain ⟨rfl, hP⟩ := hp
  have hD : va_D (fun q => q = o ∨ sz ≤ q) [(o, (.inr (0, [.int k, .int 0, .null, .null]) : va_E))] := va_D1 (Or.inl rfl)
  refine lv_aload_n hx hb dX0_init_5 rfl (lv_at hl 0 rfl) ?_
  refine lv_iload_n hx hb dX0_init_6 rfl (lv_at hl 2 rfl) ?_
  refine px_newq (N' := n) F hK hP hD hS hA 5 rfl kw_classLink_RX0_7 hK.2.2.2.1 (nI_pos (show n < 2 ^ 31 by omega)) (nI_clamp (show n < 2 ^ 31 by omega)) (by omega) (Nat.le_of_ble_eq_true rfl) (show 0 + n ≤ n by omega) dX0_init_7 (fun q H hP hD hS => ?_)
  have hP : va_P D vwCl [(o, .inr (0, [.int k, .int 0, .null, .null])), (q, .inl (cy 5, n, .inr (.inr (.inr (.inr (fun _ => none))))))] H := hP
  have hD : va_D (fun q => q = o ∨ sz ≤ q) [(o, (.inr (0, [.int k, .int 0, .null, .null]) : va_E)), (q, .inl (cy 5, n, .inr (.inr (.inr (.inr (fun _ => none))))))] := hD
  refine va_putF (D := D) (ci := 0) (v := .ref q) (ty := .array (.object "PlanCopies$Item")) (C := RX0) (T := TX0) (N := 4) hx hb hts inlX0 tyX0 tyX0_ok nmX0 hown hK.1 hP hD hS 0 rfl rfl 3 (by decide) (hts _ kw_fieldLink_RX0_9) (fun _ h9 => h9) rfl hnm rfl (by decide +kernel) rfl rfl (Nat.le_of_ble_eq_true rfl) dX0_init_10 (fun H locs hP hD hS => ?_)
  refine W.widen (k := 1) (n := n) (by omega) (by omega) ?_
  exact px_vret F hr hlocks hS ⟨rfl, q, hP, hD⟩ dX0_init_13
set_option maxHeartbeats 400000 in
set_option maxRecDepth 100000 in
theorem c_X4_init (l : Launch) (D : va_G) (cy : Nat → ClassId) (o sz : Nat) (k : Int32) (b : Bool) : Met l yX4_init (px_w yX4_init cX4_init 3 none) (rmd 2 0 0) (px_P D cy [.ref o, .int k, .int (b2i b)] sz (fun H => va_P D vwCl [(o, .inr (2, [.int 0, .int 0]))] H)) (px_Q (fun v H => v = none ∧ va_P D vwCl [(o, .inr (2, [.int k, .int (b2i b)]))] H) (fun q => q = o)) 0 0 (fun q => q = o) := by
  refine px_met (by decide) (Nat.le_of_ble_eq_true rfl) ?_
  intro p e s m below meth c F hr hlocks hnm hK hsz hB ls hl
  have hx := F.1
  have hb := F.2.1
  have hown := F.2.2.2.1
  have hts := F.2.2.2.2
  have hl : lv_has ls 3 [(0, .ref o), (1, .int k), (2, .int (b2i b))] := hl
  have hS : va_S (fun q => q = o) s.heap s.heap [] := va_S.rf
  have hD : va_D (fun q => q = o) [(o, (.inr (2, [.int 0, .int 0]) : va_E))] := va_D1 rfl
  refine lv_aload_n hx hb dX4_init_0 rfl (lv_at hl 0 rfl) ?_
  refine px_goV (st1 := []) (px_callIN F hK (c_X1_init l D cy o _) kc_X1_init hK.2.2.2.2.2.2 rfl trivial rfl ⟨rfl, rfl⟩ ⟨Nat.le_of_ble_eq_true rfl, Nat.le_of_ble_eq_true rfl⟩ hl.1 rfl (Nat.le_of_ble_eq_true rfl) dX4_init_1 ⟨Nat.zero_le _, Nat.zero_le _⟩) rfl ?_
  refine lv_aload_n hx hb dX4_init_4 rfl (lv_at hl 0 rfl) ?_
  refine lv_iload_n hx hb dX4_init_5 rfl (lv_at hl 1 rfl) ?_
  refine va_putF (D := D) (ci := 2) (v := .int k) (ty := .int) (C := RX4) (T := TX4) (N := 2) hx hb hts inlX4 tyX4 tyX4_ok nmX4 hown hK.1 hB hD hS 0 rfl rfl 0 (by decide) (hts _ kw_fieldLink_RX4_7) (fun _ h9 => h9) rfl hnm rfl (by decide +kernel) rfl rfl (Nat.le_of_ble_eq_true rfl) dX4_init_6 (fun H locs hP hD hS => ?_)
  refine lv_aload_n hx hb dX4_init_9 rfl (lv_at hl 0 rfl) ?_
  refine lv_iload_n hx hb dX4_init_10 rfl (lv_at hl 2 rfl) ?_
  refine va_putF (D := D) (ci := 2) (v := .int (b2i b)) (ty := .boolean) (C := RX4) (T := TX4) (N := 2) hx hb hts inlX4 tyX4 tyX4_ok nmX4 hown hK.1 hP hD hS 0 rfl rfl 1 (by decide) (hts _ kw_fieldLink_RX4_13) (fun _ h9 => h9) rfl hnm rfl (by decide +kernel) (by cases b <;> rfl) (by cases b <;> rfl) (Nat.le_of_ble_eq_true rfl) dX4_init_11 (fun H locs hP hD hS => ?_)
  exact px_vret F hr hlocks hS ⟨rfl, hP⟩ dX4_init_14
