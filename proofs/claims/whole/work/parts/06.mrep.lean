/-! the abstract state (it is the reference's own), the reference's cells, a row an access -/
abbrev RS : Type := Nat × (Nat → Nat) × (Nat → Nat) × (Nat → Nat) × Nat × (Nat → Int64) × Nat × (Nat → Int32) × (Nat → Bool) × (Nat → Nat) × (Nat → Int32) × Int32 × Int32 × Int32
abbrev rT (r : RS) : Nat := r.1
abbrev rK (r : RS) : Nat → Nat := r.2.1
abbrev rMn (r : RS) : Nat → Nat := r.2.2.1
abbrev rS (r : RS) : Nat → Nat := r.2.2.2.1
abbrev rN (r : RS) : Nat := r.2.2.2.2.1
abbrev rI (r : RS) : Nat → Int64 := r.2.2.2.2.2.1
abbrev rM (r : RS) : Nat := r.2.2.2.2.2.2.1
abbrev rTN (r : RS) : Nat → Int32 := r.2.2.2.2.2.2.2.1
abbrev rIM (r : RS) : Nat → Bool := r.2.2.2.2.2.2.2.2.1
abbrev rHd (r : RS) : Nat → Nat := r.2.2.2.2.2.2.2.2.2.1
abbrev rTr (r : RS) : Nat → Int32 := r.2.2.2.2.2.2.2.2.2.2.1
abbrev rPa (r : RS) : Int32 := r.2.2.2.2.2.2.2.2.2.2.2.1
abbrev rNu (r : RS) : Int32 := r.2.2.2.2.2.2.2.2.2.2.2.2.1
abbrev rFa (r : RS) : Int32 := r.2.2.2.2.2.2.2.2.2.2.2.2.2
abbrev sT (r : RS) (v : Nat) : RS := (v, rK r, rMn r, rS r, rN r, rI r, rM r, rTN r, rIM r, rHd r, rTr r, rPa r, rNu r, rFa r)
abbrev sK (r : RS) (v : Nat → Nat) : RS := (rT r, v, rMn r, rS r, rN r, rI r, rM r, rTN r, rIM r, rHd r, rTr r, rPa r, rNu r, rFa r)
abbrev sMn (r : RS) (v : Nat → Nat) : RS := (rT r, rK r, v, rS r, rN r, rI r, rM r, rTN r, rIM r, rHd r, rTr r, rPa r, rNu r, rFa r)
abbrev sS (r : RS) (v : Nat → Nat) : RS := (rT r, rK r, rMn r, v, rN r, rI r, rM r, rTN r, rIM r, rHd r, rTr r, rPa r, rNu r, rFa r)
abbrev sN (r : RS) (v : Nat) : RS := (rT r, rK r, rMn r, rS r, v, rI r, rM r, rTN r, rIM r, rHd r, rTr r, rPa r, rNu r, rFa r)
abbrev sI (r : RS) (v : Nat → Int64) : RS := (rT r, rK r, rMn r, rS r, rN r, v, rM r, rTN r, rIM r, rHd r, rTr r, rPa r, rNu r, rFa r)
abbrev sM (r : RS) (v : Nat) : RS := (rT r, rK r, rMn r, rS r, rN r, rI r, v, rTN r, rIM r, rHd r, rTr r, rPa r, rNu r, rFa r)
abbrev sTN (r : RS) (v : Nat → Int32) : RS := (rT r, rK r, rMn r, rS r, rN r, rI r, rM r, v, rIM r, rHd r, rTr r, rPa r, rNu r, rFa r)
abbrev sIM (r : RS) (v : Nat → Bool) : RS := (rT r, rK r, rMn r, rS r, rN r, rI r, rM r, rTN r, v, rHd r, rTr r, rPa r, rNu r, rFa r)
abbrev sHd (r : RS) (v : Nat → Nat) : RS := (rT r, rK r, rMn r, rS r, rN r, rI r, rM r, rTN r, rIM r, v, rTr r, rPa r, rNu r, rFa r)
abbrev sTr (r : RS) (v : Nat → Int32) : RS := (rT r, rK r, rMn r, rS r, rN r, rI r, rM r, rTN r, rIM r, rHd r, v, rPa r, rNu r, rFa r)
abbrev sPa (r : RS) (v : Int32) : RS := (rT r, rK r, rMn r, rS r, rN r, rI r, rM r, rTN r, rIM r, rHd r, rTr r, v, rNu r, rFa r)
abbrev sNu (r : RS) (v : Int32) : RS := (rT r, rK r, rMn r, rS r, rN r, rI r, rM r, rTN r, rIM r, rHd r, rTr r, rPa r, v, rFa r)
abbrev sFa (r : RS) (v : Int32) : RS := (rT r, rK r, rMn r, rS r, rN r, rI r, rM r, rTN r, rIM r, rHd r, rTr r, rPa r, rNu r, v)
def b2i (b : Bool) : Int32 := if b then 1 else 0
abbrev m_fs (G : Nat → Nat) (r : RS) : List Value := [.int (nI (rT r)), .ref (G 1), .ref (G 2), .ref (G 3), .int (nI (rN r)), .ref (G 4), .int (nI (rM r)), .ref (G 5), .ref (G 6), .ref (G 7), .ref (G 8), .int (rPa r), .int (rNu r), .int (rFa r), .ref (G 9), .ref (G 10)]
abbrev m_ws (cy : Nat → ClassId) (G : Nat → Nat) (r : RS) (C : Nat → Nat) (E : Nat → Int64) : va_W := [(G 0, .inr (4, m_fs G r)), (G 1, .inl (cy 0, 13000, .inl (fun j => nI (rK r j)))), (G 2, .inl (cy 0, 13000, .inl (fun j => nI (rMn r j)))), (G 3, .inl (cy 1, 13000, .inl (fun j => nI (rS r j)))), (G 4, .inl (cy 2, 12200, .inr (.inl (rI r)))), (G 5, .inl (cy 1, 3100, .inl (rTN r))), (G 6, .inl (cy 3, 3100, .inl (fun j => b2i (rIM r j)))), (G 7, .inl (cy 1, 16, .inl (fun j => nI (rHd r j)))), (G 8, .inl (cy 1, 8, .inl (rTr r))), (G 9, .inl (cy 1, 13000, .inl (fun j => nI (C j)))), (G 10, .inl (cy 2, 30, .inr (.inl E)))]
def MR (D : va_G) (cy : Nat → ClassId) (A : Nat → Prop) (G : Nat → Nat) (r : RS) (C : Nat → Nat) (E : Nat → Int64) (H : Heap) : Prop := va_P D vwCl (m_ws cy G r C E) H ∧ va_D A (m_ws cy G r C E)
theorem nI_b8 : ∀ v, v < 128 → (nI v).toInt8.toInt32 = nI v := by decide +kernel
theorem vp_nar_b8 {v : Nat} (h : v < 128) : vp_nar .byte (nI v) = nI v := by rw [vp_nar_byte]; exact nI_b8 v h
theorem vp_nar_z (b : Bool) : vp_nar .boolean (b2i b) = b2i b := by cases b <;> decide +kernel
theorem upd_nI (K : Nat → Nat) (i v : Nat) : upd (fun j => nI (K j)) i (nI v) = fun j => nI (va_up K i v j) := by
  funext j
  by_cases h : j = i <;> simp [upd, va_up, h]
theorem upd_z (K : Nat → Bool) (i : Nat) (v : Bool) : upd (fun j => b2i (K j)) i (b2i v) = fun j => b2i (va_up K i v j) := by
  funext j
  by_cases h : j = i <;> simp [upd, va_up, h]
theorem upd_up (K : Nat → Int32) (i : Nat) (v : Int32) : upd K i v = va_up K i v := by
  funext j
  by_cases h : j = i <;> simp [upd, va_up, h]
theorem updL_up (K : Nat → Int64) (i : Nat) (v : Int64) : vp_updL K i v = va_up K i v := by
  funext j
  by_cases h : j = i <;> simp [vp_updL, va_up, h]
section MX
variable {p : Program} {l : Launch} {e : Env} {R : Room} {s : State} {m : MethodId} {args : Array Value} {below : List Frame} {meth : Method} {c : Code} {H : Heap} {locs : List Loc} {cells slots : Nat} {Q : State → Prop} {cc : ByteArray} {pc nL : Nat} {ls : Array Slot} {rest : List Value} {D : va_G} {cy : Nat → ClassId} {A : Nat → Prop} {H0 : Heap} {G : Nat → Nat} {r : RS} {C : Nat → Nat} {E : Nat → Int64}
theorem TX6_own (k : Nat) : (TX6 k).1 = RX6 := by
  unfold TX6
  split <;> rfl
theorem m_get (F : px_F p m c cc nL s args RX6) (hK : KK D cy s) (hR : MR D cy A G r C E H) (k : Nat) (hk : k < 16) {v : Value} (hv : (m_fs G r)[k]? = some v) {idx : Nat} (hw : Cond.fieldLink RX6 idx RX6 (TX6 k).2.1 (TX6 k).2.2.1 ∈ bigW) (hdg : decode cc pc = .ok (.getfield idx, 3)) (kk : W p l e R s m args below meth c H locs cells slots Q (F0 m (pc + 3) ls (v :: rest))) : W p l e R s m args below meth c H locs cells slots Q (F0 m pc ls (.ref (G 0) :: rest)) :=
  va_get (D := D) (ci := 4) (C := RX6) (T := TX6) (N := 16) F.1 F.2.1 F.2.2.2.2 inlX6 F.2.2.2.1 hK.1 hR.1 0 rfl rfl k hk (F.2.2.2.2 _ hw) (fun _ h => by rw [TX6_own k] at h; exact h) hv hdg kk
theorem m_put (F : px_F p m c cc nL s args RX6) (hK : KK D cy s) (hR : MR D cy A G r C E H) (hS : va_S A H0 H locs) (k : Nat) (hk : k < 16) {x v : Int32} (hx : x = v) (r' : RS) (hr : (m_ws cy G r C E).set 0 (G 0, .inr (4, (m_fs G r).set k (.int v))) = m_ws cy G r' C E) {idx : Nat} (hw : Cond.fieldLink RX6 idx RX6 (TX6 k).2.1 (TX6 k).2.2.1 ∈ bigW) (hfin : (TX6 k).2.2.2 = false) (hd : parseFieldDescriptor (TX6 k).2.2.1 = some .int) (hdg : decode cc pc = .ok (.putfield idx, 3)) (kk : ∀ (H : Heap) (locs : List Loc), MR D cy A G r' C E H → va_S A H0 H locs → W p l e R s m args below meth c H locs cells slots Q (F0 m (pc + 3) ls rest)) : W p l e R s m args below meth c H locs cells slots Q (F0 m pc ls (.int x :: .ref (G 0) :: rest)) := by
  subst hx
  refine va_put (D := D) (ci := 4) (v := .int x) (ty := .int) (C := RX6) (T := TX6) (N := 16) F.1 F.2.1 F.2.2.2.2 inlX6 tyX6 tyX6_ok nmX6 F.2.2.2.1 hK.1 hR.1 hR.2 hS 0 rfl rfl k hk (F.2.2.2.2 _ hw) (fun _ h => by rw [TX6_own k] at h; exact h) hfin hd rfl rfl hk hdg (fun H1 locs1 hP hD hS => ?_)
  rw [hr] at hP hD
  exact kk H1 locs1 ⟨hP, hD⟩ hS
theorem m_ldK (F : px_F p m c cc nL s args RX6) (hK : KK D cy s) (hR : MR D cy A G r C E H) {x : Int32} (i : Nat) (hxi : x = nI i) (hi : i < 13000) (hdg : decode cc pc = .ok (.baload, 1)) (kk : W p l e R s m args below meth c H locs cells slots Q (F0 m (pc + 1) ls (.int (nI (rK r i)) :: rest))) : W p l e R s m args below meth c H locs cells slots Q (F0 m pc ls (.int x :: .ref (G 1) :: rest)) := by
  subst hxi
  refine va_bald F.1 F.2.1 hK.1 hR.1 1 0 rfl rfl (vp_in_nI hi (by decide)) hdg ?_
  rw [nI_clamp (show i < 2 ^ 31 by omega)]
  exact kk
theorem m_stK (F : px_F p m c cc nL s args RX6) (hK : KK D cy s) (hR : MR D cy A G r C E H) (hS : va_S A H0 H locs) {x : Int32} {y : Int32} (i : Nat) (v : Nat) (hxi : x = nI i) (hv : y = nI v) (hv8 : v < 128) (hi : i < 13000) (hdg : decode cc pc = .ok (.bastore, 1)) (kk : ∀ (H : Heap) (locs : List Loc), MR D cy A G (sK r (va_up (rK r) i v)) C E H → va_S A H0 H locs → W p l e R s m args below meth c H locs cells slots Q (F0 m (pc + 1) ls rest)) : W p l e R s m args below meth c H locs cells slots Q (F0 m pc ls (.int y :: .int x :: .ref (G 1) :: rest)) := by
  subst hxi
  subst hv
  refine va_bast F.1 F.2.1 hK.1 hR.1 hR.2 hS 1 0 rfl rfl (vp_in_nI hi (by decide)) hdg (fun H1 locs1 hP hD hS => ?_)
  rw [nI_clamp (show i < 2 ^ 31 by omega), vp_nar_b8 hv8, upd_nI] at hP hD
  exact kk H1 locs1 ⟨hP, hD⟩ hS
theorem m_ldMn (F : px_F p m c cc nL s args RX6) (hK : KK D cy s) (hR : MR D cy A G r C E H) {x : Int32} (i : Nat) (hxi : x = nI i) (hi : i < 13000) (hdg : decode cc pc = .ok (.baload, 1)) (kk : W p l e R s m args below meth c H locs cells slots Q (F0 m (pc + 1) ls (.int (nI (rMn r i)) :: rest))) : W p l e R s m args below meth c H locs cells slots Q (F0 m pc ls (.int x :: .ref (G 2) :: rest)) := by
  subst hxi
  refine va_bald F.1 F.2.1 hK.1 hR.1 2 0 rfl rfl (vp_in_nI hi (by decide)) hdg ?_
  rw [nI_clamp (show i < 2 ^ 31 by omega)]
  exact kk
theorem m_stMn (F : px_F p m c cc nL s args RX6) (hK : KK D cy s) (hR : MR D cy A G r C E H) (hS : va_S A H0 H locs) {x : Int32} {y : Int32} (i : Nat) (v : Nat) (hxi : x = nI i) (hv : y = nI v) (hv8 : v < 128) (hi : i < 13000) (hdg : decode cc pc = .ok (.bastore, 1)) (kk : ∀ (H : Heap) (locs : List Loc), MR D cy A G (sMn r (va_up (rMn r) i v)) C E H → va_S A H0 H locs → W p l e R s m args below meth c H locs cells slots Q (F0 m (pc + 1) ls rest)) : W p l e R s m args below meth c H locs cells slots Q (F0 m pc ls (.int y :: .int x :: .ref (G 2) :: rest)) := by
  subst hxi
  subst hv
  refine va_bast F.1 F.2.1 hK.1 hR.1 hR.2 hS 2 0 rfl rfl (vp_in_nI hi (by decide)) hdg (fun H1 locs1 hP hD hS => ?_)
  rw [nI_clamp (show i < 2 ^ 31 by omega), vp_nar_b8 hv8, upd_nI] at hP hD
  exact kk H1 locs1 ⟨hP, hD⟩ hS
theorem m_ldS (F : px_F p m c cc nL s args RX6) (hK : KK D cy s) (hR : MR D cy A G r C E H) {x : Int32} (i : Nat) (hxi : x = nI i) (hi : i < 13000) (hdg : decode cc pc = .ok (.iaload, 1)) (kk : W p l e R s m args below meth c H locs cells slots Q (F0 m (pc + 1) ls (.int (nI (rS r i)) :: rest))) : W p l e R s m args below meth c H locs cells slots Q (F0 m pc ls (.int x :: .ref (G 3) :: rest)) := by
  subst hxi
  refine va_iald F.1 F.2.1 hK.1 hR.1 3 1 rfl rfl (vp_in_nI hi (by decide)) hdg ?_
  rw [nI_clamp (show i < 2 ^ 31 by omega)]
  exact kk
theorem m_stS (F : px_F p m c cc nL s args RX6) (hK : KK D cy s) (hR : MR D cy A G r C E H) (hS : va_S A H0 H locs) {x : Int32} {y : Int32} (i : Nat) (v : Nat) (hxi : x = nI i) (hv : y = nI v) (hi : i < 13000) (hdg : decode cc pc = .ok (.iastore, 1)) (kk : ∀ (H : Heap) (locs : List Loc), MR D cy A G (sS r (va_up (rS r) i v)) C E H → va_S A H0 H locs → W p l e R s m args below meth c H locs cells slots Q (F0 m (pc + 1) ls rest)) : W p l e R s m args below meth c H locs cells slots Q (F0 m pc ls (.int y :: .int x :: .ref (G 3) :: rest)) := by
  subst hxi
  subst hv
  refine va_iast F.1 F.2.1 hK.1 hR.1 hR.2 hS 3 1 rfl rfl (vp_in_nI hi (by decide)) hdg (fun H1 locs1 hP hD hS => ?_)
  rw [nI_clamp (show i < 2 ^ 31 by omega), upd_nI] at hP hD
  exact kk H1 locs1 ⟨hP, hD⟩ hS
theorem m_ldI (F : px_F p m c cc nL s args RX6) (hK : KK D cy s) (hR : MR D cy A G r C E H) {x : Int32} (i : Nat) (hxi : x = nI i) (hi : i < 12200) (hdg : decode cc pc = .ok (.laload, 1)) (kk : W p l e R s m args below meth c H locs cells slots Q (F0 m (pc + 1) ls (.long (rI r i) :: rest))) : W p l e R s m args below meth c H locs cells slots Q (F0 m pc ls (.int x :: .ref (G 4) :: rest)) := by
  subst hxi
  refine va_lald F.1 F.2.1 hK.1 hR.1 4 2 rfl rfl (vp_in_nI hi (by decide)) hdg ?_
  rw [nI_clamp (show i < 2 ^ 31 by omega)]
  exact kk
theorem m_stI (F : px_F p m c cc nL s args RX6) (hK : KK D cy s) (hR : MR D cy A G r C E H) (hS : va_S A H0 H locs) {x : Int32} {y : Int64} (i : Nat) (v : Int64) (hxi : x = nI i) (hv : y = v) (hi : i < 12200) (hdg : decode cc pc = .ok (.lastore, 1)) (kk : ∀ (H : Heap) (locs : List Loc), MR D cy A G (sI r (va_up (rI r) i v)) C E H → va_S A H0 H locs → W p l e R s m args below meth c H locs cells slots Q (F0 m (pc + 1) ls rest)) : W p l e R s m args below meth c H locs cells slots Q (F0 m pc ls (.long y :: .int x :: .ref (G 4) :: rest)) := by
  subst hxi
  subst hv
  refine va_last F.1 F.2.1 hK.1 hR.1 hR.2 hS 4 2 rfl rfl (vp_in_nI hi (by decide)) hdg (fun H1 locs1 hP hD hS => ?_)
  rw [nI_clamp (show i < 2 ^ 31 by omega), updL_up] at hP hD
  exact kk H1 locs1 ⟨hP, hD⟩ hS
theorem m_ldTN (F : px_F p m c cc nL s args RX6) (hK : KK D cy s) (hR : MR D cy A G r C E H) {x : Int32} (i : Nat) (hxi : x = nI i) (hi : i < 3100) (hdg : decode cc pc = .ok (.iaload, 1)) (kk : W p l e R s m args below meth c H locs cells slots Q (F0 m (pc + 1) ls (.int (rTN r i) :: rest))) : W p l e R s m args below meth c H locs cells slots Q (F0 m pc ls (.int x :: .ref (G 5) :: rest)) := by
  subst hxi
  refine va_iald F.1 F.2.1 hK.1 hR.1 5 1 rfl rfl (vp_in_nI hi (by decide)) hdg ?_
  rw [nI_clamp (show i < 2 ^ 31 by omega)]
  exact kk
theorem m_stTN (F : px_F p m c cc nL s args RX6) (hK : KK D cy s) (hR : MR D cy A G r C E H) (hS : va_S A H0 H locs) {x : Int32} {y : Int32} (i : Nat) (v : Int32) (hxi : x = nI i) (hv : y = v) (hi : i < 3100) (hdg : decode cc pc = .ok (.iastore, 1)) (kk : ∀ (H : Heap) (locs : List Loc), MR D cy A G (sTN r (va_up (rTN r) i v)) C E H → va_S A H0 H locs → W p l e R s m args below meth c H locs cells slots Q (F0 m (pc + 1) ls rest)) : W p l e R s m args below meth c H locs cells slots Q (F0 m pc ls (.int y :: .int x :: .ref (G 5) :: rest)) := by
  subst hxi
  subst hv
  refine va_iast F.1 F.2.1 hK.1 hR.1 hR.2 hS 5 1 rfl rfl (vp_in_nI hi (by decide)) hdg (fun H1 locs1 hP hD hS => ?_)
  rw [nI_clamp (show i < 2 ^ 31 by omega), upd_up] at hP hD
  exact kk H1 locs1 ⟨hP, hD⟩ hS
theorem m_ldIM (F : px_F p m c cc nL s args RX6) (hK : KK D cy s) (hR : MR D cy A G r C E H) {x : Int32} (i : Nat) (hxi : x = nI i) (hi : i < 3100) (hdg : decode cc pc = .ok (.baload, 1)) (kk : W p l e R s m args below meth c H locs cells slots Q (F0 m (pc + 1) ls (.int (b2i (rIM r i)) :: rest))) : W p l e R s m args below meth c H locs cells slots Q (F0 m pc ls (.int x :: .ref (G 6) :: rest)) := by
  subst hxi
  refine va_zald F.1 F.2.1 hK.1 hR.1 6 3 rfl rfl (vp_in_nI hi (by decide)) hdg ?_
  rw [nI_clamp (show i < 2 ^ 31 by omega)]
  exact kk
theorem m_stIM (F : px_F p m c cc nL s args RX6) (hK : KK D cy s) (hR : MR D cy A G r C E H) (hS : va_S A H0 H locs) {x : Int32} {y : Int32} (i : Nat) (v : Bool) (hxi : x = nI i) (hv : y = b2i v) (hi : i < 3100) (hdg : decode cc pc = .ok (.bastore, 1)) (kk : ∀ (H : Heap) (locs : List Loc), MR D cy A G (sIM r (va_up (rIM r) i v)) C E H → va_S A H0 H locs → W p l e R s m args below meth c H locs cells slots Q (F0 m (pc + 1) ls rest)) : W p l e R s m args below meth c H locs cells slots Q (F0 m pc ls (.int y :: .int x :: .ref (G 6) :: rest)) := by
  subst hxi
  subst hv
  refine va_zast F.1 F.2.1 hK.1 hR.1 hR.2 hS 6 3 rfl rfl (vp_in_nI hi (by decide)) hdg (fun H1 locs1 hP hD hS => ?_)
  rw [nI_clamp (show i < 2 ^ 31 by omega), vp_nar_z, upd_z] at hP hD
  exact kk H1 locs1 ⟨hP, hD⟩ hS
theorem m_ldHd (F : px_F p m c cc nL s args RX6) (hK : KK D cy s) (hR : MR D cy A G r C E H) {x : Int32} (i : Nat) (hxi : x = nI i) (hi : i < 16) (hdg : decode cc pc = .ok (.iaload, 1)) (kk : W p l e R s m args below meth c H locs cells slots Q (F0 m (pc + 1) ls (.int (nI (rHd r i)) :: rest))) : W p l e R s m args below meth c H locs cells slots Q (F0 m pc ls (.int x :: .ref (G 7) :: rest)) := by
  subst hxi
  refine va_iald F.1 F.2.1 hK.1 hR.1 7 1 rfl rfl (vp_in_nI hi (by decide)) hdg ?_
  rw [nI_clamp (show i < 2 ^ 31 by omega)]
  exact kk
theorem m_stHd (F : px_F p m c cc nL s args RX6) (hK : KK D cy s) (hR : MR D cy A G r C E H) (hS : va_S A H0 H locs) {x : Int32} {y : Int32} (i : Nat) (v : Nat) (hxi : x = nI i) (hv : y = nI v) (hi : i < 16) (hdg : decode cc pc = .ok (.iastore, 1)) (kk : ∀ (H : Heap) (locs : List Loc), MR D cy A G (sHd r (va_up (rHd r) i v)) C E H → va_S A H0 H locs → W p l e R s m args below meth c H locs cells slots Q (F0 m (pc + 1) ls rest)) : W p l e R s m args below meth c H locs cells slots Q (F0 m pc ls (.int y :: .int x :: .ref (G 7) :: rest)) := by
  subst hxi
  subst hv
  refine va_iast F.1 F.2.1 hK.1 hR.1 hR.2 hS 7 1 rfl rfl (vp_in_nI hi (by decide)) hdg (fun H1 locs1 hP hD hS => ?_)
  rw [nI_clamp (show i < 2 ^ 31 by omega), upd_nI] at hP hD
  exact kk H1 locs1 ⟨hP, hD⟩ hS
theorem m_ldTr (F : px_F p m c cc nL s args RX6) (hK : KK D cy s) (hR : MR D cy A G r C E H) {x : Int32} (i : Nat) (hxi : x = nI i) (hi : i < 8) (hdg : decode cc pc = .ok (.iaload, 1)) (kk : W p l e R s m args below meth c H locs cells slots Q (F0 m (pc + 1) ls (.int (rTr r i) :: rest))) : W p l e R s m args below meth c H locs cells slots Q (F0 m pc ls (.int x :: .ref (G 8) :: rest)) := by
  subst hxi
  refine va_iald F.1 F.2.1 hK.1 hR.1 8 1 rfl rfl (vp_in_nI hi (by decide)) hdg ?_
  rw [nI_clamp (show i < 2 ^ 31 by omega)]
  exact kk
theorem m_stTr (F : px_F p m c cc nL s args RX6) (hK : KK D cy s) (hR : MR D cy A G r C E H) (hS : va_S A H0 H locs) {x : Int32} {y : Int32} (i : Nat) (v : Int32) (hxi : x = nI i) (hv : y = v) (hi : i < 8) (hdg : decode cc pc = .ok (.iastore, 1)) (kk : ∀ (H : Heap) (locs : List Loc), MR D cy A G (sTr r (va_up (rTr r) i v)) C E H → va_S A H0 H locs → W p l e R s m args below meth c H locs cells slots Q (F0 m (pc + 1) ls rest)) : W p l e R s m args below meth c H locs cells slots Q (F0 m pc ls (.int y :: .int x :: .ref (G 8) :: rest)) := by
  subst hxi
  subst hv
  refine va_iast F.1 F.2.1 hK.1 hR.1 hR.2 hS 8 1 rfl rfl (vp_in_nI hi (by decide)) hdg (fun H1 locs1 hP hD hS => ?_)
  rw [nI_clamp (show i < 2 ^ 31 by omega), upd_up] at hP hD
  exact kk H1 locs1 ⟨hP, hD⟩ hS
theorem m_ldC (F : px_F p m c cc nL s args RX6) (hK : KK D cy s) (hR : MR D cy A G r C E H) {x : Int32} (i : Nat) (hxi : x = nI i) (hi : i < 13000) (hdg : decode cc pc = .ok (.iaload, 1)) (kk : W p l e R s m args below meth c H locs cells slots Q (F0 m (pc + 1) ls (.int (nI (C i)) :: rest))) : W p l e R s m args below meth c H locs cells slots Q (F0 m pc ls (.int x :: .ref (G 9) :: rest)) := by
  subst hxi
  refine va_iald F.1 F.2.1 hK.1 hR.1 9 1 rfl rfl (vp_in_nI hi (by decide)) hdg ?_
  rw [nI_clamp (show i < 2 ^ 31 by omega)]
  exact kk
theorem m_stC (F : px_F p m c cc nL s args RX6) (hK : KK D cy s) (hR : MR D cy A G r C E H) (hS : va_S A H0 H locs) {x : Int32} {y : Int32} (i : Nat) (v : Nat) (hxi : x = nI i) (hv : y = nI v) (hi : i < 13000) (hdg : decode cc pc = .ok (.iastore, 1)) (kk : ∀ (H : Heap) (locs : List Loc), MR D cy A G r (va_up (C) i v) E H → va_S A H0 H locs → W p l e R s m args below meth c H locs cells slots Q (F0 m (pc + 1) ls rest)) : W p l e R s m args below meth c H locs cells slots Q (F0 m pc ls (.int y :: .int x :: .ref (G 9) :: rest)) := by
  subst hxi
  subst hv
  refine va_iast F.1 F.2.1 hK.1 hR.1 hR.2 hS 9 1 rfl rfl (vp_in_nI hi (by decide)) hdg (fun H1 locs1 hP hD hS => ?_)
  rw [nI_clamp (show i < 2 ^ 31 by omega), upd_nI] at hP hD
  exact kk H1 locs1 ⟨hP, hD⟩ hS
theorem m_ldE (F : px_F p m c cc nL s args RX6) (hK : KK D cy s) (hR : MR D cy A G r C E H) {x : Int32} (i : Nat) (hxi : x = nI i) (hi : i < 30) (hdg : decode cc pc = .ok (.laload, 1)) (kk : W p l e R s m args below meth c H locs cells slots Q (F0 m (pc + 1) ls (.long (E i) :: rest))) : W p l e R s m args below meth c H locs cells slots Q (F0 m pc ls (.int x :: .ref (G 10) :: rest)) := by
  subst hxi
  refine va_lald F.1 F.2.1 hK.1 hR.1 10 2 rfl rfl (vp_in_nI hi (by decide)) hdg ?_
  rw [nI_clamp (show i < 2 ^ 31 by omega)]
  exact kk
theorem m_stE (F : px_F p m c cc nL s args RX6) (hK : KK D cy s) (hR : MR D cy A G r C E H) (hS : va_S A H0 H locs) {x : Int32} {y : Int64} (i : Nat) (v : Int64) (hxi : x = nI i) (hv : y = v) (hi : i < 30) (hdg : decode cc pc = .ok (.lastore, 1)) (kk : ∀ (H : Heap) (locs : List Loc), MR D cy A G r C (va_up (E) i v) H → va_S A H0 H locs → W p l e R s m args below meth c H locs cells slots Q (F0 m (pc + 1) ls rest)) : W p l e R s m args below meth c H locs cells slots Q (F0 m pc ls (.long y :: .int x :: .ref (G 10) :: rest)) := by
  subst hxi
  subst hv
  refine va_last F.1 F.2.1 hK.1 hR.1 hR.2 hS 10 2 rfl rfl (vp_in_nI hi (by decide)) hdg (fun H1 locs1 hP hD hS => ?_)
  rw [nI_clamp (show i < 2 ^ 31 by omega), updL_up] at hP hD
  exact kk H1 locs1 ⟨hP, hD⟩ hS
end MX
