/-! the law: its world -/
def aL (h0 : Nat) : Nat → Prop := fun q => h0 ≤ q
def aC (h0 z0 z1 : Nat) : Nat → Prop := fun q => (h0 ≤ q ∧ q < z0) ∨ z1 ≤ q
def aM (z0 z1 : Nat) : Nat → Prop := fun q => z0 ≤ q ∧ q < z1
abbrev lC (r : RS) : Nat := 14 + 2 * rT r + rM r
abbrev lS (r : RS) : Nat := 70502 + 4 * rT r + rN r + 2 * rM r
theorem lC_add {r r' : RS} (h : MN r r') : lC r + cC r r' ≤ lC r' := by
  obtain ⟨h1, h2, h3⟩ := h
  unfold cC
  show 14 + 2 * rT r + rM r + _ ≤ 14 + 2 * rT r' + rM r'
  omega
theorem lS_add {r r' : RS} (h : MN r r') : lS r + cS r r' ≤ lS r' := by
  obtain ⟨h1, h2, h3⟩ := h
  unfold cS
  show 70502 + 4 * rT r + rN r + 2 * rM r + _ ≤ 70502 + 4 * rT r' + rN r' + 2 * rM r'
  omega
theorem lC_le {r r' : RS} (h : MN r r') : lC r ≤ lC r' := Nat.le_trans (Nat.le_add_right _ _) (lC_add h)
theorem lS_le {r r' : RS} (h : MN r r') : lS r ≤ lS r' := Nat.le_trans (Nat.le_add_right _ _) (lS_add h)
theorem lC_room {k : Nat} {r : RS} (h : LV k r) : lC r ≤ 600000 := by
  have := h.b
  show 14 + 2 * rT r + rM r ≤ 600000
  omega
theorem lS_room {k : Nat} {r : RS} (h : LV k r) : lS r ≤ 7302250 := by
  have := h.b
  show 70502 + 4 * rT r + rN r + 2 * rM r ≤ 7302250
  omega
theorem aC_aL {h0 z0 z1 : Nat} (h : h0 ≤ z0 ∧ z0 ≤ z1) : ∀ q, aC h0 z0 z1 q → aL h0 q := fun q z => by
  unfold aC at z
  unfold aL
  omega
theorem aM_aL {h0 z0 z1 : Nat} (h : h0 ≤ z0) : ∀ q, aM z0 z1 q → aL h0 q := fun q z => by
  unfold aM at z
  unfold aL
  omega
theorem aM_aC {h0 z0 z1 : Nat} : ∀ q, aM z0 z1 q → ¬ aC h0 z0 z1 q := fun q z => by
  unfold aM at z
  unfold aC
  omega
theorem aC_aM {h0 z0 z1 : Nat} : ∀ q, aC h0 z0 z1 q → ¬ aM z0 z1 q := fun q z => by
  unfold aC at z
  unfold aM
  omega
theorem MR.keep {D : va_G} {cy : Nat → ClassId} {A A' : Nat → Prop} {G : Nat → Nat} {r : RS} {C : Nat → Nat} {E : Nat → Int64} {H H1 : Heap} (h : MR D cy A G r C E H) (ho : ∀ q : Nat, q < H.size → ¬ A' q → H1[q]? = H[q]?) (hd : ∀ q, A q → ¬ A' q) : MR D cy A G r C E H1 :=
  ⟨h.1.kept (fun k q hk => ho q.1 (h.1 k q hk).lt (hd _ (h.2.2 k q hk))), h.2⟩
theorem CR.keep {D : va_G} {cy : Nat → ClassId} {A A' : Nat → Prop} {r : RS} {g : CG} {H H1 : Heap} (h : CR D cy A r g H) (ho : ∀ q : Nat, q < H.size → ¬ A' q → H1[q]? = H[q]?) (hd : ∀ q, A q → ¬ A' q) : CR D cy A r g H1 := by
  obtain ⟨cs, h1, hP, hD⟩ := h
  exact ⟨cs, h1, hP.kept (fun k q hk => ho q.1 (hP k q hk).lt (hd _ (hD.2 k q hk))), hD⟩
theorem MR.setA {D : va_G} {cy : Nat → ClassId} {A A' : Nat → Prop} {G : Nat → Nat} {r : RS} {C : Nat → Nat} {E : Nat → Int64} {H : Heap} (h : MR D cy A G r C E H) (hd : ∀ q, A q → q < H.size → A' q) : MR D cy A' G r C E H :=
  ⟨h.1, h.2.weaken (fun k q hk z => hd _ z (h.1 k q hk).lt)⟩
theorem CR.setA {D : va_G} {cy : Nat → ClassId} {A A' : Nat → Prop} {r : RS} {g : CG} {H : Heap} (h : CR D cy A r g H) (hd : ∀ q, A q → q < H.size → A' q) : CR D cy A' r g H := by
  obtain ⟨cs, h1, hP, hD⟩ := h
  exact ⟨cs, h1, hP, hD.weaken (fun k q hk z => hd _ z (hP k q hk).lt)⟩
def LW (D : va_G) (cy : Nat → ClassId) (s : State) (b z0 z1 o1 : Nat) (G : Nat → Nat) (k i : Nat) (r : RS) (H : Heap) (locs : List Loc) (ls : Array Slot) : Prop := ∃ (g : CG) (C : Nat → Nat) (E : Nat → Int64), LV k r ∧ CI k r g ∧ gA g 0 = o1 ∧ CR D cy (aC s.heap.size z0 z1) r g H ∧ MR D cy (aM z0 z1) G r C E H ∧ va_S (aL s.heap.size) s.heap H locs ∧ ((s.heap.size ≤ z0 ∧ z0 ≤ z1) ∧ z1 ≤ H.size) ∧ lv_has ls 4 [(0, .ref b), (1, .ref o1), (2, .ref (G 0)), (3, .int (nI i))]
def lw_L (x y : Int32) : Int64 := (x.toInt64 <<< (Int32.toInt64 32 &&& 63)) ||| (y.toInt64 &&& 4294967295)
theorem dp_in_M (row l : Nat) (r : RS) : ∀ j, rM (dp_in row l r j) = rM r
  | 0 => rfl
  | j + 1 => dp_in_M row l r j
theorem dp_row_M (kd m l t0 i : Nat) (r : RS) : rM (dp_row kd m l t0 i r) = rM r := by
  unfold dp_row
  split
  · rw [dp_in_M]; rfl
  · rfl
theorem dp_out_M (kd m l t0 : Nat) (r : RS) : ∀ i, rM (dp_out kd m l t0 r i) = rM r
  | 0 => rfl
  | i + 1 => (dp_row_M kd m l t0 i _).trans (dp_out_M kd m l t0 r i)
theorem m_make (r : RS) (c k n : Int32) : rM (f_make r c k n).1 = rM r := by
  unfold f_make
  split
  · rfl
  · split
    · rfl
    · split <;> rfl
theorem m_grow (r : RS) (c n : Int32) : rM (f_grow r c n).1 = rM r := by
  unfold f_grow
  split
  · rfl
  · split
    · rfl
    · split
      · rfl
      · split <;> rfl
theorem m_deep (r : RS) (c k n m l : Int32) : rM (f_deep r c k n m l).1 = rM r := by
  unfold f_deep
  split
  · rfl
  · split
    · rfl
    · split
      · rfl
      · split
        · rfl
        · exact dp_out_M _ _ _ _ _ _
section LWS
variable {p : Program} {l : Launch} {e : Env} {R : Room} {s : State} {m : MethodId} {args : Array Value} {below : List Frame} {meth : Method} {c : Code} {H : Heap} {locs : List Loc} {cells slots : Nat} {Q : State → Prop} {pc : Nat} {ls : Array Slot} {rest : List Value} {b L i o1 o2 : Nat} {xs : Nat → Int32}
theorem lw_arg (hx : p.tables.exec = Jvm.exec) (hb : c.code = cL_law) (hX : va_X b L xs s s.heap) (hbl : b < s.heap.size) (hS : va_S (aL s.heap.size) s.heap H locs) (hl : lv_has ls 4 [(0, .ref b), (1, .ref o1), (2, .ref o2), (3, .int (nI i))]) {j : Nat} (hj : i + j < L) (hL : L ≤ 3584) {n : Int} (hn : Int32.ofInt n = nI j) (d1 : decode cL_law pc = .ok (.aload_n 0, 1)) (d2 : decode cL_law (pc + 1) = .ok (.iload_n 3, 1)) (d3 : decode cL_law (pc + 1 + 1) = .ok (.iconst n, 1)) (d4 : decode cL_law (pc + 1 + 1 + 1) = .ok (.iadd, 1)) (d5 : decode cL_law (pc + 1 + 1 + 1 + 1) = .ok (.iaload, 1))
    (kk : W p l e R s m args below meth c H locs cells slots Q (F0 m (pc + 1 + 1 + 1 + 1 + 1) ls (.int (xs (i + j)) :: rest))) : W p l e R s m args below meth c H locs cells slots Q (F0 m pc ls rest) := by
  refine lv_aload_n hx hb d1 rfl (lv_at hl 0 rfl) ?_
  refine lv_iload_n hx hb d2 rfl (lv_at hl 3 rfl) ?_
  refine lv_iconst (v := nI j) hx hb d3 hn ?_
  refine lv_iadd hx hb d4 ?_
  refine px_topi (y := nI (i + j)) (nI_add _ _) ?_
  refine va_sld hx hb hX hbl (fun q => absurd (show s.heap.size ≤ b from q) (by omega)) hS (vp_in_nI hj (by omega)) d5 ?_
  rw [nI_clamp (show i + j < 2 ^ 31 by omega)]
  exact kk
theorem lw_arg6 (hx : p.tables.exec = Jvm.exec) (hb : c.code = cL_law) (hX : va_X b L xs s s.heap) (hbl : b < s.heap.size) (hS : va_S (aL s.heap.size) s.heap H locs) (hl : lv_has ls 4 [(0, .ref b), (1, .ref o1), (2, .ref o2), (3, .int (nI i))]) {j : Nat} (hj : i + j < L) (hL : L ≤ 3584) {n : Int} (hn : (Int8.ofInt n).toInt32 = nI j) (d1 : decode cL_law pc = .ok (.aload_n 0, 1)) (d2 : decode cL_law (pc + 1) = .ok (.iload_n 3, 1)) (d3 : decode cL_law (pc + 1 + 1) = .ok (.bipush n, 2)) (d4 : decode cL_law (pc + 1 + 1 + 2) = .ok (.iadd, 1)) (d5 : decode cL_law (pc + 1 + 1 + 2 + 1) = .ok (.iaload, 1))
    (kk : W p l e R s m args below meth c H locs cells slots Q (F0 m (pc + 1 + 1 + 2 + 1 + 1) ls (.int (xs (i + j)) :: rest))) : W p l e R s m args below meth c H locs cells slots Q (F0 m pc ls rest) := by
  refine lv_aload_n hx hb d1 rfl (lv_at hl 0 rfl) ?_
  refine lv_iload_n hx hb d2 rfl (lv_at hl 3 rfl) ?_
  refine lv_bipush (v := nI j) hx hb d3 hn ?_
  refine lv_iadd hx hb d4 ?_
  refine px_topi (y := nI (i + j)) (nI_add _ _) ?_
  refine va_sld hx hb hX hbl (fun q => absurd (show s.heap.size ≤ b from q) (by omega)) hS (vp_in_nI hj (by omega)) d5 ?_
  rw [nI_clamp (show i + j < 2 ^ 31 by omega)]
  exact kk
end LWS
