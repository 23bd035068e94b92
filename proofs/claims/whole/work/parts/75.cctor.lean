/-! the class: its constructor -/
abbrev x_new : List Value := [.null, .null, .int 0, .int 0, .int 0, .int 0, .int 0, .int 0]
def r_00 : RS := (0, fun _ => 0, fun _ => 0, fun _ => 0, 0, fun _ => 0, 0, fun _ => 0, fun _ => false, fun _ => 0, fun _ => 0, 0, 0, 0)
def g_00 (o q1 q2 : Nat) : CG := (fun k => match k with | 0 => o | 1 => q1 | _ => q2, 0, fun _ => 0, fun _ => none, 0)
theorem clear_00 : (f_clear r_00).1 = r_init := by
  have e : (fun k => if k < 16 then 0 else rHd r_00 k) = (fun _ => 0 : Nat → Nat) := by funext k; show (if k < 16 then 0 else 0) = 0; split <;> rfl
  show ((0, fun _ => 0, fun _ => 0, fun _ => 0, 0, fun _ => 0, 0, fun _ => 0, fun _ => false, (fun k => if k < 16 then 0 else rHd r_00 k), (fun k => if k < 8 then -1 else rTr r_00 k), 0, -1, 0) : RS) = r_init
  rw [e]; rfl
theorem dm_00 : ∀ c, c ∈ [0, 1, 2] ↔ c_dm r_00 c := by
  intro c
  have h1 : rT r_00 = 0 := rfl
  have h2 : rM r_00 = 0 := rfl
  unfold c_dm
  rw [h1, h2]
  simp only [List.mem_cons, List.not_mem_nil, or_false]
  omega
theorem ci_00 (o q1 q2 : Nat) : CI 0 r_init (g_00 o q1 q2) := ⟨rfl, 0, Nat.le_refl _, rfl, fun _ _ => ⟨0, Nat.le_refl _, rfl⟩⟩
theorem cr_00 {D : va_G} {cy : Nat → ClassId} {A : Nat → Prop} {H : Heap} {o q1 q2 : Nat} (hP : va_P D vwCl [(o, .inr (3, [.ref q1, .ref q2, .int 0, .int 0, .int 0, .int 0, .int 0, .int 0])), (q1, .inl (cy 4, 16, .inr (.inr (.inr (.inr (fun _ => none)))))), (q2, .inl (cy 1, 8, .inl (fun _ => 0)))] H) (hD : va_D A [(o, .inr (3, [.ref q1, .ref q2, .int 0, .int 0, .int 0, .int 0, .int 0, .int 0])), (q1, .inl (cy 4, 16, .inr (.inr (.inr (.inr (fun _ => none)))))), (q2, .inl (cy 1, 8, .inl (fun _ => 0)))]) : CR D cy A r_00 (g_00 o q1 q2) H := by
  have e : wl [0, 1, 2] (gA (g_00 o q1 q2)) (c_en cy r_00 (g_00 o q1 q2)) = [(o, .inr (3, [.ref q1, .ref q2, .int 0, .int 0, .int 0, .int 0, .int 0, .int 0])), (q1, .inl (cy 4, 16, .inr (.inr (.inr (.inr (fun _ => none)))))), (q2, .inl (cy 1, 8, .inl (fun _ => 0)))] := by
    unfold wl
    simp only [List.map_cons, List.map_nil]
    rw [en_x, en_col, en_tr]
    rfl
  exact ⟨[0, 1, 2], dm_00, by rw [e]; exact hP, by rw [e]; exact hD⟩
set_option maxHeartbeats 400000 in
set_option maxRecDepth 100000 in
theorem c_X5_init (l : Launch) (D : va_G) (cy : Nat → ClassId) (A : Nat → Prop) (o sz : Nat) (hA0 : ∀ q, sz ≤ q → A q) : Met l yX5_init (px_w yX5_init cX5_init 1 none) (rmd 2 2 24) (px_P D cy [.ref o] sz (fun H => va_P D vwCl [(o, .inr (3, x_new))] H ∧ va_D A [(o, .inr (3, x_new))])) (px_Q (fun v H => v = none ∧ ∃ g : CG, gA g 0 = o ∧ CI 0 r_init g ∧ CR D cy A r_init g H) A) 2 24 A := by
  refine px_met (by decide) (Nat.le_of_ble_eq_true rfl) ?_
  intro p e s m below meth c F hr hlocks hnm hK hsz hB ls hl
  have hx := F.1
  have hb := F.2.1
  have hown := F.2.2.2.1
  have hts := F.2.2.2.2
  obtain ⟨hP, hD⟩ := hB
  have hA : ∀ q, s.heap.size ≤ q → A q := fun q h => hA0 q (by omega)
  have hS : va_S A s.heap s.heap [] := va_S.rf
  have hl : lv_has ls 1 [(0, .ref o)] := hl
  refine lv_aload_n hx hb dX5_init_0 rfl (lv_at hl 0 rfl) ?_
  refine W.objInit hx hb hown (hts _ kw_methodLink_RX5_1) (hts _ kw_instanceMethod_Object_init) (hts _ kw_code_objectInit) rfl (by rw [F.2.2.1]; exact hl.1) rfl dX5_init_1 (Nat.le_of_ble_eq_true rfl) (Nat.le_of_ble_eq_true rfl) ?_
  refine W.eq (g2 := F0 m 4 ls []) rfl ?_
  refine lv_aload_n hx hb dX5_init_4 rfl (lv_at hl 0 rfl) ?_
  refine lv_bipush (v := 16) hx hb dX5_init_5 (by decide) ?_
  refine px_newq (N' := 16) F hK hP hD hS hA 4 rfl kw_classLink_RX5_9 hK.2.2.1 (by decide) (by decide) (by decide) (Nat.le_of_ble_eq_true rfl) (Nat.le_of_ble_eq_true rfl) dX5_init_7 (fun q1 H hP hD hS => ?_)
  have hP : va_P D vwCl [(o, .inr (3, [.null, .null, .int 0, .int 0, .int 0, .int 0, .int 0, .int 0])), (q1, .inl (cy 4, 16, .inr (.inr (.inr (.inr (fun _ => none))))))] H := hP
  have hD : va_D A [(o, .inr (3, [.null, .null, .int 0, .int 0, .int 0, .int 0, .int 0, .int 0])), (q1, .inl (cy 4, 16, .inr (.inr (.inr (.inr (fun _ => none))))))] := hD
  refine va_putF (D := D) (ci := 3) (v := .ref q1) (ty := .array (.object "PlanCopies$Table")) (C := RX5) (T := TX5) (N := 8) hx hb hts inlX5 tyX5 tyX5_ok nmX5 hown hK.1 hP hD hS 0 rfl rfl 0 (by decide) (hts _ kw_fieldLink_RX5_11) (fun _ h9 => h9) rfl hnm rfl (by decide +kernel) rfl rfl (Nat.le_of_ble_eq_true rfl) dX5_init_10 (fun H locs hP hD hS => ?_)
  have hP : va_P D vwCl [(o, .inr (3, [.ref q1, .null, .int 0, .int 0, .int 0, .int 0, .int 0, .int 0])), (q1, .inl (cy 4, 16, .inr (.inr (.inr (.inr (fun _ => none))))))] H := hP
  have hD : va_D A [(o, .inr (3, [.ref q1, .null, .int 0, .int 0, .int 0, .int 0, .int 0, .int 0])), (q1, .inl (cy 4, 16, .inr (.inr (.inr (.inr (fun _ => none))))))] := hD
  refine lv_aload_n hx hb dX5_init_13 rfl (lv_at hl 0 rfl) ?_
  refine lv_bipush (v := 8) hx hb dX5_init_14 (by decide) ?_
  refine px_newa (atype := .int) (a0 := (8, .inl (fun _ => 0))) (N' := 8) F hK hP hD hS hA 1 rfl rfl kw_arrayClass__int (fun _ => rfl) (by decide) (by decide) (by decide) (Nat.le_of_ble_eq_true rfl) (Nat.le_of_ble_eq_true rfl) dX5_init_16 (fun q2 H hP hD hS => ?_)
  have hP : va_P D vwCl [(o, .inr (3, [.ref q1, .null, .int 0, .int 0, .int 0, .int 0, .int 0, .int 0])), (q1, .inl (cy 4, 16, .inr (.inr (.inr (.inr (fun _ => none)))))), (q2, .inl (cy 1, 8, .inl (fun _ => 0)))] H := hP
  have hD : va_D A [(o, .inr (3, [.ref q1, .null, .int 0, .int 0, .int 0, .int 0, .int 0, .int 0])), (q1, .inl (cy 4, 16, .inr (.inr (.inr (.inr (fun _ => none)))))), (q2, .inl (cy 1, 8, .inl (fun _ => 0)))] := hD
  refine va_putF (D := D) (ci := 3) (v := .ref q2) (ty := .array .int) (C := RX5) (T := TX5) (N := 8) hx hb hts inlX5 tyX5 tyX5_ok nmX5 hown hK.1 hP hD hS 0 rfl rfl 1 (by decide) (hts _ kw_fieldLink_RX5_15) (fun _ h9 => h9) rfl hnm rfl (by decide +kernel) rfl rfl (Nat.le_of_ble_eq_true rfl) dX5_init_18 (fun H locs hP hD hS => ?_)
  have hR : CR D cy A r_00 (g_00 o q1 q2) H := cr_00 hP hD
  have hl : lv_has ls 1 [(0, .ref (gA (g_00 o q1 q2) 0))] := hl
  refine lv_aload_n hx hb dX5_init_21 rfl (lv_at hl 0 rfl) ?_
  refine W.widen (k := 2) (n := 24) (by omega) (by omega) ?_
  refine px_goCx (st1 := []) (px_callV F hK (c_X5_begin l D cy A r_00 (g_00 o q1 q2) _) kc_X5_begin kw_methodLink_RX5_19 rfl hR (c_recv hK hR) rfl ⟨rfl, rfl⟩ ⟨Nat.le_of_ble_eq_true rfl, Nat.le_of_ble_eq_true rfl⟩ hl.1 rfl (Nat.le_of_ble_eq_true rfl) dX5_init_22 ⟨Nat.le_of_ble_eq_true rfl, Nat.le_of_ble_eq_true rfl⟩) hS rfl (fun H locs hR hS => ?_)
  rw [clear_00] at hR
  exact px_vret F hr hlocks hS ⟨rfl, g_00 o q1 q2, rfl, ci_00 o q1 q2, hR⟩ dX5_init_25
