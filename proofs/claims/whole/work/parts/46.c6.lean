/-! the class: newThing -/
set_option maxHeartbeats 400000 in
set_option maxRecDepth 100000 in
theorem c_X5_newThing (l : Launch) (D : va_G) (cy : Nat → ClassId) (A : Nat → Prop) (r : RS) (g : CG) (sz : Nat)  (nu : Int32) (mk : Bool)  (hA : ∀ q, sz ≤ q → A q) (hV : VR r) : Met l yX5_newThing (px_w yX5_newThing cX5_newThing 3 (some (.object "PlanCopies$Thing"))) (rmd 3 1 2) (px_P D cy [.ref (gA g 0), .int nu, .int (b2i mk)] sz (CR D cy A r g)) (px_Q (px_Cw D cy A r g (fun g2 => some (.ref (gA g2 (3 * (rM r + 1) + 2)))) (f_newT r mk nu) (gM g + 1)) A) (1) (2) A := by
  refine px_met (by decide) (Nat.le_of_ble_eq_true rfl) ?_
  intro p e s m below meth c F hr hlocks hnm hK hsz hR ls hl
  have hx := F.1
  have hb := F.2.1
  have hS : va_S A s.heap s.heap [] := va_S.rf
  have hA9 : ∀ q, s.heap.size ≤ q → A q := fun q h => hA q (by omega)
  have hl : lv_has ls 3 [(0, .ref (gA g 0)), (1, .int nu), (2, .int (b2i mk))] := hl
  refine lv_aload_n hx hb dX5_newThing_0 rfl (lv_at hl 0 rfl) ?_
  refine lv_dup hx hb dX5_newThing_1 rfl ?_
  refine c_gx F hK hR 3 (by decide) rfl kw_fieldLink_RX5_80 dX5_newThing_2 ?_
  refine lv_iconst (v := 1) hx hb dX5_newThing_5 (by decide) ?_
  refine lv_iadd hx hb dX5_newThing_6 ?_
  refine px_topi (y := nI ((gM g) + 1)) (nI_add _ _) ?_
  refine c_px F hK hR hS 3 (by decide) (v := nI (gM g + 1)) rfl r (g_m1 g) rfl rfl (fun _ => Iff.rfl) (fun z hz => by unfold c_en; rw [if_neg hz, if_neg hz]; rfl) kw_fieldLink_RX5_80 rfl rfl dX5_newThing_7 (fun H locs hR hS => ?_)
  obtain ⟨cs, h1, hP, hD⟩ := hR
  refine va_new (D := D) (ci := 2) (C := RX4) (T := TX4) (N := 2) (fs := [.int 0, .int 0]) hx hb F.2.2.2.2 inlX4 tyX4 tyX4_ok F.2.2.2.1 (F.2.2.2.2 _ kw_classLink_RX5_99_v2) (F.2.2.2.2 _ kw_instantiable_RX4_2) (F.2.2.2.2 _ kw_initialized_RX4) hK.1 hP hD hS hA9 rfl (by intro j hj; rcases (show j = 0 ∨ j = 1 by omega) with rfl | rfl <;> rfl) (Nat.le_of_ble_eq_true rfl) (Nat.le_of_ble_eq_true rfl) dX5_newThing_10 (fun q1 H hP hD hS => ?_)
  refine lv_dup hx hb dX5_newThing_13 rfl ?_
  refine lv_iload_n hx hb dX5_newThing_14 rfl (lv_at hl 1 rfl) ?_
  refine lv_iload_n hx hb dX5_newThing_15 rfl (lv_at hl 2 rfl) ?_
  refine px_goQ2 (px_callI F hK (c_X4_init l D cy q1 H.size nu mk) kc_X4_init kw_methodLink_RX5_165 rfl (va_P_r hP) rfl ⟨rfl, rfl⟩ ⟨Nat.le_of_ble_eq_true rfl, Nat.le_of_ble_eq_true rfl⟩ hl.1 rfl (Nat.le_of_ble_eq_true rfl) dX5_newThing_16 ⟨(Nat.le_of_ble_eq_true rfl), (Nat.le_of_ble_eq_true rfl)⟩) (fun q z => by rw [z]; exact (va_D_x hD).1) hS (fun v H2 locs2 hp hz ho hS => ?_)
  obtain ⟨rfl, hP2⟩ := hp
  have hC := CR.madeV (g := g) (mk := mk) (nu := nu) hV h1 hP hD ho hP2
  exact px_aret (r := some q1) F hr hlocks hS ⟨g_nv r g q1, (by show some (Value.ref q1) = some (Value.ref (gA (g_nv r g q1) (3 * (rM r + 1) + 2))); rw [g_nv_1]), gx_nv r g mk nu q1, rfl, hC⟩ dX5_newThing_19
