/-! the class: newTable, newThing -/
set_option maxHeartbeats 400000 in
set_option maxRecDepth 100000 in
theorem c_X5_newTable (l : Launch) (D : va_G) (cy : Nat → ClassId) (A : Nat → Prop) (r : RS) (g : CG) (sz : Nat)  (k n : Nat)  (hA : ∀ q, sz ≤ q → A q) (hV : VR r) (hk : k ≤ 13) (hn : n ≤ 30) : Met l yX5_newTable (px_w yX5_newTable cX5_newTable 3 (some (.object "PlanCopies$Table"))) (rmd 4 2 (4 + n)) (px_P D cy [.ref (gA g 0), .int (nI k), .int (nI n)] sz (CR D cy A r g)) (px_Q (px_Cw D cy A r g (fun g2 => some (.ref (gA g2 (3 * (rT r + 1))))) (f_table r k n) (gM g)) A) (2) (4 + n) A := by
  refine px_met (by decide) (Nat.le_of_ble_eq_true rfl) ?_
  intro p e s m below meth c F hr hlocks hnm hK hsz hR ls hl
  have hx := F.1
  have hb := F.2.1
  have hS : va_S A s.heap s.heap [] := va_S.rf
  have hA9 : ∀ q, s.heap.size ≤ q → A q := fun q h => hA q (by omega)
  have hl : lv_has ls 3 [(0, .ref (gA g 0)), (1, .int (nI k)), (2, .int (nI n))] := hl
  refine lv_aload_n hx hb dX5_newTable_0 rfl (lv_at hl 0 rfl) ?_
  refine lv_dup hx hb dX5_newTable_1 rfl ?_
  refine c_gx F hK hR 2 (by decide) rfl kw_fieldLink_RX5_149 dX5_newTable_2 ?_
  refine lv_iload_n hx hb dX5_newTable_5 rfl (lv_at hl 2 rfl) ?_
  refine lv_iadd hx hb dX5_newTable_6 ?_
  refine px_topi (y := nI ((rN r) + n)) (nI_add _ _) ?_
  refine c_px F hK hR hS 2 (by decide) (v := nI ((rN r) + n)) rfl (sN r ((rN r) + n)) g rfl rfl (fun _ => Iff.rfl) (fun z hz => en_sN cy _ g _ hz) kw_fieldLink_RX5_149 rfl rfl dX5_newTable_7 (fun H locs hR hS => ?_)
  refine lv_iload_n hx hb dX5_newTable_10 rfl (lv_at hl 1 rfl) ?_
  refine lv_iconst (v := 0) hx hb dX5_newTable_11 (by decide) ?_
  refine lv_bipush (v := 7) hx hb dX5_newTable_12 (by decide) ?_
  refine px_goV (st1 := [.int (b2i (f_in (nI k) 0 7))]) (px_callS F hK (c_X5_isKind l D cy _ (nI k) 0 7) kc_X5_isKind kw_methodLink_RX5_26 rfl trivial rfl ⟨rfl, rfl⟩ ⟨Nat.le_of_ble_eq_true rfl, Nat.le_of_ble_eq_true rfl⟩ hl.1 rfl (Nat.le_of_ble_eq_true rfl) dX5_newTable_14 ⟨Nat.zero_le _, Nat.zero_le _⟩) rfl ?_
  refine x_ifeq_b (tgt := 32) hx hb dX5_newTable_17 (by decide) (fun h_17 => ?_) (fun h_17 => ?_)
  · have hk8 : ¬ k < 8 := (fun q => by have : f_in (nI k) 0 7 = true := (by simp only [f_in, Bool.and_eq_true, Bool.not_eq_true', decide_eq_false_iff_not]; exact ⟨nI_pos (by omega), nI_nlt (a := 7) (b := k) (by omega) (by omega)⟩); rw [this] at h_17; cases h_17)
    obtain ⟨cs, h1, hP, hD⟩ := hR
    refine va_new (D := D) (ci := 0) (C := RX0) (T := TX0) (N := 4) (fs := [.int 0, .int 0, .null, .null]) hx hb F.2.2.2.2 inlX0 tyX0 tyX0_ok F.2.2.2.1 (F.2.2.2.2 _ kw_classLink_RX5_158) (F.2.2.2.2 _ kw_instantiable_RX0_4) (F.2.2.2.2 _ kw_initialized_RX0) hK.1 hP hD hS hA9 rfl (by intro j hj; rcases (show j = 0 ∨ j = 1 ∨ j = 2 ∨ j = 3 by omega) with rfl | rfl | rfl | rfl <;> rfl) (Nat.le_of_ble_eq_true rfl) (show 0 + 4 ≤ 4 + n by omega) dX5_newTable_32 (fun q1 H hP hD hS => ?_)
    have hz9 := hS.1
    refine lv_dup hx hb dX5_newTable_35 rfl ?_
    refine lv_iload_n hx hb dX5_newTable_36 rfl (lv_at hl 1 rfl) ?_
    refine lv_iload_n hx hb dX5_newTable_37 rfl (lv_at hl 2 rfl) ?_
    refine px_goQ2 (px_callI F hK (c_X0_init l D cy q1 H.size (nI k) n (by omega)) kc_X0_init kw_methodLink_RX5_160 rfl (va_P_r hP) rfl ⟨rfl, rfl⟩ ⟨Nat.le_of_ble_eq_true rfl, Nat.le_of_ble_eq_true rfl⟩ hl.1 rfl (Nat.le_of_ble_eq_true rfl) dX5_newTable_38 ⟨(Nat.le_of_ble_eq_true rfl), (show 0 + 4 + n ≤ 4 + n by omega)⟩) (fun q h => h.elim (fun z => by rw [z]; exact (va_D_x hD).1) (fun z => hA9 q (Nat.le_trans hS.1 z))) hS (fun v H2 locs2 hp hz ho hS => ?_)
    obtain ⟨rfl, q2, hP2, hD2⟩ := hp
    have hC := CR.made2 (k := k) (n := n) hV h1 hP hD (fun q z => hA9 q (Nat.le_trans hz9 z)) ho hP2 hD2 (by rw [if_neg hk8]) (by rw [if_neg hk8])
    refine W.widen (k := 2) (n := 4 + n) (by omega) (by omega) ?_
    exact px_aret (r := some q1) F hr hlocks hS ⟨g_new r g q1 q2, (by show some (Value.ref q1) = some (Value.ref (gA (g_new r g q1 q2) (3 * (rT r + 1)))); rw [g_new_1]), gx_new r g k n q1 q2, rfl, hC⟩ dX5_newTable_41
  · have hk8 : k < 8 := (by have q := f_in_nat h_17 0 7 rfl rfl (by decide) (by decide); obtain ⟨z, _, z2, z3⟩ := q; have := nIeq z3 (by omega) (by omega); omega)
    obtain ⟨cs, h1, hP, hD⟩ := hR
    refine va_new (D := D) (ci := 1) (C := RX2) (T := TX2) (N := 4) (fs := [.int 0, .int 0, .null, .null]) hx hb F.2.2.2.2 inlX2 tyX2 tyX2_ok F.2.2.2.1 (F.2.2.2.2 _ kw_classLink_RX5_125) (F.2.2.2.2 _ kw_instantiable_RX2_4) (F.2.2.2.2 _ kw_initialized_RX2) hK.1 hP hD hS hA9 rfl (by intro j hj; rcases (show j = 0 ∨ j = 1 ∨ j = 2 ∨ j = 3 by omega) with rfl | rfl | rfl | rfl <;> rfl) (Nat.le_of_ble_eq_true rfl) (show 0 + 4 ≤ 4 + n by omega) dX5_newTable_20 (fun q1 H hP hD hS => ?_)
    have hz9 := hS.1
    refine lv_dup hx hb dX5_newTable_23 rfl ?_
    refine lv_iload_n hx hb dX5_newTable_24 rfl (lv_at hl 1 rfl) ?_
    refine lv_iload_n hx hb dX5_newTable_25 rfl (lv_at hl 2 rfl) ?_
    refine px_goQ2 (px_callI F hK (c_X2_init l D cy q1 H.size (nI k) n (by omega)) kc_X2_init kw_methodLink_RX5_155 rfl (va_P_r hP) rfl ⟨rfl, rfl⟩ ⟨Nat.le_of_ble_eq_true rfl, Nat.le_of_ble_eq_true rfl⟩ hl.1 rfl (Nat.le_of_ble_eq_true rfl) dX5_newTable_26 ⟨(Nat.le_of_ble_eq_true rfl), (show 0 + 4 + n ≤ 4 + n by omega)⟩) (fun q h => h.elim (fun z => by rw [z]; exact (va_D_x hD).1) (fun z => hA9 q (Nat.le_trans hS.1 z))) hS (fun v H2 locs2 hp hz ho hS => ?_)
    obtain ⟨rfl, q2, hP2, hD2⟩ := hp
    have hC := CR.made2 (k := k) (n := n) hV h1 hP hD (fun q z => hA9 q (Nat.le_trans hz9 z)) ho hP2 hD2 (by rw [if_pos hk8]) (by rw [if_pos hk8])
    refine lv_goto (tgt := 41) hx hb dX5_newTable_29 (by decide) ?_
    refine W.widen (k := 2) (n := 4 + n) (by omega) (by omega) ?_
    exact px_aret (r := some q1) F hr hlocks hS ⟨g_new r g q1 q2, (by show some (Value.ref q1) = some (Value.ref (gA (g_new r g q1 q2) (3 * (rT r + 1)))); rw [g_new_1]), gx_new r g k n q1 q2, rfl, hC⟩ dX5_newTable_41
