/-! the class: areAlike 0, 1 -/
set_option maxHeartbeats 400000 in
set_option maxRecDepth 100000 in
theorem c_X5_areAlike0 (l : Launch) (D : va_G) (cy : Nat → ClassId) (A : Nat → Prop) (r : RS) (g : CG) (sz : Nat) (a : Nat) (va : Value) (b : Nat) (vb : Value)  (hva : va = va_rf (c_col (gA g) a)) (ht_a : a ≤ rT r) (hvb : vb = va_rf (c_col (gA g) b)) (ht_b : b ≤ rT r) (hV : VR r) (hTb : rT r < 100000) (hMb : rM r < 100000) : Met l yX5_areAlike (px_w yX5_areAlike cX5_areAlike 5 (some .boolean)) (rmd 1 0 0) (px_P D cy [va, vb, .int 0] sz (CR D cy A r g)) (px_V (some (.int (b2i (f_al r 0 a b))))) 0 0 (fun _ => False) := by
  by_cases h0_a : a = 0
  · have e_va : va = .null := (hva.trans (col_0 h0_a).symm)
    subst e_va
    by_cases h0_b : b = 0
    · have e_vb : vb = .null := (hvb.trans (col_0 h0_b).symm)
      subst e_vb
      refine px_met (by decide) (Nat.le_of_ble_eq_true rfl) ?_
      intro p e s m below meth c F hr hlocks hnm hK hsz hR ls hl
      have hx := F.1
      have hb := F.2.1
      have hl : lv_has ls 5 [(0, .null), (1, .null), (2, .int 0)] := hl
      refine lv_aload_nN hx hb dX5_areAlike_0 rfl (lv_at hl 0 rfl) ?_
      refine lv_aload_nN hx hb dX5_areAlike_1 rfl (lv_at hl 1 rfl) ?_
      refine lv_acmp_ne (rx := none) (ry := none) (tgt := 7) hx hb dX5_areAlike_2 (by decide) (fun h => absurd rfl h) (fun _ => ?_)
      refine lv_iconst (v := 1) hx hb dX5_areAlike_5 (by decide) ?_
      exact pv_zret F hr hlocks (Or.inr rfl) (by rw [h0_a, h0_b, al_rr]; rfl) dX5_areAlike_6
    · have e_vb : vb = .ref (gA g (3 * b)) := (hvb.trans (col_t h0_b).symm)
      subst e_vb
      refine px_met (by decide) (Nat.le_of_ble_eq_true rfl) ?_
      intro p e s m below meth c F hr hlocks hnm hK hsz hR ls hl
      have hx := F.1
      have hb := F.2.1
      have hl : lv_has ls 5 [(0, .null), (1, .ref (gA g (3 * b))), (2, .int 0)] := hl
      refine lv_aload_nN hx hb dX5_areAlike_0 rfl (lv_at hl 0 rfl) ?_
      refine lv_aload_n hx hb dX5_areAlike_1 rfl (lv_at hl 1 rfl) ?_
      refine lv_acmp_ne (rx := none) (ry := some (gA g (3 * b))) (tgt := 7) hx hb dX5_areAlike_2 (by decide) (fun _ => ?_) (fun h => by cases h)
      refine lv_aload_nN hx hb dX5_areAlike_7 rfl (lv_at hl 0 rfl) ?_
      refine lv_ifnullN (tgt := 19) hx hb dX5_areAlike_8 (by decide) ?_
      refine lv_iconst (v := 0) hx hb dX5_areAlike_19 (by decide) ?_
      exact pv_zret F hr hlocks (Or.inl rfl) (by rw [h0_a, al_0r 0 h0_b]; rfl) dX5_areAlike_20
  · have e_va : va = .ref (gA g (3 * a)) := (hva.trans (col_t h0_a).symm)
    subst e_va
    by_cases h0_b : b = 0
    · have e_vb : vb = .null := (hvb.trans (col_0 h0_b).symm)
      subst e_vb
      refine px_met (by decide) (Nat.le_of_ble_eq_true rfl) ?_
      intro p e s m below meth c F hr hlocks hnm hK hsz hR ls hl
      have hx := F.1
      have hb := F.2.1
      have hl : lv_has ls 5 [(0, .ref (gA g (3 * a))), (1, .null), (2, .int 0)] := hl
      refine lv_aload_n hx hb dX5_areAlike_0 rfl (lv_at hl 0 rfl) ?_
      refine lv_aload_nN hx hb dX5_areAlike_1 rfl (lv_at hl 1 rfl) ?_
      refine lv_acmp_ne (rx := some (gA g (3 * a))) (ry := none) (tgt := 7) hx hb dX5_areAlike_2 (by decide) (fun _ => ?_) (fun h => by cases h)
      refine lv_aload_n hx hb dX5_areAlike_7 rfl (lv_at hl 0 rfl) ?_
      refine lv_ifnull hx hb dX5_areAlike_8 ?_
      refine lv_aload_nN hx hb dX5_areAlike_11 rfl (lv_at hl 1 rfl) ?_
      refine lv_ifnullN (tgt := 19) hx hb dX5_areAlike_12 (by decide) ?_
      refine lv_iconst (v := 0) hx hb dX5_areAlike_19 (by decide) ?_
      exact pv_zret F hr hlocks (Or.inl rfl) (by rw [h0_b, al_r0 0 h0_a]; rfl) dX5_areAlike_20
    · have e_vb : vb = .ref (gA g (3 * b)) := (hvb.trans (col_t h0_b).symm)
      subst e_vb
      refine px_met (by decide) (Nat.le_of_ble_eq_true rfl) ?_
      intro p e s m below meth c F hr hlocks hnm hK hsz hR ls hl
      have hx := F.1
      have hb := F.2.1
      have hl : lv_has ls 5 [(0, .ref (gA g (3 * a))), (1, .ref (gA g (3 * b))), (2, .int 0)] := hl
      refine lv_aload_n hx hb dX5_areAlike_0 rfl (lv_at hl 0 rfl) ?_
      refine lv_aload_n hx hb dX5_areAlike_1 rfl (lv_at hl 1 rfl) ?_
      refine lv_acmp_ne (rx := some (gA g (3 * a))) (ry := some (gA g (3 * b))) (tgt := 7) hx hb dX5_areAlike_2 (by decide) (fun h_2 => ?_) (fun h_2 => ?_)
      · have h_2 : ¬ a = b := (fun q9 => h_2 (by rw [q9]))
        refine lv_aload_n hx hb dX5_areAlike_7 rfl (lv_at hl 0 rfl) ?_
        refine lv_ifnull hx hb dX5_areAlike_8 ?_
        refine lv_aload_n hx hb dX5_areAlike_11 rfl (lv_at hl 1 rfl) ?_
        refine lv_ifnull hx hb dX5_areAlike_12 ?_
        refine lv_iload_n hx hb dX5_areAlike_15 rfl (lv_at hl 2 rfl) ?_
        refine lv_if_ne (tgt := 21) hx hb dX5_areAlike_16 (by decide) (fun h => absurd h (by decide)) (fun _ => ?_)
        refine lv_iconst (v := 0) hx hb dX5_areAlike_19 (by decide) ?_
        exact pv_zret F hr hlocks (Or.inl rfl) (by simp [f_al, b2i, h_2]) dX5_areAlike_20
      · have h_2 : a = b := (by have q9 := hR.inj (dm_t (show a ≤ rT r by omega)) (dm_t (show b ≤ rT r by omega)) (Option.some.inj h_2); omega)
        refine lv_iconst (v := 1) hx hb dX5_areAlike_5 (by decide) ?_
        exact pv_zret F hr hlocks (Or.inr rfl) (by rw [h_2, al_rr]; rfl) dX5_areAlike_6
set_option maxHeartbeats 400000 in
set_option maxRecDepth 100000 in
theorem c_X5_areItemsAlike1 (l : Launch) (D : va_G) (cy : Nat → ClassId) (A : Nat → Prop) (r : RS) (g : CG) (sz : Nat) (ty1 y1 : Nat) (v1 : Value) (ty2 y2 : Nat) (v2 : Value)  (hv1 : v1 = va_rf (c_obj (gA g) ty1 y1)) (ho_y1 : o_ok r ty1 y1) (hv2 : v2 = va_rf (c_obj (gA g) ty2 y2)) (ho_y2 : o_ok r ty2 y2) (hV : VR r) (hTb : rT r < 100000) (hMb : rM r < 100000) : Met l yX5_areItemsAlike (px_w yX5_areItemsAlike cX5_areItemsAlike 5 (some .boolean)) (rmd 2 0 0) (px_P D cy [v1, v2, .int 1] sz (CR D cy A r g)) (px_V (some (.int (b2i (f_ial (f_al r 0) r ty1 y1 ty2 y2))))) 0 0 (fun _ => False) := by
  rcases ho_y1 with rfl | ⟨rfl, hw1_y1, hw2_y1⟩ | ⟨rfl, hw1_y1, hw2_y1⟩
  · have e_v1 : v1 = .null := hv1
    subst e_v1
    rcases ho_y2 with rfl | ⟨rfl, hw1_y2, hw2_y2⟩ | ⟨rfl, hw1_y2, hw2_y2⟩
    · have e_v2 : v2 = .null := hv2
      subst e_v2
      refine px_met (by decide) (Nat.le_of_ble_eq_true rfl) ?_
      intro p e s m below meth c F hr hlocks hnm hK hsz hR ls hl
      have hx := F.1
      have hb := F.2.1
      have hl : lv_has ls 5 [(0, .null), (1, .null), (2, .int 1)] := hl
      refine lv_aload_nN hx hb dX5_areItemsAlike_0 rfl (lv_at hl 0 rfl) ?_
      refine lv_instN hx hb dX5_areItemsAlike_1 ?_
      refine lv_if_eq (tgt := 55) hx hb dX5_areItemsAlike_4 (by decide) (fun _ => ?_) (fun h => absurd h (by decide))
      refine lv_aload_nN hx hb dX5_areItemsAlike_55 rfl (lv_at hl 0 rfl) ?_
      refine lv_instN hx hb dX5_areItemsAlike_56 ?_
      refine lv_if_eq (tgt := 90) hx hb dX5_areItemsAlike_59 (by decide) (fun _ => ?_) (fun h => absurd h (by decide))
      refine lv_aload_nN hx hb dX5_areItemsAlike_90 rfl (lv_at hl 0 rfl) ?_
      refine lv_ifnonnullN hx hb dX5_areItemsAlike_91 ?_
      refine lv_aload_nN hx hb dX5_areItemsAlike_94 rfl (lv_at hl 1 rfl) ?_
      refine lv_ifnonnullN hx hb dX5_areItemsAlike_95 ?_
      refine lv_iconst (v := 1) hx hb dX5_areItemsAlike_98 (by decide) ?_
      refine lv_goto (tgt := 103) hx hb dX5_areItemsAlike_99 (by decide) ?_
      exact pv_zret F hr hlocks (Or.inr rfl) (by rfl) dX5_areItemsAlike_103
    · have e_v2 : v2 = .ref (gA g (3 * y2 + 2)) := hv2
      subst e_v2
      refine px_met (by decide) (Nat.le_of_ble_eq_true rfl) ?_
      intro p e s m below meth c F hr hlocks hnm hK hsz hR ls hl
      have hx := F.1
      have hb := F.2.1
      have hl : lv_has ls 5 [(0, .null), (1, .ref (gA g (3 * y2 + 2))), (2, .int 1)] := hl
      refine lv_aload_nN hx hb dX5_areItemsAlike_0 rfl (lv_at hl 0 rfl) ?_
      refine lv_instN hx hb dX5_areItemsAlike_1 ?_
      refine lv_if_eq (tgt := 55) hx hb dX5_areItemsAlike_4 (by decide) (fun _ => ?_) (fun h => absurd h (by decide))
      refine lv_aload_nN hx hb dX5_areItemsAlike_55 rfl (lv_at hl 0 rfl) ?_
      refine lv_instN hx hb dX5_areItemsAlike_56 ?_
      refine lv_if_eq (tgt := 90) hx hb dX5_areItemsAlike_59 (by decide) (fun _ => ?_) (fun h => absurd h (by decide))
      refine lv_aload_nN hx hb dX5_areItemsAlike_90 rfl (lv_at hl 0 rfl) ?_
      refine lv_ifnonnullN hx hb dX5_areItemsAlike_91 ?_
      refine lv_aload_n hx hb dX5_areItemsAlike_94 rfl (lv_at hl 1 rfl) ?_
      refine lv_ifnonnull (tgt := 102) hx hb dX5_areItemsAlike_95 (by decide) ?_
      refine lv_iconst (v := 0) hx hb dX5_areItemsAlike_102 (by decide) ?_
      exact pv_zret F hr hlocks (Or.inl rfl) (by rfl) dX5_areItemsAlike_103
    · have e_v2 : v2 = .ref (gA g (3 * y2)) := hv2
      subst e_v2
      refine px_met (by decide) (Nat.le_of_ble_eq_true rfl) ?_
      intro p e s m below meth c F hr hlocks hnm hK hsz hR ls hl
      have hx := F.1
      have hb := F.2.1
      have hl : lv_has ls 5 [(0, .null), (1, .ref (gA g (3 * y2))), (2, .int 1)] := hl
      refine lv_aload_nN hx hb dX5_areItemsAlike_0 rfl (lv_at hl 0 rfl) ?_
      refine lv_instN hx hb dX5_areItemsAlike_1 ?_
      refine lv_if_eq (tgt := 55) hx hb dX5_areItemsAlike_4 (by decide) (fun _ => ?_) (fun h => absurd h (by decide))
      refine lv_aload_nN hx hb dX5_areItemsAlike_55 rfl (lv_at hl 0 rfl) ?_
      refine lv_instN hx hb dX5_areItemsAlike_56 ?_
      refine lv_if_eq (tgt := 90) hx hb dX5_areItemsAlike_59 (by decide) (fun _ => ?_) (fun h => absurd h (by decide))
      refine lv_aload_nN hx hb dX5_areItemsAlike_90 rfl (lv_at hl 0 rfl) ?_
      refine lv_ifnonnullN hx hb dX5_areItemsAlike_91 ?_
      refine lv_aload_n hx hb dX5_areItemsAlike_94 rfl (lv_at hl 1 rfl) ?_
      refine lv_ifnonnull (tgt := 102) hx hb dX5_areItemsAlike_95 (by decide) ?_
      refine lv_iconst (v := 0) hx hb dX5_areItemsAlike_102 (by decide) ?_
      exact pv_zret F hr hlocks (Or.inl rfl) (by rfl) dX5_areItemsAlike_103
  · have e_v1 : v1 = .ref (gA g (3 * y1 + 2)) := hv1
    subst e_v1
    rcases ho_y2 with rfl | ⟨rfl, hw1_y2, hw2_y2⟩ | ⟨rfl, hw1_y2, hw2_y2⟩
    · have e_v2 : v2 = .null := hv2
      subst e_v2
      refine px_met (by decide) (Nat.le_of_ble_eq_true rfl) ?_
      intro p e s m below meth c F hr hlocks hnm hK hsz hR ls hl
      have hx := F.1
      have hb := F.2.1
      have hl : lv_has ls 5 [(0, .ref (gA g (3 * y1 + 2))), (1, .null), (2, .int 1)] := hl
      refine lv_aload_n hx hb dX5_areItemsAlike_0 rfl (lv_at hl 0 rfl) ?_
      refine c_iVv F hK hR (v := y1) (by omega) (show y1 ≤ rM r by omega) kw_classLink_RX5_99 dX5_areItemsAlike_1 ?_
      refine lv_if_eq (tgt := 55) hx hb dX5_areItemsAlike_4 (by decide) (fun h => absurd h (by decide)) (fun _ => ?_)
      refine lv_aload_n hx hb dX5_areItemsAlike_7 rfl (lv_at hl 0 rfl) ?_
      refine c_cV F hK hR (v := y1) (by omega) (show y1 ≤ rM r by omega) kw_classLink_RX5_99 dX5_areItemsAlike_8 ?_
      refine lv_astore_n (lv' := [(3, .ref (gA g (3 * y1 + 2))), (0, .ref (gA g (3 * y1 + 2))), (1, .null), (2, .int 1)]) hx hb dX5_areItemsAlike_11 rfl hl (by decide) rfl (fun ls hl => ?_)
      refine lv_aload_nN hx hb dX5_areItemsAlike_12 rfl (lv_at hl 2 rfl) ?_
      refine lv_instN hx hb dX5_areItemsAlike_13 ?_
      refine lv_if_eq (tgt := 55) hx hb dX5_areItemsAlike_16 (by decide) (fun _ => ?_) (fun h => absurd h (by decide))
      refine lv_aload_n hx hb dX5_areItemsAlike_55 rfl (lv_at hl 1 rfl) ?_
      refine c_iTv F hK hR (v := y1) (by omega) (show y1 ≤ rM r by omega) kw_classLink_RX5_9 dX5_areItemsAlike_56 ?_
      refine lv_if_eq (tgt := 90) hx hb dX5_areItemsAlike_59 (by decide) (fun _ => ?_) (fun h => absurd h (by decide))
      refine lv_aload_n hx hb dX5_areItemsAlike_90 rfl (lv_at hl 1 rfl) ?_
      refine lv_ifnonnull (tgt := 102) hx hb dX5_areItemsAlike_91 (by decide) ?_
      refine lv_iconst (v := 0) hx hb dX5_areItemsAlike_102 (by decide) ?_
      exact pv_zret F hr hlocks (Or.inl rfl) (by rfl) dX5_areItemsAlike_103
    · have e_v2 : v2 = .ref (gA g (3 * y2 + 2)) := hv2
      subst e_v2
      refine px_met (by decide) (Nat.le_of_ble_eq_true rfl) ?_
      intro p e s m below meth c F hr hlocks hnm hK hsz hR ls hl
      have hx := F.1
      have hb := F.2.1
      have hl : lv_has ls 5 [(0, .ref (gA g (3 * y1 + 2))), (1, .ref (gA g (3 * y2 + 2))), (2, .int 1)] := hl
      refine lv_aload_n hx hb dX5_areItemsAlike_0 rfl (lv_at hl 0 rfl) ?_
      refine c_iVv F hK hR (v := y1) (by omega) (show y1 ≤ rM r by omega) kw_classLink_RX5_99 dX5_areItemsAlike_1 ?_
      refine lv_if_eq (tgt := 55) hx hb dX5_areItemsAlike_4 (by decide) (fun h => absurd h (by decide)) (fun _ => ?_)
      refine lv_aload_n hx hb dX5_areItemsAlike_7 rfl (lv_at hl 0 rfl) ?_
      refine c_cV F hK hR (v := y1) (by omega) (show y1 ≤ rM r by omega) kw_classLink_RX5_99 dX5_areItemsAlike_8 ?_
      refine lv_astore_n (lv' := [(3, .ref (gA g (3 * y1 + 2))), (0, .ref (gA g (3 * y1 + 2))), (1, .ref (gA g (3 * y2 + 2))), (2, .int 1)]) hx hb dX5_areItemsAlike_11 rfl hl (by decide) rfl (fun ls hl => ?_)
      refine lv_aload_n hx hb dX5_areItemsAlike_12 rfl (lv_at hl 2 rfl) ?_
      refine c_iVv F hK hR (v := y2) (by omega) (show y2 ≤ rM r by omega) kw_classLink_RX5_99 dX5_areItemsAlike_13 ?_
      refine lv_if_eq (tgt := 55) hx hb dX5_areItemsAlike_16 (by decide) (fun h => absurd h (by decide)) (fun _ => ?_)
      refine lv_aload_n hx hb dX5_areItemsAlike_19 rfl (lv_at hl 2 rfl) ?_
      refine c_cV F hK hR (v := y2) (by omega) (show y2 ≤ rM r by omega) kw_classLink_RX5_99 dX5_areItemsAlike_20 ?_
      refine lv_astore (lv' := [(4, .ref (gA g (3 * y2 + 2))), (3, .ref (gA g (3 * y1 + 2))), (0, .ref (gA g (3 * y1 + 2))), (1, .ref (gA g (3 * y2 + 2))), (2, .int 1)]) hx hb dX5_areItemsAlike_23 hl (by decide) rfl (fun ls hl => ?_)
      refine lv_aload_n hx hb dX5_areItemsAlike_25 rfl (lv_at hl 1 rfl) ?_
      refine c_gth F hK hR (v := y1) (by omega) (show y1 ≤ rM r by omega) 0 (by decide) rfl kw_fieldLink_RX5_187 dX5_areItemsAlike_26 ?_
      refine lv_aload hx hb dX5_areItemsAlike_29 (lv_at hl 0 rfl) ?_
      refine c_gth F hK hR (v := y2) (by omega) (show y2 ≤ rM r by omega) 0 (by decide) rfl kw_fieldLink_RX5_187 dX5_areItemsAlike_31 ?_
      refine lv_icmp_ne (tgt := 53) hx hb dX5_areItemsAlike_34 (by decide) (fun h_34 => ?_) (fun h_34 => ?_)
      · have h_34 : ¬ (rTN r y1) = (rTN r y2) := h_34
        refine lv_iconst (v := 0) hx hb dX5_areItemsAlike_53 (by decide) ?_
        exact pv_zret F hr hlocks (Or.inl rfl) (by simp [f_ial, b2i, h_34]) dX5_areItemsAlike_54
      · have h_34 : (rTN r y1) = (rTN r y2) := h_34
        refine lv_aload_n hx hb dX5_areItemsAlike_37 rfl (lv_at hl 1 rfl) ?_
        refine c_gth F hK hR (v := y1) (by omega) (show y1 ≤ rM r by omega) 1 (by decide) rfl kw_fieldLink_RX5_101 dX5_areItemsAlike_38 ?_
        refine lv_aload hx hb dX5_areItemsAlike_41 (lv_at hl 0 rfl) ?_
        refine c_gth F hK hR (v := y2) (by omega) (show y2 ≤ rM r by omega) 1 (by decide) rfl kw_fieldLink_RX5_101 dX5_areItemsAlike_43 ?_
        refine lv_icmp_ne (tgt := 53) hx hb dX5_areItemsAlike_46 (by decide) (fun h_46 => ?_) (fun h_46 => ?_)
        · have h_46 : ¬ rIM r y1 = rIM r y2 := b2i_ninj h_46
          refine lv_iconst (v := 0) hx hb dX5_areItemsAlike_53 (by decide) ?_
          exact pv_zret F hr hlocks (Or.inl rfl) (by simp [f_ial, b2i, h_34, h_46]) dX5_areItemsAlike_54
        · have h_46 : rIM r y1 = rIM r y2 := b2i_inj h_46
          refine lv_iconst (v := 1) hx hb dX5_areItemsAlike_49 (by decide) ?_
          refine lv_goto (tgt := 54) hx hb dX5_areItemsAlike_50 (by decide) ?_
          exact pv_zret F hr hlocks (Or.inr rfl) (by simp [f_ial, b2i, h_34, h_46]) dX5_areItemsAlike_54
    · have e_v2 : v2 = .ref (gA g (3 * y2)) := hv2
      subst e_v2
      refine px_met (by decide) (Nat.le_of_ble_eq_true rfl) ?_
      intro p e s m below meth c F hr hlocks hnm hK hsz hR ls hl
      have hx := F.1
      have hb := F.2.1
      have hl : lv_has ls 5 [(0, .ref (gA g (3 * y1 + 2))), (1, .ref (gA g (3 * y2))), (2, .int 1)] := hl
      refine lv_aload_n hx hb dX5_areItemsAlike_0 rfl (lv_at hl 0 rfl) ?_
      refine c_iVv F hK hR (v := y1) (by omega) (show y1 ≤ rM r by omega) kw_classLink_RX5_99 dX5_areItemsAlike_1 ?_
      refine lv_if_eq (tgt := 55) hx hb dX5_areItemsAlike_4 (by decide) (fun h => absurd h (by decide)) (fun _ => ?_)
      refine lv_aload_n hx hb dX5_areItemsAlike_7 rfl (lv_at hl 0 rfl) ?_
      refine c_cV F hK hR (v := y1) (by omega) (show y1 ≤ rM r by omega) kw_classLink_RX5_99 dX5_areItemsAlike_8 ?_
      refine lv_astore_n (lv' := [(3, .ref (gA g (3 * y1 + 2))), (0, .ref (gA g (3 * y1 + 2))), (1, .ref (gA g (3 * y2))), (2, .int 1)]) hx hb dX5_areItemsAlike_11 rfl hl (by decide) rfl (fun ls hl => ?_)
      refine lv_aload_n hx hb dX5_areItemsAlike_12 rfl (lv_at hl 2 rfl) ?_
      refine c_iVt F hK hR (t := y2) (by omega) (show y2 ≤ rT r by omega) kw_classLink_RX5_99 dX5_areItemsAlike_13 ?_
      refine lv_if_eq (tgt := 55) hx hb dX5_areItemsAlike_16 (by decide) (fun _ => ?_) (fun h => absurd h (by decide))
      refine lv_aload_n hx hb dX5_areItemsAlike_55 rfl (lv_at hl 1 rfl) ?_
      refine c_iTv F hK hR (v := y1) (by omega) (show y1 ≤ rM r by omega) kw_classLink_RX5_9 dX5_areItemsAlike_56 ?_
      refine lv_if_eq (tgt := 90) hx hb dX5_areItemsAlike_59 (by decide) (fun _ => ?_) (fun h => absurd h (by decide))
      refine lv_aload_n hx hb dX5_areItemsAlike_90 rfl (lv_at hl 1 rfl) ?_
      refine lv_ifnonnull (tgt := 102) hx hb dX5_areItemsAlike_91 (by decide) ?_
      refine lv_iconst (v := 0) hx hb dX5_areItemsAlike_102 (by decide) ?_
      exact pv_zret F hr hlocks (Or.inl rfl) (by rfl) dX5_areItemsAlike_103
  · have e_v1 : v1 = .ref (gA g (3 * y1)) := hv1
    subst e_v1
    rcases ho_y2 with rfl | ⟨rfl, hw1_y2, hw2_y2⟩ | ⟨rfl, hw1_y2, hw2_y2⟩
    · have e_v2 : v2 = .null := hv2
      subst e_v2
      refine px_met (by decide) (Nat.le_of_ble_eq_true rfl) ?_
      intro p e s m below meth c F hr hlocks hnm hK hsz hR ls hl
      have hx := F.1
      have hb := F.2.1
      have hl : lv_has ls 5 [(0, .ref (gA g (3 * y1))), (1, .null), (2, .int 1)] := hl
      refine lv_aload_n hx hb dX5_areItemsAlike_0 rfl (lv_at hl 0 rfl) ?_
      refine c_iVt F hK hR (t := y1) (by omega) (show y1 ≤ rT r by omega) kw_classLink_RX5_99 dX5_areItemsAlike_1 ?_
      refine lv_if_eq (tgt := 55) hx hb dX5_areItemsAlike_4 (by decide) (fun _ => ?_) (fun h => absurd h (by decide))
      refine lv_aload_n hx hb dX5_areItemsAlike_55 rfl (lv_at hl 0 rfl) ?_
      refine c_iTt F hK hR (t := y1) (by omega) (show y1 ≤ rT r by omega) kw_classLink_RX5_9 dX5_areItemsAlike_56 ?_
      refine lv_if_eq (tgt := 90) hx hb dX5_areItemsAlike_59 (by decide) (fun h => absurd h (by decide)) (fun _ => ?_)
      refine lv_aload_n hx hb dX5_areItemsAlike_62 rfl (lv_at hl 0 rfl) ?_
      refine c_cT F hK hR (t := y1) (by omega) (show y1 ≤ rT r by omega) kw_classLink_RX5_9 dX5_areItemsAlike_63 ?_
      refine lv_astore_n (lv' := [(3, .ref (gA g (3 * y1))), (0, .ref (gA g (3 * y1))), (1, .null), (2, .int 1)]) hx hb dX5_areItemsAlike_66 rfl hl (by decide) rfl (fun ls hl => ?_)
      refine lv_aload_nN hx hb dX5_areItemsAlike_67 rfl (lv_at hl 2 rfl) ?_
      refine lv_instN hx hb dX5_areItemsAlike_68 ?_
      refine lv_if_eq (tgt := 90) hx hb dX5_areItemsAlike_71 (by decide) (fun _ => ?_) (fun h => absurd h (by decide))
      refine lv_aload_n hx hb dX5_areItemsAlike_90 rfl (lv_at hl 1 rfl) ?_
      refine lv_ifnonnull (tgt := 102) hx hb dX5_areItemsAlike_91 (by decide) ?_
      refine lv_iconst (v := 0) hx hb dX5_areItemsAlike_102 (by decide) ?_
      exact pv_zret F hr hlocks (Or.inl rfl) (by rfl) dX5_areItemsAlike_103
    · have e_v2 : v2 = .ref (gA g (3 * y2 + 2)) := hv2
      subst e_v2
      refine px_met (by decide) (Nat.le_of_ble_eq_true rfl) ?_
      intro p e s m below meth c F hr hlocks hnm hK hsz hR ls hl
      have hx := F.1
      have hb := F.2.1
      have hl : lv_has ls 5 [(0, .ref (gA g (3 * y1))), (1, .ref (gA g (3 * y2 + 2))), (2, .int 1)] := hl
      refine lv_aload_n hx hb dX5_areItemsAlike_0 rfl (lv_at hl 0 rfl) ?_
      refine c_iVt F hK hR (t := y1) (by omega) (show y1 ≤ rT r by omega) kw_classLink_RX5_99 dX5_areItemsAlike_1 ?_
      refine lv_if_eq (tgt := 55) hx hb dX5_areItemsAlike_4 (by decide) (fun _ => ?_) (fun h => absurd h (by decide))
      refine lv_aload_n hx hb dX5_areItemsAlike_55 rfl (lv_at hl 0 rfl) ?_
      refine c_iTt F hK hR (t := y1) (by omega) (show y1 ≤ rT r by omega) kw_classLink_RX5_9 dX5_areItemsAlike_56 ?_
      refine lv_if_eq (tgt := 90) hx hb dX5_areItemsAlike_59 (by decide) (fun h => absurd h (by decide)) (fun _ => ?_)
      refine lv_aload_n hx hb dX5_areItemsAlike_62 rfl (lv_at hl 0 rfl) ?_
      refine c_cT F hK hR (t := y1) (by omega) (show y1 ≤ rT r by omega) kw_classLink_RX5_9 dX5_areItemsAlike_63 ?_
      refine lv_astore_n (lv' := [(3, .ref (gA g (3 * y1))), (0, .ref (gA g (3 * y1))), (1, .ref (gA g (3 * y2 + 2))), (2, .int 1)]) hx hb dX5_areItemsAlike_66 rfl hl (by decide) rfl (fun ls hl => ?_)
      refine lv_aload_n hx hb dX5_areItemsAlike_67 rfl (lv_at hl 2 rfl) ?_
      refine c_iTv F hK hR (v := y2) (by omega) (show y2 ≤ rM r by omega) kw_classLink_RX5_9 dX5_areItemsAlike_68 ?_
      refine lv_if_eq (tgt := 90) hx hb dX5_areItemsAlike_71 (by decide) (fun _ => ?_) (fun h => absurd h (by decide))
      refine lv_aload_n hx hb dX5_areItemsAlike_90 rfl (lv_at hl 1 rfl) ?_
      refine lv_ifnonnull (tgt := 102) hx hb dX5_areItemsAlike_91 (by decide) ?_
      refine lv_iconst (v := 0) hx hb dX5_areItemsAlike_102 (by decide) ?_
      exact pv_zret F hr hlocks (Or.inl rfl) (by rfl) dX5_areItemsAlike_103
    · have e_v2 : v2 = .ref (gA g (3 * y2)) := hv2
      subst e_v2
      refine px_met (by decide) (Nat.le_of_ble_eq_true rfl) ?_
      intro p e s m below meth c F hr hlocks hnm hK hsz hR ls hl
      have hx := F.1
      have hb := F.2.1
      have hl : lv_has ls 5 [(0, .ref (gA g (3 * y1))), (1, .ref (gA g (3 * y2))), (2, .int 1)] := hl
      refine lv_aload_n hx hb dX5_areItemsAlike_0 rfl (lv_at hl 0 rfl) ?_
      refine c_iVt F hK hR (t := y1) (by omega) (show y1 ≤ rT r by omega) kw_classLink_RX5_99 dX5_areItemsAlike_1 ?_
      refine lv_if_eq (tgt := 55) hx hb dX5_areItemsAlike_4 (by decide) (fun _ => ?_) (fun h => absurd h (by decide))
      refine lv_aload_n hx hb dX5_areItemsAlike_55 rfl (lv_at hl 0 rfl) ?_
      refine c_iTt F hK hR (t := y1) (by omega) (show y1 ≤ rT r by omega) kw_classLink_RX5_9 dX5_areItemsAlike_56 ?_
      refine lv_if_eq (tgt := 90) hx hb dX5_areItemsAlike_59 (by decide) (fun h => absurd h (by decide)) (fun _ => ?_)
      refine lv_aload_n hx hb dX5_areItemsAlike_62 rfl (lv_at hl 0 rfl) ?_
      refine c_cT F hK hR (t := y1) (by omega) (show y1 ≤ rT r by omega) kw_classLink_RX5_9 dX5_areItemsAlike_63 ?_
      refine lv_astore_n (lv' := [(3, .ref (gA g (3 * y1))), (0, .ref (gA g (3 * y1))), (1, .ref (gA g (3 * y2))), (2, .int 1)]) hx hb dX5_areItemsAlike_66 rfl hl (by decide) rfl (fun ls hl => ?_)
      refine lv_aload_n hx hb dX5_areItemsAlike_67 rfl (lv_at hl 2 rfl) ?_
      refine c_iTt F hK hR (t := y2) (by omega) (show y2 ≤ rT r by omega) kw_classLink_RX5_9 dX5_areItemsAlike_68 ?_
      refine lv_if_eq (tgt := 90) hx hb dX5_areItemsAlike_71 (by decide) (fun h => absurd h (by decide)) (fun _ => ?_)
      refine lv_aload_n hx hb dX5_areItemsAlike_74 rfl (lv_at hl 2 rfl) ?_
      refine c_cT F hK hR (t := y2) (by omega) (show y2 ≤ rT r by omega) kw_classLink_RX5_9 dX5_areItemsAlike_75 ?_
      refine lv_astore (lv' := [(4, .ref (gA g (3 * y2))), (3, .ref (gA g (3 * y1))), (0, .ref (gA g (3 * y1))), (1, .ref (gA g (3 * y2))), (2, .int 1)]) hx hb dX5_areItemsAlike_78 hl (by decide) rfl (fun ls hl => ?_)
      refine lv_aload_n hx hb dX5_areItemsAlike_80 rfl (lv_at hl 1 rfl) ?_
      refine lv_aload hx hb dX5_areItemsAlike_81 (lv_at hl 0 rfl) ?_
      refine lv_iload_n hx hb dX5_areItemsAlike_83 rfl (lv_at hl 4 rfl) ?_
      refine lv_iconst (v := 1) hx hb dX5_areItemsAlike_84 (by decide) ?_
      refine lv_isub hx hb dX5_areItemsAlike_85 ?_
      refine px_topi (y := 0) (by decide) ?_
      refine px_goV (st1 := [.int (b2i (f_al r 0 y1 y2))]) (px_callS F hK (c_X5_areAlike0 l D cy A r g _ y1 (.ref (gA g (3 * y1))) y2 (.ref (gA g (3 * y2))) (col_t (by omega)) (by omega) (col_t (by omega)) (by omega) hV hTb hMb) kc_X5_areAlike kw_methodLink_RX5_130 rfl hR rfl ⟨rfl, rfl⟩ ⟨Nat.le_of_ble_eq_true rfl, Nat.le_of_ble_eq_true rfl⟩ hl.1 rfl (Nat.le_of_ble_eq_true rfl) dX5_areItemsAlike_86 ⟨Nat.zero_le _, Nat.zero_le _⟩) rfl ?_
      exact pv_zret F hr hlocks (b2i_01 _) (by rfl) dX5_areItemsAlike_89
set_option maxHeartbeats 400000 in
set_option maxRecDepth 100000 in
theorem c_X5_areAlike1 (l : Launch) (D : va_G) (cy : Nat → ClassId) (A : Nat → Prop) (r : RS) (g : CG) (sz : Nat) (a : Nat) (va : Value) (b : Nat) (vb : Value)  (hva : va = va_rf (c_col (gA g) a)) (ht_a : a ≤ rT r) (hvb : vb = va_rf (c_col (gA g) b)) (ht_b : b ≤ rT r) (hV : VR r) (hTb : rT r < 100000) (hMb : rM r < 100000) : Met l yX5_areAlike (px_w yX5_areAlike cX5_areAlike 5 (some .boolean)) (rmd 3 0 0) (px_P D cy [va, vb, .int 1] sz (CR D cy A r g)) (px_V (some (.int (b2i (f_al r 1 a b))))) 0 0 (fun _ => False) := by
  by_cases h0_a : a = 0
  · have e_va : va = .null := (hva.trans (col_0 h0_a).symm)
    subst e_va
    by_cases h0_b : b = 0
    · have e_vb : vb = .null := (hvb.trans (col_0 h0_b).symm)
      subst e_vb
      refine px_met (by decide) (Nat.le_of_ble_eq_true rfl) ?_
      intro p e s m below meth c F hr hlocks hnm hK hsz hR ls hl
      have hx := F.1
      have hb := F.2.1
      have hl : lv_has ls 5 [(0, .null), (1, .null), (2, .int 1)] := hl
      refine lv_aload_nN hx hb dX5_areAlike_0 rfl (lv_at hl 0 rfl) ?_
      refine lv_aload_nN hx hb dX5_areAlike_1 rfl (lv_at hl 1 rfl) ?_
      refine lv_acmp_ne (rx := none) (ry := none) (tgt := 7) hx hb dX5_areAlike_2 (by decide) (fun h => absurd rfl h) (fun _ => ?_)
      refine lv_iconst (v := 1) hx hb dX5_areAlike_5 (by decide) ?_
      exact pv_zret F hr hlocks (Or.inr rfl) (by rw [h0_a, h0_b, al_rr]; rfl) dX5_areAlike_6
    · have e_vb : vb = .ref (gA g (3 * b)) := (hvb.trans (col_t h0_b).symm)
      subst e_vb
      refine px_met (by decide) (Nat.le_of_ble_eq_true rfl) ?_
      intro p e s m below meth c F hr hlocks hnm hK hsz hR ls hl
      have hx := F.1
      have hb := F.2.1
      have hl : lv_has ls 5 [(0, .null), (1, .ref (gA g (3 * b))), (2, .int 1)] := hl
      refine lv_aload_nN hx hb dX5_areAlike_0 rfl (lv_at hl 0 rfl) ?_
      refine lv_aload_n hx hb dX5_areAlike_1 rfl (lv_at hl 1 rfl) ?_
      refine lv_acmp_ne (rx := none) (ry := some (gA g (3 * b))) (tgt := 7) hx hb dX5_areAlike_2 (by decide) (fun _ => ?_) (fun h => by cases h)
      refine lv_aload_nN hx hb dX5_areAlike_7 rfl (lv_at hl 0 rfl) ?_
      refine lv_ifnullN (tgt := 19) hx hb dX5_areAlike_8 (by decide) ?_
      refine lv_iconst (v := 0) hx hb dX5_areAlike_19 (by decide) ?_
      exact pv_zret F hr hlocks (Or.inl rfl) (by rw [h0_a, al_0r 1 h0_b]; rfl) dX5_areAlike_20
  · have e_va : va = .ref (gA g (3 * a)) := (hva.trans (col_t h0_a).symm)
    subst e_va
    by_cases h0_b : b = 0
    · have e_vb : vb = .null := (hvb.trans (col_0 h0_b).symm)
      subst e_vb
      refine px_met (by decide) (Nat.le_of_ble_eq_true rfl) ?_
      intro p e s m below meth c F hr hlocks hnm hK hsz hR ls hl
      have hx := F.1
      have hb := F.2.1
      have hl : lv_has ls 5 [(0, .ref (gA g (3 * a))), (1, .null), (2, .int 1)] := hl
      refine lv_aload_n hx hb dX5_areAlike_0 rfl (lv_at hl 0 rfl) ?_
      refine lv_aload_nN hx hb dX5_areAlike_1 rfl (lv_at hl 1 rfl) ?_
      refine lv_acmp_ne (rx := some (gA g (3 * a))) (ry := none) (tgt := 7) hx hb dX5_areAlike_2 (by decide) (fun _ => ?_) (fun h => by cases h)
      refine lv_aload_n hx hb dX5_areAlike_7 rfl (lv_at hl 0 rfl) ?_
      refine lv_ifnull hx hb dX5_areAlike_8 ?_
      refine lv_aload_nN hx hb dX5_areAlike_11 rfl (lv_at hl 1 rfl) ?_
      refine lv_ifnullN (tgt := 19) hx hb dX5_areAlike_12 (by decide) ?_
      refine lv_iconst (v := 0) hx hb dX5_areAlike_19 (by decide) ?_
      exact pv_zret F hr hlocks (Or.inl rfl) (by rw [h0_b, al_r0 1 h0_a]; rfl) dX5_areAlike_20
    · have e_vb : vb = .ref (gA g (3 * b)) := (hvb.trans (col_t h0_b).symm)
      subst e_vb
      refine px_met (by decide) (Nat.le_of_ble_eq_true rfl) ?_
      intro p e s m below meth c F hr hlocks hnm hK hsz hR ls hl
      have hx := F.1
      have hb := F.2.1
      have hl : lv_has ls 5 [(0, .ref (gA g (3 * a))), (1, .ref (gA g (3 * b))), (2, .int 1)] := hl
      refine lv_aload_n hx hb dX5_areAlike_0 rfl (lv_at hl 0 rfl) ?_
      refine lv_aload_n hx hb dX5_areAlike_1 rfl (lv_at hl 1 rfl) ?_
      refine lv_acmp_ne (rx := some (gA g (3 * a))) (ry := some (gA g (3 * b))) (tgt := 7) hx hb dX5_areAlike_2 (by decide) (fun h_2 => ?_) (fun h_2 => ?_)
      · have h_2 : ¬ a = b := (fun q9 => h_2 (by rw [q9]))
        refine lv_aload_n hx hb dX5_areAlike_7 rfl (lv_at hl 0 rfl) ?_
        refine lv_ifnull hx hb dX5_areAlike_8 ?_
        refine lv_aload_n hx hb dX5_areAlike_11 rfl (lv_at hl 1 rfl) ?_
        refine lv_ifnull hx hb dX5_areAlike_12 ?_
        refine lv_iload_n hx hb dX5_areAlike_15 rfl (lv_at hl 2 rfl) ?_
        refine lv_if_ne (tgt := 21) hx hb dX5_areAlike_16 (by decide) (fun _ => ?_) (fun h => absurd h (by decide))
        refine lv_aload_n hx hb dX5_areAlike_21 rfl (lv_at hl 0 rfl) ?_
        have hva := hV.2.1 a h0_a ht_a
        have hvb := hV.2.1 b h0_b ht_b
        have hma := hva.2.1
        have hmb := hvb.2.1
        have hka := hva.1
        have hkb := hvb.1
        refine c_gt F hK hR (t := a) (by omega) (show a ≤ rT r by omega) 0 (by decide) rfl kw_fieldLink_RX5_57 (fun _ h => h) dX5_areAlike_22 ?_
        refine lv_aload_n hx hb dX5_areAlike_25 rfl (lv_at hl 1 rfl) ?_
        refine c_gt F hK hR (t := b) (by omega) (show b ≤ rT r by omega) 0 (by decide) rfl kw_fieldLink_RX5_57 (fun _ h => h) dX5_areAlike_26 ?_
        refine lv_icmp_ne (tgt := 43) hx hb dX5_areAlike_29 (by decide) (fun h_29 => ?_) (fun h_29 => ?_)
        · have h_29 : ¬ (rK r a) = (rK r b) := nIne (show ¬ nI (rK r a) = nI (rK r b) from h_29)
          refine lv_iconst (v := 0) hx hb dX5_areAlike_43 (by decide) ?_
          exact pv_zret F hr hlocks (Or.inl rfl) (by simp [f_al, b2i, f_shaped, h_2, h0_a, h0_b, h_29]) dX5_areAlike_44
        · have h_29 : (rK r a) = (rK r b) := nIeq (show nI (rK r a) = nI (rK r b) from h_29) (by omega) (by omega)
          refine lv_aload_n hx hb dX5_areAlike_32 rfl (lv_at hl 0 rfl) ?_
          refine c_cnt F hK hR (t := a) (by omega) (show a ≤ rT r by omega) ⟨Nat.le_of_ble_eq_true rfl, Nat.le_of_ble_eq_true rfl⟩ hl.1 (Nat.le_of_ble_eq_true rfl) ⟨Nat.zero_le _, Nat.zero_le _⟩ dX5_areAlike_33 ?_
          refine lv_aload_n hx hb dX5_areAlike_36 rfl (lv_at hl 1 rfl) ?_
          refine c_cnt F hK hR (t := b) (by omega) (show b ≤ rT r by omega) ⟨Nat.le_of_ble_eq_true rfl, Nat.le_of_ble_eq_true rfl⟩ hl.1 (Nat.le_of_ble_eq_true rfl) ⟨Nat.zero_le _, Nat.zero_le _⟩ dX5_areAlike_37 ?_
          refine lv_icmp_eq (tgt := 45) hx hb dX5_areAlike_40 (by decide) (fun h_40 => ?_) (fun h_40 => ?_)
          · have h_40 : (rMn r a) = (rMn r b) := nIeq (show nI (rMn r a) = nI (rMn r b) from h_40) (by omega) (by omega)
            refine lv_aload_n hx hb dX5_areAlike_45 rfl (lv_at hl 0 rfl) ?_
            refine c_iP F hK hR (t := a) (by omega) (show a ≤ rT r by omega) kw_classLink_RX5_125 dX5_areAlike_46 ?_
            refine x_ifeq_b (tgt := 77) hx hb dX5_areAlike_49 (by decide) (fun h_49 => ?_) (fun h_49 => ?_)
            · have h_49 : ¬ (rK r a < 8) := of_decide_eq_false h_49
              refine lv_iconst (v := 0) hx hb dX5_areAlike_77 (by decide) ?_
              refine lv_istore_n (lv' := [(3, .int 0), (0, .ref (gA g (3 * a))), (1, .ref (gA g (3 * b))), (2, .int 1)]) hx hb dX5_areAlike_78 rfl hl (by decide) rfl (fun ls hl => ?_)
              have loop : ∀ (d k : Nat), k + d = rMn r a → f_all (f_alp (f_al r 0) r a b) k = true → ∀ (ls : Array Slot), lv_has ls 5 [(3, .int (nI k)), (0, .ref (gA g (3 * a))), (1, .ref (gA g (3 * b))), (2, .int 1)] → W p l e (rmd 3 0 0) s m ([.ref (gA g (3 * a)), .ref (gA g (3 * b)), .int 1] : List Value).toArray below meth c s.heap [] 0 0 (MQ below (px_V (some (.int (b2i (f_al r 1 a b))))) ([.ref (gA g (3 * a)), .ref (gA g (3 * b)), .int 1] : List Value).toArray s 0 0 (fun _ => False)) (F0 m 79 ls []) := by
                intro d
                induction d with
                | zero =>
                  intro k hk hall ls hl
                  refine lv_iload_n hx hb dX5_areAlike_79 rfl (lv_at hl 0 rfl) ?_
                  refine lv_aload_n hx hb dX5_areAlike_80 rfl (lv_at hl 1 rfl) ?_
                  refine c_cnt F hK hR (t := a) (by omega) (show a ≤ rT r by omega) ⟨Nat.le_of_ble_eq_true rfl, Nat.le_of_ble_eq_true rfl⟩ hl.1 (Nat.le_of_ble_eq_true rfl) ⟨Nat.zero_le _, Nat.zero_le _⟩ dX5_areAlike_81 ?_
                  refine lv_icmp_ge (tgt := 112) hx hb dX5_areAlike_84 (by decide) (fun h_84 => ?_) (fun h_84 => by exfalso; have h_84 : k < (rMn r a) := nInle (show ¬ nI (rMn r a) ≤ nI k from h_84) (by omega) (by omega); omega)
                  have h_84 : (rMn r a) ≤ k := nIle (show nI (rMn r a) ≤ nI k from h_84) (by omega) (by omega)
                  refine lv_iconst (v := 1) hx hb dX5_areAlike_112 (by decide) ?_
                  exact pv_zret F hr hlocks (Or.inr rfl) (by have hsh : f_shaped r a b = true := (by simp [f_shaped, h0_a, h0_b, h_29, h_40]); show _ = some (Value.int (b2i (decide (a = b) || (f_shaped r a b && f_all (f_alp (f_al r 0) r a b) (rMn r a))))); rw [hsh, decide_eq_false h_2, Bool.false_or, Bool.true_and]; rw [← show k = rMn r a by omega, hall]; rfl) dX5_areAlike_113
                | succ d ih_loop =>
                  intro k hk hall ls hl
                  refine lv_iload_n hx hb dX5_areAlike_79 rfl (lv_at hl 0 rfl) ?_
                  refine lv_aload_n hx hb dX5_areAlike_80 rfl (lv_at hl 1 rfl) ?_
                  refine c_cnt F hK hR (t := a) (by omega) (show a ≤ rT r by omega) ⟨Nat.le_of_ble_eq_true rfl, Nat.le_of_ble_eq_true rfl⟩ hl.1 (Nat.le_of_ble_eq_true rfl) ⟨Nat.zero_le _, Nat.zero_le _⟩ dX5_areAlike_81 ?_
                  refine lv_icmp_ge (tgt := 112) hx hb dX5_areAlike_84 (by decide) (fun h_84 => by exfalso; have h_84 : (rMn r a) ≤ k := nIle (show nI (rMn r a) ≤ nI k from h_84) (by omega) (by omega); omega) (fun h_84 => ?_)
                  have h_84 : k < (rMn r a) := nInle (show ¬ nI (rMn r a) ≤ nI k from h_84) (by omega) (by omega)
                  refine lv_aload_n hx hb dX5_areAlike_87 rfl (lv_at hl 1 rfl) ?_
                  refine lv_iload_n hx hb dX5_areAlike_88 rfl (lv_at hl 0 rfl) ?_
                  obtain ⟨ty1, y1, hi1, ho1, hc1⟩ := item_is (gA g) hV h0_a ht_a (show 8 ≤ rK r a by omega) (show k < rMn r a by omega)
                  refine px_goV (st1 := [va_rf (c_item (gA g) r a (nI k))]) (px_callS F hK (c_X5_itemAt l D cy A r g _ a (.ref (gA g (3 * a))) (nI k) (col_t (by omega)) (by omega) (by omega)) kc_X5_itemAt kw_methodLink_RX5_95 rfl hR rfl ⟨rfl, rfl⟩ ⟨Nat.le_of_ble_eq_true rfl, Nat.le_of_ble_eq_true rfl⟩ hl.1 rfl (Nat.le_of_ble_eq_true rfl) dX5_areAlike_89 ⟨Nat.zero_le _, Nat.zero_le _⟩) rfl ?_
                  refine lv_aload_n hx hb dX5_areAlike_92 rfl (lv_at hl 2 rfl) ?_
                  refine lv_iload_n hx hb dX5_areAlike_93 rfl (lv_at hl 0 rfl) ?_
                  obtain ⟨ty2, y2, hi2, ho2, hc2⟩ := item_is (gA g) hV h0_b ht_b (show 8 ≤ rK r b by omega) (show k < rMn r b by omega)
                  refine px_goV (st1 := [va_rf (c_item (gA g) r b (nI k)), va_rf (c_item (gA g) r a (nI k))]) (px_callS F hK (c_X5_itemAt l D cy A r g _ b (.ref (gA g (3 * b))) (nI k) (col_t (by omega)) (by omega) (by omega)) kc_X5_itemAt kw_methodLink_RX5_95 rfl hR rfl ⟨rfl, rfl⟩ ⟨Nat.le_of_ble_eq_true rfl, Nat.le_of_ble_eq_true rfl⟩ hl.1 rfl (cat1) dX5_areAlike_94 ⟨Nat.zero_le _, Nat.zero_le _⟩) rfl ?_
                  refine lv_iload_n hx hb dX5_areAlike_97 rfl (lv_at hl 3 rfl) ?_
                  refine px_goV (st1 := [.int (b2i (f_ial (f_al r 0) r ty1 y1 ty2 y2))]) (px_callS F hK (c_X5_areItemsAlike1 l D cy A r g _ ty1 y1 (va_rf (c_item (gA g) r a (nI k))) ty2 y2 (va_rf (c_item (gA g) r b (nI k))) (by rw [hc1]) ho1 (by rw [hc2]) ho2 hV hTb hMb) kc_X5_areItemsAlike kw_methodLink_RX5_237 rfl hR rfl ⟨rfl, rfl⟩ ⟨Nat.le_of_ble_eq_true rfl, Nat.le_of_ble_eq_true rfl⟩ hl.1 rfl (Nat.le_of_ble_eq_true rfl) dX5_areAlike_98 ⟨Nat.zero_le _, Nat.zero_le _⟩) rfl ?_
                  refine px_topi (y := b2i ((f_alp (f_al r 0) r a b) k)) (by rw [ial_alp 0 hTb hMb (show 8 ≤ rK r a by omega) h_29 hi1 hi2]) ?_
                  refine x_ifne_b (tgt := 106) hx hb dX5_areAlike_101 (by decide) (fun h_101 => ?_) (fun h_101 => ?_)
                  · refine lv_iinc (v := nI (k + 1)) (lv' := [(3, .int (nI (k + 1))), (0, .ref (gA g (3 * a))), (1, .ref (gA g (3 * b))), (2, .int 1)]) hx hb dX5_areAlike_106 hl (k := 0) rfl (by show nI k + 1 = nI (k + 1); exact nI_1 _) (by decide) rfl (fun ls hl => ?_)
                    refine lv_goto (tgt := 79) hx hb dX5_areAlike_109 (by decide) ?_
                    exact ih_loop (k + 1) (by omega) (by simp only [f_all, hall, Bool.true_and]; exact h_101) _ (lv_sub hl [0, 1, 2, 3] rfl)
                  · refine lv_iconst (v := 0) hx hb dX5_areAlike_104 (by decide) ?_
                    exact pv_zret F hr hlocks (Or.inl rfl) (by have hsh : f_shaped r a b = true := (by simp [f_shaped, h0_a, h0_b, h_29, h_40]); show _ = some (Value.int (b2i (decide (a = b) || (f_shaped r a b && f_all (f_alp (f_al r 0) r a b) (rMn r a))))); rw [hsh, decide_eq_false h_2, Bool.false_or, Bool.true_and]; rw [f_all_t (n := rMn r a) hall h_101 (by omega)]; rfl) dX5_areAlike_105
              exact loop (rMn r a) 0 (by omega) rfl _ (lv_sub hl [0, 1, 2, 3] rfl)
            · have h_49 : rK r a < 8 := of_decide_eq_true h_49
              refine lv_aload_n hx hb dX5_areAlike_52 rfl (lv_at hl 0 rfl) ?_
              refine c_cP F hK hR (t := a) (by omega) (show a ≤ rT r by omega) (show rK r a < 8 by omega) kw_classLink_RX5_125 dX5_areAlike_53 ?_
              refine lv_astore_n (lv' := [(3, .ref (gA g (3 * a))), (0, .ref (gA g (3 * a))), (1, .ref (gA g (3 * b))), (2, .int 1)]) hx hb dX5_areAlike_56 rfl hl (by decide) rfl (fun ls hl => ?_)
              refine lv_aload_n hx hb dX5_areAlike_57 rfl (lv_at hl 2 rfl) ?_
              refine c_iP F hK hR (t := b) (by omega) (show b ≤ rT r by omega) kw_classLink_RX5_125 dX5_areAlike_58 ?_
              refine x_ifeq_b (tgt := 77) hx hb dX5_areAlike_61 (by decide) (fun h_61 => by exfalso; have h_61 : ¬ (rK r b < 8) := of_decide_eq_false h_61; omega) (fun h_61 => ?_)
              have h_61 : rK r b < 8 := of_decide_eq_true h_61
              refine lv_aload_n hx hb dX5_areAlike_64 rfl (lv_at hl 2 rfl) ?_
              refine c_cP F hK hR (t := b) (by omega) (show b ≤ rT r by omega) (show rK r b < 8 by omega) kw_classLink_RX5_125 dX5_areAlike_65 ?_
              refine lv_astore (lv' := [(4, .ref (gA g (3 * b))), (3, .ref (gA g (3 * a))), (0, .ref (gA g (3 * a))), (1, .ref (gA g (3 * b))), (2, .int 1)]) hx hb dX5_areAlike_68 hl (by decide) rfl (fun ls hl => ?_)
              refine lv_aload_n hx hb dX5_areAlike_70 rfl (lv_at hl 1 rfl) ?_
              refine lv_aload hx hb dX5_areAlike_71 (lv_at hl 0 rfl) ?_
              refine px_goV (st1 := [.int (b2i (f_all (fun k => decide (f_at r a k = f_at r b k)) (rMn r a)))]) (px_callS F hK (c_X5_haveSameBits l D cy A r g _ a b h0_a ht_a h0_b ht_b (by omega) (by omega) (by omega) (by omega)) kc_X5_haveSameBits kw_methodLink_RX5_233 rfl hR rfl ⟨rfl, rfl⟩ ⟨Nat.le_of_ble_eq_true rfl, Nat.le_of_ble_eq_true rfl⟩ hl.1 rfl (Nat.le_of_ble_eq_true rfl) dX5_areAlike_73 ⟨Nat.zero_le _, Nat.zero_le _⟩) rfl ?_
              exact pv_zret F hr hlocks (b2i_01 _) (by have hsh : f_shaped r a b = true := (by simp [f_shaped, h0_a, h0_b, h_29, h_40]); show _ = some (Value.int (b2i (decide (a = b) || (f_shaped r a b && f_all (f_alp (f_al r 0) r a b) (rMn r a))))); rw [hsh, decide_eq_false h_2, Bool.false_or, Bool.true_and]; rw [f_all_c (q := (f_alp (f_al r 0) r a b)) (q' := fun k => decide (f_at r a k = f_at r b k)) _ (fun k _ => by unfold f_alp; rw [if_pos h_49])]) dX5_areAlike_76
          · have h_40 : ¬ (rMn r a) = (rMn r b) := nIne (show ¬ nI (rMn r a) = nI (rMn r b) from h_40)
            refine lv_iconst (v := 0) hx hb dX5_areAlike_43 (by decide) ?_
            exact pv_zret F hr hlocks (Or.inl rfl) (by simp [f_al, b2i, f_shaped, h_2, h0_a, h0_b, h_29, h_40]) dX5_areAlike_44
      · have h_2 : a = b := (by have q9 := hR.inj (dm_t (show a ≤ rT r by omega)) (dm_t (show b ≤ rT r by omega)) (Option.some.inj h_2); omega)
        refine lv_iconst (v := 1) hx hb dX5_areAlike_5 (by decide) ?_
        exact pv_zret F hr hlocks (Or.inr rfl) (by rw [h_2, al_rr]; rfl) dX5_areAlike_6
