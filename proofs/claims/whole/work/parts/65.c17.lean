/-! the class: singleItems -/
theorem sp_n {r : RS} {t k : Nat} (hV : VR r) (h0 : t ≠ 0) (ht : t ≤ rT r) (hk : k < rMn r t) (L : Nat) (hw : f_at r t k = 0) : f_sp (f_si r L) r t k = f_si r L (f_rowAt r t (nI k)) := by
  unfold f_sp
  by_cases h : rK r t < 10
  · rw [if_pos h, if_pos hw, rowAt_0 h, si_0]
  · rw [if_neg h, rowAt_in hV h0 ht hk (by omega)]
set_option maxHeartbeats 400000 in
set_option maxRecDepth 100000 in
theorem c_X5_singleItems0 (l : Launch) (D : va_G) (cy : Nat → ClassId) (A : Nat → Prop) (r : RS) (g : CG) (sz : Nat) (t : Nat) (vt : Value)  (hvt : vt = va_rf (c_col (gA g) t)) (ht_t : t ≤ rT r) (hV : VR r) (hM0 : rMn r 0 ≤ 30) (hTb : rT r < 100000) (hMb : rM r < 100000) : Met l yX5_singleItems (px_w yX5_singleItems cX5_singleItems 5 (some .int)) (rmd 3 0 0) (px_P D cy [vt, .int 0] sz (CR D cy A r g)) (px_V (some (.int (nI (f_si r 0 t))))) 0 0 (fun _ => False) := by
  by_cases h0_t : t = 0
  · have e_vt : vt = .null := (hvt.trans (col_0 h0_t).symm)
    subst e_vt
    refine px_met (by decide) (Nat.le_of_ble_eq_true rfl) ?_
    intro p e s m below meth c F hr hlocks hnm hK hsz hR ls hl
    have hx := F.1
    have hb := F.2.1
    have hl : lv_has ls 5 [(0, .null), (1, .int 0)] := hl
    refine lv_aload_nN hx hb dX5_singleItems_0 rfl (lv_at hl 0 rfl) ?_
    refine lv_instN hx hb dX5_singleItems_1 ?_
    refine lv_if_eq (tgt := 18) hx hb dX5_singleItems_4 (by decide) (fun _ => ?_) (fun h => absurd h (by decide))
    refine lv_iconst (v := 0) hx hb dX5_singleItems_18 (by decide) ?_
    refine lv_istore_n (lv' := [(2, .int 0), (0, .null), (1, .int 0)]) hx hb dX5_singleItems_19 rfl hl (by decide) rfl (fun ls hl => ?_)
    refine lv_aload_nN hx hb dX5_singleItems_20 rfl (lv_at hl 1 rfl) ?_
    refine lv_instN hx hb dX5_singleItems_21 ?_
    refine lv_if_eq (tgt := 87) hx hb dX5_singleItems_24 (by decide) (fun _ => ?_) (fun h => absurd h (by decide))
    refine lv_iload_n hx hb dX5_singleItems_87 rfl (lv_at hl 0 rfl) ?_
    exact pv_iret F hr hlocks (by rw [h0_t, si_0]; rfl) dX5_singleItems_88
  · have e_vt : vt = .ref (gA g (3 * t)) := (hvt.trans (col_t h0_t).symm)
    subst e_vt
    refine px_met (by decide) (Nat.le_of_ble_eq_true rfl) ?_
    intro p e s m below meth c F hr hlocks hnm hK hsz hR ls hl
    have hx := F.1
    have hb := F.2.1
    have hl : lv_has ls 5 [(0, .ref (gA g (3 * t))), (1, .int 0)] := hl
    refine lv_aload_n hx hb dX5_singleItems_0 rfl (lv_at hl 0 rfl) ?_
    refine c_iP F hK hR (t := t) (by omega) (show t ≤ rT r by omega) kw_classLink_RX5_125 dX5_singleItems_1 ?_
    refine x_ifeq_b (tgt := 18) hx hb dX5_singleItems_4 (by decide) (fun h_4 => ?_) (fun h_4 => ?_)
    · have h_4 : ¬ (rK r t < 8) := of_decide_eq_false h_4
      refine lv_iconst (v := 0) hx hb dX5_singleItems_18 (by decide) ?_
      refine lv_istore_n (lv' := [(2, .int 0), (0, .ref (gA g (3 * t))), (1, .int 0)]) hx hb dX5_singleItems_19 rfl hl (by decide) rfl (fun ls hl => ?_)
      refine lv_aload_n hx hb dX5_singleItems_20 rfl (lv_at hl 1 rfl) ?_
      refine c_iH F hK hR (t := t) (by omega) (show t ≤ rT r by omega) kw_classLink_RX5_158 dX5_singleItems_21 ?_
      refine x_ifeq_b (tgt := 87) hx hb dX5_singleItems_24 (by decide) (fun h_24 => by exfalso; have h_24 : ¬ (8 ≤ rK r t) := of_decide_eq_false h_24; omega) (fun h_24 => ?_)
      have h_24 : 8 ≤ rK r t := of_decide_eq_true h_24
      refine lv_aload_n hx hb dX5_singleItems_27 rfl (lv_at hl 1 rfl) ?_
      refine c_cH F hK hR (t := t) (by omega) (show t ≤ rT r by omega) (show 8 ≤ rK r t by omega) kw_classLink_RX5_158 dX5_singleItems_28 ?_
      refine lv_astore_n (lv' := [(3, .ref (gA g (3 * t))), (2, .int 0), (0, .ref (gA g (3 * t))), (1, .int 0)]) hx hb dX5_singleItems_31 rfl hl (by decide) rfl (fun ls hl => ?_)
      refine lv_iload_n hx hb dX5_singleItems_32 rfl (lv_at hl 3 rfl) ?_
      refine lv_if_le (tgt := 87) hx hb dX5_singleItems_33 (by decide) (fun _ => ?_) (fun h => absurd h (by decide))
      refine lv_iload_n hx hb dX5_singleItems_87 rfl (lv_at hl 1 rfl) ?_
      exact pv_iret F hr hlocks (by show _ = some (Value.int (nI (if t = 0 then 0 else if rK r t < 8 then rMn r t else _))); rw [if_neg h0_t, if_neg h_4]; rfl) dX5_singleItems_88
    · have h_4 : rK r t < 8 := of_decide_eq_true h_4
      refine lv_aload_n hx hb dX5_singleItems_7 rfl (lv_at hl 0 rfl) ?_
      refine c_cP F hK hR (t := t) (by omega) (show t ≤ rT r by omega) (show rK r t < 8 by omega) kw_classLink_RX5_125 dX5_singleItems_8 ?_
      refine lv_astore_n (lv' := [(2, .ref (gA g (3 * t))), (0, .ref (gA g (3 * t))), (1, .int 0)]) hx hb dX5_singleItems_11 rfl hl (by decide) rfl (fun ls hl => ?_)
      refine lv_aload_n hx hb dX5_singleItems_12 rfl (lv_at hl 0 rfl) ?_
      refine c_gbits F hK hR (t := t) (by omega) (show t ≤ rT r by omega) (show rK r t < 8 by omega) kw_fieldLink_RX5_183 dX5_singleItems_13 ?_
      refine c_lenb F hK hR (t := t) (by omega) (show t ≤ rT r by omega) dX5_singleItems_16 ?_
      exact pv_iret F hr hlocks (by show _ = some (Value.int (nI (if t = 0 then 0 else if rK r t < 8 then rMn r t else _))); rw [if_neg h0_t, if_pos h_4]) dX5_singleItems_17
set_option maxHeartbeats 400000 in
set_option maxRecDepth 100000 in
theorem c_X5_singleItems1 (l : Launch) (D : va_G) (cy : Nat → ClassId) (A : Nat → Prop) (r : RS) (g : CG) (sz : Nat) (t : Nat) (vt : Value)  (hvt : vt = va_rf (c_col (gA g) t)) (ht_t : t ≤ rT r) (hV : VR r) (hM0 : rMn r 0 ≤ 30) (hTb : rT r < 100000) (hMb : rM r < 100000) : Met l yX5_singleItems (px_w yX5_singleItems cX5_singleItems 5 (some .int)) (rmd 4 0 0) (px_P D cy [vt, .int 1] sz (CR D cy A r g)) (px_V (some (.int (nI (f_si r 1 t))))) 0 0 (fun _ => False) := by
  by_cases h0_t : t = 0
  · have e_vt : vt = .null := (hvt.trans (col_0 h0_t).symm)
    subst e_vt
    refine px_met (by decide) (Nat.le_of_ble_eq_true rfl) ?_
    intro p e s m below meth c F hr hlocks hnm hK hsz hR ls hl
    have hx := F.1
    have hb := F.2.1
    have hl : lv_has ls 5 [(0, .null), (1, .int 1)] := hl
    refine lv_aload_nN hx hb dX5_singleItems_0 rfl (lv_at hl 0 rfl) ?_
    refine lv_instN hx hb dX5_singleItems_1 ?_
    refine lv_if_eq (tgt := 18) hx hb dX5_singleItems_4 (by decide) (fun _ => ?_) (fun h => absurd h (by decide))
    refine lv_iconst (v := 0) hx hb dX5_singleItems_18 (by decide) ?_
    refine lv_istore_n (lv' := [(2, .int 0), (0, .null), (1, .int 1)]) hx hb dX5_singleItems_19 rfl hl (by decide) rfl (fun ls hl => ?_)
    refine lv_aload_nN hx hb dX5_singleItems_20 rfl (lv_at hl 1 rfl) ?_
    refine lv_instN hx hb dX5_singleItems_21 ?_
    refine lv_if_eq (tgt := 87) hx hb dX5_singleItems_24 (by decide) (fun _ => ?_) (fun h => absurd h (by decide))
    refine lv_iload_n hx hb dX5_singleItems_87 rfl (lv_at hl 0 rfl) ?_
    exact pv_iret F hr hlocks (by rw [h0_t, si_0]; rfl) dX5_singleItems_88
  · have e_vt : vt = .ref (gA g (3 * t)) := (hvt.trans (col_t h0_t).symm)
    subst e_vt
    refine px_met (by decide) (Nat.le_of_ble_eq_true rfl) ?_
    intro p e s m below meth c F hr hlocks hnm hK hsz hR ls hl
    have hx := F.1
    have hb := F.2.1
    have hl : lv_has ls 5 [(0, .ref (gA g (3 * t))), (1, .int 1)] := hl
    refine lv_aload_n hx hb dX5_singleItems_0 rfl (lv_at hl 0 rfl) ?_
    have hva := hV.2.1 t h0_t ht_t
    have hm30 := hva.2.1
    refine c_iP F hK hR (t := t) (by omega) (show t ≤ rT r by omega) kw_classLink_RX5_125 dX5_singleItems_1 ?_
    refine x_ifeq_b (tgt := 18) hx hb dX5_singleItems_4 (by decide) (fun h_4 => ?_) (fun h_4 => ?_)
    · have h_4 : ¬ (rK r t < 8) := of_decide_eq_false h_4
      refine lv_iconst (v := 0) hx hb dX5_singleItems_18 (by decide) ?_
      refine lv_istore_n (lv' := [(2, .int 0), (0, .ref (gA g (3 * t))), (1, .int 1)]) hx hb dX5_singleItems_19 rfl hl (by decide) rfl (fun ls hl => ?_)
      refine lv_aload_n hx hb dX5_singleItems_20 rfl (lv_at hl 1 rfl) ?_
      refine c_iH F hK hR (t := t) (by omega) (show t ≤ rT r by omega) kw_classLink_RX5_158 dX5_singleItems_21 ?_
      refine x_ifeq_b (tgt := 87) hx hb dX5_singleItems_24 (by decide) (fun h_24 => by exfalso; have h_24 : ¬ (8 ≤ rK r t) := of_decide_eq_false h_24; omega) (fun h_24 => ?_)
      have h_24 : 8 ≤ rK r t := of_decide_eq_true h_24
      refine lv_aload_n hx hb dX5_singleItems_27 rfl (lv_at hl 1 rfl) ?_
      refine c_cH F hK hR (t := t) (by omega) (show t ≤ rT r by omega) (show 8 ≤ rK r t by omega) kw_classLink_RX5_158 dX5_singleItems_28 ?_
      refine lv_astore_n (lv' := [(3, .ref (gA g (3 * t))), (2, .int 0), (0, .ref (gA g (3 * t))), (1, .int 1)]) hx hb dX5_singleItems_31 rfl hl (by decide) rfl (fun ls hl => ?_)
      refine lv_iload_n hx hb dX5_singleItems_32 rfl (lv_at hl 3 rfl) ?_
      refine lv_if_le (tgt := 87) hx hb dX5_singleItems_33 (by decide) (fun h => absurd h (by decide)) (fun _ => ?_)
      refine lv_iconst (v := 0) hx hb dX5_singleItems_36 (by decide) ?_
      refine lv_istore (lv' := [(4, .int 0), (3, .ref (gA g (3 * t))), (2, .int 0), (0, .ref (gA g (3 * t))), (1, .int 1)]) hx hb dX5_singleItems_37 hl (by decide) rfl (fun ls hl => ?_)
      have loop : ∀ (d k : Nat), k + d = rMn r t → ∀ (ls : Array Slot), lv_has ls 5 [(4, .int (nI k)), (3, .ref (gA g (3 * t))), (2, .int (nI (f_cnt (f_sp (f_si r 0) r t) k))), (0, .ref (gA g (3 * t))), (1, .int 1)] → W p l e (rmd 4 0 0) s m ([.ref (gA g (3 * t)), .int 1] : List Value).toArray below meth c s.heap [] 0 0 (MQ below (px_V (some (.int (nI (f_si r 1 t))))) ([.ref (gA g (3 * t)), .int 1] : List Value).toArray s 0 0 (fun _ => False)) (F0 m 39 ls []) := by
        intro d
        induction d with
        | zero =>
          intro k hk ls hl
          refine lv_iload hx hb dX5_singleItems_39 (lv_at hl 0 rfl) ?_
          refine lv_aload_n hx hb dX5_singleItems_41 rfl (lv_at hl 1 rfl) ?_
          refine c_gitems F hK hR (t := t) (by omega) (show t ≤ rT r by omega) (show 8 ≤ rK r t by omega) kw_fieldLink_RX5_179 dX5_singleItems_42 ?_
          refine c_lenb F hK hR (t := t) (by omega) (show t ≤ rT r by omega) dX5_singleItems_45 ?_
          refine lv_icmp_ge (tgt := 87) hx hb dX5_singleItems_46 (by decide) (fun h_46 => ?_) (fun h_46 => by exfalso; have h_46 : k < (rMn r t) := nInle (show ¬ nI (rMn r t) ≤ nI k from h_46) (by omega) (by omega); omega)
          have h_46 : (rMn r t) ≤ k := nIle (show nI (rMn r t) ≤ nI k from h_46) (by omega) (by omega)
          refine lv_iload_n hx hb dX5_singleItems_87 rfl (lv_at hl 2 rfl) ?_
          exact pv_iret F hr hlocks (by show _ = some (Value.int (nI (if t = 0 then 0 else if rK r t < 8 then rMn r t else _))); rw [if_neg h0_t, if_neg h_4]; rw [show k = rMn r t by omega]) dX5_singleItems_88
        | succ d ih_loop =>
          intro k hk ls hl
          refine lv_iload hx hb dX5_singleItems_39 (lv_at hl 0 rfl) ?_
          refine lv_aload_n hx hb dX5_singleItems_41 rfl (lv_at hl 1 rfl) ?_
          refine c_gitems F hK hR (t := t) (by omega) (show t ≤ rT r by omega) (show 8 ≤ rK r t by omega) kw_fieldLink_RX5_179 dX5_singleItems_42 ?_
          refine c_lenb F hK hR (t := t) (by omega) (show t ≤ rT r by omega) dX5_singleItems_45 ?_
          refine lv_icmp_ge (tgt := 87) hx hb dX5_singleItems_46 (by decide) (fun h_46 => by exfalso; have h_46 : (rMn r t) ≤ k := nIle (show nI (rMn r t) ≤ nI k from h_46) (by omega) (by omega); omega) (fun h_46 => ?_)
          have h_46 : k < (rMn r t) := nInle (show ¬ nI (rMn r t) ≤ nI k from h_46) (by omega) (by omega)
          refine lv_iload_n hx hb dX5_singleItems_49 rfl (lv_at hl 2 rfl) ?_
          refine lv_aload_n hx hb dX5_singleItems_50 rfl (lv_at hl 1 rfl) ?_
          refine c_gitems F hK hR (t := t) (by omega) (show t ≤ rT r by omega) (show 8 ≤ rK r t by omega) kw_fieldLink_RX5_179 dX5_singleItems_51 ?_
          refine lv_iload hx hb dX5_singleItems_54 (lv_at hl 0 rfl) ?_
          refine c_lditem F hK hR (t := t) (by omega) (show t ≤ rT r by omega) (show 8 ≤ rK r t by omega) (show rMn r t < 2 ^ 31 by omega) k rfl (show k < rMn r t by omega) dX5_singleItems_56 ?_
          have hv9 := (hV.2.1 t h0_t ht_t).2.2 k (by omega) (by omega)
          rcases c_ref_3 (r := r) (kd := rK r t) (v := f_at r t k) (gA g) hv9.1 hv9.2.1 hv9.2.2 with ⟨hw0, hq9⟩ | ⟨w, hw0, hw1, hw2, hw3, hq9⟩ | ⟨w, hw0, hw1, hw2, hw3, hq9⟩
          · refine px_topv (y := .null) (by rw [hq9]; rfl) ?_
            have hsp : (f_sp (f_si r 0) r t) k = f_si r 0 (f_rowAt r t (nI k)) := sp_n hV h0_t ht_t (by omega) 0 hw0
            refine lv_instN hx hb dX5_singleItems_57 ?_
            refine lv_if_eq (tgt := 67) hx hb dX5_singleItems_60 (by decide) (fun _ => ?_) (fun h => absurd h (by decide))
            refine lv_aload_n hx hb dX5_singleItems_67 rfl (lv_at hl 1 rfl) ?_
            refine lv_iload hx hb dX5_singleItems_68 (lv_at hl 0 rfl) ?_
            refine px_goV (st1 := [va_rf (c_col (gA g) (f_rowAt r t (nI k))), .int (nI (f_cnt (f_sp (f_si r 0) r t) k))]) (px_callS F hK (c_X5_rowAt l D cy A r g _ t (.ref (gA g (3 * t))) (nI k) (col_t (by omega)) (by omega) (by omega) (by omega) (fun q => (hV.2.1 _ q (by omega)).2.2)) kc_X5_rowAt kw_methodLink_RX5_105 rfl hR rfl ⟨rfl, rfl⟩ ⟨Nat.le_of_ble_eq_true rfl, Nat.le_of_ble_eq_true rfl⟩ hl.1 rfl (Nat.le_of_ble_eq_true rfl) dX5_singleItems_70 ⟨Nat.zero_le _, Nat.zero_le _⟩) rfl ?_
            refine lv_iload_n hx hb dX5_singleItems_73 rfl (lv_at hl 4 rfl) ?_
            refine lv_iconst (v := 1) hx hb dX5_singleItems_74 (by decide) ?_
            refine lv_isub hx hb dX5_singleItems_75 ?_
            refine px_topi (y := 0) (by decide) ?_
            refine px_goV (st1 := [.int (nI (f_si r 0 (f_rowAt r t (nI k)))), .int (nI (f_cnt (f_sp (f_si r 0) r t) k))]) (px_callS F hK (c_X5_singleItems0 l D cy A r g _ (f_rowAt r t (nI k)) (va_rf (c_col (gA g) (f_rowAt r t (nI k)))) rfl (rowAt_le hV ht_t) hV hM0 hTb hMb) kc_X5_singleItems kw_methodLink_RX5_127 rfl hR rfl ⟨rfl, rfl⟩ ⟨Nat.le_of_ble_eq_true rfl, Nat.le_of_ble_eq_true rfl⟩ hl.1 rfl (Nat.le_of_ble_eq_true rfl) dX5_singleItems_76 ⟨Nat.zero_le _, Nat.zero_le _⟩) rfl ?_
            refine lv_iadd hx hb dX5_singleItems_79 ?_
            refine px_topi (y := nI ((f_cnt (f_sp (f_si r 0) r t) k) + (f_si r 0 (f_rowAt r t (nI k))))) (nI_add _ _) ?_
            refine lv_istore_n (lv' := [(2, .int (nI ((f_cnt (f_sp (f_si r 0) r t) k) + (f_si r 0 (f_rowAt r t (nI k)))))), (4, .int (nI k)), (3, .ref (gA g (3 * t))), (0, .ref (gA g (3 * t))), (1, .int 1)]) hx hb dX5_singleItems_80 rfl hl (by decide) rfl (fun ls hl => ?_)
            refine lv_iinc (v := nI (k + 1)) (lv' := [(4, .int (nI (k + 1))), (2, .int (nI ((f_cnt (f_sp (f_si r 0) r t) k) + (f_si r 0 (f_rowAt r t (nI k)))))), (3, .ref (gA g (3 * t))), (0, .ref (gA g (3 * t))), (1, .int 1)]) hx hb dX5_singleItems_81 hl (k := 1) rfl (by show nI k + 1 = nI (k + 1); exact nI_1 _) (by decide) rfl (fun ls hl => ?_)
            refine lv_goto (tgt := 39) hx hb dX5_singleItems_84 (by decide) ?_
            have e_2 : (nI (f_cnt (f_sp (f_si r 0) r t) (k + 1)) : Int32) = nI ((f_cnt (f_sp (f_si r 0) r t) k) + (f_si r 0 (f_rowAt r t (nI k)))) := (by rw [show f_cnt (f_sp (f_si r 0) r t) (k + 1) = f_cnt (f_sp (f_si r 0) r t) k + (f_sp (f_si r 0) r t) k from rfl, hsp])
            exact ih_loop (k + 1) (by omega) _ (by rw [e_2]; exact lv_sub hl [0, 2, 1, 3, 4] rfl)
          · refine px_topv (y := .ref (gA g (3 * w + 2))) (by rw [hq9]; rfl) ?_
            have hsp : (f_sp (f_si r 0) r t) k = 1 := (by unfold f_sp; rw [if_pos hw3, if_neg (by rw [hw0]; exact lN_0 (by omega) hw1)])
            refine c_iVv F hK hR (v := w) (by omega) (show w ≤ rM r by omega) kw_classLink_RX5_99 dX5_singleItems_57 ?_
            refine lv_if_eq (tgt := 67) hx hb dX5_singleItems_60 (by decide) (fun h => absurd h (by decide)) (fun _ => ?_)
            refine lv_iconst (v := 1) hx hb dX5_singleItems_63 (by decide) ?_
            refine lv_goto (tgt := 79) hx hb dX5_singleItems_64 (by decide) ?_
            refine lv_iadd hx hb dX5_singleItems_79 ?_
            refine px_topi (y := nI ((f_cnt (f_sp (f_si r 0) r t) k) + 1)) (nI_add _ _) ?_
            refine lv_istore_n (lv' := [(2, .int (nI ((f_cnt (f_sp (f_si r 0) r t) k) + 1))), (4, .int (nI k)), (3, .ref (gA g (3 * t))), (0, .ref (gA g (3 * t))), (1, .int 1)]) hx hb dX5_singleItems_80 rfl hl (by decide) rfl (fun ls hl => ?_)
            refine lv_iinc (v := nI (k + 1)) (lv' := [(4, .int (nI (k + 1))), (2, .int (nI ((f_cnt (f_sp (f_si r 0) r t) k) + 1))), (3, .ref (gA g (3 * t))), (0, .ref (gA g (3 * t))), (1, .int 1)]) hx hb dX5_singleItems_81 hl (k := 1) rfl (by show nI k + 1 = nI (k + 1); exact nI_1 _) (by decide) rfl (fun ls hl => ?_)
            refine lv_goto (tgt := 39) hx hb dX5_singleItems_84 (by decide) ?_
            have e_2 : (nI (f_cnt (f_sp (f_si r 0) r t) (k + 1)) : Int32) = nI ((f_cnt (f_sp (f_si r 0) r t) k) + 1) := (by rw [show f_cnt (f_sp (f_si r 0) r t) (k + 1) = f_cnt (f_sp (f_si r 0) r t) k + (f_sp (f_si r 0) r t) k from rfl, hsp])
            exact ih_loop (k + 1) (by omega) _ (by rw [e_2]; exact lv_sub hl [0, 2, 1, 3, 4] rfl)
          · refine px_topv (y := .ref (gA g (3 * w))) (by rw [hq9]; rfl) ?_
            have hsp : (f_sp (f_si r 0) r t) k = f_si r 0 (f_rowAt r t (nI k)) := (by unfold f_sp; rw [if_neg (by omega), rowAt_in hV h0_t ht_t (by omega) hw3])
            refine c_iVt F hK hR (t := w) (by omega) (show w ≤ rT r by omega) kw_classLink_RX5_99 dX5_singleItems_57 ?_
            refine lv_if_eq (tgt := 67) hx hb dX5_singleItems_60 (by decide) (fun _ => ?_) (fun h => absurd h (by decide))
            refine lv_aload_n hx hb dX5_singleItems_67 rfl (lv_at hl 1 rfl) ?_
            refine lv_iload hx hb dX5_singleItems_68 (lv_at hl 0 rfl) ?_
            refine px_goV (st1 := [va_rf (c_col (gA g) (f_rowAt r t (nI k))), .int (nI (f_cnt (f_sp (f_si r 0) r t) k))]) (px_callS F hK (c_X5_rowAt l D cy A r g _ t (.ref (gA g (3 * t))) (nI k) (col_t (by omega)) (by omega) (by omega) (by omega) (fun q => (hV.2.1 _ q (by omega)).2.2)) kc_X5_rowAt kw_methodLink_RX5_105 rfl hR rfl ⟨rfl, rfl⟩ ⟨Nat.le_of_ble_eq_true rfl, Nat.le_of_ble_eq_true rfl⟩ hl.1 rfl (Nat.le_of_ble_eq_true rfl) dX5_singleItems_70 ⟨Nat.zero_le _, Nat.zero_le _⟩) rfl ?_
            refine lv_iload_n hx hb dX5_singleItems_73 rfl (lv_at hl 4 rfl) ?_
            refine lv_iconst (v := 1) hx hb dX5_singleItems_74 (by decide) ?_
            refine lv_isub hx hb dX5_singleItems_75 ?_
            refine px_topi (y := 0) (by decide) ?_
            refine px_goV (st1 := [.int (nI (f_si r 0 (f_rowAt r t (nI k)))), .int (nI (f_cnt (f_sp (f_si r 0) r t) k))]) (px_callS F hK (c_X5_singleItems0 l D cy A r g _ (f_rowAt r t (nI k)) (va_rf (c_col (gA g) (f_rowAt r t (nI k)))) rfl (rowAt_le hV ht_t) hV hM0 hTb hMb) kc_X5_singleItems kw_methodLink_RX5_127 rfl hR rfl ⟨rfl, rfl⟩ ⟨Nat.le_of_ble_eq_true rfl, Nat.le_of_ble_eq_true rfl⟩ hl.1 rfl (Nat.le_of_ble_eq_true rfl) dX5_singleItems_76 ⟨Nat.zero_le _, Nat.zero_le _⟩) rfl ?_
            refine lv_iadd hx hb dX5_singleItems_79 ?_
            refine px_topi (y := nI ((f_cnt (f_sp (f_si r 0) r t) k) + (f_si r 0 (f_rowAt r t (nI k))))) (nI_add _ _) ?_
            refine lv_istore_n (lv' := [(2, .int (nI ((f_cnt (f_sp (f_si r 0) r t) k) + (f_si r 0 (f_rowAt r t (nI k)))))), (4, .int (nI k)), (3, .ref (gA g (3 * t))), (0, .ref (gA g (3 * t))), (1, .int 1)]) hx hb dX5_singleItems_80 rfl hl (by decide) rfl (fun ls hl => ?_)
            refine lv_iinc (v := nI (k + 1)) (lv' := [(4, .int (nI (k + 1))), (2, .int (nI ((f_cnt (f_sp (f_si r 0) r t) k) + (f_si r 0 (f_rowAt r t (nI k)))))), (3, .ref (gA g (3 * t))), (0, .ref (gA g (3 * t))), (1, .int 1)]) hx hb dX5_singleItems_81 hl (k := 1) rfl (by show nI k + 1 = nI (k + 1); exact nI_1 _) (by decide) rfl (fun ls hl => ?_)
            refine lv_goto (tgt := 39) hx hb dX5_singleItems_84 (by decide) ?_
            have e_2 : (nI (f_cnt (f_sp (f_si r 0) r t) (k + 1)) : Int32) = nI ((f_cnt (f_sp (f_si r 0) r t) k) + (f_si r 0 (f_rowAt r t (nI k)))) := (by rw [show f_cnt (f_sp (f_si r 0) r t) (k + 1) = f_cnt (f_sp (f_si r 0) r t) k + (f_sp (f_si r 0) r t) k from rfl, hsp])
            exact ih_loop (k + 1) (by omega) _ (by rw [e_2]; exact lv_sub hl [0, 2, 1, 3, 4] rfl)
      have e_2 : (nI (f_cnt (f_sp (f_si r 0) r t) 0) : Int32) = 0 := (by rfl)
      exact loop (rMn r t) 0 (by omega) _ (by rw [e_2]; exact lv_sub hl [0, 1, 2, 3, 4] rfl)
    · have h_4 : rK r t < 8 := of_decide_eq_true h_4
      refine lv_aload_n hx hb dX5_singleItems_7 rfl (lv_at hl 0 rfl) ?_
      refine c_cP F hK hR (t := t) (by omega) (show t ≤ rT r by omega) (show rK r t < 8 by omega) kw_classLink_RX5_125 dX5_singleItems_8 ?_
      refine lv_astore_n (lv' := [(2, .ref (gA g (3 * t))), (0, .ref (gA g (3 * t))), (1, .int 1)]) hx hb dX5_singleItems_11 rfl hl (by decide) rfl (fun ls hl => ?_)
      refine lv_aload_n hx hb dX5_singleItems_12 rfl (lv_at hl 0 rfl) ?_
      refine c_gbits F hK hR (t := t) (by omega) (show t ≤ rT r by omega) (show rK r t < 8 by omega) kw_fieldLink_RX5_183 dX5_singleItems_13 ?_
      refine c_lenb F hK hR (t := t) (by omega) (show t ≤ rT r by omega) dX5_singleItems_16 ?_
      exact pv_iret F hr hlocks (by show _ = some (Value.int (nI (if t = 0 then 0 else if rK r t < 8 then rMn r t else _))); rw [if_neg h0_t, if_pos h_4]) dX5_singleItems_17
set_option maxHeartbeats 400000 in
set_option maxRecDepth 100000 in
theorem c_X5_singleItems2 (l : Launch) (D : va_G) (cy : Nat → ClassId) (A : Nat → Prop) (r : RS) (g : CG) (sz : Nat) (t : Nat) (vt : Value)  (hvt : vt = va_rf (c_col (gA g) t)) (ht_t : t ≤ rT r) (hV : VR r) (hM0 : rMn r 0 ≤ 30) (hTb : rT r < 100000) (hMb : rM r < 100000) : Met l yX5_singleItems (px_w yX5_singleItems cX5_singleItems 5 (some .int)) (rmd 5 0 0) (px_P D cy [vt, .int 2] sz (CR D cy A r g)) (px_V (some (.int (nI (f_si r 2 t))))) 0 0 (fun _ => False) := by
  by_cases h0_t : t = 0
  · have e_vt : vt = .null := (hvt.trans (col_0 h0_t).symm)
    subst e_vt
    refine px_met (by decide) (Nat.le_of_ble_eq_true rfl) ?_
    intro p e s m below meth c F hr hlocks hnm hK hsz hR ls hl
    have hx := F.1
    have hb := F.2.1
    have hl : lv_has ls 5 [(0, .null), (1, .int 2)] := hl
    refine lv_aload_nN hx hb dX5_singleItems_0 rfl (lv_at hl 0 rfl) ?_
    refine lv_instN hx hb dX5_singleItems_1 ?_
    refine lv_if_eq (tgt := 18) hx hb dX5_singleItems_4 (by decide) (fun _ => ?_) (fun h => absurd h (by decide))
    refine lv_iconst (v := 0) hx hb dX5_singleItems_18 (by decide) ?_
    refine lv_istore_n (lv' := [(2, .int 0), (0, .null), (1, .int 2)]) hx hb dX5_singleItems_19 rfl hl (by decide) rfl (fun ls hl => ?_)
    refine lv_aload_nN hx hb dX5_singleItems_20 rfl (lv_at hl 1 rfl) ?_
    refine lv_instN hx hb dX5_singleItems_21 ?_
    refine lv_if_eq (tgt := 87) hx hb dX5_singleItems_24 (by decide) (fun _ => ?_) (fun h => absurd h (by decide))
    refine lv_iload_n hx hb dX5_singleItems_87 rfl (lv_at hl 0 rfl) ?_
    exact pv_iret F hr hlocks (by rw [h0_t, si_0]; rfl) dX5_singleItems_88
  · have e_vt : vt = .ref (gA g (3 * t)) := (hvt.trans (col_t h0_t).symm)
    subst e_vt
    refine px_met (by decide) (Nat.le_of_ble_eq_true rfl) ?_
    intro p e s m below meth c F hr hlocks hnm hK hsz hR ls hl
    have hx := F.1
    have hb := F.2.1
    have hl : lv_has ls 5 [(0, .ref (gA g (3 * t))), (1, .int 2)] := hl
    refine lv_aload_n hx hb dX5_singleItems_0 rfl (lv_at hl 0 rfl) ?_
    have hva := hV.2.1 t h0_t ht_t
    have hm30 := hva.2.1
    refine c_iP F hK hR (t := t) (by omega) (show t ≤ rT r by omega) kw_classLink_RX5_125 dX5_singleItems_1 ?_
    refine x_ifeq_b (tgt := 18) hx hb dX5_singleItems_4 (by decide) (fun h_4 => ?_) (fun h_4 => ?_)
    · have h_4 : ¬ (rK r t < 8) := of_decide_eq_false h_4
      refine lv_iconst (v := 0) hx hb dX5_singleItems_18 (by decide) ?_
      refine lv_istore_n (lv' := [(2, .int 0), (0, .ref (gA g (3 * t))), (1, .int 2)]) hx hb dX5_singleItems_19 rfl hl (by decide) rfl (fun ls hl => ?_)
      refine lv_aload_n hx hb dX5_singleItems_20 rfl (lv_at hl 1 rfl) ?_
      refine c_iH F hK hR (t := t) (by omega) (show t ≤ rT r by omega) kw_classLink_RX5_158 dX5_singleItems_21 ?_
      refine x_ifeq_b (tgt := 87) hx hb dX5_singleItems_24 (by decide) (fun h_24 => by exfalso; have h_24 : ¬ (8 ≤ rK r t) := of_decide_eq_false h_24; omega) (fun h_24 => ?_)
      have h_24 : 8 ≤ rK r t := of_decide_eq_true h_24
      refine lv_aload_n hx hb dX5_singleItems_27 rfl (lv_at hl 1 rfl) ?_
      refine c_cH F hK hR (t := t) (by omega) (show t ≤ rT r by omega) (show 8 ≤ rK r t by omega) kw_classLink_RX5_158 dX5_singleItems_28 ?_
      refine lv_astore_n (lv' := [(3, .ref (gA g (3 * t))), (2, .int 0), (0, .ref (gA g (3 * t))), (1, .int 2)]) hx hb dX5_singleItems_31 rfl hl (by decide) rfl (fun ls hl => ?_)
      refine lv_iload_n hx hb dX5_singleItems_32 rfl (lv_at hl 3 rfl) ?_
      refine lv_if_le (tgt := 87) hx hb dX5_singleItems_33 (by decide) (fun h => absurd h (by decide)) (fun _ => ?_)
      refine lv_iconst (v := 0) hx hb dX5_singleItems_36 (by decide) ?_
      refine lv_istore (lv' := [(4, .int 0), (3, .ref (gA g (3 * t))), (2, .int 0), (0, .ref (gA g (3 * t))), (1, .int 2)]) hx hb dX5_singleItems_37 hl (by decide) rfl (fun ls hl => ?_)
      have loop : ∀ (d k : Nat), k + d = rMn r t → ∀ (ls : Array Slot), lv_has ls 5 [(4, .int (nI k)), (3, .ref (gA g (3 * t))), (2, .int (nI (f_cnt (f_sp (f_si r 1) r t) k))), (0, .ref (gA g (3 * t))), (1, .int 2)] → W p l e (rmd 5 0 0) s m ([.ref (gA g (3 * t)), .int 2] : List Value).toArray below meth c s.heap [] 0 0 (MQ below (px_V (some (.int (nI (f_si r 2 t))))) ([.ref (gA g (3 * t)), .int 2] : List Value).toArray s 0 0 (fun _ => False)) (F0 m 39 ls []) := by
        intro d
        induction d with
        | zero =>
          intro k hk ls hl
          refine lv_iload hx hb dX5_singleItems_39 (lv_at hl 0 rfl) ?_
          refine lv_aload_n hx hb dX5_singleItems_41 rfl (lv_at hl 1 rfl) ?_
          refine c_gitems F hK hR (t := t) (by omega) (show t ≤ rT r by omega) (show 8 ≤ rK r t by omega) kw_fieldLink_RX5_179 dX5_singleItems_42 ?_
          refine c_lenb F hK hR (t := t) (by omega) (show t ≤ rT r by omega) dX5_singleItems_45 ?_
          refine lv_icmp_ge (tgt := 87) hx hb dX5_singleItems_46 (by decide) (fun h_46 => ?_) (fun h_46 => by exfalso; have h_46 : k < (rMn r t) := nInle (show ¬ nI (rMn r t) ≤ nI k from h_46) (by omega) (by omega); omega)
          have h_46 : (rMn r t) ≤ k := nIle (show nI (rMn r t) ≤ nI k from h_46) (by omega) (by omega)
          refine lv_iload_n hx hb dX5_singleItems_87 rfl (lv_at hl 2 rfl) ?_
          exact pv_iret F hr hlocks (by show _ = some (Value.int (nI (if t = 0 then 0 else if rK r t < 8 then rMn r t else _))); rw [if_neg h0_t, if_neg h_4]; rw [show k = rMn r t by omega]) dX5_singleItems_88
        | succ d ih_loop =>
          intro k hk ls hl
          refine lv_iload hx hb dX5_singleItems_39 (lv_at hl 0 rfl) ?_
          refine lv_aload_n hx hb dX5_singleItems_41 rfl (lv_at hl 1 rfl) ?_
          refine c_gitems F hK hR (t := t) (by omega) (show t ≤ rT r by omega) (show 8 ≤ rK r t by omega) kw_fieldLink_RX5_179 dX5_singleItems_42 ?_
          refine c_lenb F hK hR (t := t) (by omega) (show t ≤ rT r by omega) dX5_singleItems_45 ?_
          refine lv_icmp_ge (tgt := 87) hx hb dX5_singleItems_46 (by decide) (fun h_46 => by exfalso; have h_46 : (rMn r t) ≤ k := nIle (show nI (rMn r t) ≤ nI k from h_46) (by omega) (by omega); omega) (fun h_46 => ?_)
          have h_46 : k < (rMn r t) := nInle (show ¬ nI (rMn r t) ≤ nI k from h_46) (by omega) (by omega)
          refine lv_iload_n hx hb dX5_singleItems_49 rfl (lv_at hl 2 rfl) ?_
          refine lv_aload_n hx hb dX5_singleItems_50 rfl (lv_at hl 1 rfl) ?_
          refine c_gitems F hK hR (t := t) (by omega) (show t ≤ rT r by omega) (show 8 ≤ rK r t by omega) kw_fieldLink_RX5_179 dX5_singleItems_51 ?_
          refine lv_iload hx hb dX5_singleItems_54 (lv_at hl 0 rfl) ?_
          refine c_lditem F hK hR (t := t) (by omega) (show t ≤ rT r by omega) (show 8 ≤ rK r t by omega) (show rMn r t < 2 ^ 31 by omega) k rfl (show k < rMn r t by omega) dX5_singleItems_56 ?_
          have hv9 := (hV.2.1 t h0_t ht_t).2.2 k (by omega) (by omega)
          rcases c_ref_3 (r := r) (kd := rK r t) (v := f_at r t k) (gA g) hv9.1 hv9.2.1 hv9.2.2 with ⟨hw0, hq9⟩ | ⟨w, hw0, hw1, hw2, hw3, hq9⟩ | ⟨w, hw0, hw1, hw2, hw3, hq9⟩
          · refine px_topv (y := .null) (by rw [hq9]; rfl) ?_
            have hsp : (f_sp (f_si r 1) r t) k = f_si r 1 (f_rowAt r t (nI k)) := sp_n hV h0_t ht_t (by omega) 1 hw0
            refine lv_instN hx hb dX5_singleItems_57 ?_
            refine lv_if_eq (tgt := 67) hx hb dX5_singleItems_60 (by decide) (fun _ => ?_) (fun h => absurd h (by decide))
            refine lv_aload_n hx hb dX5_singleItems_67 rfl (lv_at hl 1 rfl) ?_
            refine lv_iload hx hb dX5_singleItems_68 (lv_at hl 0 rfl) ?_
            refine px_goV (st1 := [va_rf (c_col (gA g) (f_rowAt r t (nI k))), .int (nI (f_cnt (f_sp (f_si r 1) r t) k))]) (px_callS F hK (c_X5_rowAt l D cy A r g _ t (.ref (gA g (3 * t))) (nI k) (col_t (by omega)) (by omega) (by omega) (by omega) (fun q => (hV.2.1 _ q (by omega)).2.2)) kc_X5_rowAt kw_methodLink_RX5_105 rfl hR rfl ⟨rfl, rfl⟩ ⟨Nat.le_of_ble_eq_true rfl, Nat.le_of_ble_eq_true rfl⟩ hl.1 rfl (Nat.le_of_ble_eq_true rfl) dX5_singleItems_70 ⟨Nat.zero_le _, Nat.zero_le _⟩) rfl ?_
            refine lv_iload_n hx hb dX5_singleItems_73 rfl (lv_at hl 4 rfl) ?_
            refine lv_iconst (v := 1) hx hb dX5_singleItems_74 (by decide) ?_
            refine lv_isub hx hb dX5_singleItems_75 ?_
            refine px_topi (y := 1) (by decide) ?_
            refine px_goV (st1 := [.int (nI (f_si r 1 (f_rowAt r t (nI k)))), .int (nI (f_cnt (f_sp (f_si r 1) r t) k))]) (px_callS F hK (c_X5_singleItems1 l D cy A r g _ (f_rowAt r t (nI k)) (va_rf (c_col (gA g) (f_rowAt r t (nI k)))) rfl (rowAt_le hV ht_t) hV hM0 hTb hMb) kc_X5_singleItems kw_methodLink_RX5_127 rfl hR rfl ⟨rfl, rfl⟩ ⟨Nat.le_of_ble_eq_true rfl, Nat.le_of_ble_eq_true rfl⟩ hl.1 rfl (Nat.le_of_ble_eq_true rfl) dX5_singleItems_76 ⟨Nat.zero_le _, Nat.zero_le _⟩) rfl ?_
            refine lv_iadd hx hb dX5_singleItems_79 ?_
            refine px_topi (y := nI ((f_cnt (f_sp (f_si r 1) r t) k) + (f_si r 1 (f_rowAt r t (nI k))))) (nI_add _ _) ?_
            refine lv_istore_n (lv' := [(2, .int (nI ((f_cnt (f_sp (f_si r 1) r t) k) + (f_si r 1 (f_rowAt r t (nI k)))))), (4, .int (nI k)), (3, .ref (gA g (3 * t))), (0, .ref (gA g (3 * t))), (1, .int 2)]) hx hb dX5_singleItems_80 rfl hl (by decide) rfl (fun ls hl => ?_)
            refine lv_iinc (v := nI (k + 1)) (lv' := [(4, .int (nI (k + 1))), (2, .int (nI ((f_cnt (f_sp (f_si r 1) r t) k) + (f_si r 1 (f_rowAt r t (nI k)))))), (3, .ref (gA g (3 * t))), (0, .ref (gA g (3 * t))), (1, .int 2)]) hx hb dX5_singleItems_81 hl (k := 1) rfl (by show nI k + 1 = nI (k + 1); exact nI_1 _) (by decide) rfl (fun ls hl => ?_)
            refine lv_goto (tgt := 39) hx hb dX5_singleItems_84 (by decide) ?_
            have e_2 : (nI (f_cnt (f_sp (f_si r 1) r t) (k + 1)) : Int32) = nI ((f_cnt (f_sp (f_si r 1) r t) k) + (f_si r 1 (f_rowAt r t (nI k)))) := (by rw [show f_cnt (f_sp (f_si r 1) r t) (k + 1) = f_cnt (f_sp (f_si r 1) r t) k + (f_sp (f_si r 1) r t) k from rfl, hsp])
            exact ih_loop (k + 1) (by omega) _ (by rw [e_2]; exact lv_sub hl [0, 2, 1, 3, 4] rfl)
          · refine px_topv (y := .ref (gA g (3 * w + 2))) (by rw [hq9]; rfl) ?_
            have hsp : (f_sp (f_si r 1) r t) k = 1 := (by unfold f_sp; rw [if_pos hw3, if_neg (by rw [hw0]; exact lN_0 (by omega) hw1)])
            refine c_iVv F hK hR (v := w) (by omega) (show w ≤ rM r by omega) kw_classLink_RX5_99 dX5_singleItems_57 ?_
            refine lv_if_eq (tgt := 67) hx hb dX5_singleItems_60 (by decide) (fun h => absurd h (by decide)) (fun _ => ?_)
            refine lv_iconst (v := 1) hx hb dX5_singleItems_63 (by decide) ?_
            refine lv_goto (tgt := 79) hx hb dX5_singleItems_64 (by decide) ?_
            refine lv_iadd hx hb dX5_singleItems_79 ?_
            refine px_topi (y := nI ((f_cnt (f_sp (f_si r 1) r t) k) + 1)) (nI_add _ _) ?_
            refine lv_istore_n (lv' := [(2, .int (nI ((f_cnt (f_sp (f_si r 1) r t) k) + 1))), (4, .int (nI k)), (3, .ref (gA g (3 * t))), (0, .ref (gA g (3 * t))), (1, .int 2)]) hx hb dX5_singleItems_80 rfl hl (by decide) rfl (fun ls hl => ?_)
            refine lv_iinc (v := nI (k + 1)) (lv' := [(4, .int (nI (k + 1))), (2, .int (nI ((f_cnt (f_sp (f_si r 1) r t) k) + 1))), (3, .ref (gA g (3 * t))), (0, .ref (gA g (3 * t))), (1, .int 2)]) hx hb dX5_singleItems_81 hl (k := 1) rfl (by show nI k + 1 = nI (k + 1); exact nI_1 _) (by decide) rfl (fun ls hl => ?_)
            refine lv_goto (tgt := 39) hx hb dX5_singleItems_84 (by decide) ?_
            have e_2 : (nI (f_cnt (f_sp (f_si r 1) r t) (k + 1)) : Int32) = nI ((f_cnt (f_sp (f_si r 1) r t) k) + 1) := (by rw [show f_cnt (f_sp (f_si r 1) r t) (k + 1) = f_cnt (f_sp (f_si r 1) r t) k + (f_sp (f_si r 1) r t) k from rfl, hsp])
            exact ih_loop (k + 1) (by omega) _ (by rw [e_2]; exact lv_sub hl [0, 2, 1, 3, 4] rfl)
          · refine px_topv (y := .ref (gA g (3 * w))) (by rw [hq9]; rfl) ?_
            have hsp : (f_sp (f_si r 1) r t) k = f_si r 1 (f_rowAt r t (nI k)) := (by unfold f_sp; rw [if_neg (by omega), rowAt_in hV h0_t ht_t (by omega) hw3])
            refine c_iVt F hK hR (t := w) (by omega) (show w ≤ rT r by omega) kw_classLink_RX5_99 dX5_singleItems_57 ?_
            refine lv_if_eq (tgt := 67) hx hb dX5_singleItems_60 (by decide) (fun _ => ?_) (fun h => absurd h (by decide))
            refine lv_aload_n hx hb dX5_singleItems_67 rfl (lv_at hl 1 rfl) ?_
            refine lv_iload hx hb dX5_singleItems_68 (lv_at hl 0 rfl) ?_
            refine px_goV (st1 := [va_rf (c_col (gA g) (f_rowAt r t (nI k))), .int (nI (f_cnt (f_sp (f_si r 1) r t) k))]) (px_callS F hK (c_X5_rowAt l D cy A r g _ t (.ref (gA g (3 * t))) (nI k) (col_t (by omega)) (by omega) (by omega) (by omega) (fun q => (hV.2.1 _ q (by omega)).2.2)) kc_X5_rowAt kw_methodLink_RX5_105 rfl hR rfl ⟨rfl, rfl⟩ ⟨Nat.le_of_ble_eq_true rfl, Nat.le_of_ble_eq_true rfl⟩ hl.1 rfl (Nat.le_of_ble_eq_true rfl) dX5_singleItems_70 ⟨Nat.zero_le _, Nat.zero_le _⟩) rfl ?_
            refine lv_iload_n hx hb dX5_singleItems_73 rfl (lv_at hl 4 rfl) ?_
            refine lv_iconst (v := 1) hx hb dX5_singleItems_74 (by decide) ?_
            refine lv_isub hx hb dX5_singleItems_75 ?_
            refine px_topi (y := 1) (by decide) ?_
            refine px_goV (st1 := [.int (nI (f_si r 1 (f_rowAt r t (nI k)))), .int (nI (f_cnt (f_sp (f_si r 1) r t) k))]) (px_callS F hK (c_X5_singleItems1 l D cy A r g _ (f_rowAt r t (nI k)) (va_rf (c_col (gA g) (f_rowAt r t (nI k)))) rfl (rowAt_le hV ht_t) hV hM0 hTb hMb) kc_X5_singleItems kw_methodLink_RX5_127 rfl hR rfl ⟨rfl, rfl⟩ ⟨Nat.le_of_ble_eq_true rfl, Nat.le_of_ble_eq_true rfl⟩ hl.1 rfl (Nat.le_of_ble_eq_true rfl) dX5_singleItems_76 ⟨Nat.zero_le _, Nat.zero_le _⟩) rfl ?_
            refine lv_iadd hx hb dX5_singleItems_79 ?_
            refine px_topi (y := nI ((f_cnt (f_sp (f_si r 1) r t) k) + (f_si r 1 (f_rowAt r t (nI k))))) (nI_add _ _) ?_
            refine lv_istore_n (lv' := [(2, .int (nI ((f_cnt (f_sp (f_si r 1) r t) k) + (f_si r 1 (f_rowAt r t (nI k)))))), (4, .int (nI k)), (3, .ref (gA g (3 * t))), (0, .ref (gA g (3 * t))), (1, .int 2)]) hx hb dX5_singleItems_80 rfl hl (by decide) rfl (fun ls hl => ?_)
            refine lv_iinc (v := nI (k + 1)) (lv' := [(4, .int (nI (k + 1))), (2, .int (nI ((f_cnt (f_sp (f_si r 1) r t) k) + (f_si r 1 (f_rowAt r t (nI k)))))), (3, .ref (gA g (3 * t))), (0, .ref (gA g (3 * t))), (1, .int 2)]) hx hb dX5_singleItems_81 hl (k := 1) rfl (by show nI k + 1 = nI (k + 1); exact nI_1 _) (by decide) rfl (fun ls hl => ?_)
            refine lv_goto (tgt := 39) hx hb dX5_singleItems_84 (by decide) ?_
            have e_2 : (nI (f_cnt (f_sp (f_si r 1) r t) (k + 1)) : Int32) = nI ((f_cnt (f_sp (f_si r 1) r t) k) + (f_si r 1 (f_rowAt r t (nI k)))) := (by rw [show f_cnt (f_sp (f_si r 1) r t) (k + 1) = f_cnt (f_sp (f_si r 1) r t) k + (f_sp (f_si r 1) r t) k from rfl, hsp])
            exact ih_loop (k + 1) (by omega) _ (by rw [e_2]; exact lv_sub hl [0, 2, 1, 3, 4] rfl)
      have e_2 : (nI (f_cnt (f_sp (f_si r 1) r t) 0) : Int32) = 0 := (by rfl)
      exact loop (rMn r t) 0 (by omega) _ (by rw [e_2]; exact lv_sub hl [0, 1, 2, 3, 4] rfl)
    · have h_4 : rK r t < 8 := of_decide_eq_true h_4
      refine lv_aload_n hx hb dX5_singleItems_7 rfl (lv_at hl 0 rfl) ?_
      refine c_cP F hK hR (t := t) (by omega) (show t ≤ rT r by omega) (show rK r t < 8 by omega) kw_classLink_RX5_125 dX5_singleItems_8 ?_
      refine lv_astore_n (lv' := [(2, .ref (gA g (3 * t))), (0, .ref (gA g (3 * t))), (1, .int 2)]) hx hb dX5_singleItems_11 rfl hl (by decide) rfl (fun ls hl => ?_)
      refine lv_aload_n hx hb dX5_singleItems_12 rfl (lv_at hl 0 rfl) ?_
      refine c_gbits F hK hR (t := t) (by omega) (show t ≤ rT r by omega) (show rK r t < 8 by omega) kw_fieldLink_RX5_183 dX5_singleItems_13 ?_
      refine c_lenb F hK hR (t := t) (by omega) (show t ≤ rT r by omega) dX5_singleItems_16 ?_
      exact pv_iret F hr hlocks (by show _ = some (Value.int (nI (if t = 0 then 0 else if rK r t < 8 then rMn r t else _))); rw [if_neg h0_t, if_pos h_4]) dX5_singleItems_17
set_option maxHeartbeats 400000 in
set_option maxRecDepth 100000 in
theorem c_X5_singleItems3 (l : Launch) (D : va_G) (cy : Nat → ClassId) (A : Nat → Prop) (r : RS) (g : CG) (sz : Nat) (t : Nat) (vt : Value)  (hvt : vt = va_rf (c_col (gA g) t)) (ht_t : t ≤ rT r) (hV : VR r) (hM0 : rMn r 0 ≤ 30) (hTb : rT r < 100000) (hMb : rM r < 100000) : Met l yX5_singleItems (px_w yX5_singleItems cX5_singleItems 5 (some .int)) (rmd 6 0 0) (px_P D cy [vt, .int 3] sz (CR D cy A r g)) (px_V (some (.int (nI (f_si r 3 t))))) 0 0 (fun _ => False) := by
  by_cases h0_t : t = 0
  · have e_vt : vt = .null := (hvt.trans (col_0 h0_t).symm)
    subst e_vt
    refine px_met (by decide) (Nat.le_of_ble_eq_true rfl) ?_
    intro p e s m below meth c F hr hlocks hnm hK hsz hR ls hl
    have hx := F.1
    have hb := F.2.1
    have hl : lv_has ls 5 [(0, .null), (1, .int 3)] := hl
    refine lv_aload_nN hx hb dX5_singleItems_0 rfl (lv_at hl 0 rfl) ?_
    refine lv_instN hx hb dX5_singleItems_1 ?_
    refine lv_if_eq (tgt := 18) hx hb dX5_singleItems_4 (by decide) (fun _ => ?_) (fun h => absurd h (by decide))
    refine lv_iconst (v := 0) hx hb dX5_singleItems_18 (by decide) ?_
    refine lv_istore_n (lv' := [(2, .int 0), (0, .null), (1, .int 3)]) hx hb dX5_singleItems_19 rfl hl (by decide) rfl (fun ls hl => ?_)
    refine lv_aload_nN hx hb dX5_singleItems_20 rfl (lv_at hl 1 rfl) ?_
    refine lv_instN hx hb dX5_singleItems_21 ?_
    refine lv_if_eq (tgt := 87) hx hb dX5_singleItems_24 (by decide) (fun _ => ?_) (fun h => absurd h (by decide))
    refine lv_iload_n hx hb dX5_singleItems_87 rfl (lv_at hl 0 rfl) ?_
    exact pv_iret F hr hlocks (by rw [h0_t, si_0]; rfl) dX5_singleItems_88
  · have e_vt : vt = .ref (gA g (3 * t)) := (hvt.trans (col_t h0_t).symm)
    subst e_vt
    refine px_met (by decide) (Nat.le_of_ble_eq_true rfl) ?_
    intro p e s m below meth c F hr hlocks hnm hK hsz hR ls hl
    have hx := F.1
    have hb := F.2.1
    have hl : lv_has ls 5 [(0, .ref (gA g (3 * t))), (1, .int 3)] := hl
    refine lv_aload_n hx hb dX5_singleItems_0 rfl (lv_at hl 0 rfl) ?_
    have hva := hV.2.1 t h0_t ht_t
    have hm30 := hva.2.1
    refine c_iP F hK hR (t := t) (by omega) (show t ≤ rT r by omega) kw_classLink_RX5_125 dX5_singleItems_1 ?_
    refine x_ifeq_b (tgt := 18) hx hb dX5_singleItems_4 (by decide) (fun h_4 => ?_) (fun h_4 => ?_)
    · have h_4 : ¬ (rK r t < 8) := of_decide_eq_false h_4
      refine lv_iconst (v := 0) hx hb dX5_singleItems_18 (by decide) ?_
      refine lv_istore_n (lv' := [(2, .int 0), (0, .ref (gA g (3 * t))), (1, .int 3)]) hx hb dX5_singleItems_19 rfl hl (by decide) rfl (fun ls hl => ?_)
      refine lv_aload_n hx hb dX5_singleItems_20 rfl (lv_at hl 1 rfl) ?_
      refine c_iH F hK hR (t := t) (by omega) (show t ≤ rT r by omega) kw_classLink_RX5_158 dX5_singleItems_21 ?_
      refine x_ifeq_b (tgt := 87) hx hb dX5_singleItems_24 (by decide) (fun h_24 => by exfalso; have h_24 : ¬ (8 ≤ rK r t) := of_decide_eq_false h_24; omega) (fun h_24 => ?_)
      have h_24 : 8 ≤ rK r t := of_decide_eq_true h_24
      refine lv_aload_n hx hb dX5_singleItems_27 rfl (lv_at hl 1 rfl) ?_
      refine c_cH F hK hR (t := t) (by omega) (show t ≤ rT r by omega) (show 8 ≤ rK r t by omega) kw_classLink_RX5_158 dX5_singleItems_28 ?_
      refine lv_astore_n (lv' := [(3, .ref (gA g (3 * t))), (2, .int 0), (0, .ref (gA g (3 * t))), (1, .int 3)]) hx hb dX5_singleItems_31 rfl hl (by decide) rfl (fun ls hl => ?_)
      refine lv_iload_n hx hb dX5_singleItems_32 rfl (lv_at hl 3 rfl) ?_
      refine lv_if_le (tgt := 87) hx hb dX5_singleItems_33 (by decide) (fun h => absurd h (by decide)) (fun _ => ?_)
      refine lv_iconst (v := 0) hx hb dX5_singleItems_36 (by decide) ?_
      refine lv_istore (lv' := [(4, .int 0), (3, .ref (gA g (3 * t))), (2, .int 0), (0, .ref (gA g (3 * t))), (1, .int 3)]) hx hb dX5_singleItems_37 hl (by decide) rfl (fun ls hl => ?_)
      have loop : ∀ (d k : Nat), k + d = rMn r t → ∀ (ls : Array Slot), lv_has ls 5 [(4, .int (nI k)), (3, .ref (gA g (3 * t))), (2, .int (nI (f_cnt (f_sp (f_si r 2) r t) k))), (0, .ref (gA g (3 * t))), (1, .int 3)] → W p l e (rmd 6 0 0) s m ([.ref (gA g (3 * t)), .int 3] : List Value).toArray below meth c s.heap [] 0 0 (MQ below (px_V (some (.int (nI (f_si r 3 t))))) ([.ref (gA g (3 * t)), .int 3] : List Value).toArray s 0 0 (fun _ => False)) (F0 m 39 ls []) := by
        intro d
        induction d with
        | zero =>
          intro k hk ls hl
          refine lv_iload hx hb dX5_singleItems_39 (lv_at hl 0 rfl) ?_
          refine lv_aload_n hx hb dX5_singleItems_41 rfl (lv_at hl 1 rfl) ?_
          refine c_gitems F hK hR (t := t) (by omega) (show t ≤ rT r by omega) (show 8 ≤ rK r t by omega) kw_fieldLink_RX5_179 dX5_singleItems_42 ?_
          refine c_lenb F hK hR (t := t) (by omega) (show t ≤ rT r by omega) dX5_singleItems_45 ?_
          refine lv_icmp_ge (tgt := 87) hx hb dX5_singleItems_46 (by decide) (fun h_46 => ?_) (fun h_46 => by exfalso; have h_46 : k < (rMn r t) := nInle (show ¬ nI (rMn r t) ≤ nI k from h_46) (by omega) (by omega); omega)
          have h_46 : (rMn r t) ≤ k := nIle (show nI (rMn r t) ≤ nI k from h_46) (by omega) (by omega)
          refine lv_iload_n hx hb dX5_singleItems_87 rfl (lv_at hl 2 rfl) ?_
          exact pv_iret F hr hlocks (by show _ = some (Value.int (nI (if t = 0 then 0 else if rK r t < 8 then rMn r t else _))); rw [if_neg h0_t, if_neg h_4]; rw [show k = rMn r t by omega]) dX5_singleItems_88
        | succ d ih_loop =>
          intro k hk ls hl
          refine lv_iload hx hb dX5_singleItems_39 (lv_at hl 0 rfl) ?_
          refine lv_aload_n hx hb dX5_singleItems_41 rfl (lv_at hl 1 rfl) ?_
          refine c_gitems F hK hR (t := t) (by omega) (show t ≤ rT r by omega) (show 8 ≤ rK r t by omega) kw_fieldLink_RX5_179 dX5_singleItems_42 ?_
          refine c_lenb F hK hR (t := t) (by omega) (show t ≤ rT r by omega) dX5_singleItems_45 ?_
          refine lv_icmp_ge (tgt := 87) hx hb dX5_singleItems_46 (by decide) (fun h_46 => by exfalso; have h_46 : (rMn r t) ≤ k := nIle (show nI (rMn r t) ≤ nI k from h_46) (by omega) (by omega); omega) (fun h_46 => ?_)
          have h_46 : k < (rMn r t) := nInle (show ¬ nI (rMn r t) ≤ nI k from h_46) (by omega) (by omega)
          refine lv_iload_n hx hb dX5_singleItems_49 rfl (lv_at hl 2 rfl) ?_
          refine lv_aload_n hx hb dX5_singleItems_50 rfl (lv_at hl 1 rfl) ?_
          refine c_gitems F hK hR (t := t) (by omega) (show t ≤ rT r by omega) (show 8 ≤ rK r t by omega) kw_fieldLink_RX5_179 dX5_singleItems_51 ?_
          refine lv_iload hx hb dX5_singleItems_54 (lv_at hl 0 rfl) ?_
          refine c_lditem F hK hR (t := t) (by omega) (show t ≤ rT r by omega) (show 8 ≤ rK r t by omega) (show rMn r t < 2 ^ 31 by omega) k rfl (show k < rMn r t by omega) dX5_singleItems_56 ?_
          have hv9 := (hV.2.1 t h0_t ht_t).2.2 k (by omega) (by omega)
          rcases c_ref_3 (r := r) (kd := rK r t) (v := f_at r t k) (gA g) hv9.1 hv9.2.1 hv9.2.2 with ⟨hw0, hq9⟩ | ⟨w, hw0, hw1, hw2, hw3, hq9⟩ | ⟨w, hw0, hw1, hw2, hw3, hq9⟩
          · refine px_topv (y := .null) (by rw [hq9]; rfl) ?_
            have hsp : (f_sp (f_si r 2) r t) k = f_si r 2 (f_rowAt r t (nI k)) := sp_n hV h0_t ht_t (by omega) 2 hw0
            refine lv_instN hx hb dX5_singleItems_57 ?_
            refine lv_if_eq (tgt := 67) hx hb dX5_singleItems_60 (by decide) (fun _ => ?_) (fun h => absurd h (by decide))
            refine lv_aload_n hx hb dX5_singleItems_67 rfl (lv_at hl 1 rfl) ?_
            refine lv_iload hx hb dX5_singleItems_68 (lv_at hl 0 rfl) ?_
            refine px_goV (st1 := [va_rf (c_col (gA g) (f_rowAt r t (nI k))), .int (nI (f_cnt (f_sp (f_si r 2) r t) k))]) (px_callS F hK (c_X5_rowAt l D cy A r g _ t (.ref (gA g (3 * t))) (nI k) (col_t (by omega)) (by omega) (by omega) (by omega) (fun q => (hV.2.1 _ q (by omega)).2.2)) kc_X5_rowAt kw_methodLink_RX5_105 rfl hR rfl ⟨rfl, rfl⟩ ⟨Nat.le_of_ble_eq_true rfl, Nat.le_of_ble_eq_true rfl⟩ hl.1 rfl (Nat.le_of_ble_eq_true rfl) dX5_singleItems_70 ⟨Nat.zero_le _, Nat.zero_le _⟩) rfl ?_
            refine lv_iload_n hx hb dX5_singleItems_73 rfl (lv_at hl 4 rfl) ?_
            refine lv_iconst (v := 1) hx hb dX5_singleItems_74 (by decide) ?_
            refine lv_isub hx hb dX5_singleItems_75 ?_
            refine px_topi (y := 2) (by decide) ?_
            refine px_goV (st1 := [.int (nI (f_si r 2 (f_rowAt r t (nI k)))), .int (nI (f_cnt (f_sp (f_si r 2) r t) k))]) (px_callS F hK (c_X5_singleItems2 l D cy A r g _ (f_rowAt r t (nI k)) (va_rf (c_col (gA g) (f_rowAt r t (nI k)))) rfl (rowAt_le hV ht_t) hV hM0 hTb hMb) kc_X5_singleItems kw_methodLink_RX5_127 rfl hR rfl ⟨rfl, rfl⟩ ⟨Nat.le_of_ble_eq_true rfl, Nat.le_of_ble_eq_true rfl⟩ hl.1 rfl (Nat.le_of_ble_eq_true rfl) dX5_singleItems_76 ⟨Nat.zero_le _, Nat.zero_le _⟩) rfl ?_
            refine lv_iadd hx hb dX5_singleItems_79 ?_
            refine px_topi (y := nI ((f_cnt (f_sp (f_si r 2) r t) k) + (f_si r 2 (f_rowAt r t (nI k))))) (nI_add _ _) ?_
            refine lv_istore_n (lv' := [(2, .int (nI ((f_cnt (f_sp (f_si r 2) r t) k) + (f_si r 2 (f_rowAt r t (nI k)))))), (4, .int (nI k)), (3, .ref (gA g (3 * t))), (0, .ref (gA g (3 * t))), (1, .int 3)]) hx hb dX5_singleItems_80 rfl hl (by decide) rfl (fun ls hl => ?_)
            refine lv_iinc (v := nI (k + 1)) (lv' := [(4, .int (nI (k + 1))), (2, .int (nI ((f_cnt (f_sp (f_si r 2) r t) k) + (f_si r 2 (f_rowAt r t (nI k)))))), (3, .ref (gA g (3 * t))), (0, .ref (gA g (3 * t))), (1, .int 3)]) hx hb dX5_singleItems_81 hl (k := 1) rfl (by show nI k + 1 = nI (k + 1); exact nI_1 _) (by decide) rfl (fun ls hl => ?_)
            refine lv_goto (tgt := 39) hx hb dX5_singleItems_84 (by decide) ?_
            have e_2 : (nI (f_cnt (f_sp (f_si r 2) r t) (k + 1)) : Int32) = nI ((f_cnt (f_sp (f_si r 2) r t) k) + (f_si r 2 (f_rowAt r t (nI k)))) := (by rw [show f_cnt (f_sp (f_si r 2) r t) (k + 1) = f_cnt (f_sp (f_si r 2) r t) k + (f_sp (f_si r 2) r t) k from rfl, hsp])
            exact ih_loop (k + 1) (by omega) _ (by rw [e_2]; exact lv_sub hl [0, 2, 1, 3, 4] rfl)
          · refine px_topv (y := .ref (gA g (3 * w + 2))) (by rw [hq9]; rfl) ?_
            have hsp : (f_sp (f_si r 2) r t) k = 1 := (by unfold f_sp; rw [if_pos hw3, if_neg (by rw [hw0]; exact lN_0 (by omega) hw1)])
            refine c_iVv F hK hR (v := w) (by omega) (show w ≤ rM r by omega) kw_classLink_RX5_99 dX5_singleItems_57 ?_
            refine lv_if_eq (tgt := 67) hx hb dX5_singleItems_60 (by decide) (fun h => absurd h (by decide)) (fun _ => ?_)
            refine lv_iconst (v := 1) hx hb dX5_singleItems_63 (by decide) ?_
            refine lv_goto (tgt := 79) hx hb dX5_singleItems_64 (by decide) ?_
            refine lv_iadd hx hb dX5_singleItems_79 ?_
            refine px_topi (y := nI ((f_cnt (f_sp (f_si r 2) r t) k) + 1)) (nI_add _ _) ?_
            refine lv_istore_n (lv' := [(2, .int (nI ((f_cnt (f_sp (f_si r 2) r t) k) + 1))), (4, .int (nI k)), (3, .ref (gA g (3 * t))), (0, .ref (gA g (3 * t))), (1, .int 3)]) hx hb dX5_singleItems_80 rfl hl (by decide) rfl (fun ls hl => ?_)
            refine lv_iinc (v := nI (k + 1)) (lv' := [(4, .int (nI (k + 1))), (2, .int (nI ((f_cnt (f_sp (f_si r 2) r t) k) + 1))), (3, .ref (gA g (3 * t))), (0, .ref (gA g (3 * t))), (1, .int 3)]) hx hb dX5_singleItems_81 hl (k := 1) rfl (by show nI k + 1 = nI (k + 1); exact nI_1 _) (by decide) rfl (fun ls hl => ?_)
            refine lv_goto (tgt := 39) hx hb dX5_singleItems_84 (by decide) ?_
            have e_2 : (nI (f_cnt (f_sp (f_si r 2) r t) (k + 1)) : Int32) = nI ((f_cnt (f_sp (f_si r 2) r t) k) + 1) := (by rw [show f_cnt (f_sp (f_si r 2) r t) (k + 1) = f_cnt (f_sp (f_si r 2) r t) k + (f_sp (f_si r 2) r t) k from rfl, hsp])
            exact ih_loop (k + 1) (by omega) _ (by rw [e_2]; exact lv_sub hl [0, 2, 1, 3, 4] rfl)
          · refine px_topv (y := .ref (gA g (3 * w))) (by rw [hq9]; rfl) ?_
            have hsp : (f_sp (f_si r 2) r t) k = f_si r 2 (f_rowAt r t (nI k)) := (by unfold f_sp; rw [if_neg (by omega), rowAt_in hV h0_t ht_t (by omega) hw3])
            refine c_iVt F hK hR (t := w) (by omega) (show w ≤ rT r by omega) kw_classLink_RX5_99 dX5_singleItems_57 ?_
            refine lv_if_eq (tgt := 67) hx hb dX5_singleItems_60 (by decide) (fun _ => ?_) (fun h => absurd h (by decide))
            refine lv_aload_n hx hb dX5_singleItems_67 rfl (lv_at hl 1 rfl) ?_
            refine lv_iload hx hb dX5_singleItems_68 (lv_at hl 0 rfl) ?_
            refine px_goV (st1 := [va_rf (c_col (gA g) (f_rowAt r t (nI k))), .int (nI (f_cnt (f_sp (f_si r 2) r t) k))]) (px_callS F hK (c_X5_rowAt l D cy A r g _ t (.ref (gA g (3 * t))) (nI k) (col_t (by omega)) (by omega) (by omega) (by omega) (fun q => (hV.2.1 _ q (by omega)).2.2)) kc_X5_rowAt kw_methodLink_RX5_105 rfl hR rfl ⟨rfl, rfl⟩ ⟨Nat.le_of_ble_eq_true rfl, Nat.le_of_ble_eq_true rfl⟩ hl.1 rfl (Nat.le_of_ble_eq_true rfl) dX5_singleItems_70 ⟨Nat.zero_le _, Nat.zero_le _⟩) rfl ?_
            refine lv_iload_n hx hb dX5_singleItems_73 rfl (lv_at hl 4 rfl) ?_
            refine lv_iconst (v := 1) hx hb dX5_singleItems_74 (by decide) ?_
            refine lv_isub hx hb dX5_singleItems_75 ?_
            refine px_topi (y := 2) (by decide) ?_
            refine px_goV (st1 := [.int (nI (f_si r 2 (f_rowAt r t (nI k)))), .int (nI (f_cnt (f_sp (f_si r 2) r t) k))]) (px_callS F hK (c_X5_singleItems2 l D cy A r g _ (f_rowAt r t (nI k)) (va_rf (c_col (gA g) (f_rowAt r t (nI k)))) rfl (rowAt_le hV ht_t) hV hM0 hTb hMb) kc_X5_singleItems kw_methodLink_RX5_127 rfl hR rfl ⟨rfl, rfl⟩ ⟨Nat.le_of_ble_eq_true rfl, Nat.le_of_ble_eq_true rfl⟩ hl.1 rfl (Nat.le_of_ble_eq_true rfl) dX5_singleItems_76 ⟨Nat.zero_le _, Nat.zero_le _⟩) rfl ?_
            refine lv_iadd hx hb dX5_singleItems_79 ?_
            refine px_topi (y := nI ((f_cnt (f_sp (f_si r 2) r t) k) + (f_si r 2 (f_rowAt r t (nI k))))) (nI_add _ _) ?_
            refine lv_istore_n (lv' := [(2, .int (nI ((f_cnt (f_sp (f_si r 2) r t) k) + (f_si r 2 (f_rowAt r t (nI k)))))), (4, .int (nI k)), (3, .ref (gA g (3 * t))), (0, .ref (gA g (3 * t))), (1, .int 3)]) hx hb dX5_singleItems_80 rfl hl (by decide) rfl (fun ls hl => ?_)
            refine lv_iinc (v := nI (k + 1)) (lv' := [(4, .int (nI (k + 1))), (2, .int (nI ((f_cnt (f_sp (f_si r 2) r t) k) + (f_si r 2 (f_rowAt r t (nI k)))))), (3, .ref (gA g (3 * t))), (0, .ref (gA g (3 * t))), (1, .int 3)]) hx hb dX5_singleItems_81 hl (k := 1) rfl (by show nI k + 1 = nI (k + 1); exact nI_1 _) (by decide) rfl (fun ls hl => ?_)
            refine lv_goto (tgt := 39) hx hb dX5_singleItems_84 (by decide) ?_
            have e_2 : (nI (f_cnt (f_sp (f_si r 2) r t) (k + 1)) : Int32) = nI ((f_cnt (f_sp (f_si r 2) r t) k) + (f_si r 2 (f_rowAt r t (nI k)))) := (by rw [show f_cnt (f_sp (f_si r 2) r t) (k + 1) = f_cnt (f_sp (f_si r 2) r t) k + (f_sp (f_si r 2) r t) k from rfl, hsp])
            exact ih_loop (k + 1) (by omega) _ (by rw [e_2]; exact lv_sub hl [0, 2, 1, 3, 4] rfl)
      have e_2 : (nI (f_cnt (f_sp (f_si r 2) r t) 0) : Int32) = 0 := (by rfl)
      exact loop (rMn r t) 0 (by omega) _ (by rw [e_2]; exact lv_sub hl [0, 1, 2, 3, 4] rfl)
    · have h_4 : rK r t < 8 := of_decide_eq_true h_4
      refine lv_aload_n hx hb dX5_singleItems_7 rfl (lv_at hl 0 rfl) ?_
      refine c_cP F hK hR (t := t) (by omega) (show t ≤ rT r by omega) (show rK r t < 8 by omega) kw_classLink_RX5_125 dX5_singleItems_8 ?_
      refine lv_astore_n (lv' := [(2, .ref (gA g (3 * t))), (0, .ref (gA g (3 * t))), (1, .int 3)]) hx hb dX5_singleItems_11 rfl hl (by decide) rfl (fun ls hl => ?_)
      refine lv_aload_n hx hb dX5_singleItems_12 rfl (lv_at hl 0 rfl) ?_
      refine c_gbits F hK hR (t := t) (by omega) (show t ≤ rT r by omega) (show rK r t < 8 by omega) kw_fieldLink_RX5_183 dX5_singleItems_13 ?_
      refine c_lenb F hK hR (t := t) (by omega) (show t ≤ rT r by omega) dX5_singleItems_16 ?_
      exact pv_iret F hr hlocks (by show _ = some (Value.int (nI (if t = 0 then 0 else if rK r t < 8 then rMn r t else _))); rw [if_neg h0_t, if_pos h_4]) dX5_singleItems_17
