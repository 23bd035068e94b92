/-! the class: heldColumns, begin, isTooDeep, haveSameBits -/
set_option maxHeartbeats 400000 in
set_option maxRecDepth 100000 in
theorem c_X5_heldColumns (l : Launch) (D : va_G) (cy : Nat → ClassId) (A : Nat → Prop) (r : RS) (g : CG) (sz : Nat)     : Met l yX5_heldColumns (px_w yX5_heldColumns cX5_heldColumns 3 (some .int)) (rmd 1 0 0) (px_P D cy [.ref (gA g 0)] sz (CR D cy A r g)) (px_V (some (.int (nI (f_held r))))) 0 0 (fun _ => False) := by
  refine px_met (by decide) (Nat.le_of_ble_eq_true rfl) ?_
  intro p e s m below meth c F hr hlocks hnm hK hsz hR ls hl
  have hx := F.1
  have hb := F.2.1
  have hl : lv_has ls 3 [(0, .ref (gA g 0))] := hl
  refine lv_iconst (v := 0) hx hb dX5_heldColumns_0 (by decide) ?_
  refine lv_istore_n (lv' := [(1, .int 0), (0, .ref (gA g 0))]) hx hb dX5_heldColumns_1 rfl hl (by decide) rfl (fun ls hl => ?_)
  refine lv_iconst (v := 0) hx hb dX5_heldColumns_2 (by decide) ?_
  refine lv_istore_n (lv' := [(2, .int 0), (1, .int 0), (0, .ref (gA g 0))]) hx hb dX5_heldColumns_3 rfl hl (by decide) rfl (fun ls hl => ?_)
  have loop : ∀ (d k : Nat), k + d = 16 → ∀ (ls : Array Slot), lv_has ls 3 [(2, .int (nI k)), (1, .int (nI (f_cnt (fun k => if rHd r k = 0 then 0 else 1) k))), (0, .ref (gA g 0))] → W p l e (rmd 1 0 0) s m ([.ref (gA g 0)] : List Value).toArray below meth c s.heap [] 0 0 (MQ below (px_V (some (.int (nI (f_held r))))) ([.ref (gA g 0)] : List Value).toArray s 0 0 (fun _ => False)) (F0 m 4 ls []) := by
    intro d
    induction d with
    | zero =>
      intro k hk ls hl
      refine lv_iload_n hx hb dX5_heldColumns_4 rfl (lv_at hl 0 rfl) ?_
      refine lv_bipush (v := 16) hx hb dX5_heldColumns_5 (by decide) ?_
      refine lv_icmp_ge (tgt := 28) hx hb dX5_heldColumns_7 (by decide) (fun h_7 => ?_) (fun h_7 => by exfalso; have h_7 : k < 16 := nInle (show ¬ nI 16 ≤ nI k from h_7) (by omega) (by omega); omega)
      have h_7 : 16 ≤ k := nIle (show nI 16 ≤ nI k from h_7) (by omega) (by omega)
      refine lv_iload_n hx hb dX5_heldColumns_28 rfl (lv_at hl 1 rfl) ?_
      exact pv_iret F hr hlocks (by rw [show k = 16 by omega]; rfl) dX5_heldColumns_29
    | succ d ih_loop =>
      intro k hk ls hl
      refine lv_iload_n hx hb dX5_heldColumns_4 rfl (lv_at hl 0 rfl) ?_
      refine lv_bipush (v := 16) hx hb dX5_heldColumns_5 (by decide) ?_
      refine lv_icmp_ge (tgt := 28) hx hb dX5_heldColumns_7 (by decide) (fun h_7 => by exfalso; have h_7 : 16 ≤ k := nIle (show nI 16 ≤ nI k from h_7) (by omega) (by omega); omega) (fun h_7 => ?_)
      have h_7 : k < 16 := nInle (show ¬ nI 16 ≤ nI k from h_7) (by omega) (by omega)
      refine lv_aload_n hx hb dX5_heldColumns_10 rfl (lv_at hl 2 rfl) ?_
      refine c_gx F hK hR 0 (by decide) rfl kw_fieldLink_RX5_11 dX5_heldColumns_11 ?_
      refine lv_iload_n hx hb dX5_heldColumns_14 rfl (lv_at hl 0 rfl) ?_
      refine c_ldcol F hK hR k rfl (by omega) dX5_heldColumns_15 ?_
      by_cases h0_q : rHd r k = 0
      · have e_q : va_rf (c_col (gA g) (rHd r k)) = .null := (col_0 h0_q).symm
        refine W.eq (g2 := F0 m 16 ls [.null]) (by rw [e_q]) ?_
        refine lv_ifnullN (tgt := 22) hx hb dX5_heldColumns_16 (by decide) ?_
        refine lv_iinc (v := nI (k + 1)) (lv' := [(2, .int (nI (k + 1))), (1, .int (nI (f_cnt (fun k => if rHd r k = 0 then 0 else 1) k))), (0, .ref (gA g 0))]) hx hb dX5_heldColumns_22 hl (k := 0) rfl (by show nI k + 1 = nI (k + 1); exact nI_1 _) (by decide) rfl (fun ls hl => ?_)
        refine lv_goto (tgt := 4) hx hb dX5_heldColumns_25 (by decide) ?_
        have e_1 : (nI (f_cnt (fun k => if rHd r k = 0 then 0 else 1) (k + 1)) : Int32) = nI (f_cnt (fun k => if rHd r k = 0 then 0 else 1) k) := (by simp [f_cnt, h0_q])
        exact ih_loop (k + 1) (by omega) _ (by rw [e_1]; exact lv_sub hl [0, 1, 2] rfl)
      · have e_q : va_rf (c_col (gA g) (rHd r k)) = .ref (gA g (3 * (rHd r k))) := (col_t h0_q).symm
        refine W.eq (g2 := F0 m 16 ls [.ref (gA g (3 * (rHd r k)))]) (by rw [e_q]) ?_
        refine lv_ifnull hx hb dX5_heldColumns_16 ?_
        refine lv_iinc (v := nI ((f_cnt (fun k => if rHd r k = 0 then 0 else 1) k) + 1)) (lv' := [(1, .int (nI ((f_cnt (fun k => if rHd r k = 0 then 0 else 1) k) + 1))), (2, .int (nI k)), (0, .ref (gA g 0))]) hx hb dX5_heldColumns_19 hl (k := 1) rfl (by show nI (f_cnt (fun k => if rHd r k = 0 then 0 else 1) k) + 1 = nI ((f_cnt (fun k => if rHd r k = 0 then 0 else 1) k) + 1); exact nI_1 _) (by decide) rfl (fun ls hl => ?_)
        refine lv_iinc (v := nI (k + 1)) (lv' := [(2, .int (nI (k + 1))), (1, .int (nI ((f_cnt (fun k => if rHd r k = 0 then 0 else 1) k) + 1))), (0, .ref (gA g 0))]) hx hb dX5_heldColumns_22 hl (k := 1) rfl (by show nI k + 1 = nI (k + 1); exact nI_1 _) (by decide) rfl (fun ls hl => ?_)
        refine lv_goto (tgt := 4) hx hb dX5_heldColumns_25 (by decide) ?_
        have e_1 : (nI (f_cnt (fun k => if rHd r k = 0 then 0 else 1) (k + 1)) : Int32) = nI ((f_cnt (fun k => if rHd r k = 0 then 0 else 1) k) + 1) := (by simp [f_cnt, h0_q])
        exact ih_loop (k + 1) (by omega) _ (by rw [e_1]; exact lv_sub hl [0, 1, 2] rfl)
  have e_1 : (nI (f_cnt (fun k => if rHd r k = 0 then 0 else 1) 0) : Int32) = 0 := (by rfl)
  exact loop 16 0 (by omega) _ (by rw [e_1]; exact lv_sub hl [0, 1, 2] rfl)
set_option maxHeartbeats 400000 in
set_option maxRecDepth 100000 in
theorem c_X5_begin (l : Launch) (D : va_G) (cy : Nat → ClassId) (A : Nat → Prop) (r : RS) (g : CG) (sz : Nat)     : Met l yX5_begin (px_w yX5_begin cX5_begin 2 none) (rmd 1 0 0) (px_P D cy [.ref (gA g 0)] sz (CR D cy A r g)) (px_Q (px_Cx D cy A g (none) ((f_clear r).1)) A) 0 0 A := by
  refine px_met (by decide) (Nat.le_of_ble_eq_true rfl) ?_
  intro p e s m below meth c F hr hlocks hnm hK hsz hR ls hl
  have hx := F.1
  have hb := F.2.1
  have hS : va_S A s.heap s.heap [] := va_S.rf
  have hl : lv_has ls 2 [(0, .ref (gA g 0))] := hl
  refine lv_iconst (v := 0) hx hb dX5_begin_0 (by decide) ?_
  refine lv_istore_n (lv' := [(1, .int 0), (0, .ref (gA g 0))]) hx hb dX5_begin_1 rfl hl (by decide) rfl (fun ls hl => ?_)
  have loop : ∀ (d k : Nat), k + d = 16 → ∀ (H : Heap) (locs : List Loc) (ls : Array Slot), CR D cy A (sHd r (clrH (rHd r) k)) g H → va_S A s.heap H locs → lv_has ls 2 [(1, .int (nI k)), (0, .ref (gA g 0))] → W p l e (rmd 1 0 0) s m ([.ref (gA g 0)] : List Value).toArray below meth c H locs (0) (0) (MQ below (px_Q (px_Cx D cy A g (none) ((f_clear r).1)) A) ([.ref (gA g 0)] : List Value).toArray s (0) (0) A) (F0 m 2 ls []) := by
    intro d
    induction d with
    | zero =>
      intro k hk H locs ls hR hS hl
      refine lv_iload_n hx hb dX5_begin_2 rfl (lv_at hl 0 rfl) ?_
      refine lv_bipush (v := 16) hx hb dX5_begin_3 (by decide) ?_
      refine lv_icmp_ge (tgt := 21) hx hb dX5_begin_5 (by decide) (fun h_5 => ?_) (fun h_5 => by exfalso; have h_5 : k < 16 := nInle (show ¬ nI 16 ≤ nI k from h_5) (by omega) (by omega); omega)
      have h_5 : 16 ≤ k := nIle (show nI 16 ≤ nI k from h_5) (by omega) (by omega)
      have hkn : k = 16 := (by omega)
      refine lv_iconst (v := 0) hx hb dX5_begin_21 (by decide) ?_
      refine lv_istore_n (lv' := [(1, .int 0), (0, .ref (gA g 0))]) hx hb dX5_begin_22 rfl hl (by decide) rfl (fun ls hl => ?_)
      have loop2 : ∀ (d2 k2 : Nat), k2 + d2 = 8 → ∀ (H : Heap) (locs : List Loc) (ls : Array Slot), CR D cy A (sTr (sHd r (clrH (rHd r) k)) (clrT (rTr r) k2)) g H → va_S A s.heap H locs → lv_has ls 2 [(1, .int (nI k2)), (0, .ref (gA g 0))] → W p l e (rmd 1 0 0) s m ([.ref (gA g 0)] : List Value).toArray below meth c H locs (0) (0) (MQ below (px_Q (px_Cx D cy A g (none) ((f_clear r).1)) A) ([.ref (gA g 0)] : List Value).toArray s (0) (0) A) (F0 m 23 ls []) := by
        intro d2
        induction d2 with
        | zero =>
          intro k2 hk2 H locs ls hR hS hl
          refine lv_iload_n hx hb dX5_begin_23 rfl (lv_at hl 0 rfl) ?_
          refine lv_bipush (v := 8) hx hb dX5_begin_24 (by decide) ?_
          refine lv_icmp_ge (tgt := 42) hx hb dX5_begin_26 (by decide) (fun h_26 => ?_) (fun h_26 => by exfalso; have h_26 : k2 < 8 := nInle (show ¬ nI 8 ≤ nI k2 from h_26) (by omega) (by omega); omega)
          have h_26 : 8 ≤ k2 := nIle (show nI 8 ≤ nI k2 from h_26) (by omega) (by omega)
          refine lv_aload_n hx hb dX5_begin_42 rfl (lv_at hl 1 rfl) ?_
          refine lv_iconst (v := 0) hx hb dX5_begin_43 (by decide) ?_
          refine c_pPa F hK hR hS (v := 0) rfl kw_fieldLink_RX5_137 dX5_begin_44 (fun H locs hR hS => ?_)
          refine lv_aload_n hx hb dX5_begin_47 rfl (lv_at hl 1 rfl) ?_
          refine lv_iconst (v := -1) hx hb dX5_begin_48 (by decide) ?_
          refine c_pNu F hK hR hS (v := (-1)) rfl kw_fieldLink_RX5_140 dX5_begin_49 (fun H locs hR hS => ?_)
          refine lv_aload_n hx hb dX5_begin_52 rfl (lv_at hl 1 rfl) ?_
          refine lv_iconst (v := 0) hx hb dX5_begin_53 (by decide) ?_
          refine c_pFa F hK hR hS (v := 0) rfl kw_fieldLink_RX5_143 dX5_begin_54 (fun H locs hR hS => ?_)
          have hkn2 : k2 = 8 := (by omega)
          exact px_vret F hr hlocks hS (by have e : (f_clear r).1 = sFa (sNu (sPa (sTr (sHd r (clrH (rHd r) k)) (clrT (rTr r) k2)) 0) (-1)) 0 := (by rw [hkn, hkn2]; rfl); rw [e]; exact ⟨rfl, hR⟩) dX5_begin_57
        | succ d2 ih_loop2 =>
          intro k2 hk2 H locs ls hR hS hl
          refine lv_iload_n hx hb dX5_begin_23 rfl (lv_at hl 0 rfl) ?_
          refine lv_bipush (v := 8) hx hb dX5_begin_24 (by decide) ?_
          refine lv_icmp_ge (tgt := 42) hx hb dX5_begin_26 (by decide) (fun h_26 => by exfalso; have h_26 : 8 ≤ k2 := nIle (show nI 8 ≤ nI k2 from h_26) (by omega) (by omega); omega) (fun h_26 => ?_)
          have h_26 : k2 < 8 := nInle (show ¬ nI 8 ≤ nI k2 from h_26) (by omega) (by omega)
          refine lv_aload_n hx hb dX5_begin_29 rfl (lv_at hl 1 rfl) ?_
          refine c_gx F hK hR 1 (by decide) rfl kw_fieldLink_RX5_15 dX5_begin_30 ?_
          refine lv_iload_n hx hb dX5_begin_33 rfl (lv_at hl 0 rfl) ?_
          refine lv_iconst (v := -1) hx hb dX5_begin_34 (by decide) ?_
          refine c_sttr F hK hR hS k2 (-1) rfl rfl (by omega) dX5_begin_35 (fun H locs hR hS => ?_)
          refine lv_iinc (v := nI (k2 + 1)) (lv' := [(1, .int (nI (k2 + 1))), (0, .ref (gA g 0))]) hx hb dX5_begin_36 hl (k := 0) rfl (by show nI k2 + 1 = nI (k2 + 1); exact nI_1 _) (by decide) rfl (fun ls hl => ?_)
          refine lv_goto (tgt := 23) hx hb dX5_begin_39 (by decide) ?_
          exact ih_loop2 (k2 + 1) (by omega) _ _ _ (by rw [← clrT_s]; exact hR) hS (lv_sub hl [0, 1] rfl)
      exact loop2 8 0 (by omega) _ _ _ (by rw [clrT_0]; exact hR) hS (lv_sub hl [0, 1] rfl)
    | succ d ih_loop =>
      intro k hk H locs ls hR hS hl
      refine lv_iload_n hx hb dX5_begin_2 rfl (lv_at hl 0 rfl) ?_
      refine lv_bipush (v := 16) hx hb dX5_begin_3 (by decide) ?_
      refine lv_icmp_ge (tgt := 21) hx hb dX5_begin_5 (by decide) (fun h_5 => by exfalso; have h_5 : 16 ≤ k := nIle (show nI 16 ≤ nI k from h_5) (by omega) (by omega); omega) (fun h_5 => ?_)
      have h_5 : k < 16 := nInle (show ¬ nI 16 ≤ nI k from h_5) (by omega) (by omega)
      refine lv_aload_n hx hb dX5_begin_8 rfl (lv_at hl 1 rfl) ?_
      refine c_gx F hK hR 0 (by decide) rfl kw_fieldLink_RX5_11 dX5_begin_9 ?_
      refine lv_iload_n hx hb dX5_begin_12 rfl (lv_at hl 0 rfl) ?_
      refine lv_null hx hb dX5_begin_13 ?_
      refine c_stcol F hK hR hS k 0 rfl (col_0 rfl) (show 0 ≤ rT r by omega) (by omega) dX5_begin_14 (fun H locs hR hS => ?_)
      refine lv_iinc (v := nI (k + 1)) (lv' := [(1, .int (nI (k + 1))), (0, .ref (gA g 0))]) hx hb dX5_begin_15 hl (k := 0) rfl (by show nI k + 1 = nI (k + 1); exact nI_1 _) (by decide) rfl (fun ls hl => ?_)
      refine lv_goto (tgt := 2) hx hb dX5_begin_18 (by decide) ?_
      exact ih_loop (k + 1) (by omega) _ _ _ (by rw [← clrH_s]; exact hR) hS (lv_sub hl [0, 1] rfl)
  exact loop 16 0 (by omega) _ _ _ (by rw [clrH_0]; exact hR) hS (lv_sub hl [0, 1] rfl)
set_option maxHeartbeats 400000 in
set_option maxRecDepth 100000 in
theorem c_X5_isTooDeep (l : Launch) (D : va_G) (cy : Nat → ClassId) (sz : Nat)  (n mm ll : Int32)   : Met l yX5_isTooDeep (px_w yX5_isTooDeep cX5_isTooDeep 3 (some .boolean)) (rmd 2 0 0) (px_P D cy [.int n, .int mm, .int ll] sz (fun _ => True)) (px_V (some (.int (b2i (f_td n mm ll))))) 0 0 (fun _ => False) := by
  refine px_met (by decide) (Nat.le_of_ble_eq_true rfl) ?_
  intro p e s m below meth c F hr hlocks hnm hK hsz hR ls hl
  have hx := F.1
  have hb := F.2.1
  have hl : lv_has ls 3 [(0, .int n), (1, .int mm), (2, .int ll)] := hl
  refine lv_iload_n hx hb dX5_isTooDeep_0 rfl (lv_at hl 0 rfl) ?_
  refine lv_bipush (v := 30) hx hb dX5_isTooDeep_1 (by decide) ?_
  refine lv_icmp_gt (tgt := 18) hx hb dX5_isTooDeep_3 (by decide) (fun h_3 => ?_) (fun h_3 => ?_)
  · refine lv_iconst (v := 1) hx hb dX5_isTooDeep_18 (by decide) ?_
    exact pv_zret F hr hlocks (Or.inr rfl) (by simp [f_td, b2i, h_3]) dX5_isTooDeep_19
  · refine lv_iload_n hx hb dX5_isTooDeep_6 rfl (lv_at hl 1 rfl) ?_
    refine lv_bipush (v := 30) hx hb dX5_isTooDeep_7 (by decide) ?_
    refine lv_icmp_gt (tgt := 18) hx hb dX5_isTooDeep_9 (by decide) (fun h_9 => ?_) (fun h_9 => ?_)
    · refine lv_iconst (v := 1) hx hb dX5_isTooDeep_18 (by decide) ?_
      exact pv_zret F hr hlocks (Or.inr rfl) (by simp [f_td, b2i, h_3, h_9]) dX5_isTooDeep_19
    · refine lv_iload_n hx hb dX5_isTooDeep_12 rfl (lv_at hl 2 rfl) ?_
      refine lv_bipush (v := 30) hx hb dX5_isTooDeep_13 (by decide) ?_
      refine lv_icmp_le (tgt := 20) hx hb dX5_isTooDeep_15 (by decide) (fun h_15 => ?_) (fun h_15 => ?_)
      · have h_15 : ¬ 30 < ll := Int32.not_lt.mpr h_15
        refine lv_iload_n hx hb dX5_isTooDeep_20 rfl (lv_at hl 0 rfl) ?_
        refine lv_iconst (v := 0) hx hb dX5_isTooDeep_21 (by decide) ?_
        refine va_mmax hx hb (F.2.2.1.trans hl.1.symm) F.2.2.2.1 (F.2.2.2.2 _ kw_methodLink_RX5_152) (F.2.2.2.2 _ kw_static_Math_max_name) (F.2.2.2.2 _ kw_initialized_java_lang_Math) (F.2.2.2.2 _ kw_code_Math_max_name) (Nat.le_of_ble_eq_true rfl) (Nat.le_of_ble_eq_true rfl) (Nat.zero_le _) (Nat.zero_le _) dX5_isTooDeep_22 ?_
        refine lv_iload_n hx hb dX5_isTooDeep_25 rfl (lv_at hl 1 rfl) ?_
        refine lv_iconst (v := 0) hx hb dX5_isTooDeep_26 (by decide) ?_
        refine va_mmax hx hb (F.2.2.1.trans hl.1.symm) F.2.2.2.1 (F.2.2.2.2 _ kw_methodLink_RX5_152) (F.2.2.2.2 _ kw_static_Math_max_name) (F.2.2.2.2 _ kw_initialized_java_lang_Math) (F.2.2.2.2 _ kw_code_Math_max_name) (Nat.le_of_ble_eq_true rfl) (Nat.le_of_ble_eq_true rfl) (Nat.zero_le _) (Nat.zero_le _) dX5_isTooDeep_27 ?_
        refine lv_imul hx hb dX5_isTooDeep_30 ?_
        refine lv_iload_n hx hb dX5_isTooDeep_31 rfl (lv_at hl 2 rfl) ?_
        refine lv_iconst (v := 0) hx hb dX5_isTooDeep_32 (by decide) ?_
        refine va_mmax hx hb (F.2.2.1.trans hl.1.symm) F.2.2.2.1 (F.2.2.2.2 _ kw_methodLink_RX5_152) (F.2.2.2.2 _ kw_static_Math_max_name) (F.2.2.2.2 _ kw_initialized_java_lang_Math) (F.2.2.2.2 _ kw_code_Math_max_name) (Nat.le_of_ble_eq_true rfl) (Nat.le_of_ble_eq_true rfl) (Nat.zero_le _) (Nat.zero_le _) dX5_isTooDeep_33 ?_
        refine lv_imul hx hb dX5_isTooDeep_36 ?_
        refine lv_sipush (v := 400) hx hb dX5_isTooDeep_37 (by decide) ?_
        refine lv_icmp_le (tgt := 47) hx hb dX5_isTooDeep_40 (by decide) (fun h_40 => ?_) (fun h_40 => ?_)
        · have h_40 : ¬ 400 < (((f_mx n) * (f_mx mm)) * (f_mx ll)) := Int32.not_lt.mpr h_40
          refine lv_iconst (v := 0) hx hb dX5_isTooDeep_47 (by decide) ?_
          exact pv_zret F hr hlocks (Or.inl rfl) (by simp [f_td, b2i, h_3, h_9, h_15, h_40]) dX5_isTooDeep_48
        · have h_40 : 400 < (((f_mx n) * (f_mx mm)) * (f_mx ll)) := Int32.not_le.mp h_40
          refine lv_iconst (v := 1) hx hb dX5_isTooDeep_43 (by decide) ?_
          refine lv_goto (tgt := 48) hx hb dX5_isTooDeep_44 (by decide) ?_
          exact pv_zret F hr hlocks (Or.inr rfl) (by simp [f_td, b2i, h_3, h_9, h_15, h_40]) dX5_isTooDeep_48
      · have h_15 : 30 < ll := Int32.not_le.mp h_15
        refine lv_iconst (v := 1) hx hb dX5_isTooDeep_18 (by decide) ?_
        exact pv_zret F hr hlocks (Or.inr rfl) (by simp [f_td, b2i, h_3, h_9, h_15]) dX5_isTooDeep_19
set_option maxHeartbeats 400000 in
set_option maxRecDepth 100000 in
theorem c_X5_haveSameBits (l : Launch) (D : va_G) (cy : Nat → ClassId) (A : Nat → Prop) (r : RS) (g : CG) (sz : Nat)  (a b : Nat)  (h0_a : a ≠ 0) (ht_a : a ≤ rT r) (h0_b : b ≠ 0) (ht_b : b ≤ rT r) (hka : rK r a < 8) (hkb : rK r b < 8) (hmm : rMn r a = rMn r b) (hm30 : rMn r a ≤ 30) : Met l yX5_haveSameBits (px_w yX5_haveSameBits cX5_haveSameBits 3 (some .boolean)) (rmd 1 0 0) (px_P D cy [.ref (gA g (3 * a)), .ref (gA g (3 * b))] sz (CR D cy A r g)) (px_V (some (.int (b2i (f_all (fun k => decide (f_at r a k = f_at r b k)) (rMn r a)))))) 0 0 (fun _ => False) := by
  refine px_met (by decide) (Nat.le_of_ble_eq_true rfl) ?_
  intro p e s m below meth c F hr hlocks hnm hK hsz hR ls hl
  have hx := F.1
  have hb := F.2.1
  have hl : lv_has ls 3 [(0, .ref (gA g (3 * a))), (1, .ref (gA g (3 * b)))] := hl
  refine lv_iconst (v := 0) hx hb dX5_haveSameBits_0 (by decide) ?_
  refine lv_istore_n (lv' := [(2, .int 0), (0, .ref (gA g (3 * a))), (1, .ref (gA g (3 * b)))]) hx hb dX5_haveSameBits_1 rfl hl (by decide) rfl (fun ls hl => ?_)
  have loop : ∀ (d k : Nat), k + d = rMn r a → f_all (fun k => decide (f_at r a k = f_at r b k)) k = true → ∀ (ls : Array Slot), lv_has ls 3 [(2, .int (nI k)), (0, .ref (gA g (3 * a))), (1, .ref (gA g (3 * b)))] → W p l e (rmd 1 0 0) s m ([.ref (gA g (3 * a)), .ref (gA g (3 * b))] : List Value).toArray below meth c s.heap [] 0 0 (MQ below (px_V (some (.int (b2i (f_all (fun k => decide (f_at r a k = f_at r b k)) (rMn r a)))))) ([.ref (gA g (3 * a)), .ref (gA g (3 * b))] : List Value).toArray s 0 0 (fun _ => False)) (F0 m 2 ls []) := by
    intro d
    induction d with
    | zero =>
      intro k hk hall ls hl
      refine lv_iload_n hx hb dX5_haveSameBits_2 rfl (lv_at hl 0 rfl) ?_
      refine lv_aload_n hx hb dX5_haveSameBits_3 rfl (lv_at hl 1 rfl) ?_
      refine c_gbits F hK hR (t := a) (by omega) (show a ≤ rT r by omega) (show rK r a < 8 by omega) kw_fieldLink_RX5_183 dX5_haveSameBits_4 ?_
      refine c_lenb F hK hR (t := a) (by omega) (show a ≤ rT r by omega) dX5_haveSameBits_7 ?_
      refine lv_icmp_ge (tgt := 44) hx hb dX5_haveSameBits_8 (by decide) (fun h_8 => ?_) (fun h_8 => by exfalso; have h_8 : k < (rMn r a) := nInle (show ¬ nI (rMn r a) ≤ nI k from h_8) (by omega) (by omega); omega)
      have h_8 : (rMn r a) ≤ k := nIle (show nI (rMn r a) ≤ nI k from h_8) (by omega) (by omega)
      refine lv_aload_n hx hb dX5_haveSameBits_44 rfl (lv_at hl 1 rfl) ?_
      refine c_gbits F hK hR (t := a) (by omega) (show a ≤ rT r by omega) (show rK r a < 8 by omega) kw_fieldLink_RX5_183 dX5_haveSameBits_45 ?_
      refine c_lenb F hK hR (t := a) (by omega) (show a ≤ rT r by omega) dX5_haveSameBits_48 ?_
      refine lv_aload_n hx hb dX5_haveSameBits_49 rfl (lv_at hl 2 rfl) ?_
      refine c_gbits F hK hR (t := b) (by omega) (show b ≤ rT r by omega) (show rK r b < 8 by omega) kw_fieldLink_RX5_183 dX5_haveSameBits_50 ?_
      refine c_lenb F hK hR (t := b) (by omega) (show b ≤ rT r by omega) dX5_haveSameBits_53 ?_
      refine lv_icmp_ne (tgt := 61) hx hb dX5_haveSameBits_54 (by decide) (fun h_54 => by exfalso; have h_54 : ¬ (rMn r a) = (rMn r b) := nIne (show ¬ nI (rMn r a) = nI (rMn r b) from h_54); omega) (fun h_54 => ?_)
      have h_54 : (rMn r a) = (rMn r b) := nIeq (show nI (rMn r a) = nI (rMn r b) from h_54) (by omega) (by omega)
      refine lv_iconst (v := 1) hx hb dX5_haveSameBits_57 (by decide) ?_
      refine lv_goto (tgt := 62) hx hb dX5_haveSameBits_58 (by decide) ?_
      exact pv_zret F hr hlocks (Or.inr rfl) (by rw [← show k = rMn r a by omega, hall]; rfl) dX5_haveSameBits_62
    | succ d ih_loop =>
      intro k hk hall ls hl
      refine lv_iload_n hx hb dX5_haveSameBits_2 rfl (lv_at hl 0 rfl) ?_
      refine lv_aload_n hx hb dX5_haveSameBits_3 rfl (lv_at hl 1 rfl) ?_
      refine c_gbits F hK hR (t := a) (by omega) (show a ≤ rT r by omega) (show rK r a < 8 by omega) kw_fieldLink_RX5_183 dX5_haveSameBits_4 ?_
      refine c_lenb F hK hR (t := a) (by omega) (show a ≤ rT r by omega) dX5_haveSameBits_7 ?_
      refine lv_icmp_ge (tgt := 44) hx hb dX5_haveSameBits_8 (by decide) (fun h_8 => by exfalso; have h_8 : (rMn r a) ≤ k := nIle (show nI (rMn r a) ≤ nI k from h_8) (by omega) (by omega); omega) (fun h_8 => ?_)
      have h_8 : k < (rMn r a) := nInle (show ¬ nI (rMn r a) ≤ nI k from h_8) (by omega) (by omega)
      refine lv_iload_n hx hb dX5_haveSameBits_11 rfl (lv_at hl 0 rfl) ?_
      refine lv_aload_n hx hb dX5_haveSameBits_12 rfl (lv_at hl 2 rfl) ?_
      refine c_gbits F hK hR (t := b) (by omega) (show b ≤ rT r by omega) (show rK r b < 8 by omega) kw_fieldLink_RX5_183 dX5_haveSameBits_13 ?_
      refine c_lenb F hK hR (t := b) (by omega) (show b ≤ rT r by omega) dX5_haveSameBits_16 ?_
      refine lv_icmp_ge (tgt := 44) hx hb dX5_haveSameBits_17 (by decide) (fun h_17 => by exfalso; have h_17 : (rMn r b) ≤ k := nIle (show nI (rMn r b) ≤ nI k from h_17) (by omega) (by omega); omega) (fun h_17 => ?_)
      have h_17 : k < (rMn r b) := nInle (show ¬ nI (rMn r b) ≤ nI k from h_17) (by omega) (by omega)
      refine lv_aload_n hx hb dX5_haveSameBits_20 rfl (lv_at hl 1 rfl) ?_
      refine c_gbits F hK hR (t := a) (by omega) (show a ≤ rT r by omega) (show rK r a < 8 by omega) kw_fieldLink_RX5_183 dX5_haveSameBits_21 ?_
      refine lv_iload_n hx hb dX5_haveSameBits_24 rfl (lv_at hl 0 rfl) ?_
      refine c_ldbit F hK hR (t := a) (by omega) (show a ≤ rT r by omega) (show rK r a < 8 by omega) (show rMn r a < 2 ^ 31 by omega) k rfl (show k < rMn r a by omega) dX5_haveSameBits_25 ?_
      refine lv_aload_n hx hb dX5_haveSameBits_26 rfl (lv_at hl 2 rfl) ?_
      refine c_gbits F hK hR (t := b) (by omega) (show b ≤ rT r by omega) (show rK r b < 8 by omega) kw_fieldLink_RX5_183 dX5_haveSameBits_27 ?_
      refine lv_iload_n hx hb dX5_haveSameBits_30 rfl (lv_at hl 0 rfl) ?_
      refine c_ldbit F hK hR (t := b) (by omega) (show b ≤ rT r by omega) (show rK r b < 8 by omega) (show rMn r b < 2 ^ 31 by omega) k rfl (show k < rMn r b by omega) dX5_haveSameBits_31 ?_
      refine W.lcmp hx hb dX5_haveSameBits_32 ?_
      refine x_cmp_eq (tgt := 38) hx hb dX5_haveSameBits_33 (by decide) (fun h_33 => ?_) (fun h_33 => ?_)
      · refine lv_iinc (v := nI (k + 1)) (lv' := [(2, .int (nI (k + 1))), (0, .ref (gA g (3 * a))), (1, .ref (gA g (3 * b)))]) hx hb dX5_haveSameBits_38 hl (k := 0) rfl (by show nI k + 1 = nI (k + 1); exact nI_1 _) (by decide) rfl (fun ls hl => ?_)
        refine lv_goto (tgt := 2) hx hb dX5_haveSameBits_41 (by decide) ?_
        exact ih_loop (k + 1) (by omega) (by simp only [f_all, hall, Bool.true_and]; exact decide_eq_true h_33) _ (lv_sub hl [0, 1, 2] rfl)
      · refine lv_iconst (v := 0) hx hb dX5_haveSameBits_36 (by decide) ?_
        exact pv_zret F hr hlocks (Or.inl rfl) (by rw [f_all_t (n := rMn r a) hall (decide_eq_false h_33) (by omega)]; rfl) dX5_haveSameBits_37
  exact loop (rMn r a) 0 (by omega) rfl _ (lv_sub hl [0, 1, 2] rfl)
