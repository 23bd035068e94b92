/-! the reference: loops that read: sizes, told -/
set_option maxHeartbeats 400000 in
set_option maxRecDepth 100000 in
theorem c_X6_flatSize (l : Launch) (D : va_G) (cy : Nat → ClassId) (A : Nat → Prop) (G : Nat → Nat) (r : RS) (C : Nat → Nat) (E : Nat → Int64) (sz : Nat) (t : Nat) {kk : Nat} (hI : Inv kk r) (ht : t ≤ rT r) : Met l yX6_flatSize (px_w yX6_flatSize cX6_flatSize 4 (some .int)) (rmd 2 0 0) (px_P D cy [.ref (G 0), .int (nI t)] sz (MR D cy A G r C E)) (px_V (some (.int (nI (f_fsz r t))))) 0 0 (fun _ => False) := by
  refine px_met (by decide) (Nat.le_of_ble_eq_true rfl) ?_
  intro p e s m below meth c F hr hlocks hnm hK hsz hR ls hl
  have hx := F.1
  have hb := F.2.1
  have hl : lv_has ls 4 [(0, .ref (G 0)), (1, .int (nI t))] := hl
  have hbd := hI.bd
  have hc1 := hI.tb t ht
  refine lv_iload_n hx hb dX6_flatSize_0 rfl (lv_at hl 1 rfl) ?_
  refine lv_if_eq (tgt := 15) hx hb dX6_flatSize_1 (by decide) (fun h_1 => ?_) (fun h_1 => ?_)
  · have h_1 : t = 0 := nIeq (show nI t = nI 0 from h_1) (by omega) (by omega)
    refine lv_iload_n hx hb dX6_flatSize_15 rfl (lv_at hl 1 rfl) ?_
    refine lv_if_ne (tgt := 23) hx hb dX6_flatSize_16 (by decide) (fun h_16 => by exfalso; have h_16 : ¬ t = 0 := nIne (show ¬ nI t = nI 0 from h_16); omega) (fun h_16 => ?_)
    have h_16 : t = 0 := nIeq (show nI t = nI 0 from h_16) (by omega) (by omega)
    refine lv_iconst (v := 0) hx hb dX6_flatSize_19 (by decide) ?_
    refine lv_goto (tgt := 29) hx hb dX6_flatSize_20 (by decide) ?_
    exact pv_iret F hr hlocks (by rw [show f_fsz r t = 0 from (by unfold f_fsz; rw [if_pos h_1])]; try rfl) dX6_flatSize_29
  · have h_1 : ¬ t = 0 := nIne (show ¬ nI t = nI 0 from h_1)
    refine lv_aload_n hx hb dX6_flatSize_4 rfl (lv_at hl 0 rfl) ?_
    refine m_get F hK hR 1 (by decide) rfl kw_fieldLink_RX6_7 dX6_flatSize_5 ?_
    refine lv_iload_n hx hb dX6_flatSize_8 rfl (lv_at hl 1 rfl) ?_
    refine m_ldK F hK hR t rfl (by omega) dX6_flatSize_9 ?_
    refine lv_bipush (v := 8) hx hb dX6_flatSize_10 (by decide) ?_
    refine lv_icmp_ge (tgt := 30) hx hb dX6_flatSize_12 (by decide) (fun h_12 => ?_) (fun h_12 => ?_)
    · have h_12 : 8 ≤ (rK r t) := nIle (show nI 8 ≤ nI (rK r t) from h_12) (by omega) (by omega)
      refine lv_iconst (v := 0) hx hb dX6_flatSize_30 (by decide) ?_
      refine lv_istore_n (lv' := [(2, .int 0), (0, .ref (G 0)), (1, .int (nI t))]) hx hb dX6_flatSize_31 rfl hl (by decide) rfl (fun ls hl => ?_)
      refine lv_iconst (v := 0) hx hb dX6_flatSize_32 (by decide) ?_
      refine lv_istore_n (lv' := [(3, .int 0), (2, .int 0), (0, .ref (G 0)), (1, .int (nI t))]) hx hb dX6_flatSize_33 rfl hl (by decide) rfl (fun ls hl => ?_)
      have loop : ∀ (d k : Nat), k + d = rMn r t → ∀ (ls : Array Slot), lv_has ls 4 [(3, .int (nI k)), (2, .int (nI (f_cnt (fun k => if f_at r t k = 0 then 0 else 1) k))), (0, .ref (G 0)), (1, .int (nI t))] → W p l e (rmd 2 0 0) s m ([.ref (G 0), .int (nI t)] : List Value).toArray below meth c s.heap [] 0 0 (MQ below (px_V (some (.int (nI (f_fsz r t))))) ([.ref (G 0), .int (nI t)] : List Value).toArray s 0 0 (fun _ => False)) (F0 m 34 ls []) := by
        intro d
        induction d with
        | zero =>
          intro k hk ls hl
          refine lv_iload_n hx hb dX6_flatSize_34 rfl (lv_at hl 0 rfl) ?_
          refine lv_aload_n hx hb dX6_flatSize_35 rfl (lv_at hl 2 rfl) ?_
          refine m_get F hK hR 2 (by decide) rfl kw_fieldLink_RX6_13 dX6_flatSize_36 ?_
          refine lv_iload_n hx hb dX6_flatSize_39 rfl (lv_at hl 3 rfl) ?_
          refine m_ldMn F hK hR t rfl (by omega) dX6_flatSize_40 ?_
          refine lv_icmp_ge (tgt := 69) hx hb dX6_flatSize_41 (by decide) (fun h_41 => ?_) (fun h_41 => by exfalso; have h_41 : k < (rMn r t) := nInle (show ¬ nI (rMn r t) ≤ nI k from h_41) (by omega) (by omega); omega)
          have h_41 : (rMn r t) ≤ k := nIle (show nI (rMn r t) ≤ nI k from h_41) (by omega) (by omega)
          refine lv_iload_n hx hb dX6_flatSize_69 rfl (lv_at hl 1 rfl) ?_
          exact pv_iret F hr hlocks (by have hkn : k = rMn r t := (by omega); rw [show f_fsz r t = f_cnt (fun k => if f_at r t k = 0 then 0 else 1) k from (by unfold f_fsz; rw [if_neg h_1, if_neg (by omega), hkn])]; try rfl) dX6_flatSize_70
        | succ d ih_loop =>
          intro k hk ls hl
          refine lv_iload_n hx hb dX6_flatSize_34 rfl (lv_at hl 0 rfl) ?_
          refine lv_aload_n hx hb dX6_flatSize_35 rfl (lv_at hl 2 rfl) ?_
          refine m_get F hK hR 2 (by decide) rfl kw_fieldLink_RX6_13 dX6_flatSize_36 ?_
          refine lv_iload_n hx hb dX6_flatSize_39 rfl (lv_at hl 3 rfl) ?_
          refine m_ldMn F hK hR t rfl (by omega) dX6_flatSize_40 ?_
          refine lv_icmp_ge (tgt := 69) hx hb dX6_flatSize_41 (by decide) (fun h_41 => by exfalso; have h_41 : (rMn r t) ≤ k := nIle (show nI (rMn r t) ≤ nI k from h_41) (by omega) (by omega); omega) (fun h_41 => ?_)
          have h_41 : k < (rMn r t) := nInle (show ¬ nI (rMn r t) ≤ nI k from h_41) (by omega) (by omega)
          refine lv_iload_n hx hb dX6_flatSize_44 rfl (lv_at hl 1 rfl) ?_
          refine lv_aload_n hx hb dX6_flatSize_45 rfl (lv_at hl 2 rfl) ?_
          refine lv_iload_n hx hb dX6_flatSize_46 rfl (lv_at hl 3 rfl) ?_
          refine lv_iload_n hx hb dX6_flatSize_47 rfl (lv_at hl 0 rfl) ?_
          refine px_goV (st1 := [.long (f_at r t k), .int (nI (f_cnt (fun k => if f_at r t k = 0 then 0 else 1) k))]) (px_callV F hK (c_X6_at l D cy A G r _ _ _ t k (by omega) (show rS r t + k < 12200 by omega)) kc_X6_at kw_methodLink_RX6_80 rfl hR (m_recv hK hR) rfl ⟨rfl, rfl⟩ ⟨Nat.le_of_ble_eq_true rfl, Nat.le_of_ble_eq_true rfl⟩ hl.1 rfl (Nat.le_of_ble_eq_true rfl) dX6_flatSize_48 ⟨Nat.zero_le _, Nat.zero_le _⟩) rfl ?_
          refine lv_lconst (v := 0) hx hb dX6_flatSize_51 (by decide) ?_
          refine W.lcmp hx hb dX6_flatSize_52 ?_
          refine x_cmp_eq (tgt := 60) hx hb dX6_flatSize_53 (by decide) (fun h_53 => ?_) (fun h_53 => ?_)
          · refine lv_iconst (v := 0) hx hb dX6_flatSize_60 (by decide) ?_
            refine lv_iadd hx hb dX6_flatSize_61 ?_
            refine px_topi (y := nI ((f_cnt (fun k => if f_at r t k = 0 then 0 else 1) k) + 0)) (nI_add _ _) ?_
            refine lv_istore_n (lv' := [(2, .int (nI ((f_cnt (fun k => if f_at r t k = 0 then 0 else 1) k) + 0))), (3, .int (nI k)), (0, .ref (G 0)), (1, .int (nI t))]) hx hb dX6_flatSize_62 rfl hl (by decide) rfl (fun ls hl => ?_)
            refine lv_iinc (v := nI (k + 1)) (lv' := [(3, .int (nI (k + 1))), (2, .int (nI ((f_cnt (fun k => if f_at r t k = 0 then 0 else 1) k) + 0))), (0, .ref (G 0)), (1, .int (nI t))]) hx hb dX6_flatSize_63 hl (k := 1) rfl (by show nI k + 1 = nI (k + 1); exact nI_1 _) (by decide) rfl (fun ls hl => ?_)
            refine lv_goto (tgt := 34) hx hb dX6_flatSize_66 (by decide) ?_
            have e_2 : (nI (f_cnt (fun k => if f_at r t k = 0 then 0 else 1) (k + 1)) : Int32) = nI ((f_cnt (fun k => if f_at r t k = 0 then 0 else 1) k) + 0) := (by simp [f_cnt, h_53])
            exact ih_loop (k + 1) (by omega) _ (by rw [e_2]; exact lv_sub hl [0, 1, 2, 3] rfl)
          · refine lv_iconst (v := 1) hx hb dX6_flatSize_56 (by decide) ?_
            refine lv_goto (tgt := 61) hx hb dX6_flatSize_57 (by decide) ?_
            refine lv_iadd hx hb dX6_flatSize_61 ?_
            refine px_topi (y := nI ((f_cnt (fun k => if f_at r t k = 0 then 0 else 1) k) + 1)) (nI_add _ _) ?_
            refine lv_istore_n (lv' := [(2, .int (nI ((f_cnt (fun k => if f_at r t k = 0 then 0 else 1) k) + 1))), (3, .int (nI k)), (0, .ref (G 0)), (1, .int (nI t))]) hx hb dX6_flatSize_62 rfl hl (by decide) rfl (fun ls hl => ?_)
            refine lv_iinc (v := nI (k + 1)) (lv' := [(3, .int (nI (k + 1))), (2, .int (nI ((f_cnt (fun k => if f_at r t k = 0 then 0 else 1) k) + 1))), (0, .ref (G 0)), (1, .int (nI t))]) hx hb dX6_flatSize_63 hl (k := 1) rfl (by show nI k + 1 = nI (k + 1); exact nI_1 _) (by decide) rfl (fun ls hl => ?_)
            refine lv_goto (tgt := 34) hx hb dX6_flatSize_66 (by decide) ?_
            have e_2 : (nI (f_cnt (fun k => if f_at r t k = 0 then 0 else 1) (k + 1)) : Int32) = nI ((f_cnt (fun k => if f_at r t k = 0 then 0 else 1) k) + 1) := (by simp [f_cnt, h_53])
            exact ih_loop (k + 1) (by omega) _ (by rw [e_2]; exact lv_sub hl [0, 1, 2, 3] rfl)
      have e_2 : (nI (f_cnt (fun k => if f_at r t k = 0 then 0 else 1) 0) : Int32) = 0 := (by rfl)
      exact loop (rMn r t) 0 (by omega) _ (by rw [e_2]; exact lv_sub hl [0, 1, 2, 3] rfl)
    · have h_12 : (rK r t) < 8 := nInle (show ¬ nI 8 ≤ nI (rK r t) from h_12) (by omega) (by omega)
      refine lv_iload_n hx hb dX6_flatSize_15 rfl (lv_at hl 1 rfl) ?_
      refine lv_if_ne (tgt := 23) hx hb dX6_flatSize_16 (by decide) (fun h_16 => ?_) (fun h_16 => by exfalso; have h_16 : t = 0 := nIeq (show nI t = nI 0 from h_16) (by omega) (by omega); omega)
      have h_16 : ¬ t = 0 := nIne (show ¬ nI t = nI 0 from h_16)
      refine lv_aload_n hx hb dX6_flatSize_23 rfl (lv_at hl 0 rfl) ?_
      refine m_get F hK hR 2 (by decide) rfl kw_fieldLink_RX6_13 dX6_flatSize_24 ?_
      refine lv_iload_n hx hb dX6_flatSize_27 rfl (lv_at hl 1 rfl) ?_
      refine m_ldMn F hK hR t rfl (by omega) dX6_flatSize_28 ?_
      exact pv_iret F hr hlocks (by rw [show f_fsz r t = rMn r t from (by unfold f_fsz; rw [if_neg h_1, if_pos (by omega)])]; try rfl) dX6_flatSize_29
set_option maxHeartbeats 400000 in
set_option maxRecDepth 100000 in
theorem c_X6_middleSize (l : Launch) (D : va_G) (cy : Nat → ClassId) (A : Nat → Prop) (G : Nat → Nat) (r : RS) (C : Nat → Nat) (E : Nat → Int64) (sz : Nat) (t : Nat) {kk : Nat} (hI : Inv kk r) (ht : t ≤ rT r) : Met l yX6_middleSize (px_w yX6_middleSize cX6_middleSize 4 (some .int)) (rmd 3 0 0) (px_P D cy [.ref (G 0), .int (nI t)] sz (MR D cy A G r C E)) (px_V (some (.int (nI (f_msz r t))))) 0 0 (fun _ => False) := by
  refine px_met (by decide) (Nat.le_of_ble_eq_true rfl) ?_
  intro p e s m below meth c F hr hlocks hnm hK hsz hR ls hl
  have hx := F.1
  have hb := F.2.1
  have hl : lv_has ls 4 [(0, .ref (G 0)), (1, .int (nI t))] := hl
  have hbd := hI.bd
  have hc1 := hI.tb t ht
  refine lv_iload_n hx hb dX6_middleSize_0 rfl (lv_at hl 1 rfl) ?_
  refine lv_if_eq (tgt := 15) hx hb dX6_middleSize_1 (by decide) (fun h_1 => ?_) (fun h_1 => ?_)
  · have h_1 : t = 0 := nIeq (show nI t = nI 0 from h_1) (by omega) (by omega)
    refine lv_aload_n hx hb dX6_middleSize_15 rfl (lv_at hl 0 rfl) ?_
    refine lv_iload_n hx hb dX6_middleSize_16 rfl (lv_at hl 1 rfl) ?_
    refine px_goV (st1 := [.int (nI (f_fsz r t))]) (px_callV F hK (c_X6_flatSize l D cy A G r _ _ _ t hI (by omega)) kc_X6_flatSize kw_methodLink_RX6_132 rfl hR (m_recv hK hR) rfl ⟨rfl, rfl⟩ ⟨Nat.le_of_ble_eq_true rfl, Nat.le_of_ble_eq_true rfl⟩ hl.1 rfl (Nat.le_of_ble_eq_true rfl) dX6_middleSize_17 ⟨Nat.zero_le _, Nat.zero_le _⟩) rfl ?_
    exact pv_iret F hr hlocks (by rw [show f_msz r t = f_fsz r t from (by unfold f_msz; rw [if_pos (Or.inl h_1)])]; try rfl) dX6_middleSize_20
  · have h_1 : ¬ t = 0 := nIne (show ¬ nI t = nI 0 from h_1)
    refine lv_aload_n hx hb dX6_middleSize_4 rfl (lv_at hl 0 rfl) ?_
    refine m_get F hK hR 1 (by decide) rfl kw_fieldLink_RX6_7 dX6_middleSize_5 ?_
    refine lv_iload_n hx hb dX6_middleSize_8 rfl (lv_at hl 1 rfl) ?_
    refine m_ldK F hK hR t rfl (by omega) dX6_middleSize_9 ?_
    refine lv_bipush (v := 10) hx hb dX6_middleSize_10 (by decide) ?_
    refine lv_icmp_ge (tgt := 21) hx hb dX6_middleSize_12 (by decide) (fun h_12 => ?_) (fun h_12 => ?_)
    · have h_12 : 10 ≤ (rK r t) := nIle (show nI 10 ≤ nI (rK r t) from h_12) (by omega) (by omega)
      refine lv_iconst (v := 0) hx hb dX6_middleSize_21 (by decide) ?_
      refine lv_istore_n (lv' := [(2, .int 0), (0, .ref (G 0)), (1, .int (nI t))]) hx hb dX6_middleSize_22 rfl hl (by decide) rfl (fun ls hl => ?_)
      refine lv_iconst (v := 0) hx hb dX6_middleSize_23 (by decide) ?_
      refine lv_istore_n (lv' := [(3, .int 0), (2, .int 0), (0, .ref (G 0)), (1, .int (nI t))]) hx hb dX6_middleSize_24 rfl hl (by decide) rfl (fun ls hl => ?_)
      have loop : ∀ (d k : Nat), k + d = rMn r t → ∀ (ls : Array Slot), lv_has ls 4 [(3, .int (nI k)), (2, .int (nI (f_cnt (fun k => f_fsz r (iv (f_at r t k))) k))), (0, .ref (G 0)), (1, .int (nI t))] → W p l e (rmd 3 0 0) s m ([.ref (G 0), .int (nI t)] : List Value).toArray below meth c s.heap [] 0 0 (MQ below (px_V (some (.int (nI (f_msz r t))))) ([.ref (G 0), .int (nI t)] : List Value).toArray s 0 0 (fun _ => False)) (F0 m 25 ls []) := by
        intro d
        induction d with
        | zero =>
          intro k hk ls hl
          refine lv_iload_n hx hb dX6_middleSize_25 rfl (lv_at hl 0 rfl) ?_
          refine lv_aload_n hx hb dX6_middleSize_26 rfl (lv_at hl 2 rfl) ?_
          refine m_get F hK hR 2 (by decide) rfl kw_fieldLink_RX6_13 dX6_middleSize_27 ?_
          refine lv_iload_n hx hb dX6_middleSize_30 rfl (lv_at hl 3 rfl) ?_
          refine m_ldMn F hK hR t rfl (by omega) dX6_middleSize_31 ?_
          refine lv_icmp_ge (tgt := 55) hx hb dX6_middleSize_32 (by decide) (fun h_32 => ?_) (fun h_32 => by exfalso; have h_32 : k < (rMn r t) := nInle (show ¬ nI (rMn r t) ≤ nI k from h_32) (by omega) (by omega); omega)
          have h_32 : (rMn r t) ≤ k := nIle (show nI (rMn r t) ≤ nI k from h_32) (by omega) (by omega)
          refine lv_iload_n hx hb dX6_middleSize_55 rfl (lv_at hl 1 rfl) ?_
          exact pv_iret F hr hlocks (by have hkn : k = rMn r t := (by omega); rw [show f_msz r t = f_cnt (fun k => f_fsz r (iv (f_at r t k))) k from (by unfold f_msz; rw [if_neg (by omega), hkn])]; try rfl) dX6_middleSize_56
        | succ d ih_loop =>
          intro k hk ls hl
          refine lv_iload_n hx hb dX6_middleSize_25 rfl (lv_at hl 0 rfl) ?_
          refine lv_aload_n hx hb dX6_middleSize_26 rfl (lv_at hl 2 rfl) ?_
          refine m_get F hK hR 2 (by decide) rfl kw_fieldLink_RX6_13 dX6_middleSize_27 ?_
          refine lv_iload_n hx hb dX6_middleSize_30 rfl (lv_at hl 3 rfl) ?_
          refine m_ldMn F hK hR t rfl (by omega) dX6_middleSize_31 ?_
          refine lv_icmp_ge (tgt := 55) hx hb dX6_middleSize_32 (by decide) (fun h_32 => by exfalso; have h_32 : (rMn r t) ≤ k := nIle (show nI (rMn r t) ≤ nI k from h_32) (by omega) (by omega); omega) (fun h_32 => ?_)
          have h_32 : k < (rMn r t) := nInle (show ¬ nI (rMn r t) ≤ nI k from h_32) (by omega) (by omega)
          refine lv_iload_n hx hb dX6_middleSize_35 rfl (lv_at hl 1 rfl) ?_
          refine lv_aload_n hx hb dX6_middleSize_36 rfl (lv_at hl 2 rfl) ?_
          refine lv_aload_n hx hb dX6_middleSize_37 rfl (lv_at hl 2 rfl) ?_
          refine lv_iload_n hx hb dX6_middleSize_38 rfl (lv_at hl 3 rfl) ?_
          refine lv_iload_n hx hb dX6_middleSize_39 rfl (lv_at hl 0 rfl) ?_
          refine px_goV (st1 := [.long (f_at r t k), .ref (G 0), .int (nI (f_cnt (fun k => f_fsz r (iv (f_at r t k))) k))]) (px_callV F hK (c_X6_at l D cy A G r _ _ _ t k (by omega) (show rS r t + k < 12200 by omega)) kc_X6_at kw_methodLink_RX6_80 rfl hR (m_recv hK hR) rfl ⟨rfl, rfl⟩ ⟨Nat.le_of_ble_eq_true rfl, Nat.le_of_ble_eq_true rfl⟩ hl.1 rfl (Nat.le_of_ble_eq_true rfl) dX6_middleSize_40 ⟨Nat.zero_le _, Nat.zero_le _⟩) rfl ?_
          have hit := hI.it h_1 ht h_32 (by omega)
          have hrow := (hit.2.2.2.2 (by omega)).1
          refine px_topl hit.1 ?_
          refine lv_l2i (v := nI (iv (f_at r t k))) hx hb dX6_middleSize_43 (lN_i _) ?_
          refine px_goV (st1 := [.int (nI (f_fsz r (iv (f_at r t k)))), .int (nI (f_cnt (fun k => f_fsz r (iv (f_at r t k))) k))]) (px_callV F hK (c_X6_flatSize l D cy A G r _ _ _ (iv (f_at r t k)) hI (by omega)) kc_X6_flatSize kw_methodLink_RX6_132 rfl hR (m_recv hK hR) rfl ⟨rfl, rfl⟩ ⟨Nat.le_of_ble_eq_true rfl, Nat.le_of_ble_eq_true rfl⟩ hl.1 rfl (Nat.le_of_ble_eq_true rfl) dX6_middleSize_44 ⟨Nat.zero_le _, Nat.zero_le _⟩) rfl ?_
          refine lv_iadd hx hb dX6_middleSize_47 ?_
          refine px_topi (y := nI ((f_cnt (fun k => f_fsz r (iv (f_at r t k))) k) + (f_fsz r (iv (f_at r t k))))) (nI_add _ _) ?_
          refine lv_istore_n (lv' := [(2, .int (nI ((f_cnt (fun k => f_fsz r (iv (f_at r t k))) k) + (f_fsz r (iv (f_at r t k)))))), (3, .int (nI k)), (0, .ref (G 0)), (1, .int (nI t))]) hx hb dX6_middleSize_48 rfl hl (by decide) rfl (fun ls hl => ?_)
          refine lv_iinc (v := nI (k + 1)) (lv' := [(3, .int (nI (k + 1))), (2, .int (nI ((f_cnt (fun k => f_fsz r (iv (f_at r t k))) k) + (f_fsz r (iv (f_at r t k)))))), (0, .ref (G 0)), (1, .int (nI t))]) hx hb dX6_middleSize_49 hl (k := 1) rfl (by show nI k + 1 = nI (k + 1); exact nI_1 _) (by decide) rfl (fun ls hl => ?_)
          refine lv_goto (tgt := 25) hx hb dX6_middleSize_52 (by decide) ?_
          have e_2 : (nI (f_cnt (fun k => f_fsz r (iv (f_at r t k))) (k + 1)) : Int32) = nI ((f_cnt (fun k => f_fsz r (iv (f_at r t k))) k) + (f_fsz r (iv (f_at r t k)))) := (by rfl)
          exact ih_loop (k + 1) (by omega) _ (by rw [e_2]; exact lv_sub hl [0, 1, 2, 3] rfl)
      have e_2 : (nI (f_cnt (fun k => f_fsz r (iv (f_at r t k))) 0) : Int32) = 0 := (by rfl)
      exact loop (rMn r t) 0 (by omega) _ (by rw [e_2]; exact lv_sub hl [0, 1, 2, 3] rfl)
    · have h_12 : (rK r t) < 10 := nInle (show ¬ nI 10 ≤ nI (rK r t) from h_12) (by omega) (by omega)
      refine lv_aload_n hx hb dX6_middleSize_15 rfl (lv_at hl 0 rfl) ?_
      refine lv_iload_n hx hb dX6_middleSize_16 rfl (lv_at hl 1 rfl) ?_
      refine px_goV (st1 := [.int (nI (f_fsz r t))]) (px_callV F hK (c_X6_flatSize l D cy A G r _ _ _ t hI (by omega)) kc_X6_flatSize kw_methodLink_RX6_132 rfl hR (m_recv hK hR) rfl ⟨rfl, rfl⟩ ⟨Nat.le_of_ble_eq_true rfl, Nat.le_of_ble_eq_true rfl⟩ hl.1 rfl (Nat.le_of_ble_eq_true rfl) dX6_middleSize_17 ⟨Nat.zero_le _, Nat.zero_le _⟩) rfl ?_
      exact pv_iret F hr hlocks (by rw [show f_msz r t = f_fsz r t from (by unfold f_msz; rw [if_pos (Or.inr (by omega))])]; try rfl) dX6_middleSize_20
set_option maxHeartbeats 400000 in
set_option maxRecDepth 100000 in
theorem c_X6_size (l : Launch) (D : va_G) (cy : Nat → ClassId) (A : Nat → Prop) (G : Nat → Nat) (r : RS) (C : Nat → Nat) (E : Nat → Int64) (sz : Nat) (cl : Int32) {kk : Nat} (hI : Inv kk r) : Met l yX6_size (px_w yX6_size cX6_size 5 (some .int)) (rmd 4 0 0) (px_P D cy [.ref (G 0), .int cl] sz (MR D cy A G r C E)) (px_V (some (.int (f_size r cl)))) 0 0 (fun _ => False) := by
  refine px_met (by decide) (Nat.le_of_ble_eq_true rfl) ?_
  intro p e s m below meth c F hr hlocks hnm hK hsz hR ls hl
  have hx := F.1
  have hb := F.2.1
  have hl : lv_has ls 5 [(0, .ref (G 0)), (1, .int cl)] := hl
  have hbd := hI.bd
  refine lv_iload_n hx hb dX6_size_0 rfl (lv_at hl 1 rfl) ?_
  refine px_goV (st1 := [.int (b2i (f_in cl 0 15))]) (px_callS F hK (c_X6_isColumn l D cy _ cl) kc_X6_isColumn kw_methodLink_RX6_53 rfl trivial rfl ⟨rfl, rfl⟩ ⟨Nat.le_of_ble_eq_true rfl, Nat.le_of_ble_eq_true rfl⟩ hl.1 rfl (Nat.le_of_ble_eq_true rfl) dX6_size_1 ⟨Nat.zero_le _, Nat.zero_le _⟩) rfl ?_
  refine x_ifne_b (tgt := 10) hx hb dX6_size_4 (by decide) (fun h_4 => ?_) (fun h_4 => ?_)
  · obtain ⟨cn, hl_cn, hh_cn, rfl⟩ := f_in_nat h_4 0 15 (by decide) (by decide) (by decide) (by decide)
    have hc0 := hI.hd cn (by omega)
    have hc1 := hI.tb _ hc0
    refine lv_aload_n hx hb dX6_size_10 rfl (lv_at hl 0 rfl) ?_
    refine m_get F hK hR 9 (by decide) rfl kw_fieldLink_RX6_31 dX6_size_11 ?_
    refine lv_iload_n hx hb dX6_size_14 rfl (lv_at hl 1 rfl) ?_
    refine m_ldHd F hK hR cn rfl (by omega) dX6_size_15 ?_
    refine lv_istore_n (lv' := [(2, .int (nI (rHd r cn))), (0, .ref (G 0)), (1, .int (nI cn))]) hx hb dX6_size_16 rfl hl (by decide) rfl (fun ls hl => ?_)
    refine lv_iload_n hx hb dX6_size_17 rfl (lv_at hl 0 rfl) ?_
    refine lv_if_eq (tgt := 32) hx hb dX6_size_18 (by decide) (fun h_18 => ?_) (fun h_18 => ?_)
    · have h_18 : (rHd r cn) = 0 := nIeq (show nI (rHd r cn) = nI 0 from h_18) (by omega) (by omega)
      refine lv_aload_n hx hb dX6_size_32 rfl (lv_at hl 1 rfl) ?_
      refine lv_iload_n hx hb dX6_size_33 rfl (lv_at hl 0 rfl) ?_
      refine px_goV (st1 := [.int (nI (f_msz r (rHd r cn)))]) (px_callV F hK (c_X6_middleSize l D cy A G r _ _ _ (rHd r cn) hI (by omega)) kc_X6_middleSize kw_methodLink_RX6_135 rfl hR (m_recv hK hR) rfl ⟨rfl, rfl⟩ ⟨Nat.le_of_ble_eq_true rfl, Nat.le_of_ble_eq_true rfl⟩ hl.1 rfl (Nat.le_of_ble_eq_true rfl) dX6_size_34 ⟨Nat.zero_le _, Nat.zero_le _⟩) rfl ?_
      exact pv_iret F hr hlocks (by rw [show f_size r (nI cn) = nI (f_msz r (rHd r cn)) from (by simp only [f_size, h_4, ix_nI (show cn < 2 ^ 31 by omega)]; simp only [Bool.not_true, Bool.false_eq_true, if_false]; unfold f_tsz; rw [if_pos (Or.inl h_18)])]; try rfl) dX6_size_37
    · have h_18 : ¬ (rHd r cn) = 0 := nIne (show ¬ nI (rHd r cn) = nI 0 from h_18)
      refine lv_aload_n hx hb dX6_size_21 rfl (lv_at hl 1 rfl) ?_
      refine m_get F hK hR 1 (by decide) rfl kw_fieldLink_RX6_7 dX6_size_22 ?_
      refine lv_iload_n hx hb dX6_size_25 rfl (lv_at hl 0 rfl) ?_
      refine m_ldK F hK hR (rHd r cn) rfl (by omega) dX6_size_26 ?_
      refine lv_bipush (v := 13) hx hb dX6_size_27 (by decide) ?_
      refine lv_icmp_ge (tgt := 38) hx hb dX6_size_29 (by decide) (fun h_29 => ?_) (fun h_29 => ?_)
      · have h_29 : 13 ≤ (rK r (rHd r cn)) := nIle (show nI 13 ≤ nI (rK r (rHd r cn)) from h_29) (by omega) (by omega)
        refine lv_iconst (v := 0) hx hb dX6_size_38 (by decide) ?_
        refine lv_istore_n (lv' := [(3, .int 0), (2, .int (nI (rHd r cn))), (0, .ref (G 0)), (1, .int (nI cn))]) hx hb dX6_size_39 rfl hl (by decide) rfl (fun ls hl => ?_)
        refine lv_iconst (v := 0) hx hb dX6_size_40 (by decide) ?_
        refine lv_istore (lv' := [(4, .int 0), (3, .int 0), (2, .int (nI (rHd r cn))), (0, .ref (G 0)), (1, .int (nI cn))]) hx hb dX6_size_41 hl (by decide) rfl (fun ls hl => ?_)
        have loop : ∀ (d k : Nat), k + d = rMn r (rHd r cn) → ∀ (ls : Array Slot), lv_has ls 5 [(4, .int (nI k)), (3, .int (nI (f_cnt (fun k => f_msz r (iv (f_at r (rHd r cn) k))) k))), (2, .int (nI (rHd r cn))), (0, .ref (G 0)), (1, .int (nI cn))] → W p l e (rmd 4 0 0) s m ([.ref (G 0), .int (nI cn)] : List Value).toArray below meth c s.heap [] 0 0 (MQ below (px_V (some (.int (f_size r (nI cn))))) ([.ref (G 0), .int (nI cn)] : List Value).toArray s 0 0 (fun _ => False)) (F0 m 43 ls []) := by
          intro d
          induction d with
          | zero =>
            intro k hk ls hl
            refine lv_iload hx hb dX6_size_43 (lv_at hl 0 rfl) ?_
            refine lv_aload_n hx hb dX6_size_45 rfl (lv_at hl 3 rfl) ?_
            refine m_get F hK hR 2 (by decide) rfl kw_fieldLink_RX6_13 dX6_size_46 ?_
            refine lv_iload_n hx hb dX6_size_49 rfl (lv_at hl 2 rfl) ?_
            refine m_ldMn F hK hR (rHd r cn) rfl (by omega) dX6_size_50 ?_
            refine lv_icmp_ge (tgt := 75) hx hb dX6_size_51 (by decide) (fun h_51 => ?_) (fun h_51 => by exfalso; have h_51 : k < (rMn r (rHd r cn)) := nInle (show ¬ nI (rMn r (rHd r cn)) ≤ nI k from h_51) (by omega) (by omega); omega)
            have h_51 : (rMn r (rHd r cn)) ≤ k := nIle (show nI (rMn r (rHd r cn)) ≤ nI k from h_51) (by omega) (by omega)
            refine lv_iload_n hx hb dX6_size_75 rfl (lv_at hl 1 rfl) ?_
            exact pv_iret F hr hlocks (by have hkn : k = rMn r (rHd r cn) := (by omega); rw [show f_size r (nI cn) = nI (f_cnt (fun k => f_msz r (iv (f_at r (rHd r cn) k))) k) from (by simp only [f_size, h_4, ix_nI (show cn < 2 ^ 31 by omega)]; simp only [Bool.not_true, Bool.false_eq_true, if_false]; unfold f_tsz; rw [if_neg (by omega), hkn])]; try rfl) dX6_size_76
          | succ d ih_loop =>
            intro k hk ls hl
            refine lv_iload hx hb dX6_size_43 (lv_at hl 0 rfl) ?_
            refine lv_aload_n hx hb dX6_size_45 rfl (lv_at hl 3 rfl) ?_
            refine m_get F hK hR 2 (by decide) rfl kw_fieldLink_RX6_13 dX6_size_46 ?_
            refine lv_iload_n hx hb dX6_size_49 rfl (lv_at hl 2 rfl) ?_
            refine m_ldMn F hK hR (rHd r cn) rfl (by omega) dX6_size_50 ?_
            refine lv_icmp_ge (tgt := 75) hx hb dX6_size_51 (by decide) (fun h_51 => by exfalso; have h_51 : (rMn r (rHd r cn)) ≤ k := nIle (show nI (rMn r (rHd r cn)) ≤ nI k from h_51) (by omega) (by omega); omega) (fun h_51 => ?_)
            have h_51 : k < (rMn r (rHd r cn)) := nInle (show ¬ nI (rMn r (rHd r cn)) ≤ nI k from h_51) (by omega) (by omega)
            refine lv_iload_n hx hb dX6_size_54 rfl (lv_at hl 1 rfl) ?_
            refine lv_aload_n hx hb dX6_size_55 rfl (lv_at hl 3 rfl) ?_
            refine lv_aload_n hx hb dX6_size_56 rfl (lv_at hl 3 rfl) ?_
            refine lv_iload_n hx hb dX6_size_57 rfl (lv_at hl 2 rfl) ?_
            refine lv_iload hx hb dX6_size_58 (lv_at hl 0 rfl) ?_
            refine px_goV (st1 := [.long (f_at r (rHd r cn) k), .ref (G 0), .int (nI (f_cnt (fun k => f_msz r (iv (f_at r (rHd r cn) k))) k))]) (px_callV F hK (c_X6_at l D cy A G r _ _ _ (rHd r cn) k (by omega) (show rS r (rHd r cn) + k < 12200 by omega)) kc_X6_at kw_methodLink_RX6_80 rfl hR (m_recv hK hR) rfl ⟨rfl, rfl⟩ ⟨Nat.le_of_ble_eq_true rfl, Nat.le_of_ble_eq_true rfl⟩ hl.1 rfl (Nat.le_of_ble_eq_true rfl) dX6_size_60 ⟨Nat.zero_le _, Nat.zero_le _⟩) rfl ?_
            have hit := hI.it h_18 hc0 h_51 (by omega)
            have hrow := (hit.2.2.2.2 (by omega)).1
            refine px_topl hit.1 ?_
            refine lv_l2i (v := nI (iv (f_at r (rHd r cn) k))) hx hb dX6_size_63 (lN_i _) ?_
            refine px_goV (st1 := [.int (nI (f_msz r (iv (f_at r (rHd r cn) k)))), .int (nI (f_cnt (fun k => f_msz r (iv (f_at r (rHd r cn) k))) k))]) (px_callV F hK (c_X6_middleSize l D cy A G r _ _ _ (iv (f_at r (rHd r cn) k)) hI (by omega)) kc_X6_middleSize kw_methodLink_RX6_135 rfl hR (m_recv hK hR) rfl ⟨rfl, rfl⟩ ⟨Nat.le_of_ble_eq_true rfl, Nat.le_of_ble_eq_true rfl⟩ hl.1 rfl (Nat.le_of_ble_eq_true rfl) dX6_size_64 ⟨Nat.zero_le _, Nat.zero_le _⟩) rfl ?_
            refine lv_iadd hx hb dX6_size_67 ?_
            refine px_topi (y := nI ((f_cnt (fun k => f_msz r (iv (f_at r (rHd r cn) k))) k) + (f_msz r (iv (f_at r (rHd r cn) k))))) (nI_add _ _) ?_
            refine lv_istore_n (lv' := [(3, .int (nI ((f_cnt (fun k => f_msz r (iv (f_at r (rHd r cn) k))) k) + (f_msz r (iv (f_at r (rHd r cn) k)))))), (4, .int (nI k)), (2, .int (nI (rHd r cn))), (0, .ref (G 0)), (1, .int (nI cn))]) hx hb dX6_size_68 rfl hl (by decide) rfl (fun ls hl => ?_)
            refine lv_iinc (v := nI (k + 1)) (lv' := [(4, .int (nI (k + 1))), (3, .int (nI ((f_cnt (fun k => f_msz r (iv (f_at r (rHd r cn) k))) k) + (f_msz r (iv (f_at r (rHd r cn) k)))))), (2, .int (nI (rHd r cn))), (0, .ref (G 0)), (1, .int (nI cn))]) hx hb dX6_size_69 hl (k := 1) rfl (by show nI k + 1 = nI (k + 1); exact nI_1 _) (by decide) rfl (fun ls hl => ?_)
            refine lv_goto (tgt := 43) hx hb dX6_size_72 (by decide) ?_
            have e_3 : (nI (f_cnt (fun k => f_msz r (iv (f_at r (rHd r cn) k))) (k + 1)) : Int32) = nI ((f_cnt (fun k => f_msz r (iv (f_at r (rHd r cn) k))) k) + (f_msz r (iv (f_at r (rHd r cn) k)))) := (by rfl)
            exact ih_loop (k + 1) (by omega) _ (by rw [e_3]; exact lv_sub hl [0, 1, 2, 3, 4] rfl)
        have e_3 : (nI (f_cnt (fun k => f_msz r (iv (f_at r (rHd r cn) k))) 0) : Int32) = 0 := (by rfl)
        exact loop (rMn r (rHd r cn)) 0 (by omega) _ (by rw [e_3]; exact lv_sub hl [0, 1, 2, 3, 4] rfl)
      · have h_29 : (rK r (rHd r cn)) < 13 := nInle (show ¬ nI 13 ≤ nI (rK r (rHd r cn)) from h_29) (by omega) (by omega)
        refine lv_aload_n hx hb dX6_size_32 rfl (lv_at hl 1 rfl) ?_
        refine lv_iload_n hx hb dX6_size_33 rfl (lv_at hl 0 rfl) ?_
        refine px_goV (st1 := [.int (nI (f_msz r (rHd r cn)))]) (px_callV F hK (c_X6_middleSize l D cy A G r _ _ _ (rHd r cn) hI (by omega)) kc_X6_middleSize kw_methodLink_RX6_135 rfl hR (m_recv hK hR) rfl ⟨rfl, rfl⟩ ⟨Nat.le_of_ble_eq_true rfl, Nat.le_of_ble_eq_true rfl⟩ hl.1 rfl (Nat.le_of_ble_eq_true rfl) dX6_size_34 ⟨Nat.zero_le _, Nat.zero_le _⟩) rfl ?_
        exact pv_iret F hr hlocks (by rw [show f_size r (nI cn) = nI (f_msz r (rHd r cn)) from (by simp only [f_size, h_4, ix_nI (show cn < 2 ^ 31 by omega)]; simp only [Bool.not_true, Bool.false_eq_true, if_false]; unfold f_tsz; rw [if_pos (Or.inr (by omega))])]; try rfl) dX6_size_37
  · refine lv_bipush (v := -2) hx hb dX6_size_7 (by decide) ?_
    exact pv_iret F hr hlocks (by rw [show f_size r cl = -2 from (by simp [f_size, h_4])]) dX6_size_9
set_option maxHeartbeats 400000 in
set_option maxRecDepth 100000 in
theorem c_X6_told (l : Launch) (D : va_G) (cy : Nat → ClassId) (A : Nat → Prop) (G : Nat → Nat) (r : RS) (C : Nat → Nat) (E : Nat → Int64) (sz : Nat) (w : Int32) {kk : Nat} (hI : Inv kk r) : Met l yX6_told (px_w yX6_told cX6_told 4 (some .int)) (rmd 1 0 0) (px_P D cy [.ref (G 0), .int w] sz (MR D cy A G r C E)) (px_V (some (.int (f_told r w)))) 0 0 (fun _ => False) := by
  refine px_met (by decide) (Nat.le_of_ble_eq_true rfl) ?_
  intro p e s m below meth c F hr hlocks hnm hK hsz hR ls hl
  have hx := F.1
  have hb := F.2.1
  have hl : lv_has ls 4 [(0, .ref (G 0)), (1, .int w)] := hl
  have hbd := hI.bd
  refine lv_iconst (v := 0) hx hb dX6_told_0 (by decide) ?_
  refine lv_istore_n (lv' := [(2, .int 0), (0, .ref (G 0)), (1, .int w)]) hx hb dX6_told_1 rfl hl (by decide) rfl (fun ls hl => ?_)
  refine lv_iconst (v := 0) hx hb dX6_told_2 (by decide) ?_
  refine lv_istore_n (lv' := [(3, .int 0), (2, .int 0), (0, .ref (G 0)), (1, .int w)]) hx hb dX6_told_3 rfl hl (by decide) rfl (fun ls hl => ?_)
  have loop : ∀ (d k : Nat), k + d = 16 → ∀ (ls : Array Slot), lv_has ls 4 [(3, .int (nI k)), (2, .int (nI (f_cnt (fun k => if rHd r k = 0 then 0 else 1) k))), (0, .ref (G 0)), (1, .int w)] → W p l e (rmd 1 0 0) s m ([.ref (G 0), .int w] : List Value).toArray below meth c s.heap [] 0 0 (MQ below (px_V (some (.int (f_told r w)))) ([.ref (G 0), .int w] : List Value).toArray s 0 0 (fun _ => False)) (F0 m 4 ls []) := by
    intro d
    induction d with
    | zero =>
      intro k hk ls hl
      refine lv_iload_n hx hb dX6_told_4 rfl (lv_at hl 0 rfl) ?_
      refine lv_bipush (v := 16) hx hb dX6_told_5 (by decide) ?_
      refine lv_icmp_ge (tgt := 33) hx hb dX6_told_7 (by decide) (fun h_7 => ?_) (fun h_7 => by exfalso; have h_7 : k < 16 := nInle (show ¬ nI 16 ≤ nI k from h_7) (by omega) (by omega); omega)
      have h_7 : 16 ≤ k := nIle (show nI 16 ≤ nI k from h_7) (by omega) (by omega)
      refine lv_iload_n hx hb dX6_told_33 rfl (lv_at hl 3 rfl) ?_
      refine lv_if_ne (tgt := 41) hx hb dX6_told_34 (by decide) (fun h_34 => ?_) (fun h_34 => ?_)
      · have h_34 : ¬ w = 0 := h_34
        refine lv_iload_n hx hb dX6_told_41 rfl (lv_at hl 3 rfl) ?_
        refine lv_iconst (v := 1) hx hb dX6_told_42 (by decide) ?_
        refine lv_icmp_ne (tgt := 53) hx hb dX6_told_43 (by decide) (fun h_43 => ?_) (fun h_43 => ?_)
        · have h_43 : ¬ w = 1 := h_43
          refine lv_iload_n hx hb dX6_told_53 rfl (lv_at hl 3 rfl) ?_
          refine lv_iconst (v := 2) hx hb dX6_told_54 (by decide) ?_
          refine lv_icmp_ne (tgt := 65) hx hb dX6_told_55 (by decide) (fun h_55 => ?_) (fun h_55 => ?_)
          · have h_55 : ¬ w = 2 := h_55
            refine lv_bipush (v := -2) hx hb dX6_told_65 (by decide) ?_
            exact pv_iret F hr hlocks (by have hkn : k = 16 := (by omega); rw [show f_told r w = (-2) from (by simp [f_told, f_held, h_7, h_34, h_43, h_55])]; try rfl) dX6_told_67
          · have h_55 : w = 2 := h_55
            refine lv_aload_n hx hb dX6_told_58 rfl (lv_at hl 2 rfl) ?_
            refine m_get F hK hR 6 (by decide) rfl kw_fieldLink_RX6_122 dX6_told_59 ?_
            refine lv_goto (tgt := 67) hx hb dX6_told_62 (by decide) ?_
            exact pv_iret F hr hlocks (by have hkn : k = 16 := (by omega); rw [show f_told r w = nI (rM r) from (by simp [f_told, f_held, h_7, h_34, h_43, h_55])]; try rfl) dX6_told_67
        · have h_43 : w = 1 := h_43
          refine lv_aload_n hx hb dX6_told_46 rfl (lv_at hl 2 rfl) ?_
          refine m_get F hK hR 4 (by decide) rfl kw_fieldLink_RX6_50 dX6_told_47 ?_
          refine lv_goto (tgt := 67) hx hb dX6_told_50 (by decide) ?_
          exact pv_iret F hr hlocks (by have hkn : k = 16 := (by omega); rw [show f_told r w = nI (rN r) from (by simp [f_told, f_held, h_7, h_34, h_43])]; try rfl) dX6_told_67
      · have h_34 : w = 0 := h_34
        refine lv_iload_n hx hb dX6_told_37 rfl (lv_at hl 1 rfl) ?_
        refine lv_goto (tgt := 67) hx hb dX6_told_38 (by decide) ?_
        exact pv_iret F hr hlocks (by have hkn : k = 16 := (by omega); rw [show f_told r w = nI (f_cnt (fun k => if rHd r k = 0 then 0 else 1) k) from (by rw [hkn]; simp [f_told, f_held, h_7, h_34])]; try rfl) dX6_told_67
    | succ d ih_loop =>
      intro k hk ls hl
      have hh := hI.hd k (by omega)
      refine lv_iload_n hx hb dX6_told_4 rfl (lv_at hl 0 rfl) ?_
      refine lv_bipush (v := 16) hx hb dX6_told_5 (by decide) ?_
      refine lv_icmp_ge (tgt := 33) hx hb dX6_told_7 (by decide) (fun h_7 => by exfalso; have h_7 : 16 ≤ k := nIle (show nI 16 ≤ nI k from h_7) (by omega) (by omega); omega) (fun h_7 => ?_)
      have h_7 : k < 16 := nInle (show ¬ nI 16 ≤ nI k from h_7) (by omega) (by omega)
      refine lv_iload_n hx hb dX6_told_10 rfl (lv_at hl 1 rfl) ?_
      refine lv_aload_n hx hb dX6_told_11 rfl (lv_at hl 2 rfl) ?_
      refine m_get F hK hR 9 (by decide) rfl kw_fieldLink_RX6_31 dX6_told_12 ?_
      refine lv_iload_n hx hb dX6_told_15 rfl (lv_at hl 0 rfl) ?_
      refine m_ldHd F hK hR k rfl (by omega) dX6_told_16 ?_
      refine lv_if_eq (tgt := 24) hx hb dX6_told_17 (by decide) (fun h_17 => ?_) (fun h_17 => ?_)
      · have h_17 : (rHd r k) = 0 := nIeq (show nI (rHd r k) = nI 0 from h_17) (by omega) (by omega)
        refine lv_iconst (v := 0) hx hb dX6_told_24 (by decide) ?_
        refine lv_iadd hx hb dX6_told_25 ?_
        refine px_topi (y := nI ((f_cnt (fun k => if rHd r k = 0 then 0 else 1) k) + 0)) (nI_add _ _) ?_
        refine lv_istore_n (lv' := [(2, .int (nI ((f_cnt (fun k => if rHd r k = 0 then 0 else 1) k) + 0))), (3, .int (nI k)), (0, .ref (G 0)), (1, .int w)]) hx hb dX6_told_26 rfl hl (by decide) rfl (fun ls hl => ?_)
        refine lv_iinc (v := nI (k + 1)) (lv' := [(3, .int (nI (k + 1))), (2, .int (nI ((f_cnt (fun k => if rHd r k = 0 then 0 else 1) k) + 0))), (0, .ref (G 0)), (1, .int w)]) hx hb dX6_told_27 hl (k := 1) rfl (by show nI k + 1 = nI (k + 1); exact nI_1 _) (by decide) rfl (fun ls hl => ?_)
        refine lv_goto (tgt := 4) hx hb dX6_told_30 (by decide) ?_
        have e_2 : (nI (f_cnt (fun k => if rHd r k = 0 then 0 else 1) (k + 1)) : Int32) = nI ((f_cnt (fun k => if rHd r k = 0 then 0 else 1) k) + 0) := (by simp [f_cnt, h_17])
        exact ih_loop (k + 1) (by omega) _ (by rw [e_2]; exact lv_sub hl [0, 1, 2, 3] rfl)
      · have h_17 : ¬ (rHd r k) = 0 := nIne (show ¬ nI (rHd r k) = nI 0 from h_17)
        refine lv_iconst (v := 1) hx hb dX6_told_20 (by decide) ?_
        refine lv_goto (tgt := 25) hx hb dX6_told_21 (by decide) ?_
        refine lv_iadd hx hb dX6_told_25 ?_
        refine px_topi (y := nI ((f_cnt (fun k => if rHd r k = 0 then 0 else 1) k) + 1)) (nI_add _ _) ?_
        refine lv_istore_n (lv' := [(2, .int (nI ((f_cnt (fun k => if rHd r k = 0 then 0 else 1) k) + 1))), (3, .int (nI k)), (0, .ref (G 0)), (1, .int w)]) hx hb dX6_told_26 rfl hl (by decide) rfl (fun ls hl => ?_)
        refine lv_iinc (v := nI (k + 1)) (lv' := [(3, .int (nI (k + 1))), (2, .int (nI ((f_cnt (fun k => if rHd r k = 0 then 0 else 1) k) + 1))), (0, .ref (G 0)), (1, .int w)]) hx hb dX6_told_27 hl (k := 1) rfl (by show nI k + 1 = nI (k + 1); exact nI_1 _) (by decide) rfl (fun ls hl => ?_)
        refine lv_goto (tgt := 4) hx hb dX6_told_30 (by decide) ?_
        have e_2 : (nI (f_cnt (fun k => if rHd r k = 0 then 0 else 1) (k + 1)) : Int32) = nI ((f_cnt (fun k => if rHd r k = 0 then 0 else 1) k) + 1) := (by simp [f_cnt, h_17])
        exact ih_loop (k + 1) (by omega) _ (by rw [e_2]; exact lv_sub hl [0, 1, 2, 3] rfl)
  have e_2 : (nI (f_cnt (fun k => if rHd r k = 0 then 0 else 1) 0) : Int32) = 0 := (by rfl)
  exact loop 16 0 (by omega) _ (by rw [e_2]; exact lv_sub hl [0, 1, 2, 3] rfl)
