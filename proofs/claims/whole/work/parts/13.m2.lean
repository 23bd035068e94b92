/-! the reference: the public methods, 1 -/
set_option maxHeartbeats 400000 in
set_option maxRecDepth 100000 in
theorem c_X6_itemOf (l : Launch) (D : va_G) (cy : Nat → ClassId) (A : Nat → Prop) (G : Nat → Nat) (r : RS) (C : Nat → Nat) (E : Nat → Int64) (sz : Nat) (t b : Nat) (i : Int32) {kk : Nat} (hI : Inv kk r) (ht : t ≤ rT r) (hb3 : b ≤ 3) : Met l yX6_itemOf (px_w yX6_itemOf cX6_itemOf 6 (some .long)) (rmd 3 0 0) (px_P D cy [.ref (G 0), .int (nI t), .int i, .int (nI b)] sz (MR D cy A G r C E)) (px_Q (px_M D cy A G (some (.long (f_itemOf r t i b).2)) ((f_itemOf r t i b).1)) A) 0 0 A := by
  refine px_met (by decide) (Nat.le_of_ble_eq_true rfl) ?_
  intro p e s m below meth c F hr hlocks hnm hK hsz hR ls hl
  have hx := F.1
  have hb := F.2.1
  have hl : lv_has ls 6 [(0, .ref (G 0)), (1, .int (nI t)), (2, .int i), (3, .int (nI b))] := hl
  have hS : va_S A s.heap s.heap [] := va_S.rf
  have hbd := hI.bd
  have hc1 := hI.tb t ht
  have hlk := looked_le r t i
  refine lv_aload_n hx hb dX6_itemOf_0 rfl (lv_at hl 0 rfl) ?_
  refine lv_iload_n hx hb dX6_itemOf_1 rfl (lv_at hl 3 rfl) ?_
  refine lv_if_eq (tgt := 9) hx hb dX6_itemOf_2 (by decide) (fun h_2 => ?_) (fun h_2 => ?_)
  · have h_2 : b = 0 := nIeq (show nI b = nI 0 from h_2) (by omega) (by omega)
    refine lv_aload_n hx hb dX6_itemOf_9 rfl (lv_at hl 0 rfl) ?_
    refine lv_iload_n hx hb dX6_itemOf_10 rfl (lv_at hl 1 rfl) ?_
    refine lv_iload_n hx hb dX6_itemOf_11 rfl (lv_at hl 2 rfl) ?_
    refine px_goV (st1 := [.int (nI (f_looked r t i)), .ref (G 0)]) (px_callV F hK (c_X6_looked l D cy A G r _ _ _ t i (by omega)) kc_X6_looked kw_methodLink_RX6_108 rfl hR (m_recv hK hR) rfl ⟨rfl, rfl⟩ ⟨Nat.le_of_ble_eq_true rfl, Nat.le_of_ble_eq_true rfl⟩ hl.1 rfl (Nat.le_of_ble_eq_true rfl) dX6_itemOf_12 ⟨Nat.zero_le _, Nat.zero_le _⟩) rfl ?_
    refine m_put F hK hR hS 13 (by decide) (v := nI (f_looked r t i)) rfl (sFa r (nI (f_looked r t i))) rfl kw_fieldLink_RX6_111 rfl rfl dX6_itemOf_15 (fun H locs hR hS => ?_)
    refine lv_aload_n hx hb dX6_itemOf_18 rfl (lv_at hl 0 rfl) ?_
    refine m_get F hK hR 13 (by decide) rfl kw_fieldLink_RX6_111 dX6_itemOf_19 ?_
    refine lv_if_eq (tgt := 27) hx hb dX6_itemOf_22 (by decide) (fun h_22 => ?_) (fun h_22 => ?_)
    · have h_22 : (f_looked r t i) = 0 := nIeq (show nI (f_looked r t i) = nI 0 from h_22) (by omega) (by omega)
      obtain ⟨ht0_j, j, hj_j, rfl⟩ := looked_0 h_22 (by omega)
      refine lv_aload_n hx hb dX6_itemOf_27 rfl (lv_at hl 0 rfl) ?_
      refine lv_iload_n hx hb dX6_itemOf_28 rfl (lv_at hl 1 rfl) ?_
      refine lv_iload_n hx hb dX6_itemOf_29 rfl (lv_at hl 2 rfl) ?_
      refine px_goV (st1 := [.long (f_at r t j)]) (px_callV F hK (c_X6_at l D cy A G (sFa r (nI (f_looked r t (nI j)))) _ _ _ t j (by omega) (show rS r t + j < 12200 by omega)) kc_X6_at kw_methodLink_RX6_80 rfl hR (m_recv hK hR) rfl ⟨rfl, rfl⟩ ⟨Nat.le_of_ble_eq_true rfl, Nat.le_of_ble_eq_true rfl⟩ hl.1 rfl (Nat.le_of_ble_eq_true rfl) dX6_itemOf_30 ⟨Nat.zero_le _, Nat.zero_le _⟩) rfl ?_
      refine lv_lstore (lv' := [(4, .long (f_at r t j)), (0, .ref (G 0)), (1, .int (nI t)), (2, .int (nI j)), (3, .int (nI b))]) hx hb dX6_itemOf_33 hl (by decide) rfl (fun ls hl => ?_)
      refine lv_aload_n hx hb dX6_itemOf_35 rfl (lv_at hl 1 rfl) ?_
      refine m_get F hK hR 1 (by decide) rfl kw_fieldLink_RX6_7 dX6_itemOf_36 ?_
      refine lv_iload_n hx hb dX6_itemOf_39 rfl (lv_at hl 2 rfl) ?_
      refine m_ldK F hK hR t rfl (by omega) dX6_itemOf_40 ?_
      refine lv_bipush (v := 8) hx hb dX6_itemOf_41 (by decide) ?_
      refine lv_icmp_eq (tgt := 57) hx hb dX6_itemOf_43 (by decide) (fun h_43 => ?_) (fun h_43 => ?_)
      · have h_43 : (rK r t) = 8 := nIeq (show nI (rK r t) = nI 8 from h_43) (by omega) (by omega)
        refine lv_aload_n hx hb dX6_itemOf_57 rfl (lv_at hl 1 rfl) ?_
        refine lv_lload hx hb dX6_itemOf_58 (lv_at hl 0 rfl) ?_
        refine lv_lconst (v := 0) hx hb dX6_itemOf_60 (by decide) ?_
        refine W.lcmp hx hb dX6_itemOf_61 ?_
        refine x_cmp_ne (tgt := 69) hx hb dX6_itemOf_62 (by decide) (fun h_62 => ?_) (fun h_62 => ?_)
        · refine lv_iconst (v := 0) hx hb dX6_itemOf_69 (by decide) ?_
          refine m_put F hK hR hS 13 (by decide) (v := 0) rfl (sFa r 0) rfl kw_fieldLink_RX6_111 rfl rfl dX6_itemOf_70 (fun H locs hR hS => ?_)
          refine lv_lload hx hb dX6_itemOf_73 (lv_at hl 0 rfl) ?_
          refine lv_lconst (v := 0) hx hb dX6_itemOf_75 (by decide) ?_
          refine W.lcmp hx hb dX6_itemOf_76 ?_
          refine x_cmp_ne (tgt := 84) hx hb dX6_itemOf_77 (by decide) (fun h_77 => ?_) (fun h_77 => (h_62 h_77).elim)
          refine lv_aload_n hx hb dX6_itemOf_84 rfl (lv_at hl 1 rfl) ?_
          refine m_get F hK hR 7 (by decide) rfl kw_fieldLink_RX6_24 dX6_itemOf_85 ?_
          refine lv_lload hx hb dX6_itemOf_88 (lv_at hl 0 rfl) ?_
          have hit := hI.it ht0_j ht hj_j (by omega)
          refine px_topl hit.1 ?_
          refine lv_l2i (v := nI (iv (f_at r t j))) hx hb dX6_itemOf_90 (lN_i _) ?_
          refine m_ldTN F hK hR (iv (f_at r t j)) rfl (by omega) dX6_itemOf_91 ?_
          refine lv_i2l hx hb dX6_itemOf_92 rfl ?_
          exact px_lret F hr hlocks hS (by have e : f_itemOf r t (nI j) b = (sFa r 0, (rTN r (iv (f_at r t j))).toInt64) := (by simp [f_itemOf, h_2, h_22, h_43, h_62, ix_nI (show j < 2 ^ 31 by omega)] <;> rfl); rw [e]; exact ⟨rfl, _, _, hR⟩) dX6_itemOf_93
        · refine lv_iconst (v := 1) hx hb dX6_itemOf_65 (by decide) ?_
          refine lv_goto (tgt := 70) hx hb dX6_itemOf_66 (by decide) ?_
          refine m_put F hK hR hS 13 (by decide) (v := 1) rfl (sFa r 1) rfl kw_fieldLink_RX6_111 rfl rfl dX6_itemOf_70 (fun H locs hR hS => ?_)
          refine lv_lload hx hb dX6_itemOf_73 (lv_at hl 0 rfl) ?_
          refine lv_lconst (v := 0) hx hb dX6_itemOf_75 (by decide) ?_
          refine W.lcmp hx hb dX6_itemOf_76 ?_
          refine x_cmp_ne (tgt := 84) hx hb dX6_itemOf_77 (by decide) (fun h_77 => (h_77 h_62).elim) (fun h_77 => ?_)
          refine lv_lconst (v := 0) hx hb dX6_itemOf_80 (by decide) ?_
          refine lv_goto (tgt := 93) hx hb dX6_itemOf_81 (by decide) ?_
          exact px_lret F hr hlocks hS (by have e : f_itemOf r t (nI j) b = (sFa r 1, 0) := (by simp [f_itemOf, h_2, h_22, h_43, h_62, ix_nI (show j < 2 ^ 31 by omega)] <;> rfl); rw [e]; exact ⟨rfl, _, _, hR⟩) dX6_itemOf_93
      · have h_43 : ¬ (rK r t) = 8 := nIne (show ¬ nI (rK r t) = nI 8 from h_43)
        refine lv_aload_n hx hb dX6_itemOf_46 rfl (lv_at hl 1 rfl) ?_
        refine m_get F hK hR 1 (by decide) rfl kw_fieldLink_RX6_7 dX6_itemOf_47 ?_
        refine lv_iload_n hx hb dX6_itemOf_50 rfl (lv_at hl 2 rfl) ?_
        refine m_ldK F hK hR t rfl (by omega) dX6_itemOf_51 ?_
        refine lv_bipush (v := 9) hx hb dX6_itemOf_52 (by decide) ?_
        refine lv_icmp_ne (tgt := 94) hx hb dX6_itemOf_54 (by decide) (fun h_54 => ?_) (fun h_54 => ?_)
        · have h_54 : ¬ (rK r t) = 9 := nIne (show ¬ nI (rK r t) = nI 9 from h_54)
          refine lv_lload hx hb dX6_itemOf_94 (lv_at hl 0 rfl) ?_
          exact px_lret F hr hlocks hS (by have e : f_itemOf r t (nI j) b = (sFa r (nI (f_looked r t (nI j))), f_at r t j) := (by simp [f_itemOf, h_2, h_22, h_43, h_54, ix_nI (show j < 2 ^ 31 by omega)] <;> rfl); rw [e]; exact ⟨rfl, _, _, hR⟩) dX6_itemOf_96
        · have h_54 : (rK r t) = 9 := nIeq (show nI (rK r t) = nI 9 from h_54) (by omega) (by omega)
          refine lv_aload_n hx hb dX6_itemOf_57 rfl (lv_at hl 1 rfl) ?_
          refine lv_lload hx hb dX6_itemOf_58 (lv_at hl 0 rfl) ?_
          refine lv_lconst (v := 0) hx hb dX6_itemOf_60 (by decide) ?_
          refine W.lcmp hx hb dX6_itemOf_61 ?_
          refine x_cmp_ne (tgt := 69) hx hb dX6_itemOf_62 (by decide) (fun h_62 => ?_) (fun h_62 => ?_)
          · refine lv_iconst (v := 0) hx hb dX6_itemOf_69 (by decide) ?_
            refine m_put F hK hR hS 13 (by decide) (v := 0) rfl (sFa r 0) rfl kw_fieldLink_RX6_111 rfl rfl dX6_itemOf_70 (fun H locs hR hS => ?_)
            refine lv_lload hx hb dX6_itemOf_73 (lv_at hl 0 rfl) ?_
            refine lv_lconst (v := 0) hx hb dX6_itemOf_75 (by decide) ?_
            refine W.lcmp hx hb dX6_itemOf_76 ?_
            refine x_cmp_ne (tgt := 84) hx hb dX6_itemOf_77 (by decide) (fun h_77 => ?_) (fun h_77 => (h_62 h_77).elim)
            refine lv_aload_n hx hb dX6_itemOf_84 rfl (lv_at hl 1 rfl) ?_
            refine m_get F hK hR 7 (by decide) rfl kw_fieldLink_RX6_24 dX6_itemOf_85 ?_
            refine lv_lload hx hb dX6_itemOf_88 (lv_at hl 0 rfl) ?_
            have hit := hI.it ht0_j ht hj_j (by omega)
            refine px_topl hit.1 ?_
            refine lv_l2i (v := nI (iv (f_at r t j))) hx hb dX6_itemOf_90 (lN_i _) ?_
            refine m_ldTN F hK hR (iv (f_at r t j)) rfl (by omega) dX6_itemOf_91 ?_
            refine lv_i2l hx hb dX6_itemOf_92 rfl ?_
            exact px_lret F hr hlocks hS (by have e : f_itemOf r t (nI j) b = (sFa r 0, (rTN r (iv (f_at r t j))).toInt64) := (by simp [f_itemOf, h_2, h_22, h_43, h_54, h_62, ix_nI (show j < 2 ^ 31 by omega)] <;> rfl); rw [e]; exact ⟨rfl, _, _, hR⟩) dX6_itemOf_93
          · refine lv_iconst (v := 1) hx hb dX6_itemOf_65 (by decide) ?_
            refine lv_goto (tgt := 70) hx hb dX6_itemOf_66 (by decide) ?_
            refine m_put F hK hR hS 13 (by decide) (v := 1) rfl (sFa r 1) rfl kw_fieldLink_RX6_111 rfl rfl dX6_itemOf_70 (fun H locs hR hS => ?_)
            refine lv_lload hx hb dX6_itemOf_73 (lv_at hl 0 rfl) ?_
            refine lv_lconst (v := 0) hx hb dX6_itemOf_75 (by decide) ?_
            refine W.lcmp hx hb dX6_itemOf_76 ?_
            refine x_cmp_ne (tgt := 84) hx hb dX6_itemOf_77 (by decide) (fun h_77 => (h_77 h_62).elim) (fun h_77 => ?_)
            refine lv_lconst (v := 0) hx hb dX6_itemOf_80 (by decide) ?_
            refine lv_goto (tgt := 93) hx hb dX6_itemOf_81 (by decide) ?_
            exact px_lret F hr hlocks hS (by have e : f_itemOf r t (nI j) b = (sFa r 1, 0) := (by simp [f_itemOf, h_2, h_22, h_43, h_54, h_62, ix_nI (show j < 2 ^ 31 by omega)] <;> rfl); rw [e]; exact ⟨rfl, _, _, hR⟩) dX6_itemOf_93
    · have h_22 : ¬ (f_looked r t i) = 0 := nIne (show ¬ nI (f_looked r t i) = nI 0 from h_22)
      refine lv_lconst (v := 0) hx hb dX6_itemOf_25 (by decide) ?_
      exact px_lret F hr hlocks hS (by have e : f_itemOf r t i b = (sFa r (nI (f_looked r t i)), 0) := (by simp [f_itemOf, h_2, h_22] <;> rfl); rw [e]; exact ⟨rfl, _, _, hR⟩) dX6_itemOf_26
  · have h_2 : ¬ b = 0 := nIne (show ¬ nI b = nI 0 from h_2)
    refine lv_iload_n hx hb dX6_itemOf_5 rfl (lv_at hl 3 rfl) ?_
    refine lv_goto (tgt := 15) hx hb dX6_itemOf_6 (by decide) ?_
    refine m_put F hK hR hS 13 (by decide) (v := nI b) rfl (sFa r (nI b)) rfl kw_fieldLink_RX6_111 rfl rfl dX6_itemOf_15 (fun H locs hR hS => ?_)
    refine lv_aload_n hx hb dX6_itemOf_18 rfl (lv_at hl 0 rfl) ?_
    refine m_get F hK hR 13 (by decide) rfl kw_fieldLink_RX6_111 dX6_itemOf_19 ?_
    refine lv_if_eq (tgt := 27) hx hb dX6_itemOf_22 (by decide) (fun h_22 => by exfalso; have h_22 : b = 0 := nIeq (show nI b = nI 0 from h_22) (by omega) (by omega); omega) (fun h_22 => ?_)
    have h_22 : ¬ b = 0 := nIne (show ¬ nI b = nI 0 from h_22)
    refine lv_lconst (v := 0) hx hb dX6_itemOf_25 (by decide) ?_
    exact px_lret F hr hlocks hS (by have e : f_itemOf r t i b = (sFa r (nI b), 0) := (by simp [f_itemOf, h_2, h_22] <;> rfl); rw [e]; exact ⟨rfl, _, _, hR⟩) dX6_itemOf_26
set_option maxHeartbeats 400000 in
set_option maxRecDepth 100000 in
theorem c_X6_make (l : Launch) (D : va_G) (cy : Nat → ClassId) (A : Nat → Prop) (G : Nat → Nat) (r : RS) (C : Nat → Nat) (E : Nat → Int64) (sz : Nat) (cl k n : Int32) {kk : Nat} (hI : Inv kk r) : Met l yX6_make (px_w yX6_make cX6_make 4 (some .int)) (rmd 3 0 0) (px_P D cy [.ref (G 0), .int cl, .int k, .int n] sz (MR D cy A G r C E)) (px_Q (px_M D cy A G (some (.int (f_make r cl k n).2)) ((f_make r cl k n).1)) A) 0 0 A := by
  refine px_met (by decide) (Nat.le_of_ble_eq_true rfl) ?_
  intro p e s m below meth c F hr hlocks hnm hK hsz hR ls hl
  have hx := F.1
  have hb := F.2.1
  have hl : lv_has ls 4 [(0, .ref (G 0)), (1, .int cl), (2, .int k), (3, .int n)] := hl
  have hS : va_S A s.heap s.heap [] := va_S.rf
  have hbd := hI.bd
  refine lv_iload_n hx hb dX6_make_0 rfl (lv_at hl 1 rfl) ?_
  refine px_goV (st1 := [.int (b2i (f_in cl 0 15))]) (px_callS F hK (c_X6_isColumn l D cy _ cl) kc_X6_isColumn kw_methodLink_RX6_53 rfl trivial rfl ⟨rfl, rfl⟩ ⟨Nat.le_of_ble_eq_true rfl, Nat.le_of_ble_eq_true rfl⟩ hl.1 rfl (Nat.le_of_ble_eq_true rfl) dX6_make_1 ⟨Nat.zero_le _, Nat.zero_le _⟩) rfl ?_
  refine x_ifeq_b (tgt := 23) hx hb dX6_make_4 (by decide) (fun h_4 => ?_) (fun h_4 => ?_)
  · refine lv_bipush (v := -2) hx hb dX6_make_23 (by decide) ?_
    exact px_iret F hr hlocks hS (by have e : f_make r cl k n = (r, (-2)) := (by simp [f_make, Int32.not_le, Int32.not_lt, h_4] <;> rfl); rw [e]; exact ⟨rfl, _, _, hR⟩) dX6_make_25
  · refine lv_iload_n hx hb dX6_make_7 rfl (lv_at hl 2 rfl) ?_
    refine lv_iconst (v := 0) hx hb dX6_make_8 (by decide) ?_
    refine lv_bipush (v := 13) hx hb dX6_make_9 (by decide) ?_
    refine px_goV (st1 := [.int (b2i (f_in k 0 13))]) (px_callS F hK (c_X6_in l D cy _ k 0 13) kc_X6_in kw_methodLink_RX6_57 rfl trivial rfl ⟨rfl, rfl⟩ ⟨Nat.le_of_ble_eq_true rfl, Nat.le_of_ble_eq_true rfl⟩ hl.1 rfl (Nat.le_of_ble_eq_true rfl) dX6_make_11 ⟨Nat.zero_le _, Nat.zero_le _⟩) rfl ?_
    refine x_ifeq_b (tgt := 23) hx hb dX6_make_14 (by decide) (fun h_14 => ?_) (fun h_14 => ?_)
    · refine lv_bipush (v := -2) hx hb dX6_make_23 (by decide) ?_
      exact px_iret F hr hlocks hS (by have e : f_make r cl k n = (r, (-2)) := (by simp [f_make, Int32.not_le, Int32.not_lt, h_4, h_14] <;> rfl); rw [e]; exact ⟨rfl, _, _, hR⟩) dX6_make_25
    · refine lv_iload_n hx hb dX6_make_17 rfl (lv_at hl 3 rfl) ?_
      refine lv_bipush (v := 30) hx hb dX6_make_18 (by decide) ?_
      refine lv_icmp_le (tgt := 26) hx hb dX6_make_20 (by decide) (fun h_20 => ?_) (fun h_20 => ?_)
      · have h_20 : ¬ 30 < n := Int32.not_lt.mpr h_20
        obtain ⟨cn, hl_cn, hh_cn, rfl⟩ := f_in_nat h_4 0 15 (by decide) (by decide) (by decide) (by decide)
        obtain ⟨kn, hl_kn, hh_kn, rfl⟩ := f_in_nat h_14 0 13 (by decide) (by decide) (by decide) (by decide)
        refine lv_aload_n hx hb dX6_make_26 rfl (lv_at hl 0 rfl) ?_
        refine px_goV (st1 := [.int (b2i (decide (6000 ≤ rN r)))]) (px_callV F hK (c_X6_isFull l D cy A G r _ _ _ (by omega)) kc_X6_isFull kw_methodLink_RX6_61 rfl hR (m_recv hK hR) rfl ⟨rfl, rfl⟩ ⟨Nat.le_of_ble_eq_true rfl, Nat.le_of_ble_eq_true rfl⟩ hl.1 rfl (Nat.le_of_ble_eq_true rfl) dX6_make_27 ⟨Nat.zero_le _, Nat.zero_le _⟩) rfl ?_
        refine x_ifeq_b (tgt := 36) hx hb dX6_make_30 (by decide) (fun h_30 => ?_) (fun h_30 => ?_)
        · have h_30 : ¬ (6000 ≤ rN r) := of_decide_eq_false h_30
          refine lv_iload_n hx hb dX6_make_36 rfl (lv_at hl 3 rfl) ?_
          refine lv_if_ge (tgt := 45) hx hb dX6_make_37 (by decide) (fun h_37 => ?_) (fun h_37 => ?_)
          · have h_37 : ¬ n < 0 := Int32.not_lt.mpr h_37
            obtain ⟨nn, hh_nn, rfl⟩ := le_nat 30 h_37 h_20 (by decide) (by decide)
            refine lv_aload_n hx hb dX6_make_45 rfl (lv_at hl 0 rfl) ?_
            refine m_get F hK hR 9 (by decide) rfl kw_fieldLink_RX6_31 dX6_make_46 ?_
            refine lv_iload_n hx hb dX6_make_49 rfl (lv_at hl 1 rfl) ?_
            refine lv_aload_n hx hb dX6_make_50 rfl (lv_at hl 0 rfl) ?_
            refine lv_iload_n hx hb dX6_make_51 rfl (lv_at hl 2 rfl) ?_
            refine lv_iload_n hx hb dX6_make_52 rfl (lv_at hl 3 rfl) ?_
            refine px_goMx (st1 := [.int (nI ((rT r) + 1)), .int (nI cn), .ref (G 7)]) (px_callV F hK (c_X6_table l D cy A G r _ _ _ kn nn (show (rT r) + 1 < 13000 by omega) (show (rN r) + nn ≤ 12200 by omega) (by omega) (by omega)) kc_X6_table kw_methodLink_RX6_69 rfl hR (m_recv hK hR) rfl ⟨rfl, rfl⟩ ⟨Nat.le_of_ble_eq_true rfl, Nat.le_of_ble_eq_true rfl⟩ hl.1 rfl (Nat.le_of_ble_eq_true rfl) dX6_make_53 ⟨Nat.zero_le _, Nat.zero_le _⟩) hS rfl (fun H locs hR hS => ?_)
            refine m_stHd F hK hR hS cn ((rT r) + 1) rfl rfl (by omega) dX6_make_56 (fun H locs hR hS => ?_)
            refine lv_iconst (v := 1) hx hb dX6_make_57 (by decide) ?_
            exact px_iret F hr hlocks hS (by have e : f_make r (nI cn) (nI kn) (nI nn) = (sHd (f_table r kn nn) (va_up (rHd r) cn ((rT r) + 1)), 1) := (by simp [f_make, Int32.not_le, Int32.not_lt, h_4, h_14, h_20, h_30, h_37, ix_nI (show cn < 2 ^ 31 by omega), ix_nI (show kn < 2 ^ 31 by omega), ix_nI (show nn < 2 ^ 31 by omega)] <;> rfl); rw [e]; exact ⟨rfl, _, _, hR⟩) dX6_make_58
          · have h_37 : n < 0 := Int32.not_le.mp h_37
            refine lv_iconst (v := 4) hx hb dX6_make_40 (by decide) ?_
            refine px_goV (st1 := [.int (-14)]) (px_callS F hK (c_X6_answer l D cy _ 4) kc_X6_answer kw_methodLink_RX6_65 rfl trivial rfl ⟨rfl, rfl⟩ ⟨Nat.le_of_ble_eq_true rfl, Nat.le_of_ble_eq_true rfl⟩ hl.1 rfl (Nat.le_of_ble_eq_true rfl) dX6_make_41 ⟨Nat.zero_le _, Nat.zero_le _⟩) rfl ?_
            exact px_iret F hr hlocks hS (by have e : f_make r (nI cn) (nI kn) n = (r, (-14)) := (by simp [f_make, Int32.not_le, Int32.not_lt, h_4, h_14, h_20, h_30, h_37, ix_nI (show cn < 2 ^ 31 by omega), ix_nI (show kn < 2 ^ 31 by omega)] <;> rfl); rw [e]; exact ⟨rfl, _, _, hR⟩) dX6_make_44
        · have h_30 : 6000 ≤ rN r := of_decide_eq_true h_30
          refine lv_bipush (v := -3) hx hb dX6_make_33 (by decide) ?_
          exact px_iret F hr hlocks hS (by have e : f_make r (nI cn) (nI kn) n = (r, (-3)) := (by simp [f_make, Int32.not_le, Int32.not_lt, h_4, h_14, h_20, h_30, ix_nI (show cn < 2 ^ 31 by omega), ix_nI (show kn < 2 ^ 31 by omega)] <;> rfl); rw [e]; exact ⟨rfl, _, _, hR⟩) dX6_make_35
      · have h_20 : 30 < n := Int32.not_le.mp h_20
        refine lv_bipush (v := -2) hx hb dX6_make_23 (by decide) ?_
        exact px_iret F hr hlocks hS (by have e : f_make r cl k n = (r, (-2)) := (by simp [f_make, Int32.not_le, Int32.not_lt, h_4, h_14, h_20] <;> rfl); rw [e]; exact ⟨rfl, _, _, hR⟩) dX6_make_25
set_option maxHeartbeats 400000 in
set_option maxRecDepth 100000 in
theorem c_X6_share (l : Launch) (D : va_G) (cy : Nat → ClassId) (A : Nat → Prop) (G : Nat → Nat) (r : RS) (C : Nat → Nat) (E : Nat → Int64) (sz : Nat) (cl f : Int32) {kk : Nat} (hI : Inv kk r) : Met l yX6_share (px_w yX6_share cX6_share 3 (some .int)) (rmd 3 0 0) (px_P D cy [.ref (G 0), .int cl, .int f] sz (MR D cy A G r C E)) (px_Q (px_M D cy A G (some (.int (f_share r cl f).2)) ((f_share r cl f).1)) A) 0 0 A := by
  refine px_met (by decide) (Nat.le_of_ble_eq_true rfl) ?_
  intro p e s m below meth c F hr hlocks hnm hK hsz hR ls hl
  have hx := F.1
  have hb := F.2.1
  have hl : lv_has ls 3 [(0, .ref (G 0)), (1, .int cl), (2, .int f)] := hl
  have hS : va_S A s.heap s.heap [] := va_S.rf
  have hbd := hI.bd
  refine lv_iload_n hx hb dX6_share_0 rfl (lv_at hl 1 rfl) ?_
  refine px_goV (st1 := [.int (b2i (f_in cl 0 15))]) (px_callS F hK (c_X6_isColumn l D cy _ cl) kc_X6_isColumn kw_methodLink_RX6_53 rfl trivial rfl ⟨rfl, rfl⟩ ⟨Nat.le_of_ble_eq_true rfl, Nat.le_of_ble_eq_true rfl⟩ hl.1 rfl (Nat.le_of_ble_eq_true rfl) dX6_share_1 ⟨Nat.zero_le _, Nat.zero_le _⟩) rfl ?_
  refine x_ifeq_b (tgt := 14) hx hb dX6_share_4 (by decide) (fun h_4 => ?_) (fun h_4 => ?_)
  · refine lv_bipush (v := -2) hx hb dX6_share_14 (by decide) ?_
    exact px_iret F hr hlocks hS (by have e : f_share r cl f = (r, (-2)) := (by simp [f_share, h_4] <;> rfl); rw [e]; exact ⟨rfl, _, _, hR⟩) dX6_share_16
  · refine lv_iload_n hx hb dX6_share_7 rfl (lv_at hl 2 rfl) ?_
    refine px_goV (st1 := [.int (b2i (f_in f 0 15))]) (px_callS F hK (c_X6_isColumn l D cy _ f) kc_X6_isColumn kw_methodLink_RX6_53 rfl trivial rfl ⟨rfl, rfl⟩ ⟨Nat.le_of_ble_eq_true rfl, Nat.le_of_ble_eq_true rfl⟩ hl.1 rfl (Nat.le_of_ble_eq_true rfl) dX6_share_8 ⟨Nat.zero_le _, Nat.zero_le _⟩) rfl ?_
    refine x_ifne_b (tgt := 17) hx hb dX6_share_11 (by decide) (fun h_11 => ?_) (fun h_11 => ?_)
    · obtain ⟨cn, hl_cn, hh_cn, rfl⟩ := f_in_nat h_4 0 15 (by decide) (by decide) (by decide) (by decide)
      obtain ⟨fn, hl_fn, hh_fn, rfl⟩ := f_in_nat h_11 0 15 (by decide) (by decide) (by decide) (by decide)
      refine lv_aload_n hx hb dX6_share_17 rfl (lv_at hl 0 rfl) ?_
      refine m_get F hK hR 9 (by decide) rfl kw_fieldLink_RX6_31 dX6_share_18 ?_
      refine lv_iload_n hx hb dX6_share_21 rfl (lv_at hl 1 rfl) ?_
      refine lv_aload_n hx hb dX6_share_22 rfl (lv_at hl 0 rfl) ?_
      refine m_get F hK hR 9 (by decide) rfl kw_fieldLink_RX6_31 dX6_share_23 ?_
      refine lv_iload_n hx hb dX6_share_26 rfl (lv_at hl 2 rfl) ?_
      refine m_ldHd F hK hR fn rfl (by omega) dX6_share_27 ?_
      refine m_stHd F hK hR hS cn (rHd r fn) rfl rfl (by omega) dX6_share_28 (fun H locs hR hS => ?_)
      refine lv_iconst (v := 1) hx hb dX6_share_29 (by decide) ?_
      exact px_iret F hr hlocks hS (by have e : f_share r (nI cn) (nI fn) = (sHd r (va_up (rHd r) cn (rHd r fn)), 1) := (by simp [f_share, h_4, h_11, ix_nI (show cn < 2 ^ 31 by omega), ix_nI (show fn < 2 ^ 31 by omega)] <;> rfl); rw [e]; exact ⟨rfl, _, _, hR⟩) dX6_share_30
    · refine lv_bipush (v := -2) hx hb dX6_share_14 (by decide) ?_
      exact px_iret F hr hlocks hS (by have e : f_share r cl f = (r, (-2)) := (by simp [f_share, h_4, h_11] <;> rfl); rw [e]; exact ⟨rfl, _, _, hR⟩) dX6_share_16
set_option maxHeartbeats 400000 in
set_option maxRecDepth 100000 in
theorem c_X6_drop (l : Launch) (D : va_G) (cy : Nat → ClassId) (A : Nat → Prop) (G : Nat → Nat) (r : RS) (C : Nat → Nat) (E : Nat → Int64) (sz : Nat) (cl : Int32) {kk : Nat} (hI : Inv kk r) : Met l yX6_drop (px_w yX6_drop cX6_drop 3 (some .int)) (rmd 3 0 0) (px_P D cy [.ref (G 0), .int cl] sz (MR D cy A G r C E)) (px_Q (px_M D cy A G (some (.int (f_drop r cl).2)) ((f_drop r cl).1)) A) 0 0 A := by
  refine px_met (by decide) (Nat.le_of_ble_eq_true rfl) ?_
  intro p e s m below meth c F hr hlocks hnm hK hsz hR ls hl
  have hx := F.1
  have hb := F.2.1
  have hl : lv_has ls 3 [(0, .ref (G 0)), (1, .int cl)] := hl
  have hS : va_S A s.heap s.heap [] := va_S.rf
  have hbd := hI.bd
  refine lv_iload_n hx hb dX6_drop_0 rfl (lv_at hl 1 rfl) ?_
  refine px_goV (st1 := [.int (b2i (f_in cl 0 15))]) (px_callS F hK (c_X6_isColumn l D cy _ cl) kc_X6_isColumn kw_methodLink_RX6_53 rfl trivial rfl ⟨rfl, rfl⟩ ⟨Nat.le_of_ble_eq_true rfl, Nat.le_of_ble_eq_true rfl⟩ hl.1 rfl (Nat.le_of_ble_eq_true rfl) dX6_drop_1 ⟨Nat.zero_le _, Nat.zero_le _⟩) rfl ?_
  refine x_ifne_b (tgt := 10) hx hb dX6_drop_4 (by decide) (fun h_4 => ?_) (fun h_4 => ?_)
  · obtain ⟨cn, hl_cn, hh_cn, rfl⟩ := f_in_nat h_4 0 15 (by decide) (by decide) (by decide) (by decide)
    have hc0 := hI.hd cn (by omega)
    have hc1 := hI.tb _ hc0
    refine lv_aload_n hx hb dX6_drop_10 rfl (lv_at hl 0 rfl) ?_
    refine m_get F hK hR 9 (by decide) rfl kw_fieldLink_RX6_31 dX6_drop_11 ?_
    refine lv_iload_n hx hb dX6_drop_14 rfl (lv_at hl 1 rfl) ?_
    refine m_ldHd F hK hR cn rfl (by omega) dX6_drop_15 ?_
    refine lv_if_ne (tgt := 23) hx hb dX6_drop_16 (by decide) (fun h_16 => ?_) (fun h_16 => ?_)
    · have h_16 : ¬ (rHd r cn) = 0 := nIne (show ¬ nI (rHd r cn) = nI 0 from h_16)
      refine lv_iconst (v := 1) hx hb dX6_drop_23 (by decide) ?_
      refine lv_istore_n (lv' := [(2, .int 1), (0, .ref (G 0)), (1, .int (nI cn))]) hx hb dX6_drop_24 rfl hl (by decide) rfl (fun ls hl => ?_)
      refine lv_aload_n hx hb dX6_drop_25 rfl (lv_at hl 1 rfl) ?_
      refine m_get F hK hR 9 (by decide) rfl kw_fieldLink_RX6_31 dX6_drop_26 ?_
      refine lv_iload_n hx hb dX6_drop_29 rfl (lv_at hl 2 rfl) ?_
      refine lv_iconst (v := 0) hx hb dX6_drop_30 (by decide) ?_
      refine m_stHd F hK hR hS cn 0 rfl rfl (by omega) dX6_drop_31 (fun H locs hR hS => ?_)
      refine lv_iload_n hx hb dX6_drop_32 rfl (lv_at hl 0 rfl) ?_
      exact px_iret F hr hlocks hS (by have e : f_drop r (nI cn) = (sHd r (va_up (rHd r) cn 0), 1) := (by simp [f_drop, h_4, h_16, ix_nI (show cn < 2 ^ 31 by omega)] <;> rfl); rw [e]; exact ⟨rfl, _, _, hR⟩) dX6_drop_33
    · have h_16 : (rHd r cn) = 0 := nIeq (show nI (rHd r cn) = nI 0 from h_16) (by omega) (by omega)
      refine lv_iconst (v := 0) hx hb dX6_drop_19 (by decide) ?_
      refine lv_goto (tgt := 24) hx hb dX6_drop_20 (by decide) ?_
      refine lv_istore_n (lv' := [(2, .int 0), (0, .ref (G 0)), (1, .int (nI cn))]) hx hb dX6_drop_24 rfl hl (by decide) rfl (fun ls hl => ?_)
      refine lv_aload_n hx hb dX6_drop_25 rfl (lv_at hl 1 rfl) ?_
      refine m_get F hK hR 9 (by decide) rfl kw_fieldLink_RX6_31 dX6_drop_26 ?_
      refine lv_iload_n hx hb dX6_drop_29 rfl (lv_at hl 2 rfl) ?_
      refine lv_iconst (v := 0) hx hb dX6_drop_30 (by decide) ?_
      refine m_stHd F hK hR hS cn 0 rfl rfl (by omega) dX6_drop_31 (fun H locs hR hS => ?_)
      refine lv_iload_n hx hb dX6_drop_32 rfl (lv_at hl 0 rfl) ?_
      exact px_iret F hr hlocks hS (by have e : f_drop r (nI cn) = (sHd r (va_up (rHd r) cn 0), 0) := (by simp [f_drop, h_4, h_16, ix_nI (show cn < 2 ^ 31 by omega)] <;> rfl); rw [e]; exact ⟨rfl, _, _, hR⟩) dX6_drop_33
  · refine lv_bipush (v := -2) hx hb dX6_drop_7 (by decide) ?_
    exact px_iret F hr hlocks hS (by have e : f_drop r cl = (r, (-2)) := (by simp [f_drop, h_4] <;> rfl); rw [e]; exact ⟨rfl, _, _, hR⟩) dX6_drop_9
set_option maxHeartbeats 400000 in
set_option maxRecDepth 100000 in
theorem c_X6_kind (l : Launch) (D : va_G) (cy : Nat → ClassId) (A : Nat → Prop) (G : Nat → Nat) (r : RS) (C : Nat → Nat) (E : Nat → Int64) (sz : Nat) (cl : Int32) {kk : Nat} (hI : Inv kk r) : Met l yX6_kind (px_w yX6_kind cX6_kind 2 (some .int)) (rmd 3 0 0) (px_P D cy [.ref (G 0), .int cl] sz (MR D cy A G r C E)) (px_V (some (.int (f_kind r cl)))) 0 0 (fun _ => False) := by
  refine px_met (by decide) (Nat.le_of_ble_eq_true rfl) ?_
  intro p e s m below meth c F hr hlocks hnm hK hsz hR ls hl
  have hx := F.1
  have hb := F.2.1
  have hl : lv_has ls 2 [(0, .ref (G 0)), (1, .int cl)] := hl
  have hbd := hI.bd
  refine lv_iload_n hx hb dX6_kind_0 rfl (lv_at hl 1 rfl) ?_
  refine px_goV (st1 := [.int (b2i (f_in cl 0 15))]) (px_callS F hK (c_X6_isColumn l D cy _ cl) kc_X6_isColumn kw_methodLink_RX6_53 rfl trivial rfl ⟨rfl, rfl⟩ ⟨Nat.le_of_ble_eq_true rfl, Nat.le_of_ble_eq_true rfl⟩ hl.1 rfl (Nat.le_of_ble_eq_true rfl) dX6_kind_1 ⟨Nat.zero_le _, Nat.zero_le _⟩) rfl ?_
  refine x_ifne_b (tgt := 10) hx hb dX6_kind_4 (by decide) (fun h_4 => ?_) (fun h_4 => ?_)
  · obtain ⟨cn, hl_cn, hh_cn, rfl⟩ := f_in_nat h_4 0 15 (by decide) (by decide) (by decide) (by decide)
    have hc0 := hI.hd cn (by omega)
    have hc1 := hI.tb _ hc0
    refine lv_aload_n hx hb dX6_kind_10 rfl (lv_at hl 0 rfl) ?_
    refine m_get F hK hR 9 (by decide) rfl kw_fieldLink_RX6_31 dX6_kind_11 ?_
    refine lv_iload_n hx hb dX6_kind_14 rfl (lv_at hl 1 rfl) ?_
    refine m_ldHd F hK hR cn rfl (by omega) dX6_kind_15 ?_
    refine lv_if_ne (tgt := 23) hx hb dX6_kind_16 (by decide) (fun h_16 => ?_) (fun h_16 => ?_)
    · have h_16 : ¬ (rHd r cn) = 0 := nIne (show ¬ nI (rHd r cn) = nI 0 from h_16)
      refine lv_aload_n hx hb dX6_kind_23 rfl (lv_at hl 0 rfl) ?_
      refine m_get F hK hR 1 (by decide) rfl kw_fieldLink_RX6_7 dX6_kind_24 ?_
      refine lv_aload_n hx hb dX6_kind_27 rfl (lv_at hl 0 rfl) ?_
      refine m_get F hK hR 9 (by decide) rfl kw_fieldLink_RX6_31 dX6_kind_28 ?_
      refine lv_iload_n hx hb dX6_kind_31 rfl (lv_at hl 1 rfl) ?_
      refine m_ldHd F hK hR cn rfl (by omega) dX6_kind_32 ?_
      refine m_ldK F hK hR (rHd r cn) rfl (by omega) dX6_kind_33 ?_
      exact pv_iret F hr hlocks (by have e : f_kind r (nI cn) = nI (rK r (rHd r cn)) := (by simp [f_kind, h_4, h_16, ix_nI (show cn < 2 ^ 31 by omega)] <;> rfl); rw [e]) dX6_kind_34
    · have h_16 : (rHd r cn) = 0 := nIeq (show nI (rHd r cn) = nI 0 from h_16) (by omega) (by omega)
      refine lv_iconst (v := -1) hx hb dX6_kind_19 (by decide) ?_
      refine lv_goto (tgt := 34) hx hb dX6_kind_20 (by decide) ?_
      exact pv_iret F hr hlocks (by have e : f_kind r (nI cn) = (-1) := (by simp [f_kind, h_4, h_16, ix_nI (show cn < 2 ^ 31 by omega)] <;> rfl); rw [e]) dX6_kind_34
  · refine lv_bipush (v := -2) hx hb dX6_kind_7 (by decide) ?_
    exact pv_iret F hr hlocks (by have e : f_kind r cl = (-2) := (by simp [f_kind, h_4] <;> rfl); rw [e]) dX6_kind_9
set_option maxHeartbeats 400000 in
set_option maxRecDepth 100000 in
theorem c_X6_length (l : Launch) (D : va_G) (cy : Nat → ClassId) (A : Nat → Prop) (G : Nat → Nat) (r : RS) (C : Nat → Nat) (E : Nat → Int64) (sz : Nat) (cl k : Int32) {kk : Nat} (hI : Inv kk r) : Met l yX6_length (px_w yX6_length cX6_length 4 (some .int)) (rmd 3 0 0) (px_P D cy [.ref (G 0), .int cl, .int k] sz (MR D cy A G r C E)) (px_V (some (.int (f_length r cl k)))) 0 0 (fun _ => False) := by
  refine px_met (by decide) (Nat.le_of_ble_eq_true rfl) ?_
  intro p e s m below meth c F hr hlocks hnm hK hsz hR ls hl
  have hx := F.1
  have hb := F.2.1
  have hl : lv_has ls 4 [(0, .ref (G 0)), (1, .int cl), (2, .int k)] := hl
  have hbd := hI.bd
  refine lv_iload_n hx hb dX6_length_0 rfl (lv_at hl 1 rfl) ?_
  refine px_goV (st1 := [.int (b2i (f_in cl 0 15))]) (px_callS F hK (c_X6_isColumn l D cy _ cl) kc_X6_isColumn kw_methodLink_RX6_53 rfl trivial rfl ⟨rfl, rfl⟩ ⟨Nat.le_of_ble_eq_true rfl, Nat.le_of_ble_eq_true rfl⟩ hl.1 rfl (Nat.le_of_ble_eq_true rfl) dX6_length_1 ⟨Nat.zero_le _, Nat.zero_le _⟩) rfl ?_
  refine x_ifeq_b (tgt := 17) hx hb dX6_length_4 (by decide) (fun h_4 => ?_) (fun h_4 => ?_)
  · refine lv_bipush (v := -2) hx hb dX6_length_17 (by decide) ?_
    exact pv_iret F hr hlocks (by have e : f_length r cl k = (-2) := (by simp [f_length, h_4] <;> rfl); rw [e]) dX6_length_19
  · refine lv_iload_n hx hb dX6_length_7 rfl (lv_at hl 2 rfl) ?_
    refine lv_iconst (v := 0) hx hb dX6_length_8 (by decide) ?_
    refine lv_bipush (v := 13) hx hb dX6_length_9 (by decide) ?_
    refine px_goV (st1 := [.int (b2i (f_in k 0 13))]) (px_callS F hK (c_X6_in l D cy _ k 0 13) kc_X6_in kw_methodLink_RX6_57 rfl trivial rfl ⟨rfl, rfl⟩ ⟨Nat.le_of_ble_eq_true rfl, Nat.le_of_ble_eq_true rfl⟩ hl.1 rfl (Nat.le_of_ble_eq_true rfl) dX6_length_11 ⟨Nat.zero_le _, Nat.zero_le _⟩) rfl ?_
    refine x_ifne_b (tgt := 20) hx hb dX6_length_14 (by decide) (fun h_14 => ?_) (fun h_14 => ?_)
    · obtain ⟨cn, hl_cn, hh_cn, rfl⟩ := f_in_nat h_4 0 15 (by decide) (by decide) (by decide) (by decide)
      obtain ⟨kn, hl_kn, hh_kn, rfl⟩ := f_in_nat h_14 0 13 (by decide) (by decide) (by decide) (by decide)
      have hc0 := hI.hd cn (by omega)
      have hc1 := hI.tb _ hc0
      refine lv_aload_n hx hb dX6_length_20 rfl (lv_at hl 0 rfl) ?_
      refine m_get F hK hR 9 (by decide) rfl kw_fieldLink_RX6_31 dX6_length_21 ?_
      refine lv_iload_n hx hb dX6_length_24 rfl (lv_at hl 1 rfl) ?_
      refine m_ldHd F hK hR cn rfl (by omega) dX6_length_25 ?_
      refine lv_istore_n (lv' := [(3, .int (nI (rHd r cn))), (0, .ref (G 0)), (1, .int (nI cn)), (2, .int (nI kn))]) hx hb dX6_length_26 rfl hl (by decide) rfl (fun ls hl => ?_)
      refine lv_aload_n hx hb dX6_length_27 rfl (lv_at hl 1 rfl) ?_
      refine lv_iload_n hx hb dX6_length_28 rfl (lv_at hl 0 rfl) ?_
      refine lv_iload_n hx hb dX6_length_29 rfl (lv_at hl 3 rfl) ?_
      refine px_goV (st1 := [.int (b2i (f_isOf r (rHd r cn) kn))]) (px_callV F hK (c_X6_isOf l D cy A G r _ _ _ (rHd r cn) kn (by omega) (by omega) (show rK r (rHd r cn) < 100 by omega)) kc_X6_isOf kw_methodLink_RX6_90 rfl hR (m_recv hK hR) rfl ⟨rfl, rfl⟩ ⟨Nat.le_of_ble_eq_true rfl, Nat.le_of_ble_eq_true rfl⟩ hl.1 rfl (Nat.le_of_ble_eq_true rfl) dX6_length_30 ⟨Nat.zero_le _, Nat.zero_le _⟩) rfl ?_
      refine x_ifne_b (tgt := 43) hx hb dX6_length_33 (by decide) (fun h_33 => ?_) (fun h_33 => ?_)
      · refine lv_iload_n hx hb dX6_length_43 rfl (lv_at hl 0 rfl) ?_
        refine lv_if_ne (tgt := 54) hx hb dX6_length_44 (by decide) (fun h_44 => ?_) (fun h_44 => ?_)
        · have h_44 : ¬ (rHd r cn) = 0 := nIne (show ¬ nI (rHd r cn) = nI 0 from h_44)
          refine lv_aload_n hx hb dX6_length_54 rfl (lv_at hl 1 rfl) ?_
          refine m_get F hK hR 2 (by decide) rfl kw_fieldLink_RX6_13 dX6_length_55 ?_
          refine lv_iload_n hx hb dX6_length_58 rfl (lv_at hl 0 rfl) ?_
          refine m_ldMn F hK hR (rHd r cn) rfl (by omega) dX6_length_59 ?_
          exact pv_iret F hr hlocks (by have e : f_length r (nI cn) (nI kn) = nI (rMn r (rHd r cn)) := (by simp [f_length, h_4, h_14, h_33, h_44, ix_nI (show cn < 2 ^ 31 by omega), ix_nI (show kn < 2 ^ 31 by omega)] <;> rfl); rw [e]) dX6_length_60
        · have h_44 : (rHd r cn) = 0 := nIeq (show nI (rHd r cn) = nI 0 from h_44) (by omega) (by omega)
          refine lv_iconst (v := 1) hx hb dX6_length_47 (by decide) ?_
          refine px_goV (st1 := [.int (-11)]) (px_callS F hK (c_X6_answer l D cy _ 1) kc_X6_answer kw_methodLink_RX6_65 rfl trivial rfl ⟨rfl, rfl⟩ ⟨Nat.le_of_ble_eq_true rfl, Nat.le_of_ble_eq_true rfl⟩ hl.1 rfl (Nat.le_of_ble_eq_true rfl) dX6_length_48 ⟨Nat.zero_le _, Nat.zero_le _⟩) rfl ?_
          refine lv_goto (tgt := 60) hx hb dX6_length_51 (by decide) ?_
          exact pv_iret F hr hlocks (by have e : f_length r (nI cn) (nI kn) = (-11) := (by simp [f_length, h_4, h_14, h_33, h_44, ix_nI (show cn < 2 ^ 31 by omega), ix_nI (show kn < 2 ^ 31 by omega)] <;> rfl); rw [e]) dX6_length_60
      · refine lv_iconst (v := 2) hx hb dX6_length_36 (by decide) ?_
        refine px_goV (st1 := [.int (-12)]) (px_callS F hK (c_X6_answer l D cy _ 2) kc_X6_answer kw_methodLink_RX6_65 rfl trivial rfl ⟨rfl, rfl⟩ ⟨Nat.le_of_ble_eq_true rfl, Nat.le_of_ble_eq_true rfl⟩ hl.1 rfl (Nat.le_of_ble_eq_true rfl) dX6_length_37 ⟨Nat.zero_le _, Nat.zero_le _⟩) rfl ?_
        refine lv_goto (tgt := 60) hx hb dX6_length_40 (by decide) ?_
        exact pv_iret F hr hlocks (by have e : f_length r (nI cn) (nI kn) = (-12) := (by simp [f_length, h_4, h_14, h_33, ix_nI (show cn < 2 ^ 31 by omega), ix_nI (show kn < 2 ^ 31 by omega)] <;> rfl); rw [e]) dX6_length_60
    · refine lv_bipush (v := -2) hx hb dX6_length_17 (by decide) ?_
      exact pv_iret F hr hlocks (by have e : f_length r cl k = (-2) := (by simp [f_length, h_4, h_14] <;> rfl); rw [e]) dX6_length_19
set_option maxHeartbeats 400000 in
set_option maxRecDepth 100000 in
theorem c_X6_cut (l : Launch) (D : va_G) (cy : Nat → ClassId) (sz : Nat) (k : Nat) (b : Int64) (hk : k ≤ 7) : Met l yX6_cut (px_w yX6_cut cX6_cut 3 (some .long)) (rmd 1 0 0) (px_P D cy [.int (nI k), .long b] sz (fun _ => True)) (px_V (some (.long (f_cut k b)))) 0 0 (fun _ => False) := by
  refine px_met (by decide) (Nat.le_of_ble_eq_true rfl) ?_
  intro p e s m below meth c F hr hlocks hnm hK hsz hR ls hl
  have hx := F.1
  have hb := F.2.1
  have hl : lv_has ls 3 [(0, .int (nI k)), (1, .long b)] := hl
  refine lv_iload_n hx hb dX6_cut_0 rfl (lv_at hl 0 rfl) ?_
  rcases (show k = 0 ∨ k = 1 ∨ k = 2 ∨ k = 3 ∨ k = 4 ∨ k = 5 ∨ k = 6 ∨ k = 7 by omega) with rfl | rfl | rfl | rfl | rfl | rfl | rfl | rfl
  · refine lv_tableIn (off := 47) (tgt := 48) hx hb dX6_cut_1 (by decide) (by decide) (by decide +kernel) (by decide) ?_
    refine lv_lload_n hx hb dX6_cut_48 rfl (lv_at hl 1 rfl) ?_
    refine lv_lconst (v := 1) hx hb dX6_cut_49 (by decide) ?_
    refine lv_land hx hb dX6_cut_50 ?_
    exact pv_lret F hr hlocks (by simp [f_cut, ]) dX6_cut_51
  · refine lv_tableIn (off := 51) (tgt := 52) hx hb dX6_cut_1 (by decide) (by decide) (by decide +kernel) (by decide) ?_
    refine lv_lload_n hx hb dX6_cut_52 rfl (lv_at hl 1 rfl) ?_
    refine lv_l2i hx hb dX6_cut_53 rfl ?_
    refine lv_i2b hx hb dX6_cut_54 rfl ?_
    refine lv_i2l hx hb dX6_cut_55 rfl ?_
    exact pv_lret F hr hlocks (by simp [f_cut, ]) dX6_cut_56
  · refine lv_tableIn (off := 56) (tgt := 57) hx hb dX6_cut_1 (by decide) (by decide) (by decide +kernel) (by decide) ?_
    refine lv_lload_n hx hb dX6_cut_57 rfl (lv_at hl 1 rfl) ?_
    refine lv_l2i hx hb dX6_cut_58 rfl ?_
    refine lv_i2s hx hb dX6_cut_59 rfl ?_
    refine lv_i2l hx hb dX6_cut_60 rfl ?_
    exact pv_lret F hr hlocks (by simp [f_cut, ]) dX6_cut_61
  · refine lv_tableIn (off := 61) (tgt := 62) hx hb dX6_cut_1 (by decide) (by decide) (by decide +kernel) (by decide) ?_
    refine lv_lload_n hx hb dX6_cut_62 rfl (lv_at hl 1 rfl) ?_
    refine lv_ldc2 hx hb F.2.2.2.1 (F.2.2.2.2 _ kw_constantLong_RX6_94) dX6_cut_63 ?_
    refine lv_land hx hb dX6_cut_66 ?_
    exact pv_lret F hr hlocks (by simp [f_cut, ]) dX6_cut_67
  · refine lv_tableIn (off := 67) (tgt := 68) hx hb dX6_cut_1 (by decide) (by decide) (by decide +kernel) (by decide) ?_
    refine lv_lload_n hx hb dX6_cut_68 rfl (lv_at hl 1 rfl) ?_
    refine lv_l2i hx hb dX6_cut_69 rfl ?_
    refine lv_i2l hx hb dX6_cut_70 rfl ?_
    exact pv_lret F hr hlocks (by simp [f_cut, ]) dX6_cut_71
  · refine lv_tableIn (off := 113) (tgt := 114) hx hb dX6_cut_1 (by decide) (by decide) (by decide +kernel) (by decide) ?_
    refine lv_lload_n hx hb dX6_cut_114 rfl (lv_at hl 1 rfl) ?_
    exact pv_lret F hr hlocks (by simp [f_cut, ]) dX6_cut_115
  · refine lv_tableIn (off := 71) (tgt := 72) hx hb dX6_cut_1 (by decide) (by decide) (by decide +kernel) (by decide) ?_
    refine lv_lload_n hx hb dX6_cut_72 rfl (lv_at hl 1 rfl) ?_
    refine lv_ldc2 hx hb F.2.2.2.1 (F.2.2.2.2 _ kw_constantLong_RX6_96) dX6_cut_73 ?_
    refine lv_land hx hb dX6_cut_76 ?_
    refine lv_ldc2 hx hb F.2.2.2.1 (F.2.2.2.2 _ kw_constantLong_RX6_98) dX6_cut_77 ?_
    refine W.lcmp hx hb dX6_cut_80 ?_
    refine x_cmp_le (tgt := 90) hx hb dX6_cut_81 (by decide) (fun h_81 => ?_) (fun h_81 => ?_)
    · refine lv_lload_n hx hb dX6_cut_90 rfl (lv_at hl 1 rfl) ?_
      refine lv_l2i hx hb dX6_cut_91 rfl ?_
      refine lv_i2l hx hb dX6_cut_92 rfl ?_
      exact pv_lret F hr hlocks (by simp [f_cut, h_81]) dX6_cut_93
    · refine lv_ldc2 hx hb F.2.2.2.1 (F.2.2.2.2 _ kw_constantLong_RX6_100) dX6_cut_84 ?_
      refine lv_goto (tgt := 93) hx hb dX6_cut_87 (by decide) ?_
      exact pv_lret F hr hlocks (by simp [f_cut, h_81]) dX6_cut_93
  · refine lv_tableIn (off := 93) (tgt := 94) hx hb dX6_cut_1 (by decide) (by decide) (by decide +kernel) (by decide) ?_
    refine lv_lload_n hx hb dX6_cut_94 rfl (lv_at hl 1 rfl) ?_
    refine lv_ldc2 hx hb F.2.2.2.1 (F.2.2.2.2 _ kw_constantLong_RX6_102) dX6_cut_95 ?_
    refine lv_land hx hb dX6_cut_98 ?_
    refine lv_ldc2 hx hb F.2.2.2.1 (F.2.2.2.2 _ kw_constantLong_RX6_104) dX6_cut_99 ?_
    refine W.lcmp hx hb dX6_cut_102 ?_
    refine x_cmp_le (tgt := 112) hx hb dX6_cut_103 (by decide) (fun h_103 => ?_) (fun h_103 => ?_)
    · refine lv_lload_n hx hb dX6_cut_112 rfl (lv_at hl 1 rfl) ?_
      exact pv_lret F hr hlocks (by simp [f_cut, h_103]) dX6_cut_113
    · refine lv_ldc2 hx hb F.2.2.2.1 (F.2.2.2.2 _ kw_constantLong_RX6_106) dX6_cut_106 ?_
      refine lv_goto (tgt := 113) hx hb dX6_cut_109 (by decide) ?_
      exact pv_lret F hr hlocks (by simp [f_cut, h_103]) dX6_cut_113
set_option maxHeartbeats 400000 in
set_option maxRecDepth 100000 in
theorem c_X6_read (l : Launch) (D : va_G) (cy : Nat → ClassId) (A : Nat → Prop) (G : Nat → Nat) (r : RS) (C : Nat → Nat) (E : Nat → Int64) (sz : Nat) (cl k i : Int32) {kk : Nat} (hI : Inv kk r) : Met l yX6_read (px_w yX6_read cX6_read 5 (some .long)) (rmd 4 0 0) (px_P D cy [.ref (G 0), .int cl, .int k, .int i] sz (MR D cy A G r C E)) (px_Q (px_M D cy A G (some (.long (f_read r cl k i).2)) ((f_read r cl k i).1)) A) 0 0 A := by
  refine px_met (by decide) (Nat.le_of_ble_eq_true rfl) ?_
  intro p e s m below meth c F hr hlocks hnm hK hsz hR ls hl
  have hx := F.1
  have hb := F.2.1
  have hl : lv_has ls 5 [(0, .ref (G 0)), (1, .int cl), (2, .int k), (3, .int i)] := hl
  have hS : va_S A s.heap s.heap [] := va_S.rf
  have hbd := hI.bd
  refine lv_iload_n hx hb dX6_read_0 rfl (lv_at hl 1 rfl) ?_
  refine px_goV (st1 := [.int (b2i (f_in cl 0 15))]) (px_callS F hK (c_X6_isColumn l D cy _ cl) kc_X6_isColumn kw_methodLink_RX6_53 rfl trivial rfl ⟨rfl, rfl⟩ ⟨Nat.le_of_ble_eq_true rfl, Nat.le_of_ble_eq_true rfl⟩ hl.1 rfl (Nat.le_of_ble_eq_true rfl) dX6_read_1 ⟨Nat.zero_le _, Nat.zero_le _⟩) rfl ?_
  refine x_ifeq_b (tgt := 17) hx hb dX6_read_4 (by decide) (fun h_4 => ?_) (fun h_4 => ?_)
  · refine lv_aload_n hx hb dX6_read_17 rfl (lv_at hl 0 rfl) ?_
    refine lv_bipush (v := -2) hx hb dX6_read_18 (by decide) ?_
    refine m_put F hK hR hS 13 (by decide) (v := (-2)) rfl (sFa r (-2)) rfl kw_fieldLink_RX6_111 rfl rfl dX6_read_20 (fun H locs hR hS => ?_)
    refine lv_lconst (v := 0) hx hb dX6_read_23 (by decide) ?_
    exact px_lret F hr hlocks hS (by have e : f_read r cl k i = (sFa r (-2), 0) := (by simp [f_read, h_4] <;> rfl); rw [e]; exact ⟨rfl, _, _, hR⟩) dX6_read_24
  · refine lv_iload_n hx hb dX6_read_7 rfl (lv_at hl 2 rfl) ?_
    refine lv_iconst (v := 0) hx hb dX6_read_8 (by decide) ?_
    refine lv_bipush (v := 9) hx hb dX6_read_9 (by decide) ?_
    refine px_goV (st1 := [.int (b2i (f_in k 0 9))]) (px_callS F hK (c_X6_in l D cy _ k 0 9) kc_X6_in kw_methodLink_RX6_57 rfl trivial rfl ⟨rfl, rfl⟩ ⟨Nat.le_of_ble_eq_true rfl, Nat.le_of_ble_eq_true rfl⟩ hl.1 rfl (Nat.le_of_ble_eq_true rfl) dX6_read_11 ⟨Nat.zero_le _, Nat.zero_le _⟩) rfl ?_
    refine x_ifne_b (tgt := 25) hx hb dX6_read_14 (by decide) (fun h_14 => ?_) (fun h_14 => ?_)
    · obtain ⟨cn, hl_cn, hh_cn, rfl⟩ := f_in_nat h_4 0 15 (by decide) (by decide) (by decide) (by decide)
      obtain ⟨kn, hl_kn, hh_kn, rfl⟩ := f_in_nat h_14 0 9 (by decide) (by decide) (by decide) (by decide)
      have hc0 := hI.hd cn (by omega)
      have hc1 := hI.tb _ hc0
      refine lv_aload_n hx hb dX6_read_25 rfl (lv_at hl 0 rfl) ?_
      refine m_get F hK hR 9 (by decide) rfl kw_fieldLink_RX6_31 dX6_read_26 ?_
      refine lv_iload_n hx hb dX6_read_29 rfl (lv_at hl 1 rfl) ?_
      refine m_ldHd F hK hR cn rfl (by omega) dX6_read_30 ?_
      refine lv_istore (lv' := [(4, .int (nI (rHd r cn))), (0, .ref (G 0)), (1, .int (nI cn)), (2, .int (nI kn)), (3, .int i)]) hx hb dX6_read_31 hl (by decide) rfl (fun ls hl => ?_)
      refine lv_aload_n hx hb dX6_read_33 rfl (lv_at hl 1 rfl) ?_
      refine lv_iload hx hb dX6_read_34 (lv_at hl 0 rfl) ?_
      refine lv_iload_n hx hb dX6_read_36 rfl (lv_at hl 4 rfl) ?_
      refine lv_aload_n hx hb dX6_read_37 rfl (lv_at hl 1 rfl) ?_
      refine lv_iload hx hb dX6_read_38 (lv_at hl 0 rfl) ?_
      refine lv_iload_n hx hb dX6_read_40 rfl (lv_at hl 3 rfl) ?_
      refine px_goV (st1 := [.int (b2i (f_isOf r (rHd r cn) kn)), .int i, .int (nI (rHd r cn)), .ref (G 0)]) (px_callV F hK (c_X6_isOf l D cy A G r _ _ _ (rHd r cn) kn (by omega) (by omega) (show rK r (rHd r cn) < 100 by omega)) kc_X6_isOf kw_methodLink_RX6_90 rfl hR (m_recv hK hR) rfl ⟨rfl, rfl⟩ ⟨Nat.le_of_ble_eq_true rfl, Nat.le_of_ble_eq_true rfl⟩ hl.1 rfl (Nat.le_of_ble_eq_true rfl) dX6_read_41 ⟨Nat.zero_le _, Nat.zero_le _⟩) rfl ?_
      refine x_ifeq_b (tgt := 51) hx hb dX6_read_44 (by decide) (fun h_44 => ?_) (fun h_44 => ?_)
      · refine lv_iconst (v := 2) hx hb dX6_read_51 (by decide) ?_
        refine px_goM (st1 := [.long ((f_itemOf r (rHd r cn) i 2).2)]) (px_callV F hK (c_X6_itemOf l D cy A G r _ _ _ (rHd r cn) 2 i hI (by omega) (by omega)) kc_X6_itemOf kw_methodLink_RX6_114 rfl hR (m_recv hK hR) rfl ⟨rfl, rfl⟩ ⟨Nat.le_of_ble_eq_true rfl, Nat.le_of_ble_eq_true rfl⟩ hl.1 rfl (Nat.le_of_ble_eq_true rfl) dX6_read_52 ⟨Nat.zero_le _, Nat.zero_le _⟩) hS rfl (fun H locs C E hR hS => ?_)
        exact px_lret F hr hlocks hS (by have e : f_read r (nI cn) (nI kn) i = ((f_itemOf r (rHd r cn) i 2).1, (f_itemOf r (rHd r cn) i 2).2) := (by simp [f_read, h_4, h_14, h_44, ix_nI (show cn < 2 ^ 31 by omega), ix_nI (show kn < 2 ^ 31 by omega)] <;> rfl); rw [e]; exact ⟨rfl, _, _, hR⟩) dX6_read_55
      · refine lv_iconst (v := 0) hx hb dX6_read_47 (by decide) ?_
        refine lv_goto (tgt := 52) hx hb dX6_read_48 (by decide) ?_
        refine px_goM (st1 := [.long ((f_itemOf r (rHd r cn) i 0).2)]) (px_callV F hK (c_X6_itemOf l D cy A G r _ _ _ (rHd r cn) 0 i hI (by omega) (by omega)) kc_X6_itemOf kw_methodLink_RX6_114 rfl hR (m_recv hK hR) rfl ⟨rfl, rfl⟩ ⟨Nat.le_of_ble_eq_true rfl, Nat.le_of_ble_eq_true rfl⟩ hl.1 rfl (Nat.le_of_ble_eq_true rfl) dX6_read_52 ⟨Nat.zero_le _, Nat.zero_le _⟩) hS rfl (fun H locs C E hR hS => ?_)
        exact px_lret F hr hlocks hS (by have e : f_read r (nI cn) (nI kn) i = ((f_itemOf r (rHd r cn) i 0).1, (f_itemOf r (rHd r cn) i 0).2) := (by simp [f_read, h_4, h_14, h_44, ix_nI (show cn < 2 ^ 31 by omega), ix_nI (show kn < 2 ^ 31 by omega)] <;> rfl); rw [e]; exact ⟨rfl, _, _, hR⟩) dX6_read_55
    · refine lv_aload_n hx hb dX6_read_17 rfl (lv_at hl 0 rfl) ?_
      refine lv_bipush (v := -2) hx hb dX6_read_18 (by decide) ?_
      refine m_put F hK hR hS 13 (by decide) (v := (-2)) rfl (sFa r (-2)) rfl kw_fieldLink_RX6_111 rfl rfl dX6_read_20 (fun H locs hR hS => ?_)
      refine lv_lconst (v := 0) hx hb dX6_read_23 (by decide) ?_
      exact px_lret F hr hlocks hS (by have e : f_read r cl k i = (sFa r (-2), 0) := (by simp [f_read, h_4, h_14] <;> rfl); rw [e]; exact ⟨rfl, _, _, hR⟩) dX6_read_24
set_option maxHeartbeats 400000 in
set_option maxRecDepth 100000 in
theorem c_X6_write (l : Launch) (D : va_G) (cy : Nat → ClassId) (A : Nat → Prop) (G : Nat → Nat) (r : RS) (C : Nat → Nat) (E : Nat → Int64) (sz : Nat) (cl k i : Int32) (b : Int64) {kk : Nat} (hI : Inv kk r) : Met l yX6_write (px_w yX6_write cX6_write 8 (some .int)) (rmd 3 0 0) (px_P D cy [.ref (G 0), .int cl, .int k, .int i, .long b] sz (MR D cy A G r C E)) (px_Q (px_M D cy A G (some (.int (f_write r cl k i b).2)) ((f_write r cl k i b).1)) A) 0 0 A := by
  refine px_met (by decide) (Nat.le_of_ble_eq_true rfl) ?_
  intro p e s m below meth c F hr hlocks hnm hK hsz hR ls hl
  have hx := F.1
  have hb := F.2.1
  have hl : lv_has ls 8 [(0, .ref (G 0)), (1, .int cl), (2, .int k), (3, .int i), (4, .long b)] := hl
  have hS : va_S A s.heap s.heap [] := va_S.rf
  have hbd := hI.bd
  refine lv_iload_n hx hb dX6_write_0 rfl (lv_at hl 1 rfl) ?_
  refine px_goV (st1 := [.int (b2i (f_in cl 0 15))]) (px_callS F hK (c_X6_isColumn l D cy _ cl) kc_X6_isColumn kw_methodLink_RX6_53 rfl trivial rfl ⟨rfl, rfl⟩ ⟨Nat.le_of_ble_eq_true rfl, Nat.le_of_ble_eq_true rfl⟩ hl.1 rfl (Nat.le_of_ble_eq_true rfl) dX6_write_1 ⟨Nat.zero_le _, Nat.zero_le _⟩) rfl ?_
  refine x_ifeq_b (tgt := 17) hx hb dX6_write_4 (by decide) (fun h_4 => ?_) (fun h_4 => ?_)
  · refine lv_bipush (v := -2) hx hb dX6_write_17 (by decide) ?_
    exact px_iret F hr hlocks hS (by have e : f_write r cl k i b = (r, (-2)) := (by simp [f_write, f_no, h_4] <;> rfl); rw [e]; exact ⟨rfl, _, _, hR⟩) dX6_write_19
  · refine lv_iload_n hx hb dX6_write_7 rfl (lv_at hl 2 rfl) ?_
    refine lv_iconst (v := 0) hx hb dX6_write_8 (by decide) ?_
    refine lv_bipush (v := 7) hx hb dX6_write_9 (by decide) ?_
    refine px_goV (st1 := [.int (b2i (f_in k 0 7))]) (px_callS F hK (c_X6_in l D cy _ k 0 7) kc_X6_in kw_methodLink_RX6_57 rfl trivial rfl ⟨rfl, rfl⟩ ⟨Nat.le_of_ble_eq_true rfl, Nat.le_of_ble_eq_true rfl⟩ hl.1 rfl (Nat.le_of_ble_eq_true rfl) dX6_write_11 ⟨Nat.zero_le _, Nat.zero_le _⟩) rfl ?_
    refine x_ifne_b (tgt := 20) hx hb dX6_write_14 (by decide) (fun h_14 => ?_) (fun h_14 => ?_)
    · obtain ⟨cn, hl_cn, hh_cn, rfl⟩ := f_in_nat h_4 0 15 (by decide) (by decide) (by decide) (by decide)
      obtain ⟨kn, hl_kn, hh_kn, rfl⟩ := f_in_nat h_14 0 7 (by decide) (by decide) (by decide) (by decide)
      have hc0 := hI.hd cn (by omega)
      have hc1 := hI.tb _ hc0
      have hlk := looked_le r (rHd r cn) i
      refine lv_aload_n hx hb dX6_write_20 rfl (lv_at hl 0 rfl) ?_
      refine m_get F hK hR 9 (by decide) rfl kw_fieldLink_RX6_31 dX6_write_21 ?_
      refine lv_iload_n hx hb dX6_write_24 rfl (lv_at hl 1 rfl) ?_
      refine m_ldHd F hK hR cn rfl (by omega) dX6_write_25 ?_
      refine lv_istore (lv' := [(6, .int (nI (rHd r cn))), (0, .ref (G 0)), (1, .int (nI cn)), (2, .int (nI kn)), (3, .int i), (4, .long b)]) hx hb dX6_write_26 hl (by decide) rfl (fun ls hl => ?_)
      refine lv_aload_n hx hb dX6_write_28 rfl (lv_at hl 1 rfl) ?_
      refine lv_iload hx hb dX6_write_29 (lv_at hl 0 rfl) ?_
      refine lv_iload_n hx hb dX6_write_31 rfl (lv_at hl 3 rfl) ?_
      refine px_goV (st1 := [.int (b2i (f_isOf r (rHd r cn) kn))]) (px_callV F hK (c_X6_isOf l D cy A G r _ _ _ (rHd r cn) kn (by omega) (by omega) (show rK r (rHd r cn) < 100 by omega)) kc_X6_isOf kw_methodLink_RX6_90 rfl hR (m_recv hK hR) rfl ⟨rfl, rfl⟩ ⟨Nat.le_of_ble_eq_true rfl, Nat.le_of_ble_eq_true rfl⟩ hl.1 rfl (Nat.le_of_ble_eq_true rfl) dX6_write_32 ⟨Nat.zero_le _, Nat.zero_le _⟩) rfl ?_
      refine x_ifeq_b (tgt := 48) hx hb dX6_write_35 (by decide) (fun h_35 => ?_) (fun h_35 => ?_)
      · refine lv_iconst (v := 2) hx hb dX6_write_48 (by decide) ?_
        refine lv_istore (lv' := [(7, .int 2), (6, .int (nI (rHd r cn))), (0, .ref (G 0)), (1, .int (nI cn)), (2, .int (nI kn)), (3, .int i), (4, .long b)]) hx hb dX6_write_49 hl (by decide) rfl (fun ls hl => ?_)
        refine lv_iload hx hb dX6_write_51 (lv_at hl 0 rfl) ?_
        refine lv_if_eq (tgt := 62) hx hb dX6_write_53 (by decide) (fun h => absurd h (by decide)) (fun _ => ?_)
        refine lv_iload hx hb dX6_write_56 (lv_at hl 0 rfl) ?_
        refine px_goV (st1 := [.int (-12)]) (px_callS F hK (c_X6_answer l D cy _ 2) kc_X6_answer kw_methodLink_RX6_65 rfl trivial rfl ⟨rfl, rfl⟩ ⟨Nat.le_of_ble_eq_true rfl, Nat.le_of_ble_eq_true rfl⟩ hl.1 rfl (Nat.le_of_ble_eq_true rfl) dX6_write_58 ⟨Nat.zero_le _, Nat.zero_le _⟩) rfl ?_
        exact px_iret F hr hlocks hS (by have e : f_write r (nI cn) (nI kn) i b = (r, (-12)) := (by simp [f_write, f_no, h_4, h_14, h_35, ix_nI (show cn < 2 ^ 31 by omega), ix_nI (show kn < 2 ^ 31 by omega)] <;> rfl); rw [e]; exact ⟨rfl, _, _, hR⟩) dX6_write_61
      · refine lv_aload_n hx hb dX6_write_38 rfl (lv_at hl 1 rfl) ?_
        refine lv_iload hx hb dX6_write_39 (lv_at hl 0 rfl) ?_
        refine lv_iload_n hx hb dX6_write_41 rfl (lv_at hl 4 rfl) ?_
        refine px_goV (st1 := [.int (nI (f_looked r (rHd r cn) i))]) (px_callV F hK (c_X6_looked l D cy A G r _ _ _ (rHd r cn) i (by omega)) kc_X6_looked kw_methodLink_RX6_108 rfl hR (m_recv hK hR) rfl ⟨rfl, rfl⟩ ⟨Nat.le_of_ble_eq_true rfl, Nat.le_of_ble_eq_true rfl⟩ hl.1 rfl (Nat.le_of_ble_eq_true rfl) dX6_write_42 ⟨Nat.zero_le _, Nat.zero_le _⟩) rfl ?_
        refine lv_goto (tgt := 49) hx hb dX6_write_45 (by decide) ?_
        refine lv_istore (lv' := [(7, .int (nI (f_looked r (rHd r cn) i))), (6, .int (nI (rHd r cn))), (0, .ref (G 0)), (1, .int (nI cn)), (2, .int (nI kn)), (3, .int i), (4, .long b)]) hx hb dX6_write_49 hl (by decide) rfl (fun ls hl => ?_)
        refine lv_iload hx hb dX6_write_51 (lv_at hl 0 rfl) ?_
        refine lv_if_eq (tgt := 62) hx hb dX6_write_53 (by decide) (fun h_53 => ?_) (fun h_53 => ?_)
        · have h_53 : (f_looked r (rHd r cn) i) = 0 := nIeq (show nI (f_looked r (rHd r cn) i) = nI 0 from h_53) (by omega) (by omega)
          obtain ⟨ht0_j, j, hj_j, rfl⟩ := looked_0 h_53 (by omega)
          refine lv_aload_n hx hb dX6_write_62 rfl (lv_at hl 2 rfl) ?_
          refine lv_iload hx hb dX6_write_63 (lv_at hl 1 rfl) ?_
          refine lv_iload_n hx hb dX6_write_65 rfl (lv_at hl 5 rfl) ?_
          refine lv_iload_n hx hb dX6_write_66 rfl (lv_at hl 4 rfl) ?_
          refine lv_lload hx hb dX6_write_67 (lv_at hl 6 rfl) ?_
          refine px_goV (st1 := [.long (f_cut kn b), .int (nI j), .int (nI (rHd r cn)), .ref (G 0)]) (px_callS F hK (c_X6_cut l D cy _ kn b (by omega)) kc_X6_cut kw_methodLink_RX6_118 rfl trivial rfl ⟨rfl, rfl⟩ ⟨Nat.le_of_ble_eq_true rfl, Nat.le_of_ble_eq_true rfl⟩ hl.1 rfl (Nat.le_of_ble_eq_true rfl) dX6_write_69 ⟨Nat.zero_le _, Nat.zero_le _⟩) rfl ?_
          refine px_goMx (st1 := []) (px_callV F hK (c_X6_put l D cy A G r _ _ _ (rHd r cn) j (f_cut kn b) (by omega) (show rS r (rHd r cn) + j < 12200 by omega)) kc_X6_put kw_methodLink_RX6_76 rfl hR (m_recv hK hR) rfl ⟨rfl, rfl⟩ ⟨Nat.le_of_ble_eq_true rfl, Nat.le_of_ble_eq_true rfl⟩ hl.1 rfl (Nat.le_of_ble_eq_true rfl) dX6_write_72 ⟨Nat.zero_le _, Nat.zero_le _⟩) hS rfl (fun H locs hR hS => ?_)
          refine lv_iconst (v := 1) hx hb dX6_write_75 (by decide) ?_
          exact px_iret F hr hlocks hS (by have e : f_write r (nI cn) (nI kn) (nI j) b = (f_put r (rHd r cn) j (f_cut kn b), 1) := (by simp [f_write, f_no, h_4, h_14, h_35, h_53, ix_nI (show cn < 2 ^ 31 by omega), ix_nI (show kn < 2 ^ 31 by omega), ix_nI (show j < 2 ^ 31 by omega)] <;> rfl); rw [e]; exact ⟨rfl, _, _, hR⟩) dX6_write_76
        · have h_53 : ¬ (f_looked r (rHd r cn) i) = 0 := nIne (show ¬ nI (f_looked r (rHd r cn) i) = nI 0 from h_53)
          refine lv_iload hx hb dX6_write_56 (lv_at hl 0 rfl) ?_
          refine px_goV (st1 := [.int (-10 - (nI (f_looked r (rHd r cn) i)))]) (px_callS F hK (c_X6_answer l D cy _ (nI (f_looked r (rHd r cn) i))) kc_X6_answer kw_methodLink_RX6_65 rfl trivial rfl ⟨rfl, rfl⟩ ⟨Nat.le_of_ble_eq_true rfl, Nat.le_of_ble_eq_true rfl⟩ hl.1 rfl (Nat.le_of_ble_eq_true rfl) dX6_write_58 ⟨Nat.zero_le _, Nat.zero_le _⟩) rfl ?_
          exact px_iret F hr hlocks hS (by have e : f_write r (nI cn) (nI kn) i b = (r, -10 - (nI (f_looked r (rHd r cn) i))) := (by simp [f_write, f_no, h_4, h_14, h_35, h_53, ix_nI (show cn < 2 ^ 31 by omega), ix_nI (show kn < 2 ^ 31 by omega)] <;> rfl); rw [e]; exact ⟨rfl, _, _, hR⟩) dX6_write_61
    · refine lv_bipush (v := -2) hx hb dX6_write_17 (by decide) ?_
      exact px_iret F hr hlocks hS (by have e : f_write r cl k i b = (r, (-2)) := (by simp [f_write, f_no, h_4, h_14] <;> rfl); rw [e]; exact ⟨rfl, _, _, hR⟩) dX6_write_19
