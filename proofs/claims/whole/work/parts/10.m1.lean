/-! the reference: readers, put, table -/
set_option maxHeartbeats 400000 in
set_option maxRecDepth 100000 in
theorem c_X6_in (l : Launch) (D : va_G) (cy : Nat → ClassId) (sz : Nat) (v lo hi : Int32)  : Met l yX6_in (px_w yX6_in cX6_in 3 (some .boolean)) (rmd 1 0 0) (px_P D cy [.int v, .int lo, .int hi] sz (fun _ => True)) (px_V (some (.int (b2i (f_in v lo hi))))) 0 0 (fun _ => False) := by
  refine px_met (by decide) (Nat.le_of_ble_eq_true rfl) ?_
  intro p e s m below meth c F hr hlocks hnm hK hsz hR ls hl
  have hx := F.1
  have hb := F.2.1
  have hl : lv_has ls 3 [(0, .int v), (1, .int lo), (2, .int hi)] := hl
  refine lv_iload_n hx hb dX6_in_0 rfl (lv_at hl 0 rfl) ?_
  refine lv_iload_n hx hb dX6_in_1 rfl (lv_at hl 1 rfl) ?_
  refine lv_icmp_lt (tgt := 14) hx hb dX6_in_2 (by decide) (fun h_2 => ?_) (fun h_2 => ?_)
  · refine lv_iconst (v := 0) hx hb dX6_in_14 (by decide) ?_
    exact pv_zret F hr hlocks (Or.inl rfl) (by simp [f_in, b2i, h_2]) dX6_in_15
  · refine lv_iload_n hx hb dX6_in_5 rfl (lv_at hl 0 rfl) ?_
    refine lv_iload_n hx hb dX6_in_6 rfl (lv_at hl 2 rfl) ?_
    refine lv_icmp_gt (tgt := 14) hx hb dX6_in_7 (by decide) (fun h_7 => ?_) (fun h_7 => ?_)
    · refine lv_iconst (v := 0) hx hb dX6_in_14 (by decide) ?_
      exact pv_zret F hr hlocks (Or.inl rfl) (by simp [f_in, b2i, h_2, h_7]) dX6_in_15
    · refine lv_iconst (v := 1) hx hb dX6_in_10 (by decide) ?_
      refine lv_goto (tgt := 15) hx hb dX6_in_11 (by decide) ?_
      exact pv_zret F hr hlocks (Or.inr rfl) (by simp [f_in, b2i, h_2, h_7]) dX6_in_15
set_option maxHeartbeats 400000 in
set_option maxRecDepth 100000 in
theorem c_X6_isColumn (l : Launch) (D : va_G) (cy : Nat → ClassId) (sz : Nat) (v : Int32)  : Met l yX6_isColumn (px_w yX6_isColumn cX6_isColumn 1 (some .boolean)) (rmd 1 0 0) (px_P D cy [.int v] sz (fun _ => True)) (px_V (some (.int (b2i (f_in v 0 15))))) 0 0 (fun _ => False) := by
  refine px_met (by decide) (Nat.le_of_ble_eq_true rfl) ?_
  intro p e s m below meth c F hr hlocks hnm hK hsz hR ls hl
  have hx := F.1
  have hb := F.2.1
  have hl : lv_has ls 1 [(0, .int v)] := hl
  refine lv_iload_n hx hb dX6_isColumn_0 rfl (lv_at hl 0 rfl) ?_
  refine lv_if_lt (tgt := 14) hx hb dX6_isColumn_1 (by decide) (fun h_1 => ?_) (fun h_1 => ?_)
  · refine lv_iconst (v := 0) hx hb dX6_isColumn_14 (by decide) ?_
    exact pv_zret F hr hlocks (Or.inl rfl) (by simp [f_in, b2i, h_1]) dX6_isColumn_15
  · refine lv_iload_n hx hb dX6_isColumn_4 rfl (lv_at hl 0 rfl) ?_
    refine lv_bipush (v := 15) hx hb dX6_isColumn_5 (by decide) ?_
    refine lv_icmp_gt (tgt := 14) hx hb dX6_isColumn_7 (by decide) (fun h_7 => ?_) (fun h_7 => ?_)
    · refine lv_iconst (v := 0) hx hb dX6_isColumn_14 (by decide) ?_
      exact pv_zret F hr hlocks (Or.inl rfl) (by simp [f_in, b2i, h_1, h_7]) dX6_isColumn_15
    · refine lv_iconst (v := 1) hx hb dX6_isColumn_10 (by decide) ?_
      refine lv_goto (tgt := 15) hx hb dX6_isColumn_11 (by decide) ?_
      exact pv_zret F hr hlocks (Or.inr rfl) (by simp [f_in, b2i, h_1, h_7]) dX6_isColumn_15
set_option maxHeartbeats 400000 in
set_option maxRecDepth 100000 in
theorem c_X6_answer (l : Launch) (D : va_G) (cy : Nat → ClassId) (sz : Nat) (v : Int32)  : Met l yX6_answer (px_w yX6_answer cX6_answer 1 (some .int)) (rmd 1 0 0) (px_P D cy [.int v] sz (fun _ => True)) (px_V (some (.int (-10 - v)))) 0 0 (fun _ => False) := by
  refine px_met (by decide) (Nat.le_of_ble_eq_true rfl) ?_
  intro p e s m below meth c F hr hlocks hnm hK hsz hR ls hl
  have hx := F.1
  have hb := F.2.1
  have hl : lv_has ls 1 [(0, .int v)] := hl
  refine lv_bipush (v := -10) hx hb dX6_answer_0 (by decide) ?_
  refine lv_iload_n hx hb dX6_answer_2 rfl (lv_at hl 0 rfl) ?_
  refine lv_isub hx hb dX6_answer_3 ?_
  exact pv_iret F hr hlocks (by rfl) dX6_answer_4
set_option maxHeartbeats 400000 in
set_option maxRecDepth 100000 in
theorem c_X6_rowKind (l : Launch) (D : va_G) (cy : Nat → ClassId) (sz : Nat) (k : Nat) (hk : k < 100)  : Met l yX6_rowKind (px_w yX6_rowKind cX6_rowKind 1 (some .int)) (rmd 1 0 0) (px_P D cy [.int (nI k)] sz (fun _ => True)) (px_V (some (.int (nI (rkN k))))) 0 0 (fun _ => False) := by
  refine px_met (by decide) (Nat.le_of_ble_eq_true rfl) ?_
  intro p e s m below meth c F hr hlocks hnm hK hsz hR ls hl
  have hx := F.1
  have hb := F.2.1
  have hl : lv_has ls 1 [(0, .int (nI k))] := hl
  refine lv_iload_n hx hb dX6_rowKind_0 rfl (lv_at hl 0 rfl) ?_
  refine lv_bipush (v := 10) hx hb dX6_rowKind_1 (by decide) ?_
  refine lv_icmp_ne (tgt := 10) hx hb dX6_rowKind_3 (by decide) (fun h_3 => ?_) (fun h_3 => ?_)
  · have h_3 : ¬ k = 10 := nIne (show ¬ nI k = nI 10 from h_3)
    refine lv_iload_n hx hb dX6_rowKind_10 rfl (lv_at hl 0 rfl) ?_
    refine lv_bipush (v := 11) hx hb dX6_rowKind_11 (by decide) ?_
    refine lv_icmp_ne (tgt := 21) hx hb dX6_rowKind_13 (by decide) (fun h_13 => ?_) (fun h_13 => ?_)
    · have h_13 : ¬ k = 11 := nIne (show ¬ nI k = nI 11 from h_13)
      refine lv_iload_n hx hb dX6_rowKind_21 rfl (lv_at hl 0 rfl) ?_
      refine lv_bipush (v := 12) hx hb dX6_rowKind_22 (by decide) ?_
      refine lv_icmp_ne (tgt := 32) hx hb dX6_rowKind_24 (by decide) (fun h_24 => ?_) (fun h_24 => ?_)
      · have h_24 : ¬ k = 12 := nIne (show ¬ nI k = nI 12 from h_24)
        refine lv_bipush (v := 10) hx hb dX6_rowKind_32 (by decide) ?_
        exact pv_iret F hr hlocks (by simp [rkN, nI, h_3, h_13, h_24]) dX6_rowKind_34
      · have h_24 : k = 12 := nIeq (show nI k = nI 12 from h_24) (by omega) (by omega)
        refine lv_bipush (v := 8) hx hb dX6_rowKind_27 (by decide) ?_
        refine lv_goto (tgt := 34) hx hb dX6_rowKind_29 (by decide) ?_
        exact pv_iret F hr hlocks (by simp [rkN, nI, h_3, h_13, h_24]) dX6_rowKind_34
    · have h_13 : k = 11 := nIeq (show nI k = nI 11 from h_13) (by omega) (by omega)
      refine lv_bipush (v := 7) hx hb dX6_rowKind_16 (by decide) ?_
      refine lv_goto (tgt := 34) hx hb dX6_rowKind_18 (by decide) ?_
      exact pv_iret F hr hlocks (by simp [rkN, nI, h_3, h_13]) dX6_rowKind_34
  · have h_3 : k = 10 := nIeq (show nI k = nI 10 from h_3) (by omega) (by omega)
    refine lv_iconst (v := 4) hx hb dX6_rowKind_6 (by decide) ?_
    refine lv_goto (tgt := 34) hx hb dX6_rowKind_7 (by decide) ?_
    exact pv_iret F hr hlocks (by simp [rkN, nI, h_3]) dX6_rowKind_34
set_option maxHeartbeats 400000 in
set_option maxRecDepth 100000 in
theorem c_X6_isFull (l : Launch) (D : va_G) (cy : Nat → ClassId) (A : Nat → Prop) (G : Nat → Nat) (r : RS) (C : Nat → Nat) (E : Nat → Int64) (sz : Nat)  (hN : rN r < 13000) : Met l yX6_isFull (px_w yX6_isFull cX6_isFull 1 (some .boolean)) (rmd 1 0 0) (px_P D cy [.ref (G 0)] sz (MR D cy A G r C E)) (px_V (some (.int (b2i (decide (6000 ≤ rN r)))))) 0 0 (fun _ => False) := by
  refine px_met (by decide) (Nat.le_of_ble_eq_true rfl) ?_
  intro p e s m below meth c F hr hlocks hnm hK hsz hR ls hl
  have hx := F.1
  have hb := F.2.1
  have hl : lv_has ls 1 [(0, .ref (G 0))] := hl
  refine lv_aload_n hx hb dX6_isFull_0 rfl (lv_at hl 0 rfl) ?_
  refine m_get F hK hR 4 (by decide) rfl kw_fieldLink_RX6_50 dX6_isFull_1 ?_
  refine lv_sipush (v := 6000) hx hb dX6_isFull_4 (by decide) ?_
  refine lv_icmp_lt (tgt := 14) hx hb dX6_isFull_7 (by decide) (fun h_7 => ?_) (fun h_7 => ?_)
  · have h_7 : (rN r) < 6000 := nIlt (show nI (rN r) < nI 6000 from h_7) (by omega) (by omega)
    refine lv_iconst (v := 0) hx hb dX6_isFull_14 (by decide) ?_
    exact pv_zret F hr hlocks (Or.inl rfl) (by simp [b2i]; omega) dX6_isFull_15
  · have h_7 : 6000 ≤ (rN r) := nInlt (show ¬ nI (rN r) < nI 6000 from h_7) (by omega) (by omega)
    refine lv_iconst (v := 1) hx hb dX6_isFull_10 (by decide) ?_
    refine lv_goto (tgt := 15) hx hb dX6_isFull_11 (by decide) ?_
    exact pv_zret F hr hlocks (Or.inr rfl) (by simp [b2i]; omega) dX6_isFull_15
set_option maxHeartbeats 400000 in
set_option maxRecDepth 100000 in
theorem c_X6_at (l : Launch) (D : va_G) (cy : Nat → ClassId) (A : Nat → Prop) (G : Nat → Nat) (r : RS) (C : Nat → Nat) (E : Nat → Int64) (sz : Nat) (t j : Nat) (ht : t < 13000) (hj : rS r t + j < 12200) : Met l yX6_at (px_w yX6_at cX6_at 3 (some .long)) (rmd 1 0 0) (px_P D cy [.ref (G 0), .int (nI t), .int (nI j)] sz (MR D cy A G r C E)) (px_V (some (.long (f_at r t j)))) 0 0 (fun _ => False) := by
  refine px_met (by decide) (Nat.le_of_ble_eq_true rfl) ?_
  intro p e s m below meth c F hr hlocks hnm hK hsz hR ls hl
  have hx := F.1
  have hb := F.2.1
  have hl : lv_has ls 3 [(0, .ref (G 0)), (1, .int (nI t)), (2, .int (nI j))] := hl
  refine lv_aload_n hx hb dX6_at_0 rfl (lv_at hl 0 rfl) ?_
  refine m_get F hK hR 5 (by decide) rfl kw_fieldLink_RX6_20 dX6_at_1 ?_
  refine lv_aload_n hx hb dX6_at_4 rfl (lv_at hl 0 rfl) ?_
  refine m_get F hK hR 3 (by decide) rfl kw_fieldLink_RX6_16 dX6_at_5 ?_
  refine lv_iload_n hx hb dX6_at_8 rfl (lv_at hl 1 rfl) ?_
  refine m_ldS F hK hR t rfl (by omega) dX6_at_9 ?_
  refine lv_iload_n hx hb dX6_at_10 rfl (lv_at hl 2 rfl) ?_
  refine lv_iadd hx hb dX6_at_11 ?_
  refine px_topi (y := nI ((rS r t) + j)) (nI_add _ _) ?_
  refine m_ldI F hK hR ((rS r t) + j) rfl (by omega) dX6_at_12 ?_
  exact pv_lret F hr hlocks (by rfl) dX6_at_13
set_option maxHeartbeats 400000 in
set_option maxRecDepth 100000 in
theorem c_X6_put (l : Launch) (D : va_G) (cy : Nat → ClassId) (A : Nat → Prop) (G : Nat → Nat) (r : RS) (C : Nat → Nat) (E : Nat → Int64) (sz : Nat) (t j : Nat) (v : Int64) (ht : t < 13000) (hj : rS r t + j < 12200) : Met l yX6_put (px_w yX6_put cX6_put 5 none) (rmd 1 0 0) (px_P D cy [.ref (G 0), .int (nI t), .int (nI j), .long v] sz (MR D cy A G r C E)) (px_Q (px_Mx D cy A G (none) (f_put r t j v) (C) (E)) A) 0 0 A := by
  refine px_met (by decide) (Nat.le_of_ble_eq_true rfl) ?_
  intro p e s m below meth c F hr hlocks hnm hK hsz hR ls hl
  have hx := F.1
  have hb := F.2.1
  have hl : lv_has ls 5 [(0, .ref (G 0)), (1, .int (nI t)), (2, .int (nI j)), (3, .long v)] := hl
  have hS : va_S A s.heap s.heap [] := va_S.rf
  refine lv_aload_n hx hb dX6_put_0 rfl (lv_at hl 0 rfl) ?_
  refine m_get F hK hR 5 (by decide) rfl kw_fieldLink_RX6_20 dX6_put_1 ?_
  refine lv_aload_n hx hb dX6_put_4 rfl (lv_at hl 0 rfl) ?_
  refine m_get F hK hR 3 (by decide) rfl kw_fieldLink_RX6_16 dX6_put_5 ?_
  refine lv_iload_n hx hb dX6_put_8 rfl (lv_at hl 1 rfl) ?_
  refine m_ldS F hK hR t rfl (by omega) dX6_put_9 ?_
  refine lv_iload_n hx hb dX6_put_10 rfl (lv_at hl 2 rfl) ?_
  refine lv_iadd hx hb dX6_put_11 ?_
  refine px_topi (y := nI ((rS r t) + j)) (nI_add _ _) ?_
  refine lv_lload_n hx hb dX6_put_12 rfl (lv_at hl 3 rfl) ?_
  refine m_stI F hK hR hS ((rS r t) + j) v rfl rfl (by omega) dX6_put_13 (fun H locs hR hS => ?_)
  exact px_vret F hr hlocks hS (by exact ⟨rfl, hR⟩) dX6_put_14
set_option maxHeartbeats 400000 in
set_option maxRecDepth 100000 in
theorem c_X6_isOf (l : Launch) (D : va_G) (cy : Nat → ClassId) (A : Nat → Prop) (G : Nat → Nat) (r : RS) (C : Nat → Nat) (E : Nat → Int64) (sz : Nat) (t k : Nat) (ht : t < 13000) (hk : k < 100) (hK1 : rK r t < 100) : Met l yX6_isOf (px_w yX6_isOf cX6_isOf 3 (some .boolean)) (rmd 1 0 0) (px_P D cy [.ref (G 0), .int (nI t), .int (nI k)] sz (MR D cy A G r C E)) (px_V (some (.int (b2i (f_isOf r t k))))) 0 0 (fun _ => False) := by
  refine px_met (by decide) (Nat.le_of_ble_eq_true rfl) ?_
  intro p e s m below meth c F hr hlocks hnm hK hsz hR ls hl
  have hx := F.1
  have hb := F.2.1
  have hl : lv_has ls 3 [(0, .ref (G 0)), (1, .int (nI t)), (2, .int (nI k))] := hl
  refine lv_iload_n hx hb dX6_isOf_0 rfl (lv_at hl 1 rfl) ?_
  refine lv_if_eq (tgt := 31) hx hb dX6_isOf_1 (by decide) (fun h_1 => ?_) (fun h_1 => ?_)
  · have h_1 : t = 0 := nIeq (show nI t = nI 0 from h_1) (by omega) (by omega)
    refine lv_iconst (v := 1) hx hb dX6_isOf_31 (by decide) ?_
    refine lv_goto (tgt := 36) hx hb dX6_isOf_32 (by decide) ?_
    exact pv_zret F hr hlocks (Or.inr rfl) (by simp [f_isOf, b2i] <;> omega) dX6_isOf_36
  · have h_1 : ¬ t = 0 := nIne (show ¬ nI t = nI 0 from h_1)
    refine lv_aload_n hx hb dX6_isOf_4 rfl (lv_at hl 0 rfl) ?_
    refine m_get F hK hR 1 (by decide) rfl kw_fieldLink_RX6_7 dX6_isOf_5 ?_
    refine lv_iload_n hx hb dX6_isOf_8 rfl (lv_at hl 1 rfl) ?_
    refine m_ldK F hK hR t rfl (by omega) dX6_isOf_9 ?_
    refine lv_iload_n hx hb dX6_isOf_10 rfl (lv_at hl 2 rfl) ?_
    refine lv_icmp_eq (tgt := 31) hx hb dX6_isOf_11 (by decide) (fun h_11 => ?_) (fun h_11 => ?_)
    · have h_11 : (rK r t) = k := nIeq (show nI (rK r t) = nI k from h_11) (by omega) (by omega)
      refine lv_iconst (v := 1) hx hb dX6_isOf_31 (by decide) ?_
      refine lv_goto (tgt := 36) hx hb dX6_isOf_32 (by decide) ?_
      exact pv_zret F hr hlocks (Or.inr rfl) (by simp [f_isOf, b2i] <;> omega) dX6_isOf_36
    · have h_11 : ¬ (rK r t) = k := nIne (show ¬ nI (rK r t) = nI k from h_11)
      refine lv_iload_n hx hb dX6_isOf_14 rfl (lv_at hl 2 rfl) ?_
      refine lv_bipush (v := 8) hx hb dX6_isOf_15 (by decide) ?_
      refine lv_icmp_ne (tgt := 35) hx hb dX6_isOf_17 (by decide) (fun h_17 => ?_) (fun h_17 => ?_)
      · have h_17 : ¬ k = 8 := nIne (show ¬ nI k = nI 8 from h_17)
        refine lv_iconst (v := 0) hx hb dX6_isOf_35 (by decide) ?_
        exact pv_zret F hr hlocks (Or.inl rfl) (by simp [f_isOf, b2i] <;> omega) dX6_isOf_36
      · have h_17 : k = 8 := nIeq (show nI k = nI 8 from h_17) (by omega) (by omega)
        refine lv_aload_n hx hb dX6_isOf_20 rfl (lv_at hl 0 rfl) ?_
        refine m_get F hK hR 1 (by decide) rfl kw_fieldLink_RX6_7 dX6_isOf_21 ?_
        refine lv_iload_n hx hb dX6_isOf_24 rfl (lv_at hl 1 rfl) ?_
        refine m_ldK F hK hR t rfl (by omega) dX6_isOf_25 ?_
        refine lv_bipush (v := 9) hx hb dX6_isOf_26 (by decide) ?_
        refine lv_icmp_ne (tgt := 35) hx hb dX6_isOf_28 (by decide) (fun h_28 => ?_) (fun h_28 => ?_)
        · have h_28 : ¬ (rK r t) = 9 := nIne (show ¬ nI (rK r t) = nI 9 from h_28)
          refine lv_iconst (v := 0) hx hb dX6_isOf_35 (by decide) ?_
          exact pv_zret F hr hlocks (Or.inl rfl) (by simp [f_isOf, b2i] <;> omega) dX6_isOf_36
        · have h_28 : (rK r t) = 9 := nIeq (show nI (rK r t) = nI 9 from h_28) (by omega) (by omega)
          refine lv_iconst (v := 1) hx hb dX6_isOf_31 (by decide) ?_
          refine lv_goto (tgt := 36) hx hb dX6_isOf_32 (by decide) ?_
          exact pv_zret F hr hlocks (Or.inr rfl) (by simp [f_isOf, b2i] <;> omega) dX6_isOf_36
set_option maxHeartbeats 400000 in
set_option maxRecDepth 100000 in
theorem c_X6_looked (l : Launch) (D : va_G) (cy : Nat → ClassId) (A : Nat → Prop) (G : Nat → Nat) (r : RS) (C : Nat → Nat) (E : Nat → Int64) (sz : Nat) (t : Nat) (i : Int32) (ht : t < 13000) : Met l yX6_looked (px_w yX6_looked cX6_looked 3 (some .int)) (rmd 2 0 0) (px_P D cy [.ref (G 0), .int (nI t), .int i] sz (MR D cy A G r C E)) (px_V (some (.int (nI (f_looked r t i))))) 0 0 (fun _ => False) := by
  refine px_met (by decide) (Nat.le_of_ble_eq_true rfl) ?_
  intro p e s m below meth c F hr hlocks hnm hK hsz hR ls hl
  have hx := F.1
  have hb := F.2.1
  have hl : lv_has ls 3 [(0, .ref (G 0)), (1, .int (nI t)), (2, .int i)] := hl
  refine lv_iload_n hx hb dX6_looked_0 rfl (lv_at hl 1 rfl) ?_
  refine lv_if_ne (tgt := 8) hx hb dX6_looked_1 (by decide) (fun h_1 => ?_) (fun h_1 => ?_)
  · have h_1 : ¬ t = 0 := nIne (show ¬ nI t = nI 0 from h_1)
    refine lv_iload_n hx hb dX6_looked_8 rfl (lv_at hl 2 rfl) ?_
    refine lv_iconst (v := 0) hx hb dX6_looked_9 (by decide) ?_
    refine lv_aload_n hx hb dX6_looked_10 rfl (lv_at hl 0 rfl) ?_
    refine m_get F hK hR 2 (by decide) rfl kw_fieldLink_RX6_13 dX6_looked_11 ?_
    refine lv_iload_n hx hb dX6_looked_14 rfl (lv_at hl 1 rfl) ?_
    refine m_ldMn F hK hR t rfl (by omega) dX6_looked_15 ?_
    refine lv_iconst (v := 1) hx hb dX6_looked_16 (by decide) ?_
    refine lv_isub hx hb dX6_looked_17 ?_
    refine px_goV (st1 := [.int (b2i (f_in i 0 ((nI (rMn r t)) - 1)))]) (px_callS F hK (c_X6_in l D cy _ i 0 ((nI (rMn r t)) - 1)) kc_X6_in kw_methodLink_RX6_57 rfl trivial rfl ⟨rfl, rfl⟩ ⟨Nat.le_of_ble_eq_true rfl, Nat.le_of_ble_eq_true rfl⟩ hl.1 rfl (Nat.le_of_ble_eq_true rfl) dX6_looked_18 ⟨Nat.zero_le _, Nat.zero_le _⟩) rfl ?_
    refine x_ifeq_b (tgt := 28) hx hb dX6_looked_21 (by decide) (fun h_21 => ?_) (fun h_21 => ?_)
    · refine lv_iconst (v := 3) hx hb dX6_looked_28 (by decide) ?_
      exact pv_iret F hr hlocks (by simp [f_looked, h_1, h_21] <;> rfl) dX6_looked_29
    · refine lv_iconst (v := 0) hx hb dX6_looked_24 (by decide) ?_
      refine lv_goto (tgt := 29) hx hb dX6_looked_25 (by decide) ?_
      exact pv_iret F hr hlocks (by simp [f_looked, h_1, h_21] <;> rfl) dX6_looked_29
  · have h_1 : t = 0 := nIeq (show nI t = nI 0 from h_1) (by omega) (by omega)
    refine lv_iconst (v := 1) hx hb dX6_looked_4 (by decide) ?_
    refine lv_goto (tgt := 29) hx hb dX6_looked_5 (by decide) ?_
    exact pv_iret F hr hlocks (by simp [f_looked, h_1] <;> rfl) dX6_looked_29
set_option maxHeartbeats 400000 in
set_option maxRecDepth 100000 in
theorem c_X6_areUnlike (l : Launch) (D : va_G) (cy : Nat → ClassId) (A : Nat → Prop) (G : Nat → Nat) (r : RS) (C : Nat → Nat) (E : Nat → Int64) (sz : Nat) (a b : Nat) (ha : a < 13000) (hb1 : b < 13000) (hKa : rK r a < 100) (hKb : rK r b < 100) : Met l yX6_areUnlike (px_w yX6_areUnlike cX6_areUnlike 3 (some .boolean)) (rmd 1 0 0) (px_P D cy [.ref (G 0), .int (nI a), .int (nI b)] sz (MR D cy A G r C E)) (px_V (some (.int (b2i (f_unlike r a b))))) 0 0 (fun _ => False) := by
  refine px_met (by decide) (Nat.le_of_ble_eq_true rfl) ?_
  intro p e s m below meth c F hr hlocks hnm hK hsz hR ls hl
  have hx := F.1
  have hb := F.2.1
  have hl : lv_has ls 3 [(0, .ref (G 0)), (1, .int (nI a)), (2, .int (nI b))] := hl
  refine lv_aload_n hx hb dX6_areUnlike_0 rfl (lv_at hl 0 rfl) ?_
  refine m_get F hK hR 1 (by decide) rfl kw_fieldLink_RX6_7 dX6_areUnlike_1 ?_
  refine lv_iload_n hx hb dX6_areUnlike_4 rfl (lv_at hl 1 rfl) ?_
  refine m_ldK F hK hR a rfl (by omega) dX6_areUnlike_5 ?_
  refine lv_aload_n hx hb dX6_areUnlike_6 rfl (lv_at hl 0 rfl) ?_
  refine m_get F hK hR 1 (by decide) rfl kw_fieldLink_RX6_7 dX6_areUnlike_7 ?_
  refine lv_iload_n hx hb dX6_areUnlike_10 rfl (lv_at hl 2 rfl) ?_
  refine m_ldK F hK hR b rfl (by omega) dX6_areUnlike_11 ?_
  refine lv_icmp_eq (tgt := 41) hx hb dX6_areUnlike_12 (by decide) (fun h_12 => ?_) (fun h_12 => ?_)
  · have h_12 : (rK r a) = (rK r b) := nIeq (show nI (rK r a) = nI (rK r b) from h_12) (by omega) (by omega)
    refine lv_iconst (v := 0) hx hb dX6_areUnlike_41 (by decide) ?_
    exact pv_zret F hr hlocks (Or.inl rfl) (by simp [f_unlike, b2i] <;> omega) dX6_areUnlike_42
  · have h_12 : ¬ (rK r a) = (rK r b) := nIne (show ¬ nI (rK r a) = nI (rK r b) from h_12)
    refine lv_aload_n hx hb dX6_areUnlike_15 rfl (lv_at hl 0 rfl) ?_
    refine m_get F hK hR 1 (by decide) rfl kw_fieldLink_RX6_7 dX6_areUnlike_16 ?_
    refine lv_iload_n hx hb dX6_areUnlike_19 rfl (lv_at hl 1 rfl) ?_
    refine m_ldK F hK hR a rfl (by omega) dX6_areUnlike_20 ?_
    refine lv_bipush (v := 8) hx hb dX6_areUnlike_21 (by decide) ?_
    refine lv_icmp_lt (tgt := 37) hx hb dX6_areUnlike_23 (by decide) (fun h_23 => ?_) (fun h_23 => ?_)
    · have h_23 : (rK r a) < 8 := nIlt (show nI (rK r a) < nI 8 from h_23) (by omega) (by omega)
      refine lv_iconst (v := 1) hx hb dX6_areUnlike_37 (by decide) ?_
      refine lv_goto (tgt := 42) hx hb dX6_areUnlike_38 (by decide) ?_
      exact pv_zret F hr hlocks (Or.inr rfl) (by simp [f_unlike, b2i] <;> omega) dX6_areUnlike_42
    · have h_23 : 8 ≤ (rK r a) := nInlt (show ¬ nI (rK r a) < nI 8 from h_23) (by omega) (by omega)
      refine lv_aload_n hx hb dX6_areUnlike_26 rfl (lv_at hl 0 rfl) ?_
      refine m_get F hK hR 1 (by decide) rfl kw_fieldLink_RX6_7 dX6_areUnlike_27 ?_
      refine lv_iload_n hx hb dX6_areUnlike_30 rfl (lv_at hl 2 rfl) ?_
      refine m_ldK F hK hR b rfl (by omega) dX6_areUnlike_31 ?_
      refine lv_bipush (v := 8) hx hb dX6_areUnlike_32 (by decide) ?_
      refine lv_icmp_ge (tgt := 41) hx hb dX6_areUnlike_34 (by decide) (fun h_34 => ?_) (fun h_34 => ?_)
      · have h_34 : 8 ≤ (rK r b) := nIle (show nI 8 ≤ nI (rK r b) from h_34) (by omega) (by omega)
        refine lv_iconst (v := 0) hx hb dX6_areUnlike_41 (by decide) ?_
        exact pv_zret F hr hlocks (Or.inl rfl) (by simp [f_unlike, b2i] <;> omega) dX6_areUnlike_42
      · have h_34 : (rK r b) < 8 := nInle (show ¬ nI 8 ≤ nI (rK r b) from h_34) (by omega) (by omega)
        refine lv_iconst (v := 1) hx hb dX6_areUnlike_37 (by decide) ?_
        refine lv_goto (tgt := 42) hx hb dX6_areUnlike_38 (by decide) ?_
        exact pv_zret F hr hlocks (Or.inr rfl) (by simp [f_unlike, b2i] <;> omega) dX6_areUnlike_42
set_option maxHeartbeats 400000 in
set_option maxRecDepth 100000 in
theorem c_X6_areShaped (l : Launch) (D : va_G) (cy : Nat → ClassId) (A : Nat → Prop) (G : Nat → Nat) (r : RS) (C : Nat → Nat) (E : Nat → Int64) (sz : Nat) (a b : Nat) (ha : a < 13000) (hb1 : b < 13000) (hKa : rK r a < 100) (hKb : rK r b < 100) (hMa : rMn r a < 100) (hMb : rMn r b < 100) : Met l yX6_areShaped (px_w yX6_areShaped cX6_areShaped 3 (some .boolean)) (rmd 1 0 0) (px_P D cy [.ref (G 0), .int (nI a), .int (nI b)] sz (MR D cy A G r C E)) (px_V (some (.int (b2i (f_shaped r a b))))) 0 0 (fun _ => False) := by
  refine px_met (by decide) (Nat.le_of_ble_eq_true rfl) ?_
  intro p e s m below meth c F hr hlocks hnm hK hsz hR ls hl
  have hx := F.1
  have hb := F.2.1
  have hl : lv_has ls 3 [(0, .ref (G 0)), (1, .int (nI a)), (2, .int (nI b))] := hl
  refine lv_iload_n hx hb dX6_areShaped_0 rfl (lv_at hl 1 rfl) ?_
  refine lv_if_eq (tgt := 42) hx hb dX6_areShaped_1 (by decide) (fun h_1 => ?_) (fun h_1 => ?_)
  · have h_1 : a = 0 := nIeq (show nI a = nI 0 from h_1) (by omega) (by omega)
    refine lv_iconst (v := 0) hx hb dX6_areShaped_42 (by decide) ?_
    exact pv_zret F hr hlocks (Or.inl rfl) (by simp [f_shaped, b2i] <;> omega) dX6_areShaped_43
  · have h_1 : ¬ a = 0 := nIne (show ¬ nI a = nI 0 from h_1)
    refine lv_iload_n hx hb dX6_areShaped_4 rfl (lv_at hl 2 rfl) ?_
    refine lv_if_eq (tgt := 42) hx hb dX6_areShaped_5 (by decide) (fun h_5 => ?_) (fun h_5 => ?_)
    · have h_5 : b = 0 := nIeq (show nI b = nI 0 from h_5) (by omega) (by omega)
      refine lv_iconst (v := 0) hx hb dX6_areShaped_42 (by decide) ?_
      exact pv_zret F hr hlocks (Or.inl rfl) (by simp [f_shaped, b2i] <;> omega) dX6_areShaped_43
    · have h_5 : ¬ b = 0 := nIne (show ¬ nI b = nI 0 from h_5)
      refine lv_aload_n hx hb dX6_areShaped_8 rfl (lv_at hl 0 rfl) ?_
      refine m_get F hK hR 1 (by decide) rfl kw_fieldLink_RX6_7 dX6_areShaped_9 ?_
      refine lv_iload_n hx hb dX6_areShaped_12 rfl (lv_at hl 1 rfl) ?_
      refine m_ldK F hK hR a rfl (by omega) dX6_areShaped_13 ?_
      refine lv_aload_n hx hb dX6_areShaped_14 rfl (lv_at hl 0 rfl) ?_
      refine m_get F hK hR 1 (by decide) rfl kw_fieldLink_RX6_7 dX6_areShaped_15 ?_
      refine lv_iload_n hx hb dX6_areShaped_18 rfl (lv_at hl 2 rfl) ?_
      refine m_ldK F hK hR b rfl (by omega) dX6_areShaped_19 ?_
      refine lv_icmp_ne (tgt := 42) hx hb dX6_areShaped_20 (by decide) (fun h_20 => ?_) (fun h_20 => ?_)
      · have h_20 : ¬ (rK r a) = (rK r b) := nIne (show ¬ nI (rK r a) = nI (rK r b) from h_20)
        refine lv_iconst (v := 0) hx hb dX6_areShaped_42 (by decide) ?_
        exact pv_zret F hr hlocks (Or.inl rfl) (by simp [f_shaped, b2i] <;> omega) dX6_areShaped_43
      · have h_20 : (rK r a) = (rK r b) := nIeq (show nI (rK r a) = nI (rK r b) from h_20) (by omega) (by omega)
        refine lv_aload_n hx hb dX6_areShaped_23 rfl (lv_at hl 0 rfl) ?_
        refine m_get F hK hR 2 (by decide) rfl kw_fieldLink_RX6_13 dX6_areShaped_24 ?_
        refine lv_iload_n hx hb dX6_areShaped_27 rfl (lv_at hl 1 rfl) ?_
        refine m_ldMn F hK hR a rfl (by omega) dX6_areShaped_28 ?_
        refine lv_aload_n hx hb dX6_areShaped_29 rfl (lv_at hl 0 rfl) ?_
        refine m_get F hK hR 2 (by decide) rfl kw_fieldLink_RX6_13 dX6_areShaped_30 ?_
        refine lv_iload_n hx hb dX6_areShaped_33 rfl (lv_at hl 2 rfl) ?_
        refine m_ldMn F hK hR b rfl (by omega) dX6_areShaped_34 ?_
        refine lv_icmp_ne (tgt := 42) hx hb dX6_areShaped_35 (by decide) (fun h_35 => ?_) (fun h_35 => ?_)
        · have h_35 : ¬ (rMn r a) = (rMn r b) := nIne (show ¬ nI (rMn r a) = nI (rMn r b) from h_35)
          refine lv_iconst (v := 0) hx hb dX6_areShaped_42 (by decide) ?_
          exact pv_zret F hr hlocks (Or.inl rfl) (by simp [f_shaped, b2i] <;> omega) dX6_areShaped_43
        · have h_35 : (rMn r a) = (rMn r b) := nIeq (show nI (rMn r a) = nI (rMn r b) from h_35) (by omega) (by omega)
          refine lv_iconst (v := 1) hx hb dX6_areShaped_38 (by decide) ?_
          refine lv_goto (tgt := 43) hx hb dX6_areShaped_39 (by decide) ?_
          exact pv_zret F hr hlocks (Or.inr rfl) (by simp [f_shaped, b2i] <;> omega) dX6_areShaped_43
/-- a table that is being made: k of its n items are there -/
def tbl (r : RS) (kd n k : Nat) : RS := (rT r + 1, va_up (rK r) (rT r + 1) kd, va_up (rMn r) (rT r + 1) n, va_up (rS r) (rT r + 1) (rN r), rN r + k, f_zero (rI r) (rN r) k, rM r, rTN r, rIM r, rHd r, rTr r, rPa r, rNu r, rFa r)
theorem tbl_0 (r : RS) (kd n : Nat) : tbl r kd n 0 = (rT r + 1, va_up (rK r) (rT r + 1) kd, va_up (rMn r) (rT r + 1) n, va_up (rS r) (rT r + 1) (rN r), rN r, rI r, rM r, rTN r, rIM r, rHd r, rTr r, rPa r, rNu r, rFa r) := by rw [tbl, f_zero_0]; rfl
theorem tbl_s (r : RS) (kd n k : Nat) : tbl r kd n (k + 1) = (rT r + 1, va_up (rK r) (rT r + 1) kd, va_up (rMn r) (rT r + 1) n, va_up (rS r) (rT r + 1) (rN r), rN r + k + 1, va_up (f_zero (rI r) (rN r) k) (rN r + k) 0, rM r, rTN r, rIM r, rHd r, rTr r, rPa r, rNu r, rFa r) := by rw [tbl, f_zero_s]; rfl
set_option maxHeartbeats 400000 in
set_option maxRecDepth 100000 in
theorem c_X6_table (l : Launch) (D : va_G) (cy : Nat → ClassId) (A : Nat → Prop) (G : Nat → Nat) (r : RS) (C : Nat → Nat) (E : Nat → Int64) (sz : Nat) (kd n : Nat) (hT : rT r + 1 < 13000) (hN : rN r + n ≤ 12200) (hkd : kd < 128) (hn : n < 128) : Met l yX6_table (px_w yX6_table cX6_table 4 (some .int)) (rmd 1 0 0) (px_P D cy [.ref (G 0), .int (nI kd), .int (nI n)] sz (MR D cy A G r C E)) (px_Q (px_Mx D cy A G (some (.int (nI (rT r + 1)))) (f_table r kd n) (C) (E)) A) 0 0 A := by
  refine px_met (by decide) (Nat.le_of_ble_eq_true rfl) ?_
  intro p e s m below meth c F hr hlocks hnm hK hsz hR ls hl
  have hx := F.1
  have hb := F.2.1
  have hl : lv_has ls 4 [(0, .ref (G 0)), (1, .int (nI kd)), (2, .int (nI n))] := hl
  have hS : va_S A s.heap s.heap [] := va_S.rf
  refine lv_aload_n hx hb dX6_table_0 rfl (lv_at hl 0 rfl) ?_
  refine lv_dup hx hb dX6_table_1 rfl ?_
  refine m_get F hK hR 0 (by decide) rfl kw_fieldLink_RX6_47 dX6_table_2 ?_
  refine lv_iconst (v := 1) hx hb dX6_table_5 (by decide) ?_
  refine lv_iadd hx hb dX6_table_6 ?_
  refine px_topi (y := nI ((rT r) + 1)) (nI_add _ _) ?_
  refine m_put F hK hR hS 0 (by decide) (v := nI ((rT r) + 1)) rfl (sT r ((rT r) + 1)) rfl kw_fieldLink_RX6_47 rfl rfl dX6_table_7 (fun H locs hR hS => ?_)
  refine lv_aload_n hx hb dX6_table_10 rfl (lv_at hl 0 rfl) ?_
  refine m_get F hK hR 1 (by decide) rfl kw_fieldLink_RX6_7 dX6_table_11 ?_
  refine lv_aload_n hx hb dX6_table_14 rfl (lv_at hl 0 rfl) ?_
  refine m_get F hK hR 0 (by decide) rfl kw_fieldLink_RX6_47 dX6_table_15 ?_
  refine lv_iload_n hx hb dX6_table_18 rfl (lv_at hl 1 rfl) ?_
  refine lv_i2b (v := nI kd) hx hb dX6_table_19 (nI_b8 _ (by omega)) ?_
  refine m_stK F hK hR hS ((rT r) + 1) kd rfl rfl (by omega) (by omega) dX6_table_20 (fun H locs hR hS => ?_)
  refine lv_aload_n hx hb dX6_table_21 rfl (lv_at hl 0 rfl) ?_
  refine m_get F hK hR 2 (by decide) rfl kw_fieldLink_RX6_13 dX6_table_22 ?_
  refine lv_aload_n hx hb dX6_table_25 rfl (lv_at hl 0 rfl) ?_
  refine m_get F hK hR 0 (by decide) rfl kw_fieldLink_RX6_47 dX6_table_26 ?_
  refine lv_iload_n hx hb dX6_table_29 rfl (lv_at hl 2 rfl) ?_
  refine lv_i2b (v := nI n) hx hb dX6_table_30 (nI_b8 _ (by omega)) ?_
  refine m_stMn F hK hR hS ((rT r) + 1) n rfl rfl (by omega) (by omega) dX6_table_31 (fun H locs hR hS => ?_)
  refine lv_aload_n hx hb dX6_table_32 rfl (lv_at hl 0 rfl) ?_
  refine m_get F hK hR 3 (by decide) rfl kw_fieldLink_RX6_16 dX6_table_33 ?_
  refine lv_aload_n hx hb dX6_table_36 rfl (lv_at hl 0 rfl) ?_
  refine m_get F hK hR 0 (by decide) rfl kw_fieldLink_RX6_47 dX6_table_37 ?_
  refine lv_aload_n hx hb dX6_table_40 rfl (lv_at hl 0 rfl) ?_
  refine m_get F hK hR 4 (by decide) rfl kw_fieldLink_RX6_50 dX6_table_41 ?_
  refine m_stS F hK hR hS ((rT r) + 1) (rN r) rfl rfl (by omega) dX6_table_44 (fun H locs hR hS => ?_)
  refine lv_iconst (v := 0) hx hb dX6_table_45 (by decide) ?_
  refine lv_istore_n (lv' := [(3, .int 0), (0, .ref (G 0)), (1, .int (nI kd)), (2, .int (nI n))]) hx hb dX6_table_46 rfl hl (by decide) rfl (fun ls hl => ?_)
  have loop : ∀ (d k : Nat), k + d = n → ∀ (H : Heap) (locs : List Loc) (ls : Array Slot), MR D cy A G (tbl r kd n k) (C) (E) H → va_S A s.heap H locs → lv_has ls 4 [(3, .int (nI k)), (0, .ref (G 0)), (1, .int (nI kd)), (2, .int (nI n))] → W p l e (rmd 1 0 0) s m ([.ref (G 0), .int (nI kd), .int (nI n)] : List Value).toArray below meth c H locs 0 0 (MQ below (px_Q (px_Mx D cy A G (some (.int (nI (rT r + 1)))) (f_table r kd n) (C) (E)) A) ([.ref (G 0), .int (nI kd), .int (nI n)] : List Value).toArray s 0 0 A) (F0 m 47 ls []) := by
    intro d
    induction d with
    | zero =>
      intro k hk H locs ls hR hS hl
      refine lv_iload_n hx hb dX6_table_47 rfl (lv_at hl 0 rfl) ?_
      refine lv_iload_n hx hb dX6_table_48 rfl (lv_at hl 3 rfl) ?_
      refine lv_icmp_ge (tgt := 78) hx hb dX6_table_49 (by decide) (fun h_49 => ?_) (fun h_49 => by exfalso; have h_49 : k < n := nInle (show ¬ nI n ≤ nI k from h_49) (by omega) (by omega); omega)
      have h_49 : n ≤ k := nIle (show nI n ≤ nI k from h_49) (by omega) (by omega)
      refine lv_aload_n hx hb dX6_table_78 rfl (lv_at hl 1 rfl) ?_
      refine m_get F hK hR 0 (by decide) rfl kw_fieldLink_RX6_47 dX6_table_79 ?_
      exact px_iret F hr hlocks hS (by have hkn : k = n := (by omega); subst hkn; exact ⟨rfl, hR⟩) dX6_table_82
    | succ d ih_loop =>
      intro k hk H locs ls hR hS hl
      refine lv_iload_n hx hb dX6_table_47 rfl (lv_at hl 0 rfl) ?_
      refine lv_iload_n hx hb dX6_table_48 rfl (lv_at hl 3 rfl) ?_
      refine lv_icmp_ge (tgt := 78) hx hb dX6_table_49 (by decide) (fun h_49 => by exfalso; have h_49 : n ≤ k := nIle (show nI n ≤ nI k from h_49) (by omega) (by omega); omega) (fun h_49 => ?_)
      have h_49 : k < n := nInle (show ¬ nI n ≤ nI k from h_49) (by omega) (by omega)
      refine lv_aload_n hx hb dX6_table_52 rfl (lv_at hl 1 rfl) ?_
      refine m_get F hK hR 5 (by decide) rfl kw_fieldLink_RX6_20 dX6_table_53 ?_
      refine lv_aload_n hx hb dX6_table_56 rfl (lv_at hl 1 rfl) ?_
      refine m_get F hK hR 4 (by decide) rfl kw_fieldLink_RX6_50 dX6_table_57 ?_
      refine lv_lconst (v := 0) hx hb dX6_table_60 (by decide) ?_
      refine m_stI F hK hR hS (rN r + k) 0 rfl rfl (by omega) dX6_table_61 (fun H locs hR hS => ?_)
      refine lv_aload_n hx hb dX6_table_62 rfl (lv_at hl 1 rfl) ?_
      refine lv_dup hx hb dX6_table_63 rfl ?_
      refine m_get F hK hR 4 (by decide) rfl kw_fieldLink_RX6_50 dX6_table_64 ?_
      refine lv_iconst (v := 1) hx hb dX6_table_67 (by decide) ?_
      refine lv_iadd hx hb dX6_table_68 ?_
      refine px_topi (y := nI ((rN r + k) + 1)) (nI_add _ _) ?_
      refine m_put F hK hR hS 4 (by decide) (v := nI ((rN r + k) + 1)) rfl (sN (sI (tbl r kd n k) (va_up (rI (tbl r kd n k)) (rN r + k) 0)) ((rN r + k) + 1)) rfl kw_fieldLink_RX6_50 rfl rfl dX6_table_69 (fun H locs hR hS => ?_)
      refine lv_iinc (v := nI (k + 1)) (lv' := [(3, .int (nI (k + 1))), (0, .ref (G 0)), (1, .int (nI kd)), (2, .int (nI n))]) hx hb dX6_table_72 hl (k := 0) rfl (by show nI k + 1 = nI (k + 1); exact nI_1 _) (by decide) rfl (fun ls hl => ?_)
      refine lv_goto (tgt := 47) hx hb dX6_table_75 (by decide) ?_
      exact ih_loop (k + 1) (by omega) _ _ _ (by rw [tbl_s]; exact hR) hS (lv_sub hl [0, 1, 2, 3] rfl)
  exact loop n 0 (by omega) _ _ _ (by rw [tbl_0]; exact hR) hS (lv_sub hl [0, 1, 2, 3] rfl)
