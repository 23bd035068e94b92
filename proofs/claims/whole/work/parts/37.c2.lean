/-! the class: readers, 2 -/
set_option maxHeartbeats 400000 in
set_option maxRecDepth 100000 in
theorem c_X5_rowAt (l : Launch) (D : va_G) (cy : Nat → ClassId) (A : Nat → Prop) (r : RS) (g : CG) (sz : Nat) (t : Nat) (vt : Value) (i : Int32) (hvt : vt = va_rf (c_col (gA g) t)) (ht_t : t ≤ rT r) (hM30 : rMn r t ≤ 30) (hM0 : rMn r 0 ≤ 30) (hv : t ≠ 0 → IV r t) : Met l yX5_rowAt (px_w yX5_rowAt cX5_rowAt 4 (some (.object "PlanCopies$Table"))) (rmd 2 0 0) (px_P D cy [vt, .int i] sz (CR D cy A r g)) (px_V (some (va_rf (c_col (gA g) (f_rowAt r t i))))) 0 0 (fun _ => False) := by
  by_cases h0_t : t = 0
  · have e_vt : vt = .null := (hvt.trans (col_0 h0_t).symm)
    subst e_vt
    refine px_met (by decide) (Nat.le_of_ble_eq_true rfl) ?_
    intro p e s m below meth c F hr hlocks hnm hK hsz hR ls hl
    have hx := F.1
    have hb := F.2.1
    have hl : lv_has ls 4 [(0, .null), (1, .int i)] := hl
    refine lv_aload_nN hx hb dX5_rowAt_0 rfl (lv_at hl 0 rfl) ?_
    refine lv_iload_n hx hb dX5_rowAt_1 rfl (lv_at hl 1 rfl) ?_
    refine px_goV (st1 := [va_rf (c_item (gA g) r 0 i)]) (px_callS F hK (c_X5_itemAt l D cy A r g _ 0 .null i (col_0 rfl) (Nat.zero_le _) (by omega)) kc_X5_itemAt kw_methodLink_RX5_95 rfl hR rfl ⟨rfl, rfl⟩ ⟨Nat.le_of_ble_eq_true rfl, Nat.le_of_ble_eq_true rfl⟩ hl.1 rfl (Nat.le_of_ble_eq_true rfl) dX5_rowAt_2 ⟨Nat.zero_le _, Nat.zero_le _⟩) rfl ?_
    rcases c_item_3 (r := r) (t := 0) (i := i) (gA g) (by omega) (fun q => absurd rfl q) with ⟨hq_w, hq1_w, hq2_w⟩ | ⟨w, hq0_w, hq1_w, hq2_w, hq3_w, hq_w⟩ | ⟨w, hq0_w, hq1_w, hq2_w, hq3_w, hq_w⟩
    · refine px_topv (y := .null) (by rw [hq_w]; rfl) ?_
      refine lv_astore_nN (lv' := [(3, .null), (0, .null), (1, .int i)]) hx hb dX5_rowAt_5 rfl hl (by decide) rfl (fun ls hl => ?_)
      refine lv_aload_nN hx hb dX5_rowAt_6 rfl (lv_at hl 0 rfl) ?_
      refine lv_instN hx hb dX5_rowAt_7 ?_
      refine lv_if_eq (tgt := 22) hx hb dX5_rowAt_10 (by decide) (fun _ => ?_) (fun h => absurd h (by decide))
      refine lv_null hx hb dX5_rowAt_22 ?_
      exact pv_aret (x := none) F hr hlocks (by rw [h0_t, hq1_w]; rfl) dX5_rowAt_23
    · refine px_topv (y := .ref (gA g (3 * w + 2))) (by rw [hq_w]; rfl) ?_
      refine lv_astore_n (lv' := [(3, .ref (gA g (3 * w + 2))), (0, .null), (1, .int i)]) hx hb dX5_rowAt_5 rfl hl (by decide) rfl (fun ls hl => ?_)
      refine lv_aload_n hx hb dX5_rowAt_6 rfl (lv_at hl 0 rfl) ?_
      refine c_iTv F hK hR (v := w) (by omega) (show w ≤ rM r by omega) kw_classLink_RX5_9 dX5_rowAt_7 ?_
      refine lv_if_eq (tgt := 22) hx hb dX5_rowAt_10 (by decide) (fun _ => ?_) (fun h => absurd h (by decide))
      refine lv_null hx hb dX5_rowAt_22 ?_
      exact pv_aret (x := none) F hr hlocks (by rw [h0_t, hq3_w]; rfl) dX5_rowAt_23
    · refine px_topv (y := .ref (gA g (3 * w))) (by rw [hq_w]; rfl) ?_
      refine lv_astore_n (lv' := [(3, .ref (gA g (3 * w))), (0, .null), (1, .int i)]) hx hb dX5_rowAt_5 rfl hl (by decide) rfl (fun ls hl => ?_)
      refine lv_aload_n hx hb dX5_rowAt_6 rfl (lv_at hl 0 rfl) ?_
      refine c_iTt F hK hR (t := w) (by omega) (show w ≤ rT r by omega) kw_classLink_RX5_9 dX5_rowAt_7 ?_
      refine lv_if_eq (tgt := 22) hx hb dX5_rowAt_10 (by decide) (fun h => absurd h (by decide)) (fun _ => ?_)
      refine lv_aload_n hx hb dX5_rowAt_13 rfl (lv_at hl 0 rfl) ?_
      refine c_cT F hK hR (t := w) (by omega) (show w ≤ rT r by omega) kw_classLink_RX5_9 dX5_rowAt_14 ?_
      refine lv_astore_n (lv' := [(2, .ref (gA g (3 * w))), (3, .ref (gA g (3 * w))), (0, .null), (1, .int i)]) hx hb dX5_rowAt_17 rfl hl (by decide) rfl (fun ls hl => ?_)
      refine lv_aload_n hx hb dX5_rowAt_18 rfl (lv_at hl 0 rfl) ?_
      refine lv_goto (tgt := 23) hx hb dX5_rowAt_19 (by decide) ?_
      exact pv_aret (x := some (gA g (3 * w))) F hr hlocks (by rw [h0_t, ← hq0_w]; exact congrArg some (col_t hq1_w)) dX5_rowAt_23
  · have e_vt : vt = .ref (gA g (3 * t)) := (hvt.trans (col_t h0_t).symm)
    subst e_vt
    refine px_met (by decide) (Nat.le_of_ble_eq_true rfl) ?_
    intro p e s m below meth c F hr hlocks hnm hK hsz hR ls hl
    have hx := F.1
    have hb := F.2.1
    have hl : lv_has ls 4 [(0, .ref (gA g (3 * t))), (1, .int i)] := hl
    refine lv_aload_n hx hb dX5_rowAt_0 rfl (lv_at hl 0 rfl) ?_
    refine lv_iload_n hx hb dX5_rowAt_1 rfl (lv_at hl 1 rfl) ?_
    refine px_goV (st1 := [va_rf (c_item (gA g) r t i)]) (px_callS F hK (c_X5_itemAt l D cy A r g _ t (.ref (gA g (3 * t))) i (col_t (by omega)) (by omega) (by omega)) kc_X5_itemAt kw_methodLink_RX5_95 rfl hR rfl ⟨rfl, rfl⟩ ⟨Nat.le_of_ble_eq_true rfl, Nat.le_of_ble_eq_true rfl⟩ hl.1 rfl (Nat.le_of_ble_eq_true rfl) dX5_rowAt_2 ⟨Nat.zero_le _, Nat.zero_le _⟩) rfl ?_
    rcases c_item_3 (r := r) (t := t) (i := i) (gA g) (by omega) (fun q => hv (by omega)) with ⟨hq_w, hq1_w, hq2_w⟩ | ⟨w, hq0_w, hq1_w, hq2_w, hq3_w, hq_w⟩ | ⟨w, hq0_w, hq1_w, hq2_w, hq3_w, hq_w⟩
    · refine px_topv (y := .null) (by rw [hq_w]; rfl) ?_
      refine lv_astore_nN (lv' := [(3, .null), (0, .ref (gA g (3 * t))), (1, .int i)]) hx hb dX5_rowAt_5 rfl hl (by decide) rfl (fun ls hl => ?_)
      refine lv_aload_nN hx hb dX5_rowAt_6 rfl (lv_at hl 0 rfl) ?_
      refine lv_instN hx hb dX5_rowAt_7 ?_
      refine lv_if_eq (tgt := 22) hx hb dX5_rowAt_10 (by decide) (fun _ => ?_) (fun h => absurd h (by decide))
      refine lv_null hx hb dX5_rowAt_22 ?_
      exact pv_aret (x := none) F hr hlocks (by rw [hq1_w]; rfl) dX5_rowAt_23
    · refine px_topv (y := .ref (gA g (3 * w + 2))) (by rw [hq_w]; rfl) ?_
      refine lv_astore_n (lv' := [(3, .ref (gA g (3 * w + 2))), (0, .ref (gA g (3 * t))), (1, .int i)]) hx hb dX5_rowAt_5 rfl hl (by decide) rfl (fun ls hl => ?_)
      refine lv_aload_n hx hb dX5_rowAt_6 rfl (lv_at hl 0 rfl) ?_
      refine c_iTv F hK hR (v := w) (by omega) (show w ≤ rM r by omega) kw_classLink_RX5_9 dX5_rowAt_7 ?_
      refine lv_if_eq (tgt := 22) hx hb dX5_rowAt_10 (by decide) (fun _ => ?_) (fun h => absurd h (by decide))
      refine lv_null hx hb dX5_rowAt_22 ?_
      exact pv_aret (x := none) F hr hlocks (by rw [hq3_w]; rfl) dX5_rowAt_23
    · refine px_topv (y := .ref (gA g (3 * w))) (by rw [hq_w]; rfl) ?_
      refine lv_astore_n (lv' := [(3, .ref (gA g (3 * w))), (0, .ref (gA g (3 * t))), (1, .int i)]) hx hb dX5_rowAt_5 rfl hl (by decide) rfl (fun ls hl => ?_)
      refine lv_aload_n hx hb dX5_rowAt_6 rfl (lv_at hl 0 rfl) ?_
      refine c_iTt F hK hR (t := w) (by omega) (show w ≤ rT r by omega) kw_classLink_RX5_9 dX5_rowAt_7 ?_
      refine lv_if_eq (tgt := 22) hx hb dX5_rowAt_10 (by decide) (fun h => absurd h (by decide)) (fun _ => ?_)
      refine lv_aload_n hx hb dX5_rowAt_13 rfl (lv_at hl 0 rfl) ?_
      refine c_cT F hK hR (t := w) (by omega) (show w ≤ rT r by omega) kw_classLink_RX5_9 dX5_rowAt_14 ?_
      refine lv_astore_n (lv' := [(2, .ref (gA g (3 * w))), (3, .ref (gA g (3 * w))), (0, .ref (gA g (3 * t))), (1, .int i)]) hx hb dX5_rowAt_17 rfl hl (by decide) rfl (fun ls hl => ?_)
      refine lv_aload_n hx hb dX5_rowAt_18 rfl (lv_at hl 0 rfl) ?_
      refine lv_goto (tgt := 23) hx hb dX5_rowAt_19 (by decide) ?_
      exact pv_aret (x := some (gA g (3 * w))) F hr hlocks (by rw [← hq0_w]; exact congrArg some (col_t hq1_w)) dX5_rowAt_23
set_option maxHeartbeats 400000 in
set_option maxRecDepth 100000 in
theorem c_X5_kindOfRows (l : Launch) (D : va_G) (cy : Nat → ClassId) (sz : Nat)  (k : Nat)  (hk : k < 100) : Met l yX5_kindOfRows (px_w yX5_kindOfRows cX5_kindOfRows 1 (some .int)) (rmd 1 0 0) (px_P D cy [.int (nI k)] sz (fun _ => True)) (px_V (some (.int (f_kor k)))) 0 0 (fun _ => False) := by
  refine px_met (by decide) (Nat.le_of_ble_eq_true rfl) ?_
  intro p e s m below meth c F hr hlocks hnm hK hsz hR ls hl
  have hx := F.1
  have hb := F.2.1
  have hl : lv_has ls 1 [(0, .int (nI k))] := hl
  refine lv_iload_n hx hb dX5_kindOfRows_0 rfl (lv_at hl 0 rfl) ?_
  rcases (show k = 10 ∨ k = 11 ∨ k = 12 ∨ k = 13 ∨ k < 10 ∨ 13 < k by omega) with rfl | rfl | rfl | rfl | hlo | hhi
  · refine lv_tableIn (off := 31) (tgt := 32) hx hb dX5_kindOfRows_1 (by decide) (by decide) (by decide +kernel) (by decide) ?_
    refine lv_iconst (v := 4) hx hb dX5_kindOfRows_32 (by decide) ?_
    exact pv_iret F hr hlocks (by rfl) dX5_kindOfRows_33
  · refine lv_tableIn (off := 33) (tgt := 34) hx hb dX5_kindOfRows_1 (by decide) (by decide) (by decide +kernel) (by decide) ?_
    refine lv_bipush (v := 7) hx hb dX5_kindOfRows_34 (by decide) ?_
    exact pv_iret F hr hlocks (by rfl) dX5_kindOfRows_36
  · refine lv_tableIn (off := 36) (tgt := 37) hx hb dX5_kindOfRows_1 (by decide) (by decide) (by decide +kernel) (by decide) ?_
    refine lv_bipush (v := 8) hx hb dX5_kindOfRows_37 (by decide) ?_
    exact pv_iret F hr hlocks (by rfl) dX5_kindOfRows_39
  · refine lv_tableIn (off := 39) (tgt := 40) hx hb dX5_kindOfRows_1 (by decide) (by decide) (by decide +kernel) (by decide) ?_
    refine lv_bipush (v := 10) hx hb dX5_kindOfRows_40 (by decide) ?_
    exact pv_iret F hr hlocks (by rfl) dX5_kindOfRows_42
  · refine lv_tableOut (tgt := 43) hx hb dX5_kindOfRows_1 (Or.inl (by rw [nI_toInt (by omega)]; omega)) (by decide) ?_
    refine lv_iconst (v := -1) hx hb dX5_kindOfRows_43 (by decide) ?_
    exact pv_iret F hr hlocks (by unfold f_kor; rw [if_neg (by omega), if_neg (by omega), if_neg (by omega), if_neg (by omega)]) dX5_kindOfRows_44
  · refine lv_tableOut (tgt := 43) hx hb dX5_kindOfRows_1 (Or.inr (by rw [nI_toInt (by omega)]; omega)) (by decide) ?_
    refine lv_iconst (v := -1) hx hb dX5_kindOfRows_43 (by decide) ?_
    exact pv_iret F hr hlocks (by unfold f_kor; rw [if_neg (by omega), if_neg (by omega), if_neg (by omega), if_neg (by omega)]) dX5_kindOfRows_44
set_option maxHeartbeats 400000 in
set_option maxRecDepth 100000 in
theorem c_X5_hasStretch (l : Launch) (D : va_G) (cy : Nat → ClassId) (A : Nat → Prop) (r : RS) (g : CG) (sz : Nat)  (t : Nat) (i n : Int32)  (h0 : t ≠ 0) (ht : t ≤ rT r) : Met l yX5_hasStretch (px_w yX5_hasStretch cX5_hasStretch 3 (some .boolean)) (rmd 2 0 0) (px_P D cy [.ref (gA g (3 * t)), .int i, .int n] sz (CR D cy A r g)) (px_V (some (.int (b2i (f_str r t i n))))) 0 0 (fun _ => False) := by
  refine px_met (by decide) (Nat.le_of_ble_eq_true rfl) ?_
  intro p e s m below meth c F hr hlocks hnm hK hsz hR ls hl
  have hx := F.1
  have hb := F.2.1
  have hl : lv_has ls 3 [(0, .ref (gA g (3 * t))), (1, .int i), (2, .int n)] := hl
  refine lv_iload_n hx hb dX5_hasStretch_0 rfl (lv_at hl 1 rfl) ?_
  refine lv_if_lt (tgt := 22) hx hb dX5_hasStretch_1 (by decide) (fun h_1 => ?_) (fun h_1 => ?_)
  · refine lv_iconst (v := 0) hx hb dX5_hasStretch_22 (by decide) ?_
    exact pv_zret F hr hlocks (Or.inl rfl) (by simp [f_str, b2i, h_1]) dX5_hasStretch_23
  · refine lv_iload_n hx hb dX5_hasStretch_4 rfl (lv_at hl 2 rfl) ?_
    refine lv_if_lt (tgt := 22) hx hb dX5_hasStretch_5 (by decide) (fun h_5 => ?_) (fun h_5 => ?_)
    · refine lv_iconst (v := 0) hx hb dX5_hasStretch_22 (by decide) ?_
      exact pv_zret F hr hlocks (Or.inl rfl) (by simp [f_str, b2i, h_1, h_5]) dX5_hasStretch_23
    · refine lv_iload_n hx hb dX5_hasStretch_8 rfl (lv_at hl 1 rfl) ?_
      refine lv_aload_n hx hb dX5_hasStretch_9 rfl (lv_at hl 0 rfl) ?_
      refine c_cnt F hK hR (t := t) (by omega) (show t ≤ rT r by omega) ⟨Nat.le_of_ble_eq_true rfl, Nat.le_of_ble_eq_true rfl⟩ hl.1 (Nat.le_of_ble_eq_true rfl) ⟨Nat.zero_le _, Nat.zero_le _⟩ dX5_hasStretch_10 ?_
      refine lv_iload_n hx hb dX5_hasStretch_13 rfl (lv_at hl 2 rfl) ?_
      refine lv_isub hx hb dX5_hasStretch_14 ?_
      refine lv_icmp_gt (tgt := 22) hx hb dX5_hasStretch_15 (by decide) (fun h_15 => ?_) (fun h_15 => ?_)
      · refine lv_iconst (v := 0) hx hb dX5_hasStretch_22 (by decide) ?_
        exact pv_zret F hr hlocks (Or.inl rfl) (by simp [f_str, b2i, h_1, h_5, h_15]) dX5_hasStretch_23
      · refine lv_iconst (v := 1) hx hb dX5_hasStretch_18 (by decide) ?_
        refine lv_goto (tgt := 23) hx hb dX5_hasStretch_19 (by decide) ?_
        exact pv_zret F hr hlocks (Or.inr rfl) (by simp [f_str, b2i, h_1, h_5, h_15]) dX5_hasStretch_23
set_option maxHeartbeats 400000 in
set_option maxRecDepth 100000 in
theorem c_X5_keptFloat (l : Launch) (D : va_G) (cy : Nat → ClassId) (sz : Nat)  (b : Int32)   : Met l yX5_keptFloat (px_w yX5_keptFloat cX5_keptFloat 1 (some .int)) (rmd 1 0 0) (px_P D cy [.int b] sz (fun _ => True)) (px_V (some (.int (if 2139095040 < b &&& 2147483647 then 2143289344 else b)))) 0 0 (fun _ => False) := by
  refine px_met (by decide) (Nat.le_of_ble_eq_true rfl) ?_
  intro p e s m below meth c F hr hlocks hnm hK hsz hR ls hl
  have hx := F.1
  have hb := F.2.1
  have hl : lv_has ls 1 [(0, .int b)] := hl
  refine lv_iload_n hx hb dX5_keptFloat_0 rfl (lv_at hl 0 rfl) ?_
  refine lv_ldc hx hb F.2.2.2.1 (F.2.2.2.2 _ kw_constant_RX5_222) dX5_keptFloat_1 ?_
  refine lv_iand hx hb dX5_keptFloat_3 ?_
  refine lv_ldc hx hb F.2.2.2.1 (F.2.2.2.2 _ kw_constant_RX5_223) dX5_keptFloat_4 ?_
  refine lv_icmp_le (tgt := 14) hx hb dX5_keptFloat_6 (by decide) (fun h_6 => ?_) (fun h_6 => ?_)
  · have h_6 : ¬ 2139095040 < (b &&& 2147483647) := Int32.not_lt.mpr h_6
    refine lv_iload_n hx hb dX5_keptFloat_14 rfl (lv_at hl 0 rfl) ?_
    exact pv_iret F hr hlocks (by simp [h_6]) dX5_keptFloat_15
  · have h_6 : 2139095040 < (b &&& 2147483647) := Int32.not_le.mp h_6
    refine lv_ldc hx hb F.2.2.2.1 (F.2.2.2.2 _ kw_constant_RX5_224) dX5_keptFloat_9 ?_
    refine lv_goto (tgt := 15) hx hb dX5_keptFloat_11 (by decide) ?_
    exact pv_iret F hr hlocks (by simp [h_6]) dX5_keptFloat_15
set_option maxHeartbeats 400000 in
set_option maxRecDepth 100000 in
theorem c_X5_keptDouble (l : Launch) (D : va_G) (cy : Nat → ClassId) (sz : Nat)  (b : Int64)   : Met l yX5_keptDouble (px_w yX5_keptDouble cX5_keptDouble 2 (some .long)) (rmd 1 0 0) (px_P D cy [.long b] sz (fun _ => True)) (px_V (some (.long (if 9218868437227405312 < b &&& 9223372036854775807 then 9221120237041090560 else b)))) 0 0 (fun _ => False) := by
  refine px_met (by decide) (Nat.le_of_ble_eq_true rfl) ?_
  intro p e s m below meth c F hr hlocks hnm hK hsz hR ls hl
  have hx := F.1
  have hb := F.2.1
  have hl : lv_has ls 2 [(0, .long b)] := hl
  refine lv_lload_n hx hb dX5_keptDouble_0 rfl (lv_at hl 0 rfl) ?_
  refine lv_ldc2 hx hb F.2.2.2.1 (F.2.2.2.2 _ kw_constantLong_RX5_227) dX5_keptDouble_1 ?_
  refine lv_land hx hb dX5_keptDouble_4 ?_
  refine lv_ldc2 hx hb F.2.2.2.1 (F.2.2.2.2 _ kw_constantLong_RX5_229) dX5_keptDouble_5 ?_
  refine W.lcmp hx hb dX5_keptDouble_8 ?_
  refine x_cmp_le (tgt := 18) hx hb dX5_keptDouble_9 (by decide) (fun h_9 => ?_) (fun h_9 => ?_)
  · refine lv_lload_n hx hb dX5_keptDouble_18 rfl (lv_at hl 0 rfl) ?_
    exact pv_lret F hr hlocks (by simp [h_9]) dX5_keptDouble_19
  · refine lv_ldc2 hx hb F.2.2.2.1 (F.2.2.2.2 _ kw_constantLong_RX5_231) dX5_keptDouble_12 ?_
    refine lv_goto (tgt := 19) hx hb dX5_keptDouble_15 (by decide) ?_
    exact pv_lret F hr hlocks (by simp [h_9]) dX5_keptDouble_19
