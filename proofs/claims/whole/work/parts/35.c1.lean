/-! the class: readers -/
set_option maxHeartbeats 400000 in
set_option maxRecDepth 100000 in
theorem c_X5_isColumn (l : Launch) (D : va_G) (cy : Nat → ClassId) (sz : Nat)  (v : Int32)   : Met l yX5_isColumn (px_w yX5_isColumn cX5_isColumn 1 (some .boolean)) (rmd 1 0 0) (px_P D cy [.int v] sz (fun _ => True)) (px_V (some (.int (b2i (f_in v 0 15))))) 0 0 (fun _ => False) := by
  refine px_met (by decide) (Nat.le_of_ble_eq_true rfl) ?_
  intro p e s m below meth c F hr hlocks hnm hK hsz hR ls hl
  have hx := F.1
  have hb := F.2.1
  have hl : lv_has ls 1 [(0, .int v)] := hl
  refine lv_iload_n hx hb dX5_isColumn_0 rfl (lv_at hl 0 rfl) ?_
  refine lv_if_lt (tgt := 14) hx hb dX5_isColumn_1 (by decide) (fun h_1 => ?_) (fun h_1 => ?_)
  · refine lv_iconst (v := 0) hx hb dX5_isColumn_14 (by decide) ?_
    exact pv_zret F hr hlocks (Or.inl rfl) (by simp [f_in, b2i, h_1]) dX5_isColumn_15
  · refine lv_iload_n hx hb dX5_isColumn_4 rfl (lv_at hl 0 rfl) ?_
    refine lv_bipush (v := 16) hx hb dX5_isColumn_5 (by decide) ?_
    refine lv_icmp_ge (tgt := 14) hx hb dX5_isColumn_7 (by decide) (fun h_7 => ?_) (fun h_7 => ?_)
    · have h_7 : ¬ v < 16 := Int32.not_lt.mpr h_7
      refine lv_iconst (v := 0) hx hb dX5_isColumn_14 (by decide) ?_
      exact pv_zret F hr hlocks (Or.inl rfl) (by simp [f_in, b2i, h_1, ge16 h_7]) dX5_isColumn_15
    · have h_7 : v < 16 := Int32.not_le.mp h_7
      refine lv_iconst (v := 1) hx hb dX5_isColumn_10 (by decide) ?_
      refine lv_goto (tgt := 15) hx hb dX5_isColumn_11 (by decide) ?_
      exact pv_zret F hr hlocks (Or.inr rfl) (by simp [f_in, b2i, h_1, lt16 h_7]) dX5_isColumn_15
set_option maxHeartbeats 400000 in
set_option maxRecDepth 100000 in
theorem c_X5_isTrouble (l : Launch) (D : va_G) (cy : Nat → ClassId) (sz : Nat)  (v : Int32)   : Met l yX5_isTrouble (px_w yX5_isTrouble cX5_isTrouble 1 (some .boolean)) (rmd 1 0 0) (px_P D cy [.int v] sz (fun _ => True)) (px_V (some (.int (b2i (f_in v 0 7))))) 0 0 (fun _ => False) := by
  refine px_met (by decide) (Nat.le_of_ble_eq_true rfl) ?_
  intro p e s m below meth c F hr hlocks hnm hK hsz hR ls hl
  have hx := F.1
  have hb := F.2.1
  have hl : lv_has ls 1 [(0, .int v)] := hl
  refine lv_iload_n hx hb dX5_isTrouble_0 rfl (lv_at hl 0 rfl) ?_
  refine lv_if_lt (tgt := 14) hx hb dX5_isTrouble_1 (by decide) (fun h_1 => ?_) (fun h_1 => ?_)
  · refine lv_iconst (v := 0) hx hb dX5_isTrouble_14 (by decide) ?_
    exact pv_zret F hr hlocks (Or.inl rfl) (by simp [f_in, b2i, h_1]) dX5_isTrouble_15
  · refine lv_iload_n hx hb dX5_isTrouble_4 rfl (lv_at hl 0 rfl) ?_
    refine lv_bipush (v := 8) hx hb dX5_isTrouble_5 (by decide) ?_
    refine lv_icmp_ge (tgt := 14) hx hb dX5_isTrouble_7 (by decide) (fun h_7 => ?_) (fun h_7 => ?_)
    · have h_7 : ¬ v < 8 := Int32.not_lt.mpr h_7
      refine lv_iconst (v := 0) hx hb dX5_isTrouble_14 (by decide) ?_
      exact pv_zret F hr hlocks (Or.inl rfl) (by simp [f_in, b2i, h_1, ge8 h_7]) dX5_isTrouble_15
    · have h_7 : v < 8 := Int32.not_le.mp h_7
      refine lv_iconst (v := 1) hx hb dX5_isTrouble_10 (by decide) ?_
      refine lv_goto (tgt := 15) hx hb dX5_isTrouble_11 (by decide) ?_
      exact pv_zret F hr hlocks (Or.inr rfl) (by simp [f_in, b2i, h_1, lt8 h_7]) dX5_isTrouble_15
set_option maxHeartbeats 400000 in
set_option maxRecDepth 100000 in
theorem c_X5_isKind (l : Launch) (D : va_G) (cy : Nat → ClassId) (sz : Nat)  (v lo hi : Int32)   : Met l yX5_isKind (px_w yX5_isKind cX5_isKind 3 (some .boolean)) (rmd 1 0 0) (px_P D cy [.int v, .int lo, .int hi] sz (fun _ => True)) (px_V (some (.int (b2i (f_in v lo hi))))) 0 0 (fun _ => False) := by
  refine px_met (by decide) (Nat.le_of_ble_eq_true rfl) ?_
  intro p e s m below meth c F hr hlocks hnm hK hsz hR ls hl
  have hx := F.1
  have hb := F.2.1
  have hl : lv_has ls 3 [(0, .int v), (1, .int lo), (2, .int hi)] := hl
  refine lv_iload_n hx hb dX5_isKind_0 rfl (lv_at hl 0 rfl) ?_
  refine lv_iload_n hx hb dX5_isKind_1 rfl (lv_at hl 1 rfl) ?_
  refine lv_icmp_lt (tgt := 14) hx hb dX5_isKind_2 (by decide) (fun h_2 => ?_) (fun h_2 => ?_)
  · refine lv_iconst (v := 0) hx hb dX5_isKind_14 (by decide) ?_
    exact pv_zret F hr hlocks (Or.inl rfl) (by simp [f_in, b2i, h_2]) dX5_isKind_15
  · refine lv_iload_n hx hb dX5_isKind_5 rfl (lv_at hl 0 rfl) ?_
    refine lv_iload_n hx hb dX5_isKind_6 rfl (lv_at hl 2 rfl) ?_
    refine lv_icmp_gt (tgt := 14) hx hb dX5_isKind_7 (by decide) (fun h_7 => ?_) (fun h_7 => ?_)
    · refine lv_iconst (v := 0) hx hb dX5_isKind_14 (by decide) ?_
      exact pv_zret F hr hlocks (Or.inl rfl) (by simp [f_in, b2i, h_2, h_7]) dX5_isKind_15
    · refine lv_iconst (v := 1) hx hb dX5_isKind_10 (by decide) ?_
      refine lv_goto (tgt := 15) hx hb dX5_isKind_11 (by decide) ?_
      exact pv_zret F hr hlocks (Or.inr rfl) (by simp [f_in, b2i, h_2, h_7]) dX5_isKind_15
set_option maxHeartbeats 400000 in
set_option maxRecDepth 100000 in
theorem c_X5_against (l : Launch) (D : va_G) (cy : Nat → ClassId) (sz : Nat)  (v : Int32)   : Met l yX5_against (px_w yX5_against cX5_against 1 (some .int)) (rmd 1 0 0) (px_P D cy [.int v] sz (fun _ => True)) (px_V (some (.int (-10 - v)))) 0 0 (fun _ => False) := by
  refine px_met (by decide) (Nat.le_of_ble_eq_true rfl) ?_
  intro p e s m below meth c F hr hlocks hnm hK hsz hR ls hl
  have hx := F.1
  have hb := F.2.1
  have hl : lv_has ls 1 [(0, .int v)] := hl
  refine lv_bipush (v := -10) hx hb dX5_against_0 (by decide) ?_
  refine lv_iload_n hx hb dX5_against_2 rfl (lv_at hl 0 rfl) ?_
  refine lv_isub hx hb dX5_against_3 ?_
  exact pv_iret F hr hlocks (by rfl) dX5_against_4
set_option maxHeartbeats 400000 in
set_option maxRecDepth 100000 in
theorem c_X5_isFull (l : Launch) (D : va_G) (cy : Nat → ClassId) (A : Nat → Prop) (r : RS) (g : CG) (sz : Nat)    (hN : rN r < 13000) : Met l yX5_isFull (px_w yX5_isFull cX5_isFull 1 (some .boolean)) (rmd 1 0 0) (px_P D cy [.ref (gA g 0)] sz (CR D cy A r g)) (px_V (some (.int (b2i (decide (6000 ≤ rN r)))))) 0 0 (fun _ => False) := by
  refine px_met (by decide) (Nat.le_of_ble_eq_true rfl) ?_
  intro p e s m below meth c F hr hlocks hnm hK hsz hR ls hl
  have hx := F.1
  have hb := F.2.1
  have hl : lv_has ls 1 [(0, .ref (gA g 0))] := hl
  refine lv_aload_n hx hb dX5_isFull_0 rfl (lv_at hl 0 rfl) ?_
  refine c_gx F hK hR 2 (by decide) rfl kw_fieldLink_RX5_149 dX5_isFull_1 ?_
  refine lv_sipush (v := 6000) hx hb dX5_isFull_4 (by decide) ?_
  refine lv_icmp_lt (tgt := 14) hx hb dX5_isFull_7 (by decide) (fun h_7 => ?_) (fun h_7 => ?_)
  · have h_7 : (rN r) < 6000 := nIlt (show nI (rN r) < nI 6000 from h_7) (by omega) (by omega)
    refine lv_iconst (v := 0) hx hb dX5_isFull_14 (by decide) ?_
    exact pv_zret F hr hlocks (Or.inl rfl) (by simp [b2i]; omega) dX5_isFull_15
  · have h_7 : 6000 ≤ (rN r) := nInlt (show ¬ nI (rN r) < nI 6000 from h_7) (by omega) (by omega)
    refine lv_iconst (v := 1) hx hb dX5_isFull_10 (by decide) ?_
    refine lv_goto (tgt := 15) hx hb dX5_isFull_11 (by decide) ?_
    exact pv_zret F hr hlocks (Or.inr rfl) (by simp [b2i]; omega) dX5_isFull_15
set_option maxHeartbeats 400000 in
set_option maxRecDepth 100000 in
theorem c_X5_fits (l : Launch) (D : va_G) (cy : Nat → ClassId) (A : Nat → Prop) (r : RS) (g : CG) (sz : Nat) (t : Nat) (vt : Value) (k : Int32) (hvt : vt = va_rf (c_col (gA g) t)) (ht_t : t ≤ rT r) (hK1 : rK r t < 100) : Met l yX5_fits (px_w yX5_fits cX5_fits 2 (some .boolean)) (rmd 1 0 0) (px_P D cy [vt, .int k] sz (CR D cy A r g)) (px_V (some (.int (b2i (f_fit r t k))))) 0 0 (fun _ => False) := by
  by_cases h0_t : t = 0
  · have e_vt : vt = .null := (hvt.trans (col_0 h0_t).symm)
    subst e_vt
    refine px_met (by decide) (Nat.le_of_ble_eq_true rfl) ?_
    intro p e s m below meth c F hr hlocks hnm hK hsz hR ls hl
    have hx := F.1
    have hb := F.2.1
    have hl : lv_has ls 2 [(0, .null), (1, .int k)] := hl
    refine lv_aload_nN hx hb dX5_fits_0 rfl (lv_at hl 0 rfl) ?_
    refine lv_ifnullN (tgt := 27) hx hb dX5_fits_1 (by decide) ?_
    refine lv_iconst (v := 1) hx hb dX5_fits_27 (by decide) ?_
    refine lv_goto (tgt := 32) hx hb dX5_fits_28 (by decide) ?_
    exact pv_zret F hr hlocks (Or.inr rfl) (by simp [f_fit, b2i, h0_t]) dX5_fits_32
  · have e_vt : vt = .ref (gA g (3 * t)) := (hvt.trans (col_t h0_t).symm)
    subst e_vt
    refine px_met (by decide) (Nat.le_of_ble_eq_true rfl) ?_
    intro p e s m below meth c F hr hlocks hnm hK hsz hR ls hl
    have hx := F.1
    have hb := F.2.1
    have hl : lv_has ls 2 [(0, .ref (gA g (3 * t))), (1, .int k)] := hl
    refine lv_aload_n hx hb dX5_fits_0 rfl (lv_at hl 0 rfl) ?_
    refine lv_ifnull hx hb dX5_fits_1 ?_
    refine lv_aload_n hx hb dX5_fits_4 rfl (lv_at hl 0 rfl) ?_
    refine c_gt F hK hR (t := t) (by omega) (show t ≤ rT r by omega) 0 (by decide) rfl kw_fieldLink_RX5_57 (fun _ h => h) dX5_fits_5 ?_
    refine lv_iload_n hx hb dX5_fits_8 rfl (lv_at hl 1 rfl) ?_
    refine lv_icmp_eq (tgt := 27) hx hb dX5_fits_9 (by decide) (fun h_9 => ?_) (fun h_9 => ?_)
    · refine lv_iconst (v := 1) hx hb dX5_fits_27 (by decide) ?_
      refine lv_goto (tgt := 32) hx hb dX5_fits_28 (by decide) ?_
      exact pv_zret F hr hlocks (Or.inr rfl) (by simp [f_fit, b2i, h0_t, h_9]) dX5_fits_32
    · refine lv_iload_n hx hb dX5_fits_12 rfl (lv_at hl 1 rfl) ?_
      refine lv_bipush (v := 8) hx hb dX5_fits_13 (by decide) ?_
      refine lv_icmp_ne (tgt := 31) hx hb dX5_fits_15 (by decide) (fun h_15 => ?_) (fun h_15 => ?_)
      · have h_15 : ¬ k = 8 := h_15
        refine lv_iconst (v := 0) hx hb dX5_fits_31 (by decide) ?_
        exact pv_zret F hr hlocks (Or.inl rfl) (by simp [f_fit, b2i, h0_t, h_9, h_15]) dX5_fits_32
      · have h_15 : k = 8 := h_15
        refine lv_aload_n hx hb dX5_fits_18 rfl (lv_at hl 0 rfl) ?_
        refine c_gt F hK hR (t := t) (by omega) (show t ≤ rT r by omega) 0 (by decide) rfl kw_fieldLink_RX5_57 (fun _ h => h) dX5_fits_19 ?_
        refine lv_bipush (v := 9) hx hb dX5_fits_22 (by decide) ?_
        refine lv_icmp_ne (tgt := 31) hx hb dX5_fits_24 (by decide) (fun h_24 => ?_) (fun h_24 => ?_)
        · have h_24 : ¬ (rK r t) = 9 := nIne (show ¬ nI (rK r t) = nI 9 from h_24)
          refine lv_iconst (v := 0) hx hb dX5_fits_31 (by decide) ?_
          exact pv_zret F hr hlocks (Or.inl rfl) (by rw [h_15] at h_9; simp [f_fit, b2i, h0_t, h_9, h_15, h_24]) dX5_fits_32
        · have h_24 : (rK r t) = 9 := nIeq (show nI (rK r t) = nI 9 from h_24) (by omega) (by omega)
          refine lv_iconst (v := 1) hx hb dX5_fits_27 (by decide) ?_
          refine lv_goto (tgt := 32) hx hb dX5_fits_28 (by decide) ?_
          exact pv_zret F hr hlocks (Or.inr rfl) (by simp [f_fit, b2i, h0_t, h_9, h_15, h_24]) dX5_fits_32
set_option maxHeartbeats 400000 in
set_option maxRecDepth 100000 in
theorem c_X0_count (l : Launch) (D : va_G) (cy : Nat → ClassId) (A : Nat → Prop) (r : RS) (g : CG) (sz : Nat)  (t : Nat)  (h0 : t ≠ 0) (ht : t ≤ rT r) (hk8 : 8 ≤ rK r t) : Met l yX0_count (px_w yX0_count cX0_count 1 (some .int)) (rmd 1 0 0) (px_P D cy [.ref (gA g (3 * t))] sz (CR D cy A r g)) (px_V (some (.int (nI (rMn r t))))) 0 0 (fun _ => False) := by
  refine px_met (by decide) (Nat.le_of_ble_eq_true rfl) ?_
  intro p e s m below meth c F hr hlocks hnm hK hsz hR ls hl
  have hx := F.1
  have hb := F.2.1
  have hl : lv_has ls 1 [(0, .ref (gA g (3 * t)))] := hl
  refine lv_aload_n hx hb dX0_count_0 rfl (lv_at hl 0 rfl) ?_
  refine c_gitems F hK hR (t := t) (by omega) (show t ≤ rT r by omega) (show 8 ≤ rK r t by omega) kw_fieldLink_RX0_9 dX0_count_1 ?_
  refine c_lenb F hK hR (t := t) (by omega) (show t ≤ rT r by omega) dX0_count_4 ?_
  exact pv_iret F hr hlocks (by rfl) dX0_count_5
set_option maxHeartbeats 400000 in
set_option maxRecDepth 100000 in
theorem c_X2_count (l : Launch) (D : va_G) (cy : Nat → ClassId) (A : Nat → Prop) (r : RS) (g : CG) (sz : Nat)  (t : Nat)  (h0 : t ≠ 0) (ht : t ≤ rT r) (hk8 : rK r t < 8) : Met l yX2_count (px_w yX2_count cX2_count 1 (some .int)) (rmd 1 0 0) (px_P D cy [.ref (gA g (3 * t))] sz (CR D cy A r g)) (px_V (some (.int (nI (rMn r t))))) 0 0 (fun _ => False) := by
  refine px_met (by decide) (Nat.le_of_ble_eq_true rfl) ?_
  intro p e s m below meth c F hr hlocks hnm hK hsz hR ls hl
  have hx := F.1
  have hb := F.2.1
  have hl : lv_has ls 1 [(0, .ref (gA g (3 * t)))] := hl
  refine lv_aload_n hx hb dX2_count_0 rfl (lv_at hl 0 rfl) ?_
  refine c_gbits F hK hR (t := t) (by omega) (show t ≤ rT r by omega) (show rK r t < 8 by omega) kw_fieldLink_RX2_7 dX2_count_1 ?_
  refine c_lenb F hK hR (t := t) (by omega) (show t ≤ rT r by omega) dX2_count_4 ?_
  exact pv_iret F hr hlocks (by rfl) dX2_count_5
section CN
variable {p : Program} {l : Launch} {e : Env} {R : Room} {s : State} {m : MethodId} {args : Array Value} {below : List Frame} {meth : Method} {c : Code} {H : Heap} {locs : List Loc} {cells slots : Nat} {Q : State → Prop} {cc : ByteArray} {pc nL : Nat} {ls : Array Slot} {rest : List Value} {D : va_G} {cy : Nat → ClassId} {A : Nat → Prop} {r : RS} {g : CG}
theorem c_cnt (F : px_F p m c cc nL s args RX5) (hK : KK D cy s) (hC : CR D cy A r g H) {t : Nat} (h0 : t ≠ 0) (ht : t ≤ rT r) (hR : 2 ≤ R.frames ∧ 60 ≤ R.locals) (hl : ls.size = nL) (hr : (rest.map fun v => v.category).sum ≤ 8) (hf : cells ≤ R.cells ∧ slots ≤ R.slots) (hdg : decode cc pc = .ok (.invokevirtual 64, 3)) (kk : W p l e R s m args below meth c H locs cells slots Q (F0 m (pc + 3) ls (.int (nI (rMn r t)) :: rest))) : W p l e R s m args below meth c H locs cells slots Q (F0 m pc ls (.ref (gA g (3 * t)) :: rest)) := by
  obtain ⟨hx, hb, hml, hown, hts⟩ := F
  by_cases hk : rK r t < 8
  · have cw : va_CU R s args RX5 RX2 RX3 64 ⟨RX3, "count", "()I"⟩ yX2_count cX2_count 1 (some .int) (px_w yX2_count cX2_count 1 (some .int)) (rmd 1 0 0) 0 0 0 := ⟨⟨rfl, rfl, hR.1, hR.2, pay_in hts (px_gin (fun _ h => h) kw_code_yX2_count), List.mem_cons_self⟩, hts _ kw_code_yX2_count, hts _ kw_initialized_RX2, ⟨by decide, by decide⟩, fun sig h => by cases h; rfl, hts _ kw_methodLink_RX5_64, hts _ kw_sameMethod_Table_Table_count_I, va_Decl.abs hK.2.2.2.2.1, hts _ kw_selects_RX2_Table_count_yX2_count, hts _ kw_instanceMethod_yX2_count⟩
    refine px_goV (st1 := .int (nI (rMn r t)) :: rest) (va_runU (As := []) ⟨hx, hb, hml, hown, hts⟩ (c_X2_count l D cy A r g H.size t h0 ht hk) cw ⟨px_P.blind, c_rP hK hC h0 ht hk, fun U hU hW => ⟨rfl, by rw [hU], by rw [hU]; exact hC, hK.warm hW⟩⟩ rfl rfl hl rfl (lv_room hr) hdg hf) rfl kk
  · have hk' : 8 ≤ rK r t := by omega
    have cw : va_CU R s args RX5 RX0 RX3 64 ⟨RX3, "count", "()I"⟩ yX0_count cX0_count 1 (some .int) (px_w yX0_count cX0_count 1 (some .int)) (rmd 1 0 0) 0 0 0 := ⟨⟨rfl, rfl, hR.1, hR.2, pay_in hts (px_gin (fun _ h => h) kw_code_yX0_count), List.mem_cons_self⟩, hts _ kw_code_yX0_count, hts _ kw_initialized_RX0, ⟨by decide, by decide⟩, fun sig h => by cases h; rfl, hts _ kw_methodLink_RX5_64, hts _ kw_sameMethod_Table_Table_count_I, va_Decl.abs hK.2.2.2.2.1, hts _ kw_selects_RX0_Table_count_yX0_count, hts _ kw_instanceMethod_yX0_count⟩
    refine px_goV (st1 := .int (nI (rMn r t)) :: rest) (va_runU (As := []) ⟨hx, hb, hml, hown, hts⟩ (c_X0_count l D cy A r g H.size t h0 ht hk') cw ⟨px_P.blind, c_rH hK hC h0 ht hk', fun U hU hW => ⟨rfl, by rw [hU], by rw [hU]; exact hC, hK.warm hW⟩⟩ rfl rfl hl rfl (lv_room hr) hdg hf) rfl kk
end CN
set_option maxHeartbeats 400000 in
set_option maxRecDepth 100000 in
theorem c_X5_faultAt (l : Launch) (D : va_G) (cy : Nat → ClassId) (A : Nat → Prop) (r : RS) (g : CG) (sz : Nat) (t : Nat) (vt : Value) (i : Int32) (hvt : vt = va_rf (c_col (gA g) t)) (ht_t : t ≤ rT r) (hM30 : rMn r t ≤ 30) : Met l yX5_faultAt (px_w yX5_faultAt cX5_faultAt 2 (some .int)) (rmd 2 0 0) (px_P D cy [vt, .int i] sz (CR D cy A r g)) (px_V (some (.int (nI (f_looked r t i))))) 0 0 (fun _ => False) := by
  by_cases h0_t : t = 0
  · have e_vt : vt = .null := (hvt.trans (col_0 h0_t).symm)
    subst e_vt
    refine px_met (by decide) (Nat.le_of_ble_eq_true rfl) ?_
    intro p e s m below meth c F hr hlocks hnm hK hsz hR ls hl
    have hx := F.1
    have hb := F.2.1
    have hl : lv_has ls 2 [(0, .null), (1, .int i)] := hl
    refine lv_aload_nN hx hb dX5_faultAt_0 rfl (lv_at hl 0 rfl) ?_
    refine lv_ifnonnullN hx hb dX5_faultAt_1 ?_
    refine lv_iconst (v := 1) hx hb dX5_faultAt_4 (by decide) ?_
    exact pv_iret F hr hlocks (by simp [f_looked, h0_t] <;> rfl) dX5_faultAt_5
  · have e_vt : vt = .ref (gA g (3 * t)) := (hvt.trans (col_t h0_t).symm)
    subst e_vt
    refine px_met (by decide) (Nat.le_of_ble_eq_true rfl) ?_
    intro p e s m below meth c F hr hlocks hnm hK hsz hR ls hl
    have hx := F.1
    have hb := F.2.1
    have hl : lv_has ls 2 [(0, .ref (gA g (3 * t))), (1, .int i)] := hl
    refine lv_aload_n hx hb dX5_faultAt_0 rfl (lv_at hl 0 rfl) ?_
    refine lv_ifnonnull (tgt := 6) hx hb dX5_faultAt_1 (by decide) ?_
    refine lv_iload_n hx hb dX5_faultAt_6 rfl (lv_at hl 1 rfl) ?_
    refine lv_if_lt (tgt := 22) hx hb dX5_faultAt_7 (by decide) (fun h_7 => ?_) (fun h_7 => ?_)
    · refine lv_iconst (v := 3) hx hb dX5_faultAt_22 (by decide) ?_
      exact pv_iret F hr hlocks (by rw [looked_neg h0_t h_7]; rfl) dX5_faultAt_23
    · refine lv_iload_n hx hb dX5_faultAt_10 rfl (lv_at hl 1 rfl) ?_
      refine lv_aload_n hx hb dX5_faultAt_11 rfl (lv_at hl 0 rfl) ?_
      refine c_cnt F hK hR (t := t) (by omega) (show t ≤ rT r by omega) ⟨Nat.le_of_ble_eq_true rfl, Nat.le_of_ble_eq_true rfl⟩ hl.1 (Nat.le_of_ble_eq_true rfl) ⟨Nat.zero_le _, Nat.zero_le _⟩ dX5_faultAt_12 ?_
      refine lv_icmp_ge (tgt := 22) hx hb dX5_faultAt_15 (by decide) (fun h_15 => ?_) (fun h_15 => ?_)
      · have h_15 : ¬ i < (nI (rMn r t)) := Int32.not_lt.mpr h_15
        refine lv_iconst (v := 3) hx hb dX5_faultAt_22 (by decide) ?_
        exact pv_iret F hr hlocks (by rw [looked_big h0_t hM30 h_15]; rfl) dX5_faultAt_23
      · have h_15 : i < (nI (rMn r t)) := Int32.not_le.mp h_15
        refine lv_iconst (v := 0) hx hb dX5_faultAt_18 (by decide) ?_
        refine lv_goto (tgt := 23) hx hb dX5_faultAt_19 (by decide) ?_
        exact pv_iret F hr hlocks (by rw [looked_in h0_t hM30 h_7 h_15]; rfl) dX5_faultAt_23
set_option maxHeartbeats 400000 in
set_option maxRecDepth 100000 in
theorem c_X5_faultTaken (l : Launch) (D : va_G) (cy : Nat → ClassId) (A : Nat → Prop) (r : RS) (g : CG) (sz : Nat) (t : Nat) (vt : Value) (k i : Int32) (hvt : vt = va_rf (c_col (gA g) t)) (ht_t : t ≤ rT r) (hK1 : rK r t < 100) (hM30 : rMn r t ≤ 30) (hK0 : rK r 0 < 100) (hM0 : rMn r 0 ≤ 30) : Met l yX5_faultTaken (px_w yX5_faultTaken cX5_faultTaken 3 (some .int)) (rmd 3 0 0) (px_P D cy [vt, .int k, .int i] sz (CR D cy A r g)) (px_V (some (.int (nI (if f_fit r t k then f_looked r t i else 2))))) 0 0 (fun _ => False) := by
  by_cases h0_t : t = 0
  · have e_vt : vt = .null := (hvt.trans (col_0 h0_t).symm)
    subst e_vt
    refine px_met (by decide) (Nat.le_of_ble_eq_true rfl) ?_
    intro p e s m below meth c F hr hlocks hnm hK hsz hR ls hl
    have hx := F.1
    have hb := F.2.1
    have hl : lv_has ls 3 [(0, .null), (1, .int k), (2, .int i)] := hl
    refine lv_aload_nN hx hb dX5_faultTaken_0 rfl (lv_at hl 0 rfl) ?_
    refine lv_iload_n hx hb dX5_faultTaken_1 rfl (lv_at hl 1 rfl) ?_
    refine px_goV (st1 := [.int (b2i (f_fit r 0 k))]) (px_callS F hK (c_X5_fits l D cy A r g _ 0 .null k (col_0 rfl) (Nat.zero_le _) (by omega)) kc_X5_fits kw_methodLink_RX5_60 rfl hR rfl ⟨rfl, rfl⟩ ⟨Nat.le_of_ble_eq_true rfl, Nat.le_of_ble_eq_true rfl⟩ hl.1 rfl (Nat.le_of_ble_eq_true rfl) dX5_faultTaken_2 ⟨Nat.zero_le _, Nat.zero_le _⟩) rfl ?_
    refine x_ifeq_b (tgt := 16) hx hb dX5_faultTaken_5 (by decide) (fun h_5 => ?_) (fun h_5 => ?_)
    · refine lv_iconst (v := 2) hx hb dX5_faultTaken_16 (by decide) ?_
      exact pv_iret F hr hlocks (by rw [h0_t, h_5]; rfl) dX5_faultTaken_17
    · refine lv_aload_nN hx hb dX5_faultTaken_8 rfl (lv_at hl 0 rfl) ?_
      refine lv_iload_n hx hb dX5_faultTaken_9 rfl (lv_at hl 2 rfl) ?_
      refine px_goV (st1 := [.int (nI (f_looked r 0 i))]) (px_callS F hK (c_X5_faultAt l D cy A r g _ 0 .null i (col_0 rfl) (Nat.zero_le _) (by omega)) kc_X5_faultAt kw_methodLink_RX5_108 rfl hR rfl ⟨rfl, rfl⟩ ⟨Nat.le_of_ble_eq_true rfl, Nat.le_of_ble_eq_true rfl⟩ hl.1 rfl (Nat.le_of_ble_eq_true rfl) dX5_faultTaken_10 ⟨Nat.zero_le _, Nat.zero_le _⟩) rfl ?_
      refine lv_goto (tgt := 17) hx hb dX5_faultTaken_13 (by decide) ?_
      exact pv_iret F hr hlocks (by rw [h0_t, h_5]; rfl) dX5_faultTaken_17
  · have e_vt : vt = .ref (gA g (3 * t)) := (hvt.trans (col_t h0_t).symm)
    subst e_vt
    refine px_met (by decide) (Nat.le_of_ble_eq_true rfl) ?_
    intro p e s m below meth c F hr hlocks hnm hK hsz hR ls hl
    have hx := F.1
    have hb := F.2.1
    have hl : lv_has ls 3 [(0, .ref (gA g (3 * t))), (1, .int k), (2, .int i)] := hl
    refine lv_aload_n hx hb dX5_faultTaken_0 rfl (lv_at hl 0 rfl) ?_
    refine lv_iload_n hx hb dX5_faultTaken_1 rfl (lv_at hl 1 rfl) ?_
    refine px_goV (st1 := [.int (b2i (f_fit r t k))]) (px_callS F hK (c_X5_fits l D cy A r g _ t (.ref (gA g (3 * t))) k (col_t (by omega)) (by omega) (by omega)) kc_X5_fits kw_methodLink_RX5_60 rfl hR rfl ⟨rfl, rfl⟩ ⟨Nat.le_of_ble_eq_true rfl, Nat.le_of_ble_eq_true rfl⟩ hl.1 rfl (Nat.le_of_ble_eq_true rfl) dX5_faultTaken_2 ⟨Nat.zero_le _, Nat.zero_le _⟩) rfl ?_
    refine x_ifeq_b (tgt := 16) hx hb dX5_faultTaken_5 (by decide) (fun h_5 => ?_) (fun h_5 => ?_)
    · refine lv_iconst (v := 2) hx hb dX5_faultTaken_16 (by decide) ?_
      exact pv_iret F hr hlocks (by rw [h_5]; rfl) dX5_faultTaken_17
    · refine lv_aload_n hx hb dX5_faultTaken_8 rfl (lv_at hl 0 rfl) ?_
      refine lv_iload_n hx hb dX5_faultTaken_9 rfl (lv_at hl 2 rfl) ?_
      refine px_goV (st1 := [.int (nI (f_looked r t i))]) (px_callS F hK (c_X5_faultAt l D cy A r g _ t (.ref (gA g (3 * t))) i (col_t (by omega)) (by omega) (by omega)) kc_X5_faultAt kw_methodLink_RX5_108 rfl hR rfl ⟨rfl, rfl⟩ ⟨Nat.le_of_ble_eq_true rfl, Nat.le_of_ble_eq_true rfl⟩ hl.1 rfl (Nat.le_of_ble_eq_true rfl) dX5_faultTaken_10 ⟨Nat.zero_le _, Nat.zero_le _⟩) rfl ?_
      refine lv_goto (tgt := 17) hx hb dX5_faultTaken_13 (by decide) ?_
      exact pv_iret F hr hlocks (by rw [h_5]; rfl) dX5_faultTaken_17
set_option maxHeartbeats 400000 in
set_option maxRecDepth 100000 in
theorem c_X5_itemAt (l : Launch) (D : va_G) (cy : Nat → ClassId) (A : Nat → Prop) (r : RS) (g : CG) (sz : Nat) (t : Nat) (vt : Value) (i : Int32) (hvt : vt = va_rf (c_col (gA g) t)) (ht_t : t ≤ rT r) (hM30 : rMn r t ≤ 30) : Met l yX5_itemAt (px_w yX5_itemAt cX5_itemAt 3 (some (.object "PlanCopies$Item"))) (rmd 1 0 0) (px_P D cy [vt, .int i] sz (CR D cy A r g)) (px_V (some (va_rf (c_item (gA g) r t i)))) 0 0 (fun _ => False) := by
  by_cases h0_t : t = 0
  · have e_vt : vt = .null := (hvt.trans (col_0 h0_t).symm)
    subst e_vt
    refine px_met (by decide) (Nat.le_of_ble_eq_true rfl) ?_
    intro p e s m below meth c F hr hlocks hnm hK hsz hR ls hl
    have hx := F.1
    have hb := F.2.1
    have hl : lv_has ls 3 [(0, .null), (1, .int i)] := hl
    refine lv_aload_nN hx hb dX5_itemAt_0 rfl (lv_at hl 0 rfl) ?_
    refine lv_instN hx hb dX5_itemAt_1 ?_
    refine lv_if_eq (tgt := 32) hx hb dX5_itemAt_4 (by decide) (fun _ => ?_) (fun h => absurd h (by decide))
    refine lv_null hx hb dX5_itemAt_32 ?_
    exact pv_aret (x := none) F hr hlocks (by simp [c_item, h0_t]) dX5_itemAt_33
  · have e_vt : vt = .ref (gA g (3 * t)) := (hvt.trans (col_t h0_t).symm)
    subst e_vt
    refine px_met (by decide) (Nat.le_of_ble_eq_true rfl) ?_
    intro p e s m below meth c F hr hlocks hnm hK hsz hR ls hl
    have hx := F.1
    have hb := F.2.1
    have hl : lv_has ls 3 [(0, .ref (gA g (3 * t))), (1, .int i)] := hl
    refine lv_aload_n hx hb dX5_itemAt_0 rfl (lv_at hl 0 rfl) ?_
    refine c_iH F hK hR (t := t) (by omega) (show t ≤ rT r by omega) kw_classLink_RX5_158 dX5_itemAt_1 ?_
    refine x_ifeq_b (tgt := 32) hx hb dX5_itemAt_4 (by decide) (fun h_4 => ?_) (fun h_4 => ?_)
    · have h_4 : ¬ (8 ≤ rK r t) := of_decide_eq_false h_4
      refine lv_null hx hb dX5_itemAt_32 ?_
      exact pv_aret (x := none) F hr hlocks (by rw [show c_item (gA g) r t i = none from if_pos (Or.inr (Or.inl (by omega)))]) dX5_itemAt_33
    · have h_4 : 8 ≤ rK r t := of_decide_eq_true h_4
      refine lv_aload_n hx hb dX5_itemAt_7 rfl (lv_at hl 0 rfl) ?_
      refine c_cH F hK hR (t := t) (by omega) (show t ≤ rT r by omega) (show 8 ≤ rK r t by omega) kw_classLink_RX5_158 dX5_itemAt_8 ?_
      refine lv_astore_n (lv' := [(2, .ref (gA g (3 * t))), (0, .ref (gA g (3 * t))), (1, .int i)]) hx hb dX5_itemAt_11 rfl hl (by decide) rfl (fun ls hl => ?_)
      refine lv_iload_n hx hb dX5_itemAt_12 rfl (lv_at hl 2 rfl) ?_
      refine lv_if_lt (tgt := 32) hx hb dX5_itemAt_13 (by decide) (fun h_13 => ?_) (fun h_13 => ?_)
      · refine lv_null hx hb dX5_itemAt_32 ?_
        exact pv_aret (x := none) F hr hlocks (by rw [show c_item (gA g) r t i = none from if_pos (Or.inr (Or.inr (by rw [looked_neg h0_t h_13]; decide)))]) dX5_itemAt_33
      · refine lv_iload_n hx hb dX5_itemAt_16 rfl (lv_at hl 2 rfl) ?_
        refine lv_aload_n hx hb dX5_itemAt_17 rfl (lv_at hl 0 rfl) ?_
        refine c_gitems F hK hR (t := t) (by omega) (show t ≤ rT r by omega) (show 8 ≤ rK r t by omega) kw_fieldLink_RX5_179 dX5_itemAt_18 ?_
        refine c_lenb F hK hR (t := t) (by omega) (show t ≤ rT r by omega) dX5_itemAt_21 ?_
        refine lv_icmp_ge (tgt := 32) hx hb dX5_itemAt_22 (by decide) (fun h_22 => ?_) (fun h_22 => ?_)
        · have h_22 : ¬ i < (nI (rMn r t)) := Int32.not_lt.mpr h_22
          refine lv_null hx hb dX5_itemAt_32 ?_
          exact pv_aret (x := none) F hr hlocks (by rw [show c_item (gA g) r t i = none from if_pos (Or.inr (Or.inr (by rw [looked_big h0_t hM30 h_22]; decide)))]) dX5_itemAt_33
        · have h_22 : i < (nI (rMn r t)) := Int32.not_le.mp h_22
          have hlk := looked_in h0_t hM30 h_13 h_22
          obtain ⟨_, j, hj, rfl⟩ := looked_0 hlk hM30
          refine lv_aload_n hx hb dX5_itemAt_25 rfl (lv_at hl 0 rfl) ?_
          refine c_gitems F hK hR (t := t) (by omega) (show t ≤ rT r by omega) (show 8 ≤ rK r t by omega) kw_fieldLink_RX5_179 dX5_itemAt_26 ?_
          refine lv_iload_n hx hb dX5_itemAt_29 rfl (lv_at hl 2 rfl) ?_
          refine c_lditem F hK hR (t := t) (by omega) (show t ≤ rT r by omega) (show 8 ≤ rK r t by omega) (show rMn r t < 2 ^ 31 by omega) j rfl (show j < rMn r t by omega) dX5_itemAt_30 ?_
          exact pv_aret (x := c_ref (gA g) (rK r t) (f_at r t j)) F hr hlocks (by rw [show c_item (gA g) r t (nI j) = c_ref (gA g) (rK r t) (f_at r t j) from (by unfold c_item; rw [if_neg (fun q => q.elim h0_t (fun q => q.elim (by omega) (fun q => q hlk))), ix_nI (by omega)])]) dX5_itemAt_31
