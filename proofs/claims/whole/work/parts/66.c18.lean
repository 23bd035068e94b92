/-! the class: the public methods, 1 -/
theorem cat_q (x : Option Nat) : (va_rf x).category = 1 := by cases x <;> rfl
section XQ
variable {p : Program} {l : Launch} {e : Env} {R : Room} {s : State} {m : MethodId} {args : Array Value} {below : List Frame} {meth : Method} {c : Code} {H : Heap} {locs : List Loc} {cells slots : Nat} {Q : State → Prop} {cc : ByteArray} {pc : Nat} {ls : Array Slot} {rest : List Value}
theorem x_aload_n_q (hexec : p.tables.exec = Jvm.exec) (hb : c.code = cc) {k : Fin 4} {i : Nat} {x : Option Nat} (hdg : decode cc pc = .ok (.aload_n k, 1)) (hi : (k : Nat) = i) (hl : ls[i]? = some (.val (va_rf x))) (kk : W p l e R s m args below meth c H locs cells slots Q (F0 m (pc + 1) ls (va_rf x :: rest))) : W p l e R s m args below meth c H locs cells slots Q (F0 m pc ls rest) := by
  cases x with
  | none => exact lv_aload_nN hexec hb hdg hi hl kk
  | some x => exact lv_aload_n hexec hb hdg hi hl kk
theorem x_aload_q (hexec : p.tables.exec = Jvm.exec) (hb : c.code = cc) {i : Nat} {x : Option Nat} (hdg : decode cc pc = .ok (.aload i, 2)) (hl : ls[i]? = some (.val (va_rf x))) (kk : W p l e R s m args below meth c H locs cells slots Q (F0 m (pc + 2) ls (va_rf x :: rest))) : W p l e R s m args below meth c H locs cells slots Q (F0 m pc ls rest) := by
  cases x with
  | none => exact lv_aloadN hexec hb hdg hl kk
  | some x => exact lv_aload hexec hb hdg hl kk
theorem x_astore_n_q (hexec : p.tables.exec = Jvm.exec) (hb : c.code = cc) {k : Fin 4} {i nL : Nat} {x : Option Nat} {lv lv' : List (Nat × Value)} (hdg : decode cc pc = .ok (.astore_n k, 1)) (hi : (k : Nat) = i) (h : lv_has ls nL lv) (hn : i < nL) (hl : (i, va_rf x) :: lv.filter (fun q => !(q.1 == i) && !(q.1 + 1 == i && q.2.category == 2)) = lv') (kk : ∀ ls : Array Slot, lv_has ls nL lv' → W p l e R s m args below meth c H locs cells slots Q (F0 m (pc + 1) ls rest)) : W p l e R s m args below meth c H locs cells slots Q (F0 m pc ls (va_rf x :: rest)) := by
  cases x with
  | none => exact lv_astore_nN hexec hb hdg hi h hn hl kk
  | some x => exact lv_astore_n hexec hb hdg hi h hn hl kk
theorem x_astore_q (hexec : p.tables.exec = Jvm.exec) (hb : c.code = cc) {i nL : Nat} {x : Option Nat} {lv lv' : List (Nat × Value)} (hdg : decode cc pc = .ok (.astore i, 2)) (h : lv_has ls nL lv) (hn : i < nL) (hl : (i, va_rf x) :: lv.filter (fun q => !(q.1 == i) && !(q.1 + 1 == i && q.2.category == 2)) = lv') (kk : ∀ ls : Array Slot, lv_has ls nL lv' → W p l e R s m args below meth c H locs cells slots Q (F0 m (pc + 2) ls rest)) : W p l e R s m args below meth c H locs cells slots Q (F0 m pc ls (va_rf x :: rest)) := by
  cases x with
  | none => exact lv_astoreN hexec hb hdg h hn hl kk
  | some x => exact lv_astore hexec hb hdg h hn hl kk
end XQ
theorem c_X5_fitsN (l : Launch) (D : va_G) (cy : Nat → ClassId) (A : Nat → Prop) (r : RS) (g : CG) (sz : Nat) (t : Nat) (vt : Value) (k : Nat) (hvt : vt = va_rf (c_col (gA g) t)) (ht_t : t ≤ rT r) (hK1 : rK r t < 100) (hk : k < 100) : Met l yX5_fits (px_w yX5_fits cX5_fits 2 (some .boolean)) (rmd 1 0 0) (px_P D cy [vt, .int (nI k)] sz (CR D cy A r g)) (px_V (some (.int (b2i (f_isOf r t k))))) 0 0 (fun _ => False) := by
  have h := c_X5_fits l D cy A r g sz t vt (nI k) hvt ht_t hK1
  rw [fit_nI hK1 hk] at h
  exact h
theorem c_X5_faultTakenN (l : Launch) (D : va_G) (cy : Nat → ClassId) (A : Nat → Prop) (r : RS) (g : CG) (sz : Nat) (t : Nat) (vt : Value) (k : Nat) (i : Int32) (hvt : vt = va_rf (c_col (gA g) t)) (ht_t : t ≤ rT r) (hK1 : rK r t < 100) (hM30 : rMn r t ≤ 30) (hK0 : rK r 0 < 100) (hM0 : rMn r 0 ≤ 30) (hk : k < 100) : Met l yX5_faultTaken (px_w yX5_faultTaken cX5_faultTaken 3 (some .int)) (rmd 3 0 0) (px_P D cy [vt, .int (nI k), .int i] sz (CR D cy A r g)) (px_V (some (.int (nI (f_no r t k i))))) 0 0 (fun _ => False) := by
  have h := c_X5_faultTaken l D cy A r g sz t vt (nI k) i hvt ht_t hK1 hM30 hK0 hM0
  rw [fit_nI hK1 hk] at h
  exact h
set_option maxHeartbeats 400000 in
set_option maxRecDepth 100000 in
theorem c_X5_share (l : Launch) (D : va_G) (cy : Nat → ClassId) (A : Nat → Prop) (r : RS) (g : CG) (sz : Nat)  (cl f : Int32)  {kk : Nat} (hI : Inv kk r) (hV : VR r) (hK9 : VK r) : Met l yX5_share (px_w yX5_share cX5_share 3 (some .int)) (rmd 9 0 0) (px_P D cy [.ref (gA g 0), .int cl, .int f] sz (CR D cy A r g)) (px_Q (px_Cx D cy A g (some (.int (f_share r cl f).2)) ((f_share r cl f).1)) A) 0 0 A := by
  refine px_met (by decide) (Nat.le_of_ble_eq_true rfl) ?_
  intro p e s m below meth c F hr hlocks hnm hK hsz hR ls hl
  have hx := F.1
  have hb := F.2.1
  have hS : va_S A s.heap s.heap [] := va_S.rf
  have hbd := hI.bd
  have hkb := hK9.k
  have hM0 := (hK9 0).2
  have hK0 := hkb 0
  have hl : lv_has ls 3 [(0, .ref (gA g 0)), (1, .int cl), (2, .int f)] := hl
  refine lv_iload_n hx hb dX5_share_0 rfl (lv_at hl 1 rfl) ?_
  refine px_goV (st1 := [.int (b2i (f_in cl 0 15))]) (px_callS F hK (c_X5_isColumn l D cy _ cl) kc_X5_isColumn kw_methodLink_RX5_22 rfl trivial rfl ⟨rfl, rfl⟩ ⟨Nat.le_of_ble_eq_true rfl, Nat.le_of_ble_eq_true rfl⟩ hl.1 rfl (Nat.le_of_ble_eq_true rfl) dX5_share_1 ⟨Nat.zero_le _, Nat.zero_le _⟩) rfl ?_
  refine x_ifeq_b (tgt := 14) hx hb dX5_share_4 (by decide) (fun h_4 => ?_) (fun h_4 => ?_)
  · refine lv_bipush (v := -2) hx hb dX5_share_14 (by decide) ?_
    exact px_iret F hr hlocks hS (by have e : f_share r cl f = (r, (-2)) := (by simp [f_share, h_4] <;> rfl); rw [e]; exact ⟨rfl, hR⟩) dX5_share_16
  · refine lv_iload_n hx hb dX5_share_7 rfl (lv_at hl 2 rfl) ?_
    refine px_goV (st1 := [.int (b2i (f_in f 0 15))]) (px_callS F hK (c_X5_isColumn l D cy _ f) kc_X5_isColumn kw_methodLink_RX5_22 rfl trivial rfl ⟨rfl, rfl⟩ ⟨Nat.le_of_ble_eq_true rfl, Nat.le_of_ble_eq_true rfl⟩ hl.1 rfl (Nat.le_of_ble_eq_true rfl) dX5_share_8 ⟨Nat.zero_le _, Nat.zero_le _⟩) rfl ?_
    refine x_ifne_b (tgt := 17) hx hb dX5_share_11 (by decide) (fun h_11 => ?_) (fun h_11 => ?_)
    · obtain ⟨cn, hl_cn, hh_cn, rfl⟩ := f_in_nat h_4 0 15 (by decide) (by decide) (by decide) (by decide)
      obtain ⟨fn, hl_fn, hh_fn, rfl⟩ := f_in_nat h_11 0 15 (by decide) (by decide) (by decide) (by decide)
      have hc0 := hI.hd fn (by omega)
      have hc1 := hI.tb _ hc0
      refine lv_aload_n hx hb dX5_share_17 rfl (lv_at hl 0 rfl) ?_
      refine c_gx F hK hR 0 (by decide) rfl kw_fieldLink_RX5_11 dX5_share_18 ?_
      refine lv_iload_n hx hb dX5_share_21 rfl (lv_at hl 1 rfl) ?_
      refine lv_aload_n hx hb dX5_share_22 rfl (lv_at hl 0 rfl) ?_
      refine c_gx F hK hR 0 (by decide) rfl kw_fieldLink_RX5_11 dX5_share_23 ?_
      refine lv_iload_n hx hb dX5_share_26 rfl (lv_at hl 2 rfl) ?_
      refine c_ldcol F hK hR fn rfl (by omega) dX5_share_27 ?_
      refine c_stcol F hK hR hS cn (rHd r fn) rfl rfl (show (rHd r fn) ≤ rT r by omega) (by omega) dX5_share_28 (fun H locs hR hS => ?_)
      refine lv_iconst (v := 1) hx hb dX5_share_29 (by decide) ?_
      exact px_iret F hr hlocks hS (by have e : f_share r (nI cn) (nI fn) = (sHd r (va_up (rHd r) cn (rHd r fn)), 1) := (by simp [f_share, h_4, h_11, ix_nI (show cn < 2 ^ 31 by omega), ix_nI (show fn < 2 ^ 31 by omega)] <;> rfl); rw [e]; exact ⟨rfl, hR⟩) dX5_share_30
    · refine lv_bipush (v := -2) hx hb dX5_share_14 (by decide) ?_
      exact px_iret F hr hlocks hS (by have e : f_share r cl f = (r, (-2)) := (by simp [f_share, h_4, h_11] <;> rfl); rw [e]; exact ⟨rfl, hR⟩) dX5_share_16
set_option maxHeartbeats 400000 in
set_option maxRecDepth 100000 in
theorem c_X5_drop (l : Launch) (D : va_G) (cy : Nat → ClassId) (A : Nat → Prop) (r : RS) (g : CG) (sz : Nat)  (cl : Int32)  {kk : Nat} (hI : Inv kk r) (hV : VR r) (hK9 : VK r) : Met l yX5_drop (px_w yX5_drop cX5_drop 3 (some .int)) (rmd 9 0 0) (px_P D cy [.ref (gA g 0), .int cl] sz (CR D cy A r g)) (px_Q (px_Cx D cy A g (some (.int (f_drop r cl).2)) ((f_drop r cl).1)) A) 0 0 A := by
  refine px_met (by decide) (Nat.le_of_ble_eq_true rfl) ?_
  intro p e s m below meth c F hr hlocks hnm hK hsz hR ls hl
  have hx := F.1
  have hb := F.2.1
  have hS : va_S A s.heap s.heap [] := va_S.rf
  have hbd := hI.bd
  have hkb := hK9.k
  have hM0 := (hK9 0).2
  have hK0 := hkb 0
  have hl : lv_has ls 3 [(0, .ref (gA g 0)), (1, .int cl)] := hl
  refine lv_iload_n hx hb dX5_drop_0 rfl (lv_at hl 1 rfl) ?_
  refine px_goV (st1 := [.int (b2i (f_in cl 0 15))]) (px_callS F hK (c_X5_isColumn l D cy _ cl) kc_X5_isColumn kw_methodLink_RX5_22 rfl trivial rfl ⟨rfl, rfl⟩ ⟨Nat.le_of_ble_eq_true rfl, Nat.le_of_ble_eq_true rfl⟩ hl.1 rfl (Nat.le_of_ble_eq_true rfl) dX5_drop_1 ⟨Nat.zero_le _, Nat.zero_le _⟩) rfl ?_
  refine x_ifne_b (tgt := 10) hx hb dX5_drop_4 (by decide) (fun h_4 => ?_) (fun h_4 => ?_)
  · obtain ⟨cn, hl_cn, hh_cn, rfl⟩ := f_in_nat h_4 0 15 (by decide) (by decide) (by decide) (by decide)
    have hc0 := hI.hd cn (by omega)
    have hc1 := hI.tb _ hc0
    refine lv_aload_n hx hb dX5_drop_10 rfl (lv_at hl 0 rfl) ?_
    refine c_gx F hK hR 0 (by decide) rfl kw_fieldLink_RX5_11 dX5_drop_11 ?_
    refine lv_iload_n hx hb dX5_drop_14 rfl (lv_at hl 1 rfl) ?_
    refine c_ldcol F hK hR cn rfl (by omega) dX5_drop_15 ?_
    by_cases h0_t : rHd r cn = 0
    · have e_t : va_rf (c_col (gA g) (rHd r cn)) = .null := (col_0 h0_t).symm
      refine W.eq (g2 := F0 m 16 ls [.null]) (by rw [e_t]) ?_
      refine lv_ifnullN (tgt := 23) hx hb dX5_drop_16 (by decide) ?_
      refine lv_iconst (v := 0) hx hb dX5_drop_23 (by decide) ?_
      refine lv_istore_n (lv' := [(2, .int 0), (0, .ref (gA g 0)), (1, .int (nI cn))]) hx hb dX5_drop_24 rfl hl (by decide) rfl (fun ls hl => ?_)
      refine lv_aload_n hx hb dX5_drop_25 rfl (lv_at hl 1 rfl) ?_
      refine c_gx F hK hR 0 (by decide) rfl kw_fieldLink_RX5_11 dX5_drop_26 ?_
      refine lv_iload_n hx hb dX5_drop_29 rfl (lv_at hl 2 rfl) ?_
      refine lv_null hx hb dX5_drop_30 ?_
      refine c_stcol F hK hR hS cn 0 rfl (col_0 rfl) (show 0 ≤ rT r by omega) (by omega) dX5_drop_31 (fun H locs hR hS => ?_)
      refine lv_iload_n hx hb dX5_drop_32 rfl (lv_at hl 0 rfl) ?_
      exact px_iret F hr hlocks hS (by have e : f_drop r (nI cn) = (sHd r (va_up (rHd r) cn 0), 0) := (by simp [f_drop, h_4, h0_t, ix_nI (show cn < 2 ^ 31 by omega)] <;> rfl); rw [e]; exact ⟨rfl, hR⟩) dX5_drop_33
    · have e_t : va_rf (c_col (gA g) (rHd r cn)) = .ref (gA g (3 * (rHd r cn))) := (col_t h0_t).symm
      refine W.eq (g2 := F0 m 16 ls [.ref (gA g (3 * (rHd r cn)))]) (by rw [e_t]) ?_
      refine lv_ifnull hx hb dX5_drop_16 ?_
      refine lv_iconst (v := 1) hx hb dX5_drop_19 (by decide) ?_
      refine lv_goto (tgt := 24) hx hb dX5_drop_20 (by decide) ?_
      refine lv_istore_n (lv' := [(2, .int 1), (0, .ref (gA g 0)), (1, .int (nI cn))]) hx hb dX5_drop_24 rfl hl (by decide) rfl (fun ls hl => ?_)
      refine lv_aload_n hx hb dX5_drop_25 rfl (lv_at hl 1 rfl) ?_
      refine c_gx F hK hR 0 (by decide) rfl kw_fieldLink_RX5_11 dX5_drop_26 ?_
      refine lv_iload_n hx hb dX5_drop_29 rfl (lv_at hl 2 rfl) ?_
      refine lv_null hx hb dX5_drop_30 ?_
      refine c_stcol F hK hR hS cn 0 rfl (col_0 rfl) (show 0 ≤ rT r by omega) (by omega) dX5_drop_31 (fun H locs hR hS => ?_)
      refine lv_iload_n hx hb dX5_drop_32 rfl (lv_at hl 0 rfl) ?_
      exact px_iret F hr hlocks hS (by have e : f_drop r (nI cn) = (sHd r (va_up (rHd r) cn 0), 1) := (by simp [f_drop, h_4, h0_t, ix_nI (show cn < 2 ^ 31 by omega)] <;> rfl); rw [e]; exact ⟨rfl, hR⟩) dX5_drop_33
  · refine lv_bipush (v := -2) hx hb dX5_drop_7 (by decide) ?_
    exact px_iret F hr hlocks hS (by have e : f_drop r cl = (r, (-2)) := (by simp [f_drop, h_4] <;> rfl); rw [e]; exact ⟨rfl, hR⟩) dX5_drop_9
set_option maxHeartbeats 400000 in
set_option maxRecDepth 100000 in
theorem c_X5_kind (l : Launch) (D : va_G) (cy : Nat → ClassId) (A : Nat → Prop) (r : RS) (g : CG) (sz : Nat)  (cl : Int32)  {kk : Nat} (hI : Inv kk r) (hV : VR r) (hK9 : VK r) : Met l yX5_kind (px_w yX5_kind cX5_kind 3 (some .int)) (rmd 9 0 0) (px_P D cy [.ref (gA g 0), .int cl] sz (CR D cy A r g)) (px_V (some (.int (f_kind r cl)))) 0 0 (fun _ => False) := by
  refine px_met (by decide) (Nat.le_of_ble_eq_true rfl) ?_
  intro p e s m below meth c F hr hlocks hnm hK hsz hR ls hl
  have hx := F.1
  have hb := F.2.1
  have hbd := hI.bd
  have hkb := hK9.k
  have hM0 := (hK9 0).2
  have hK0 := hkb 0
  have hl : lv_has ls 3 [(0, .ref (gA g 0)), (1, .int cl)] := hl
  refine lv_iload_n hx hb dX5_kind_0 rfl (lv_at hl 1 rfl) ?_
  refine px_goV (st1 := [.int (b2i (f_in cl 0 15))]) (px_callS F hK (c_X5_isColumn l D cy _ cl) kc_X5_isColumn kw_methodLink_RX5_22 rfl trivial rfl ⟨rfl, rfl⟩ ⟨Nat.le_of_ble_eq_true rfl, Nat.le_of_ble_eq_true rfl⟩ hl.1 rfl (Nat.le_of_ble_eq_true rfl) dX5_kind_1 ⟨Nat.zero_le _, Nat.zero_le _⟩) rfl ?_
  refine x_ifne_b (tgt := 10) hx hb dX5_kind_4 (by decide) (fun h_4 => ?_) (fun h_4 => ?_)
  · obtain ⟨cn, hl_cn, hh_cn, rfl⟩ := f_in_nat h_4 0 15 (by decide) (by decide) (by decide) (by decide)
    have hc0 := hI.hd cn (by omega)
    have hc1 := hI.tb _ hc0
    refine lv_aload_n hx hb dX5_kind_10 rfl (lv_at hl 0 rfl) ?_
    refine c_gx F hK hR 0 (by decide) rfl kw_fieldLink_RX5_11 dX5_kind_11 ?_
    refine lv_iload_n hx hb dX5_kind_14 rfl (lv_at hl 1 rfl) ?_
    refine c_ldcol F hK hR cn rfl (by omega) dX5_kind_15 ?_
    refine x_astore_n_q (lv' := [(2, va_rf (c_col (gA g) (rHd r cn))), (0, .ref (gA g 0)), (1, .int (nI cn))]) hx hb dX5_kind_16 rfl hl (by decide) rfl (fun ls hl => ?_)
    refine x_aload_n_q hx hb dX5_kind_17 rfl (lv_at hl 0 rfl) ?_
    by_cases h0_t : rHd r cn = 0
    · have e_t : va_rf (c_col (gA g) (rHd r cn)) = .null := (col_0 h0_t).symm
      have hl : lv_has ls 3 [(2, .null), (0, .ref (gA g 0)), (1, .int (nI cn))] := (by rw [e_t] at hl; exact hl)
      refine W.eq (g2 := F0 m 18 ls [.null]) (by rw [e_t]) ?_
      refine lv_ifnullN (tgt := 28) hx hb dX5_kind_18 (by decide) ?_
      refine lv_iconst (v := -1) hx hb dX5_kind_28 (by decide) ?_
      exact pv_iret F hr hlocks (by have e : f_kind r (nI cn) = (-1) := (by simp [f_kind, h_4, h0_t, ix_nI (show cn < 2 ^ 31 by omega)] <;> rfl); rw [e]) dX5_kind_29
    · have e_t : va_rf (c_col (gA g) (rHd r cn)) = .ref (gA g (3 * (rHd r cn))) := (col_t h0_t).symm
      have hl : lv_has ls 3 [(2, .ref (gA g (3 * (rHd r cn)))), (0, .ref (gA g 0)), (1, .int (nI cn))] := (by rw [e_t] at hl; exact hl)
      refine W.eq (g2 := F0 m 18 ls [.ref (gA g (3 * (rHd r cn)))]) (by rw [e_t]) ?_
      refine lv_ifnull hx hb dX5_kind_18 ?_
      refine lv_aload_n hx hb dX5_kind_21 rfl (lv_at hl 0 rfl) ?_
      refine c_gt F hK hR (t := (rHd r cn)) (by omega) (show (rHd r cn) ≤ rT r by omega) 0 (by decide) rfl kw_fieldLink_RX5_57 (fun _ h => h) dX5_kind_22 ?_
      refine lv_goto (tgt := 29) hx hb dX5_kind_25 (by decide) ?_
      exact pv_iret F hr hlocks (by have e : f_kind r (nI cn) = nI (rK r (rHd r cn)) := (by simp [f_kind, h_4, h0_t, ix_nI (show cn < 2 ^ 31 by omega)] <;> rfl); rw [e]) dX5_kind_29
  · refine lv_bipush (v := -2) hx hb dX5_kind_7 (by decide) ?_
    exact pv_iret F hr hlocks (by have e : f_kind r cl = (-2) := (by simp [f_kind, h_4] <;> rfl); rw [e]) dX5_kind_9
set_option maxHeartbeats 400000 in
set_option maxRecDepth 100000 in
theorem c_X5_length (l : Launch) (D : va_G) (cy : Nat → ClassId) (A : Nat → Prop) (r : RS) (g : CG) (sz : Nat)  (cl k : Int32)  {kk : Nat} (hI : Inv kk r) (hV : VR r) (hK9 : VK r) : Met l yX5_length (px_w yX5_length cX5_length 4 (some .int)) (rmd 9 0 0) (px_P D cy [.ref (gA g 0), .int cl, .int k] sz (CR D cy A r g)) (px_V (some (.int (f_length r cl k)))) 0 0 (fun _ => False) := by
  refine px_met (by decide) (Nat.le_of_ble_eq_true rfl) ?_
  intro p e s m below meth c F hr hlocks hnm hK hsz hR ls hl
  have hx := F.1
  have hb := F.2.1
  have hbd := hI.bd
  have hkb := hK9.k
  have hM0 := (hK9 0).2
  have hK0 := hkb 0
  have hl : lv_has ls 4 [(0, .ref (gA g 0)), (1, .int cl), (2, .int k)] := hl
  refine lv_iload_n hx hb dX5_length_0 rfl (lv_at hl 1 rfl) ?_
  refine px_goV (st1 := [.int (b2i (f_in cl 0 15))]) (px_callS F hK (c_X5_isColumn l D cy _ cl) kc_X5_isColumn kw_methodLink_RX5_22 rfl trivial rfl ⟨rfl, rfl⟩ ⟨Nat.le_of_ble_eq_true rfl, Nat.le_of_ble_eq_true rfl⟩ hl.1 rfl (Nat.le_of_ble_eq_true rfl) dX5_length_1 ⟨Nat.zero_le _, Nat.zero_le _⟩) rfl ?_
  refine x_ifeq_b (tgt := 17) hx hb dX5_length_4 (by decide) (fun h_4 => ?_) (fun h_4 => ?_)
  · refine lv_bipush (v := -2) hx hb dX5_length_17 (by decide) ?_
    exact pv_iret F hr hlocks (by have e : f_length r cl k = (-2) := (by simp [f_length, h_4] <;> rfl); rw [e]) dX5_length_19
  · refine lv_iload_n hx hb dX5_length_7 rfl (lv_at hl 2 rfl) ?_
    refine lv_iconst (v := 0) hx hb dX5_length_8 (by decide) ?_
    refine lv_bipush (v := 13) hx hb dX5_length_9 (by decide) ?_
    refine px_goV (st1 := [.int (b2i (f_in k 0 13))]) (px_callS F hK (c_X5_isKind l D cy _ k 0 13) kc_X5_isKind kw_methodLink_RX5_26 rfl trivial rfl ⟨rfl, rfl⟩ ⟨Nat.le_of_ble_eq_true rfl, Nat.le_of_ble_eq_true rfl⟩ hl.1 rfl (Nat.le_of_ble_eq_true rfl) dX5_length_11 ⟨Nat.zero_le _, Nat.zero_le _⟩) rfl ?_
    refine x_ifne_b (tgt := 20) hx hb dX5_length_14 (by decide) (fun h_14 => ?_) (fun h_14 => ?_)
    · obtain ⟨cn, hl_cn, hh_cn, rfl⟩ := f_in_nat h_4 0 15 (by decide) (by decide) (by decide) (by decide)
      obtain ⟨kn, hl_kn, hh_kn, rfl⟩ := f_in_nat h_14 0 13 (by decide) (by decide) (by decide) (by decide)
      have hc0 := hI.hd cn (by omega)
      have hc1 := hI.tb _ hc0
      refine lv_aload_n hx hb dX5_length_20 rfl (lv_at hl 0 rfl) ?_
      refine c_gx F hK hR 0 (by decide) rfl kw_fieldLink_RX5_11 dX5_length_21 ?_
      refine lv_iload_n hx hb dX5_length_24 rfl (lv_at hl 1 rfl) ?_
      refine c_ldcol F hK hR cn rfl (by omega) dX5_length_25 ?_
      refine x_astore_n_q (lv' := [(3, va_rf (c_col (gA g) (rHd r cn))), (0, .ref (gA g 0)), (1, .int (nI cn)), (2, .int (nI kn))]) hx hb dX5_length_26 rfl hl (by decide) rfl (fun ls hl => ?_)
      refine x_aload_n_q hx hb dX5_length_27 rfl (lv_at hl 0 rfl) ?_
      refine lv_iload_n hx hb dX5_length_28 rfl (lv_at hl 3 rfl) ?_
      refine px_goV (st1 := [.int (b2i (f_isOf r (rHd r cn) kn))]) (px_callS F hK (c_X5_fitsN l D cy A r g _ (rHd r cn) (va_rf (c_col (gA g) (rHd r cn))) kn rfl (by omega) (by omega) (by omega)) kc_X5_fits kw_methodLink_RX5_60 rfl hR rfl ⟨rfl, rfl⟩ ⟨Nat.le_of_ble_eq_true rfl, Nat.le_of_ble_eq_true rfl⟩ hl.1 rfl (Nat.le_of_ble_eq_true rfl) dX5_length_29 ⟨Nat.zero_le _, Nat.zero_le _⟩) rfl ?_
      refine x_ifne_b (tgt := 40) hx hb dX5_length_32 (by decide) (fun h_32 => ?_) (fun h_32 => ?_)
      · refine x_aload_n_q hx hb dX5_length_40 rfl (lv_at hl 0 rfl) ?_
        by_cases h0_t : rHd r cn = 0
        · have e_t : va_rf (c_col (gA g) (rHd r cn)) = .null := (col_0 h0_t).symm
          have hl : lv_has ls 4 [(3, .null), (0, .ref (gA g 0)), (1, .int (nI cn)), (2, .int (nI kn))] := (by rw [e_t] at hl; exact hl)
          refine W.eq (g2 := F0 m 41 ls [.null]) (by rw [e_t]) ?_
          refine lv_ifnullN (tgt := 51) hx hb dX5_length_41 (by decide) ?_
          refine lv_iconst (v := 1) hx hb dX5_length_51 (by decide) ?_
          refine px_goV (st1 := [.int (-11)]) (px_callS F hK (c_X5_against l D cy _ 1) kc_X5_against kw_methodLink_RX5_34 rfl trivial rfl ⟨rfl, rfl⟩ ⟨Nat.le_of_ble_eq_true rfl, Nat.le_of_ble_eq_true rfl⟩ hl.1 rfl (Nat.le_of_ble_eq_true rfl) dX5_length_52 ⟨Nat.zero_le _, Nat.zero_le _⟩) rfl ?_
          exact pv_iret F hr hlocks (by have e : f_length r (nI cn) (nI kn) = (-11) := (by simp [f_length, h_4, h_14, h_32, h0_t, ix_nI (show cn < 2 ^ 31 by omega), ix_nI (show kn < 2 ^ 31 by omega)] <;> rfl); rw [e]) dX5_length_55
        · have e_t : va_rf (c_col (gA g) (rHd r cn)) = .ref (gA g (3 * (rHd r cn))) := (col_t h0_t).symm
          have hl : lv_has ls 4 [(3, .ref (gA g (3 * (rHd r cn)))), (0, .ref (gA g 0)), (1, .int (nI cn)), (2, .int (nI kn))] := (by rw [e_t] at hl; exact hl)
          refine W.eq (g2 := F0 m 41 ls [.ref (gA g (3 * (rHd r cn)))]) (by rw [e_t]) ?_
          refine lv_ifnull hx hb dX5_length_41 ?_
          refine lv_aload_n hx hb dX5_length_44 rfl (lv_at hl 0 rfl) ?_
          refine c_cnt F hK hR (t := (rHd r cn)) (by omega) (show (rHd r cn) ≤ rT r by omega) ⟨Nat.le_of_ble_eq_true rfl, Nat.le_of_ble_eq_true rfl⟩ hl.1 (Nat.le_of_ble_eq_true rfl) ⟨Nat.zero_le _, Nat.zero_le _⟩ dX5_length_45 ?_
          refine lv_goto (tgt := 55) hx hb dX5_length_48 (by decide) ?_
          exact pv_iret F hr hlocks (by have e : f_length r (nI cn) (nI kn) = nI (rMn r (rHd r cn)) := (by simp [f_length, h_4, h_14, h_32, h0_t, ix_nI (show cn < 2 ^ 31 by omega), ix_nI (show kn < 2 ^ 31 by omega)] <;> rfl); rw [e]) dX5_length_55
      · refine lv_iconst (v := 2) hx hb dX5_length_35 (by decide) ?_
        refine px_goV (st1 := [.int (-12)]) (px_callS F hK (c_X5_against l D cy _ 2) kc_X5_against kw_methodLink_RX5_34 rfl trivial rfl ⟨rfl, rfl⟩ ⟨Nat.le_of_ble_eq_true rfl, Nat.le_of_ble_eq_true rfl⟩ hl.1 rfl (Nat.le_of_ble_eq_true rfl) dX5_length_36 ⟨Nat.zero_le _, Nat.zero_le _⟩) rfl ?_
        exact pv_iret F hr hlocks (by have e : f_length r (nI cn) (nI kn) = (-12) := (by simp [f_length, h_4, h_14, h_32, ix_nI (show cn < 2 ^ 31 by omega), ix_nI (show kn < 2 ^ 31 by omega)] <;> rfl); rw [e]) dX5_length_39
    · refine lv_bipush (v := -2) hx hb dX5_length_17 (by decide) ?_
      exact pv_iret F hr hlocks (by have e : f_length r cl k = (-2) := (by simp [f_length, h_4, h_14] <;> rfl); rw [e]) dX5_length_19
set_option maxHeartbeats 400000 in
set_option maxRecDepth 100000 in
theorem c_X5_size (l : Launch) (D : va_G) (cy : Nat → ClassId) (A : Nat → Prop) (r : RS) (g : CG) (sz : Nat)  (cl : Int32)  {kk : Nat} (hI : Inv kk r) (hV : VR r) (hK9 : VK r) : Met l yX5_size (px_w yX5_size cX5_size 2 (some .int)) (rmd 9 0 0) (px_P D cy [.ref (gA g 0), .int cl] sz (CR D cy A r g)) (px_V (some (.int (f_size r cl)))) 0 0 (fun _ => False) := by
  refine px_met (by decide) (Nat.le_of_ble_eq_true rfl) ?_
  intro p e s m below meth c F hr hlocks hnm hK hsz hR ls hl
  have hx := F.1
  have hb := F.2.1
  have hbd := hI.bd
  have hkb := hK9.k
  have hM0 := (hK9 0).2
  have hK0 := hkb 0
  have hl : lv_has ls 2 [(0, .ref (gA g 0)), (1, .int cl)] := hl
  refine lv_iload_n hx hb dX5_size_0 rfl (lv_at hl 1 rfl) ?_
  refine px_goV (st1 := [.int (b2i (f_in cl 0 15))]) (px_callS F hK (c_X5_isColumn l D cy _ cl) kc_X5_isColumn kw_methodLink_RX5_22 rfl trivial rfl ⟨rfl, rfl⟩ ⟨Nat.le_of_ble_eq_true rfl, Nat.le_of_ble_eq_true rfl⟩ hl.1 rfl (Nat.le_of_ble_eq_true rfl) dX5_size_1 ⟨Nat.zero_le _, Nat.zero_le _⟩) rfl ?_
  refine x_ifeq_b (tgt := 20) hx hb dX5_size_4 (by decide) (fun h_4 => ?_) (fun h_4 => ?_)
  · refine lv_bipush (v := -2) hx hb dX5_size_20 (by decide) ?_
    exact pv_iret F hr hlocks (by have e : f_size r cl = (-2) := (by simp [f_size, h_4]); rw [e]) dX5_size_22
  · obtain ⟨cn, hl_cn, hh_cn, rfl⟩ := f_in_nat h_4 0 15 (by decide) (by decide) (by decide) (by decide)
    have hc0 := hI.hd cn (by omega)
    have hc1 := hI.tb _ hc0
    refine lv_aload_n hx hb dX5_size_7 rfl (lv_at hl 0 rfl) ?_
    refine c_gx F hK hR 0 (by decide) rfl kw_fieldLink_RX5_11 dX5_size_8 ?_
    refine lv_iload_n hx hb dX5_size_11 rfl (lv_at hl 1 rfl) ?_
    refine c_ldcol F hK hR cn rfl (by omega) dX5_size_12 ?_
    refine lv_iconst (v := 3) hx hb dX5_size_13 (by decide) ?_
    refine px_goV (st1 := [.int (nI (f_si r 3 (rHd r cn)))]) (px_callS F hK (c_X5_singleItems3 l D cy A r g _ (rHd r cn) (va_rf (c_col (gA g) (rHd r cn))) rfl hc0 hV hM0 (by omega) (by omega)) kc_X5_singleItems kw_methodLink_RX5_127 rfl hR rfl ⟨rfl, rfl⟩ ⟨Nat.le_of_ble_eq_true rfl, Nat.le_of_ble_eq_true rfl⟩ hl.1 rfl (Nat.le_of_ble_eq_true rfl) dX5_size_14 ⟨Nat.zero_le _, Nat.zero_le _⟩) rfl ?_
    refine lv_goto (tgt := 22) hx hb dX5_size_17 (by decide) ?_
    exact pv_iret F hr hlocks (by have e : f_size r (nI cn) = nI (f_si r 3 (rHd r cn)) := (by simp [f_size, h_4, ix_nI (show cn < 2 ^ 31 by omega), si_tsz hI hc0]); rw [e]) dX5_size_22
set_option maxHeartbeats 400000 in
set_option maxRecDepth 100000 in
theorem c_X5_alike (l : Launch) (D : va_G) (cy : Nat → ClassId) (A : Nat → Prop) (r : RS) (g : CG) (sz : Nat)  (cl o : Int32)  {kk : Nat} (hI : Inv kk r) (hV : VR r) (hK9 : VK r) : Met l yX5_alike (px_w yX5_alike cX5_alike 5 (some .int)) (rmd 9 0 0) (px_P D cy [.ref (gA g 0), .int cl, .int o] sz (CR D cy A r g)) (px_V (some (.int (f_alike r cl o)))) 0 0 (fun _ => False) := by
  refine px_met (by decide) (Nat.le_of_ble_eq_true rfl) ?_
  intro p e s m below meth c F hr hlocks hnm hK hsz hR ls hl
  have hx := F.1
  have hb := F.2.1
  have hbd := hI.bd
  have hkb := hK9.k
  have hM0 := (hK9 0).2
  have hK0 := hkb 0
  have hl : lv_has ls 5 [(0, .ref (gA g 0)), (1, .int cl), (2, .int o)] := hl
  refine lv_iload_n hx hb dX5_alike_0 rfl (lv_at hl 1 rfl) ?_
  refine px_goV (st1 := [.int (b2i (f_in cl 0 15))]) (px_callS F hK (c_X5_isColumn l D cy _ cl) kc_X5_isColumn kw_methodLink_RX5_22 rfl trivial rfl ⟨rfl, rfl⟩ ⟨Nat.le_of_ble_eq_true rfl, Nat.le_of_ble_eq_true rfl⟩ hl.1 rfl (Nat.le_of_ble_eq_true rfl) dX5_alike_1 ⟨Nat.zero_le _, Nat.zero_le _⟩) rfl ?_
  refine x_ifeq_b (tgt := 14) hx hb dX5_alike_4 (by decide) (fun h_4 => ?_) (fun h_4 => ?_)
  · refine lv_bipush (v := -2) hx hb dX5_alike_14 (by decide) ?_
    exact pv_iret F hr hlocks (by have e : f_alike r cl o = (-2) := (by simp [f_alike, h_4] <;> rfl); rw [e]) dX5_alike_16
  · refine lv_iload_n hx hb dX5_alike_7 rfl (lv_at hl 2 rfl) ?_
    refine px_goV (st1 := [.int (b2i (f_in o 0 15))]) (px_callS F hK (c_X5_isColumn l D cy _ o) kc_X5_isColumn kw_methodLink_RX5_22 rfl trivial rfl ⟨rfl, rfl⟩ ⟨Nat.le_of_ble_eq_true rfl, Nat.le_of_ble_eq_true rfl⟩ hl.1 rfl (Nat.le_of_ble_eq_true rfl) dX5_alike_8 ⟨Nat.zero_le _, Nat.zero_le _⟩) rfl ?_
    refine x_ifne_b (tgt := 17) hx hb dX5_alike_11 (by decide) (fun h_11 => ?_) (fun h_11 => ?_)
    · obtain ⟨cn, hl_cn, hh_cn, rfl⟩ := f_in_nat h_4 0 15 (by decide) (by decide) (by decide) (by decide)
      obtain ⟨on, hl_on, hh_on, rfl⟩ := f_in_nat h_11 0 15 (by decide) (by decide) (by decide) (by decide)
      have hc0 := hI.hd cn (by omega)
      have hc1 := hI.tb _ hc0
      have hd0 := hI.hd on (by omega)
      have hd1 := hI.tb _ hd0
      refine lv_aload_n hx hb dX5_alike_17 rfl (lv_at hl 0 rfl) ?_
      refine c_gx F hK hR 0 (by decide) rfl kw_fieldLink_RX5_11 dX5_alike_18 ?_
      refine lv_iload_n hx hb dX5_alike_21 rfl (lv_at hl 1 rfl) ?_
      refine c_ldcol F hK hR cn rfl (by omega) dX5_alike_22 ?_
      refine x_astore_n_q (lv' := [(3, va_rf (c_col (gA g) (rHd r cn))), (0, .ref (gA g 0)), (1, .int (nI cn)), (2, .int (nI on))]) hx hb dX5_alike_23 rfl hl (by decide) rfl (fun ls hl => ?_)
      refine lv_aload_n hx hb dX5_alike_24 rfl (lv_at hl 1 rfl) ?_
      refine c_gx F hK hR 0 (by decide) rfl kw_fieldLink_RX5_11 dX5_alike_25 ?_
      refine lv_iload_n hx hb dX5_alike_28 rfl (lv_at hl 3 rfl) ?_
      refine c_ldcol F hK hR on rfl (by omega) dX5_alike_29 ?_
      refine x_astore_q (lv' := [(4, va_rf (c_col (gA g) (rHd r on))), (3, va_rf (c_col (gA g) (rHd r cn))), (0, .ref (gA g 0)), (1, .int (nI cn)), (2, .int (nI on))]) hx hb dX5_alike_30 hl (by decide) (by simp [List.filter, cat_q]) (fun ls hl => ?_)
      refine x_aload_n_q hx hb dX5_alike_32 rfl (lv_at hl 1 rfl) ?_
      refine x_aload_q hx hb dX5_alike_33 (lv_at hl 0 rfl) ?_
      by_cases h0_b : rHd r on = 0
      · have e_b : va_rf (c_col (gA g) (rHd r on)) = .null := (col_0 h0_b).symm
        have hl : lv_has ls 5 [(4, .null), (3, va_rf (c_col (gA g) (rHd r cn))), (0, .ref (gA g 0)), (1, .int (nI cn)), (2, .int (nI on))] := (by rw [e_b] at hl; exact hl)
        refine W.eq (g2 := F0 m 35 ls [.null, va_rf (c_col (gA g) (rHd r cn))]) (by rw [e_b]) ?_
        by_cases h0_a : rHd r cn = 0
        · have e_a : va_rf (c_col (gA g) (rHd r cn)) = .null := (col_0 h0_a).symm
          have hl : lv_has ls 5 [(4, .null), (3, .null), (0, .ref (gA g 0)), (1, .int (nI cn)), (2, .int (nI on))] := (by rw [e_a] at hl; exact hl)
          refine W.eq (g2 := F0 m 35 ls [.null, .null]) (by rw [e_a]) ?_
          refine lv_acmp_ne (rx := none) (ry := none) (tgt := 40) hx hb dX5_alike_35 (by decide) (fun h => absurd rfl h) (fun _ => ?_)
          refine lv_iconst (v := 2) hx hb dX5_alike_38 (by decide) ?_
          exact pv_iret F hr hlocks (by have e : f_alike r (nI cn) (nI on) = 2 := (by simp [f_alike, h_4, h_11, ix_nI (show cn < 2 ^ 31 by omega), ix_nI (show on < 2 ^ 31 by omega), h0_a, h0_b]); rw [e]) dX5_alike_39
        · have e_a : va_rf (c_col (gA g) (rHd r cn)) = .ref (gA g (3 * (rHd r cn))) := (col_t h0_a).symm
          have hl : lv_has ls 5 [(4, .null), (3, .ref (gA g (3 * (rHd r cn)))), (0, .ref (gA g 0)), (1, .int (nI cn)), (2, .int (nI on))] := (by rw [e_a] at hl; exact hl)
          refine W.eq (g2 := F0 m 35 ls [.null, .ref (gA g (3 * (rHd r cn)))]) (by rw [e_a]) ?_
          refine lv_acmp_ne (rx := some (gA g (3 * (rHd r cn)))) (ry := none) (tgt := 40) hx hb dX5_alike_35 (by decide) (fun _ => ?_) (fun h => by cases h)
          refine lv_aload_n hx hb dX5_alike_40 rfl (lv_at hl 1 rfl) ?_
          refine lv_aloadN hx hb dX5_alike_41 (lv_at hl 0 rfl) ?_
          refine lv_iconst (v := 3) hx hb dX5_alike_43 (by decide) ?_
          refine px_goV (st1 := [.int (b2i (f_al r 3 (rHd r cn) (rHd r on)))]) (px_callS F hK (c_X5_areAlike3 l D cy A r g _ (rHd r cn) (.ref (gA g (3 * (rHd r cn)))) (rHd r on) .null (col_t h0_a) hc0 (col_0 h0_b) hd0 hV (by omega) (by omega)) kc_X5_areAlike kw_methodLink_RX5_130 rfl hR rfl ⟨rfl, rfl⟩ ⟨Nat.le_of_ble_eq_true rfl, Nat.le_of_ble_eq_true rfl⟩ hl.1 rfl (Nat.le_of_ble_eq_true rfl) dX5_alike_44 ⟨Nat.zero_le _, Nat.zero_le _⟩) rfl ?_
          refine x_ifeq_b (tgt := 54) hx hb dX5_alike_47 (by decide) (fun h_47 => ?_) (fun h_47 => ?_)
          · refine lv_iconst (v := 0) hx hb dX5_alike_54 (by decide) ?_
            exact pv_iret F hr hlocks (by have e : f_alike r (nI cn) (nI on) = 0 := (by have hne : ¬ rHd r cn = rHd r on := (fun q => h0_a (q.trans h0_b)); simp [f_alike, h_4, h_11, ix_nI (show cn < 2 ^ 31 by omega), ix_nI (show on < 2 ^ 31 by omega), hne, b2i, ← al_tla hI hc0 hne, h_47]); rw [e]) dX5_alike_55
          · refine lv_iconst (v := 1) hx hb dX5_alike_50 (by decide) ?_
            refine lv_goto (tgt := 55) hx hb dX5_alike_51 (by decide) ?_
            exact pv_iret F hr hlocks (by have e : f_alike r (nI cn) (nI on) = 1 := (by have hne : ¬ rHd r cn = rHd r on := (fun q => h0_a (q.trans h0_b)); simp [f_alike, h_4, h_11, ix_nI (show cn < 2 ^ 31 by omega), ix_nI (show on < 2 ^ 31 by omega), hne, b2i, ← al_tla hI hc0 hne, h_47]); rw [e]) dX5_alike_55
      · have e_b : va_rf (c_col (gA g) (rHd r on)) = .ref (gA g (3 * (rHd r on))) := (col_t h0_b).symm
        have hl : lv_has ls 5 [(4, .ref (gA g (3 * (rHd r on)))), (3, va_rf (c_col (gA g) (rHd r cn))), (0, .ref (gA g 0)), (1, .int (nI cn)), (2, .int (nI on))] := (by rw [e_b] at hl; exact hl)
        refine W.eq (g2 := F0 m 35 ls [.ref (gA g (3 * (rHd r on))), va_rf (c_col (gA g) (rHd r cn))]) (by rw [e_b]) ?_
        by_cases h0_a : rHd r cn = 0
        · have e_a : va_rf (c_col (gA g) (rHd r cn)) = .null := (col_0 h0_a).symm
          have hl : lv_has ls 5 [(4, .ref (gA g (3 * (rHd r on)))), (3, .null), (0, .ref (gA g 0)), (1, .int (nI cn)), (2, .int (nI on))] := (by rw [e_a] at hl; exact hl)
          refine W.eq (g2 := F0 m 35 ls [.ref (gA g (3 * (rHd r on))), .null]) (by rw [e_a]) ?_
          refine lv_acmp_ne (rx := none) (ry := some (gA g (3 * (rHd r on)))) (tgt := 40) hx hb dX5_alike_35 (by decide) (fun _ => ?_) (fun h => by cases h)
          refine lv_aload_nN hx hb dX5_alike_40 rfl (lv_at hl 1 rfl) ?_
          refine lv_aload hx hb dX5_alike_41 (lv_at hl 0 rfl) ?_
          refine lv_iconst (v := 3) hx hb dX5_alike_43 (by decide) ?_
          refine px_goV (st1 := [.int (b2i (f_al r 3 (rHd r cn) (rHd r on)))]) (px_callS F hK (c_X5_areAlike3 l D cy A r g _ (rHd r cn) .null (rHd r on) (.ref (gA g (3 * (rHd r on)))) (col_0 h0_a) hc0 (col_t h0_b) hd0 hV (by omega) (by omega)) kc_X5_areAlike kw_methodLink_RX5_130 rfl hR rfl ⟨rfl, rfl⟩ ⟨Nat.le_of_ble_eq_true rfl, Nat.le_of_ble_eq_true rfl⟩ hl.1 rfl (Nat.le_of_ble_eq_true rfl) dX5_alike_44 ⟨Nat.zero_le _, Nat.zero_le _⟩) rfl ?_
          refine x_ifeq_b (tgt := 54) hx hb dX5_alike_47 (by decide) (fun h_47 => ?_) (fun h_47 => ?_)
          · refine lv_iconst (v := 0) hx hb dX5_alike_54 (by decide) ?_
            exact pv_iret F hr hlocks (by have e : f_alike r (nI cn) (nI on) = 0 := (by have hne : ¬ rHd r cn = rHd r on := (fun q => h0_b (q.symm.trans h0_a)); simp [f_alike, h_4, h_11, ix_nI (show cn < 2 ^ 31 by omega), ix_nI (show on < 2 ^ 31 by omega), hne, b2i, ← al_tla hI hc0 hne, h_47]); rw [e]) dX5_alike_55
          · refine lv_iconst (v := 1) hx hb dX5_alike_50 (by decide) ?_
            refine lv_goto (tgt := 55) hx hb dX5_alike_51 (by decide) ?_
            exact pv_iret F hr hlocks (by have e : f_alike r (nI cn) (nI on) = 1 := (by have hne : ¬ rHd r cn = rHd r on := (fun q => h0_b (q.symm.trans h0_a)); simp [f_alike, h_4, h_11, ix_nI (show cn < 2 ^ 31 by omega), ix_nI (show on < 2 ^ 31 by omega), hne, b2i, ← al_tla hI hc0 hne, h_47]); rw [e]) dX5_alike_55
        · have e_a : va_rf (c_col (gA g) (rHd r cn)) = .ref (gA g (3 * (rHd r cn))) := (col_t h0_a).symm
          have hl : lv_has ls 5 [(4, .ref (gA g (3 * (rHd r on)))), (3, .ref (gA g (3 * (rHd r cn)))), (0, .ref (gA g 0)), (1, .int (nI cn)), (2, .int (nI on))] := (by rw [e_a] at hl; exact hl)
          refine W.eq (g2 := F0 m 35 ls [.ref (gA g (3 * (rHd r on))), .ref (gA g (3 * (rHd r cn)))]) (by rw [e_a]) ?_
          refine lv_acmp_ne (rx := some (gA g (3 * (rHd r cn)))) (ry := some (gA g (3 * (rHd r on)))) (tgt := 40) hx hb dX5_alike_35 (by decide) (fun h_35 => ?_) (fun h_35 => ?_)
          · have h_35 : ¬ rHd r cn = rHd r on := (fun q9 => h_35 (by rw [q9]))
            refine lv_aload_n hx hb dX5_alike_40 rfl (lv_at hl 1 rfl) ?_
            refine lv_aload hx hb dX5_alike_41 (lv_at hl 0 rfl) ?_
            refine lv_iconst (v := 3) hx hb dX5_alike_43 (by decide) ?_
            refine px_goV (st1 := [.int (b2i (f_al r 3 (rHd r cn) (rHd r on)))]) (px_callS F hK (c_X5_areAlike3 l D cy A r g _ (rHd r cn) (.ref (gA g (3 * (rHd r cn)))) (rHd r on) (.ref (gA g (3 * (rHd r on)))) (col_t h0_a) hc0 (col_t h0_b) hd0 hV (by omega) (by omega)) kc_X5_areAlike kw_methodLink_RX5_130 rfl hR rfl ⟨rfl, rfl⟩ ⟨Nat.le_of_ble_eq_true rfl, Nat.le_of_ble_eq_true rfl⟩ hl.1 rfl (Nat.le_of_ble_eq_true rfl) dX5_alike_44 ⟨Nat.zero_le _, Nat.zero_le _⟩) rfl ?_
            refine x_ifeq_b (tgt := 54) hx hb dX5_alike_47 (by decide) (fun h_47 => ?_) (fun h_47 => ?_)
            · refine lv_iconst (v := 0) hx hb dX5_alike_54 (by decide) ?_
              exact pv_iret F hr hlocks (by have e : f_alike r (nI cn) (nI on) = 0 := (by have hne : ¬ rHd r cn = rHd r on := h_35; simp [f_alike, h_4, h_11, ix_nI (show cn < 2 ^ 31 by omega), ix_nI (show on < 2 ^ 31 by omega), hne, b2i, ← al_tla hI hc0 hne, h_47]); rw [e]) dX5_alike_55
            · refine lv_iconst (v := 1) hx hb dX5_alike_50 (by decide) ?_
              refine lv_goto (tgt := 55) hx hb dX5_alike_51 (by decide) ?_
              exact pv_iret F hr hlocks (by have e : f_alike r (nI cn) (nI on) = 1 := (by have hne : ¬ rHd r cn = rHd r on := h_35; simp [f_alike, h_4, h_11, ix_nI (show cn < 2 ^ 31 by omega), ix_nI (show on < 2 ^ 31 by omega), hne, b2i, ← al_tla hI hc0 hne, h_47]); rw [e]) dX5_alike_55
          · have h_35 : rHd r cn = rHd r on := (by have q9 := hR.inj (dm_t (show (rHd r cn) ≤ rT r by omega)) (dm_t (show (rHd r on) ≤ rT r by omega)) (Option.some.inj h_35); omega)
            refine lv_iconst (v := 2) hx hb dX5_alike_38 (by decide) ?_
            exact pv_iret F hr hlocks (by have e : f_alike r (nI cn) (nI on) = 2 := (by simp [f_alike, h_4, h_11, ix_nI (show cn < 2 ^ 31 by omega), ix_nI (show on < 2 ^ 31 by omega), h_35]); rw [e]) dX5_alike_39
    · refine lv_bipush (v := -2) hx hb dX5_alike_14 (by decide) ?_
      exact pv_iret F hr hlocks (by have e : f_alike r cl o = (-2) := (by simp [f_alike, h_4, h_11] <;> rfl); rw [e]) dX5_alike_16
set_option maxHeartbeats 400000 in
set_option maxRecDepth 100000 in
theorem c_X5_trouble (l : Launch) (D : va_G) (cy : Nat → ClassId) (A : Nat → Prop) (r : RS) (g : CG) (sz : Nat)  (t n : Int32)  {kk : Nat} (hI : Inv kk r) (hV : VR r) (hK9 : VK r) : Met l yX5_trouble (px_w yX5_trouble cX5_trouble 4 (some .int)) (rmd 9 0 0) (px_P D cy [.ref (gA g 0), .int t, .int n] sz (CR D cy A r g)) (px_Q (px_Cx D cy A g (some (.int (f_trouble r t n).2)) ((f_trouble r t n).1)) A) 0 0 A := by
  refine px_met (by decide) (Nat.le_of_ble_eq_true rfl) ?_
  intro p e s m below meth c F hr hlocks hnm hK hsz hR ls hl
  have hx := F.1
  have hb := F.2.1
  have hS : va_S A s.heap s.heap [] := va_S.rf
  have hbd := hI.bd
  have hkb := hK9.k
  have hM0 := (hK9 0).2
  have hK0 := hkb 0
  have hl : lv_has ls 4 [(0, .ref (gA g 0)), (1, .int t), (2, .int n)] := hl
  refine lv_iload_n hx hb dX5_trouble_0 rfl (lv_at hl 1 rfl) ?_
  refine px_goV (st1 := [.int (b2i (f_in t 0 7))]) (px_callS F hK (c_X5_isTrouble l D cy _ t) kc_X5_isTrouble kw_methodLink_RX5_134 rfl trivial rfl ⟨rfl, rfl⟩ ⟨Nat.le_of_ble_eq_true rfl, Nat.le_of_ble_eq_true rfl⟩ hl.1 rfl (Nat.le_of_ble_eq_true rfl) dX5_trouble_1 ⟨Nat.zero_le _, Nat.zero_le _⟩) rfl ?_
  refine x_ifeq_b (tgt := 12) hx hb dX5_trouble_4 (by decide) (fun h_4 => ?_) (fun h_4 => ?_)
  · refine lv_bipush (v := -2) hx hb dX5_trouble_12 (by decide) ?_
    exact px_iret F hr hlocks hS (by have e : f_trouble r t n = (r, (-2)) := (by simp [f_trouble, h_4] <;> rfl); rw [e]; exact ⟨rfl, hR⟩) dX5_trouble_14
  · refine lv_iload_n hx hb dX5_trouble_7 rfl (lv_at hl 2 rfl) ?_
    refine lv_iconst (v := -1) hx hb dX5_trouble_8 (by decide) ?_
    refine lv_icmp_ge (tgt := 15) hx hb dX5_trouble_9 (by decide) (fun h_9 => ?_) (fun h_9 => ?_)
    · have h_9 : ¬ n < (-1) := Int32.not_lt.mpr h_9
      obtain ⟨tn, hl_tn, hh_tn, rfl⟩ := f_in_nat h_4 0 7 (by decide) (by decide) (by decide) (by decide)
      refine lv_aload_n hx hb dX5_trouble_15 rfl (lv_at hl 0 rfl) ?_
      refine c_gx F hK hR 1 (by decide) rfl kw_fieldLink_RX5_15 dX5_trouble_16 ?_
      refine lv_iload_n hx hb dX5_trouble_19 rfl (lv_at hl 1 rfl) ?_
      refine c_ldtr F hK hR tn rfl (by omega) dX5_trouble_20 ?_
      refine lv_istore_n (lv' := [(3, .int (rTr r tn)), (0, .ref (gA g 0)), (1, .int (nI tn)), (2, .int n)]) hx hb dX5_trouble_21 rfl hl (by decide) rfl (fun ls hl => ?_)
      refine lv_aload_n hx hb dX5_trouble_22 rfl (lv_at hl 1 rfl) ?_
      refine c_gx F hK hR 1 (by decide) rfl kw_fieldLink_RX5_15 dX5_trouble_23 ?_
      refine lv_iload_n hx hb dX5_trouble_26 rfl (lv_at hl 2 rfl) ?_
      refine lv_iload_n hx hb dX5_trouble_27 rfl (lv_at hl 3 rfl) ?_
      refine c_sttr F hK hR hS tn n rfl rfl (by omega) dX5_trouble_28 (fun H locs hR hS => ?_)
      refine lv_iload_n hx hb dX5_trouble_29 rfl (lv_at hl 0 rfl) ?_
      exact px_iret F hr hlocks hS (by have e : f_trouble r (nI tn) n = (sTr r (va_up (rTr r) tn n), rTr r tn) := (by simp [f_trouble, h_4, h_9, ix_nI (show tn < 2 ^ 31 by omega)] <;> rfl); rw [e]; exact ⟨rfl, hR⟩) dX5_trouble_30
    · have h_9 : n < (-1) := Int32.not_le.mp h_9
      refine lv_bipush (v := -2) hx hb dX5_trouble_12 (by decide) ?_
      exact px_iret F hr hlocks hS (by have e : f_trouble r t n = (r, (-2)) := (by simp [f_trouble, h_4, h_9] <;> rfl); rw [e]; exact ⟨rfl, hR⟩) dX5_trouble_14
set_option maxHeartbeats 400000 in
set_option maxRecDepth 100000 in
theorem c_X5_passed (l : Launch) (D : va_G) (cy : Nat → ClassId) (A : Nat → Prop) (r : RS) (g : CG) (sz : Nat)     : Met l yX5_passed (px_w yX5_passed cX5_passed 1 (some .int)) (rmd 1 0 0) (px_P D cy [.ref (gA g 0)] sz (CR D cy A r g)) (px_V (some (.int (rPa r)))) 0 0 (fun _ => False) := by
  refine px_met (by decide) (Nat.le_of_ble_eq_true rfl) ?_
  intro p e s m below meth c F hr hlocks hnm hK hsz hR ls hl
  have hx := F.1
  have hb := F.2.1
  have hl : lv_has ls 1 [(0, .ref (gA g 0))] := hl
  refine lv_aload_n hx hb dX5_passed_0 rfl (lv_at hl 0 rfl) ?_
  refine c_gx F hK hR 5 (by decide) rfl kw_fieldLink_RX5_137 dX5_passed_1 ?_
  exact pv_iret F hr hlocks (by rfl) dX5_passed_4
set_option maxHeartbeats 400000 in
set_option maxRecDepth 100000 in
theorem c_X5_number (l : Launch) (D : va_G) (cy : Nat → ClassId) (A : Nat → Prop) (r : RS) (g : CG) (sz : Nat)     : Met l yX5_number (px_w yX5_number cX5_number 1 (some .int)) (rmd 1 0 0) (px_P D cy [.ref (gA g 0)] sz (CR D cy A r g)) (px_V (some (.int (rNu r)))) 0 0 (fun _ => False) := by
  refine px_met (by decide) (Nat.le_of_ble_eq_true rfl) ?_
  intro p e s m below meth c F hr hlocks hnm hK hsz hR ls hl
  have hx := F.1
  have hb := F.2.1
  have hl : lv_has ls 1 [(0, .ref (gA g 0))] := hl
  refine lv_aload_n hx hb dX5_number_0 rfl (lv_at hl 0 rfl) ?_
  refine c_gx F hK hR 6 (by decide) rfl kw_fieldLink_RX5_140 dX5_number_1 ?_
  exact pv_iret F hr hlocks (by rfl) dX5_number_4
set_option maxHeartbeats 400000 in
set_option maxRecDepth 100000 in
theorem c_X5_fault (l : Launch) (D : va_G) (cy : Nat → ClassId) (A : Nat → Prop) (r : RS) (g : CG) (sz : Nat)     : Met l yX5_fault (px_w yX5_fault cX5_fault 1 (some .int)) (rmd 1 0 0) (px_P D cy [.ref (gA g 0)] sz (CR D cy A r g)) (px_V (some (.int (rFa r)))) 0 0 (fun _ => False) := by
  refine px_met (by decide) (Nat.le_of_ble_eq_true rfl) ?_
  intro p e s m below meth c F hr hlocks hnm hK hsz hR ls hl
  have hx := F.1
  have hb := F.2.1
  have hl : lv_has ls 1 [(0, .ref (gA g 0))] := hl
  refine lv_aload_n hx hb dX5_fault_0 rfl (lv_at hl 0 rfl) ?_
  refine c_gx F hK hR 7 (by decide) rfl kw_fieldLink_RX5_143 dX5_fault_1 ?_
  exact pv_iret F hr hlocks (by rfl) dX5_fault_4
set_option maxHeartbeats 400000 in
set_option maxRecDepth 100000 in
theorem c_X5_clear (l : Launch) (D : va_G) (cy : Nat → ClassId) (A : Nat → Prop) (r : RS) (g : CG) (sz : Nat)    {kk : Nat} (hI : Inv kk r) (hV : VR r) (hK9 : VK r) : Met l yX5_clear (px_w yX5_clear cX5_clear 2 (some .int)) (rmd 9 0 0) (px_P D cy [.ref (gA g 0)] sz (CR D cy A r g)) (px_Q (px_Cx D cy A g (some (.int (f_clear r ).2)) ((f_clear r ).1)) A) 0 0 A := by
  refine px_met (by decide) (Nat.le_of_ble_eq_true rfl) ?_
  intro p e s m below meth c F hr hlocks hnm hK hsz hR ls hl
  have hx := F.1
  have hb := F.2.1
  have hS : va_S A s.heap s.heap [] := va_S.rf
  have hbd := hI.bd
  have hkb := hK9.k
  have hM0 := (hK9 0).2
  have hK0 := hkb 0
  have hl : lv_has ls 2 [(0, .ref (gA g 0))] := hl
  refine lv_aload_n hx hb dX5_clear_0 rfl (lv_at hl 0 rfl) ?_
  refine px_goV (st1 := [.int (nI (f_held r))]) (px_callV F hK (c_X5_heldColumns l D cy A r g _) kc_X5_heldColumns kw_methodLink_RX5_146 rfl hR (c_recv hK hR) rfl ⟨rfl, rfl⟩ ⟨Nat.le_of_ble_eq_true rfl, Nat.le_of_ble_eq_true rfl⟩ hl.1 rfl (Nat.le_of_ble_eq_true rfl) dX5_clear_1 ⟨Nat.zero_le _, Nat.zero_le _⟩) rfl ?_
  refine lv_istore_n (lv' := [(1, .int (nI (f_held r))), (0, .ref (gA g 0))]) hx hb dX5_clear_4 rfl hl (by decide) rfl (fun ls hl => ?_)
  refine lv_aload_n hx hb dX5_clear_5 rfl (lv_at hl 1 rfl) ?_
  refine px_goCx (st1 := []) (px_callV F hK (c_X5_begin l D cy A r g _) kc_X5_begin kw_methodLink_RX5_19 rfl hR (c_recv hK hR) rfl ⟨rfl, rfl⟩ ⟨Nat.le_of_ble_eq_true rfl, Nat.le_of_ble_eq_true rfl⟩ hl.1 rfl (Nat.le_of_ble_eq_true rfl) dX5_clear_6 ⟨Nat.zero_le _, Nat.zero_le _⟩) hS rfl (fun H locs hR hS => ?_)
  refine lv_iload_n hx hb dX5_clear_9 rfl (lv_at hl 0 rfl) ?_
  exact px_iret F hr hlocks hS ⟨rfl, hR⟩ dX5_clear_10
