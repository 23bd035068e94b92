/-! the class: the public methods, 3 -/
theorem isOf_lt {r : RS} {t k b : Nat} (h : f_isOf r t k = true) (hk : k ≤ b) (hb : b = 7 ∨ 9 ≤ b) (h0 : t ≠ 0) : rK r t ≤ b := by
  rcases isOf_k h h0 with q | ⟨q1, q2⟩ <;> omega
theorem pb_e {r : RS} {t k : Nat} {i : Int32} {b : Int64} (h : f_isOf r t k = true) (hk : k ≤ 7) : f_pb r t i b = if ¬ f_no r t k i = 0 then (r, -10 - nI (f_no r t k i)) else (f_put r t (ix i) (f_cut k b), 1) := by
  have e : f_no r t k i = f_looked r t i := if_pos h
  rw [e]
  unfold f_pb
  by_cases hl : f_looked r t i = 0
  · rw [if_neg (fun q => q hl), if_neg (fun q => q hl)]
    have h0 : t ≠ 0 := fun q => by rw [q] at hl; cases hl
    rcases isOf_k h h0 with q | ⟨q1, q2⟩
    · rw [q]
    · omega
  · rw [if_pos hl, if_pos hl]
set_option maxHeartbeats 400000 in
set_option maxRecDepth 100000 in
theorem c_X5_read (l : Launch) (D : va_G) (cy : Nat → ClassId) (A : Nat → Prop) (r : RS) (g : CG) (sz : Nat)  (cl k i : Int32)  {kk : Nat} (hI : Inv kk r) (hV : VR r) (hK9 : VK r) : Met l yX5_read (px_w yX5_read cX5_read 5 (some .long)) (rmd 9 0 0) (px_P D cy [.ref (gA g 0), .int cl, .int k, .int i] sz (CR D cy A r g)) (px_Q (px_Cx D cy A g (some (.long (f_read r cl k i).2)) ((f_read r cl k i).1)) A) 0 0 A := by
  refine px_met (by decide) (Nat.le_of_ble_eq_true rfl) ?_
  intro p e s m below meth c F hr hlocks hnm hK hsz hR ls hl
  have hx := F.1
  have hb := F.2.1
  have hS : va_S A s.heap s.heap [] := va_S.rf
  have hbd := hI.bd
  have hkb := hK9.k
  have hM0 := (hK9 0).2
  have hK0 := hkb 0
  have hl : lv_has ls 5 [(0, .ref (gA g 0)), (1, .int cl), (2, .int k), (3, .int i)] := hl
  refine lv_iload_n hx hb dX5_read_0 rfl (lv_at hl 1 rfl) ?_
  refine px_goV (st1 := [.int (b2i (f_in cl 0 15))]) (px_callS F hK (c_X5_isColumn l D cy _ cl) kc_X5_isColumn kw_methodLink_RX5_22 rfl trivial rfl ⟨rfl, rfl⟩ ⟨Nat.le_of_ble_eq_true rfl, Nat.le_of_ble_eq_true rfl⟩ hl.1 rfl (Nat.le_of_ble_eq_true rfl) dX5_read_1 ⟨Nat.zero_le _, Nat.zero_le _⟩) rfl ?_
  refine x_ifeq_b (tgt := 17) hx hb dX5_read_4 (by decide) (fun h_4 => ?_) (fun h_4 => ?_)
  · refine lv_aload_n hx hb dX5_read_17 rfl (lv_at hl 0 rfl) ?_
    refine lv_bipush (v := -2) hx hb dX5_read_18 (by decide) ?_
    refine px_goCx (st1 := [.long 0]) (px_callV F hK (c_X5_noBits l D cy A r g _ (-2)) kc_X5_noBits kw_methodLink_RX5_68 rfl hR (c_recv hK hR) rfl ⟨rfl, rfl⟩ ⟨Nat.le_of_ble_eq_true rfl, Nat.le_of_ble_eq_true rfl⟩ hl.1 rfl (Nat.le_of_ble_eq_true rfl) dX5_read_20 ⟨Nat.zero_le _, Nat.zero_le _⟩) hS rfl (fun H locs hR hS => ?_)
    exact px_lret F hr hlocks hS (by have e : f_read r cl k i = (sFa r (-2), 0) := (by simp [f_read, h_4] <;> rfl); rw [e]; exact ⟨rfl, hR⟩) dX5_read_23
  · refine lv_iload_n hx hb dX5_read_7 rfl (lv_at hl 2 rfl) ?_
    refine lv_iconst (v := 0) hx hb dX5_read_8 (by decide) ?_
    refine lv_bipush (v := 9) hx hb dX5_read_9 (by decide) ?_
    refine px_goV (st1 := [.int (b2i (f_in k 0 9))]) (px_callS F hK (c_X5_isKind l D cy _ k 0 9) kc_X5_isKind kw_methodLink_RX5_26 rfl trivial rfl ⟨rfl, rfl⟩ ⟨Nat.le_of_ble_eq_true rfl, Nat.le_of_ble_eq_true rfl⟩ hl.1 rfl (Nat.le_of_ble_eq_true rfl) dX5_read_11 ⟨Nat.zero_le _, Nat.zero_le _⟩) rfl ?_
    refine x_ifne_b (tgt := 24) hx hb dX5_read_14 (by decide) (fun h_14 => ?_) (fun h_14 => ?_)
    · obtain ⟨cn, hl_cn, hh_cn, rfl⟩ := f_in_nat h_4 0 15 (by decide) (by decide) (by decide) (by decide)
      obtain ⟨kn, hl_kn, hh_kn, rfl⟩ := f_in_nat h_14 0 9 (by decide) (by decide) (by decide) (by decide)
      have hc0 := hI.hd cn (by omega)
      have hc1 := hI.tb _ hc0
      refine lv_aload_n hx hb dX5_read_24 rfl (lv_at hl 0 rfl) ?_
      refine c_gx F hK hR 0 (by decide) rfl kw_fieldLink_RX5_11 dX5_read_25 ?_
      refine lv_iload_n hx hb dX5_read_28 rfl (lv_at hl 1 rfl) ?_
      refine c_ldcol F hK hR cn rfl (by omega) dX5_read_29 ?_
      refine x_astore_q (lv' := [(4, va_rf (c_col (gA g) (rHd r cn))), (0, .ref (gA g 0)), (1, .int (nI cn)), (2, .int (nI kn)), (3, .int i)]) hx hb dX5_read_30 hl (by decide) rfl (fun ls hl => ?_)
      refine x_aload_q hx hb dX5_read_32 (lv_at hl 0 rfl) ?_
      refine lv_iload_n hx hb dX5_read_34 rfl (lv_at hl 3 rfl) ?_
      refine px_goV (st1 := [.int (b2i (f_isOf r (rHd r cn) kn))]) (px_callS F hK (c_X5_fitsN l D cy A r g _ (rHd r cn) (va_rf (c_col (gA g) (rHd r cn))) kn rfl (by omega) (by omega) (by omega)) kc_X5_fits kw_methodLink_RX5_60 rfl hR rfl ⟨rfl, rfl⟩ ⟨Nat.le_of_ble_eq_true rfl, Nat.le_of_ble_eq_true rfl⟩ hl.1 rfl (Nat.le_of_ble_eq_true rfl) dX5_read_35 ⟨Nat.zero_le _, Nat.zero_le _⟩) rfl ?_
      refine x_ifeq_b (tgt := 51) hx hb dX5_read_38 (by decide) (fun h_38 => ?_) (fun h_38 => ?_)
      · refine lv_aload_n hx hb dX5_read_51 rfl (lv_at hl 1 rfl) ?_
        refine lv_iconst (v := 2) hx hb dX5_read_52 (by decide) ?_
        refine px_goCx (st1 := [.long 0]) (px_callV F hK (c_X5_noBits l D cy A r g _ 2) kc_X5_noBits kw_methodLink_RX5_68 rfl hR (c_recv hK hR) rfl ⟨rfl, rfl⟩ ⟨Nat.le_of_ble_eq_true rfl, Nat.le_of_ble_eq_true rfl⟩ hl.1 rfl (Nat.le_of_ble_eq_true rfl) dX5_read_53 ⟨Nat.zero_le _, Nat.zero_le _⟩) hS rfl (fun H locs hR hS => ?_)
        exact px_lret F hr hlocks hS (by have e : f_read r (nI cn) (nI kn) i = (sFa r 2, 0) := (by simp [f_read, h_4, h_14, ix_nI (show cn < 2 ^ 31 by omega), ix_nI (show kn < 2 ^ 31 by omega), h_38, f_itemOf] <;> rfl); rw [e]; exact ⟨rfl, hR⟩) dX5_read_56
      · refine lv_aload_n hx hb dX5_read_41 rfl (lv_at hl 1 rfl) ?_
        refine x_aload_q hx hb dX5_read_42 (lv_at hl 0 rfl) ?_
        refine lv_iload_n hx hb dX5_read_44 rfl (lv_at hl 4 rfl) ?_
        refine px_goCx (st1 := [.long ((f_itemOf r (rHd r cn) i 0).2)]) (px_callV F hK (c_X5_bitsAt l D cy A r g _ (rHd r cn) (va_rf (c_col (gA g) (rHd r cn))) i rfl (by omega) hc1.2.1 hM0 (fun q => Nat.lt_succ_of_le (isOf_lt h_38 hh_kn (Or.inr (by decide)) q)) (fun q => (hV.2.1 _ q hc0).2.2)) kc_X5_bitsAt kw_methodLink_RX5_72 rfl hR (c_recv hK hR) rfl ⟨rfl, rfl⟩ ⟨Nat.le_of_ble_eq_true rfl, Nat.le_of_ble_eq_true rfl⟩ hl.1 rfl (Nat.le_of_ble_eq_true rfl) dX5_read_45 ⟨Nat.zero_le _, Nat.zero_le _⟩) hS rfl (fun H locs hR hS => ?_)
        refine lv_goto (tgt := 56) hx hb dX5_read_48 (by decide) ?_
        exact px_lret F hr hlocks hS (by have e : f_read r (nI cn) (nI kn) i = ((f_itemOf r (rHd r cn) i 0).1, (f_itemOf r (rHd r cn) i 0).2) := (by simp [f_read, h_4, h_14, ix_nI (show cn < 2 ^ 31 by omega), ix_nI (show kn < 2 ^ 31 by omega), h_38]); rw [e]; exact ⟨rfl, hR⟩) dX5_read_56
    · refine lv_aload_n hx hb dX5_read_17 rfl (lv_at hl 0 rfl) ?_
      refine lv_bipush (v := -2) hx hb dX5_read_18 (by decide) ?_
      refine px_goCx (st1 := [.long 0]) (px_callV F hK (c_X5_noBits l D cy A r g _ (-2)) kc_X5_noBits kw_methodLink_RX5_68 rfl hR (c_recv hK hR) rfl ⟨rfl, rfl⟩ ⟨Nat.le_of_ble_eq_true rfl, Nat.le_of_ble_eq_true rfl⟩ hl.1 rfl (Nat.le_of_ble_eq_true rfl) dX5_read_20 ⟨Nat.zero_le _, Nat.zero_le _⟩) hS rfl (fun H locs hR hS => ?_)
      exact px_lret F hr hlocks hS (by have e : f_read r cl k i = (sFa r (-2), 0) := (by simp [f_read, h_4, h_14] <;> rfl); rw [e]; exact ⟨rfl, hR⟩) dX5_read_23
set_option maxHeartbeats 400000 in
set_option maxRecDepth 100000 in
theorem c_X5_write (l : Launch) (D : va_G) (cy : Nat → ClassId) (A : Nat → Prop) (r : RS) (g : CG) (sz : Nat)  (cl k i : Int32) (b : Int64)  {kk : Nat} (hI : Inv kk r) (hV : VR r) (hK9 : VK r) : Met l yX5_write (px_w yX5_write cX5_write 7 (some .int)) (rmd 9 0 0) (px_P D cy [.ref (gA g 0), .int cl, .int k, .int i, .long b] sz (CR D cy A r g)) (px_Q (px_Cx D cy A g (some (.int (f_write r cl k i b).2)) ((f_write r cl k i b).1)) A) 0 0 A := by
  refine px_met (by decide) (Nat.le_of_ble_eq_true rfl) ?_
  intro p e s m below meth c F hr hlocks hnm hK hsz hR ls hl
  have hx := F.1
  have hb := F.2.1
  have hS : va_S A s.heap s.heap [] := va_S.rf
  have hbd := hI.bd
  have hkb := hK9.k
  have hM0 := (hK9 0).2
  have hK0 := hkb 0
  have hl : lv_has ls 7 [(0, .ref (gA g 0)), (1, .int cl), (2, .int k), (3, .int i), (4, .long b)] := hl
  refine lv_iload_n hx hb dX5_write_0 rfl (lv_at hl 1 rfl) ?_
  refine px_goV (st1 := [.int (b2i (f_in cl 0 15))]) (px_callS F hK (c_X5_isColumn l D cy _ cl) kc_X5_isColumn kw_methodLink_RX5_22 rfl trivial rfl ⟨rfl, rfl⟩ ⟨Nat.le_of_ble_eq_true rfl, Nat.le_of_ble_eq_true rfl⟩ hl.1 rfl (Nat.le_of_ble_eq_true rfl) dX5_write_1 ⟨Nat.zero_le _, Nat.zero_le _⟩) rfl ?_
  refine x_ifeq_b (tgt := 17) hx hb dX5_write_4 (by decide) (fun h_4 => ?_) (fun h_4 => ?_)
  · refine lv_bipush (v := -2) hx hb dX5_write_17 (by decide) ?_
    exact px_iret F hr hlocks hS (by have e : f_write r cl k i b = (r, (-2)) := (by simp [f_write, h_4] <;> rfl); rw [e]; exact ⟨rfl, hR⟩) dX5_write_19
  · refine lv_iload_n hx hb dX5_write_7 rfl (lv_at hl 2 rfl) ?_
    refine lv_iconst (v := 0) hx hb dX5_write_8 (by decide) ?_
    refine lv_bipush (v := 7) hx hb dX5_write_9 (by decide) ?_
    refine px_goV (st1 := [.int (b2i (f_in k 0 7))]) (px_callS F hK (c_X5_isKind l D cy _ k 0 7) kc_X5_isKind kw_methodLink_RX5_26 rfl trivial rfl ⟨rfl, rfl⟩ ⟨Nat.le_of_ble_eq_true rfl, Nat.le_of_ble_eq_true rfl⟩ hl.1 rfl (Nat.le_of_ble_eq_true rfl) dX5_write_11 ⟨Nat.zero_le _, Nat.zero_le _⟩) rfl ?_
    refine x_ifne_b (tgt := 20) hx hb dX5_write_14 (by decide) (fun h_14 => ?_) (fun h_14 => ?_)
    · obtain ⟨cn, hl_cn, hh_cn, rfl⟩ := f_in_nat h_4 0 15 (by decide) (by decide) (by decide) (by decide)
      obtain ⟨kn, hl_kn, hh_kn, rfl⟩ := f_in_nat h_14 0 7 (by decide) (by decide) (by decide) (by decide)
      have hc0 := hI.hd cn (by omega)
      have hc1 := hI.tb _ hc0
      refine lv_aload_n hx hb dX5_write_20 rfl (lv_at hl 0 rfl) ?_
      refine c_gx F hK hR 0 (by decide) rfl kw_fieldLink_RX5_11 dX5_write_21 ?_
      refine lv_iload_n hx hb dX5_write_24 rfl (lv_at hl 1 rfl) ?_
      refine c_ldcol F hK hR cn rfl (by omega) dX5_write_25 ?_
      refine x_astore_q (lv' := [(6, va_rf (c_col (gA g) (rHd r cn))), (0, .ref (gA g 0)), (1, .int (nI cn)), (2, .int (nI kn)), (3, .int i), (4, .long b)]) hx hb dX5_write_26 hl (by decide) rfl (fun ls hl => ?_)
      refine x_aload_q hx hb dX5_write_28 (lv_at hl 0 rfl) ?_
      refine lv_iload_n hx hb dX5_write_30 rfl (lv_at hl 3 rfl) ?_
      refine px_goV (st1 := [.int (b2i (f_isOf r (rHd r cn) kn))]) (px_callS F hK (c_X5_fitsN l D cy A r g _ (rHd r cn) (va_rf (c_col (gA g) (rHd r cn))) kn rfl (by omega) (by omega) (by omega)) kc_X5_fits kw_methodLink_RX5_60 rfl hR rfl ⟨rfl, rfl⟩ ⟨Nat.le_of_ble_eq_true rfl, Nat.le_of_ble_eq_true rfl⟩ hl.1 rfl (Nat.le_of_ble_eq_true rfl) dX5_write_31 ⟨Nat.zero_le _, Nat.zero_le _⟩) rfl ?_
      refine x_ifeq_b (tgt := 48) hx hb dX5_write_34 (by decide) (fun h_34 => ?_) (fun h_34 => ?_)
      · refine lv_iconst (v := 2) hx hb dX5_write_48 (by decide) ?_
        refine px_goV (st1 := [.int (-12)]) (px_callS F hK (c_X5_against l D cy _ 2) kc_X5_against kw_methodLink_RX5_34 rfl trivial rfl ⟨rfl, rfl⟩ ⟨Nat.le_of_ble_eq_true rfl, Nat.le_of_ble_eq_true rfl⟩ hl.1 rfl (Nat.le_of_ble_eq_true rfl) dX5_write_49 ⟨Nat.zero_le _, Nat.zero_le _⟩) rfl ?_
        exact px_iret F hr hlocks hS (by have e : f_write r (nI cn) (nI kn) i b = (r, (-12)) := (by simp [f_write, h_4, h_14, ix_nI (show cn < 2 ^ 31 by omega), ix_nI (show kn < 2 ^ 31 by omega), f_no, h_34] <;> rfl); rw [e]; exact ⟨rfl, hR⟩) dX5_write_52
      · refine x_aload_q hx hb dX5_write_37 (lv_at hl 0 rfl) ?_
        refine lv_iload_n hx hb dX5_write_39 rfl (lv_at hl 4 rfl) ?_
        refine lv_lload hx hb dX5_write_40 (lv_at hl 5 rfl) ?_
        refine px_goCx (st1 := [.int ((f_pb r (rHd r cn) i b).2)]) (px_callS F hK (c_X5_putBits l D cy A r g _ (rHd r cn) (va_rf (c_col (gA g) (rHd r cn))) i b rfl (by omega) hc1.2.1 hM0 hV.1 (fun q => Nat.lt_succ_of_le (isOf_lt h_34 hh_kn (Or.inl rfl) q))) kc_X5_putBits kw_methodLink_RX5_76 rfl hR rfl ⟨rfl, rfl⟩ ⟨Nat.le_of_ble_eq_true rfl, Nat.le_of_ble_eq_true rfl⟩ hl.1 rfl (Nat.le_of_ble_eq_true rfl) dX5_write_42 ⟨Nat.zero_le _, Nat.zero_le _⟩) hS rfl (fun H locs hR hS => ?_)
        refine lv_goto (tgt := 52) hx hb dX5_write_45 (by decide) ?_
        exact px_iret F hr hlocks hS (by have e : f_write r (nI cn) (nI kn) i b = ((f_pb r (rHd r cn) i b).1, (f_pb r (rHd r cn) i b).2) := (by rw [pb_e h_34 hh_kn]; simp only [f_write, h_4, h_14, ix_nI (show cn < 2 ^ 31 by omega), ix_nI (show kn < 2 ^ 31 by omega), Bool.not_true, Bool.or_self, Bool.false_eq_true, if_false]); rw [e]; exact ⟨rfl, hR⟩) dX5_write_52
    · refine lv_bipush (v := -2) hx hb dX5_write_17 (by decide) ?_
      exact px_iret F hr hlocks hS (by have e : f_write r cl k i b = (r, (-2)) := (by simp [f_write, h_4, h_14] <;> rfl); rw [e]; exact ⟨rfl, hR⟩) dX5_write_19
set_option maxHeartbeats 400000 in
set_option maxRecDepth 100000 in
theorem c_X5_marked (l : Launch) (D : va_G) (cy : Nat → ClassId) (A : Nat → Prop) (r : RS) (g : CG) (sz : Nat)  (cl i : Int32)  {kk : Nat} (hI : Inv kk r) (hV : VR r) (hK9 : VK r) : Met l yX5_marked (px_w yX5_marked cX5_marked 7 (some .int)) (rmd 9 0 0) (px_P D cy [.ref (gA g 0), .int cl, .int i] sz (CR D cy A r g)) (px_V (some (.int (f_marked r cl i)))) 0 0 (fun _ => False) := by
  refine px_met (by decide) (Nat.le_of_ble_eq_true rfl) ?_
  intro p e s m below meth c F hr hlocks hnm hK hsz hR ls hl
  have hx := F.1
  have hb := F.2.1
  have hbd := hI.bd
  have hkb := hK9.k
  have hM0 := (hK9 0).2
  have hK0 := hkb 0
  have hl : lv_has ls 7 [(0, .ref (gA g 0)), (1, .int cl), (2, .int i)] := hl
  refine lv_iload_n hx hb dX5_marked_0 rfl (lv_at hl 1 rfl) ?_
  refine px_goV (st1 := [.int (b2i (f_in cl 0 15))]) (px_callS F hK (c_X5_isColumn l D cy _ cl) kc_X5_isColumn kw_methodLink_RX5_22 rfl trivial rfl ⟨rfl, rfl⟩ ⟨Nat.le_of_ble_eq_true rfl, Nat.le_of_ble_eq_true rfl⟩ hl.1 rfl (Nat.le_of_ble_eq_true rfl) dX5_marked_1 ⟨Nat.zero_le _, Nat.zero_le _⟩) rfl ?_
  refine x_ifne_b (tgt := 10) hx hb dX5_marked_4 (by decide) (fun h_4 => ?_) (fun h_4 => ?_)
  · obtain ⟨cn, hl_cn, hh_cn, rfl⟩ := f_in_nat h_4 0 15 (by decide) (by decide) (by decide) (by decide)
    have hc0 := hI.hd cn (by omega)
    have hc1 := hI.tb _ hc0
    refine lv_aload_n hx hb dX5_marked_10 rfl (lv_at hl 0 rfl) ?_
    refine c_gx F hK hR 0 (by decide) rfl kw_fieldLink_RX5_11 dX5_marked_11 ?_
    refine lv_iload_n hx hb dX5_marked_14 rfl (lv_at hl 1 rfl) ?_
    refine c_ldcol F hK hR cn rfl (by omega) dX5_marked_15 ?_
    refine x_astore_n_q (lv' := [(3, va_rf (c_col (gA g) (rHd r cn))), (0, .ref (gA g 0)), (1, .int (nI cn)), (2, .int i)]) hx hb dX5_marked_16 rfl hl (by decide) rfl (fun ls hl => ?_)
    refine x_aload_n_q hx hb dX5_marked_17 rfl (lv_at hl 0 rfl) ?_
    refine lv_bipush (v := 8) hx hb dX5_marked_18 (by decide) ?_
    refine lv_iload_n hx hb dX5_marked_20 rfl (lv_at hl 3 rfl) ?_
    refine px_goV (st1 := [.int (nI (f_no r (rHd r cn) 8 i))]) (px_callS F hK (c_X5_faultTakenN l D cy A r g _ (rHd r cn) (va_rf (c_col (gA g) (rHd r cn))) 8 i rfl (by omega) (by omega) (by omega) hK0 hM0 (by omega)) kc_X5_faultTaken kw_methodLink_RX5_91 rfl hR rfl ⟨rfl, rfl⟩ ⟨Nat.le_of_ble_eq_true rfl, Nat.le_of_ble_eq_true rfl⟩ hl.1 rfl (Nat.le_of_ble_eq_true rfl) dX5_marked_21 ⟨Nat.zero_le _, Nat.zero_le _⟩) rfl ?_
    refine lv_istore (lv' := [(4, .int (nI (f_no r (rHd r cn) 8 i))), (3, va_rf (c_col (gA g) (rHd r cn))), (0, .ref (gA g 0)), (1, .int (nI cn)), (2, .int i)]) hx hb dX5_marked_24 hl (by decide) (by simp [List.filter, cat_q]) (fun ls hl => ?_)
    have hno := no_le (r := r) (t := rHd r cn) (k := 8) (i := i)
    refine lv_iload hx hb dX5_marked_26 (lv_at hl 0 rfl) ?_
    refine lv_if_eq (tgt := 37) hx hb dX5_marked_28 (by decide) (fun h_28 => ?_) (fun h_28 => ?_)
    · have h_28 : (f_no r (rHd r cn) 8 i) = 0 := nIeq (show nI (f_no r (rHd r cn) 8 i) = nI 0 from h_28) (by omega) (by omega)
      refine x_aload_n_q hx hb dX5_marked_37 rfl (lv_at hl 1 rfl) ?_
      refine lv_iload_n hx hb dX5_marked_38 rfl (lv_at hl 4 rfl) ?_
      obtain ⟨hno1, hno2⟩ := no_0 h_28
      obtain ⟨ht0, j, hj, rfl⟩ := looked_0 hno2 hc1.2.1
      have hk89 : rK r (rHd r cn) = 8 ∨ rK r (rHd r cn) = 9 := (isOf_k hno1 ht0).imp id And.right
      have hv9 := (hV.2.1 _ ht0 hc0).2.2 j hj (by omega)
      refine px_goV (st1 := [va_rf (c_item (gA g) r (rHd r cn) (nI j))]) (px_callS F hK (c_X5_itemAt l D cy A r g _ (rHd r cn) (va_rf (c_col (gA g) (rHd r cn))) (nI j) rfl (by omega) hc1.2.1) kc_X5_itemAt kw_methodLink_RX5_95 rfl hR rfl ⟨rfl, rfl⟩ ⟨Nat.le_of_ble_eq_true rfl, Nat.le_of_ble_eq_true rfl⟩ hl.1 rfl (Nat.le_of_ble_eq_true rfl) dX5_marked_39 ⟨Nat.zero_le _, Nat.zero_le _⟩) rfl ?_
      rcases c_item_4 (r := r) (t := rHd r cn) (j := j) (gA g) ht0 (by omega) hc1.2.1 hj rfl hv9.1 hv9.2.1 hv9.2.2 with ⟨hw0, hq9⟩ | ⟨w, hw0, hw1, hw2, hw3, hq9⟩ | ⟨w, hw0, hw1, hw2, hw3, hq9⟩
      · refine px_topv (y := .null) (by rw [hq9]; rfl) ?_
        refine lv_astoreN (lv' := [(6, .null), (4, .int (nI (f_no r (rHd r cn) 8 (nI j)))), (3, va_rf (c_col (gA g) (rHd r cn))), (0, .ref (gA g 0)), (1, .int (nI cn)), (2, .int (nI j))]) hx hb dX5_marked_42 hl (by decide) rfl (fun ls hl => ?_)
        refine lv_aloadN hx hb dX5_marked_44 (lv_at hl 0 rfl) ?_
        refine lv_instN hx hb dX5_marked_46 ?_
        refine lv_if_eq (tgt := 71) hx hb dX5_marked_49 (by decide) (fun _ => ?_) (fun h => absurd h (by decide))
        refine lv_iconst (v := 0) hx hb dX5_marked_71 (by decide) ?_
        exact pv_iret F hr hlocks (by have e : f_marked r (nI cn) (nI j) = 0 := (by simp [f_marked, h_4, ix_nI (show cn < 2 ^ 31 by omega), ix_nI (show j < 2 ^ 31 by omega), h_28, hw0]); rw [e]) dX5_marked_72
      · refine px_topv (y := .ref (gA g (3 * w + 2))) (by rw [hq9]; rfl) ?_
        refine lv_astore (lv' := [(6, .ref (gA g (3 * w + 2))), (4, .int (nI (f_no r (rHd r cn) 8 (nI j)))), (3, va_rf (c_col (gA g) (rHd r cn))), (0, .ref (gA g 0)), (1, .int (nI cn)), (2, .int (nI j))]) hx hb dX5_marked_42 hl (by decide) rfl (fun ls hl => ?_)
        refine lv_aload hx hb dX5_marked_44 (lv_at hl 0 rfl) ?_
        refine c_iVv F hK hR (v := w) (by omega) (show w ≤ rM r by omega) kw_classLink_RX5_99 dX5_marked_46 ?_
        refine lv_if_eq (tgt := 71) hx hb dX5_marked_49 (by decide) (fun h => absurd h (by decide)) (fun _ => ?_)
        refine lv_aload hx hb dX5_marked_52 (lv_at hl 0 rfl) ?_
        refine c_cV F hK hR (v := w) (by omega) (show w ≤ rM r by omega) kw_classLink_RX5_99 dX5_marked_54 ?_
        refine lv_astore (lv' := [(5, .ref (gA g (3 * w + 2))), (6, .ref (gA g (3 * w + 2))), (4, .int (nI (f_no r (rHd r cn) 8 (nI j)))), (3, va_rf (c_col (gA g) (rHd r cn))), (0, .ref (gA g 0)), (1, .int (nI cn)), (2, .int (nI j))]) hx hb dX5_marked_57 hl (by decide) rfl (fun ls hl => ?_)
        refine lv_aload hx hb dX5_marked_59 (lv_at hl 0 rfl) ?_
        refine c_gth F hK hR (v := w) (by omega) (show w ≤ rM r by omega) 1 (by decide) rfl kw_fieldLink_RX5_101 dX5_marked_61 ?_
        refine x_ifeq_b (tgt := 71) hx hb dX5_marked_64 (by decide) (fun h_64 => ?_) (fun h_64 => ?_)
        · refine lv_iconst (v := 0) hx hb dX5_marked_71 (by decide) ?_
          exact pv_iret F hr hlocks (by have e : f_marked r (nI cn) (nI j) = 0 := (by simp [f_marked, h_4, ix_nI (show cn < 2 ^ 31 by omega), ix_nI (show j < 2 ^ 31 by omega), h_28, hw0, lN_0 (show w < 2 ^ 31 by omega) hw1, iv_lN (show w < 2 ^ 31 by omega), b2i, h_64]); rw [e]) dX5_marked_72
        · refine lv_iconst (v := 1) hx hb dX5_marked_67 (by decide) ?_
          refine lv_goto (tgt := 72) hx hb dX5_marked_68 (by decide) ?_
          exact pv_iret F hr hlocks (by have e : f_marked r (nI cn) (nI j) = 1 := (by simp [f_marked, h_4, ix_nI (show cn < 2 ^ 31 by omega), ix_nI (show j < 2 ^ 31 by omega), h_28, hw0, lN_0 (show w < 2 ^ 31 by omega) hw1, iv_lN (show w < 2 ^ 31 by omega), b2i, h_64]); rw [e]) dX5_marked_72
      · omega
    · have h_28 : ¬ (f_no r (rHd r cn) 8 i) = 0 := nIne (show ¬ nI (f_no r (rHd r cn) 8 i) = nI 0 from h_28)
      refine lv_iload hx hb dX5_marked_31 (lv_at hl 0 rfl) ?_
      refine px_goV (st1 := [.int (-10 - (nI (f_no r (rHd r cn) 8 i)))]) (px_callS F hK (c_X5_against l D cy _ (nI (f_no r (rHd r cn) 8 i))) kc_X5_against kw_methodLink_RX5_34 rfl trivial rfl ⟨rfl, rfl⟩ ⟨Nat.le_of_ble_eq_true rfl, Nat.le_of_ble_eq_true rfl⟩ hl.1 rfl (Nat.le_of_ble_eq_true rfl) dX5_marked_33 ⟨Nat.zero_le _, Nat.zero_le _⟩) rfl ?_
      exact pv_iret F hr hlocks (by have e : f_marked r (nI cn) i = -10 - (nI (f_no r (rHd r cn) 8 i)) := (by simp [f_marked, h_4, ix_nI (show cn < 2 ^ 31 by omega), h_28]); rw [e]) dX5_marked_36
  · refine lv_bipush (v := -2) hx hb dX5_marked_7 (by decide) ?_
    exact pv_iret F hr hlocks (by have e : f_marked r cl i = (-2) := (by simp [f_marked, h_4] <;> rfl); rw [e]) dX5_marked_9
