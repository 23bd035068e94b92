/-! the class: putBits, place -/
set_option maxHeartbeats 400000 in
set_option maxRecDepth 100000 in
theorem c_X5_putBits (l : Launch) (D : va_G) (cy : Nat → ClassId) (A : Nat → Prop) (r : RS) (g : CG) (sz : Nat) (t : Nat) (vt : Value) (i : Int32) (b : Int64) (hvt : vt = va_rf (c_col (gA g) t)) (ht_t : t ≤ rT r) (hM30 : rMn r t ≤ 30) (hM0 : rMn r 0 ≤ 30) (hSI : SI r) (h8 : t ≠ 0 → rK r t < 8) : Met l yX5_putBits (px_w yX5_putBits cX5_putBits 6 (some .int)) (rmd 3 0 0) (px_P D cy [vt, .int i, .long b] sz (CR D cy A r g)) (px_Q (px_Cx D cy A g (some (.int (f_pb r t i b).2)) ((f_pb r t i b).1)) A) 0 0 A := by
  by_cases h0_t : t = 0
  · have e_vt : vt = .null := (hvt.trans (col_0 h0_t).symm)
    subst e_vt
    refine px_met (by decide) (Nat.le_of_ble_eq_true rfl) ?_
    intro p e s m below meth c F hr hlocks hnm hK hsz hR ls hl
    have hx := F.1
    have hb := F.2.1
    have hS : va_S A s.heap s.heap [] := va_S.rf
    have hlk := looked_le r t i
    have hlk0 : f_looked r 0 i = 1 := rfl
    have hl : lv_has ls 6 [(0, .null), (1, .int i), (2, .long b)] := hl
    refine lv_aload_nN hx hb dX5_putBits_0 rfl (lv_at hl 0 rfl) ?_
    refine lv_iload_n hx hb dX5_putBits_1 rfl (lv_at hl 1 rfl) ?_
    refine px_goV (st1 := [.int (nI (f_looked r 0 i))]) (px_callS F hK (c_X5_faultAt l D cy A r g _ 0 .null i (col_0 rfl) (Nat.zero_le _) (by omega)) kc_X5_faultAt kw_methodLink_RX5_108 rfl hR rfl ⟨rfl, rfl⟩ ⟨Nat.le_of_ble_eq_true rfl, Nat.le_of_ble_eq_true rfl⟩ hl.1 rfl (Nat.le_of_ble_eq_true rfl) dX5_putBits_2 ⟨Nat.zero_le _, Nat.zero_le _⟩) rfl ?_
    refine lv_istore (lv' := [(4, .int (nI (f_looked r 0 i))), (0, .null), (1, .int i), (2, .long b)]) hx hb dX5_putBits_5 hl (by decide) rfl (fun ls hl => ?_)
    refine lv_iload hx hb dX5_putBits_7 (lv_at hl 0 rfl) ?_
    refine lv_if_eq (tgt := 18) hx hb dX5_putBits_9 (by decide) (fun h_9 => by exfalso; have h_9 : (f_looked r 0 i) = 0 := nIeq (show nI (f_looked r 0 i) = nI 0 from h_9) (by omega) (by omega); omega) (fun h_9 => ?_)
    have h_9 : ¬ (f_looked r 0 i) = 0 := nIne (show ¬ nI (f_looked r 0 i) = nI 0 from h_9)
    refine lv_iload hx hb dX5_putBits_12 (lv_at hl 0 rfl) ?_
    refine px_goV (st1 := [.int (-10 - (nI (f_looked r 0 i)))]) (px_callS F hK (c_X5_against l D cy _ (nI (f_looked r 0 i))) kc_X5_against kw_methodLink_RX5_34 rfl trivial rfl ⟨rfl, rfl⟩ ⟨Nat.le_of_ble_eq_true rfl, Nat.le_of_ble_eq_true rfl⟩ hl.1 rfl (Nat.le_of_ble_eq_true rfl) dX5_putBits_14 ⟨Nat.zero_le _, Nat.zero_le _⟩) rfl ?_
    exact px_iret F hr hlocks hS (by have e : f_pb r t i b = (r, -10 - (nI (f_looked r 0 i))) := (by rw [h0_t]; simp [f_pb, hlk0]); rw [e]; exact ⟨rfl, hR⟩) dX5_putBits_17
  · have e_vt : vt = .ref (gA g (3 * t)) := (hvt.trans (col_t h0_t).symm)
    subst e_vt
    refine px_met (by decide) (Nat.le_of_ble_eq_true rfl) ?_
    intro p e s m below meth c F hr hlocks hnm hK hsz hR ls hl
    have hx := F.1
    have hb := F.2.1
    have hS : va_S A s.heap s.heap [] := va_S.rf
    have hlk := looked_le r t i
    have hlk0 : f_looked r 0 i = 1 := rfl
    have hl : lv_has ls 6 [(0, .ref (gA g (3 * t))), (1, .int i), (2, .long b)] := hl
    refine lv_aload_n hx hb dX5_putBits_0 rfl (lv_at hl 0 rfl) ?_
    refine lv_iload_n hx hb dX5_putBits_1 rfl (lv_at hl 1 rfl) ?_
    refine px_goV (st1 := [.int (nI (f_looked r t i))]) (px_callS F hK (c_X5_faultAt l D cy A r g _ t (.ref (gA g (3 * t))) i (col_t (by omega)) (by omega) (by omega)) kc_X5_faultAt kw_methodLink_RX5_108 rfl hR rfl ⟨rfl, rfl⟩ ⟨Nat.le_of_ble_eq_true rfl, Nat.le_of_ble_eq_true rfl⟩ hl.1 rfl (Nat.le_of_ble_eq_true rfl) dX5_putBits_2 ⟨Nat.zero_le _, Nat.zero_le _⟩) rfl ?_
    refine lv_istore (lv' := [(4, .int (nI (f_looked r t i))), (0, .ref (gA g (3 * t))), (1, .int i), (2, .long b)]) hx hb dX5_putBits_5 hl (by decide) rfl (fun ls hl => ?_)
    refine lv_iload hx hb dX5_putBits_7 (lv_at hl 0 rfl) ?_
    refine lv_if_eq (tgt := 18) hx hb dX5_putBits_9 (by decide) (fun h_9 => ?_) (fun h_9 => ?_)
    · have h_9 : (f_looked r t i) = 0 := nIeq (show nI (f_looked r t i) = nI 0 from h_9) (by omega) (by omega)
      obtain ⟨_, j, hj_j, rfl⟩ := looked_0 h_9 (by omega)
      refine lv_aload_n hx hb dX5_putBits_18 rfl (lv_at hl 1 rfl) ?_
      refine c_iP F hK hR (t := t) (by omega) (show t ≤ rT r by omega) kw_classLink_RX5_125 dX5_putBits_19 ?_
      refine x_ifeq_b (tgt := 47) hx hb dX5_putBits_22 (by decide) (fun h_22 => (of_decide_eq_false h_22 (h8 h0_t)).elim) (fun h_22 => ?_)
      refine lv_aload_n hx hb dX5_putBits_25 rfl (lv_at hl 1 rfl) ?_
      refine c_cP F hK hR (t := t) (by omega) (show t ≤ rT r by omega) (show rK r t < 8 by omega) kw_classLink_RX5_125 dX5_putBits_26 ?_
      refine lv_astore (lv' := [(5, .ref (gA g (3 * t))), (4, .int (nI (f_looked r t (nI j)))), (0, .ref (gA g (3 * t))), (1, .int (nI j)), (2, .long b)]) hx hb dX5_putBits_29 hl (by decide) rfl (fun ls hl => ?_)
      refine lv_aload hx hb dX5_putBits_31 (lv_at hl 0 rfl) ?_
      refine c_gbits F hK hR (t := t) (by omega) (show t ≤ rT r by omega) (show rK r t < 8 by omega) kw_fieldLink_RX5_183 dX5_putBits_33 ?_
      refine lv_iload_n hx hb dX5_putBits_36 rfl (lv_at hl 3 rfl) ?_
      refine lv_aload hx hb dX5_putBits_37 (lv_at hl 0 rfl) ?_
      refine c_gt F hK hR (t := t) (by omega) (show t ≤ rT r by omega) 0 (by decide) rfl kw_fieldLink_RX5_190 (fun x9 h9 => u_same (F.2.2.2.2 _ kw_sameField_Plain_Table_kind_I) x9 h9) dX5_putBits_39 ?_
      refine lv_lload_n hx hb dX5_putBits_42 rfl (lv_at hl 4 rfl) ?_
      refine px_goV (st1 := [.long (f_cut (rK r t) b), .int (nI j), .ref (gA g (3 * t + 1))]) (px_callS F hK (c_X5_keptBits l D cy _ (rK r t) b (by omega)) kc_X5_keptBits kw_methodLink_RX5_191 rfl trivial rfl ⟨rfl, rfl⟩ ⟨Nat.le_of_ble_eq_true rfl, Nat.le_of_ble_eq_true rfl⟩ hl.1 rfl (Nat.le_of_ble_eq_true rfl) dX5_putBits_43 ⟨Nat.zero_le _, Nat.zero_le _⟩) rfl ?_
      refine c_stbit F hK hR hS hSI (t := t) (by omega) (show t ≤ rT r by omega) (show rK r t < 8 by omega) (show rMn r t < 2 ^ 31 by omega) j (f_cut (rK r t) b) rfl rfl (show j < rMn r t by omega) dX5_putBits_46 (fun H locs hR hS => ?_)
      refine lv_iconst (v := 1) hx hb dX5_putBits_47 (by decide) ?_
      exact px_iret F hr hlocks hS (by have e : f_pb r t (nI j) b = (f_put r t j (f_cut (rK r t) b), 1) := (by simp [f_pb, h_9, ix_nI (show j < 2 ^ 31 by omega)]); rw [e]; exact ⟨rfl, hR⟩) dX5_putBits_48
    · have h_9 : ¬ (f_looked r t i) = 0 := nIne (show ¬ nI (f_looked r t i) = nI 0 from h_9)
      refine lv_iload hx hb dX5_putBits_12 (lv_at hl 0 rfl) ?_
      refine px_goV (st1 := [.int (-10 - (nI (f_looked r t i)))]) (px_callS F hK (c_X5_against l D cy _ (nI (f_looked r t i))) kc_X5_against kw_methodLink_RX5_34 rfl trivial rfl ⟨rfl, rfl⟩ ⟨Nat.le_of_ble_eq_true rfl, Nat.le_of_ble_eq_true rfl⟩ hl.1 rfl (Nat.le_of_ble_eq_true rfl) dX5_putBits_14 ⟨Nat.zero_le _, Nat.zero_le _⟩) rfl ?_
      exact px_iret F hr hlocks hS (by have e : f_pb r t i b = (r, -10 - (nI (f_looked r t i))) := (by simp [f_pb, h_9]); rw [e]; exact ⟨rfl, hR⟩) dX5_putBits_17
set_option maxHeartbeats 400000 in
set_option maxRecDepth 100000 in
theorem c_X5_place (l : Launch) (D : va_G) (cy : Nat → ClassId) (A : Nat → Prop) (r : RS) (g : CG) (sz : Nat) (t : Nat) (vt : Value) (ty w : Nat) (vo : Value) (i : Int32) (hvt : vt = va_rf (c_col (gA g) t)) (ht_t : t ≤ rT r) (hvo : vo = va_rf (c_obj (gA g) ty w)) (ho_w : o_ok r ty w) (hM30 : rMn r t ≤ 30) (hM0 : rMn r 0 ≤ 30) (hSI : SI r) (hK1 : rK r t < 100) (hkw : rK r w < 100) (hwb : w < 2 ^ 31) : Met l yX5_place (px_w yX5_place cX5_place 5 (some .int)) (rmd 4 0 0) (px_P D cy [vt, .int i, vo] sz (CR D cy A r g)) (px_Q (px_Cx D cy A g (some (.int (f_place r t i ty w).2)) ((f_place r t i ty w).1)) A) 0 0 A := by
  by_cases h0_t : t = 0
  · have e_vt : vt = .null := (hvt.trans (col_0 h0_t).symm)
    subst e_vt
    rcases ho_w with rfl | ⟨rfl, hw1_w, hw2_w⟩ | ⟨rfl, hw1_w, hw2_w⟩
    · have e_vo : vo = .null := hvo
      subst e_vo
      refine px_met (by decide) (Nat.le_of_ble_eq_true rfl) ?_
      intro p e s m below meth c F hr hlocks hnm hK hsz hR ls hl
      have hx := F.1
      have hb := F.2.1
      have hS : va_S A s.heap s.heap [] := va_S.rf
      have hlk := looked_le r t i
      have hlk0 : f_looked r 0 i = 1 := rfl
      have hl : lv_has ls 5 [(0, .null), (1, .int i), (2, .null)] := hl
      refine lv_aload_nN hx hb dX5_place_0 rfl (lv_at hl 0 rfl) ?_
      refine lv_iload_n hx hb dX5_place_1 rfl (lv_at hl 1 rfl) ?_
      refine px_goV (st1 := [.int (nI (f_looked r 0 i))]) (px_callS F hK (c_X5_faultAt l D cy A r g _ 0 .null i (col_0 rfl) (Nat.zero_le _) (by omega)) kc_X5_faultAt kw_methodLink_RX5_108 rfl hR rfl ⟨rfl, rfl⟩ ⟨Nat.le_of_ble_eq_true rfl, Nat.le_of_ble_eq_true rfl⟩ hl.1 rfl (Nat.le_of_ble_eq_true rfl) dX5_place_2 ⟨Nat.zero_le _, Nat.zero_le _⟩) rfl ?_
      refine lv_istore_n (lv' := [(3, .int (nI (f_looked r 0 i))), (0, .null), (1, .int i), (2, .null)]) hx hb dX5_place_5 rfl hl (by decide) rfl (fun ls hl => ?_)
      refine lv_iload_n hx hb dX5_place_6 rfl (lv_at hl 0 rfl) ?_
      refine lv_if_eq (tgt := 15) hx hb dX5_place_7 (by decide) (fun h_7 => by exfalso; have h_7 : (f_looked r 0 i) = 0 := nIeq (show nI (f_looked r 0 i) = nI 0 from h_7) (by omega) (by omega); omega) (fun h_7 => ?_)
      have h_7 : ¬ (f_looked r 0 i) = 0 := nIne (show ¬ nI (f_looked r 0 i) = nI 0 from h_7)
      refine lv_iload_n hx hb dX5_place_10 rfl (lv_at hl 0 rfl) ?_
      refine px_goV (st1 := [.int (-10 - (nI (f_looked r 0 i)))]) (px_callS F hK (c_X5_against l D cy _ (nI (f_looked r 0 i))) kc_X5_against kw_methodLink_RX5_34 rfl trivial rfl ⟨rfl, rfl⟩ ⟨Nat.le_of_ble_eq_true rfl, Nat.le_of_ble_eq_true rfl⟩ hl.1 rfl (Nat.le_of_ble_eq_true rfl) dX5_place_11 ⟨Nat.zero_le _, Nat.zero_le _⟩) rfl ?_
      exact px_iret F hr hlocks hS (by have e : f_place r t i 0 w = (r, -10 - (nI (f_looked r 0 i))) := (by rw [h0_t]; simp [f_place, hlk0]); rw [e]; exact ⟨rfl, hR⟩) dX5_place_14
    · have e_vo : vo = .ref (gA g (3 * w + 2)) := hvo
      subst e_vo
      refine px_met (by decide) (Nat.le_of_ble_eq_true rfl) ?_
      intro p e s m below meth c F hr hlocks hnm hK hsz hR ls hl
      have hx := F.1
      have hb := F.2.1
      have hS : va_S A s.heap s.heap [] := va_S.rf
      have hlk := looked_le r t i
      have hlk0 : f_looked r 0 i = 1 := rfl
      have hl : lv_has ls 5 [(0, .null), (1, .int i), (2, .ref (gA g (3 * w + 2)))] := hl
      refine lv_aload_nN hx hb dX5_place_0 rfl (lv_at hl 0 rfl) ?_
      refine lv_iload_n hx hb dX5_place_1 rfl (lv_at hl 1 rfl) ?_
      refine px_goV (st1 := [.int (nI (f_looked r 0 i))]) (px_callS F hK (c_X5_faultAt l D cy A r g _ 0 .null i (col_0 rfl) (Nat.zero_le _) (by omega)) kc_X5_faultAt kw_methodLink_RX5_108 rfl hR rfl ⟨rfl, rfl⟩ ⟨Nat.le_of_ble_eq_true rfl, Nat.le_of_ble_eq_true rfl⟩ hl.1 rfl (Nat.le_of_ble_eq_true rfl) dX5_place_2 ⟨Nat.zero_le _, Nat.zero_le _⟩) rfl ?_
      refine lv_istore_n (lv' := [(3, .int (nI (f_looked r 0 i))), (0, .null), (1, .int i), (2, .ref (gA g (3 * w + 2)))]) hx hb dX5_place_5 rfl hl (by decide) rfl (fun ls hl => ?_)
      refine lv_iload_n hx hb dX5_place_6 rfl (lv_at hl 0 rfl) ?_
      refine lv_if_eq (tgt := 15) hx hb dX5_place_7 (by decide) (fun h_7 => by exfalso; have h_7 : (f_looked r 0 i) = 0 := nIeq (show nI (f_looked r 0 i) = nI 0 from h_7) (by omega) (by omega); omega) (fun h_7 => ?_)
      have h_7 : ¬ (f_looked r 0 i) = 0 := nIne (show ¬ nI (f_looked r 0 i) = nI 0 from h_7)
      refine lv_iload_n hx hb dX5_place_10 rfl (lv_at hl 0 rfl) ?_
      refine px_goV (st1 := [.int (-10 - (nI (f_looked r 0 i)))]) (px_callS F hK (c_X5_against l D cy _ (nI (f_looked r 0 i))) kc_X5_against kw_methodLink_RX5_34 rfl trivial rfl ⟨rfl, rfl⟩ ⟨Nat.le_of_ble_eq_true rfl, Nat.le_of_ble_eq_true rfl⟩ hl.1 rfl (Nat.le_of_ble_eq_true rfl) dX5_place_11 ⟨Nat.zero_le _, Nat.zero_le _⟩) rfl ?_
      exact px_iret F hr hlocks hS (by have e : f_place r t i 1 w = (r, -10 - (nI (f_looked r 0 i))) := (by rw [h0_t]; simp [f_place, hlk0]); rw [e]; exact ⟨rfl, hR⟩) dX5_place_14
    · have e_vo : vo = .ref (gA g (3 * w)) := hvo
      subst e_vo
      refine px_met (by decide) (Nat.le_of_ble_eq_true rfl) ?_
      intro p e s m below meth c F hr hlocks hnm hK hsz hR ls hl
      have hx := F.1
      have hb := F.2.1
      have hS : va_S A s.heap s.heap [] := va_S.rf
      have hlk := looked_le r t i
      have hlk0 : f_looked r 0 i = 1 := rfl
      have hl : lv_has ls 5 [(0, .null), (1, .int i), (2, .ref (gA g (3 * w)))] := hl
      refine lv_aload_nN hx hb dX5_place_0 rfl (lv_at hl 0 rfl) ?_
      refine lv_iload_n hx hb dX5_place_1 rfl (lv_at hl 1 rfl) ?_
      refine px_goV (st1 := [.int (nI (f_looked r 0 i))]) (px_callS F hK (c_X5_faultAt l D cy A r g _ 0 .null i (col_0 rfl) (Nat.zero_le _) (by omega)) kc_X5_faultAt kw_methodLink_RX5_108 rfl hR rfl ⟨rfl, rfl⟩ ⟨Nat.le_of_ble_eq_true rfl, Nat.le_of_ble_eq_true rfl⟩ hl.1 rfl (Nat.le_of_ble_eq_true rfl) dX5_place_2 ⟨Nat.zero_le _, Nat.zero_le _⟩) rfl ?_
      refine lv_istore_n (lv' := [(3, .int (nI (f_looked r 0 i))), (0, .null), (1, .int i), (2, .ref (gA g (3 * w)))]) hx hb dX5_place_5 rfl hl (by decide) rfl (fun ls hl => ?_)
      refine lv_iload_n hx hb dX5_place_6 rfl (lv_at hl 0 rfl) ?_
      refine lv_if_eq (tgt := 15) hx hb dX5_place_7 (by decide) (fun h_7 => by exfalso; have h_7 : (f_looked r 0 i) = 0 := nIeq (show nI (f_looked r 0 i) = nI 0 from h_7) (by omega) (by omega); omega) (fun h_7 => ?_)
      have h_7 : ¬ (f_looked r 0 i) = 0 := nIne (show ¬ nI (f_looked r 0 i) = nI 0 from h_7)
      refine lv_iload_n hx hb dX5_place_10 rfl (lv_at hl 0 rfl) ?_
      refine px_goV (st1 := [.int (-10 - (nI (f_looked r 0 i)))]) (px_callS F hK (c_X5_against l D cy _ (nI (f_looked r 0 i))) kc_X5_against kw_methodLink_RX5_34 rfl trivial rfl ⟨rfl, rfl⟩ ⟨Nat.le_of_ble_eq_true rfl, Nat.le_of_ble_eq_true rfl⟩ hl.1 rfl (Nat.le_of_ble_eq_true rfl) dX5_place_11 ⟨Nat.zero_le _, Nat.zero_le _⟩) rfl ?_
      exact px_iret F hr hlocks hS (by have e : f_place r t i 2 w = (r, -10 - (nI (f_looked r 0 i))) := (by rw [h0_t]; simp [f_place, hlk0]); rw [e]; exact ⟨rfl, hR⟩) dX5_place_14
  · have e_vt : vt = .ref (gA g (3 * t)) := (hvt.trans (col_t h0_t).symm)
    subst e_vt
    rcases ho_w with rfl | ⟨rfl, hw1_w, hw2_w⟩ | ⟨rfl, hw1_w, hw2_w⟩
    · have e_vo : vo = .null := hvo
      subst e_vo
      refine px_met (by decide) (Nat.le_of_ble_eq_true rfl) ?_
      intro p e s m below meth c F hr hlocks hnm hK hsz hR ls hl
      have hx := F.1
      have hb := F.2.1
      have hS : va_S A s.heap s.heap [] := va_S.rf
      have hlk := looked_le r t i
      have hlk0 : f_looked r 0 i = 1 := rfl
      have hl : lv_has ls 5 [(0, .ref (gA g (3 * t))), (1, .int i), (2, .null)] := hl
      refine lv_aload_n hx hb dX5_place_0 rfl (lv_at hl 0 rfl) ?_
      refine lv_iload_n hx hb dX5_place_1 rfl (lv_at hl 1 rfl) ?_
      refine px_goV (st1 := [.int (nI (f_looked r t i))]) (px_callS F hK (c_X5_faultAt l D cy A r g _ t (.ref (gA g (3 * t))) i (col_t (by omega)) (by omega) (by omega)) kc_X5_faultAt kw_methodLink_RX5_108 rfl hR rfl ⟨rfl, rfl⟩ ⟨Nat.le_of_ble_eq_true rfl, Nat.le_of_ble_eq_true rfl⟩ hl.1 rfl (Nat.le_of_ble_eq_true rfl) dX5_place_2 ⟨Nat.zero_le _, Nat.zero_le _⟩) rfl ?_
      refine lv_istore_n (lv' := [(3, .int (nI (f_looked r t i))), (0, .ref (gA g (3 * t))), (1, .int i), (2, .null)]) hx hb dX5_place_5 rfl hl (by decide) rfl (fun ls hl => ?_)
      refine lv_iload_n hx hb dX5_place_6 rfl (lv_at hl 0 rfl) ?_
      refine lv_if_eq (tgt := 15) hx hb dX5_place_7 (by decide) (fun h_7 => ?_) (fun h_7 => ?_)
      · have h_7 : (f_looked r t i) = 0 := nIeq (show nI (f_looked r t i) = nI 0 from h_7) (by omega) (by omega)
        obtain ⟨_, j, hj_j, rfl⟩ := looked_0 h_7 (by omega)
        refine lv_aload_n hx hb dX5_place_15 rfl (lv_at hl 1 rfl) ?_
        refine c_iH F hK hR (t := t) (by omega) (show t ≤ rT r by omega) kw_classLink_RX5_158 dX5_place_16 ?_
        refine x_ifeq_b (tgt := 50) hx hb dX5_place_19 (by decide) (fun h_19 => ?_) (fun h_19 => ?_)
        · have h_19 : ¬ (8 ≤ rK r t) := of_decide_eq_false h_19
          refine lv_iconst (v := 5) hx hb dX5_place_50 (by decide) ?_
          refine px_goV (st1 := [.int (-15)]) (px_callS F hK (c_X5_against l D cy _ 5) kc_X5_against kw_methodLink_RX5_34 rfl trivial rfl ⟨rfl, rfl⟩ ⟨Nat.le_of_ble_eq_true rfl, Nat.le_of_ble_eq_true rfl⟩ hl.1 rfl (Nat.le_of_ble_eq_true rfl) dX5_place_51 ⟨Nat.zero_le _, Nat.zero_le _⟩) rfl ?_
          exact px_iret F hr hlocks hS (by have e : f_place r t (nI j) 0 w = (r, (-15)) := (by unfold f_place; rw [if_neg (fun q => q h_7)]; rw [if_neg (fun q => absurd q.1 (by omega))]); rw [e]; exact ⟨rfl, hR⟩) dX5_place_54
        · have h_19 : 8 ≤ rK r t := of_decide_eq_true h_19
          refine lv_aload_n hx hb dX5_place_22 rfl (lv_at hl 1 rfl) ?_
          refine c_cH F hK hR (t := t) (by omega) (show t ≤ rT r by omega) (show 8 ≤ rK r t by omega) kw_classLink_RX5_158 dX5_place_23 ?_
          refine lv_astore (lv' := [(4, .ref (gA g (3 * t))), (3, .int (nI (f_looked r t (nI j)))), (0, .ref (gA g (3 * t))), (1, .int (nI j)), (2, .null)]) hx hb dX5_place_26 hl (by decide) rfl (fun ls hl => ?_)
          refine lv_aload_nN hx hb dX5_place_28 rfl (lv_at hl 4 rfl) ?_
          refine lv_aload hx hb dX5_place_29 (lv_at hl 0 rfl) ?_
          refine c_gt F hK hR (t := t) (by omega) (show t ≤ rT r by omega) 0 (by decide) rfl kw_fieldLink_RX5_195 (fun x9 h9 => u_same (F.2.2.2.2 _ kw_sameField_Holder_Table_kind_I) x9 h9) dX5_place_31 ?_
          refine px_goV (st1 := [.int (b2i (f_cs r 0 w (rK r t)))]) (px_callS F hK (c_X5_canStand l D cy A r g _ 0 w .null (rK r t) rfl (Or.inl rfl) (by omega) (by omega)) kc_X5_canStand kw_methodLink_RX5_196 rfl hR rfl ⟨rfl, rfl⟩ ⟨Nat.le_of_ble_eq_true rfl, Nat.le_of_ble_eq_true rfl⟩ hl.1 rfl (Nat.le_of_ble_eq_true rfl) dX5_place_34 ⟨Nat.zero_le _, Nat.zero_le _⟩) rfl ?_
          refine x_ifeq_b (tgt := 50) hx hb dX5_place_37 (by decide) (fun h_37 => ?_) (fun h_37 => ?_)
          · refine lv_iconst (v := 5) hx hb dX5_place_50 (by decide) ?_
            refine px_goV (st1 := [.int (-15)]) (px_callS F hK (c_X5_against l D cy _ 5) kc_X5_against kw_methodLink_RX5_34 rfl trivial rfl ⟨rfl, rfl⟩ ⟨Nat.le_of_ble_eq_true rfl, Nat.le_of_ble_eq_true rfl⟩ hl.1 rfl (Nat.le_of_ble_eq_true rfl) dX5_place_51 ⟨Nat.zero_le _, Nat.zero_le _⟩) rfl ?_
            exact px_iret F hr hlocks hS (by have e : f_place r t (nI j) 0 w = (r, (-15)) := (by unfold f_place; rw [if_neg (fun q => q h_7)]; rw [if_neg (fun q => absurd (h_37.symm.trans q.2) (by decide))]); rw [e]; exact ⟨rfl, hR⟩) dX5_place_54
          · refine lv_aload hx hb dX5_place_40 (lv_at hl 0 rfl) ?_
            refine c_gitems F hK hR (t := t) (by omega) (show t ≤ rT r by omega) (show 8 ≤ rK r t by omega) kw_fieldLink_RX5_179 dX5_place_42 ?_
            refine lv_iload_n hx hb dX5_place_45 rfl (lv_at hl 3 rfl) ?_
            refine lv_aload_nN hx hb dX5_place_46 rfl (lv_at hl 4 rfl) ?_
            have hcr := cs_ref (r := r) (gA g) (Or.inl rfl) (by omega) hkw h_19 h_37
            refine c_stitem F hK hR hS hSI (t := t) h0_t ht_t h_19 (by omega) j (o_v 0 w) rfl (by rw [hcr]; rfl) (by rw [hcr]; exact obj_any hK hR (Or.inl rfl)) hj_j dX5_place_47 (fun H locs hR hS => ?_)
            refine lv_iconst (v := 1) hx hb dX5_place_48 (by decide) ?_
            exact px_iret F hr hlocks hS (by have e : f_place r t (nI j) 0 w = (f_put r t j (o_v 0 w), 1) := (by unfold f_place; rw [if_neg (fun q => q h_7)]; rw [if_pos ⟨h_19, h_37⟩, ix_nI (show j < 2 ^ 31 by omega)]); rw [e]; exact ⟨rfl, hR⟩) dX5_place_49
      · have h_7 : ¬ (f_looked r t i) = 0 := nIne (show ¬ nI (f_looked r t i) = nI 0 from h_7)
        refine lv_iload_n hx hb dX5_place_10 rfl (lv_at hl 0 rfl) ?_
        refine px_goV (st1 := [.int (-10 - (nI (f_looked r t i)))]) (px_callS F hK (c_X5_against l D cy _ (nI (f_looked r t i))) kc_X5_against kw_methodLink_RX5_34 rfl trivial rfl ⟨rfl, rfl⟩ ⟨Nat.le_of_ble_eq_true rfl, Nat.le_of_ble_eq_true rfl⟩ hl.1 rfl (Nat.le_of_ble_eq_true rfl) dX5_place_11 ⟨Nat.zero_le _, Nat.zero_le _⟩) rfl ?_
        exact px_iret F hr hlocks hS (by have e : f_place r t i 0 w = (r, -10 - (nI (f_looked r t i))) := (by simp [f_place, h_7]); rw [e]; exact ⟨rfl, hR⟩) dX5_place_14
    · have e_vo : vo = .ref (gA g (3 * w + 2)) := hvo
      subst e_vo
      refine px_met (by decide) (Nat.le_of_ble_eq_true rfl) ?_
      intro p e s m below meth c F hr hlocks hnm hK hsz hR ls hl
      have hx := F.1
      have hb := F.2.1
      have hS : va_S A s.heap s.heap [] := va_S.rf
      have hlk := looked_le r t i
      have hlk0 : f_looked r 0 i = 1 := rfl
      have hl : lv_has ls 5 [(0, .ref (gA g (3 * t))), (1, .int i), (2, .ref (gA g (3 * w + 2)))] := hl
      refine lv_aload_n hx hb dX5_place_0 rfl (lv_at hl 0 rfl) ?_
      refine lv_iload_n hx hb dX5_place_1 rfl (lv_at hl 1 rfl) ?_
      refine px_goV (st1 := [.int (nI (f_looked r t i))]) (px_callS F hK (c_X5_faultAt l D cy A r g _ t (.ref (gA g (3 * t))) i (col_t (by omega)) (by omega) (by omega)) kc_X5_faultAt kw_methodLink_RX5_108 rfl hR rfl ⟨rfl, rfl⟩ ⟨Nat.le_of_ble_eq_true rfl, Nat.le_of_ble_eq_true rfl⟩ hl.1 rfl (Nat.le_of_ble_eq_true rfl) dX5_place_2 ⟨Nat.zero_le _, Nat.zero_le _⟩) rfl ?_
      refine lv_istore_n (lv' := [(3, .int (nI (f_looked r t i))), (0, .ref (gA g (3 * t))), (1, .int i), (2, .ref (gA g (3 * w + 2)))]) hx hb dX5_place_5 rfl hl (by decide) rfl (fun ls hl => ?_)
      refine lv_iload_n hx hb dX5_place_6 rfl (lv_at hl 0 rfl) ?_
      refine lv_if_eq (tgt := 15) hx hb dX5_place_7 (by decide) (fun h_7 => ?_) (fun h_7 => ?_)
      · have h_7 : (f_looked r t i) = 0 := nIeq (show nI (f_looked r t i) = nI 0 from h_7) (by omega) (by omega)
        obtain ⟨_, j, hj_j, rfl⟩ := looked_0 h_7 (by omega)
        refine lv_aload_n hx hb dX5_place_15 rfl (lv_at hl 1 rfl) ?_
        refine c_iH F hK hR (t := t) (by omega) (show t ≤ rT r by omega) kw_classLink_RX5_158 dX5_place_16 ?_
        refine x_ifeq_b (tgt := 50) hx hb dX5_place_19 (by decide) (fun h_19 => ?_) (fun h_19 => ?_)
        · have h_19 : ¬ (8 ≤ rK r t) := of_decide_eq_false h_19
          refine lv_iconst (v := 5) hx hb dX5_place_50 (by decide) ?_
          refine px_goV (st1 := [.int (-15)]) (px_callS F hK (c_X5_against l D cy _ 5) kc_X5_against kw_methodLink_RX5_34 rfl trivial rfl ⟨rfl, rfl⟩ ⟨Nat.le_of_ble_eq_true rfl, Nat.le_of_ble_eq_true rfl⟩ hl.1 rfl (Nat.le_of_ble_eq_true rfl) dX5_place_51 ⟨Nat.zero_le _, Nat.zero_le _⟩) rfl ?_
          exact px_iret F hr hlocks hS (by have e : f_place r t (nI j) 1 w = (r, (-15)) := (by unfold f_place; rw [if_neg (fun q => q h_7)]; rw [if_neg (fun q => absurd q.1 (by omega))]); rw [e]; exact ⟨rfl, hR⟩) dX5_place_54
        · have h_19 : 8 ≤ rK r t := of_decide_eq_true h_19
          refine lv_aload_n hx hb dX5_place_22 rfl (lv_at hl 1 rfl) ?_
          refine c_cH F hK hR (t := t) (by omega) (show t ≤ rT r by omega) (show 8 ≤ rK r t by omega) kw_classLink_RX5_158 dX5_place_23 ?_
          refine lv_astore (lv' := [(4, .ref (gA g (3 * t))), (3, .int (nI (f_looked r t (nI j)))), (0, .ref (gA g (3 * t))), (1, .int (nI j)), (2, .ref (gA g (3 * w + 2)))]) hx hb dX5_place_26 hl (by decide) rfl (fun ls hl => ?_)
          refine lv_aload_n hx hb dX5_place_28 rfl (lv_at hl 4 rfl) ?_
          refine lv_aload hx hb dX5_place_29 (lv_at hl 0 rfl) ?_
          refine c_gt F hK hR (t := t) (by omega) (show t ≤ rT r by omega) 0 (by decide) rfl kw_fieldLink_RX5_195 (fun x9 h9 => u_same (F.2.2.2.2 _ kw_sameField_Holder_Table_kind_I) x9 h9) dX5_place_31 ?_
          refine px_goV (st1 := [.int (b2i (f_cs r 1 w (rK r t)))]) (px_callS F hK (c_X5_canStand l D cy A r g _ 1 w (.ref (gA g (3 * w + 2))) (rK r t) rfl (Or.inr (Or.inl ⟨rfl, by omega, by omega⟩)) (by omega) (by omega)) kc_X5_canStand kw_methodLink_RX5_196 rfl hR rfl ⟨rfl, rfl⟩ ⟨Nat.le_of_ble_eq_true rfl, Nat.le_of_ble_eq_true rfl⟩ hl.1 rfl (Nat.le_of_ble_eq_true rfl) dX5_place_34 ⟨Nat.zero_le _, Nat.zero_le _⟩) rfl ?_
          refine x_ifeq_b (tgt := 50) hx hb dX5_place_37 (by decide) (fun h_37 => ?_) (fun h_37 => ?_)
          · refine lv_iconst (v := 5) hx hb dX5_place_50 (by decide) ?_
            refine px_goV (st1 := [.int (-15)]) (px_callS F hK (c_X5_against l D cy _ 5) kc_X5_against kw_methodLink_RX5_34 rfl trivial rfl ⟨rfl, rfl⟩ ⟨Nat.le_of_ble_eq_true rfl, Nat.le_of_ble_eq_true rfl⟩ hl.1 rfl (Nat.le_of_ble_eq_true rfl) dX5_place_51 ⟨Nat.zero_le _, Nat.zero_le _⟩) rfl ?_
            exact px_iret F hr hlocks hS (by have e : f_place r t (nI j) 1 w = (r, (-15)) := (by unfold f_place; rw [if_neg (fun q => q h_7)]; rw [if_neg (fun q => absurd (h_37.symm.trans q.2) (by decide))]); rw [e]; exact ⟨rfl, hR⟩) dX5_place_54
          · refine lv_aload hx hb dX5_place_40 (lv_at hl 0 rfl) ?_
            refine c_gitems F hK hR (t := t) (by omega) (show t ≤ rT r by omega) (show 8 ≤ rK r t by omega) kw_fieldLink_RX5_179 dX5_place_42 ?_
            refine lv_iload_n hx hb dX5_place_45 rfl (lv_at hl 3 rfl) ?_
            refine lv_aload_n hx hb dX5_place_46 rfl (lv_at hl 4 rfl) ?_
            have hcr := cs_ref (r := r) (gA g) (Or.inr (Or.inl ⟨rfl, hw1_w, hw2_w⟩)) (by omega) hkw h_19 h_37
            refine c_stitem F hK hR hS hSI (t := t) h0_t ht_t h_19 (by omega) j (o_v 1 w) rfl (by rw [hcr]; rfl) (by rw [hcr]; exact obj_any hK hR (Or.inr (Or.inl ⟨rfl, hw1_w, hw2_w⟩))) hj_j dX5_place_47 (fun H locs hR hS => ?_)
            refine lv_iconst (v := 1) hx hb dX5_place_48 (by decide) ?_
            exact px_iret F hr hlocks hS (by have e : f_place r t (nI j) 1 w = (f_put r t j (o_v 1 w), 1) := (by unfold f_place; rw [if_neg (fun q => q h_7)]; rw [if_pos ⟨h_19, h_37⟩, ix_nI (show j < 2 ^ 31 by omega)]); rw [e]; exact ⟨rfl, hR⟩) dX5_place_49
      · have h_7 : ¬ (f_looked r t i) = 0 := nIne (show ¬ nI (f_looked r t i) = nI 0 from h_7)
        refine lv_iload_n hx hb dX5_place_10 rfl (lv_at hl 0 rfl) ?_
        refine px_goV (st1 := [.int (-10 - (nI (f_looked r t i)))]) (px_callS F hK (c_X5_against l D cy _ (nI (f_looked r t i))) kc_X5_against kw_methodLink_RX5_34 rfl trivial rfl ⟨rfl, rfl⟩ ⟨Nat.le_of_ble_eq_true rfl, Nat.le_of_ble_eq_true rfl⟩ hl.1 rfl (Nat.le_of_ble_eq_true rfl) dX5_place_11 ⟨Nat.zero_le _, Nat.zero_le _⟩) rfl ?_
        exact px_iret F hr hlocks hS (by have e : f_place r t i 1 w = (r, -10 - (nI (f_looked r t i))) := (by simp [f_place, h_7]); rw [e]; exact ⟨rfl, hR⟩) dX5_place_14
    · have e_vo : vo = .ref (gA g (3 * w)) := hvo
      subst e_vo
      refine px_met (by decide) (Nat.le_of_ble_eq_true rfl) ?_
      intro p e s m below meth c F hr hlocks hnm hK hsz hR ls hl
      have hx := F.1
      have hb := F.2.1
      have hS : va_S A s.heap s.heap [] := va_S.rf
      have hlk := looked_le r t i
      have hlk0 : f_looked r 0 i = 1 := rfl
      have hl : lv_has ls 5 [(0, .ref (gA g (3 * t))), (1, .int i), (2, .ref (gA g (3 * w)))] := hl
      refine lv_aload_n hx hb dX5_place_0 rfl (lv_at hl 0 rfl) ?_
      refine lv_iload_n hx hb dX5_place_1 rfl (lv_at hl 1 rfl) ?_
      refine px_goV (st1 := [.int (nI (f_looked r t i))]) (px_callS F hK (c_X5_faultAt l D cy A r g _ t (.ref (gA g (3 * t))) i (col_t (by omega)) (by omega) (by omega)) kc_X5_faultAt kw_methodLink_RX5_108 rfl hR rfl ⟨rfl, rfl⟩ ⟨Nat.le_of_ble_eq_true rfl, Nat.le_of_ble_eq_true rfl⟩ hl.1 rfl (Nat.le_of_ble_eq_true rfl) dX5_place_2 ⟨Nat.zero_le _, Nat.zero_le _⟩) rfl ?_
      refine lv_istore_n (lv' := [(3, .int (nI (f_looked r t i))), (0, .ref (gA g (3 * t))), (1, .int i), (2, .ref (gA g (3 * w)))]) hx hb dX5_place_5 rfl hl (by decide) rfl (fun ls hl => ?_)
      refine lv_iload_n hx hb dX5_place_6 rfl (lv_at hl 0 rfl) ?_
      refine lv_if_eq (tgt := 15) hx hb dX5_place_7 (by decide) (fun h_7 => ?_) (fun h_7 => ?_)
      · have h_7 : (f_looked r t i) = 0 := nIeq (show nI (f_looked r t i) = nI 0 from h_7) (by omega) (by omega)
        obtain ⟨_, j, hj_j, rfl⟩ := looked_0 h_7 (by omega)
        refine lv_aload_n hx hb dX5_place_15 rfl (lv_at hl 1 rfl) ?_
        refine c_iH F hK hR (t := t) (by omega) (show t ≤ rT r by omega) kw_classLink_RX5_158 dX5_place_16 ?_
        refine x_ifeq_b (tgt := 50) hx hb dX5_place_19 (by decide) (fun h_19 => ?_) (fun h_19 => ?_)
        · have h_19 : ¬ (8 ≤ rK r t) := of_decide_eq_false h_19
          refine lv_iconst (v := 5) hx hb dX5_place_50 (by decide) ?_
          refine px_goV (st1 := [.int (-15)]) (px_callS F hK (c_X5_against l D cy _ 5) kc_X5_against kw_methodLink_RX5_34 rfl trivial rfl ⟨rfl, rfl⟩ ⟨Nat.le_of_ble_eq_true rfl, Nat.le_of_ble_eq_true rfl⟩ hl.1 rfl (Nat.le_of_ble_eq_true rfl) dX5_place_51 ⟨Nat.zero_le _, Nat.zero_le _⟩) rfl ?_
          exact px_iret F hr hlocks hS (by have e : f_place r t (nI j) 2 w = (r, (-15)) := (by unfold f_place; rw [if_neg (fun q => q h_7)]; rw [if_neg (fun q => absurd q.1 (by omega))]); rw [e]; exact ⟨rfl, hR⟩) dX5_place_54
        · have h_19 : 8 ≤ rK r t := of_decide_eq_true h_19
          refine lv_aload_n hx hb dX5_place_22 rfl (lv_at hl 1 rfl) ?_
          refine c_cH F hK hR (t := t) (by omega) (show t ≤ rT r by omega) (show 8 ≤ rK r t by omega) kw_classLink_RX5_158 dX5_place_23 ?_
          refine lv_astore (lv' := [(4, .ref (gA g (3 * t))), (3, .int (nI (f_looked r t (nI j)))), (0, .ref (gA g (3 * t))), (1, .int (nI j)), (2, .ref (gA g (3 * w)))]) hx hb dX5_place_26 hl (by decide) rfl (fun ls hl => ?_)
          refine lv_aload_n hx hb dX5_place_28 rfl (lv_at hl 4 rfl) ?_
          refine lv_aload hx hb dX5_place_29 (lv_at hl 0 rfl) ?_
          refine c_gt F hK hR (t := t) (by omega) (show t ≤ rT r by omega) 0 (by decide) rfl kw_fieldLink_RX5_195 (fun x9 h9 => u_same (F.2.2.2.2 _ kw_sameField_Holder_Table_kind_I) x9 h9) dX5_place_31 ?_
          refine px_goV (st1 := [.int (b2i (f_cs r 2 w (rK r t)))]) (px_callS F hK (c_X5_canStand l D cy A r g _ 2 w (.ref (gA g (3 * w))) (rK r t) rfl (Or.inr (Or.inr ⟨rfl, by omega, by omega⟩)) (by omega) (by omega)) kc_X5_canStand kw_methodLink_RX5_196 rfl hR rfl ⟨rfl, rfl⟩ ⟨Nat.le_of_ble_eq_true rfl, Nat.le_of_ble_eq_true rfl⟩ hl.1 rfl (Nat.le_of_ble_eq_true rfl) dX5_place_34 ⟨Nat.zero_le _, Nat.zero_le _⟩) rfl ?_
          refine x_ifeq_b (tgt := 50) hx hb dX5_place_37 (by decide) (fun h_37 => ?_) (fun h_37 => ?_)
          · refine lv_iconst (v := 5) hx hb dX5_place_50 (by decide) ?_
            refine px_goV (st1 := [.int (-15)]) (px_callS F hK (c_X5_against l D cy _ 5) kc_X5_against kw_methodLink_RX5_34 rfl trivial rfl ⟨rfl, rfl⟩ ⟨Nat.le_of_ble_eq_true rfl, Nat.le_of_ble_eq_true rfl⟩ hl.1 rfl (Nat.le_of_ble_eq_true rfl) dX5_place_51 ⟨Nat.zero_le _, Nat.zero_le _⟩) rfl ?_
            exact px_iret F hr hlocks hS (by have e : f_place r t (nI j) 2 w = (r, (-15)) := (by unfold f_place; rw [if_neg (fun q => q h_7)]; rw [if_neg (fun q => absurd (h_37.symm.trans q.2) (by decide))]); rw [e]; exact ⟨rfl, hR⟩) dX5_place_54
          · refine lv_aload hx hb dX5_place_40 (lv_at hl 0 rfl) ?_
            refine c_gitems F hK hR (t := t) (by omega) (show t ≤ rT r by omega) (show 8 ≤ rK r t by omega) kw_fieldLink_RX5_179 dX5_place_42 ?_
            refine lv_iload_n hx hb dX5_place_45 rfl (lv_at hl 3 rfl) ?_
            refine lv_aload_n hx hb dX5_place_46 rfl (lv_at hl 4 rfl) ?_
            have hcr := cs_ref (r := r) (gA g) (Or.inr (Or.inr ⟨rfl, hw1_w, hw2_w⟩)) (by omega) hkw h_19 h_37
            refine c_stitem F hK hR hS hSI (t := t) h0_t ht_t h_19 (by omega) j (o_v 2 w) rfl (by rw [hcr]; rfl) (by rw [hcr]; exact obj_any hK hR (Or.inr (Or.inr ⟨rfl, hw1_w, hw2_w⟩))) hj_j dX5_place_47 (fun H locs hR hS => ?_)
            refine lv_iconst (v := 1) hx hb dX5_place_48 (by decide) ?_
            exact px_iret F hr hlocks hS (by have e : f_place r t (nI j) 2 w = (f_put r t j (o_v 2 w), 1) := (by unfold f_place; rw [if_neg (fun q => q h_7)]; rw [if_pos ⟨h_19, h_37⟩, ix_nI (show j < 2 ^ 31 by omega)]); rw [e]; exact ⟨rfl, hR⟩) dX5_place_49
      · have h_7 : ¬ (f_looked r t i) = 0 := nIne (show ¬ nI (f_looked r t i) = nI 0 from h_7)
        refine lv_iload_n hx hb dX5_place_10 rfl (lv_at hl 0 rfl) ?_
        refine px_goV (st1 := [.int (-10 - (nI (f_looked r t i)))]) (px_callS F hK (c_X5_against l D cy _ (nI (f_looked r t i))) kc_X5_against kw_methodLink_RX5_34 rfl trivial rfl ⟨rfl, rfl⟩ ⟨Nat.le_of_ble_eq_true rfl, Nat.le_of_ble_eq_true rfl⟩ hl.1 rfl (Nat.le_of_ble_eq_true rfl) dX5_place_11 ⟨Nat.zero_le _, Nat.zero_le _⟩) rfl ?_
        exact px_iret F hr hlocks hS (by have e : f_place r t i 2 w = (r, -10 - (nI (f_looked r t i))) := (by simp [f_place, h_7]); rw [e]; exact ⟨rfl, hR⟩) dX5_place_14
