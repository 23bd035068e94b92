/-! the class: keptBits, canStand, noBits, bitsAt, putBits, place -/
set_option maxHeartbeats 400000 in
set_option maxRecDepth 100000 in
theorem c_X5_keptBits (l : Launch) (D : va_G) (cy : Nat → ClassId) (sz : Nat)  (k : Nat) (b : Int64)  (hk : k ≤ 7) : Met l yX5_keptBits (px_w yX5_keptBits cX5_keptBits 3 (some .long)) (rmd 2 0 0) (px_P D cy [.int (nI k), .long b] sz (fun _ => True)) (px_V (some (.long (f_cut k b)))) 0 0 (fun _ => False) := by
  refine px_met (by decide) (Nat.le_of_ble_eq_true rfl) ?_
  intro p e s m below meth c F hr hlocks hnm hK hsz hR ls hl
  have hx := F.1
  have hb := F.2.1
  have hl : lv_has ls 3 [(0, .int (nI k)), (1, .long b)] := hl
  refine lv_iload_n hx hb dX5_keptBits_0 rfl (lv_at hl 0 rfl) ?_
  rcases (show k = 0 ∨ k = 1 ∨ k = 2 ∨ k = 3 ∨ k = 4 ∨ k = 5 ∨ k = 6 ∨ k = 7 by omega) with rfl | rfl | rfl | rfl | rfl | rfl | rfl | rfl
  · refine lv_tableIn (off := 47) (tgt := 48) hx hb dX5_keptBits_1 (by decide) (by decide) (by decide +kernel) (by decide) ?_
    refine lv_lload_n hx hb dX5_keptBits_48 rfl (lv_at hl 1 rfl) ?_
    refine lv_lconst (v := 1) hx hb dX5_keptBits_49 (by decide) ?_
    refine lv_land hx hb dX5_keptBits_50 ?_
    exact pv_lret F hr hlocks (by rfl) dX5_keptBits_51
  · refine lv_tableIn (off := 51) (tgt := 52) hx hb dX5_keptBits_1 (by decide) (by decide) (by decide +kernel) (by decide) ?_
    refine lv_lload_n hx hb dX5_keptBits_52 rfl (lv_at hl 1 rfl) ?_
    refine lv_l2i hx hb dX5_keptBits_53 rfl ?_
    refine lv_i2b hx hb dX5_keptBits_54 rfl ?_
    refine lv_i2l hx hb dX5_keptBits_55 rfl ?_
    exact pv_lret F hr hlocks (by rfl) dX5_keptBits_56
  · refine lv_tableIn (off := 56) (tgt := 57) hx hb dX5_keptBits_1 (by decide) (by decide) (by decide +kernel) (by decide) ?_
    refine lv_lload_n hx hb dX5_keptBits_57 rfl (lv_at hl 1 rfl) ?_
    refine lv_l2i hx hb dX5_keptBits_58 rfl ?_
    refine lv_i2s hx hb dX5_keptBits_59 rfl ?_
    refine lv_i2l hx hb dX5_keptBits_60 rfl ?_
    exact pv_lret F hr hlocks (by rfl) dX5_keptBits_61
  · refine lv_tableIn (off := 61) (tgt := 62) hx hb dX5_keptBits_1 (by decide) (by decide) (by decide +kernel) (by decide) ?_
    refine lv_lload_n hx hb dX5_keptBits_62 rfl (lv_at hl 1 rfl) ?_
    refine lv_l2i hx hb dX5_keptBits_63 rfl ?_
    refine lv_i2c hx hb dX5_keptBits_64 rfl ?_
    refine lv_i2l hx hb dX5_keptBits_65 rfl ?_
    exact pv_lret F hr hlocks (by rw [kb3]; rfl) dX5_keptBits_66
  · refine lv_tableIn (off := 66) (tgt := 67) hx hb dX5_keptBits_1 (by decide) (by decide) (by decide +kernel) (by decide) ?_
    refine lv_lload_n hx hb dX5_keptBits_67 rfl (lv_at hl 1 rfl) ?_
    refine lv_l2i hx hb dX5_keptBits_68 rfl ?_
    refine lv_i2l hx hb dX5_keptBits_69 rfl ?_
    exact pv_lret F hr hlocks (by rfl) dX5_keptBits_70
  · refine lv_tableIn (off := 82) (tgt := 83) hx hb dX5_keptBits_1 (by decide) (by decide) (by decide +kernel) (by decide) ?_
    refine lv_lload_n hx hb dX5_keptBits_83 rfl (lv_at hl 1 rfl) ?_
    exact pv_lret F hr hlocks (by rfl) dX5_keptBits_84
  · refine lv_tableIn (off := 70) (tgt := 71) hx hb dX5_keptBits_1 (by decide) (by decide) (by decide +kernel) (by decide) ?_
    refine lv_lload_n hx hb dX5_keptBits_71 rfl (lv_at hl 1 rfl) ?_
    refine lv_l2i hx hb dX5_keptBits_72 rfl ?_
    refine px_goV (st1 := [.int (if 2139095040 < b.toInt32 &&& 2147483647 then 2143289344 else b.toInt32)]) (px_callS F hK (c_X5_keptFloat l D cy _ b.toInt32) kc_X5_keptFloat kw_methodLink_RX5_213 rfl trivial rfl ⟨rfl, rfl⟩ ⟨Nat.le_of_ble_eq_true rfl, Nat.le_of_ble_eq_true rfl⟩ hl.1 rfl (Nat.le_of_ble_eq_true rfl) dX5_keptBits_73 ⟨Nat.zero_le _, Nat.zero_le _⟩) rfl ?_
    refine lv_i2l hx hb dX5_keptBits_76 rfl ?_
    exact pv_lret F hr hlocks (by rw [kb6c]) dX5_keptBits_77
  · refine lv_tableIn (off := 77) (tgt := 78) hx hb dX5_keptBits_1 (by decide) (by decide) (by decide +kernel) (by decide) ?_
    refine lv_lload_n hx hb dX5_keptBits_78 rfl (lv_at hl 1 rfl) ?_
    refine px_goV (st1 := [.long (if 9218868437227405312 < b &&& 9223372036854775807 then 9221120237041090560 else b)]) (px_callS F hK (c_X5_keptDouble l D cy _ b) kc_X5_keptDouble kw_methodLink_RX5_216 rfl trivial rfl ⟨rfl, rfl⟩ ⟨Nat.le_of_ble_eq_true rfl, Nat.le_of_ble_eq_true rfl⟩ hl.1 rfl (Nat.le_of_ble_eq_true rfl) dX5_keptBits_79 ⟨Nat.zero_le _, Nat.zero_le _⟩) rfl ?_
    exact pv_lret F hr hlocks (by rfl) dX5_keptBits_82
set_option maxHeartbeats 400000 in
set_option maxRecDepth 100000 in
theorem c_X5_canStand (l : Launch) (D : va_G) (cy : Nat → ClassId) (A : Nat → Prop) (r : RS) (g : CG) (sz : Nat) (ty w : Nat) (vo : Value) (k : Nat) (hvo : vo = va_rf (c_obj (gA g) ty w)) (ho_w : o_ok r ty w) (hk : k < 100) (hkw : rK r w < 100) : Met l yX5_canStand (px_w yX5_canStand cX5_canStand 3 (some .boolean)) (rmd 2 0 0) (px_P D cy [vo, .int (nI k)] sz (CR D cy A r g)) (px_V (some (.int (b2i (f_cs r ty w k))))) 0 0 (fun _ => False) := by
  rcases ho_w with rfl | ⟨rfl, hw1_w, hw2_w⟩ | ⟨rfl, hw1_w, hw2_w⟩
  · have e_vo : vo = .null := hvo
    subst e_vo
    refine px_met (by decide) (Nat.le_of_ble_eq_true rfl) ?_
    intro p e s m below meth c F hr hlocks hnm hK hsz hR ls hl
    have hx := F.1
    have hb := F.2.1
    have hl : lv_has ls 3 [(0, .null), (1, .int (nI k))] := hl
    refine lv_aload_nN hx hb dX5_canStand_0 rfl (lv_at hl 0 rfl) ?_
    refine lv_instN hx hb dX5_canStand_1 ?_
    refine lv_if_eq (tgt := 37) hx hb dX5_canStand_4 (by decide) (fun _ => ?_) (fun h => absurd h (by decide))
    refine lv_aload_nN hx hb dX5_canStand_37 rfl (lv_at hl 0 rfl) ?_
    refine lv_instN hx hb dX5_canStand_38 ?_
    refine lv_if_eq (tgt := 58) hx hb dX5_canStand_41 (by decide) (fun _ => ?_) (fun h => absurd h (by decide))
    refine lv_iconst (v := 1) hx hb dX5_canStand_58 (by decide) ?_
    exact pv_zret F hr hlocks (Or.inr rfl) (by rfl) dX5_canStand_59
  · have e_vo : vo = .ref (gA g (3 * w + 2)) := hvo
    subst e_vo
    refine px_met (by decide) (Nat.le_of_ble_eq_true rfl) ?_
    intro p e s m below meth c F hr hlocks hnm hK hsz hR ls hl
    have hx := F.1
    have hb := F.2.1
    have hl : lv_has ls 3 [(0, .ref (gA g (3 * w + 2))), (1, .int (nI k))] := hl
    refine lv_aload_n hx hb dX5_canStand_0 rfl (lv_at hl 0 rfl) ?_
    refine c_iVv F hK hR (v := w) (by omega) (show w ≤ rM r by omega) kw_classLink_RX5_99 dX5_canStand_1 ?_
    refine lv_if_eq (tgt := 37) hx hb dX5_canStand_4 (by decide) (fun h => absurd h (by decide)) (fun _ => ?_)
    refine lv_aload_n hx hb dX5_canStand_7 rfl (lv_at hl 0 rfl) ?_
    refine c_cV F hK hR (v := w) (by omega) (show w ≤ rM r by omega) kw_classLink_RX5_99 dX5_canStand_8 ?_
    refine lv_astore_n (lv' := [(2, .ref (gA g (3 * w + 2))), (0, .ref (gA g (3 * w + 2))), (1, .int (nI k))]) hx hb dX5_canStand_11 rfl hl (by decide) rfl (fun ls hl => ?_)
    refine lv_iload_n hx hb dX5_canStand_12 rfl (lv_at hl 2 rfl) ?_
    refine lv_bipush (v := 8) hx hb dX5_canStand_13 (by decide) ?_
    refine lv_icmp_eq (tgt := 31) hx hb dX5_canStand_15 (by decide) (fun h_15 => ?_) (fun h_15 => ?_)
    · have h_15 : k = 8 := nIeq (show nI k = nI 8 from h_15) (by omega) (by omega)
      refine lv_iconst (v := 1) hx hb dX5_canStand_31 (by decide) ?_
      refine lv_goto (tgt := 36) hx hb dX5_canStand_32 (by decide) ?_
      exact pv_zret F hr hlocks (Or.inr rfl) (by simp [f_cs, b2i, h_15]) dX5_canStand_36
    · have h_15 : ¬ k = 8 := nIne (show ¬ nI k = nI 8 from h_15)
      refine lv_iload_n hx hb dX5_canStand_18 rfl (lv_at hl 2 rfl) ?_
      refine lv_bipush (v := 9) hx hb dX5_canStand_19 (by decide) ?_
      refine lv_icmp_ne (tgt := 35) hx hb dX5_canStand_21 (by decide) (fun h_21 => ?_) (fun h_21 => ?_)
      · have h_21 : ¬ k = 9 := nIne (show ¬ nI k = nI 9 from h_21)
        refine lv_iconst (v := 0) hx hb dX5_canStand_35 (by decide) ?_
        exact pv_zret F hr hlocks (Or.inl rfl) (by simp [f_cs, b2i, h_15, h_21]) dX5_canStand_36
      · have h_21 : k = 9 := nIeq (show nI k = nI 9 from h_21) (by omega) (by omega)
        refine lv_aload_n hx hb dX5_canStand_24 rfl (lv_at hl 0 rfl) ?_
        refine c_gth F hK hR (v := w) (by omega) (show w ≤ rM r by omega) 1 (by decide) rfl kw_fieldLink_RX5_101 dX5_canStand_25 ?_
        refine x_ifeq_b (tgt := 35) hx hb dX5_canStand_28 (by decide) (fun h_28 => ?_) (fun h_28 => ?_)
        · refine lv_iconst (v := 0) hx hb dX5_canStand_35 (by decide) ?_
          exact pv_zret F hr hlocks (Or.inl rfl) (by simp [f_cs, b2i, h_15, h_21, h_28]) dX5_canStand_36
        · refine lv_iconst (v := 1) hx hb dX5_canStand_31 (by decide) ?_
          refine lv_goto (tgt := 36) hx hb dX5_canStand_32 (by decide) ?_
          exact pv_zret F hr hlocks (Or.inr rfl) (by simp [f_cs, b2i, h_15, h_21, h_28]) dX5_canStand_36
  · have e_vo : vo = .ref (gA g (3 * w)) := hvo
    subst e_vo
    refine px_met (by decide) (Nat.le_of_ble_eq_true rfl) ?_
    intro p e s m below meth c F hr hlocks hnm hK hsz hR ls hl
    have hx := F.1
    have hb := F.2.1
    have hl : lv_has ls 3 [(0, .ref (gA g (3 * w))), (1, .int (nI k))] := hl
    refine lv_aload_n hx hb dX5_canStand_0 rfl (lv_at hl 0 rfl) ?_
    refine c_iVt F hK hR (t := w) (by omega) (show w ≤ rT r by omega) kw_classLink_RX5_99 dX5_canStand_1 ?_
    refine lv_if_eq (tgt := 37) hx hb dX5_canStand_4 (by decide) (fun _ => ?_) (fun h => absurd h (by decide))
    refine lv_aload_n hx hb dX5_canStand_37 rfl (lv_at hl 0 rfl) ?_
    refine c_iTt F hK hR (t := w) (by omega) (show w ≤ rT r by omega) kw_classLink_RX5_9 dX5_canStand_38 ?_
    refine lv_if_eq (tgt := 58) hx hb dX5_canStand_41 (by decide) (fun h => absurd h (by decide)) (fun _ => ?_)
    refine lv_aload_n hx hb dX5_canStand_44 rfl (lv_at hl 0 rfl) ?_
    refine c_cT F hK hR (t := w) (by omega) (show w ≤ rT r by omega) kw_classLink_RX5_9 dX5_canStand_45 ?_
    refine lv_astore_n (lv' := [(2, .ref (gA g (3 * w))), (0, .ref (gA g (3 * w))), (1, .int (nI k))]) hx hb dX5_canStand_48 rfl hl (by decide) rfl (fun ls hl => ?_)
    refine lv_aload_n hx hb dX5_canStand_49 rfl (lv_at hl 0 rfl) ?_
    refine lv_iload_n hx hb dX5_canStand_50 rfl (lv_at hl 2 rfl) ?_
    refine px_goV (st1 := [.int (f_kor k), .ref (gA g (3 * w))]) (px_callS F hK (c_X5_kindOfRows l D cy _ k (by omega)) kc_X5_kindOfRows kw_methodLink_RX5_112 rfl trivial rfl ⟨rfl, rfl⟩ ⟨Nat.le_of_ble_eq_true rfl, Nat.le_of_ble_eq_true rfl⟩ hl.1 rfl (Nat.le_of_ble_eq_true rfl) dX5_canStand_51 ⟨Nat.zero_le _, Nat.zero_le _⟩) rfl ?_
    refine px_goV (st1 := [.int (b2i (f_fit r w (f_kor k)))]) (px_callS F hK (c_X5_fits l D cy A r g _ w (.ref (gA g (3 * w))) (f_kor k) (col_t (by omega)) (by omega) (by omega)) kc_X5_fits kw_methodLink_RX5_60 rfl hR rfl ⟨rfl, rfl⟩ ⟨Nat.le_of_ble_eq_true rfl, Nat.le_of_ble_eq_true rfl⟩ hl.1 rfl (Nat.le_of_ble_eq_true rfl) dX5_canStand_54 ⟨Nat.zero_le _, Nat.zero_le _⟩) rfl ?_
    exact pv_zret F hr hlocks (b2i_01 _) (by rfl) dX5_canStand_57
set_option maxHeartbeats 400000 in
set_option maxRecDepth 100000 in
theorem c_X5_noBits (l : Launch) (D : va_G) (cy : Nat → ClassId) (A : Nat → Prop) (r : RS) (g : CG) (sz : Nat)  (f : Int32)   : Met l yX5_noBits (px_w yX5_noBits cX5_noBits 2 (some .long)) (rmd 1 0 0) (px_P D cy [.ref (gA g 0), .int f] sz (CR D cy A r g)) (px_Q (px_Cx D cy A g (some (.long 0)) (sFa r f)) A) 0 0 A := by
  refine px_met (by decide) (Nat.le_of_ble_eq_true rfl) ?_
  intro p e s m below meth c F hr hlocks hnm hK hsz hR ls hl
  have hx := F.1
  have hb := F.2.1
  have hS : va_S A s.heap s.heap [] := va_S.rf
  have hl : lv_has ls 2 [(0, .ref (gA g 0)), (1, .int f)] := hl
  refine lv_aload_n hx hb dX5_noBits_0 rfl (lv_at hl 0 rfl) ?_
  refine lv_iload_n hx hb dX5_noBits_1 rfl (lv_at hl 1 rfl) ?_
  refine c_px F hK hR hS 7 (by decide) (v := f) rfl (sFa r f) g rfl rfl (fun _ => Iff.rfl) (fun z hz => en_sFa cy _ g _ hz) kw_fieldLink_RX5_143 rfl rfl dX5_noBits_2 (fun H locs hR hS => ?_)
  refine lv_lconst (v := 0) hx hb dX5_noBits_5 (by decide) ?_
  exact px_lret F hr hlocks hS (by exact ⟨rfl, hR⟩) dX5_noBits_6
set_option maxHeartbeats 400000 in
set_option maxRecDepth 100000 in
theorem c_X5_bitsAt (l : Launch) (D : va_G) (cy : Nat → ClassId) (A : Nat → Prop) (r : RS) (g : CG) (sz : Nat) (t : Nat) (vt : Value) (i : Int32) (hvt : vt = va_rf (c_col (gA g) t)) (ht_t : t ≤ rT r) (hM30 : rMn r t ≤ 30) (hM0 : rMn r 0 ≤ 30) (h10 : t ≠ 0 → rK r t < 10) (hv : t ≠ 0 → IV r t) : Met l yX5_bitsAt (px_w yX5_bitsAt cX5_bitsAt 5 (some .long)) (rmd 3 0 0) (px_P D cy [.ref (gA g 0), vt, .int i] sz (CR D cy A r g)) (px_Q (px_Cx D cy A g (some (.long (f_itemOf r t i 0).2)) ((f_itemOf r t i 0).1)) A) 0 0 A := by
  by_cases h0_t : t = 0
  · have e_vt : vt = .null := (hvt.trans (col_0 h0_t).symm)
    subst e_vt
    refine px_met (by decide) (Nat.le_of_ble_eq_true rfl) ?_
    intro p e s m below meth c F hr hlocks hnm hK hsz hR ls hl
    have hx := F.1
    have hb := F.2.1
    have hS : va_S A s.heap s.heap [] := va_S.rf
    have hlk := looked_le r t i
    have hlk0 : f_looked r 0 i = 1 := rfl
    have hl : lv_has ls 5 [(0, .ref (gA g 0)), (1, .null), (2, .int i)] := hl
    refine lv_aload_n hx hb dX5_bitsAt_0 rfl (lv_at hl 0 rfl) ?_
    refine lv_aload_nN hx hb dX5_bitsAt_1 rfl (lv_at hl 1 rfl) ?_
    refine lv_iload_n hx hb dX5_bitsAt_2 rfl (lv_at hl 2 rfl) ?_
    refine px_goV (st1 := [.int (nI (f_looked r 0 i)), .ref (gA g 0)]) (px_callS F hK (c_X5_faultAt l D cy A r g _ 0 .null i (col_0 rfl) (Nat.zero_le _) (by omega)) kc_X5_faultAt kw_methodLink_RX5_108 rfl hR rfl ⟨rfl, rfl⟩ ⟨Nat.le_of_ble_eq_true rfl, Nat.le_of_ble_eq_true rfl⟩ hl.1 rfl (Nat.le_of_ble_eq_true rfl) dX5_bitsAt_3 ⟨Nat.zero_le _, Nat.zero_le _⟩) rfl ?_
    refine c_px F hK hR hS 7 (by decide) (v := nI (f_looked r 0 i)) rfl (sFa r (nI (f_looked r 0 i))) g rfl rfl (fun _ => Iff.rfl) (fun z hz => en_sFa cy _ g _ hz) kw_fieldLink_RX5_143 rfl rfl dX5_bitsAt_6 (fun H locs hR hS => ?_)
    refine lv_aload_n hx hb dX5_bitsAt_9 rfl (lv_at hl 0 rfl) ?_
    refine c_gx F hK hR 7 (by decide) rfl kw_fieldLink_RX5_143 dX5_bitsAt_10 ?_
    refine lv_if_eq (tgt := 18) hx hb dX5_bitsAt_13 (by decide) (fun h_13 => by exfalso; have h_13 : (f_looked r 0 i) = 0 := nIeq (show nI (f_looked r 0 i) = nI 0 from h_13) (by omega) (by omega); omega) (fun h_13 => ?_)
    have h_13 : ¬ (f_looked r 0 i) = 0 := nIne (show ¬ nI (f_looked r 0 i) = nI 0 from h_13)
    refine lv_lconst (v := 0) hx hb dX5_bitsAt_16 (by decide) ?_
    exact px_lret F hr hlocks hS (by have e : f_itemOf r t i 0 = (sFa r (nI (f_looked r 0 i)), 0) := (by rw [h0_t]; simp [f_itemOf, hlk0]); rw [e]; exact ⟨rfl, hR⟩) dX5_bitsAt_17
  · have e_vt : vt = .ref (gA g (3 * t)) := (hvt.trans (col_t h0_t).symm)
    subst e_vt
    refine px_met (by decide) (Nat.le_of_ble_eq_true rfl) ?_
    intro p e s m below meth c F hr hlocks hnm hK hsz hR ls hl
    have hx := F.1
    have hb := F.2.1
    have hS : va_S A s.heap s.heap [] := va_S.rf
    have hlk := looked_le r t i
    have hlk0 : f_looked r 0 i = 1 := rfl
    have hl : lv_has ls 5 [(0, .ref (gA g 0)), (1, .ref (gA g (3 * t))), (2, .int i)] := hl
    refine lv_aload_n hx hb dX5_bitsAt_0 rfl (lv_at hl 0 rfl) ?_
    refine lv_aload_n hx hb dX5_bitsAt_1 rfl (lv_at hl 1 rfl) ?_
    refine lv_iload_n hx hb dX5_bitsAt_2 rfl (lv_at hl 2 rfl) ?_
    refine px_goV (st1 := [.int (nI (f_looked r t i)), .ref (gA g 0)]) (px_callS F hK (c_X5_faultAt l D cy A r g _ t (.ref (gA g (3 * t))) i (col_t (by omega)) (by omega) (by omega)) kc_X5_faultAt kw_methodLink_RX5_108 rfl hR rfl ⟨rfl, rfl⟩ ⟨Nat.le_of_ble_eq_true rfl, Nat.le_of_ble_eq_true rfl⟩ hl.1 rfl (Nat.le_of_ble_eq_true rfl) dX5_bitsAt_3 ⟨Nat.zero_le _, Nat.zero_le _⟩) rfl ?_
    refine c_px F hK hR hS 7 (by decide) (v := nI (f_looked r t i)) rfl (sFa r (nI (f_looked r t i))) g rfl rfl (fun _ => Iff.rfl) (fun z hz => en_sFa cy _ g _ hz) kw_fieldLink_RX5_143 rfl rfl dX5_bitsAt_6 (fun H locs hR hS => ?_)
    refine lv_aload_n hx hb dX5_bitsAt_9 rfl (lv_at hl 0 rfl) ?_
    refine c_gx F hK hR 7 (by decide) rfl kw_fieldLink_RX5_143 dX5_bitsAt_10 ?_
    refine lv_if_eq (tgt := 18) hx hb dX5_bitsAt_13 (by decide) (fun h_13 => ?_) (fun h_13 => ?_)
    · have h_13 : (f_looked r t i) = 0 := nIeq (show nI (f_looked r t i) = nI 0 from h_13) (by omega) (by omega)
      obtain ⟨_, j, hj_j, rfl⟩ := looked_0 h_13 (by omega)
      refine lv_aload_n hx hb dX5_bitsAt_18 rfl (lv_at hl 1 rfl) ?_
      refine c_iP F hK hR (t := t) (by omega) (show t ≤ rT r by omega) kw_classLink_RX5_125 dX5_bitsAt_19 ?_
      refine x_ifeq_b (tgt := 37) hx hb dX5_bitsAt_22 (by decide) (fun h_22 => ?_) (fun h_22 => ?_)
      · have h_22 : ¬ (rK r t < 8) := of_decide_eq_false h_22
        have hk8 : 8 ≤ rK r t := (by omega)
        have hk10 := h10 h0_t
        refine lv_aload_n hx hb dX5_bitsAt_37 rfl (lv_at hl 1 rfl) ?_
        refine lv_iload_n hx hb dX5_bitsAt_38 rfl (lv_at hl 2 rfl) ?_
        refine px_goV (st1 := [va_rf (c_item (gA g) r t (nI j))]) (px_callS F hK (c_X5_itemAt l D cy A (sFa r (nI (f_looked r t (nI j)))) g _ t (.ref (gA g (3 * t))) (nI j) (col_t (by omega)) (by omega) (by omega)) kc_X5_itemAt kw_methodLink_RX5_95 rfl hR rfl ⟨rfl, rfl⟩ ⟨Nat.le_of_ble_eq_true rfl, Nat.le_of_ble_eq_true rfl⟩ hl.1 rfl (Nat.le_of_ble_eq_true rfl) dX5_bitsAt_39 ⟨Nat.zero_le _, Nat.zero_le _⟩) rfl ?_
        rcases c_item_3 (r := r) (t := t) (i := (nI j)) (gA g) (by omega) hv with ⟨hq_w, hq1_w, hq2_w⟩ | ⟨w, hq0_w, hq1_w, hq2_w, hq3_w, hq_w⟩ | ⟨w, hq0_w, hq1_w, hq2_w, hq3_w, hq_w⟩
        · refine px_topv (y := .null) (by rw [hq_w]; rfl) ?_
          refine lv_astoreN (lv' := [(4, .null), (0, .ref (gA g 0)), (1, .ref (gA g (3 * t))), (2, .int (nI j))]) hx hb dX5_bitsAt_42 hl (by decide) rfl (fun ls hl => ?_)
          refine lv_aloadN hx hb dX5_bitsAt_44 (lv_at hl 0 rfl) ?_
          refine lv_instN hx hb dX5_bitsAt_46 ?_
          refine lv_if_eq (tgt := 66) hx hb dX5_bitsAt_49 (by decide) (fun _ => ?_) (fun h => absurd h (by decide))
          refine lv_aload_n hx hb dX5_bitsAt_66 rfl (lv_at hl 1 rfl) ?_
          refine lv_iconst (v := 1) hx hb dX5_bitsAt_67 (by decide) ?_
          refine px_goCx (st1 := [.long 0]) (px_callV F hK (c_X5_noBits l D cy A (sFa r (nI (f_looked r t (nI j)))) g _ 1) kc_X5_noBits kw_methodLink_RX5_68 rfl hR (c_recv hK hR) rfl ⟨rfl, rfl⟩ ⟨Nat.le_of_ble_eq_true rfl, Nat.le_of_ble_eq_true rfl⟩ hl.1 rfl (Nat.le_of_ble_eq_true rfl) dX5_bitsAt_68 ⟨Nat.zero_le _, Nat.zero_le _⟩) hS rfl (fun H locs hR hS => ?_)
          exact px_lret F hr hlocks hS (by have e : f_itemOf r t (nI j) 0 = (sFa r 1, 0) := (by unfold f_itemOf; rw [if_neg (by simp [h_13]), if_pos (by omega), ix_nI (show j < 2 ^ 31 by omega)]; rw [if_pos (thAt_0 h0_t hk8 hk10 h_13 (show j < 2 ^ 31 by omega) (hv h0_t) hj_j hq2_w)]); rw [e]; exact ⟨rfl, hR⟩) dX5_bitsAt_71
        · refine px_topv (y := .ref (gA g (3 * w + 2))) (by rw [hq_w]; rfl) ?_
          refine lv_astore (lv' := [(4, .ref (gA g (3 * w + 2))), (0, .ref (gA g 0)), (1, .ref (gA g (3 * t))), (2, .int (nI j))]) hx hb dX5_bitsAt_42 hl (by decide) rfl (fun ls hl => ?_)
          refine lv_aload hx hb dX5_bitsAt_44 (lv_at hl 0 rfl) ?_
          refine c_iVv F hK hR (v := w) (by omega) (show w ≤ rM r by omega) kw_classLink_RX5_99 dX5_bitsAt_46 ?_
          refine lv_if_eq (tgt := 66) hx hb dX5_bitsAt_49 (by decide) (fun h => absurd h (by decide)) (fun _ => ?_)
          refine lv_aload hx hb dX5_bitsAt_52 (lv_at hl 0 rfl) ?_
          refine c_cV F hK hR (v := w) (by omega) (show w ≤ rM r by omega) kw_classLink_RX5_99 dX5_bitsAt_54 ?_
          refine lv_astore_n (lv' := [(3, .ref (gA g (3 * w + 2))), (4, .ref (gA g (3 * w + 2))), (0, .ref (gA g 0)), (1, .ref (gA g (3 * t))), (2, .int (nI j))]) hx hb dX5_bitsAt_57 rfl hl (by decide) rfl (fun ls hl => ?_)
          refine lv_aload_n hx hb dX5_bitsAt_58 rfl (lv_at hl 0 rfl) ?_
          refine c_gth F hK hR (v := w) (by omega) (show w ≤ rM r by omega) 0 (by decide) rfl kw_fieldLink_RX5_187 dX5_bitsAt_59 ?_
          refine lv_i2l hx hb dX5_bitsAt_62 rfl ?_
          refine lv_goto (tgt := 71) hx hb dX5_bitsAt_63 (by decide) ?_
          exact px_lret F hr hlocks hS (by have e : f_itemOf r t (nI j) 0 = (sFa r (nI (f_looked r t (nI j))), (rTN r w).toInt64) := (by unfold f_itemOf; rw [if_neg (by simp [h_13]), if_pos (by omega), ix_nI (show j < 2 ^ 31 by omega)]; rw [if_neg (thAt_1 h0_t hk8 hk10 h_13 (show j < 2 ^ 31 by omega) hq0_w hq1_w), ← thAt_2 h0_t hk8 hk10 h_13 (show j < 2 ^ 31 by omega) hq0_w, h_13]; rfl); rw [e]; exact ⟨rfl, hR⟩) dX5_bitsAt_71
        · refine px_topv (y := .ref (gA g (3 * w))) (by rw [hq_w]; rfl) ?_
          refine lv_astore (lv' := [(4, .ref (gA g (3 * w))), (0, .ref (gA g 0)), (1, .ref (gA g (3 * t))), (2, .int (nI j))]) hx hb dX5_bitsAt_42 hl (by decide) rfl (fun ls hl => ?_)
          refine lv_aload hx hb dX5_bitsAt_44 (lv_at hl 0 rfl) ?_
          refine c_iVt F hK hR (t := w) (by omega) (show w ≤ rT r by omega) kw_classLink_RX5_99 dX5_bitsAt_46 ?_
          refine lv_if_eq (tgt := 66) hx hb dX5_bitsAt_49 (by decide) (fun _ => ?_) (fun h => absurd h (by decide))
          refine lv_aload_n hx hb dX5_bitsAt_66 rfl (lv_at hl 1 rfl) ?_
          refine lv_iconst (v := 1) hx hb dX5_bitsAt_67 (by decide) ?_
          refine px_goCx (st1 := [.long 0]) (px_callV F hK (c_X5_noBits l D cy A (sFa r (nI (f_looked r t (nI j)))) g _ 1) kc_X5_noBits kw_methodLink_RX5_68 rfl hR (c_recv hK hR) rfl ⟨rfl, rfl⟩ ⟨Nat.le_of_ble_eq_true rfl, Nat.le_of_ble_eq_true rfl⟩ hl.1 rfl (Nat.le_of_ble_eq_true rfl) dX5_bitsAt_68 ⟨Nat.zero_le _, Nat.zero_le _⟩) hS rfl (fun H locs hR hS => ?_)
          exact px_lret F hr hlocks hS (by have e : f_itemOf r t (nI j) 0 = (sFa r 1, 0) := (by exact absurd hq0_w (by rw [rowAt_0 hk10]; exact hq1_w)); rw [e]; exact ⟨rfl, hR⟩) dX5_bitsAt_71
      · have h_22 : rK r t < 8 := of_decide_eq_true h_22
        refine lv_aload_n hx hb dX5_bitsAt_25 rfl (lv_at hl 1 rfl) ?_
        refine c_cP F hK hR (t := t) (by omega) (show t ≤ rT r by omega) (show rK r t < 8 by omega) kw_classLink_RX5_125 dX5_bitsAt_26 ?_
        refine lv_astore_n (lv' := [(3, .ref (gA g (3 * t))), (0, .ref (gA g 0)), (1, .ref (gA g (3 * t))), (2, .int (nI j))]) hx hb dX5_bitsAt_29 rfl hl (by decide) rfl (fun ls hl => ?_)
        refine lv_aload_n hx hb dX5_bitsAt_30 rfl (lv_at hl 0 rfl) ?_
        refine c_gbits F hK hR (t := t) (by omega) (show t ≤ rT r by omega) (show rK r t < 8 by omega) kw_fieldLink_RX5_183 dX5_bitsAt_31 ?_
        refine lv_iload_n hx hb dX5_bitsAt_34 rfl (lv_at hl 3 rfl) ?_
        refine c_ldbit F hK hR (t := t) (by omega) (show t ≤ rT r by omega) (show rK r t < 8 by omega) (show rMn r t < 2 ^ 31 by omega) j rfl (show j < rMn r t by omega) dX5_bitsAt_35 ?_
        exact px_lret F hr hlocks hS (by have e : f_itemOf r t (nI j) 0 = (sFa r (nI (f_looked r t (nI j))), f_at r t j) := (by simp [f_itemOf, h_13, ix_nI (show j < 2 ^ 31 by omega), show ¬ rK r t = 8 by omega, show ¬ rK r t = 9 by omega] <;> rfl); rw [e]; exact ⟨rfl, hR⟩) dX5_bitsAt_36
    · have h_13 : ¬ (f_looked r t i) = 0 := nIne (show ¬ nI (f_looked r t i) = nI 0 from h_13)
      refine lv_lconst (v := 0) hx hb dX5_bitsAt_16 (by decide) ?_
      exact px_lret F hr hlocks hS (by have e : f_itemOf r t i 0 = (sFa r (nI (f_looked r t i)), 0) := (by simp [f_itemOf, h_13]); rw [e]; exact ⟨rfl, hR⟩) dX5_bitsAt_17
