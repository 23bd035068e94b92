/-! the reference: the public methods, 2 -/
set_option maxHeartbeats 400000 in
set_option maxRecDepth 100000 in
theorem c_X6_marked (l : Launch) (D : va_G) (cy : Nat → ClassId) (A : Nat → Prop) (G : Nat → Nat) (r : RS) (C : Nat → Nat) (E : Nat → Int64) (sz : Nat) (cl i : Int32) {kk : Nat} (hI : Inv kk r) : Met l yX6_marked (px_w yX6_marked cX6_marked 5 (some .int)) (rmd 3 0 0) (px_P D cy [.ref (G 0), .int cl, .int i] sz (MR D cy A G r C E)) (px_V (some (.int (f_marked r cl i)))) 0 0 (fun _ => False) := by
  refine px_met (by decide) (Nat.le_of_ble_eq_true rfl) ?_
  intro p e s m below meth c F hr hlocks hnm hK hsz hR ls hl
  have hx := F.1
  have hb := F.2.1
  have hl : lv_has ls 5 [(0, .ref (G 0)), (1, .int cl), (2, .int i)] := hl
  have hbd := hI.bd
  refine lv_iload_n hx hb dX6_marked_0 rfl (lv_at hl 1 rfl) ?_
  refine px_goV (st1 := [.int (b2i (f_in cl 0 15))]) (px_callS F hK (c_X6_isColumn l D cy _ cl) kc_X6_isColumn kw_methodLink_RX6_53 rfl trivial rfl ⟨rfl, rfl⟩ ⟨Nat.le_of_ble_eq_true rfl, Nat.le_of_ble_eq_true rfl⟩ hl.1 rfl (Nat.le_of_ble_eq_true rfl) dX6_marked_1 ⟨Nat.zero_le _, Nat.zero_le _⟩) rfl ?_
  refine x_ifne_b (tgt := 10) hx hb dX6_marked_4 (by decide) (fun h_4 => ?_) (fun h_4 => ?_)
  · obtain ⟨cn, hl_cn, hh_cn, rfl⟩ := f_in_nat h_4 0 15 (by decide) (by decide) (by decide) (by decide)
    have hc0 := hI.hd cn (by omega)
    have hc1 := hI.tb _ hc0
    have hlk := looked_le r (rHd r cn) i
    refine lv_aload_n hx hb dX6_marked_10 rfl (lv_at hl 0 rfl) ?_
    refine m_get F hK hR 9 (by decide) rfl kw_fieldLink_RX6_31 dX6_marked_11 ?_
    refine lv_iload_n hx hb dX6_marked_14 rfl (lv_at hl 1 rfl) ?_
    refine m_ldHd F hK hR cn rfl (by omega) dX6_marked_15 ?_
    refine lv_istore_n (lv' := [(3, .int (nI (rHd r cn))), (0, .ref (G 0)), (1, .int (nI cn)), (2, .int i)]) hx hb dX6_marked_16 rfl hl (by decide) rfl (fun ls hl => ?_)
    refine lv_aload_n hx hb dX6_marked_17 rfl (lv_at hl 1 rfl) ?_
    refine lv_iload_n hx hb dX6_marked_18 rfl (lv_at hl 0 rfl) ?_
    refine lv_bipush (v := 8) hx hb dX6_marked_19 (by decide) ?_
    refine px_goV (st1 := [.int (b2i (f_isOf r (rHd r cn) 8))]) (px_callV F hK (c_X6_isOf l D cy A G r _ _ _ (rHd r cn) 8 (by omega) (by omega) (show rK r (rHd r cn) < 100 by omega)) kc_X6_isOf kw_methodLink_RX6_90 rfl hR (m_recv hK hR) rfl ⟨rfl, rfl⟩ ⟨Nat.le_of_ble_eq_true rfl, Nat.le_of_ble_eq_true rfl⟩ hl.1 rfl (Nat.le_of_ble_eq_true rfl) dX6_marked_21 ⟨Nat.zero_le _, Nat.zero_le _⟩) rfl ?_
    refine x_ifeq_b (tgt := 36) hx hb dX6_marked_24 (by decide) (fun h_24 => ?_) (fun h_24 => ?_)
    · refine lv_iconst (v := 2) hx hb dX6_marked_36 (by decide) ?_
      refine lv_istore (lv' := [(4, .int 2), (3, .int (nI (rHd r cn))), (0, .ref (G 0)), (1, .int (nI cn)), (2, .int i)]) hx hb dX6_marked_37 hl (by decide) rfl (fun ls hl => ?_)
      refine lv_iload hx hb dX6_marked_39 (lv_at hl 0 rfl) ?_
      refine lv_if_eq (tgt := 50) hx hb dX6_marked_41 (by decide) (fun h => absurd h (by decide)) (fun _ => ?_)
      refine lv_iload hx hb dX6_marked_44 (lv_at hl 0 rfl) ?_
      refine px_goV (st1 := [.int (-12)]) (px_callS F hK (c_X6_answer l D cy _ 2) kc_X6_answer kw_methodLink_RX6_65 rfl trivial rfl ⟨rfl, rfl⟩ ⟨Nat.le_of_ble_eq_true rfl, Nat.le_of_ble_eq_true rfl⟩ hl.1 rfl (Nat.le_of_ble_eq_true rfl) dX6_marked_46 ⟨Nat.zero_le _, Nat.zero_le _⟩) rfl ?_
      exact pv_iret F hr hlocks (by have e : f_marked r (nI cn) i = (-12) := (by simp [f_marked, f_no, b2i, h_4, h_24, ix_nI (show cn < 2 ^ 31 by omega)] <;> rfl); rw [e]) dX6_marked_49
    · refine lv_aload_n hx hb dX6_marked_27 rfl (lv_at hl 1 rfl) ?_
      refine lv_iload_n hx hb dX6_marked_28 rfl (lv_at hl 0 rfl) ?_
      refine lv_iload_n hx hb dX6_marked_29 rfl (lv_at hl 3 rfl) ?_
      refine px_goV (st1 := [.int (nI (f_looked r (rHd r cn) i))]) (px_callV F hK (c_X6_looked l D cy A G r _ _ _ (rHd r cn) i (by omega)) kc_X6_looked kw_methodLink_RX6_108 rfl hR (m_recv hK hR) rfl ⟨rfl, rfl⟩ ⟨Nat.le_of_ble_eq_true rfl, Nat.le_of_ble_eq_true rfl⟩ hl.1 rfl (Nat.le_of_ble_eq_true rfl) dX6_marked_30 ⟨Nat.zero_le _, Nat.zero_le _⟩) rfl ?_
      refine lv_goto (tgt := 37) hx hb dX6_marked_33 (by decide) ?_
      refine lv_istore (lv' := [(4, .int (nI (f_looked r (rHd r cn) i))), (3, .int (nI (rHd r cn))), (0, .ref (G 0)), (1, .int (nI cn)), (2, .int i)]) hx hb dX6_marked_37 hl (by decide) rfl (fun ls hl => ?_)
      refine lv_iload hx hb dX6_marked_39 (lv_at hl 0 rfl) ?_
      refine lv_if_eq (tgt := 50) hx hb dX6_marked_41 (by decide) (fun h_41 => ?_) (fun h_41 => ?_)
      · have h_41 : (f_looked r (rHd r cn) i) = 0 := nIeq (show nI (f_looked r (rHd r cn) i) = nI 0 from h_41) (by omega) (by omega)
        obtain ⟨ht0_j, j, hj_j, rfl⟩ := looked_0 h_41 (by omega)
        have hk8 := isOf_k h_24 ht0_j
        have hit := hI.it ht0_j hc0 hj_j (by omega)
        refine lv_aload_n hx hb dX6_marked_50 rfl (lv_at hl 2 rfl) ?_
        refine lv_iload_n hx hb dX6_marked_51 rfl (lv_at hl 1 rfl) ?_
        refine lv_iload_n hx hb dX6_marked_52 rfl (lv_at hl 4 rfl) ?_
        refine px_goV (st1 := [.long (f_at r (rHd r cn) j)]) (px_callV F hK (c_X6_at l D cy A G r _ _ _ (rHd r cn) j (by omega) (show rS r (rHd r cn) + j < 12200 by omega)) kc_X6_at kw_methodLink_RX6_80 rfl hR (m_recv hK hR) rfl ⟨rfl, rfl⟩ ⟨Nat.le_of_ble_eq_true rfl, Nat.le_of_ble_eq_true rfl⟩ hl.1 rfl (Nat.le_of_ble_eq_true rfl) dX6_marked_53 ⟨Nat.zero_le _, Nat.zero_le _⟩) rfl ?_
        refine lv_lconst (v := 0) hx hb dX6_marked_56 (by decide) ?_
        refine W.lcmp hx hb dX6_marked_57 ?_
        refine x_cmp_eq (tgt := 80) hx hb dX6_marked_58 (by decide) (fun h_58 => ?_) (fun h_58 => ?_)
        · refine lv_iconst (v := 0) hx hb dX6_marked_80 (by decide) ?_
          exact pv_iret F hr hlocks (by have e : f_marked r (nI cn) (nI j) = 0 := (by simp [f_marked, f_no, b2i, h_4, h_24, h_41, h_58, ix_nI (show cn < 2 ^ 31 by omega), ix_nI (show j < 2 ^ 31 by omega)] <;> rfl); rw [e]) dX6_marked_81
        · refine lv_aload_n hx hb dX6_marked_61 rfl (lv_at hl 2 rfl) ?_
          refine m_get F hK hR 8 (by decide) rfl kw_fieldLink_RX6_27 dX6_marked_62 ?_
          refine lv_aload_n hx hb dX6_marked_65 rfl (lv_at hl 2 rfl) ?_
          refine lv_iload_n hx hb dX6_marked_66 rfl (lv_at hl 1 rfl) ?_
          refine lv_iload_n hx hb dX6_marked_67 rfl (lv_at hl 4 rfl) ?_
          refine px_goV (st1 := [.long (f_at r (rHd r cn) j), .ref (G 6)]) (px_callV F hK (c_X6_at l D cy A G r _ _ _ (rHd r cn) j (by omega) (show rS r (rHd r cn) + j < 12200 by omega)) kc_X6_at kw_methodLink_RX6_80 rfl hR (m_recv hK hR) rfl ⟨rfl, rfl⟩ ⟨Nat.le_of_ble_eq_true rfl, Nat.le_of_ble_eq_true rfl⟩ hl.1 rfl (Nat.le_of_ble_eq_true rfl) dX6_marked_68 ⟨Nat.zero_le _, Nat.zero_le _⟩) rfl ?_
          refine px_topl hit.1 ?_
          refine lv_l2i (v := nI (iv (f_at r (rHd r cn) j))) hx hb dX6_marked_71 (lN_i _) ?_
          refine m_ldIM F hK hR (iv (f_at r (rHd r cn) j)) rfl (by omega) dX6_marked_72 ?_
          refine x_ifeq_b (tgt := 80) hx hb dX6_marked_73 (by decide) (fun h_73 => ?_) (fun h_73 => ?_)
          · refine lv_iconst (v := 0) hx hb dX6_marked_80 (by decide) ?_
            exact pv_iret F hr hlocks (by have e : f_marked r (nI cn) (nI j) = 0 := (by simp [f_marked, f_no, b2i, h_4, h_24, h_41, h_58, h_73, ix_nI (show cn < 2 ^ 31 by omega), ix_nI (show j < 2 ^ 31 by omega)] <;> rfl); rw [e]) dX6_marked_81
          · refine lv_iconst (v := 1) hx hb dX6_marked_76 (by decide) ?_
            refine lv_goto (tgt := 81) hx hb dX6_marked_77 (by decide) ?_
            exact pv_iret F hr hlocks (by have e : f_marked r (nI cn) (nI j) = 1 := (by simp [f_marked, f_no, b2i, h_4, h_24, h_41, h_58, h_73, ix_nI (show cn < 2 ^ 31 by omega), ix_nI (show j < 2 ^ 31 by omega)] <;> rfl); rw [e]) dX6_marked_81
      · have h_41 : ¬ (f_looked r (rHd r cn) i) = 0 := nIne (show ¬ nI (f_looked r (rHd r cn) i) = nI 0 from h_41)
        refine lv_iload hx hb dX6_marked_44 (lv_at hl 0 rfl) ?_
        refine px_goV (st1 := [.int (-10 - (nI (f_looked r (rHd r cn) i)))]) (px_callS F hK (c_X6_answer l D cy _ (nI (f_looked r (rHd r cn) i))) kc_X6_answer kw_methodLink_RX6_65 rfl trivial rfl ⟨rfl, rfl⟩ ⟨Nat.le_of_ble_eq_true rfl, Nat.le_of_ble_eq_true rfl⟩ hl.1 rfl (Nat.le_of_ble_eq_true rfl) dX6_marked_46 ⟨Nat.zero_le _, Nat.zero_le _⟩) rfl ?_
        exact pv_iret F hr hlocks (by have e : f_marked r (nI cn) i = -10 - (nI (f_looked r (rHd r cn) i)) := (by simp [f_marked, f_no, b2i, h_4, h_24, h_41, ix_nI (show cn < 2 ^ 31 by omega)] <;> rfl); rw [e]) dX6_marked_49
  · refine lv_bipush (v := -2) hx hb dX6_marked_7 (by decide) ?_
    exact pv_iret F hr hlocks (by have e : f_marked r cl i = (-2) := (by simp [f_marked, f_no, b2i, h_4] <;> rfl); rw [e]) dX6_marked_9
set_option maxHeartbeats 400000 in
set_option maxRecDepth 100000 in
theorem c_X6_take (l : Launch) (D : va_G) (cy : Nat → ClassId) (A : Nat → Prop) (G : Nat → Nat) (r : RS) (C : Nat → Nat) (E : Nat → Int64) (sz : Nat) (cl f k i : Int32) {kk : Nat} (hI : Inv kk r) : Met l yX6_take (px_w yX6_take cX6_take 7 (some .int)) (rmd 3 0 0) (px_P D cy [.ref (G 0), .int cl, .int f, .int k, .int i] sz (MR D cy A G r C E)) (px_Q (px_M D cy A G (some (.int (f_take r cl f k i).2)) ((f_take r cl f k i).1)) A) 0 0 A := by
  refine px_met (by decide) (Nat.le_of_ble_eq_true rfl) ?_
  intro p e s m below meth c F hr hlocks hnm hK hsz hR ls hl
  have hx := F.1
  have hb := F.2.1
  have hl : lv_has ls 7 [(0, .ref (G 0)), (1, .int cl), (2, .int f), (3, .int k), (4, .int i)] := hl
  have hS : va_S A s.heap s.heap [] := va_S.rf
  have hbd := hI.bd
  refine lv_iload_n hx hb dX6_take_0 rfl (lv_at hl 1 rfl) ?_
  refine px_goV (st1 := [.int (b2i (f_in cl 0 15))]) (px_callS F hK (c_X6_isColumn l D cy _ cl) kc_X6_isColumn kw_methodLink_RX6_53 rfl trivial rfl ⟨rfl, rfl⟩ ⟨Nat.le_of_ble_eq_true rfl, Nat.le_of_ble_eq_true rfl⟩ hl.1 rfl (Nat.le_of_ble_eq_true rfl) dX6_take_1 ⟨Nat.zero_le _, Nat.zero_le _⟩) rfl ?_
  refine x_ifeq_b (tgt := 25) hx hb dX6_take_4 (by decide) (fun h_4 => ?_) (fun h_4 => ?_)
  · refine lv_bipush (v := -2) hx hb dX6_take_25 (by decide) ?_
    exact px_iret F hr hlocks hS (by have e : f_take r cl f k i = (r, (-2)) := (by simp [f_take, f_no, h_4] <;> rfl); rw [e]; exact ⟨rfl, _, _, hR⟩) dX6_take_27
  · refine lv_iload_n hx hb dX6_take_7 rfl (lv_at hl 2 rfl) ?_
    refine px_goV (st1 := [.int (b2i (f_in f 0 15))]) (px_callS F hK (c_X6_isColumn l D cy _ f) kc_X6_isColumn kw_methodLink_RX6_53 rfl trivial rfl ⟨rfl, rfl⟩ ⟨Nat.le_of_ble_eq_true rfl, Nat.le_of_ble_eq_true rfl⟩ hl.1 rfl (Nat.le_of_ble_eq_true rfl) dX6_take_8 ⟨Nat.zero_le _, Nat.zero_le _⟩) rfl ?_
    refine x_ifeq_b (tgt := 25) hx hb dX6_take_11 (by decide) (fun h_11 => ?_) (fun h_11 => ?_)
    · refine lv_bipush (v := -2) hx hb dX6_take_25 (by decide) ?_
      exact px_iret F hr hlocks hS (by have e : f_take r cl f k i = (r, (-2)) := (by simp [f_take, f_no, h_4, h_11] <;> rfl); rw [e]; exact ⟨rfl, _, _, hR⟩) dX6_take_27
    · refine lv_iload_n hx hb dX6_take_14 rfl (lv_at hl 3 rfl) ?_
      refine lv_bipush (v := 10) hx hb dX6_take_15 (by decide) ?_
      refine lv_bipush (v := 13) hx hb dX6_take_17 (by decide) ?_
      refine px_goV (st1 := [.int (b2i (f_in k 10 13))]) (px_callS F hK (c_X6_in l D cy _ k 10 13) kc_X6_in kw_methodLink_RX6_57 rfl trivial rfl ⟨rfl, rfl⟩ ⟨Nat.le_of_ble_eq_true rfl, Nat.le_of_ble_eq_true rfl⟩ hl.1 rfl (Nat.le_of_ble_eq_true rfl) dX6_take_19 ⟨Nat.zero_le _, Nat.zero_le _⟩) rfl ?_
      refine x_ifne_b (tgt := 28) hx hb dX6_take_22 (by decide) (fun h_22 => ?_) (fun h_22 => ?_)
      · obtain ⟨cn, hl_cn, hh_cn, rfl⟩ := f_in_nat h_4 0 15 (by decide) (by decide) (by decide) (by decide)
        obtain ⟨fn, hl_fn, hh_fn, rfl⟩ := f_in_nat h_11 0 15 (by decide) (by decide) (by decide) (by decide)
        obtain ⟨kn, hl_kn, hh_kn, rfl⟩ := f_in_nat h_22 10 13 (by decide) (by decide) (by decide) (by decide)
        have hc0 := hI.hd fn (by omega)
        have hc1 := hI.tb _ hc0
        have hlk := looked_le r (rHd r fn) i
        refine lv_aload_n hx hb dX6_take_28 rfl (lv_at hl 0 rfl) ?_
        refine m_get F hK hR 9 (by decide) rfl kw_fieldLink_RX6_31 dX6_take_29 ?_
        refine lv_iload_n hx hb dX6_take_32 rfl (lv_at hl 2 rfl) ?_
        refine m_ldHd F hK hR fn rfl (by omega) dX6_take_33 ?_
        refine lv_istore (lv' := [(5, .int (nI (rHd r fn))), (0, .ref (G 0)), (1, .int (nI cn)), (2, .int (nI fn)), (3, .int (nI kn)), (4, .int i)]) hx hb dX6_take_34 hl (by decide) rfl (fun ls hl => ?_)
        refine lv_aload_n hx hb dX6_take_36 rfl (lv_at hl 1 rfl) ?_
        refine lv_iload hx hb dX6_take_37 (lv_at hl 0 rfl) ?_
        refine lv_iload_n hx hb dX6_take_39 rfl (lv_at hl 4 rfl) ?_
        refine px_goV (st1 := [.int (b2i (f_isOf r (rHd r fn) kn))]) (px_callV F hK (c_X6_isOf l D cy A G r _ _ _ (rHd r fn) kn (by omega) (by omega) (show rK r (rHd r fn) < 100 by omega)) kc_X6_isOf kw_methodLink_RX6_90 rfl hR (m_recv hK hR) rfl ⟨rfl, rfl⟩ ⟨Nat.le_of_ble_eq_true rfl, Nat.le_of_ble_eq_true rfl⟩ hl.1 rfl (Nat.le_of_ble_eq_true rfl) dX6_take_40 ⟨Nat.zero_le _, Nat.zero_le _⟩) rfl ?_
        refine x_ifeq_b (tgt := 57) hx hb dX6_take_43 (by decide) (fun h_43 => ?_) (fun h_43 => ?_)
        · refine lv_iconst (v := 2) hx hb dX6_take_57 (by decide) ?_
          refine lv_istore (lv' := [(6, .int 2), (5, .int (nI (rHd r fn))), (0, .ref (G 0)), (1, .int (nI cn)), (2, .int (nI fn)), (3, .int (nI kn)), (4, .int i)]) hx hb dX6_take_58 hl (by decide) rfl (fun ls hl => ?_)
          refine lv_iload hx hb dX6_take_60 (lv_at hl 0 rfl) ?_
          refine lv_if_eq (tgt := 71) hx hb dX6_take_62 (by decide) (fun h => absurd h (by decide)) (fun _ => ?_)
          refine lv_iload hx hb dX6_take_65 (lv_at hl 0 rfl) ?_
          refine px_goV (st1 := [.int (-12)]) (px_callS F hK (c_X6_answer l D cy _ 2) kc_X6_answer kw_methodLink_RX6_65 rfl trivial rfl ⟨rfl, rfl⟩ ⟨Nat.le_of_ble_eq_true rfl, Nat.le_of_ble_eq_true rfl⟩ hl.1 rfl (Nat.le_of_ble_eq_true rfl) dX6_take_67 ⟨Nat.zero_le _, Nat.zero_le _⟩) rfl ?_
          exact px_iret F hr hlocks hS (by have e : f_take r (nI cn) (nI fn) (nI kn) i = (r, (-12)) := (by simp [f_take, f_no, h_4, h_11, h_22, h_43, ix_nI (show cn < 2 ^ 31 by omega), ix_nI (show fn < 2 ^ 31 by omega), ix_nI (show kn < 2 ^ 31 by omega)] <;> rfl); rw [e]; exact ⟨rfl, _, _, hR⟩) dX6_take_70
        · refine lv_aload_n hx hb dX6_take_46 rfl (lv_at hl 1 rfl) ?_
          refine lv_iload hx hb dX6_take_47 (lv_at hl 0 rfl) ?_
          refine lv_iload hx hb dX6_take_49 (lv_at hl 5 rfl) ?_
          refine px_goV (st1 := [.int (nI (f_looked r (rHd r fn) i))]) (px_callV F hK (c_X6_looked l D cy A G r _ _ _ (rHd r fn) i (by omega)) kc_X6_looked kw_methodLink_RX6_108 rfl hR (m_recv hK hR) rfl ⟨rfl, rfl⟩ ⟨Nat.le_of_ble_eq_true rfl, Nat.le_of_ble_eq_true rfl⟩ hl.1 rfl (Nat.le_of_ble_eq_true rfl) dX6_take_51 ⟨Nat.zero_le _, Nat.zero_le _⟩) rfl ?_
          refine lv_goto (tgt := 58) hx hb dX6_take_54 (by decide) ?_
          refine lv_istore (lv' := [(6, .int (nI (f_looked r (rHd r fn) i))), (5, .int (nI (rHd r fn))), (0, .ref (G 0)), (1, .int (nI cn)), (2, .int (nI fn)), (3, .int (nI kn)), (4, .int i)]) hx hb dX6_take_58 hl (by decide) rfl (fun ls hl => ?_)
          refine lv_iload hx hb dX6_take_60 (lv_at hl 0 rfl) ?_
          refine lv_if_eq (tgt := 71) hx hb dX6_take_62 (by decide) (fun h_62 => ?_) (fun h_62 => ?_)
          · have h_62 : (f_looked r (rHd r fn) i) = 0 := nIeq (show nI (f_looked r (rHd r fn) i) = nI 0 from h_62) (by omega) (by omega)
            obtain ⟨ht0_j, j, hj_j, rfl⟩ := looked_0 h_62 (by omega)
            have hk8 := isOf_k h_43 ht0_j
            have hit := hI.it ht0_j hc0 hj_j (by omega)
            refine lv_aload_n hx hb dX6_take_71 rfl (lv_at hl 2 rfl) ?_
            refine m_get F hK hR 9 (by decide) rfl kw_fieldLink_RX6_31 dX6_take_72 ?_
            refine lv_iload_n hx hb dX6_take_75 rfl (lv_at hl 3 rfl) ?_
            refine lv_aload_n hx hb dX6_take_76 rfl (lv_at hl 2 rfl) ?_
            refine lv_iload hx hb dX6_take_77 (lv_at hl 1 rfl) ?_
            refine lv_iload hx hb dX6_take_79 (lv_at hl 6 rfl) ?_
            refine px_goV (st1 := [.long (f_at r (rHd r fn) j), .int (nI cn), .ref (G 7)]) (px_callV F hK (c_X6_at l D cy A G r _ _ _ (rHd r fn) j (by omega) (show rS r (rHd r fn) + j < 12200 by omega)) kc_X6_at kw_methodLink_RX6_80 rfl hR (m_recv hK hR) rfl ⟨rfl, rfl⟩ ⟨Nat.le_of_ble_eq_true rfl, Nat.le_of_ble_eq_true rfl⟩ hl.1 rfl (Nat.le_of_ble_eq_true rfl) dX6_take_81 ⟨Nat.zero_le _, Nat.zero_le _⟩) rfl ?_
            refine px_topl hit.1 ?_
            refine lv_l2i (v := nI (iv (f_at r (rHd r fn) j))) hx hb dX6_take_84 (lN_i _) ?_
            refine m_stHd F hK hR hS cn (iv (f_at r (rHd r fn) j)) rfl rfl (by omega) dX6_take_85 (fun H locs hR hS => ?_)
            refine lv_iconst (v := 1) hx hb dX6_take_86 (by decide) ?_
            exact px_iret F hr hlocks hS (by have e : f_take r (nI cn) (nI fn) (nI kn) (nI j) = (sHd r (va_up (rHd r) cn (iv (f_at r (rHd r fn) j))), 1) := (by simp [f_take, f_no, h_4, h_11, h_22, h_43, h_62, ix_nI (show cn < 2 ^ 31 by omega), ix_nI (show fn < 2 ^ 31 by omega), ix_nI (show kn < 2 ^ 31 by omega), ix_nI (show j < 2 ^ 31 by omega)] <;> rfl); rw [e]; exact ⟨rfl, _, _, hR⟩) dX6_take_87
          · have h_62 : ¬ (f_looked r (rHd r fn) i) = 0 := nIne (show ¬ nI (f_looked r (rHd r fn) i) = nI 0 from h_62)
            refine lv_iload hx hb dX6_take_65 (lv_at hl 0 rfl) ?_
            refine px_goV (st1 := [.int (-10 - (nI (f_looked r (rHd r fn) i)))]) (px_callS F hK (c_X6_answer l D cy _ (nI (f_looked r (rHd r fn) i))) kc_X6_answer kw_methodLink_RX6_65 rfl trivial rfl ⟨rfl, rfl⟩ ⟨Nat.le_of_ble_eq_true rfl, Nat.le_of_ble_eq_true rfl⟩ hl.1 rfl (Nat.le_of_ble_eq_true rfl) dX6_take_67 ⟨Nat.zero_le _, Nat.zero_le _⟩) rfl ?_
            exact px_iret F hr hlocks hS (by have e : f_take r (nI cn) (nI fn) (nI kn) i = (r, -10 - (nI (f_looked r (rHd r fn) i))) := (by simp [f_take, f_no, h_4, h_11, h_22, h_43, h_62, ix_nI (show cn < 2 ^ 31 by omega), ix_nI (show fn < 2 ^ 31 by omega), ix_nI (show kn < 2 ^ 31 by omega)] <;> rfl); rw [e]; exact ⟨rfl, _, _, hR⟩) dX6_take_70
      · refine lv_bipush (v := -2) hx hb dX6_take_25 (by decide) ?_
        exact px_iret F hr hlocks hS (by have e : f_take r cl f k i = (r, (-2)) := (by simp [f_take, f_no, h_4, h_11, h_22] <;> rfl); rw [e]; exact ⟨rfl, _, _, hR⟩) dX6_take_27
set_option maxHeartbeats 400000 in
set_option maxRecDepth 100000 in
theorem c_X6_row (l : Launch) (D : va_G) (cy : Nat → ClassId) (A : Nat → Prop) (G : Nat → Nat) (r : RS) (C : Nat → Nat) (E : Nat → Int64) (sz : Nat) (cl k i f : Int32) {kk : Nat} (hI : Inv kk r) : Met l yX6_row (px_w yX6_row cX6_row 7 (some .int)) (rmd 3 0 0) (px_P D cy [.ref (G 0), .int cl, .int k, .int i, .int f] sz (MR D cy A G r C E)) (px_Q (px_M D cy A G (some (.int (f_row r cl k i f).2)) ((f_row r cl k i f).1)) A) 0 0 A := by
  refine px_met (by decide) (Nat.le_of_ble_eq_true rfl) ?_
  intro p e s m below meth c F hr hlocks hnm hK hsz hR ls hl
  have hx := F.1
  have hb := F.2.1
  have hl : lv_has ls 7 [(0, .ref (G 0)), (1, .int cl), (2, .int k), (3, .int i), (4, .int f)] := hl
  have hS : va_S A s.heap s.heap [] := va_S.rf
  have hbd := hI.bd
  refine lv_iload_n hx hb dX6_row_0 rfl (lv_at hl 1 rfl) ?_
  refine px_goV (st1 := [.int (b2i (f_in cl 0 15))]) (px_callS F hK (c_X6_isColumn l D cy _ cl) kc_X6_isColumn kw_methodLink_RX6_53 rfl trivial rfl ⟨rfl, rfl⟩ ⟨Nat.le_of_ble_eq_true rfl, Nat.le_of_ble_eq_true rfl⟩ hl.1 rfl (Nat.le_of_ble_eq_true rfl) dX6_row_1 ⟨Nat.zero_le _, Nat.zero_le _⟩) rfl ?_
  refine x_ifeq_b (tgt := 26) hx hb dX6_row_4 (by decide) (fun h_4 => ?_) (fun h_4 => ?_)
  · refine lv_bipush (v := -2) hx hb dX6_row_26 (by decide) ?_
    exact px_iret F hr hlocks hS (by have e : f_row r cl k i f = (r, (-2)) := (by simp [f_row, f_rno, h_4] <;> rfl); rw [e]; exact ⟨rfl, _, _, hR⟩) dX6_row_28
  · refine lv_iload_n hx hb dX6_row_7 rfl (lv_at hl 2 rfl) ?_
    refine lv_bipush (v := 10) hx hb dX6_row_8 (by decide) ?_
    refine lv_bipush (v := 13) hx hb dX6_row_10 (by decide) ?_
    refine px_goV (st1 := [.int (b2i (f_in k 10 13))]) (px_callS F hK (c_X6_in l D cy _ k 10 13) kc_X6_in kw_methodLink_RX6_57 rfl trivial rfl ⟨rfl, rfl⟩ ⟨Nat.le_of_ble_eq_true rfl, Nat.le_of_ble_eq_true rfl⟩ hl.1 rfl (Nat.le_of_ble_eq_true rfl) dX6_row_12 ⟨Nat.zero_le _, Nat.zero_le _⟩) rfl ?_
    refine x_ifeq_b (tgt := 26) hx hb dX6_row_15 (by decide) (fun h_15 => ?_) (fun h_15 => ?_)
    · refine lv_bipush (v := -2) hx hb dX6_row_26 (by decide) ?_
      exact px_iret F hr hlocks hS (by have e : f_row r cl k i f = (r, (-2)) := (by simp [f_row, f_rno, h_4, h_15] <;> rfl); rw [e]; exact ⟨rfl, _, _, hR⟩) dX6_row_28
    · refine lv_iload hx hb dX6_row_18 (lv_at hl 4 rfl) ?_
      refine px_goV (st1 := [.int (b2i (f_in f 0 15))]) (px_callS F hK (c_X6_isColumn l D cy _ f) kc_X6_isColumn kw_methodLink_RX6_53 rfl trivial rfl ⟨rfl, rfl⟩ ⟨Nat.le_of_ble_eq_true rfl, Nat.le_of_ble_eq_true rfl⟩ hl.1 rfl (Nat.le_of_ble_eq_true rfl) dX6_row_20 ⟨Nat.zero_le _, Nat.zero_le _⟩) rfl ?_
      refine x_ifne_b (tgt := 29) hx hb dX6_row_23 (by decide) (fun h_23 => ?_) (fun h_23 => ?_)
      · obtain ⟨cn, hl_cn, hh_cn, rfl⟩ := f_in_nat h_4 0 15 (by decide) (by decide) (by decide) (by decide)
        obtain ⟨kn, hl_kn, hh_kn, rfl⟩ := f_in_nat h_15 10 13 (by decide) (by decide) (by decide) (by decide)
        obtain ⟨fn, hl_fn, hh_fn, rfl⟩ := f_in_nat h_23 0 15 (by decide) (by decide) (by decide) (by decide)
        have hc0 := hI.hd cn (by omega)
        have hc1 := hI.tb _ hc0
        have hd0 := hI.hd fn (by omega)
        have hd1 := hI.tb _ hd0
        have hlk := looked_le r (rHd r cn) i
        have hrk : rkN kn < 100 := (by unfold rkN; split; omega; split; omega; split <;> omega)
        refine lv_aload_n hx hb dX6_row_29 rfl (lv_at hl 0 rfl) ?_
        refine m_get F hK hR 9 (by decide) rfl kw_fieldLink_RX6_31 dX6_row_30 ?_
        refine lv_iload_n hx hb dX6_row_33 rfl (lv_at hl 1 rfl) ?_
        refine m_ldHd F hK hR cn rfl (by omega) dX6_row_34 ?_
        refine lv_istore (lv' := [(5, .int (nI (rHd r cn))), (0, .ref (G 0)), (1, .int (nI cn)), (2, .int (nI kn)), (3, .int i), (4, .int (nI fn))]) hx hb dX6_row_35 hl (by decide) rfl (fun ls hl => ?_)
        refine lv_aload_n hx hb dX6_row_37 rfl (lv_at hl 1 rfl) ?_
        refine lv_iload hx hb dX6_row_38 (lv_at hl 0 rfl) ?_
        refine lv_iload_n hx hb dX6_row_40 rfl (lv_at hl 3 rfl) ?_
        refine px_goV (st1 := [.int (b2i (f_isOf r (rHd r cn) kn))]) (px_callV F hK (c_X6_isOf l D cy A G r _ _ _ (rHd r cn) kn (by omega) (by omega) (show rK r (rHd r cn) < 100 by omega)) kc_X6_isOf kw_methodLink_RX6_90 rfl hR (m_recv hK hR) rfl ⟨rfl, rfl⟩ ⟨Nat.le_of_ble_eq_true rfl, Nat.le_of_ble_eq_true rfl⟩ hl.1 rfl (Nat.le_of_ble_eq_true rfl) dX6_row_41 ⟨Nat.zero_le _, Nat.zero_le _⟩) rfl ?_
        refine x_ifeq_b (tgt := 75) hx hb dX6_row_44 (by decide) (fun h_44 => ?_) (fun h_44 => ?_)
        · refine lv_iconst (v := 2) hx hb dX6_row_75 (by decide) ?_
          refine lv_istore (lv' := [(6, .int 2), (5, .int (nI (rHd r cn))), (0, .ref (G 0)), (1, .int (nI cn)), (2, .int (nI kn)), (3, .int i), (4, .int (nI fn))]) hx hb dX6_row_76 hl (by decide) rfl (fun ls hl => ?_)
          refine lv_iload hx hb dX6_row_78 (lv_at hl 0 rfl) ?_
          refine lv_if_eq (tgt := 89) hx hb dX6_row_80 (by decide) (fun h => absurd h (by decide)) (fun _ => ?_)
          refine lv_iload hx hb dX6_row_83 (lv_at hl 0 rfl) ?_
          refine px_goV (st1 := [.int (-12)]) (px_callS F hK (c_X6_answer l D cy _ 2) kc_X6_answer kw_methodLink_RX6_65 rfl trivial rfl ⟨rfl, rfl⟩ ⟨Nat.le_of_ble_eq_true rfl, Nat.le_of_ble_eq_true rfl⟩ hl.1 rfl (Nat.le_of_ble_eq_true rfl) dX6_row_85 ⟨Nat.zero_le _, Nat.zero_le _⟩) rfl ?_
          exact px_iret F hr hlocks hS (by have e : f_row r (nI cn) (nI kn) i (nI fn) = (r, (-12)) := (by simp [f_row, f_rno, h_4, h_15, h_23, h_44, ix_nI (show cn < 2 ^ 31 by omega), ix_nI (show kn < 2 ^ 31 by omega), ix_nI (show fn < 2 ^ 31 by omega)] <;> rfl); rw [e]; exact ⟨rfl, _, _, hR⟩) dX6_row_88
        · refine lv_aload_n hx hb dX6_row_47 rfl (lv_at hl 1 rfl) ?_
          refine lv_aload_n hx hb dX6_row_48 rfl (lv_at hl 1 rfl) ?_
          refine m_get F hK hR 9 (by decide) rfl kw_fieldLink_RX6_31 dX6_row_49 ?_
          refine lv_iload hx hb dX6_row_52 (lv_at hl 5 rfl) ?_
          refine m_ldHd F hK hR fn rfl (by omega) dX6_row_54 ?_
          refine lv_iload_n hx hb dX6_row_55 rfl (lv_at hl 3 rfl) ?_
          refine px_goV (st1 := [.int (nI (rkN kn)), .int (nI (rHd r fn)), .ref (G 0)]) (px_callS F hK (c_X6_rowKind l D cy _ kn (by omega)) kc_X6_rowKind kw_methodLink_RX6_73 rfl trivial rfl ⟨rfl, rfl⟩ ⟨Nat.le_of_ble_eq_true rfl, Nat.le_of_ble_eq_true rfl⟩ hl.1 rfl (Nat.le_of_ble_eq_true rfl) dX6_row_56 ⟨Nat.zero_le _, Nat.zero_le _⟩) rfl ?_
          refine px_goV (st1 := [.int (b2i (f_isOf r (rHd r fn) (rkN kn)))]) (px_callV F hK (c_X6_isOf l D cy A G r _ _ _ (rHd r fn) (rkN kn) (by omega) (by omega) (show rK r (rHd r fn) < 100 by omega)) kc_X6_isOf kw_methodLink_RX6_90 rfl hR (m_recv hK hR) rfl ⟨rfl, rfl⟩ ⟨Nat.le_of_ble_eq_true rfl, Nat.le_of_ble_eq_true rfl⟩ hl.1 rfl (Nat.le_of_ble_eq_true rfl) dX6_row_59 ⟨Nat.zero_le _, Nat.zero_le _⟩) rfl ?_
          refine x_ifeq_b (tgt := 75) hx hb dX6_row_62 (by decide) (fun h_62 => ?_) (fun h_62 => ?_)
          · refine lv_iconst (v := 2) hx hb dX6_row_75 (by decide) ?_
            refine lv_istore (lv' := [(6, .int 2), (5, .int (nI (rHd r cn))), (0, .ref (G 0)), (1, .int (nI cn)), (2, .int (nI kn)), (3, .int i), (4, .int (nI fn))]) hx hb dX6_row_76 hl (by decide) rfl (fun ls hl => ?_)
            refine lv_iload hx hb dX6_row_78 (lv_at hl 0 rfl) ?_
            refine lv_if_eq (tgt := 89) hx hb dX6_row_80 (by decide) (fun h => absurd h (by decide)) (fun _ => ?_)
            refine lv_iload hx hb dX6_row_83 (lv_at hl 0 rfl) ?_
            refine px_goV (st1 := [.int (-12)]) (px_callS F hK (c_X6_answer l D cy _ 2) kc_X6_answer kw_methodLink_RX6_65 rfl trivial rfl ⟨rfl, rfl⟩ ⟨Nat.le_of_ble_eq_true rfl, Nat.le_of_ble_eq_true rfl⟩ hl.1 rfl (Nat.le_of_ble_eq_true rfl) dX6_row_85 ⟨Nat.zero_le _, Nat.zero_le _⟩) rfl ?_
            exact px_iret F hr hlocks hS (by have e : f_row r (nI cn) (nI kn) i (nI fn) = (r, (-12)) := (by simp [f_row, f_rno, h_4, h_15, h_23, h_44, h_62, ix_nI (show cn < 2 ^ 31 by omega), ix_nI (show kn < 2 ^ 31 by omega), ix_nI (show fn < 2 ^ 31 by omega)] <;> rfl); rw [e]; exact ⟨rfl, _, _, hR⟩) dX6_row_88
          · refine lv_aload_n hx hb dX6_row_65 rfl (lv_at hl 1 rfl) ?_
            refine lv_iload hx hb dX6_row_66 (lv_at hl 0 rfl) ?_
            refine lv_iload_n hx hb dX6_row_68 rfl (lv_at hl 4 rfl) ?_
            refine px_goV (st1 := [.int (nI (f_looked r (rHd r cn) i))]) (px_callV F hK (c_X6_looked l D cy A G r _ _ _ (rHd r cn) i (by omega)) kc_X6_looked kw_methodLink_RX6_108 rfl hR (m_recv hK hR) rfl ⟨rfl, rfl⟩ ⟨Nat.le_of_ble_eq_true rfl, Nat.le_of_ble_eq_true rfl⟩ hl.1 rfl (Nat.le_of_ble_eq_true rfl) dX6_row_69 ⟨Nat.zero_le _, Nat.zero_le _⟩) rfl ?_
            refine lv_goto (tgt := 76) hx hb dX6_row_72 (by decide) ?_
            refine lv_istore (lv' := [(6, .int (nI (f_looked r (rHd r cn) i))), (5, .int (nI (rHd r cn))), (0, .ref (G 0)), (1, .int (nI cn)), (2, .int (nI kn)), (3, .int i), (4, .int (nI fn))]) hx hb dX6_row_76 hl (by decide) rfl (fun ls hl => ?_)
            refine lv_iload hx hb dX6_row_78 (lv_at hl 0 rfl) ?_
            refine lv_if_eq (tgt := 89) hx hb dX6_row_80 (by decide) (fun h_80 => ?_) (fun h_80 => ?_)
            · have h_80 : (f_looked r (rHd r cn) i) = 0 := nIeq (show nI (f_looked r (rHd r cn) i) = nI 0 from h_80) (by omega) (by omega)
              obtain ⟨ht0_j, j, hj_j, rfl⟩ := looked_0 h_80 (by omega)
              refine lv_aload_n hx hb dX6_row_89 rfl (lv_at hl 2 rfl) ?_
              refine lv_iload hx hb dX6_row_90 (lv_at hl 1 rfl) ?_
              refine lv_iload_n hx hb dX6_row_92 rfl (lv_at hl 5 rfl) ?_
              refine lv_aload_n hx hb dX6_row_93 rfl (lv_at hl 2 rfl) ?_
              refine m_get F hK hR 9 (by decide) rfl kw_fieldLink_RX6_31 dX6_row_94 ?_
              refine lv_iload hx hb dX6_row_97 (lv_at hl 6 rfl) ?_
              refine m_ldHd F hK hR fn rfl (by omega) dX6_row_99 ?_
              refine lv_i2l (v := lN (rHd r fn)) hx hb dX6_row_100 (nI_l (n := (rHd r fn)) (by omega)) ?_
              refine px_goMx (st1 := []) (px_callV F hK (c_X6_put l D cy A G r _ _ _ (rHd r cn) j (lN (rHd r fn)) (by omega) (show rS r (rHd r cn) + j < 12200 by omega)) kc_X6_put kw_methodLink_RX6_76 rfl hR (m_recv hK hR) rfl ⟨rfl, rfl⟩ ⟨Nat.le_of_ble_eq_true rfl, Nat.le_of_ble_eq_true rfl⟩ hl.1 rfl (Nat.le_of_ble_eq_true rfl) dX6_row_101 ⟨Nat.zero_le _, Nat.zero_le _⟩) hS rfl (fun H locs hR hS => ?_)
              refine lv_iconst (v := 1) hx hb dX6_row_104 (by decide) ?_
              exact px_iret F hr hlocks hS (by have e : f_row r (nI cn) (nI kn) (nI j) (nI fn) = (f_put r (rHd r cn) j (lN (rHd r fn)), 1) := (by simp [f_row, f_rno, h_4, h_15, h_23, h_44, h_62, h_80, ix_nI (show cn < 2 ^ 31 by omega), ix_nI (show kn < 2 ^ 31 by omega), ix_nI (show fn < 2 ^ 31 by omega), ix_nI (show j < 2 ^ 31 by omega)] <;> rfl); rw [e]; exact ⟨rfl, _, _, hR⟩) dX6_row_105
            · have h_80 : ¬ (f_looked r (rHd r cn) i) = 0 := nIne (show ¬ nI (f_looked r (rHd r cn) i) = nI 0 from h_80)
              refine lv_iload hx hb dX6_row_83 (lv_at hl 0 rfl) ?_
              refine px_goV (st1 := [.int (-10 - (nI (f_looked r (rHd r cn) i)))]) (px_callS F hK (c_X6_answer l D cy _ (nI (f_looked r (rHd r cn) i))) kc_X6_answer kw_methodLink_RX6_65 rfl trivial rfl ⟨rfl, rfl⟩ ⟨Nat.le_of_ble_eq_true rfl, Nat.le_of_ble_eq_true rfl⟩ hl.1 rfl (Nat.le_of_ble_eq_true rfl) dX6_row_85 ⟨Nat.zero_le _, Nat.zero_le _⟩) rfl ?_
              exact px_iret F hr hlocks hS (by have e : f_row r (nI cn) (nI kn) i (nI fn) = (r, -10 - (nI (f_looked r (rHd r cn) i))) := (by simp [f_row, f_rno, h_4, h_15, h_23, h_44, h_62, h_80, ix_nI (show cn < 2 ^ 31 by omega), ix_nI (show kn < 2 ^ 31 by omega), ix_nI (show fn < 2 ^ 31 by omega)] <;> rfl); rw [e]; exact ⟨rfl, _, _, hR⟩) dX6_row_88
      · refine lv_bipush (v := -2) hx hb dX6_row_26 (by decide) ?_
        exact px_iret F hr hlocks hS (by have e : f_row r cl k i f = (r, (-2)) := (by simp [f_row, f_rno, h_4, h_15, h_23] <;> rfl); rw [e]; exact ⟨rfl, _, _, hR⟩) dX6_row_28
set_option maxHeartbeats 400000 in
set_option maxRecDepth 100000 in
theorem c_X6_trouble (l : Launch) (D : va_G) (cy : Nat → ClassId) (A : Nat → Prop) (G : Nat → Nat) (r : RS) (C : Nat → Nat) (E : Nat → Int64) (sz : Nat) (t n : Int32) {kk : Nat} (hI : Inv kk r) : Met l yX6_trouble (px_w yX6_trouble cX6_trouble 4 (some .int)) (rmd 3 0 0) (px_P D cy [.ref (G 0), .int t, .int n] sz (MR D cy A G r C E)) (px_Q (px_M D cy A G (some (.int (f_trouble r t n).2)) ((f_trouble r t n).1)) A) 0 0 A := by
  refine px_met (by decide) (Nat.le_of_ble_eq_true rfl) ?_
  intro p e s m below meth c F hr hlocks hnm hK hsz hR ls hl
  have hx := F.1
  have hb := F.2.1
  have hl : lv_has ls 4 [(0, .ref (G 0)), (1, .int t), (2, .int n)] := hl
  have hS : va_S A s.heap s.heap [] := va_S.rf
  have hbd := hI.bd
  refine lv_iload_n hx hb dX6_trouble_0 rfl (lv_at hl 1 rfl) ?_
  refine lv_iconst (v := 0) hx hb dX6_trouble_1 (by decide) ?_
  refine lv_bipush (v := 7) hx hb dX6_trouble_2 (by decide) ?_
  refine px_goV (st1 := [.int (b2i (f_in t 0 7))]) (px_callS F hK (c_X6_in l D cy _ t 0 7) kc_X6_in kw_methodLink_RX6_57 rfl trivial rfl ⟨rfl, rfl⟩ ⟨Nat.le_of_ble_eq_true rfl, Nat.le_of_ble_eq_true rfl⟩ hl.1 rfl (Nat.le_of_ble_eq_true rfl) dX6_trouble_4 ⟨Nat.zero_le _, Nat.zero_le _⟩) rfl ?_
  refine x_ifeq_b (tgt := 15) hx hb dX6_trouble_7 (by decide) (fun h_7 => ?_) (fun h_7 => ?_)
  · refine lv_bipush (v := -2) hx hb dX6_trouble_15 (by decide) ?_
    exact px_iret F hr hlocks hS (by have e : f_trouble r t n = (r, (-2)) := (by simp [f_trouble, Int32.not_le, Int32.not_lt, h_7] <;> rfl); rw [e]; exact ⟨rfl, _, _, hR⟩) dX6_trouble_17
  · refine lv_iload_n hx hb dX6_trouble_10 rfl (lv_at hl 2 rfl) ?_
    refine lv_iconst (v := -1) hx hb dX6_trouble_11 (by decide) ?_
    refine lv_icmp_ge (tgt := 18) hx hb dX6_trouble_12 (by decide) (fun h_12 => ?_) (fun h_12 => ?_)
    · have h_12 : ¬ n < (-1) := Int32.not_lt.mpr h_12
      obtain ⟨tn, hl_tn, hh_tn, rfl⟩ := f_in_nat h_7 0 7 (by decide) (by decide) (by decide) (by decide)
      refine lv_aload_n hx hb dX6_trouble_18 rfl (lv_at hl 0 rfl) ?_
      refine m_get F hK hR 10 (by decide) rfl kw_fieldLink_RX6_34 dX6_trouble_19 ?_
      refine lv_iload_n hx hb dX6_trouble_22 rfl (lv_at hl 1 rfl) ?_
      refine m_ldTr F hK hR tn rfl (by omega) dX6_trouble_23 ?_
      refine lv_istore_n (lv' := [(3, .int (rTr r tn)), (0, .ref (G 0)), (1, .int (nI tn)), (2, .int n)]) hx hb dX6_trouble_24 rfl hl (by decide) rfl (fun ls hl => ?_)
      refine lv_aload_n hx hb dX6_trouble_25 rfl (lv_at hl 1 rfl) ?_
      refine m_get F hK hR 10 (by decide) rfl kw_fieldLink_RX6_34 dX6_trouble_26 ?_
      refine lv_iload_n hx hb dX6_trouble_29 rfl (lv_at hl 2 rfl) ?_
      refine lv_iload_n hx hb dX6_trouble_30 rfl (lv_at hl 3 rfl) ?_
      refine m_stTr F hK hR hS tn n rfl rfl (by omega) dX6_trouble_31 (fun H locs hR hS => ?_)
      refine lv_iload_n hx hb dX6_trouble_32 rfl (lv_at hl 0 rfl) ?_
      exact px_iret F hr hlocks hS (by have e : f_trouble r (nI tn) n = (sTr r (va_up (rTr r) tn n), rTr r tn) := (by simp [f_trouble, Int32.not_le, Int32.not_lt, h_7, h_12, ix_nI (show tn < 2 ^ 31 by omega)] <;> rfl); rw [e]; exact ⟨rfl, _, _, hR⟩) dX6_trouble_33
    · have h_12 : n < (-1) := Int32.not_le.mp h_12
      refine lv_bipush (v := -2) hx hb dX6_trouble_15 (by decide) ?_
      exact px_iret F hr hlocks hS (by have e : f_trouble r t n = (r, (-2)) := (by simp [f_trouble, Int32.not_le, Int32.not_lt, h_7, h_12] <;> rfl); rw [e]; exact ⟨rfl, _, _, hR⟩) dX6_trouble_17
set_option maxHeartbeats 400000 in
set_option maxRecDepth 100000 in
theorem c_X6_passed (l : Launch) (D : va_G) (cy : Nat → ClassId) (A : Nat → Prop) (G : Nat → Nat) (r : RS) (C : Nat → Nat) (E : Nat → Int64) (sz : Nat)   : Met l yX6_passed (px_w yX6_passed cX6_passed 1 (some .int)) (rmd 1 0 0) (px_P D cy [.ref (G 0)] sz (MR D cy A G r C E)) (px_V (some (.int (rPa r)))) 0 0 (fun _ => False) := by
  refine px_met (by decide) (Nat.le_of_ble_eq_true rfl) ?_
  intro p e s m below meth c F hr hlocks hnm hK hsz hR ls hl
  have hx := F.1
  have hb := F.2.1
  have hl : lv_has ls 1 [(0, .ref (G 0))] := hl
  refine lv_aload_n hx hb dX6_passed_0 rfl (lv_at hl 0 rfl) ?_
  refine m_get F hK hR 11 (by decide) rfl kw_fieldLink_RX6_150 dX6_passed_1 ?_
  exact pv_iret F hr hlocks (by rfl) dX6_passed_4
set_option maxHeartbeats 400000 in
set_option maxRecDepth 100000 in
theorem c_X6_number (l : Launch) (D : va_G) (cy : Nat → ClassId) (A : Nat → Prop) (G : Nat → Nat) (r : RS) (C : Nat → Nat) (E : Nat → Int64) (sz : Nat)   : Met l yX6_number (px_w yX6_number cX6_number 1 (some .int)) (rmd 1 0 0) (px_P D cy [.ref (G 0)] sz (MR D cy A G r C E)) (px_V (some (.int (rNu r)))) 0 0 (fun _ => False) := by
  refine px_met (by decide) (Nat.le_of_ble_eq_true rfl) ?_
  intro p e s m below meth c F hr hlocks hnm hK hsz hR ls hl
  have hx := F.1
  have hb := F.2.1
  have hl : lv_has ls 1 [(0, .ref (G 0))] := hl
  refine lv_aload_n hx hb dX6_number_0 rfl (lv_at hl 0 rfl) ?_
  refine m_get F hK hR 12 (by decide) rfl kw_fieldLink_RX6_37 dX6_number_1 ?_
  exact pv_iret F hr hlocks (by rfl) dX6_number_4
set_option maxHeartbeats 400000 in
set_option maxRecDepth 100000 in
theorem c_X6_fault (l : Launch) (D : va_G) (cy : Nat → ClassId) (A : Nat → Prop) (G : Nat → Nat) (r : RS) (C : Nat → Nat) (E : Nat → Int64) (sz : Nat)   : Met l yX6_fault (px_w yX6_fault cX6_fault 1 (some .int)) (rmd 1 0 0) (px_P D cy [.ref (G 0)] sz (MR D cy A G r C E)) (px_V (some (.int (rFa r)))) 0 0 (fun _ => False) := by
  refine px_met (by decide) (Nat.le_of_ble_eq_true rfl) ?_
  intro p e s m below meth c F hr hlocks hnm hK hsz hR ls hl
  have hx := F.1
  have hb := F.2.1
  have hl : lv_has ls 1 [(0, .ref (G 0))] := hl
  refine lv_aload_n hx hb dX6_fault_0 rfl (lv_at hl 0 rfl) ?_
  refine m_get F hK hR 13 (by decide) rfl kw_fieldLink_RX6_111 dX6_fault_1 ?_
  exact pv_iret F hr hlocks (by rfl) dX6_fault_4
