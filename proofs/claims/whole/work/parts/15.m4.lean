/-! the reference: the public methods, 3 -/
set_option maxHeartbeats 400000 in
set_option maxRecDepth 100000 in
theorem c_X6_cell (l : Launch) (D : va_G) (cy : Nat → ClassId) (A : Nat → Prop) (G : Nat → Nat) (r : RS) (C : Nat → Nat) (E : Nat → Int64) (sz : Nat) (cl k i j : Int32) {kk : Nat} (hI : Inv kk r) : Met l yX6_cell (px_w yX6_cell cX6_cell 7 (some .long)) (rmd 4 0 0) (px_P D cy [.ref (G 0), .int cl, .int k, .int i, .int j] sz (MR D cy A G r C E)) (px_Q (px_M D cy A G (some (.long (f_cell r cl k i j).2)) ((f_cell r cl k i j).1)) A) 0 0 A := by
  refine px_met (by decide) (Nat.le_of_ble_eq_true rfl) ?_
  intro p e s m below meth c F hr hlocks hnm hK hsz hR ls hl
  have hx := F.1
  have hb := F.2.1
  have hl : lv_has ls 7 [(0, .ref (G 0)), (1, .int cl), (2, .int k), (3, .int i), (4, .int j)] := hl
  have hS : va_S A s.heap s.heap [] := va_S.rf
  have hbd := hI.bd
  refine lv_iload_n hx hb dX6_cell_0 rfl (lv_at hl 1 rfl) ?_
  refine px_goV (st1 := [.int (b2i (f_in cl 0 15))]) (px_callS F hK (c_X6_isColumn l D cy _ cl) kc_X6_isColumn kw_methodLink_RX6_53 rfl trivial rfl ⟨rfl, rfl⟩ ⟨Nat.le_of_ble_eq_true rfl, Nat.le_of_ble_eq_true rfl⟩ hl.1 rfl (Nat.le_of_ble_eq_true rfl) dX6_cell_1 ⟨Nat.zero_le _, Nat.zero_le _⟩) rfl ?_
  refine x_ifeq_b (tgt := 18) hx hb dX6_cell_4 (by decide) (fun h_4 => ?_) (fun h_4 => ?_)
  · refine lv_aload_n hx hb dX6_cell_18 rfl (lv_at hl 0 rfl) ?_
    refine lv_bipush (v := -2) hx hb dX6_cell_19 (by decide) ?_
    refine m_put F hK hR hS 13 (by decide) (v := (-2)) rfl (sFa r (-2)) rfl kw_fieldLink_RX6_111 rfl rfl dX6_cell_21 (fun H locs hR hS => ?_)
    refine lv_lconst (v := 0) hx hb dX6_cell_24 (by decide) ?_
    exact px_lret F hr hlocks hS (by have e : f_cell r cl k i j = (sFa r (-2), 0) := (by simp [f_cell, f_no, h_4] <;> rfl); rw [e]; exact ⟨rfl, _, _, hR⟩) dX6_cell_25
  · refine lv_iload_n hx hb dX6_cell_7 rfl (lv_at hl 2 rfl) ?_
    refine lv_bipush (v := 10) hx hb dX6_cell_8 (by decide) ?_
    refine lv_bipush (v := 12) hx hb dX6_cell_10 (by decide) ?_
    refine px_goV (st1 := [.int (b2i (f_in k 10 12))]) (px_callS F hK (c_X6_in l D cy _ k 10 12) kc_X6_in kw_methodLink_RX6_57 rfl trivial rfl ⟨rfl, rfl⟩ ⟨Nat.le_of_ble_eq_true rfl, Nat.le_of_ble_eq_true rfl⟩ hl.1 rfl (Nat.le_of_ble_eq_true rfl) dX6_cell_12 ⟨Nat.zero_le _, Nat.zero_le _⟩) rfl ?_
    refine x_ifne_b (tgt := 26) hx hb dX6_cell_15 (by decide) (fun h_15 => ?_) (fun h_15 => ?_)
    · obtain ⟨cn, hl_cn, hh_cn, rfl⟩ := f_in_nat h_4 0 15 (by decide) (by decide) (by decide) (by decide)
      obtain ⟨kn, hl_kn, hh_kn, rfl⟩ := f_in_nat h_15 10 12 (by decide) (by decide) (by decide) (by decide)
      have hc0 := hI.hd cn (by omega)
      have hc1 := hI.tb _ hc0
      have hlk := looked_le r (rHd r cn) i
      refine lv_aload_n hx hb dX6_cell_26 rfl (lv_at hl 0 rfl) ?_
      refine m_get F hK hR 9 (by decide) rfl kw_fieldLink_RX6_31 dX6_cell_27 ?_
      refine lv_iload_n hx hb dX6_cell_30 rfl (lv_at hl 1 rfl) ?_
      refine m_ldHd F hK hR cn rfl (by omega) dX6_cell_31 ?_
      refine lv_istore (lv' := [(5, .int (nI (rHd r cn))), (0, .ref (G 0)), (1, .int (nI cn)), (2, .int (nI kn)), (3, .int i), (4, .int j)]) hx hb dX6_cell_32 hl (by decide) rfl (fun ls hl => ?_)
      refine lv_aload_n hx hb dX6_cell_34 rfl (lv_at hl 1 rfl) ?_
      refine lv_iload hx hb dX6_cell_35 (lv_at hl 0 rfl) ?_
      refine lv_iload_n hx hb dX6_cell_37 rfl (lv_at hl 3 rfl) ?_
      refine px_goV (st1 := [.int (b2i (f_isOf r (rHd r cn) kn))]) (px_callV F hK (c_X6_isOf l D cy A G r _ _ _ (rHd r cn) kn (by omega) (by omega) (show rK r (rHd r cn) < 100 by omega)) kc_X6_isOf kw_methodLink_RX6_90 rfl hR (m_recv hK hR) rfl ⟨rfl, rfl⟩ ⟨Nat.le_of_ble_eq_true rfl, Nat.le_of_ble_eq_true rfl⟩ hl.1 rfl (Nat.le_of_ble_eq_true rfl) dX6_cell_38 ⟨Nat.zero_le _, Nat.zero_le _⟩) rfl ?_
      refine x_ifeq_b (tgt := 54) hx hb dX6_cell_41 (by decide) (fun h_41 => ?_) (fun h_41 => ?_)
      · refine lv_iconst (v := 2) hx hb dX6_cell_54 (by decide) ?_
        refine lv_istore (lv' := [(6, .int 2), (5, .int (nI (rHd r cn))), (0, .ref (G 0)), (1, .int (nI cn)), (2, .int (nI kn)), (3, .int i), (4, .int j)]) hx hb dX6_cell_55 hl (by decide) rfl (fun ls hl => ?_)
        refine lv_aload_n hx hb dX6_cell_57 rfl (lv_at hl 2 rfl) ?_
        refine lv_iload hx hb dX6_cell_58 (lv_at hl 0 rfl) ?_
        refine lv_if_ne (tgt := 74) hx hb dX6_cell_60 (by decide) (fun _ => ?_) (fun h => absurd h (by decide))
        refine lv_iconst (v := 0) hx hb dX6_cell_74 (by decide) ?_
        refine lv_iload hx hb dX6_cell_75 (lv_at hl 6 rfl) ?_
        refine lv_iload hx hb dX6_cell_77 (lv_at hl 0 rfl) ?_
        refine px_goM (st1 := [.long ((f_itemOf r 0 j 2).2)]) (px_callV F hK (c_X6_itemOf l D cy A G r _ _ _ 0 2 j hI (by omega) (by omega)) kc_X6_itemOf kw_methodLink_RX6_114 rfl hR (m_recv hK hR) rfl ⟨rfl, rfl⟩ ⟨Nat.le_of_ble_eq_true rfl, Nat.le_of_ble_eq_true rfl⟩ hl.1 rfl (Nat.le_of_ble_eq_true rfl) dX6_cell_79 ⟨Nat.zero_le _, Nat.zero_le _⟩) hS rfl (fun H locs C E hR hS => ?_)
        exact px_lret F hr hlocks hS (by have e : f_cell r (nI cn) (nI kn) i j = ((f_itemOf r 0 j 2).1, (f_itemOf r 0 j 2).2) := (by simp [f_cell, f_no, h_4, h_15, h_41, ix_nI (show cn < 2 ^ 31 by omega), ix_nI (show kn < 2 ^ 31 by omega)] <;> rfl); rw [e]; exact ⟨rfl, _, _, hR⟩) dX6_cell_82
      · refine lv_aload_n hx hb dX6_cell_44 rfl (lv_at hl 1 rfl) ?_
        refine lv_iload hx hb dX6_cell_45 (lv_at hl 0 rfl) ?_
        refine lv_iload_n hx hb dX6_cell_47 rfl (lv_at hl 4 rfl) ?_
        refine px_goV (st1 := [.int (nI (f_looked r (rHd r cn) i))]) (px_callV F hK (c_X6_looked l D cy A G r _ _ _ (rHd r cn) i (by omega)) kc_X6_looked kw_methodLink_RX6_108 rfl hR (m_recv hK hR) rfl ⟨rfl, rfl⟩ ⟨Nat.le_of_ble_eq_true rfl, Nat.le_of_ble_eq_true rfl⟩ hl.1 rfl (Nat.le_of_ble_eq_true rfl) dX6_cell_48 ⟨Nat.zero_le _, Nat.zero_le _⟩) rfl ?_
        refine lv_goto (tgt := 55) hx hb dX6_cell_51 (by decide) ?_
        refine lv_istore (lv' := [(6, .int (nI (f_looked r (rHd r cn) i))), (5, .int (nI (rHd r cn))), (0, .ref (G 0)), (1, .int (nI cn)), (2, .int (nI kn)), (3, .int i), (4, .int j)]) hx hb dX6_cell_55 hl (by decide) rfl (fun ls hl => ?_)
        refine lv_aload_n hx hb dX6_cell_57 rfl (lv_at hl 2 rfl) ?_
        refine lv_iload hx hb dX6_cell_58 (lv_at hl 0 rfl) ?_
        refine lv_if_ne (tgt := 74) hx hb dX6_cell_60 (by decide) (fun h_60 => ?_) (fun h_60 => ?_)
        · have h_60 : ¬ (f_looked r (rHd r cn) i) = 0 := nIne (show ¬ nI (f_looked r (rHd r cn) i) = nI 0 from h_60)
          refine lv_iconst (v := 0) hx hb dX6_cell_74 (by decide) ?_
          refine lv_iload hx hb dX6_cell_75 (lv_at hl 6 rfl) ?_
          refine lv_iload hx hb dX6_cell_77 (lv_at hl 0 rfl) ?_
          refine px_goM (st1 := [.long ((f_itemOf r 0 j (f_looked r (rHd r cn) i)).2)]) (px_callV F hK (c_X6_itemOf l D cy A G r _ _ _ 0 (f_looked r (rHd r cn) i) j hI (by omega) (by omega)) kc_X6_itemOf kw_methodLink_RX6_114 rfl hR (m_recv hK hR) rfl ⟨rfl, rfl⟩ ⟨Nat.le_of_ble_eq_true rfl, Nat.le_of_ble_eq_true rfl⟩ hl.1 rfl (Nat.le_of_ble_eq_true rfl) dX6_cell_79 ⟨Nat.zero_le _, Nat.zero_le _⟩) hS rfl (fun H locs C E hR hS => ?_)
          exact px_lret F hr hlocks hS (by have e : f_cell r (nI cn) (nI kn) i j = ((f_itemOf r 0 j (f_looked r (rHd r cn) i)).1, (f_itemOf r 0 j (f_looked r (rHd r cn) i)).2) := (by simp [f_cell, f_no, h_4, h_15, h_41, h_60, ix_nI (show cn < 2 ^ 31 by omega), ix_nI (show kn < 2 ^ 31 by omega)] <;> rfl); rw [e]; exact ⟨rfl, _, _, hR⟩) dX6_cell_82
        · have h_60 : (f_looked r (rHd r cn) i) = 0 := nIeq (show nI (f_looked r (rHd r cn) i) = nI 0 from h_60) (by omega) (by omega)
          obtain ⟨ht0_i0, i0, hj_i0, rfl⟩ := looked_0 h_60 (by omega)
          have hk8 := isOf_k h_41 ht0_i0
          have hit := hI.it ht0_i0 hc0 hj_i0 (by omega)
          have hrow := (hit.2.2.2.2 (by omega)).1
          have hrt := hI.tb _ hrow
          refine lv_aload_n hx hb dX6_cell_63 rfl (lv_at hl 2 rfl) ?_
          refine lv_iload hx hb dX6_cell_64 (lv_at hl 1 rfl) ?_
          refine lv_iload_n hx hb dX6_cell_66 rfl (lv_at hl 5 rfl) ?_
          refine px_goV (st1 := [.long (f_at r (rHd r cn) i0), .ref (G 0)]) (px_callV F hK (c_X6_at l D cy A G r _ _ _ (rHd r cn) i0 (by omega) (show rS r (rHd r cn) + i0 < 12200 by omega)) kc_X6_at kw_methodLink_RX6_80 rfl hR (m_recv hK hR) rfl ⟨rfl, rfl⟩ ⟨Nat.le_of_ble_eq_true rfl, Nat.le_of_ble_eq_true rfl⟩ hl.1 rfl (Nat.le_of_ble_eq_true rfl) dX6_cell_67 ⟨Nat.zero_le _, Nat.zero_le _⟩) rfl ?_
          refine px_topl hit.1 ?_
          refine lv_l2i (v := nI (iv (f_at r (rHd r cn) i0))) hx hb dX6_cell_70 (lN_i _) ?_
          refine lv_goto (tgt := 75) hx hb dX6_cell_71 (by decide) ?_
          refine lv_iload hx hb dX6_cell_75 (lv_at hl 6 rfl) ?_
          refine lv_iload hx hb dX6_cell_77 (lv_at hl 0 rfl) ?_
          refine px_goM (st1 := [.long ((f_itemOf r (iv (f_at r (rHd r cn) i0)) j (f_looked r (rHd r cn) (nI i0))).2)]) (px_callV F hK (c_X6_itemOf l D cy A G r _ _ _ (iv (f_at r (rHd r cn) i0)) (f_looked r (rHd r cn) (nI i0)) j hI (by omega) (by omega)) kc_X6_itemOf kw_methodLink_RX6_114 rfl hR (m_recv hK hR) rfl ⟨rfl, rfl⟩ ⟨Nat.le_of_ble_eq_true rfl, Nat.le_of_ble_eq_true rfl⟩ hl.1 rfl (Nat.le_of_ble_eq_true rfl) dX6_cell_79 ⟨Nat.zero_le _, Nat.zero_le _⟩) hS rfl (fun H locs C E hR hS => ?_)
          exact px_lret F hr hlocks hS (by have e : f_cell r (nI cn) (nI kn) (nI i0) j = ((f_itemOf r (iv (f_at r (rHd r cn) i0)) j (f_looked r (rHd r cn) (nI i0))).1, (f_itemOf r (iv (f_at r (rHd r cn) i0)) j (f_looked r (rHd r cn) (nI i0))).2) := (by simp [f_cell, f_no, h_4, h_15, h_41, h_60, ix_nI (show cn < 2 ^ 31 by omega), ix_nI (show kn < 2 ^ 31 by omega), ix_nI (show i0 < 2 ^ 31 by omega)] <;> rfl); rw [e]; exact ⟨rfl, _, _, hR⟩) dX6_cell_82
    · refine lv_aload_n hx hb dX6_cell_18 rfl (lv_at hl 0 rfl) ?_
      refine lv_bipush (v := -2) hx hb dX6_cell_19 (by decide) ?_
      refine m_put F hK hR hS 13 (by decide) (v := (-2)) rfl (sFa r (-2)) rfl kw_fieldLink_RX6_111 rfl rfl dX6_cell_21 (fun H locs hR hS => ?_)
      refine lv_lconst (v := 0) hx hb dX6_cell_24 (by decide) ?_
      exact px_lret F hr hlocks hS (by have e : f_cell r cl k i j = (sFa r (-2), 0) := (by simp [f_cell, f_no, h_4, h_15] <;> rfl); rw [e]; exact ⟨rfl, _, _, hR⟩) dX6_cell_25
set_option maxHeartbeats 400000 in
set_option maxRecDepth 100000 in
theorem c_X6_set (l : Launch) (D : va_G) (cy : Nat → ClassId) (A : Nat → Prop) (G : Nat → Nat) (r : RS) (C : Nat → Nat) (E : Nat → Int64) (sz : Nat) (cl k i j : Int32) (b : Int64) {kk : Nat} (hI : Inv kk r) : Met l yX6_set (px_w yX6_set cX6_set 10 (some .int)) (rmd 3 0 0) (px_P D cy [.ref (G 0), .int cl, .int k, .int i, .int j, .long b] sz (MR D cy A G r C E)) (px_Q (px_M D cy A G (some (.int (f_set r cl k i j b).2)) ((f_set r cl k i j b).1)) A) 0 0 A := by
  refine px_met (by decide) (Nat.le_of_ble_eq_true rfl) ?_
  intro p e s m below meth c F hr hlocks hnm hK hsz hR ls hl
  have hx := F.1
  have hb := F.2.1
  have hl : lv_has ls 10 [(0, .ref (G 0)), (1, .int cl), (2, .int k), (3, .int i), (4, .int j), (5, .long b)] := hl
  have hS : va_S A s.heap s.heap [] := va_S.rf
  have hbd := hI.bd
  refine lv_iload_n hx hb dX6_set_0 rfl (lv_at hl 1 rfl) ?_
  refine px_goV (st1 := [.int (b2i (f_in cl 0 15))]) (px_callS F hK (c_X6_isColumn l D cy _ cl) kc_X6_isColumn kw_methodLink_RX6_53 rfl trivial rfl ⟨rfl, rfl⟩ ⟨Nat.le_of_ble_eq_true rfl, Nat.le_of_ble_eq_true rfl⟩ hl.1 rfl (Nat.le_of_ble_eq_true rfl) dX6_set_1 ⟨Nat.zero_le _, Nat.zero_le _⟩) rfl ?_
  refine x_ifeq_b (tgt := 18) hx hb dX6_set_4 (by decide) (fun h_4 => ?_) (fun h_4 => ?_)
  · refine lv_bipush (v := -2) hx hb dX6_set_18 (by decide) ?_
    exact px_iret F hr hlocks hS (by have e : f_set r cl k i j b = (r, (-2)) := (by simp [f_set, f_no, f_rowno, h_4] <;> rfl); rw [e]; exact ⟨rfl, _, _, hR⟩) dX6_set_20
  · refine lv_iload_n hx hb dX6_set_7 rfl (lv_at hl 2 rfl) ?_
    refine lv_bipush (v := 10) hx hb dX6_set_8 (by decide) ?_
    refine lv_bipush (v := 11) hx hb dX6_set_10 (by decide) ?_
    refine px_goV (st1 := [.int (b2i (f_in k 10 11))]) (px_callS F hK (c_X6_in l D cy _ k 10 11) kc_X6_in kw_methodLink_RX6_57 rfl trivial rfl ⟨rfl, rfl⟩ ⟨Nat.le_of_ble_eq_true rfl, Nat.le_of_ble_eq_true rfl⟩ hl.1 rfl (Nat.le_of_ble_eq_true rfl) dX6_set_12 ⟨Nat.zero_le _, Nat.zero_le _⟩) rfl ?_
    refine x_ifne_b (tgt := 21) hx hb dX6_set_15 (by decide) (fun h_15 => ?_) (fun h_15 => ?_)
    · obtain ⟨cn, hl_cn, hh_cn, rfl⟩ := f_in_nat h_4 0 15 (by decide) (by decide) (by decide) (by decide)
      obtain ⟨kn, hl_kn, hh_kn, rfl⟩ := f_in_nat h_15 10 11 (by decide) (by decide) (by decide) (by decide)
      have hc0 := hI.hd cn (by omega)
      have hc1 := hI.tb _ hc0
      have hlk := looked_le r (rHd r cn) i
      have hrk : rkN kn ≤ 7 := (by unfold rkN; split; omega; split; omega; split <;> omega)
      refine lv_aload_n hx hb dX6_set_21 rfl (lv_at hl 0 rfl) ?_
      refine m_get F hK hR 9 (by decide) rfl kw_fieldLink_RX6_31 dX6_set_22 ?_
      refine lv_iload_n hx hb dX6_set_25 rfl (lv_at hl 1 rfl) ?_
      refine m_ldHd F hK hR cn rfl (by omega) dX6_set_26 ?_
      refine lv_istore (lv' := [(7, .int (nI (rHd r cn))), (0, .ref (G 0)), (1, .int (nI cn)), (2, .int (nI kn)), (3, .int i), (4, .int j), (5, .long b)]) hx hb dX6_set_27 hl (by decide) rfl (fun ls hl => ?_)
      refine lv_aload_n hx hb dX6_set_29 rfl (lv_at hl 1 rfl) ?_
      refine lv_iload hx hb dX6_set_30 (lv_at hl 0 rfl) ?_
      refine lv_iload_n hx hb dX6_set_32 rfl (lv_at hl 3 rfl) ?_
      refine px_goV (st1 := [.int (b2i (f_isOf r (rHd r cn) kn))]) (px_callV F hK (c_X6_isOf l D cy A G r _ _ _ (rHd r cn) kn (by omega) (by omega) (show rK r (rHd r cn) < 100 by omega)) kc_X6_isOf kw_methodLink_RX6_90 rfl hR (m_recv hK hR) rfl ⟨rfl, rfl⟩ ⟨Nat.le_of_ble_eq_true rfl, Nat.le_of_ble_eq_true rfl⟩ hl.1 rfl (Nat.le_of_ble_eq_true rfl) dX6_set_33 ⟨Nat.zero_le _, Nat.zero_le _⟩) rfl ?_
      refine x_ifeq_b (tgt := 49) hx hb dX6_set_36 (by decide) (fun h_36 => ?_) (fun h_36 => ?_)
      · refine lv_iconst (v := 2) hx hb dX6_set_49 (by decide) ?_
        refine lv_istore (lv' := [(8, .int 2), (7, .int (nI (rHd r cn))), (0, .ref (G 0)), (1, .int (nI cn)), (2, .int (nI kn)), (3, .int i), (4, .int j), (5, .long b)]) hx hb dX6_set_50 hl (by decide) rfl (fun ls hl => ?_)
        refine lv_iload hx hb dX6_set_52 (lv_at hl 0 rfl) ?_
        refine lv_if_ne (tgt := 68) hx hb dX6_set_54 (by decide) (fun _ => ?_) (fun h => absurd h (by decide))
        refine lv_iconst (v := 0) hx hb dX6_set_68 (by decide) ?_
        refine lv_istore (lv' := [(9, .int 0), (8, .int 2), (7, .int (nI (rHd r cn))), (0, .ref (G 0)), (1, .int (nI cn)), (2, .int (nI kn)), (3, .int i), (4, .int j), (5, .long b)]) hx hb dX6_set_69 hl (by decide) rfl (fun ls hl => ?_)
        refine lv_iload hx hb dX6_set_71 (lv_at hl 1 rfl) ?_
        refine lv_if_ne (tgt := 87) hx hb dX6_set_73 (by decide) (fun _ => ?_) (fun h => absurd h (by decide))
        refine lv_iload hx hb dX6_set_87 (lv_at hl 1 rfl) ?_
        refine lv_istore (lv' := [(8, .int 2), (9, .int 0), (7, .int (nI (rHd r cn))), (0, .ref (G 0)), (1, .int (nI cn)), (2, .int (nI kn)), (3, .int i), (4, .int j), (5, .long b)]) hx hb dX6_set_89 hl (by decide) rfl (fun ls hl => ?_)
        refine lv_iload hx hb dX6_set_91 (lv_at hl 0 rfl) ?_
        refine lv_if_eq (tgt := 102) hx hb dX6_set_93 (by decide) (fun h => absurd h (by decide)) (fun _ => ?_)
        refine lv_iload hx hb dX6_set_96 (lv_at hl 0 rfl) ?_
        refine px_goV (st1 := [.int (-12)]) (px_callS F hK (c_X6_answer l D cy _ 2) kc_X6_answer kw_methodLink_RX6_65 rfl trivial rfl ⟨rfl, rfl⟩ ⟨Nat.le_of_ble_eq_true rfl, Nat.le_of_ble_eq_true rfl⟩ hl.1 rfl (Nat.le_of_ble_eq_true rfl) dX6_set_98 ⟨Nat.zero_le _, Nat.zero_le _⟩) rfl ?_
        exact px_iret F hr hlocks hS (by have e : f_set r (nI cn) (nI kn) i j b = (r, (-12)) := (by simp [f_set, f_no, f_rowno, h_4, h_15, h_36, ix_nI (show cn < 2 ^ 31 by omega), ix_nI (show kn < 2 ^ 31 by omega)] <;> rfl); rw [e]; exact ⟨rfl, _, _, hR⟩) dX6_set_101
      · refine lv_aload_n hx hb dX6_set_39 rfl (lv_at hl 1 rfl) ?_
        refine lv_iload hx hb dX6_set_40 (lv_at hl 0 rfl) ?_
        refine lv_iload_n hx hb dX6_set_42 rfl (lv_at hl 4 rfl) ?_
        refine px_goV (st1 := [.int (nI (f_looked r (rHd r cn) i))]) (px_callV F hK (c_X6_looked l D cy A G r _ _ _ (rHd r cn) i (by omega)) kc_X6_looked kw_methodLink_RX6_108 rfl hR (m_recv hK hR) rfl ⟨rfl, rfl⟩ ⟨Nat.le_of_ble_eq_true rfl, Nat.le_of_ble_eq_true rfl⟩ hl.1 rfl (Nat.le_of_ble_eq_true rfl) dX6_set_43 ⟨Nat.zero_le _, Nat.zero_le _⟩) rfl ?_
        refine lv_goto (tgt := 50) hx hb dX6_set_46 (by decide) ?_
        refine lv_istore (lv' := [(8, .int (nI (f_looked r (rHd r cn) i))), (7, .int (nI (rHd r cn))), (0, .ref (G 0)), (1, .int (nI cn)), (2, .int (nI kn)), (3, .int i), (4, .int j), (5, .long b)]) hx hb dX6_set_50 hl (by decide) rfl (fun ls hl => ?_)
        refine lv_iload hx hb dX6_set_52 (lv_at hl 0 rfl) ?_
        refine lv_if_ne (tgt := 68) hx hb dX6_set_54 (by decide) (fun h_54 => ?_) (fun h_54 => ?_)
        · have h_54 : ¬ (f_looked r (rHd r cn) i) = 0 := nIne (show ¬ nI (f_looked r (rHd r cn) i) = nI 0 from h_54)
          refine lv_iconst (v := 0) hx hb dX6_set_68 (by decide) ?_
          refine lv_istore (lv' := [(9, .int 0), (8, .int (nI (f_looked r (rHd r cn) i))), (7, .int (nI (rHd r cn))), (0, .ref (G 0)), (1, .int (nI cn)), (2, .int (nI kn)), (3, .int i), (4, .int j), (5, .long b)]) hx hb dX6_set_69 hl (by decide) rfl (fun ls hl => ?_)
          refine lv_iload hx hb dX6_set_71 (lv_at hl 1 rfl) ?_
          refine lv_if_ne (tgt := 87) hx hb dX6_set_73 (by decide) (fun h_73 => ?_) (fun h_73 => by exfalso; have h_73 : (f_looked r (rHd r cn) i) = 0 := nIeq (show nI (f_looked r (rHd r cn) i) = nI 0 from h_73) (by omega) (by omega); omega)
          have h_73 : ¬ (f_looked r (rHd r cn) i) = 0 := nIne (show ¬ nI (f_looked r (rHd r cn) i) = nI 0 from h_73)
          refine lv_iload hx hb dX6_set_87 (lv_at hl 1 rfl) ?_
          refine lv_istore (lv' := [(8, .int (nI (f_looked r (rHd r cn) i))), (9, .int 0), (7, .int (nI (rHd r cn))), (0, .ref (G 0)), (1, .int (nI cn)), (2, .int (nI kn)), (3, .int i), (4, .int j), (5, .long b)]) hx hb dX6_set_89 hl (by decide) rfl (fun ls hl => ?_)
          refine lv_iload hx hb dX6_set_91 (lv_at hl 0 rfl) ?_
          refine lv_if_eq (tgt := 102) hx hb dX6_set_93 (by decide) (fun h_93 => by exfalso; have h_93 : (f_looked r (rHd r cn) i) = 0 := nIeq (show nI (f_looked r (rHd r cn) i) = nI 0 from h_93) (by omega) (by omega); omega) (fun h_93 => ?_)
          have h_93 : ¬ (f_looked r (rHd r cn) i) = 0 := nIne (show ¬ nI (f_looked r (rHd r cn) i) = nI 0 from h_93)
          refine lv_iload hx hb dX6_set_96 (lv_at hl 0 rfl) ?_
          refine px_goV (st1 := [.int (-10 - (nI (f_looked r (rHd r cn) i)))]) (px_callS F hK (c_X6_answer l D cy _ (nI (f_looked r (rHd r cn) i))) kc_X6_answer kw_methodLink_RX6_65 rfl trivial rfl ⟨rfl, rfl⟩ ⟨Nat.le_of_ble_eq_true rfl, Nat.le_of_ble_eq_true rfl⟩ hl.1 rfl (Nat.le_of_ble_eq_true rfl) dX6_set_98 ⟨Nat.zero_le _, Nat.zero_le _⟩) rfl ?_
          exact px_iret F hr hlocks hS (by have e : f_set r (nI cn) (nI kn) i j b = (r, -10 - (nI (f_looked r (rHd r cn) i))) := (by simp [f_set, f_no, f_rowno, h_4, h_15, h_36, h_54, h_73, h_93, ix_nI (show cn < 2 ^ 31 by omega), ix_nI (show kn < 2 ^ 31 by omega)] <;> rfl); rw [e]; exact ⟨rfl, _, _, hR⟩) dX6_set_101
        · have h_54 : (f_looked r (rHd r cn) i) = 0 := nIeq (show nI (f_looked r (rHd r cn) i) = nI 0 from h_54) (by omega) (by omega)
          obtain ⟨ht0_i0, i0, hj_i0, rfl⟩ := looked_0 h_54 (by omega)
          have hk8 := isOf_k h_36 ht0_i0
          have hit := hI.it ht0_i0 hc0 hj_i0 (by omega)
          have hrow := (hit.2.2.2.2 (by omega)).1
          have hrt := hI.tb _ hrow
          have hlk2 := looked_le r (iv (f_at r (rHd r cn) i0)) j
          refine lv_aload_n hx hb dX6_set_57 rfl (lv_at hl 2 rfl) ?_
          refine lv_iload hx hb dX6_set_58 (lv_at hl 1 rfl) ?_
          refine lv_iload_n hx hb dX6_set_60 rfl (lv_at hl 5 rfl) ?_
          refine px_goV (st1 := [.long (f_at r (rHd r cn) i0)]) (px_callV F hK (c_X6_at l D cy A G r _ _ _ (rHd r cn) i0 (by omega) (show rS r (rHd r cn) + i0 < 12200 by omega)) kc_X6_at kw_methodLink_RX6_80 rfl hR (m_recv hK hR) rfl ⟨rfl, rfl⟩ ⟨Nat.le_of_ble_eq_true rfl, Nat.le_of_ble_eq_true rfl⟩ hl.1 rfl (Nat.le_of_ble_eq_true rfl) dX6_set_61 ⟨Nat.zero_le _, Nat.zero_le _⟩) rfl ?_
          refine px_topl hit.1 ?_
          refine lv_l2i (v := nI (iv (f_at r (rHd r cn) i0))) hx hb dX6_set_64 (lN_i _) ?_
          refine lv_goto (tgt := 69) hx hb dX6_set_65 (by decide) ?_
          refine lv_istore (lv' := [(9, .int (nI (iv (f_at r (rHd r cn) i0)))), (8, .int (nI (f_looked r (rHd r cn) (nI i0)))), (7, .int (nI (rHd r cn))), (0, .ref (G 0)), (1, .int (nI cn)), (2, .int (nI kn)), (3, .int (nI i0)), (4, .int j), (5, .long b)]) hx hb dX6_set_69 hl (by decide) rfl (fun ls hl => ?_)
          refine lv_iload hx hb dX6_set_71 (lv_at hl 1 rfl) ?_
          refine lv_if_ne (tgt := 87) hx hb dX6_set_73 (by decide) (fun h_73 => by exfalso; have h_73 : ¬ (f_looked r (rHd r cn) (nI i0)) = 0 := nIne (show ¬ nI (f_looked r (rHd r cn) (nI i0)) = nI 0 from h_73); omega) (fun h_73 => ?_)
          have h_73 : (f_looked r (rHd r cn) (nI i0)) = 0 := nIeq (show nI (f_looked r (rHd r cn) (nI i0)) = nI 0 from h_73) (by omega) (by omega)
          refine lv_aload_n hx hb dX6_set_76 rfl (lv_at hl 3 rfl) ?_
          refine lv_iload hx hb dX6_set_77 (lv_at hl 0 rfl) ?_
          refine lv_iload hx hb dX6_set_79 (lv_at hl 7 rfl) ?_
          refine px_goV (st1 := [.int (nI (f_looked r (iv (f_at r (rHd r cn) i0)) j))]) (px_callV F hK (c_X6_looked l D cy A G r _ _ _ (iv (f_at r (rHd r cn) i0)) j (by omega)) kc_X6_looked kw_methodLink_RX6_108 rfl hR (m_recv hK hR) rfl ⟨rfl, rfl⟩ ⟨Nat.le_of_ble_eq_true rfl, Nat.le_of_ble_eq_true rfl⟩ hl.1 rfl (Nat.le_of_ble_eq_true rfl) dX6_set_81 ⟨Nat.zero_le _, Nat.zero_le _⟩) rfl ?_
          refine lv_goto (tgt := 89) hx hb dX6_set_84 (by decide) ?_
          refine lv_istore (lv' := [(8, .int (nI (f_looked r (iv (f_at r (rHd r cn) i0)) j))), (9, .int (nI (iv (f_at r (rHd r cn) i0)))), (7, .int (nI (rHd r cn))), (0, .ref (G 0)), (1, .int (nI cn)), (2, .int (nI kn)), (3, .int (nI i0)), (4, .int j), (5, .long b)]) hx hb dX6_set_89 hl (by decide) rfl (fun ls hl => ?_)
          refine lv_iload hx hb dX6_set_91 (lv_at hl 0 rfl) ?_
          refine lv_if_eq (tgt := 102) hx hb dX6_set_93 (by decide) (fun h_93 => ?_) (fun h_93 => ?_)
          · have h_93 : (f_looked r (iv (f_at r (rHd r cn) i0)) j) = 0 := nIeq (show nI (f_looked r (iv (f_at r (rHd r cn) i0)) j) = nI 0 from h_93) (by omega) (by omega)
            obtain ⟨ht0_j0, j0, hj_j0, rfl⟩ := looked_0 h_93 (by omega)
            refine lv_aload_n hx hb dX6_set_102 rfl (lv_at hl 3 rfl) ?_
            refine lv_iload hx hb dX6_set_103 (lv_at hl 1 rfl) ?_
            refine lv_iload hx hb dX6_set_105 (lv_at hl 7 rfl) ?_
            refine lv_iload_n hx hb dX6_set_107 rfl (lv_at hl 5 rfl) ?_
            refine px_goV (st1 := [.int (nI (rkN kn)), .int (nI j0), .int (nI (iv (f_at r (rHd r cn) i0))), .ref (G 0)]) (px_callS F hK (c_X6_rowKind l D cy _ kn (by omega)) kc_X6_rowKind kw_methodLink_RX6_73 rfl trivial rfl ⟨rfl, rfl⟩ ⟨Nat.le_of_ble_eq_true rfl, Nat.le_of_ble_eq_true rfl⟩ hl.1 rfl (Nat.le_of_ble_eq_true rfl) dX6_set_108 ⟨Nat.zero_le _, Nat.zero_le _⟩) rfl ?_
            refine lv_lload hx hb dX6_set_111 (lv_at hl 8 rfl) ?_
            refine px_goV (st1 := [.long (f_cut (rkN kn) b), .int (nI j0), .int (nI (iv (f_at r (rHd r cn) i0))), .ref (G 0)]) (px_callS F hK (c_X6_cut l D cy _ (rkN kn) b (by omega)) kc_X6_cut kw_methodLink_RX6_118 rfl trivial rfl ⟨rfl, rfl⟩ ⟨Nat.le_of_ble_eq_true rfl, Nat.le_of_ble_eq_true rfl⟩ hl.1 rfl (Nat.le_of_ble_eq_true rfl) dX6_set_113 ⟨Nat.zero_le _, Nat.zero_le _⟩) rfl ?_
            refine px_goMx (st1 := []) (px_callV F hK (c_X6_put l D cy A G r _ _ _ (iv (f_at r (rHd r cn) i0)) j0 (f_cut (rkN kn) b) (by omega) (show rS r (iv (f_at r (rHd r cn) i0)) + j0 < 12200 by omega)) kc_X6_put kw_methodLink_RX6_76 rfl hR (m_recv hK hR) rfl ⟨rfl, rfl⟩ ⟨Nat.le_of_ble_eq_true rfl, Nat.le_of_ble_eq_true rfl⟩ hl.1 rfl (Nat.le_of_ble_eq_true rfl) dX6_set_116 ⟨Nat.zero_le _, Nat.zero_le _⟩) hS rfl (fun H locs hR hS => ?_)
            refine lv_iconst (v := 1) hx hb dX6_set_119 (by decide) ?_
            exact px_iret F hr hlocks hS (by have e : f_set r (nI cn) (nI kn) (nI i0) (nI j0) b = (f_put r (iv (f_at r (rHd r cn) i0)) j0 (f_cut (rkN kn) b), 1) := (by simp [f_set, f_no, f_rowno, h_4, h_15, h_36, h_54, h_73, h_93, ix_nI (show cn < 2 ^ 31 by omega), ix_nI (show kn < 2 ^ 31 by omega), ix_nI (show i0 < 2 ^ 31 by omega), ix_nI (show j0 < 2 ^ 31 by omega)] <;> rfl); rw [e]; exact ⟨rfl, _, _, hR⟩) dX6_set_120
          · have h_93 : ¬ (f_looked r (iv (f_at r (rHd r cn) i0)) j) = 0 := nIne (show ¬ nI (f_looked r (iv (f_at r (rHd r cn) i0)) j) = nI 0 from h_93)
            refine lv_iload hx hb dX6_set_96 (lv_at hl 0 rfl) ?_
            refine px_goV (st1 := [.int (-10 - (nI (f_looked r (iv (f_at r (rHd r cn) i0)) j)))]) (px_callS F hK (c_X6_answer l D cy _ (nI (f_looked r (iv (f_at r (rHd r cn) i0)) j))) kc_X6_answer kw_methodLink_RX6_65 rfl trivial rfl ⟨rfl, rfl⟩ ⟨Nat.le_of_ble_eq_true rfl, Nat.le_of_ble_eq_true rfl⟩ hl.1 rfl (Nat.le_of_ble_eq_true rfl) dX6_set_98 ⟨Nat.zero_le _, Nat.zero_le _⟩) rfl ?_
            exact px_iret F hr hlocks hS (by have e : f_set r (nI cn) (nI kn) (nI i0) j b = (r, -10 - (nI (f_looked r (iv (f_at r (rHd r cn) i0)) j))) := (by simp [f_set, f_no, f_rowno, h_4, h_15, h_36, h_54, h_73, h_93, ix_nI (show cn < 2 ^ 31 by omega), ix_nI (show kn < 2 ^ 31 by omega), ix_nI (show i0 < 2 ^ 31 by omega)] <;> rfl); rw [e]; exact ⟨rfl, _, _, hR⟩) dX6_set_101
    · refine lv_bipush (v := -2) hx hb dX6_set_18 (by decide) ?_
      exact px_iret F hr hlocks hS (by have e : f_set r cl k i j b = (r, (-2)) := (by simp [f_set, f_no, f_rowno, h_4, h_15] <;> rfl); rw [e]; exact ⟨rfl, _, _, hR⟩) dX6_set_20
set_option maxHeartbeats 400000 in
set_option maxRecDepth 100000 in
theorem c_X6_deepest (l : Launch) (D : va_G) (cy : Nat → ClassId) (A : Nat → Prop) (G : Nat → Nat) (r : RS) (C : Nat → Nat) (E : Nat → Int64) (sz : Nat) (cl i j k : Int32) {kk : Nat} (hI : Inv kk r) : Met l yX6_deepest (px_w yX6_deepest cX6_deepest 8 (some .long)) (rmd 4 0 0) (px_P D cy [.ref (G 0), .int cl, .int i, .int j, .int k] sz (MR D cy A G r C E)) (px_Q (px_M D cy A G (some (.long (f_deepest r cl i j k).2)) ((f_deepest r cl i j k).1)) A) 0 0 A := by
  refine px_met (by decide) (Nat.le_of_ble_eq_true rfl) ?_
  intro p e s m below meth c F hr hlocks hnm hK hsz hR ls hl
  have hx := F.1
  have hb := F.2.1
  have hl : lv_has ls 8 [(0, .ref (G 0)), (1, .int cl), (2, .int i), (3, .int j), (4, .int k)] := hl
  have hS : va_S A s.heap s.heap [] := va_S.rf
  have hbd := hI.bd
  refine lv_iload_n hx hb dX6_deepest_0 rfl (lv_at hl 1 rfl) ?_
  refine px_goV (st1 := [.int (b2i (f_in cl 0 15))]) (px_callS F hK (c_X6_isColumn l D cy _ cl) kc_X6_isColumn kw_methodLink_RX6_53 rfl trivial rfl ⟨rfl, rfl⟩ ⟨Nat.le_of_ble_eq_true rfl, Nat.le_of_ble_eq_true rfl⟩ hl.1 rfl (Nat.le_of_ble_eq_true rfl) dX6_deepest_1 ⟨Nat.zero_le _, Nat.zero_le _⟩) rfl ?_
  refine x_ifne_b (tgt := 15) hx hb dX6_deepest_4 (by decide) (fun h_4 => ?_) (fun h_4 => ?_)
  · obtain ⟨cn, hl_cn, hh_cn, rfl⟩ := f_in_nat h_4 0 15 (by decide) (by decide) (by decide) (by decide)
    have hc0 := hI.hd cn (by omega)
    have hc1 := hI.tb _ hc0
    have hlk := looked_le r (rHd r cn) i
    refine lv_aload_n hx hb dX6_deepest_15 rfl (lv_at hl 0 rfl) ?_
    refine m_get F hK hR 9 (by decide) rfl kw_fieldLink_RX6_31 dX6_deepest_16 ?_
    refine lv_iload_n hx hb dX6_deepest_19 rfl (lv_at hl 1 rfl) ?_
    refine m_ldHd F hK hR cn rfl (by omega) dX6_deepest_20 ?_
    refine lv_istore (lv' := [(5, .int (nI (rHd r cn))), (0, .ref (G 0)), (1, .int (nI cn)), (2, .int i), (3, .int j), (4, .int k)]) hx hb dX6_deepest_21 hl (by decide) rfl (fun ls hl => ?_)
    refine lv_aload_n hx hb dX6_deepest_23 rfl (lv_at hl 1 rfl) ?_
    refine lv_iload hx hb dX6_deepest_24 (lv_at hl 0 rfl) ?_
    refine lv_bipush (v := 13) hx hb dX6_deepest_26 (by decide) ?_
    refine px_goV (st1 := [.int (b2i (f_isOf r (rHd r cn) 13))]) (px_callV F hK (c_X6_isOf l D cy A G r _ _ _ (rHd r cn) 13 (by omega) (by omega) (show rK r (rHd r cn) < 100 by omega)) kc_X6_isOf kw_methodLink_RX6_90 rfl hR (m_recv hK hR) rfl ⟨rfl, rfl⟩ ⟨Nat.le_of_ble_eq_true rfl, Nat.le_of_ble_eq_true rfl⟩ hl.1 rfl (Nat.le_of_ble_eq_true rfl) dX6_deepest_28 ⟨Nat.zero_le _, Nat.zero_le _⟩) rfl ?_
    refine x_ifeq_b (tgt := 44) hx hb dX6_deepest_31 (by decide) (fun h_31 => ?_) (fun h_31 => ?_)
    · refine lv_iconst (v := 2) hx hb dX6_deepest_44 (by decide) ?_
      refine lv_istore (lv' := [(6, .int 2), (5, .int (nI (rHd r cn))), (0, .ref (G 0)), (1, .int (nI cn)), (2, .int i), (3, .int j), (4, .int k)]) hx hb dX6_deepest_45 hl (by decide) rfl (fun ls hl => ?_)
      refine lv_iload hx hb dX6_deepest_47 (lv_at hl 0 rfl) ?_
      refine lv_if_ne (tgt := 63) hx hb dX6_deepest_49 (by decide) (fun _ => ?_) (fun h => absurd h (by decide))
      refine lv_iconst (v := 0) hx hb dX6_deepest_63 (by decide) ?_
      refine lv_istore (lv' := [(7, .int 0), (6, .int 2), (5, .int (nI (rHd r cn))), (0, .ref (G 0)), (1, .int (nI cn)), (2, .int i), (3, .int j), (4, .int k)]) hx hb dX6_deepest_64 hl (by decide) rfl (fun ls hl => ?_)
      refine lv_iload hx hb dX6_deepest_66 (lv_at hl 1 rfl) ?_
      refine lv_if_ne (tgt := 81) hx hb dX6_deepest_68 (by decide) (fun _ => ?_) (fun h => absurd h (by decide))
      refine lv_iload hx hb dX6_deepest_81 (lv_at hl 1 rfl) ?_
      refine lv_istore (lv' := [(6, .int 2), (7, .int 0), (5, .int (nI (rHd r cn))), (0, .ref (G 0)), (1, .int (nI cn)), (2, .int i), (3, .int j), (4, .int k)]) hx hb dX6_deepest_83 hl (by decide) rfl (fun ls hl => ?_)
      refine lv_aload_n hx hb dX6_deepest_85 rfl (lv_at hl 3 rfl) ?_
      refine lv_iload hx hb dX6_deepest_86 (lv_at hl 0 rfl) ?_
      refine lv_if_ne (tgt := 102) hx hb dX6_deepest_88 (by decide) (fun _ => ?_) (fun h => absurd h (by decide))
      refine lv_iconst (v := 0) hx hb dX6_deepest_102 (by decide) ?_
      refine lv_iload hx hb dX6_deepest_103 (lv_at hl 7 rfl) ?_
      refine lv_iload hx hb dX6_deepest_105 (lv_at hl 0 rfl) ?_
      refine px_goM (st1 := [.long ((f_itemOf r 0 k 2).2)]) (px_callV F hK (c_X6_itemOf l D cy A G r _ _ _ 0 2 k hI (by omega) (by omega)) kc_X6_itemOf kw_methodLink_RX6_114 rfl hR (m_recv hK hR) rfl ⟨rfl, rfl⟩ ⟨Nat.le_of_ble_eq_true rfl, Nat.le_of_ble_eq_true rfl⟩ hl.1 rfl (Nat.le_of_ble_eq_true rfl) dX6_deepest_107 ⟨Nat.zero_le _, Nat.zero_le _⟩) hS rfl (fun H locs C E hR hS => ?_)
      exact px_lret F hr hlocks hS (by have e : f_deepest r (nI cn) i j k = ((f_itemOf r 0 k 2).1, (f_itemOf r 0 k 2).2) := (by simp [f_deepest, f_no, f_rowno, h_4, h_31, ix_nI (show cn < 2 ^ 31 by omega)] <;> rfl); rw [e]; exact ⟨rfl, _, _, hR⟩) dX6_deepest_110
    · refine lv_aload_n hx hb dX6_deepest_34 rfl (lv_at hl 1 rfl) ?_
      refine lv_iload hx hb dX6_deepest_35 (lv_at hl 0 rfl) ?_
      refine lv_iload_n hx hb dX6_deepest_37 rfl (lv_at hl 3 rfl) ?_
      refine px_goV (st1 := [.int (nI (f_looked r (rHd r cn) i))]) (px_callV F hK (c_X6_looked l D cy A G r _ _ _ (rHd r cn) i (by omega)) kc_X6_looked kw_methodLink_RX6_108 rfl hR (m_recv hK hR) rfl ⟨rfl, rfl⟩ ⟨Nat.le_of_ble_eq_true rfl, Nat.le_of_ble_eq_true rfl⟩ hl.1 rfl (Nat.le_of_ble_eq_true rfl) dX6_deepest_38 ⟨Nat.zero_le _, Nat.zero_le _⟩) rfl ?_
      refine lv_goto (tgt := 45) hx hb dX6_deepest_41 (by decide) ?_
      refine lv_istore (lv' := [(6, .int (nI (f_looked r (rHd r cn) i))), (5, .int (nI (rHd r cn))), (0, .ref (G 0)), (1, .int (nI cn)), (2, .int i), (3, .int j), (4, .int k)]) hx hb dX6_deepest_45 hl (by decide) rfl (fun ls hl => ?_)
      refine lv_iload hx hb dX6_deepest_47 (lv_at hl 0 rfl) ?_
      refine lv_if_ne (tgt := 63) hx hb dX6_deepest_49 (by decide) (fun h_49 => ?_) (fun h_49 => ?_)
      · have h_49 : ¬ (f_looked r (rHd r cn) i) = 0 := nIne (show ¬ nI (f_looked r (rHd r cn) i) = nI 0 from h_49)
        refine lv_iconst (v := 0) hx hb dX6_deepest_63 (by decide) ?_
        refine lv_istore (lv' := [(7, .int 0), (6, .int (nI (f_looked r (rHd r cn) i))), (5, .int (nI (rHd r cn))), (0, .ref (G 0)), (1, .int (nI cn)), (2, .int i), (3, .int j), (4, .int k)]) hx hb dX6_deepest_64 hl (by decide) rfl (fun ls hl => ?_)
        refine lv_iload hx hb dX6_deepest_66 (lv_at hl 1 rfl) ?_
        refine lv_if_ne (tgt := 81) hx hb dX6_deepest_68 (by decide) (fun h_68 => ?_) (fun h_68 => by exfalso; have h_68 : (f_looked r (rHd r cn) i) = 0 := nIeq (show nI (f_looked r (rHd r cn) i) = nI 0 from h_68) (by omega) (by omega); omega)
        have h_68 : ¬ (f_looked r (rHd r cn) i) = 0 := nIne (show ¬ nI (f_looked r (rHd r cn) i) = nI 0 from h_68)
        refine lv_iload hx hb dX6_deepest_81 (lv_at hl 1 rfl) ?_
        refine lv_istore (lv' := [(6, .int (nI (f_looked r (rHd r cn) i))), (7, .int 0), (5, .int (nI (rHd r cn))), (0, .ref (G 0)), (1, .int (nI cn)), (2, .int i), (3, .int j), (4, .int k)]) hx hb dX6_deepest_83 hl (by decide) rfl (fun ls hl => ?_)
        refine lv_aload_n hx hb dX6_deepest_85 rfl (lv_at hl 3 rfl) ?_
        refine lv_iload hx hb dX6_deepest_86 (lv_at hl 0 rfl) ?_
        refine lv_if_ne (tgt := 102) hx hb dX6_deepest_88 (by decide) (fun h_88 => ?_) (fun h_88 => by exfalso; have h_88 : (f_looked r (rHd r cn) i) = 0 := nIeq (show nI (f_looked r (rHd r cn) i) = nI 0 from h_88) (by omega) (by omega); omega)
        have h_88 : ¬ (f_looked r (rHd r cn) i) = 0 := nIne (show ¬ nI (f_looked r (rHd r cn) i) = nI 0 from h_88)
        refine lv_iconst (v := 0) hx hb dX6_deepest_102 (by decide) ?_
        refine lv_iload hx hb dX6_deepest_103 (lv_at hl 7 rfl) ?_
        refine lv_iload hx hb dX6_deepest_105 (lv_at hl 0 rfl) ?_
        refine px_goM (st1 := [.long ((f_itemOf r 0 k (f_looked r (rHd r cn) i)).2)]) (px_callV F hK (c_X6_itemOf l D cy A G r _ _ _ 0 (f_looked r (rHd r cn) i) k hI (by omega) (by omega)) kc_X6_itemOf kw_methodLink_RX6_114 rfl hR (m_recv hK hR) rfl ⟨rfl, rfl⟩ ⟨Nat.le_of_ble_eq_true rfl, Nat.le_of_ble_eq_true rfl⟩ hl.1 rfl (Nat.le_of_ble_eq_true rfl) dX6_deepest_107 ⟨Nat.zero_le _, Nat.zero_le _⟩) hS rfl (fun H locs C E hR hS => ?_)
        exact px_lret F hr hlocks hS (by have e : f_deepest r (nI cn) i j k = ((f_itemOf r 0 k (f_looked r (rHd r cn) i)).1, (f_itemOf r 0 k (f_looked r (rHd r cn) i)).2) := (by simp [f_deepest, f_no, f_rowno, h_4, h_31, h_49, h_68, h_88, ix_nI (show cn < 2 ^ 31 by omega)] <;> rfl); rw [e]; exact ⟨rfl, _, _, hR⟩) dX6_deepest_110
      · have h_49 : (f_looked r (rHd r cn) i) = 0 := nIeq (show nI (f_looked r (rHd r cn) i) = nI 0 from h_49) (by omega) (by omega)
        obtain ⟨ht0_i0, i0, hj_i0, rfl⟩ := looked_0 h_49 (by omega)
        have hk8 := isOf_k h_31 ht0_i0
        have hit := hI.it ht0_i0 hc0 hj_i0 (by omega)
        have hrow := (hit.2.2.2.2 (by omega)).1
        have hrt := hI.tb _ hrow
        have hlk2 := looked_le r (iv (f_at r (rHd r cn) i0)) j
        refine lv_aload_n hx hb dX6_deepest_52 rfl (lv_at hl 2 rfl) ?_
        refine lv_iload hx hb dX6_deepest_53 (lv_at hl 1 rfl) ?_
        refine lv_iload_n hx hb dX6_deepest_55 rfl (lv_at hl 4 rfl) ?_
        refine px_goV (st1 := [.long (f_at r (rHd r cn) i0)]) (px_callV F hK (c_X6_at l D cy A G r _ _ _ (rHd r cn) i0 (by omega) (show rS r (rHd r cn) + i0 < 12200 by omega)) kc_X6_at kw_methodLink_RX6_80 rfl hR (m_recv hK hR) rfl ⟨rfl, rfl⟩ ⟨Nat.le_of_ble_eq_true rfl, Nat.le_of_ble_eq_true rfl⟩ hl.1 rfl (Nat.le_of_ble_eq_true rfl) dX6_deepest_56 ⟨Nat.zero_le _, Nat.zero_le _⟩) rfl ?_
        refine px_topl hit.1 ?_
        refine lv_l2i (v := nI (iv (f_at r (rHd r cn) i0))) hx hb dX6_deepest_59 (lN_i _) ?_
        refine lv_goto (tgt := 64) hx hb dX6_deepest_60 (by decide) ?_
        refine lv_istore (lv' := [(7, .int (nI (iv (f_at r (rHd r cn) i0)))), (6, .int (nI (f_looked r (rHd r cn) (nI i0)))), (5, .int (nI (rHd r cn))), (0, .ref (G 0)), (1, .int (nI cn)), (2, .int (nI i0)), (3, .int j), (4, .int k)]) hx hb dX6_deepest_64 hl (by decide) rfl (fun ls hl => ?_)
        refine lv_iload hx hb dX6_deepest_66 (lv_at hl 1 rfl) ?_
        refine lv_if_ne (tgt := 81) hx hb dX6_deepest_68 (by decide) (fun h_68 => by exfalso; have h_68 : ¬ (f_looked r (rHd r cn) (nI i0)) = 0 := nIne (show ¬ nI (f_looked r (rHd r cn) (nI i0)) = nI 0 from h_68); omega) (fun h_68 => ?_)
        have h_68 : (f_looked r (rHd r cn) (nI i0)) = 0 := nIeq (show nI (f_looked r (rHd r cn) (nI i0)) = nI 0 from h_68) (by omega) (by omega)
        refine lv_aload_n hx hb dX6_deepest_71 rfl (lv_at hl 3 rfl) ?_
        refine lv_iload hx hb dX6_deepest_72 (lv_at hl 0 rfl) ?_
        refine lv_iload_n hx hb dX6_deepest_74 rfl (lv_at hl 6 rfl) ?_
        refine px_goV (st1 := [.int (nI (f_looked r (iv (f_at r (rHd r cn) i0)) j))]) (px_callV F hK (c_X6_looked l D cy A G r _ _ _ (iv (f_at r (rHd r cn) i0)) j (by omega)) kc_X6_looked kw_methodLink_RX6_108 rfl hR (m_recv hK hR) rfl ⟨rfl, rfl⟩ ⟨Nat.le_of_ble_eq_true rfl, Nat.le_of_ble_eq_true rfl⟩ hl.1 rfl (Nat.le_of_ble_eq_true rfl) dX6_deepest_75 ⟨Nat.zero_le _, Nat.zero_le _⟩) rfl ?_
        refine lv_goto (tgt := 83) hx hb dX6_deepest_78 (by decide) ?_
        refine lv_istore (lv' := [(6, .int (nI (f_looked r (iv (f_at r (rHd r cn) i0)) j))), (7, .int (nI (iv (f_at r (rHd r cn) i0)))), (5, .int (nI (rHd r cn))), (0, .ref (G 0)), (1, .int (nI cn)), (2, .int (nI i0)), (3, .int j), (4, .int k)]) hx hb dX6_deepest_83 hl (by decide) rfl (fun ls hl => ?_)
        refine lv_aload_n hx hb dX6_deepest_85 rfl (lv_at hl 3 rfl) ?_
        refine lv_iload hx hb dX6_deepest_86 (lv_at hl 0 rfl) ?_
        refine lv_if_ne (tgt := 102) hx hb dX6_deepest_88 (by decide) (fun h_88 => ?_) (fun h_88 => ?_)
        · have h_88 : ¬ (f_looked r (iv (f_at r (rHd r cn) i0)) j) = 0 := nIne (show ¬ nI (f_looked r (iv (f_at r (rHd r cn) i0)) j) = nI 0 from h_88)
          refine lv_iconst (v := 0) hx hb dX6_deepest_102 (by decide) ?_
          refine lv_iload hx hb dX6_deepest_103 (lv_at hl 7 rfl) ?_
          refine lv_iload hx hb dX6_deepest_105 (lv_at hl 0 rfl) ?_
          refine px_goM (st1 := [.long ((f_itemOf r 0 k (f_looked r (iv (f_at r (rHd r cn) i0)) j)).2)]) (px_callV F hK (c_X6_itemOf l D cy A G r _ _ _ 0 (f_looked r (iv (f_at r (rHd r cn) i0)) j) k hI (by omega) (by omega)) kc_X6_itemOf kw_methodLink_RX6_114 rfl hR (m_recv hK hR) rfl ⟨rfl, rfl⟩ ⟨Nat.le_of_ble_eq_true rfl, Nat.le_of_ble_eq_true rfl⟩ hl.1 rfl (Nat.le_of_ble_eq_true rfl) dX6_deepest_107 ⟨Nat.zero_le _, Nat.zero_le _⟩) hS rfl (fun H locs C E hR hS => ?_)
          exact px_lret F hr hlocks hS (by have e : f_deepest r (nI cn) (nI i0) j k = ((f_itemOf r 0 k (f_looked r (iv (f_at r (rHd r cn) i0)) j)).1, (f_itemOf r 0 k (f_looked r (iv (f_at r (rHd r cn) i0)) j)).2) := (by simp [f_deepest, f_no, f_rowno, h_4, h_31, h_49, h_68, h_88, ix_nI (show cn < 2 ^ 31 by omega), ix_nI (show i0 < 2 ^ 31 by omega)] <;> rfl); rw [e]; exact ⟨rfl, _, _, hR⟩) dX6_deepest_110
        · have h_88 : (f_looked r (iv (f_at r (rHd r cn) i0)) j) = 0 := nIeq (show nI (f_looked r (iv (f_at r (rHd r cn) i0)) j) = nI 0 from h_88) (by omega) (by omega)
          obtain ⟨ht0_j0, j0, hj_j0, rfl⟩ := looked_0 h_88 (by omega)
          have hk10 := isOf_k ((hit.2.2.2.2 (by omega)).2 ht0_j0) ht0_j0
          have hrk : rkN (rK r (rHd r cn)) = 10 := (by rw [show rK r (rHd r cn) = 13 by omega]; rfl)
          have hit2 := hI.it ht0_j0 hrow hj_j0 (by omega)
          have hrow2 := (hit2.2.2.2.2 (by omega)).1
          refine lv_aload_n hx hb dX6_deepest_91 rfl (lv_at hl 3 rfl) ?_
          refine lv_iload hx hb dX6_deepest_92 (lv_at hl 1 rfl) ?_
          refine lv_iload_n hx hb dX6_deepest_94 rfl (lv_at hl 6 rfl) ?_
          refine px_goV (st1 := [.long (f_at r (iv (f_at r (rHd r cn) i0)) j0), .ref (G 0)]) (px_callV F hK (c_X6_at l D cy A G r _ _ _ (iv (f_at r (rHd r cn) i0)) j0 (by omega) (show rS r (iv (f_at r (rHd r cn) i0)) + j0 < 12200 by omega)) kc_X6_at kw_methodLink_RX6_80 rfl hR (m_recv hK hR) rfl ⟨rfl, rfl⟩ ⟨Nat.le_of_ble_eq_true rfl, Nat.le_of_ble_eq_true rfl⟩ hl.1 rfl (Nat.le_of_ble_eq_true rfl) dX6_deepest_95 ⟨Nat.zero_le _, Nat.zero_le _⟩) rfl ?_
          refine px_topl hit2.1 ?_
          refine lv_l2i (v := nI (iv (f_at r (iv (f_at r (rHd r cn) i0)) j0))) hx hb dX6_deepest_98 (lN_i _) ?_
          refine lv_goto (tgt := 103) hx hb dX6_deepest_99 (by decide) ?_
          refine lv_iload hx hb dX6_deepest_103 (lv_at hl 7 rfl) ?_
          refine lv_iload hx hb dX6_deepest_105 (lv_at hl 0 rfl) ?_
          refine px_goM (st1 := [.long ((f_itemOf r (iv (f_at r (iv (f_at r (rHd r cn) i0)) j0)) k (f_looked r (iv (f_at r (rHd r cn) i0)) (nI j0))).2)]) (px_callV F hK (c_X6_itemOf l D cy A G r _ _ _ (iv (f_at r (iv (f_at r (rHd r cn) i0)) j0)) (f_looked r (iv (f_at r (rHd r cn) i0)) (nI j0)) k hI (by omega) (by omega)) kc_X6_itemOf kw_methodLink_RX6_114 rfl hR (m_recv hK hR) rfl ⟨rfl, rfl⟩ ⟨Nat.le_of_ble_eq_true rfl, Nat.le_of_ble_eq_true rfl⟩ hl.1 rfl (Nat.le_of_ble_eq_true rfl) dX6_deepest_107 ⟨Nat.zero_le _, Nat.zero_le _⟩) hS rfl (fun H locs C E hR hS => ?_)
          exact px_lret F hr hlocks hS (by have e : f_deepest r (nI cn) (nI i0) (nI j0) k = ((f_itemOf r (iv (f_at r (iv (f_at r (rHd r cn) i0)) j0)) k (f_looked r (iv (f_at r (rHd r cn) i0)) (nI j0))).1, (f_itemOf r (iv (f_at r (iv (f_at r (rHd r cn) i0)) j0)) k (f_looked r (iv (f_at r (rHd r cn) i0)) (nI j0))).2) := (by simp [f_deepest, f_no, f_rowno, h_4, h_31, h_49, h_68, h_88, ix_nI (show cn < 2 ^ 31 by omega), ix_nI (show i0 < 2 ^ 31 by omega), ix_nI (show j0 < 2 ^ 31 by omega)] <;> rfl); rw [e]; exact ⟨rfl, _, _, hR⟩) dX6_deepest_110
  · refine lv_aload_n hx hb dX6_deepest_7 rfl (lv_at hl 0 rfl) ?_
    refine lv_bipush (v := -2) hx hb dX6_deepest_8 (by decide) ?_
    refine m_put F hK hR hS 13 (by decide) (v := (-2)) rfl (sFa r (-2)) rfl kw_fieldLink_RX6_111 rfl rfl dX6_deepest_10 (fun H locs hR hS => ?_)
    refine lv_lconst (v := 0) hx hb dX6_deepest_13 (by decide) ?_
    exact px_lret F hr hlocks hS (by have e : f_deepest r cl i j k = (sFa r (-2), 0) := (by simp [f_deepest, f_no, f_rowno, h_4] <;> rfl); rw [e]; exact ⟨rfl, _, _, hR⟩) dX6_deepest_14
