/-! the class: the public methods, 4 -/
theorem no_kind {kk : Nat} {r : RS} (hI : Inv kk r) {t k : Nat} {i : Int32} (ht : t ≤ rT r) (h : f_no r t k i = 0) (h10 : 10 ≤ k) : f_rowAt r t i ≤ rT r ∧ (f_rowAt r t i ≠ 0 → rK r (f_rowAt r t i) = rkN k ∨ (rkN k = 8 ∧ rK r (f_rowAt r t i) = 9)) := by
  obtain ⟨h0, hk, he⟩ := no_row h h10
  obtain ⟨-, j, hj, rfl⟩ := looked_0 (no_0 h).2 (hI.tb t ht).2.1
  have hm := (hI.tb t ht).2.1
  rw [he, ix_nI (show j < 2 ^ 31 by omega)]
  rcases row_lt hI h0 ht hj (by omega) with q | ⟨q1, q2⟩
  · rw [q]; exact ⟨Nat.zero_le _, fun z => absurd rfl z⟩
  · rw [hk] at q2; exact ⟨q1, fun _ => q2⟩
theorem io_0 {r : RS} {t u : Nat} {j : Int32} {no : Nat} (h : no = 0) (hu : u = t) : f_itemOf r (if no = 0 then t else 0) j no = f_itemOf r u j 0 := by subst h; subst hu; rfl
theorem io_n {r : RS} {t : Nat} {j : Int32} {no : Nat} (h : ¬ no = 0) : f_itemOf r (if no = 0 then t else 0) j no = (sFa r (nI no), 0) := by
  unfold f_itemOf
  rw [if_pos (by rw [if_neg h]; exact h), if_neg h]
set_option maxHeartbeats 400000 in
set_option maxRecDepth 100000 in
theorem c_X5_cell (l : Launch) (D : va_G) (cy : Nat → ClassId) (A : Nat → Prop) (r : RS) (g : CG) (sz : Nat)  (cl k i j : Int32)  {kk : Nat} (hI : Inv kk r) (hV : VR r) (hK9 : VK r) : Met l yX5_cell (px_w yX5_cell cX5_cell 7 (some .long)) (rmd 9 0 0) (px_P D cy [.ref (gA g 0), .int cl, .int k, .int i, .int j] sz (CR D cy A r g)) (px_Q (px_Cx D cy A g (some (.long (f_cell r cl k i j).2)) ((f_cell r cl k i j).1)) A) 0 0 A := by
  refine px_met (by decide) (Nat.le_of_ble_eq_true rfl) ?_
  intro p e s m below meth c F hr hlocks hnm hK hsz hR ls hl
  have hx := F.1
  have hb := F.2.1
  have hS : va_S A s.heap s.heap [] := va_S.rf
  have hbd := hI.bd
  have hkb := hK9.k
  have hM0 := (hK9 0).2
  have hK0 := hkb 0
  have hl : lv_has ls 7 [(0, .ref (gA g 0)), (1, .int cl), (2, .int k), (3, .int i), (4, .int j)] := hl
  refine lv_iload_n hx hb dX5_cell_0 rfl (lv_at hl 1 rfl) ?_
  refine px_goV (st1 := [.int (b2i (f_in cl 0 15))]) (px_callS F hK (c_X5_isColumn l D cy _ cl) kc_X5_isColumn kw_methodLink_RX5_22 rfl trivial rfl ⟨rfl, rfl⟩ ⟨Nat.le_of_ble_eq_true rfl, Nat.le_of_ble_eq_true rfl⟩ hl.1 rfl (Nat.le_of_ble_eq_true rfl) dX5_cell_1 ⟨Nat.zero_le _, Nat.zero_le _⟩) rfl ?_
  refine x_ifeq_b (tgt := 18) hx hb dX5_cell_4 (by decide) (fun h_4 => ?_) (fun h_4 => ?_)
  · refine lv_aload_n hx hb dX5_cell_18 rfl (lv_at hl 0 rfl) ?_
    refine lv_bipush (v := -2) hx hb dX5_cell_19 (by decide) ?_
    refine px_goCx (st1 := [.long 0]) (px_callV F hK (c_X5_noBits l D cy A r g _ (-2)) kc_X5_noBits kw_methodLink_RX5_68 rfl hR (c_recv hK hR) rfl ⟨rfl, rfl⟩ ⟨Nat.le_of_ble_eq_true rfl, Nat.le_of_ble_eq_true rfl⟩ hl.1 rfl (Nat.le_of_ble_eq_true rfl) dX5_cell_21 ⟨Nat.zero_le _, Nat.zero_le _⟩) hS rfl (fun H locs hR hS => ?_)
    exact px_lret F hr hlocks hS (by have e : f_cell r cl k i j = (sFa r (-2), 0) := (by simp [f_cell, h_4] <;> rfl); rw [e]; exact ⟨rfl, hR⟩) dX5_cell_24
  · refine lv_iload_n hx hb dX5_cell_7 rfl (lv_at hl 2 rfl) ?_
    refine lv_bipush (v := 10) hx hb dX5_cell_8 (by decide) ?_
    refine lv_bipush (v := 12) hx hb dX5_cell_10 (by decide) ?_
    refine px_goV (st1 := [.int (b2i (f_in k 10 12))]) (px_callS F hK (c_X5_isKind l D cy _ k 10 12) kc_X5_isKind kw_methodLink_RX5_26 rfl trivial rfl ⟨rfl, rfl⟩ ⟨Nat.le_of_ble_eq_true rfl, Nat.le_of_ble_eq_true rfl⟩ hl.1 rfl (Nat.le_of_ble_eq_true rfl) dX5_cell_12 ⟨Nat.zero_le _, Nat.zero_le _⟩) rfl ?_
    refine x_ifne_b (tgt := 25) hx hb dX5_cell_15 (by decide) (fun h_15 => ?_) (fun h_15 => ?_)
    · obtain ⟨cn, hl_cn, hh_cn, rfl⟩ := f_in_nat h_4 0 15 (by decide) (by decide) (by decide) (by decide)
      obtain ⟨kn, hl_kn, hh_kn, rfl⟩ := f_in_nat h_15 10 12 (by decide) (by decide) (by decide) (by decide)
      have hc0 := hI.hd cn (by omega)
      have hc1 := hI.tb _ hc0
      refine lv_aload_n hx hb dX5_cell_25 rfl (lv_at hl 0 rfl) ?_
      refine c_gx F hK hR 0 (by decide) rfl kw_fieldLink_RX5_11 dX5_cell_26 ?_
      refine lv_iload_n hx hb dX5_cell_29 rfl (lv_at hl 1 rfl) ?_
      refine c_ldcol F hK hR cn rfl (by omega) dX5_cell_30 ?_
      refine x_astore_q (lv' := [(5, va_rf (c_col (gA g) (rHd r cn))), (0, .ref (gA g 0)), (1, .int (nI cn)), (2, .int (nI kn)), (3, .int i), (4, .int j)]) hx hb dX5_cell_31 hl (by decide) rfl (fun ls hl => ?_)
      refine x_aload_q hx hb dX5_cell_33 (lv_at hl 0 rfl) ?_
      refine lv_iload_n hx hb dX5_cell_35 rfl (lv_at hl 3 rfl) ?_
      refine lv_iload_n hx hb dX5_cell_36 rfl (lv_at hl 4 rfl) ?_
      refine px_goV (st1 := [.int (nI (f_no r (rHd r cn) kn i))]) (px_callS F hK (c_X5_faultTakenN l D cy A r g _ (rHd r cn) (va_rf (c_col (gA g) (rHd r cn))) kn i rfl (by omega) (by omega) (by omega) hK0 hM0 (by omega)) kc_X5_faultTaken kw_methodLink_RX5_91 rfl hR rfl ⟨rfl, rfl⟩ ⟨Nat.le_of_ble_eq_true rfl, Nat.le_of_ble_eq_true rfl⟩ hl.1 rfl (Nat.le_of_ble_eq_true rfl) dX5_cell_37 ⟨Nat.zero_le _, Nat.zero_le _⟩) rfl ?_
      refine lv_istore (lv' := [(6, .int (nI (f_no r (rHd r cn) kn i))), (5, va_rf (c_col (gA g) (rHd r cn))), (0, .ref (gA g 0)), (1, .int (nI cn)), (2, .int (nI kn)), (3, .int i), (4, .int j)]) hx hb dX5_cell_40 hl (by decide) (by simp [List.filter, cat_q]) (fun ls hl => ?_)
      have hno := no_le (r := r) (t := rHd r cn) (k := kn) (i := i)
      refine lv_iload hx hb dX5_cell_42 (lv_at hl 0 rfl) ?_
      refine lv_if_ne (tgt := 62) hx hb dX5_cell_44 (by decide) (fun h_44 => ?_) (fun h_44 => ?_)
      · have h_44 : ¬ (f_no r (rHd r cn) kn i) = 0 := nIne (show ¬ nI (f_no r (rHd r cn) kn i) = nI 0 from h_44)
        refine lv_aload_n hx hb dX5_cell_62 rfl (lv_at hl 2 rfl) ?_
        refine lv_iload hx hb dX5_cell_63 (lv_at hl 0 rfl) ?_
        refine px_goCx (st1 := [.long 0]) (px_callV F hK (c_X5_noBits l D cy A r g _ (nI (f_no r (rHd r cn) kn i))) kc_X5_noBits kw_methodLink_RX5_68 rfl hR (c_recv hK hR) rfl ⟨rfl, rfl⟩ ⟨Nat.le_of_ble_eq_true rfl, Nat.le_of_ble_eq_true rfl⟩ hl.1 rfl (Nat.le_of_ble_eq_true rfl) dX5_cell_65 ⟨Nat.zero_le _, Nat.zero_le _⟩) hS rfl (fun H locs hR hS => ?_)
        exact px_lret F hr hlocks hS (by have e : f_cell r (nI cn) (nI kn) i j = (sFa r (nI (f_no r (rHd r cn) kn i)), 0) := (by simp only [f_cell, h_4, h_15, ix_nI (show cn < 2 ^ 31 by omega), ix_nI (show kn < 2 ^ 31 by omega), Bool.not_true, Bool.or_self, Bool.false_eq_true, if_false]; rw [io_n h_44]); rw [e]; exact ⟨rfl, hR⟩) dX5_cell_68
      · have h_44 : (f_no r (rHd r cn) kn i) = 0 := nIeq (show nI (f_no r (rHd r cn) kn i) = nI 0 from h_44) (by omega) (by omega)
        refine lv_aload_n hx hb dX5_cell_47 rfl (lv_at hl 2 rfl) ?_
        refine x_aload_q hx hb dX5_cell_48 (lv_at hl 1 rfl) ?_
        refine lv_iload_n hx hb dX5_cell_50 rfl (lv_at hl 5 rfl) ?_
        refine px_goV (st1 := [va_rf (c_col (gA g) (f_rowAt r (rHd r cn) i)), .ref (gA g 0)]) (px_callS F hK (c_X5_rowAt l D cy A r g _ (rHd r cn) (va_rf (c_col (gA g) (rHd r cn))) i rfl (by omega) (by omega) (by omega) (fun q => (hV.2.1 _ q (by omega)).2.2)) kc_X5_rowAt kw_methodLink_RX5_105 rfl hR rfl ⟨rfl, rfl⟩ ⟨Nat.le_of_ble_eq_true rfl, Nat.le_of_ble_eq_true rfl⟩ hl.1 rfl (Nat.le_of_ble_eq_true rfl) dX5_cell_51 ⟨Nat.zero_le _, Nat.zero_le _⟩) rfl ?_
        refine lv_iload hx hb dX5_cell_54 (lv_at hl 6 rfl) ?_
        have hrk := no_kind hI hc0 h_44 hl_kn
        have hr1 := hI.tb _ hrk.1
        refine px_goCx (st1 := [.long ((f_itemOf r (f_rowAt r (rHd r cn) i) j 0).2)]) (px_callV F hK (c_X5_bitsAt l D cy A r g _ (f_rowAt r (rHd r cn) i) (va_rf (c_col (gA g) (f_rowAt r (rHd r cn) i))) j rfl hrk.1 hr1.2.1 hM0 (fun q => by have := hrk.2 q; have := rkN_lt (k := kn) (by omega) (by omega); omega) (fun q => (hV.2.1 _ q hrk.1).2.2)) kc_X5_bitsAt kw_methodLink_RX5_72 rfl hR (c_recv hK hR) rfl ⟨rfl, rfl⟩ ⟨Nat.le_of_ble_eq_true rfl, Nat.le_of_ble_eq_true rfl⟩ hl.1 rfl (Nat.le_of_ble_eq_true rfl) dX5_cell_56 ⟨Nat.zero_le _, Nat.zero_le _⟩) hS rfl (fun H locs hR hS => ?_)
        refine lv_goto (tgt := 68) hx hb dX5_cell_59 (by decide) ?_
        exact px_lret F hr hlocks hS (by have e : f_cell r (nI cn) (nI kn) i j = ((f_itemOf r (f_rowAt r (rHd r cn) i) j 0).1, (f_itemOf r (f_rowAt r (rHd r cn) i) j 0).2) := (by simp only [f_cell, h_4, h_15, ix_nI (show cn < 2 ^ 31 by omega), ix_nI (show kn < 2 ^ 31 by omega), Bool.not_true, Bool.or_self, Bool.false_eq_true, if_false]; rw [io_0 h_44 (no_row h_44 hl_kn).2.2]); rw [e]; exact ⟨rfl, hR⟩) dX5_cell_68
    · refine lv_aload_n hx hb dX5_cell_18 rfl (lv_at hl 0 rfl) ?_
      refine lv_bipush (v := -2) hx hb dX5_cell_19 (by decide) ?_
      refine px_goCx (st1 := [.long 0]) (px_callV F hK (c_X5_noBits l D cy A r g _ (-2)) kc_X5_noBits kw_methodLink_RX5_68 rfl hR (c_recv hK hR) rfl ⟨rfl, rfl⟩ ⟨Nat.le_of_ble_eq_true rfl, Nat.le_of_ble_eq_true rfl⟩ hl.1 rfl (Nat.le_of_ble_eq_true rfl) dX5_cell_21 ⟨Nat.zero_le _, Nat.zero_le _⟩) hS rfl (fun H locs hR hS => ?_)
      exact px_lret F hr hlocks hS (by have e : f_cell r cl k i j = (sFa r (-2), 0) := (by simp [f_cell, h_4, h_15] <;> rfl); rw [e]; exact ⟨rfl, hR⟩) dX5_cell_24
theorem rkN_11 {k : Nat} (h : 10 ≤ k) (h2 : k ≤ 11) : rkN k ≤ 7 := by
  rcases (show k = 10 ∨ k = 11 by omega) with rfl | rfl <;> decide
theorem set_e {kk : Nat} {r : RS} (hI : Inv kk r) {t k : Nat} {i j : Int32} {b : Int64} (ht : t ≤ rT r) (h : f_no r t k i = 0) (h10 : 10 ≤ k) (h11 : k ≤ 11) : f_pb r (f_rowAt r t i) j b = if ¬ f_rowno r t i j (f_no r t k i) = 0 then (r, -10 - nI (f_rowno r t i j (f_no r t k i))) else (f_put r (iv (f_at r t (ix i))) (ix j) (f_cut (rkN k) b), 1) := by
  have he := (no_row h h10).2.2
  have e2 : f_rowno r t i j (f_no r t k i) = f_looked r (f_rowAt r t i) j := by unfold f_rowno; rw [if_pos h, he]
  rw [e2]
  unfold f_pb
  by_cases hl : f_looked r (f_rowAt r t i) j = 0
  · rw [if_neg (fun q => q hl), if_neg (fun q => q hl)]
    have h0 : f_rowAt r t i ≠ 0 := fun q => by rw [q] at hl; cases hl
    rcases (no_kind hI ht h h10).2 h0 with q | ⟨q1, q2⟩
    · rw [q, he]
    · have := rkN_11 h10 h11; omega
  · rw [if_pos hl, if_pos hl]
set_option maxHeartbeats 400000 in
set_option maxRecDepth 100000 in
theorem c_X5_set (l : Launch) (D : va_G) (cy : Nat → ClassId) (A : Nat → Prop) (r : RS) (g : CG) (sz : Nat)  (cl k i j : Int32) (b : Int64)  {kk : Nat} (hI : Inv kk r) (hV : VR r) (hK9 : VK r) : Met l yX5_set (px_w yX5_set cX5_set 9 (some .int)) (rmd 9 0 0) (px_P D cy [.ref (gA g 0), .int cl, .int k, .int i, .int j, .long b] sz (CR D cy A r g)) (px_Q (px_Cx D cy A g (some (.int (f_set r cl k i j b).2)) ((f_set r cl k i j b).1)) A) 0 0 A := by
  refine px_met (by decide) (Nat.le_of_ble_eq_true rfl) ?_
  intro p e s m below meth c F hr hlocks hnm hK hsz hR ls hl
  have hx := F.1
  have hb := F.2.1
  have hS : va_S A s.heap s.heap [] := va_S.rf
  have hbd := hI.bd
  have hkb := hK9.k
  have hM0 := (hK9 0).2
  have hK0 := hkb 0
  have hl : lv_has ls 9 [(0, .ref (gA g 0)), (1, .int cl), (2, .int k), (3, .int i), (4, .int j), (5, .long b)] := hl
  refine lv_iload_n hx hb dX5_set_0 rfl (lv_at hl 1 rfl) ?_
  refine px_goV (st1 := [.int (b2i (f_in cl 0 15))]) (px_callS F hK (c_X5_isColumn l D cy _ cl) kc_X5_isColumn kw_methodLink_RX5_22 rfl trivial rfl ⟨rfl, rfl⟩ ⟨Nat.le_of_ble_eq_true rfl, Nat.le_of_ble_eq_true rfl⟩ hl.1 rfl (Nat.le_of_ble_eq_true rfl) dX5_set_1 ⟨Nat.zero_le _, Nat.zero_le _⟩) rfl ?_
  refine x_ifeq_b (tgt := 18) hx hb dX5_set_4 (by decide) (fun h_4 => ?_) (fun h_4 => ?_)
  · refine lv_bipush (v := -2) hx hb dX5_set_18 (by decide) ?_
    exact px_iret F hr hlocks hS (by have e : f_set r cl k i j b = (r, (-2)) := (by simp [f_set, h_4] <;> rfl); rw [e]; exact ⟨rfl, hR⟩) dX5_set_20
  · refine lv_iload_n hx hb dX5_set_7 rfl (lv_at hl 2 rfl) ?_
    refine lv_bipush (v := 10) hx hb dX5_set_8 (by decide) ?_
    refine lv_bipush (v := 11) hx hb dX5_set_10 (by decide) ?_
    refine px_goV (st1 := [.int (b2i (f_in k 10 11))]) (px_callS F hK (c_X5_isKind l D cy _ k 10 11) kc_X5_isKind kw_methodLink_RX5_26 rfl trivial rfl ⟨rfl, rfl⟩ ⟨Nat.le_of_ble_eq_true rfl, Nat.le_of_ble_eq_true rfl⟩ hl.1 rfl (Nat.le_of_ble_eq_true rfl) dX5_set_12 ⟨Nat.zero_le _, Nat.zero_le _⟩) rfl ?_
    refine x_ifne_b (tgt := 21) hx hb dX5_set_15 (by decide) (fun h_15 => ?_) (fun h_15 => ?_)
    · obtain ⟨cn, hl_cn, hh_cn, rfl⟩ := f_in_nat h_4 0 15 (by decide) (by decide) (by decide) (by decide)
      obtain ⟨kn, hl_kn, hh_kn, rfl⟩ := f_in_nat h_15 10 11 (by decide) (by decide) (by decide) (by decide)
      have hc0 := hI.hd cn (by omega)
      have hc1 := hI.tb _ hc0
      refine lv_aload_n hx hb dX5_set_21 rfl (lv_at hl 0 rfl) ?_
      refine c_gx F hK hR 0 (by decide) rfl kw_fieldLink_RX5_11 dX5_set_22 ?_
      refine lv_iload_n hx hb dX5_set_25 rfl (lv_at hl 1 rfl) ?_
      refine c_ldcol F hK hR cn rfl (by omega) dX5_set_26 ?_
      refine x_astore_q (lv' := [(7, va_rf (c_col (gA g) (rHd r cn))), (0, .ref (gA g 0)), (1, .int (nI cn)), (2, .int (nI kn)), (3, .int i), (4, .int j), (5, .long b)]) hx hb dX5_set_27 hl (by decide) rfl (fun ls hl => ?_)
      refine x_aload_q hx hb dX5_set_29 (lv_at hl 0 rfl) ?_
      refine lv_iload_n hx hb dX5_set_31 rfl (lv_at hl 3 rfl) ?_
      refine lv_iload_n hx hb dX5_set_32 rfl (lv_at hl 4 rfl) ?_
      refine px_goV (st1 := [.int (nI (f_no r (rHd r cn) kn i))]) (px_callS F hK (c_X5_faultTakenN l D cy A r g _ (rHd r cn) (va_rf (c_col (gA g) (rHd r cn))) kn i rfl (by omega) (by omega) (by omega) hK0 hM0 (by omega)) kc_X5_faultTaken kw_methodLink_RX5_91 rfl hR rfl ⟨rfl, rfl⟩ ⟨Nat.le_of_ble_eq_true rfl, Nat.le_of_ble_eq_true rfl⟩ hl.1 rfl (Nat.le_of_ble_eq_true rfl) dX5_set_33 ⟨Nat.zero_le _, Nat.zero_le _⟩) rfl ?_
      refine lv_istore (lv' := [(8, .int (nI (f_no r (rHd r cn) kn i))), (7, va_rf (c_col (gA g) (rHd r cn))), (0, .ref (gA g 0)), (1, .int (nI cn)), (2, .int (nI kn)), (3, .int i), (4, .int j), (5, .long b)]) hx hb dX5_set_36 hl (by decide) (by simp [List.filter, cat_q]) (fun ls hl => ?_)
      have hno := no_le (r := r) (t := rHd r cn) (k := kn) (i := i)
      refine lv_iload hx hb dX5_set_38 (lv_at hl 0 rfl) ?_
      refine lv_if_ne (tgt := 59) hx hb dX5_set_40 (by decide) (fun h_40 => ?_) (fun h_40 => ?_)
      · have h_40 : ¬ (f_no r (rHd r cn) kn i) = 0 := nIne (show ¬ nI (f_no r (rHd r cn) kn i) = nI 0 from h_40)
        refine lv_iload hx hb dX5_set_59 (lv_at hl 0 rfl) ?_
        refine px_goV (st1 := [.int (-10 - (nI (f_no r (rHd r cn) kn i)))]) (px_callS F hK (c_X5_against l D cy _ (nI (f_no r (rHd r cn) kn i))) kc_X5_against kw_methodLink_RX5_34 rfl trivial rfl ⟨rfl, rfl⟩ ⟨Nat.le_of_ble_eq_true rfl, Nat.le_of_ble_eq_true rfl⟩ hl.1 rfl (Nat.le_of_ble_eq_true rfl) dX5_set_61 ⟨Nat.zero_le _, Nat.zero_le _⟩) rfl ?_
        exact px_iret F hr hlocks hS (by have e : f_set r (nI cn) (nI kn) i j b = (r, -10 - (nI (f_no r (rHd r cn) kn i))) := (by simp only [f_set, h_4, h_15, ix_nI (show cn < 2 ^ 31 by omega), ix_nI (show kn < 2 ^ 31 by omega), Bool.not_true, Bool.or_self, Bool.false_eq_true, if_false]; have e9 : f_rowno r (rHd r cn) i j (f_no r (rHd r cn) kn i) = f_no r (rHd r cn) kn i := if_neg h_40; rw [e9, if_pos h_40]); rw [e]; exact ⟨rfl, hR⟩) dX5_set_64
      · have h_40 : (f_no r (rHd r cn) kn i) = 0 := nIeq (show nI (f_no r (rHd r cn) kn i) = nI 0 from h_40) (by omega) (by omega)
        refine x_aload_q hx hb dX5_set_43 (lv_at hl 1 rfl) ?_
        refine lv_iload_n hx hb dX5_set_45 rfl (lv_at hl 5 rfl) ?_
        refine px_goV (st1 := [va_rf (c_col (gA g) (f_rowAt r (rHd r cn) i))]) (px_callS F hK (c_X5_rowAt l D cy A r g _ (rHd r cn) (va_rf (c_col (gA g) (rHd r cn))) i rfl (by omega) (by omega) (by omega) (fun q => (hV.2.1 _ q (by omega)).2.2)) kc_X5_rowAt kw_methodLink_RX5_105 rfl hR rfl ⟨rfl, rfl⟩ ⟨Nat.le_of_ble_eq_true rfl, Nat.le_of_ble_eq_true rfl⟩ hl.1 rfl (Nat.le_of_ble_eq_true rfl) dX5_set_46 ⟨Nat.zero_le _, Nat.zero_le _⟩) rfl ?_
        have hrk := no_kind hI hc0 h_40 hl_kn
        have hr1 := hI.tb _ hrk.1
        refine lv_iload hx hb dX5_set_49 (lv_at hl 6 rfl) ?_
        refine lv_lload hx hb dX5_set_51 (lv_at hl 7 rfl) ?_
        refine px_goCx (st1 := [.int ((f_pb r (f_rowAt r (rHd r cn) i) j b).2)]) (px_callS F hK (c_X5_putBits l D cy A r g _ (f_rowAt r (rHd r cn) i) (va_rf (c_col (gA g) (f_rowAt r (rHd r cn) i))) j b rfl hrk.1 hr1.2.1 hM0 hV.1 (fun q => by have := hrk.2 q; have := rkN_11 hl_kn hh_kn; omega)) kc_X5_putBits kw_methodLink_RX5_76 rfl hR rfl ⟨rfl, rfl⟩ ⟨Nat.le_of_ble_eq_true rfl, Nat.le_of_ble_eq_true rfl⟩ hl.1 rfl (Nat.le_of_ble_eq_true rfl) dX5_set_53 ⟨Nat.zero_le _, Nat.zero_le _⟩) hS rfl (fun H locs hR hS => ?_)
        refine lv_goto (tgt := 64) hx hb dX5_set_56 (by decide) ?_
        exact px_iret F hr hlocks hS (by have e : f_set r (nI cn) (nI kn) i j b = ((f_pb r (f_rowAt r (rHd r cn) i) j b).1, (f_pb r (f_rowAt r (rHd r cn) i) j b).2) := (by simp only [f_set, h_4, h_15, ix_nI (show cn < 2 ^ 31 by omega), ix_nI (show kn < 2 ^ 31 by omega), Bool.not_true, Bool.or_self, Bool.false_eq_true, if_false]; rw [set_e hI hc0 h_40 hl_kn hh_kn]); rw [e]; exact ⟨rfl, hR⟩) dX5_set_64
    · refine lv_bipush (v := -2) hx hb dX5_set_18 (by decide) ?_
      exact px_iret F hr hlocks hS (by have e : f_set r cl k i j b = (r, (-2)) := (by simp [f_set, h_4, h_15] <;> rfl); rw [e]; exact ⟨rfl, hR⟩) dX5_set_20
theorem deep_kind {kk : Nat} {r : RS} (hI : Inv kk r) {t : Nat} {i j : Int32} (ht : t ≤ rT r) (h : f_no r t 13 i = 0) (hl : f_looked r (f_rowAt r t i) j = 0) : f_rowAt r (f_rowAt r t i) j ≤ rT r ∧ (f_rowAt r (f_rowAt r t i) j ≠ 0 → rK r (f_rowAt r (f_rowAt r t i) j) = 4) ∧ f_rowAt r (f_rowAt r t i) j = iv (f_at r (iv (f_at r t (ix i))) (ix j)) := by
  have hk := no_kind hI ht h (by decide)
  have h0 : f_rowAt r t i ≠ 0 := fun q => by rw [q] at hl; cases hl
  have hk10 : rK r (f_rowAt r t i) = 10 := by
    rcases hk.2 h0 with q | ⟨q1, q2⟩
    · exact q
    · cases q1
  have hn : f_no r (f_rowAt r t i) 10 j = 0 := by
    unfold f_no
    rw [if_pos (by simp [f_isOf, hk10])]; exact hl
  have h2 := no_kind hI hk.1 hn (by decide)
  refine ⟨h2.1, fun q => ?_, ?_⟩
  · rcases h2.2 q with z | ⟨z1, z2⟩
    · exact z
    · cases z1
  · rw [(no_row hn (by decide)).2.2, (no_row h (by decide)).2.2]
set_option maxHeartbeats 400000 in
set_option maxRecDepth 100000 in
theorem c_X5_deepest (l : Launch) (D : va_G) (cy : Nat → ClassId) (A : Nat → Prop) (r : RS) (g : CG) (sz : Nat)  (cl i j k : Int32)  {kk : Nat} (hI : Inv kk r) (hV : VR r) (hK9 : VK r) : Met l yX5_deepest (px_w yX5_deepest cX5_deepest 8 (some .long)) (rmd 9 0 0) (px_P D cy [.ref (gA g 0), .int cl, .int i, .int j, .int k] sz (CR D cy A r g)) (px_Q (px_Cx D cy A g (some (.long (f_deepest r cl i j k).2)) ((f_deepest r cl i j k).1)) A) 0 0 A := by
  refine px_met (by decide) (Nat.le_of_ble_eq_true rfl) ?_
  intro p e s m below meth c F hr hlocks hnm hK hsz hR ls hl
  have hx := F.1
  have hb := F.2.1
  have hS : va_S A s.heap s.heap [] := va_S.rf
  have hbd := hI.bd
  have hkb := hK9.k
  have hM0 := (hK9 0).2
  have hK0 := hkb 0
  have hl : lv_has ls 8 [(0, .ref (gA g 0)), (1, .int cl), (2, .int i), (3, .int j), (4, .int k)] := hl
  refine lv_iload_n hx hb dX5_deepest_0 rfl (lv_at hl 1 rfl) ?_
  refine px_goV (st1 := [.int (b2i (f_in cl 0 15))]) (px_callS F hK (c_X5_isColumn l D cy _ cl) kc_X5_isColumn kw_methodLink_RX5_22 rfl trivial rfl ⟨rfl, rfl⟩ ⟨Nat.le_of_ble_eq_true rfl, Nat.le_of_ble_eq_true rfl⟩ hl.1 rfl (Nat.le_of_ble_eq_true rfl) dX5_deepest_1 ⟨Nat.zero_le _, Nat.zero_le _⟩) rfl ?_
  refine x_ifne_b (tgt := 14) hx hb dX5_deepest_4 (by decide) (fun h_4 => ?_) (fun h_4 => ?_)
  · obtain ⟨cn, hl_cn, hh_cn, rfl⟩ := f_in_nat h_4 0 15 (by decide) (by decide) (by decide) (by decide)
    have hc0 := hI.hd cn (by omega)
    have hc1 := hI.tb _ hc0
    refine lv_aload_n hx hb dX5_deepest_14 rfl (lv_at hl 0 rfl) ?_
    refine c_gx F hK hR 0 (by decide) rfl kw_fieldLink_RX5_11 dX5_deepest_15 ?_
    refine lv_iload_n hx hb dX5_deepest_18 rfl (lv_at hl 1 rfl) ?_
    refine c_ldcol F hK hR cn rfl (by omega) dX5_deepest_19 ?_
    refine x_astore_q (lv' := [(5, va_rf (c_col (gA g) (rHd r cn))), (0, .ref (gA g 0)), (1, .int (nI cn)), (2, .int i), (3, .int j), (4, .int k)]) hx hb dX5_deepest_20 hl (by decide) rfl (fun ls hl => ?_)
    refine x_aload_q hx hb dX5_deepest_22 (lv_at hl 0 rfl) ?_
    refine lv_bipush (v := 13) hx hb dX5_deepest_24 (by decide) ?_
    refine lv_iload_n hx hb dX5_deepest_26 rfl (lv_at hl 3 rfl) ?_
    refine px_goV (st1 := [.int (nI (f_no r (rHd r cn) 13 i))]) (px_callS F hK (c_X5_faultTakenN l D cy A r g _ (rHd r cn) (va_rf (c_col (gA g) (rHd r cn))) 13 i rfl (by omega) (by omega) (by omega) hK0 hM0 (by omega)) kc_X5_faultTaken kw_methodLink_RX5_91 rfl hR rfl ⟨rfl, rfl⟩ ⟨Nat.le_of_ble_eq_true rfl, Nat.le_of_ble_eq_true rfl⟩ hl.1 rfl (Nat.le_of_ble_eq_true rfl) dX5_deepest_27 ⟨Nat.zero_le _, Nat.zero_le _⟩) rfl ?_
    refine lv_istore (lv' := [(6, .int (nI (f_no r (rHd r cn) 13 i))), (5, va_rf (c_col (gA g) (rHd r cn))), (0, .ref (gA g 0)), (1, .int (nI cn)), (2, .int i), (3, .int j), (4, .int k)]) hx hb dX5_deepest_30 hl (by decide) (by simp [List.filter, cat_q]) (fun ls hl => ?_)
    have hno := no_le (r := r) (t := rHd r cn) (k := 13) (i := i)
    refine lv_iload hx hb dX5_deepest_32 (lv_at hl 0 rfl) ?_
    refine lv_if_eq (tgt := 44) hx hb dX5_deepest_34 (by decide) (fun h_34 => ?_) (fun h_34 => ?_)
    · have h_34 : (f_no r (rHd r cn) 13 i) = 0 := nIeq (show nI (f_no r (rHd r cn) 13 i) = nI 0 from h_34) (by omega) (by omega)
      refine x_aload_q hx hb dX5_deepest_44 (lv_at hl 1 rfl) ?_
      refine lv_iload_n hx hb dX5_deepest_46 rfl (lv_at hl 4 rfl) ?_
      refine px_goV (st1 := [va_rf (c_col (gA g) (f_rowAt r (rHd r cn) i))]) (px_callS F hK (c_X5_rowAt l D cy A r g _ (rHd r cn) (va_rf (c_col (gA g) (rHd r cn))) i rfl (by omega) (by omega) (by omega) (fun q => (hV.2.1 _ q (by omega)).2.2)) kc_X5_rowAt kw_methodLink_RX5_105 rfl hR rfl ⟨rfl, rfl⟩ ⟨Nat.le_of_ble_eq_true rfl, Nat.le_of_ble_eq_true rfl⟩ hl.1 rfl (Nat.le_of_ble_eq_true rfl) dX5_deepest_47 ⟨Nat.zero_le _, Nat.zero_le _⟩) rfl ?_
      have hrk := no_kind hI hc0 h_34 (by decide)
      have hr1 := hI.tb _ hrk.1
      have hlk := looked_le r (f_rowAt r (rHd r cn) i) j
      refine x_astore_q (lv' := [(7, va_rf (c_col (gA g) (f_rowAt r (rHd r cn) i))), (6, .int (nI (f_no r (rHd r cn) 13 i))), (5, va_rf (c_col (gA g) (rHd r cn))), (0, .ref (gA g 0)), (1, .int (nI cn)), (2, .int i), (3, .int j), (4, .int k)]) hx hb dX5_deepest_50 hl (by decide) rfl (fun ls hl => ?_)
      refine x_aload_q hx hb dX5_deepest_52 (lv_at hl 0 rfl) ?_
      refine lv_iload_n hx hb dX5_deepest_54 rfl (lv_at hl 6 rfl) ?_
      refine px_goV (st1 := [.int (nI (f_looked r (f_rowAt r (rHd r cn) i) j))]) (px_callS F hK (c_X5_faultAt l D cy A r g _ (f_rowAt r (rHd r cn) i) (va_rf (c_col (gA g) (f_rowAt r (rHd r cn) i))) j rfl (by omega) (by omega)) kc_X5_faultAt kw_methodLink_RX5_108 rfl hR rfl ⟨rfl, rfl⟩ ⟨Nat.le_of_ble_eq_true rfl, Nat.le_of_ble_eq_true rfl⟩ hl.1 rfl (Nat.le_of_ble_eq_true rfl) dX5_deepest_55 ⟨Nat.zero_le _, Nat.zero_le _⟩) rfl ?_
      refine lv_istore (lv' := [(6, .int (nI (f_looked r (f_rowAt r (rHd r cn) i) j))), (7, va_rf (c_col (gA g) (f_rowAt r (rHd r cn) i))), (5, va_rf (c_col (gA g) (rHd r cn))), (0, .ref (gA g 0)), (1, .int (nI cn)), (2, .int i), (3, .int j), (4, .int k)]) hx hb dX5_deepest_58 hl (by decide) (by simp [List.filter, cat_q]) (fun ls hl => ?_)
      refine lv_iload hx hb dX5_deepest_60 (lv_at hl 0 rfl) ?_
      refine lv_if_ne (tgt := 80) hx hb dX5_deepest_62 (by decide) (fun h_62 => ?_) (fun h_62 => ?_)
      · have h_62 : ¬ (f_looked r (f_rowAt r (rHd r cn) i) j) = 0 := nIne (show ¬ nI (f_looked r (f_rowAt r (rHd r cn) i) j) = nI 0 from h_62)
        refine lv_aload_n hx hb dX5_deepest_80 rfl (lv_at hl 3 rfl) ?_
        refine lv_iload hx hb dX5_deepest_81 (lv_at hl 0 rfl) ?_
        refine px_goCx (st1 := [.long 0]) (px_callV F hK (c_X5_noBits l D cy A r g _ (nI (f_looked r (f_rowAt r (rHd r cn) i) j))) kc_X5_noBits kw_methodLink_RX5_68 rfl hR (c_recv hK hR) rfl ⟨rfl, rfl⟩ ⟨Nat.le_of_ble_eq_true rfl, Nat.le_of_ble_eq_true rfl⟩ hl.1 rfl (Nat.le_of_ble_eq_true rfl) dX5_deepest_83 ⟨Nat.zero_le _, Nat.zero_le _⟩) hS rfl (fun H locs hR hS => ?_)
        exact px_lret F hr hlocks hS (by have e : f_deepest r (nI cn) i j k = (sFa r (nI (f_looked r (f_rowAt r (rHd r cn) i) j)), 0) := (by simp only [f_deepest, h_4, ix_nI (show cn < 2 ^ 31 by omega), Bool.not_true, Bool.false_eq_true, if_false]; have e9 : f_rowno r (rHd r cn) i j (f_no r (rHd r cn) 13 i) = f_looked r (f_rowAt r (rHd r cn) i) j := (by unfold f_rowno; rw [if_pos h_34, (no_row h_34 (by decide)).2.2]); rw [e9, io_n h_62]); rw [e]; exact ⟨rfl, hR⟩) dX5_deepest_86
      · have h_62 : (f_looked r (f_rowAt r (rHd r cn) i) j) = 0 := nIeq (show nI (f_looked r (f_rowAt r (rHd r cn) i) j) = nI 0 from h_62) (by omega) (by omega)
        refine lv_aload_n hx hb dX5_deepest_65 rfl (lv_at hl 3 rfl) ?_
        refine x_aload_q hx hb dX5_deepest_66 (lv_at hl 1 rfl) ?_
        refine lv_iload_n hx hb dX5_deepest_68 rfl (lv_at hl 6 rfl) ?_
        refine px_goV (st1 := [va_rf (c_col (gA g) (f_rowAt r (f_rowAt r (rHd r cn) i) j)), .ref (gA g 0)]) (px_callS F hK (c_X5_rowAt l D cy A r g _ (f_rowAt r (rHd r cn) i) (va_rf (c_col (gA g) (f_rowAt r (rHd r cn) i))) j rfl (by omega) (by omega) (by omega) (fun q => (hV.2.1 _ q (by omega)).2.2)) kc_X5_rowAt kw_methodLink_RX5_105 rfl hR rfl ⟨rfl, rfl⟩ ⟨Nat.le_of_ble_eq_true rfl, Nat.le_of_ble_eq_true rfl⟩ hl.1 rfl (Nat.le_of_ble_eq_true rfl) dX5_deepest_69 ⟨Nat.zero_le _, Nat.zero_le _⟩) rfl ?_
        have hrk2 := deep_kind hI hc0 h_34 h_62
        have hr2 := hI.tb _ hrk2.1
        refine lv_iload hx hb dX5_deepest_72 (lv_at hl 7 rfl) ?_
        refine px_goCx (st1 := [.long ((f_itemOf r (f_rowAt r (f_rowAt r (rHd r cn) i) j) k 0).2)]) (px_callV F hK (c_X5_bitsAt l D cy A r g _ (f_rowAt r (f_rowAt r (rHd r cn) i) j) (va_rf (c_col (gA g) (f_rowAt r (f_rowAt r (rHd r cn) i) j))) k rfl hrk2.1 hr2.2.1 hM0 (fun q => by have := hrk2.2.1 q; omega) (fun q => (hV.2.1 _ q hrk2.1).2.2)) kc_X5_bitsAt kw_methodLink_RX5_72 rfl hR (c_recv hK hR) rfl ⟨rfl, rfl⟩ ⟨Nat.le_of_ble_eq_true rfl, Nat.le_of_ble_eq_true rfl⟩ hl.1 rfl (Nat.le_of_ble_eq_true rfl) dX5_deepest_74 ⟨Nat.zero_le _, Nat.zero_le _⟩) hS rfl (fun H locs hR hS => ?_)
        refine lv_goto (tgt := 86) hx hb dX5_deepest_77 (by decide) ?_
        exact px_lret F hr hlocks hS (by have e : f_deepest r (nI cn) i j k = ((f_itemOf r (f_rowAt r (f_rowAt r (rHd r cn) i) j) k 0).1, (f_itemOf r (f_rowAt r (f_rowAt r (rHd r cn) i) j) k 0).2) := (by simp only [f_deepest, h_4, ix_nI (show cn < 2 ^ 31 by omega), Bool.not_true, Bool.false_eq_true, if_false]; have e9 : f_rowno r (rHd r cn) i j (f_no r (rHd r cn) 13 i) = f_looked r (f_rowAt r (rHd r cn) i) j := (by unfold f_rowno; rw [if_pos h_34, (no_row h_34 (by decide)).2.2]); rw [e9, io_0 h_62 hrk2.2.2]); rw [e]; exact ⟨rfl, hR⟩) dX5_deepest_86
    · have h_34 : ¬ (f_no r (rHd r cn) 13 i) = 0 := nIne (show ¬ nI (f_no r (rHd r cn) 13 i) = nI 0 from h_34)
      refine lv_aload_n hx hb dX5_deepest_37 rfl (lv_at hl 2 rfl) ?_
      refine lv_iload hx hb dX5_deepest_38 (lv_at hl 0 rfl) ?_
      refine px_goCx (st1 := [.long 0]) (px_callV F hK (c_X5_noBits l D cy A r g _ (nI (f_no r (rHd r cn) 13 i))) kc_X5_noBits kw_methodLink_RX5_68 rfl hR (c_recv hK hR) rfl ⟨rfl, rfl⟩ ⟨Nat.le_of_ble_eq_true rfl, Nat.le_of_ble_eq_true rfl⟩ hl.1 rfl (Nat.le_of_ble_eq_true rfl) dX5_deepest_40 ⟨Nat.zero_le _, Nat.zero_le _⟩) hS rfl (fun H locs hR hS => ?_)
      exact px_lret F hr hlocks hS (by have e : f_deepest r (nI cn) i j k = (sFa r (nI (f_no r (rHd r cn) 13 i)), 0) := (by simp only [f_deepest, h_4, ix_nI (show cn < 2 ^ 31 by omega), Bool.not_true, Bool.false_eq_true, if_false]; have e9 : f_rowno r (rHd r cn) i j (f_no r (rHd r cn) 13 i) = f_no r (rHd r cn) 13 i := if_neg h_34; rw [e9, io_n h_34]); rw [e]; exact ⟨rfl, hR⟩) dX5_deepest_43
  · refine lv_aload_n hx hb dX5_deepest_7 rfl (lv_at hl 0 rfl) ?_
    refine lv_bipush (v := -2) hx hb dX5_deepest_8 (by decide) ?_
    refine px_goCx (st1 := [.long 0]) (px_callV F hK (c_X5_noBits l D cy A r g _ (-2)) kc_X5_noBits kw_methodLink_RX5_68 rfl hR (c_recv hK hR) rfl ⟨rfl, rfl⟩ ⟨Nat.le_of_ble_eq_true rfl, Nat.le_of_ble_eq_true rfl⟩ hl.1 rfl (Nat.le_of_ble_eq_true rfl) dX5_deepest_10 ⟨Nat.zero_le _, Nat.zero_le _⟩) hS rfl (fun H locs hR hS => ?_)
    exact px_lret F hr hlocks hS (by have e : f_deepest r cl i j k = (sFa r (-2), 0) := (by simp [f_deepest, h_4] <;> rfl); rw [e]; exact ⟨rfl, hR⟩) dX5_deepest_13
