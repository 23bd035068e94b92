/-! the class: the public methods, 5 -/
set_option maxHeartbeats 400000 in
set_option maxRecDepth 100000 in
theorem c_X5_take (l : Launch) (D : va_G) (cy : Nat → ClassId) (A : Nat → Prop) (r : RS) (g : CG) (sz : Nat)  (cl f k i : Int32)  {kk : Nat} (hI : Inv kk r) (hV : VR r) (hK9 : VK r) : Met l yX5_take (px_w yX5_take cX5_take 7 (some .int)) (rmd 9 0 0) (px_P D cy [.ref (gA g 0), .int cl, .int f, .int k, .int i] sz (CR D cy A r g)) (px_Q (px_Cx D cy A g (some (.int (f_take r cl f k i).2)) ((f_take r cl f k i).1)) A) 0 0 A := by
  refine px_met (by decide) (Nat.le_of_ble_eq_true rfl) ?_
  intro p e s m below meth c F hr hlocks hnm hK hsz hR ls hl
  have hx := F.1
  have hb := F.2.1
  have hS : va_S A s.heap s.heap [] := va_S.rf
  have hbd := hI.bd
  have hkb := hK9.k
  have hM0 := (hK9 0).2
  have hK0 := hkb 0
  have hl : lv_has ls 7 [(0, .ref (gA g 0)), (1, .int cl), (2, .int f), (3, .int k), (4, .int i)] := hl
  refine lv_iload_n hx hb dX5_take_0 rfl (lv_at hl 1 rfl) ?_
  refine px_goV (st1 := [.int (b2i (f_in cl 0 15))]) (px_callS F hK (c_X5_isColumn l D cy _ cl) kc_X5_isColumn kw_methodLink_RX5_22 rfl trivial rfl ⟨rfl, rfl⟩ ⟨Nat.le_of_ble_eq_true rfl, Nat.le_of_ble_eq_true rfl⟩ hl.1 rfl (Nat.le_of_ble_eq_true rfl) dX5_take_1 ⟨Nat.zero_le _, Nat.zero_le _⟩) rfl ?_
  refine x_ifeq_b (tgt := 25) hx hb dX5_take_4 (by decide) (fun h_4 => ?_) (fun h_4 => ?_)
  · refine lv_bipush (v := -2) hx hb dX5_take_25 (by decide) ?_
    exact px_iret F hr hlocks hS (by have e : f_take r cl f k i = (r, (-2)) := (by simp [f_take, h_4] <;> rfl); rw [e]; exact ⟨rfl, hR⟩) dX5_take_27
  · refine lv_iload_n hx hb dX5_take_7 rfl (lv_at hl 2 rfl) ?_
    refine px_goV (st1 := [.int (b2i (f_in f 0 15))]) (px_callS F hK (c_X5_isColumn l D cy _ f) kc_X5_isColumn kw_methodLink_RX5_22 rfl trivial rfl ⟨rfl, rfl⟩ ⟨Nat.le_of_ble_eq_true rfl, Nat.le_of_ble_eq_true rfl⟩ hl.1 rfl (Nat.le_of_ble_eq_true rfl) dX5_take_8 ⟨Nat.zero_le _, Nat.zero_le _⟩) rfl ?_
    refine x_ifeq_b (tgt := 25) hx hb dX5_take_11 (by decide) (fun h_11 => ?_) (fun h_11 => ?_)
    · refine lv_bipush (v := -2) hx hb dX5_take_25 (by decide) ?_
      exact px_iret F hr hlocks hS (by have e : f_take r cl f k i = (r, (-2)) := (by simp [f_take, h_4, h_11] <;> rfl); rw [e]; exact ⟨rfl, hR⟩) dX5_take_27
    · refine lv_iload_n hx hb dX5_take_14 rfl (lv_at hl 3 rfl) ?_
      refine lv_bipush (v := 10) hx hb dX5_take_15 (by decide) ?_
      refine lv_bipush (v := 13) hx hb dX5_take_17 (by decide) ?_
      refine px_goV (st1 := [.int (b2i (f_in k 10 13))]) (px_callS F hK (c_X5_isKind l D cy _ k 10 13) kc_X5_isKind kw_methodLink_RX5_26 rfl trivial rfl ⟨rfl, rfl⟩ ⟨Nat.le_of_ble_eq_true rfl, Nat.le_of_ble_eq_true rfl⟩ hl.1 rfl (Nat.le_of_ble_eq_true rfl) dX5_take_19 ⟨Nat.zero_le _, Nat.zero_le _⟩) rfl ?_
      refine x_ifne_b (tgt := 28) hx hb dX5_take_22 (by decide) (fun h_22 => ?_) (fun h_22 => ?_)
      · obtain ⟨cn, hl_cn, hh_cn, rfl⟩ := f_in_nat h_4 0 15 (by decide) (by decide) (by decide) (by decide)
        obtain ⟨fn, hl_fn, hh_fn, rfl⟩ := f_in_nat h_11 0 15 (by decide) (by decide) (by decide) (by decide)
        obtain ⟨kn, hl_kn, hh_kn, rfl⟩ := f_in_nat h_22 10 13 (by decide) (by decide) (by decide) (by decide)
        have hd0 := hI.hd fn (by omega)
        have hd1 := hI.tb _ hd0
        refine lv_aload_n hx hb dX5_take_28 rfl (lv_at hl 0 rfl) ?_
        refine c_gx F hK hR 0 (by decide) rfl kw_fieldLink_RX5_11 dX5_take_29 ?_
        refine lv_iload_n hx hb dX5_take_32 rfl (lv_at hl 2 rfl) ?_
        refine c_ldcol F hK hR fn rfl (by omega) dX5_take_33 ?_
        refine x_astore_q (lv' := [(5, va_rf (c_col (gA g) (rHd r fn))), (0, .ref (gA g 0)), (1, .int (nI cn)), (2, .int (nI fn)), (3, .int (nI kn)), (4, .int i)]) hx hb dX5_take_34 hl (by decide) rfl (fun ls hl => ?_)
        refine x_aload_q hx hb dX5_take_36 (lv_at hl 0 rfl) ?_
        refine lv_iload_n hx hb dX5_take_38 rfl (lv_at hl 4 rfl) ?_
        refine lv_iload hx hb dX5_take_39 (lv_at hl 5 rfl) ?_
        refine px_goV (st1 := [.int (nI (f_no r (rHd r fn) kn i))]) (px_callS F hK (c_X5_faultTakenN l D cy A r g _ (rHd r fn) (va_rf (c_col (gA g) (rHd r fn))) kn i rfl (by omega) (by omega) (by omega) hK0 hM0 (by omega)) kc_X5_faultTaken kw_methodLink_RX5_91 rfl hR rfl ⟨rfl, rfl⟩ ⟨Nat.le_of_ble_eq_true rfl, Nat.le_of_ble_eq_true rfl⟩ hl.1 rfl (Nat.le_of_ble_eq_true rfl) dX5_take_41 ⟨Nat.zero_le _, Nat.zero_le _⟩) rfl ?_
        refine lv_istore (lv' := [(6, .int (nI (f_no r (rHd r fn) kn i))), (5, va_rf (c_col (gA g) (rHd r fn))), (0, .ref (gA g 0)), (1, .int (nI cn)), (2, .int (nI fn)), (3, .int (nI kn)), (4, .int i)]) hx hb dX5_take_44 hl (by decide) (by simp [List.filter, cat_q]) (fun ls hl => ?_)
        have hno := no_le (r := r) (t := rHd r fn) (k := kn) (i := i)
        refine lv_iload hx hb dX5_take_46 (lv_at hl 0 rfl) ?_
        refine lv_if_eq (tgt := 57) hx hb dX5_take_48 (by decide) (fun h_48 => ?_) (fun h_48 => ?_)
        · have h_48 : (f_no r (rHd r fn) kn i) = 0 := nIeq (show nI (f_no r (rHd r fn) kn i) = nI 0 from h_48) (by omega) (by omega)
          have hrk := no_kind hI hd0 h_48 hl_kn
          have hrk1 := hrk.1
          refine lv_aload_n hx hb dX5_take_57 rfl (lv_at hl 2 rfl) ?_
          refine c_gx F hK hR 0 (by decide) rfl kw_fieldLink_RX5_11 dX5_take_58 ?_
          refine lv_iload_n hx hb dX5_take_61 rfl (lv_at hl 3 rfl) ?_
          refine x_aload_q hx hb dX5_take_62 (lv_at hl 1 rfl) ?_
          refine lv_iload hx hb dX5_take_64 (lv_at hl 6 rfl) ?_
          refine px_goV (st1 := [va_rf (c_col (gA g) (f_rowAt r (rHd r fn) i)), .int (nI cn), .ref (gA g 1)]) (px_callS F hK (c_X5_rowAt l D cy A r g _ (rHd r fn) (va_rf (c_col (gA g) (rHd r fn))) i rfl (by omega) (by omega) (by omega) (fun q => (hV.2.1 _ q (by omega)).2.2)) kc_X5_rowAt kw_methodLink_RX5_105 rfl hR rfl ⟨rfl, rfl⟩ ⟨Nat.le_of_ble_eq_true rfl, Nat.le_of_ble_eq_true rfl⟩ hl.1 rfl (Nat.le_of_ble_eq_true rfl) dX5_take_66 ⟨Nat.zero_le _, Nat.zero_le _⟩) rfl ?_
          refine c_stcol F hK hR hS cn (f_rowAt r (rHd r fn) i) rfl rfl (show (f_rowAt r (rHd r fn) i) ≤ rT r by omega) (by omega) dX5_take_69 (fun H locs hR hS => ?_)
          refine lv_iconst (v := 1) hx hb dX5_take_70 (by decide) ?_
          exact px_iret F hr hlocks hS (by have e : f_take r (nI cn) (nI fn) (nI kn) i = (sHd r (va_up (rHd r) cn (f_rowAt r (rHd r fn) i)), 1) := (by simp only [f_take, h_4, h_11, h_22, ix_nI (show cn < 2 ^ 31 by omega), ix_nI (show fn < 2 ^ 31 by omega), ix_nI (show kn < 2 ^ 31 by omega), Bool.not_true, Bool.or_self, Bool.false_eq_true, if_false]; rw [if_neg (fun q => q h_48), (no_row h_48 hl_kn).2.2]); rw [e]; exact ⟨rfl, hR⟩) dX5_take_71
        · have h_48 : ¬ (f_no r (rHd r fn) kn i) = 0 := nIne (show ¬ nI (f_no r (rHd r fn) kn i) = nI 0 from h_48)
          refine lv_iload hx hb dX5_take_51 (lv_at hl 0 rfl) ?_
          refine px_goV (st1 := [.int (-10 - (nI (f_no r (rHd r fn) kn i)))]) (px_callS F hK (c_X5_against l D cy _ (nI (f_no r (rHd r fn) kn i))) kc_X5_against kw_methodLink_RX5_34 rfl trivial rfl ⟨rfl, rfl⟩ ⟨Nat.le_of_ble_eq_true rfl, Nat.le_of_ble_eq_true rfl⟩ hl.1 rfl (Nat.le_of_ble_eq_true rfl) dX5_take_53 ⟨Nat.zero_le _, Nat.zero_le _⟩) rfl ?_
          exact px_iret F hr hlocks hS (by have e : f_take r (nI cn) (nI fn) (nI kn) i = (r, -10 - (nI (f_no r (rHd r fn) kn i))) := (by simp only [f_take, h_4, h_11, h_22, ix_nI (show cn < 2 ^ 31 by omega), ix_nI (show fn < 2 ^ 31 by omega), ix_nI (show kn < 2 ^ 31 by omega), Bool.not_true, Bool.or_self, Bool.false_eq_true, if_false]; rw [if_pos h_48]); rw [e]; exact ⟨rfl, hR⟩) dX5_take_56
      · refine lv_bipush (v := -2) hx hb dX5_take_25 (by decide) ?_
        exact px_iret F hr hlocks hS (by have e : f_take r cl f k i = (r, (-2)) := (by simp [f_take, h_4, h_11, h_22] <;> rfl); rw [e]; exact ⟨rfl, hR⟩) dX5_take_27
theorem row_e {r : RS} {t w k ty : Nat} {i : Int32} (hkb : ∀ w, rK r w < 100) (h1 : f_isOf r t k = true) (h2 : f_isOf r w (rkN k) = true) (h10 : 10 ≤ k) (h13 : k ≤ 13) (hw : w < 2 ^ 31) (hty : (ty = 0 ∧ w = 0) ∨ (ty = 2 ∧ w ≠ 0)) : f_place r t i ty w = if ¬ f_rno r t w k i = 0 then (r, -10 - nI (f_rno r t w k i)) else (f_put r t (ix i) (lN w), 1) := by
  have e : f_rno r t w k i = f_looked r t i := by unfold f_rno; rw [h1, h2]; rfl
  rw [e]
  unfold f_place
  by_cases hl : f_looked r t i = 0
  · rw [if_neg (c := ¬ f_looked r t i = 0) (fun q => q hl), if_neg (c := ¬ f_looked r t i = 0) (fun q => q hl)]
    have h0 : t ≠ 0 := fun q => by rw [q] at hl; cases hl
    have hk : rK r t = k := by
      rcases isOf_k h1 h0 with q | ⟨q1, q2⟩
      · exact q
      · omega
    have hrk := rkN_le k
    have hcs : f_cs r ty w (rK r t) = true := by
      rw [hk]
      rcases hty with ⟨rfl, -⟩ | ⟨rfl, -⟩
      · rfl
      · show f_fit r w (f_kor k) = true
        rw [kor_rk h10 h13, fit_nI (hkb w) (by omega)]; exact h2
    rw [if_pos ⟨by omega, hcs⟩]
    rcases hty with ⟨rfl, rfl⟩ | ⟨rfl, -⟩ <;> rfl
  · rw [if_pos hl, if_pos hl]
set_option maxHeartbeats 400000 in
set_option maxRecDepth 100000 in
theorem c_X5_row (l : Launch) (D : va_G) (cy : Nat → ClassId) (A : Nat → Prop) (r : RS) (g : CG) (sz : Nat)  (cl k i f : Int32)  {kk : Nat} (hI : Inv kk r) (hV : VR r) (hK9 : VK r) : Met l yX5_row (px_w yX5_row cX5_row 7 (some .int)) (rmd 9 0 0) (px_P D cy [.ref (gA g 0), .int cl, .int k, .int i, .int f] sz (CR D cy A r g)) (px_Q (px_Cx D cy A g (some (.int (f_row r cl k i f).2)) ((f_row r cl k i f).1)) A) 0 0 A := by
  refine px_met (by decide) (Nat.le_of_ble_eq_true rfl) ?_
  intro p e s m below meth c F hr hlocks hnm hK hsz hR ls hl
  have hx := F.1
  have hb := F.2.1
  have hS : va_S A s.heap s.heap [] := va_S.rf
  have hbd := hI.bd
  have hkb := hK9.k
  have hM0 := (hK9 0).2
  have hK0 := hkb 0
  have hl : lv_has ls 7 [(0, .ref (gA g 0)), (1, .int cl), (2, .int k), (3, .int i), (4, .int f)] := hl
  refine lv_iload_n hx hb dX5_row_0 rfl (lv_at hl 1 rfl) ?_
  refine px_goV (st1 := [.int (b2i (f_in cl 0 15))]) (px_callS F hK (c_X5_isColumn l D cy _ cl) kc_X5_isColumn kw_methodLink_RX5_22 rfl trivial rfl ⟨rfl, rfl⟩ ⟨Nat.le_of_ble_eq_true rfl, Nat.le_of_ble_eq_true rfl⟩ hl.1 rfl (Nat.le_of_ble_eq_true rfl) dX5_row_1 ⟨Nat.zero_le _, Nat.zero_le _⟩) rfl ?_
  refine x_ifeq_b (tgt := 26) hx hb dX5_row_4 (by decide) (fun h_4 => ?_) (fun h_4 => ?_)
  · refine lv_bipush (v := -2) hx hb dX5_row_26 (by decide) ?_
    exact px_iret F hr hlocks hS (by have e : f_row r cl k i f = (r, (-2)) := (by simp [f_row, h_4] <;> rfl); rw [e]; exact ⟨rfl, hR⟩) dX5_row_28
  · refine lv_iload hx hb dX5_row_7 (lv_at hl 4 rfl) ?_
    refine px_goV (st1 := [.int (b2i (f_in f 0 15))]) (px_callS F hK (c_X5_isColumn l D cy _ f) kc_X5_isColumn kw_methodLink_RX5_22 rfl trivial rfl ⟨rfl, rfl⟩ ⟨Nat.le_of_ble_eq_true rfl, Nat.le_of_ble_eq_true rfl⟩ hl.1 rfl (Nat.le_of_ble_eq_true rfl) dX5_row_9 ⟨Nat.zero_le _, Nat.zero_le _⟩) rfl ?_
    refine x_ifeq_b (tgt := 26) hx hb dX5_row_12 (by decide) (fun h_12 => ?_) (fun h_12 => ?_)
    · refine lv_bipush (v := -2) hx hb dX5_row_26 (by decide) ?_
      exact px_iret F hr hlocks hS (by have e : f_row r cl k i f = (r, (-2)) := (by simp [f_row, h_4, h_12] <;> rfl); rw [e]; exact ⟨rfl, hR⟩) dX5_row_28
    · refine lv_iload_n hx hb dX5_row_15 rfl (lv_at hl 2 rfl) ?_
      refine lv_bipush (v := 10) hx hb dX5_row_16 (by decide) ?_
      refine lv_bipush (v := 13) hx hb dX5_row_18 (by decide) ?_
      refine px_goV (st1 := [.int (b2i (f_in k 10 13))]) (px_callS F hK (c_X5_isKind l D cy _ k 10 13) kc_X5_isKind kw_methodLink_RX5_26 rfl trivial rfl ⟨rfl, rfl⟩ ⟨Nat.le_of_ble_eq_true rfl, Nat.le_of_ble_eq_true rfl⟩ hl.1 rfl (Nat.le_of_ble_eq_true rfl) dX5_row_20 ⟨Nat.zero_le _, Nat.zero_le _⟩) rfl ?_
      refine x_ifne_b (tgt := 29) hx hb dX5_row_23 (by decide) (fun h_23 => ?_) (fun h_23 => ?_)
      · obtain ⟨cn, hl_cn, hh_cn, rfl⟩ := f_in_nat h_4 0 15 (by decide) (by decide) (by decide) (by decide)
        obtain ⟨fn, hl_fn, hh_fn, rfl⟩ := f_in_nat h_12 0 15 (by decide) (by decide) (by decide) (by decide)
        obtain ⟨kn, hl_kn, hh_kn, rfl⟩ := f_in_nat h_23 10 13 (by decide) (by decide) (by decide) (by decide)
        have hc0 := hI.hd cn (by omega)
        have hc1 := hI.tb _ hc0
        have hd0 := hI.hd fn (by omega)
        have hd1 := hI.tb _ hd0
        have hrk := rkN_le kn
        refine lv_aload_n hx hb dX5_row_29 rfl (lv_at hl 0 rfl) ?_
        refine c_gx F hK hR 0 (by decide) rfl kw_fieldLink_RX5_11 dX5_row_30 ?_
        refine lv_iload_n hx hb dX5_row_33 rfl (lv_at hl 1 rfl) ?_
        refine c_ldcol F hK hR cn rfl (by omega) dX5_row_34 ?_
        refine x_astore_q (lv' := [(5, va_rf (c_col (gA g) (rHd r cn))), (0, .ref (gA g 0)), (1, .int (nI cn)), (2, .int (nI kn)), (3, .int i), (4, .int (nI fn))]) hx hb dX5_row_35 hl (by decide) rfl (fun ls hl => ?_)
        refine lv_aload_n hx hb dX5_row_37 rfl (lv_at hl 1 rfl) ?_
        refine c_gx F hK hR 0 (by decide) rfl kw_fieldLink_RX5_11 dX5_row_38 ?_
        refine lv_iload hx hb dX5_row_41 (lv_at hl 5 rfl) ?_
        refine c_ldcol F hK hR fn rfl (by omega) dX5_row_43 ?_
        refine x_astore_q (lv' := [(6, va_rf (c_col (gA g) (rHd r fn))), (5, va_rf (c_col (gA g) (rHd r cn))), (0, .ref (gA g 0)), (1, .int (nI cn)), (2, .int (nI kn)), (3, .int i), (4, .int (nI fn))]) hx hb dX5_row_44 hl (by decide) (by simp [List.filter, cat_q]) (fun ls hl => ?_)
        refine x_aload_q hx hb dX5_row_46 (lv_at hl 1 rfl) ?_
        refine lv_iload_n hx hb dX5_row_48 rfl (lv_at hl 4 rfl) ?_
        refine px_goV (st1 := [.int (b2i (f_isOf r (rHd r cn) kn))]) (px_callS F hK (c_X5_fitsN l D cy A r g _ (rHd r cn) (va_rf (c_col (gA g) (rHd r cn))) kn rfl (by omega) (by omega) (by omega)) kc_X5_fits kw_methodLink_RX5_60 rfl hR rfl ⟨rfl, rfl⟩ ⟨Nat.le_of_ble_eq_true rfl, Nat.le_of_ble_eq_true rfl⟩ hl.1 rfl (Nat.le_of_ble_eq_true rfl) dX5_row_49 ⟨Nat.zero_le _, Nat.zero_le _⟩) rfl ?_
        refine x_ifeq_b (tgt := 67) hx hb dX5_row_52 (by decide) (fun h_52 => ?_) (fun h_52 => ?_)
        · refine lv_iconst (v := 2) hx hb dX5_row_67 (by decide) ?_
          refine px_goV (st1 := [.int (-12)]) (px_callS F hK (c_X5_against l D cy _ 2) kc_X5_against kw_methodLink_RX5_34 rfl trivial rfl ⟨rfl, rfl⟩ ⟨Nat.le_of_ble_eq_true rfl, Nat.le_of_ble_eq_true rfl⟩ hl.1 rfl (Nat.le_of_ble_eq_true rfl) dX5_row_68 ⟨Nat.zero_le _, Nat.zero_le _⟩) rfl ?_
          exact px_iret F hr hlocks hS (by have e : f_row r (nI cn) (nI kn) i (nI fn) = (r, (-12)) := (by simp only [f_row, h_4, h_12, h_23, ix_nI (show cn < 2 ^ 31 by omega), ix_nI (show fn < 2 ^ 31 by omega), ix_nI (show kn < 2 ^ 31 by omega), Bool.not_true, Bool.or_self, Bool.false_eq_true, if_false]; rw [show f_rno r (rHd r cn) (rHd r fn) kn i = 2 by simp [f_rno, h_52]]; rfl); rw [e]; exact ⟨rfl, hR⟩) dX5_row_71
        · refine x_aload_q hx hb dX5_row_55 (lv_at hl 0 rfl) ?_
          refine lv_iload_n hx hb dX5_row_57 rfl (lv_at hl 4 rfl) ?_
          refine px_goV (st1 := [.int (f_kor kn), va_rf (c_col (gA g) (rHd r fn))]) (px_callS F hK (c_X5_kindOfRows l D cy _ kn (by omega)) kc_X5_kindOfRows kw_methodLink_RX5_112 rfl trivial rfl ⟨rfl, rfl⟩ ⟨Nat.le_of_ble_eq_true rfl, Nat.le_of_ble_eq_true rfl⟩ hl.1 rfl (cat1) dX5_row_58 ⟨Nat.zero_le _, Nat.zero_le _⟩) rfl ?_
          refine px_topi (y := nI (rkN kn)) (kor_rk (by omega) (by omega)) ?_
          refine px_goV (st1 := [.int (b2i (f_isOf r (rHd r fn) (rkN kn)))]) (px_callS F hK (c_X5_fitsN l D cy A r g _ (rHd r fn) (va_rf (c_col (gA g) (rHd r fn))) (rkN kn) rfl (by omega) (by omega) (by omega)) kc_X5_fits kw_methodLink_RX5_60 rfl hR rfl ⟨rfl, rfl⟩ ⟨Nat.le_of_ble_eq_true rfl, Nat.le_of_ble_eq_true rfl⟩ hl.1 rfl (Nat.le_of_ble_eq_true rfl) dX5_row_61 ⟨Nat.zero_le _, Nat.zero_le _⟩) rfl ?_
          refine x_ifne_b (tgt := 72) hx hb dX5_row_64 (by decide) (fun h_64 => ?_) (fun h_64 => ?_)
          · by_cases h0_w : rHd r fn = 0
            · have e_w : va_rf (c_col (gA g) (rHd r fn)) = .null := (col_0 h0_w).symm
              have hl : lv_has ls 7 [(6, .null), (5, va_rf (c_col (gA g) (rHd r cn))), (0, .ref (gA g 0)), (1, .int (nI cn)), (2, .int (nI kn)), (3, .int i), (4, .int (nI fn))] := (by rw [e_w] at hl; exact hl)
              refine x_aload_q hx hb dX5_row_72 (lv_at hl 1 rfl) ?_
              refine lv_iload_n hx hb dX5_row_74 rfl (lv_at hl 5 rfl) ?_
              refine lv_aloadN hx hb dX5_row_75 (lv_at hl 0 rfl) ?_
              refine px_goCx (st1 := [.int ((f_place r (rHd r cn) i 0 (rHd r fn)).2)]) (px_callS F hK (c_X5_place l D cy A r g _ (rHd r cn) (va_rf (c_col (gA g) (rHd r cn))) 0 (rHd r fn) .null i rfl (by omega) rfl (Or.inl rfl) hc1.2.1 hM0 hV.1 (hkb _) (hkb _) (by omega)) kc_X5_place kw_methodLink_RX5_87 rfl hR rfl ⟨rfl, rfl⟩ ⟨Nat.le_of_ble_eq_true rfl, Nat.le_of_ble_eq_true rfl⟩ hl.1 rfl (Nat.le_of_ble_eq_true rfl) dX5_row_77 ⟨Nat.zero_le _, Nat.zero_le _⟩) hS rfl (fun H locs hR hS => ?_)
              exact px_iret F hr hlocks hS (by have e : f_row r (nI cn) (nI kn) i (nI fn) = ((f_place r (rHd r cn) i 0 (rHd r fn)).1, (f_place r (rHd r cn) i 0 (rHd r fn)).2) := (by simp only [f_row, h_4, h_12, h_23, ix_nI (show cn < 2 ^ 31 by omega), ix_nI (show fn < 2 ^ 31 by omega), ix_nI (show kn < 2 ^ 31 by omega), Bool.not_true, Bool.or_self, Bool.false_eq_true, if_false]; rw [row_e hkb h_52 h_64 hl_kn hh_kn (by omega) (Or.inl ⟨rfl, h0_w⟩)]); rw [e]; exact ⟨rfl, hR⟩) dX5_row_80
            · have e_w : va_rf (c_col (gA g) (rHd r fn)) = .ref (gA g (3 * (rHd r fn))) := (col_t h0_w).symm
              have hl : lv_has ls 7 [(6, .ref (gA g (3 * (rHd r fn)))), (5, va_rf (c_col (gA g) (rHd r cn))), (0, .ref (gA g 0)), (1, .int (nI cn)), (2, .int (nI kn)), (3, .int i), (4, .int (nI fn))] := (by rw [e_w] at hl; exact hl)
              refine x_aload_q hx hb dX5_row_72 (lv_at hl 1 rfl) ?_
              refine lv_iload_n hx hb dX5_row_74 rfl (lv_at hl 5 rfl) ?_
              refine lv_aload hx hb dX5_row_75 (lv_at hl 0 rfl) ?_
              refine px_goCx (st1 := [.int ((f_place r (rHd r cn) i 2 (rHd r fn)).2)]) (px_callS F hK (c_X5_place l D cy A r g _ (rHd r cn) (va_rf (c_col (gA g) (rHd r cn))) 2 (rHd r fn) (.ref (gA g (3 * rHd r fn))) i rfl (by omega) rfl (Or.inr (Or.inr ⟨rfl, h0_w, hd0⟩)) hc1.2.1 hM0 hV.1 (hkb _) (hkb _) (by omega)) kc_X5_place kw_methodLink_RX5_87 rfl hR rfl ⟨rfl, rfl⟩ ⟨Nat.le_of_ble_eq_true rfl, Nat.le_of_ble_eq_true rfl⟩ hl.1 rfl (Nat.le_of_ble_eq_true rfl) dX5_row_77 ⟨Nat.zero_le _, Nat.zero_le _⟩) hS rfl (fun H locs hR hS => ?_)
              exact px_iret F hr hlocks hS (by have e : f_row r (nI cn) (nI kn) i (nI fn) = ((f_place r (rHd r cn) i 2 (rHd r fn)).1, (f_place r (rHd r cn) i 2 (rHd r fn)).2) := (by simp only [f_row, h_4, h_12, h_23, ix_nI (show cn < 2 ^ 31 by omega), ix_nI (show fn < 2 ^ 31 by omega), ix_nI (show kn < 2 ^ 31 by omega), Bool.not_true, Bool.or_self, Bool.false_eq_true, if_false]; rw [row_e hkb h_52 h_64 hl_kn hh_kn (by omega) (Or.inr ⟨rfl, h0_w⟩)]); rw [e]; exact ⟨rfl, hR⟩) dX5_row_80
          · refine lv_iconst (v := 2) hx hb dX5_row_67 (by decide) ?_
            refine px_goV (st1 := [.int (-12)]) (px_callS F hK (c_X5_against l D cy _ 2) kc_X5_against kw_methodLink_RX5_34 rfl trivial rfl ⟨rfl, rfl⟩ ⟨Nat.le_of_ble_eq_true rfl, Nat.le_of_ble_eq_true rfl⟩ hl.1 rfl (Nat.le_of_ble_eq_true rfl) dX5_row_68 ⟨Nat.zero_le _, Nat.zero_le _⟩) rfl ?_
            exact px_iret F hr hlocks hS (by have e : f_row r (nI cn) (nI kn) i (nI fn) = (r, (-12)) := (by simp only [f_row, h_4, h_12, h_23, ix_nI (show cn < 2 ^ 31 by omega), ix_nI (show fn < 2 ^ 31 by omega), ix_nI (show kn < 2 ^ 31 by omega), Bool.not_true, Bool.or_self, Bool.false_eq_true, if_false]; rw [show f_rno r (rHd r cn) (rHd r fn) kn i = 2 by simp [f_rno, h_64]]; rfl); rw [e]; exact ⟨rfl, hR⟩) dX5_row_71
      · refine lv_bipush (v := -2) hx hb dX5_row_26 (by decide) ?_
        exact px_iret F hr hlocks hS (by have e : f_row r cl k i f = (r, (-2)) := (by simp [f_row, h_4, h_12, h_23] <;> rfl); rw [e]; exact ⟨rfl, hR⟩) dX5_row_28
theorem pb_ok {r : RS} {t j k : Nat} {b : Int64} (h0 : t ≠ 0) (hm : rMn r t ≤ 30) (hj : j < rMn r t) (hk : rK r t = k) : f_pb r t (nI j) b = (f_put r t j (f_cut k b), 1) := by
  have hl : f_looked r t (nI j) = 0 := looked_in h0 hm (nI_pos (by omega)) (nI_lt hj (by omega))
  unfold f_pb
  rw [if_neg (fun q => q hl), ix_nI (by omega), hk]
set_option maxHeartbeats 400000 in
set_option maxRecDepth 100000 in
theorem c_X5_fill (l : Launch) (D : va_G) (cy : Nat → ClassId) (A : Nat → Prop) (r : RS) (g : CG) (sz : Nat)  (cl k : Int32) (b : Int64)  {kk : Nat} (hI : Inv kk r) (hV : VR r) (hK9 : VK r) : Met l yX5_fill (px_w yX5_fill cX5_fill 7 (some .int)) (rmd 9 0 0) (px_P D cy [.ref (gA g 0), .int cl, .int k, .long b] sz (CR D cy A r g)) (px_Q (px_Cx D cy A g (some (.int (f_fill r cl k b).2)) ((f_fill r cl k b).1)) A) 0 0 A := by
  refine px_met (by decide) (Nat.le_of_ble_eq_true rfl) ?_
  intro p e s m below meth c F hr hlocks hnm hK hsz hR ls hl
  have hx := F.1
  have hb := F.2.1
  have hS : va_S A s.heap s.heap [] := va_S.rf
  have hbd := hI.bd
  have hkb := hK9.k
  have hM0 := (hK9 0).2
  have hK0 := hkb 0
  have hl : lv_has ls 7 [(0, .ref (gA g 0)), (1, .int cl), (2, .int k), (3, .long b)] := hl
  refine lv_iload_n hx hb dX5_fill_0 rfl (lv_at hl 1 rfl) ?_
  refine px_goV (st1 := [.int (b2i (f_in cl 0 15))]) (px_callS F hK (c_X5_isColumn l D cy _ cl) kc_X5_isColumn kw_methodLink_RX5_22 rfl trivial rfl ⟨rfl, rfl⟩ ⟨Nat.le_of_ble_eq_true rfl, Nat.le_of_ble_eq_true rfl⟩ hl.1 rfl (Nat.le_of_ble_eq_true rfl) dX5_fill_1 ⟨Nat.zero_le _, Nat.zero_le _⟩) rfl ?_
  refine x_ifeq_b (tgt := 17) hx hb dX5_fill_4 (by decide) (fun h_4 => ?_) (fun h_4 => ?_)
  · refine lv_bipush (v := -2) hx hb dX5_fill_17 (by decide) ?_
    exact px_iret F hr hlocks hS (by have e : f_fill r cl k b = (r, (-2)) := (by simp [f_fill, h_4] <;> rfl); rw [e]; exact ⟨rfl, hR⟩) dX5_fill_19
  · refine lv_iload_n hx hb dX5_fill_7 rfl (lv_at hl 2 rfl) ?_
    refine lv_iconst (v := 0) hx hb dX5_fill_8 (by decide) ?_
    refine lv_bipush (v := 7) hx hb dX5_fill_9 (by decide) ?_
    refine px_goV (st1 := [.int (b2i (f_in k 0 7))]) (px_callS F hK (c_X5_isKind l D cy _ k 0 7) kc_X5_isKind kw_methodLink_RX5_26 rfl trivial rfl ⟨rfl, rfl⟩ ⟨Nat.le_of_ble_eq_true rfl, Nat.le_of_ble_eq_true rfl⟩ hl.1 rfl (Nat.le_of_ble_eq_true rfl) dX5_fill_11 ⟨Nat.zero_le _, Nat.zero_le _⟩) rfl ?_
    refine x_ifne_b (tgt := 20) hx hb dX5_fill_14 (by decide) (fun h_14 => ?_) (fun h_14 => ?_)
    · obtain ⟨cn, hl_cn, hh_cn, rfl⟩ := f_in_nat h_4 0 15 (by decide) (by decide) (by decide) (by decide)
      obtain ⟨kn, hl_kn, hh_kn, rfl⟩ := f_in_nat h_14 0 7 (by decide) (by decide) (by decide) (by decide)
      have hc0 := hI.hd cn (by omega)
      have hc1 := hI.tb _ hc0
      refine lv_aload_n hx hb dX5_fill_20 rfl (lv_at hl 0 rfl) ?_
      refine c_gx F hK hR 0 (by decide) rfl kw_fieldLink_RX5_11 dX5_fill_21 ?_
      refine lv_iload_n hx hb dX5_fill_24 rfl (lv_at hl 1 rfl) ?_
      refine c_ldcol F hK hR cn rfl (by omega) dX5_fill_25 ?_
      refine x_astore_q (lv' := [(5, va_rf (c_col (gA g) (rHd r cn))), (0, .ref (gA g 0)), (1, .int (nI cn)), (2, .int (nI kn)), (3, .long b)]) hx hb dX5_fill_26 hl (by decide) rfl (fun ls hl => ?_)
      refine x_aload_q hx hb dX5_fill_28 (lv_at hl 0 rfl) ?_
      refine lv_iload_n hx hb dX5_fill_30 rfl (lv_at hl 3 rfl) ?_
      refine px_goV (st1 := [.int (b2i (f_isOf r (rHd r cn) kn))]) (px_callS F hK (c_X5_fitsN l D cy A r g _ (rHd r cn) (va_rf (c_col (gA g) (rHd r cn))) kn rfl (by omega) (by omega) (by omega)) kc_X5_fits kw_methodLink_RX5_60 rfl hR rfl ⟨rfl, rfl⟩ ⟨Nat.le_of_ble_eq_true rfl, Nat.le_of_ble_eq_true rfl⟩ hl.1 rfl (Nat.le_of_ble_eq_true rfl) dX5_fill_31 ⟨Nat.zero_le _, Nat.zero_le _⟩) rfl ?_
      refine x_ifne_b (tgt := 42) hx hb dX5_fill_34 (by decide) (fun h_34 => ?_) (fun h_34 => ?_)
      · refine x_aload_q hx hb dX5_fill_42 (lv_at hl 0 rfl) ?_
        by_cases h0_t : rHd r cn = 0
        · have e_t : va_rf (c_col (gA g) (rHd r cn)) = .null := (col_0 h0_t).symm
          have hl : lv_has ls 7 [(5, .null), (0, .ref (gA g 0)), (1, .int (nI cn)), (2, .int (nI kn)), (3, .long b)] := (by rw [e_t] at hl; exact hl)
          refine W.eq (g2 := F0 m 44 ls [.null]) (by rw [e_t]) ?_
          refine lv_ifnonnullN hx hb dX5_fill_44 ?_
          refine lv_iconst (v := 1) hx hb dX5_fill_47 (by decide) ?_
          refine px_goV (st1 := [.int (-11)]) (px_callS F hK (c_X5_against l D cy _ 1) kc_X5_against kw_methodLink_RX5_34 rfl trivial rfl ⟨rfl, rfl⟩ ⟨Nat.le_of_ble_eq_true rfl, Nat.le_of_ble_eq_true rfl⟩ hl.1 rfl (Nat.le_of_ble_eq_true rfl) dX5_fill_48 ⟨Nat.zero_le _, Nat.zero_le _⟩) rfl ?_
          exact px_iret F hr hlocks hS (by have e : f_fill r (nI cn) (nI kn) b = (r, (-11)) := (by simp [f_fill, h_4, h_14, h_34, h0_t, ix_nI (show cn < 2 ^ 31 by omega), ix_nI (show kn < 2 ^ 31 by omega)] <;> rfl); rw [e]; exact ⟨rfl, hR⟩) dX5_fill_51
        · have e_t : va_rf (c_col (gA g) (rHd r cn)) = .ref (gA g (3 * (rHd r cn))) := (col_t h0_t).symm
          have hl : lv_has ls 7 [(5, .ref (gA g (3 * (rHd r cn)))), (0, .ref (gA g 0)), (1, .int (nI cn)), (2, .int (nI kn)), (3, .long b)] := (by rw [e_t] at hl; exact hl)
          refine W.eq (g2 := F0 m 44 ls [.ref (gA g (3 * (rHd r cn)))]) (by rw [e_t]) ?_
          have hkk9 : rK r (rHd r cn) = kn := (by rcases isOf_k h_34 h0_t with q | ⟨q1, q2⟩ <;> omega)
          have hm30 := hc1.2.1
          refine lv_ifnonnull (tgt := 52) hx hb dX5_fill_44 (by decide) ?_
          refine lv_iconst (v := 0) hx hb dX5_fill_52 (by decide) ?_
          refine lv_istore (lv' := [(6, .int 0), (5, .ref (gA g (3 * (rHd r cn)))), (0, .ref (gA g 0)), (1, .int (nI cn)), (2, .int (nI kn)), (3, .long b)]) hx hb dX5_fill_53 hl (by decide) rfl (fun ls hl => ?_)
          have loop : ∀ (d9 q9 : Nat), q9 + d9 = rMn r (rHd r cn) → ∀ (H : Heap) (locs : List Loc) (ls : Array Slot), CR D cy A (sI r (filI (rI r) (rS r (rHd r cn)) (f_cut kn b) q9)) g H → va_S A s.heap H locs → lv_has ls 7 [(6, .int (nI q9)), (5, .ref (gA g (3 * (rHd r cn)))), (0, .ref (gA g 0)), (1, .int (nI cn)), (2, .int (nI kn)), (3, .long b)] → W p l e (rmd 9 0 0) s m ([.ref (gA g 0), .int (nI cn), .int (nI kn), .long b] : List Value).toArray below meth c H locs (0) (0) (MQ below (px_Q (px_Cx D cy A g (some (.int (f_fill r (nI cn) (nI kn) b).2)) ((f_fill r (nI cn) (nI kn) b).1)) A) ([.ref (gA g 0), .int (nI cn), .int (nI kn), .long b] : List Value).toArray s (0) (0) A) (F0 m 55 ls []) := by
            intro d9
            induction d9 with
            | zero =>
              intro q9 hq9 H locs ls hR hS hl
              refine lv_iload hx hb dX5_fill_55 (lv_at hl 0 rfl) ?_
              refine lv_aload hx hb dX5_fill_57 (lv_at hl 1 rfl) ?_
              refine c_cnt F hK hR (t := (rHd r cn)) (by omega) (show (rHd r cn) ≤ rT r by omega) ⟨Nat.le_of_ble_eq_true rfl, Nat.le_of_ble_eq_true rfl⟩ hl.1 (Nat.le_of_ble_eq_true rfl) ⟨Nat.zero_le _, Nat.zero_le _⟩ dX5_fill_59 ?_
              refine lv_icmp_ge (tgt := 80) hx hb dX5_fill_62 (by decide) (fun h_62 => ?_) (fun h_62 => by exfalso; have h_62 : q9 < (rMn r (rHd r cn)) := nInle (show ¬ nI (rMn r (rHd r cn)) ≤ nI q9 from h_62) (by omega) (by omega); omega)
              have h_62 : (rMn r (rHd r cn)) ≤ q9 := nIle (show nI (rMn r (rHd r cn)) ≤ nI q9 from h_62) (by omega) (by omega)
              refine lv_aload hx hb dX5_fill_80 (lv_at hl 1 rfl) ?_
              refine c_cnt F hK hR (t := (rHd r cn)) (by omega) (show (rHd r cn) ≤ rT r by omega) ⟨Nat.le_of_ble_eq_true rfl, Nat.le_of_ble_eq_true rfl⟩ hl.1 (Nat.le_of_ble_eq_true rfl) ⟨Nat.zero_le _, Nat.zero_le _⟩ dX5_fill_82 ?_
              have hqn : q9 = rMn r (rHd r cn) := (by omega)
              exact px_iret F hr hlocks hS (by have e : f_fill r (nI cn) (nI kn) b = (sI r (filI (rI r) (rS r (rHd r cn)) (f_cut kn b) q9), nI (rMn r (rHd r cn))) := (by rw [hqn]; simp [f_fill, h_4, h_14, h_34, h0_t, ix_nI (show cn < 2 ^ 31 by omega), ix_nI (show kn < 2 ^ 31 by omega)]); rw [e]; exact ⟨rfl, hR⟩) dX5_fill_85
            | succ d9 ih_loop =>
              intro q9 hq9 H locs ls hR hS hl
              refine lv_iload hx hb dX5_fill_55 (lv_at hl 0 rfl) ?_
              refine lv_aload hx hb dX5_fill_57 (lv_at hl 1 rfl) ?_
              refine c_cnt F hK hR (t := (rHd r cn)) (by omega) (show (rHd r cn) ≤ rT r by omega) ⟨Nat.le_of_ble_eq_true rfl, Nat.le_of_ble_eq_true rfl⟩ hl.1 (Nat.le_of_ble_eq_true rfl) ⟨Nat.zero_le _, Nat.zero_le _⟩ dX5_fill_59 ?_
              refine lv_icmp_ge (tgt := 80) hx hb dX5_fill_62 (by decide) (fun h_62 => by exfalso; have h_62 : (rMn r (rHd r cn)) ≤ q9 := nIle (show nI (rMn r (rHd r cn)) ≤ nI q9 from h_62) (by omega) (by omega); omega) (fun h_62 => ?_)
              have h_62 : q9 < (rMn r (rHd r cn)) := nInle (show ¬ nI (rMn r (rHd r cn)) ≤ nI q9 from h_62) (by omega) (by omega)
              refine lv_aload hx hb dX5_fill_65 (lv_at hl 1 rfl) ?_
              refine lv_iload hx hb dX5_fill_67 (lv_at hl 0 rfl) ?_
              refine lv_lload_n hx hb dX5_fill_69 rfl (lv_at hl 5 rfl) ?_
              have h9 := c_X5_putBits l D cy A (sI r (filI (rI r) (rS r (rHd r cn)) (f_cut kn b) q9)) g H.size (rHd r cn) (.ref (gA g (3 * rHd r cn))) (nI q9) b (col_t h0_t) hc0 hc1.2.1 hM0 hV.1 (fun _ => (by show rK r (rHd r cn) < 8; omega))
              rw [pb_ok (r := (sI r (filI (rI r) (rS r (rHd r cn)) (f_cut kn b) q9))) (k := kn) h0_t hc1.2.1 (show q9 < rMn r (rHd r cn) by omega) hkk9] at h9
              refine px_goCx (st1 := [.int 1]) (px_callS F hK (h9) kc_X5_putBits kw_methodLink_RX5_76 rfl hR rfl ⟨rfl, rfl⟩ ⟨Nat.le_of_ble_eq_true rfl, Nat.le_of_ble_eq_true rfl⟩ hl.1 rfl (Nat.le_of_ble_eq_true rfl) dX5_fill_70 ⟨Nat.zero_le _, Nat.zero_le _⟩) hS rfl (fun H locs hR hS => ?_)
              refine lv_pop hx hb dX5_fill_73 rfl ?_
              refine lv_iinc (v := nI (q9 + 1)) (lv' := [(6, .int (nI (q9 + 1))), (5, .ref (gA g (3 * (rHd r cn)))), (0, .ref (gA g 0)), (1, .int (nI cn)), (2, .int (nI kn)), (3, .long b)]) hx hb dX5_fill_74 hl (k := 0) rfl (by show nI q9 + 1 = nI (q9 + 1); exact nI_1 _) (by decide) rfl (fun ls hl => ?_)
              refine lv_goto (tgt := 55) hx hb dX5_fill_77 (by decide) ?_
              exact ih_loop (q9 + 1) (by omega) _ _ _ hR hS (lv_sub hl [0, 1, 2, 3, 4, 5] rfl)
          exact loop (rMn r (rHd r cn)) 0 (by omega) _ _ _ hR hS (lv_sub hl [0, 1, 2, 3, 4, 5] rfl)
      · refine lv_iconst (v := 2) hx hb dX5_fill_37 (by decide) ?_
        refine px_goV (st1 := [.int (-12)]) (px_callS F hK (c_X5_against l D cy _ 2) kc_X5_against kw_methodLink_RX5_34 rfl trivial rfl ⟨rfl, rfl⟩ ⟨Nat.le_of_ble_eq_true rfl, Nat.le_of_ble_eq_true rfl⟩ hl.1 rfl (Nat.le_of_ble_eq_true rfl) dX5_fill_38 ⟨Nat.zero_le _, Nat.zero_le _⟩) rfl ?_
        exact px_iret F hr hlocks hS (by have e : f_fill r (nI cn) (nI kn) b = (r, (-12)) := (by simp [f_fill, h_4, h_14, h_34, ix_nI (show cn < 2 ^ 31 by omega), ix_nI (show kn < 2 ^ 31 by omega)] <;> rfl); rw [e]; exact ⟨rfl, hR⟩) dX5_fill_41
    · refine lv_bipush (v := -2) hx hb dX5_fill_17 (by decide) ?_
      exact px_iret F hr hlocks hS (by have e : f_fill r cl k b = (r, (-2)) := (by simp [f_fill, h_4, h_14] <;> rfl); rw [e]; exact ⟨rfl, hR⟩) dX5_fill_19
set_option maxHeartbeats 400000 in
set_option maxRecDepth 100000 in
theorem c_X5_copy (l : Launch) (D : va_G) (cy : Nat → ClassId) (A : Nat → Prop) (r : RS) (g : CG) (sz : Nat)  (cl i o j n : Int32)  {kk : Nat} (hI : Inv kk r) (hV : VR r) (hK9 : VK r) : Met l yX5_copy (px_w yX5_copy cX5_copy 8 (some .int)) (rmd 9 0 0) (px_P D cy [.ref (gA g 0), .int cl, .int i, .int o, .int j, .int n] sz (CR D cy A r g)) (px_Q (px_Cx D cy A g (some (.int (f_copy r cl i o j n).2)) ((f_copy r cl i o j n).1)) A) 0 0 A := by
  refine px_met (by decide) (Nat.le_of_ble_eq_true rfl) ?_
  intro p e s m below meth c F hr hlocks hnm hK hsz hR ls hl
  have hx := F.1
  have hb := F.2.1
  have hS : va_S A s.heap s.heap [] := va_S.rf
  have hbd := hI.bd
  have hkb := hK9.k
  have hM0 := (hK9 0).2
  have hK0 := hkb 0
  have hl : lv_has ls 8 [(0, .ref (gA g 0)), (1, .int cl), (2, .int i), (3, .int o), (4, .int j), (5, .int n)] := hl
  refine lv_iload_n hx hb dX5_copy_0 rfl (lv_at hl 1 rfl) ?_
  refine px_goV (st1 := [.int (b2i (f_in cl 0 15))]) (px_callS F hK (c_X5_isColumn l D cy _ cl) kc_X5_isColumn kw_methodLink_RX5_22 rfl trivial rfl ⟨rfl, rfl⟩ ⟨Nat.le_of_ble_eq_true rfl, Nat.le_of_ble_eq_true rfl⟩ hl.1 rfl (Nat.le_of_ble_eq_true rfl) dX5_copy_1 ⟨Nat.zero_le _, Nat.zero_le _⟩) rfl ?_
  refine x_ifeq_b (tgt := 14) hx hb dX5_copy_4 (by decide) (fun h_4 => ?_) (fun h_4 => ?_)
  · refine lv_bipush (v := -2) hx hb dX5_copy_14 (by decide) ?_
    exact px_iret F hr hlocks hS (by have e : f_copy r cl i o j n = (r, (-2)) := (by simp [f_copy, h_4] <;> rfl); rw [e]; exact ⟨rfl, hR⟩) dX5_copy_16
  · refine lv_iload_n hx hb dX5_copy_7 rfl (lv_at hl 3 rfl) ?_
    refine px_goV (st1 := [.int (b2i (f_in o 0 15))]) (px_callS F hK (c_X5_isColumn l D cy _ o) kc_X5_isColumn kw_methodLink_RX5_22 rfl trivial rfl ⟨rfl, rfl⟩ ⟨Nat.le_of_ble_eq_true rfl, Nat.le_of_ble_eq_true rfl⟩ hl.1 rfl (Nat.le_of_ble_eq_true rfl) dX5_copy_8 ⟨Nat.zero_le _, Nat.zero_le _⟩) rfl ?_
    refine x_ifne_b (tgt := 17) hx hb dX5_copy_11 (by decide) (fun h_11 => ?_) (fun h_11 => ?_)
    · obtain ⟨cn, hl_cn, hh_cn, rfl⟩ := f_in_nat h_4 0 15 (by decide) (by decide) (by decide) (by decide)
      obtain ⟨on, hl_on, hh_on, rfl⟩ := f_in_nat h_11 0 15 (by decide) (by decide) (by decide) (by decide)
      have hc0 := hI.hd cn (by omega)
      have hc1 := hI.tb _ hc0
      have hd0 := hI.hd on (by omega)
      have hd1 := hI.tb _ hd0
      refine lv_aload_n hx hb dX5_copy_17 rfl (lv_at hl 0 rfl) ?_
      refine c_gx F hK hR 0 (by decide) rfl kw_fieldLink_RX5_11 dX5_copy_18 ?_
      refine lv_iload_n hx hb dX5_copy_21 rfl (lv_at hl 1 rfl) ?_
      refine c_ldcol F hK hR cn rfl (by omega) dX5_copy_22 ?_
      refine x_astore_q (lv' := [(6, va_rf (c_col (gA g) (rHd r cn))), (0, .ref (gA g 0)), (1, .int (nI cn)), (2, .int i), (3, .int (nI on)), (4, .int j), (5, .int n)]) hx hb dX5_copy_23 hl (by decide) rfl (fun ls hl => ?_)
      by_cases h0_a : rHd r cn = 0
      · have e_a : va_rf (c_col (gA g) (rHd r cn)) = .null := (col_0 h0_a).symm
        have hl : lv_has ls 8 [(6, .null), (0, .ref (gA g 0)), (1, .int (nI cn)), (2, .int i), (3, .int (nI on)), (4, .int j), (5, .int n)] := (by rw [e_a] at hl; exact hl)
        refine lv_aload_n hx hb dX5_copy_25 rfl (lv_at hl 1 rfl) ?_
        refine c_gx F hK hR 0 (by decide) rfl kw_fieldLink_RX5_11 dX5_copy_26 ?_
        refine lv_iload_n hx hb dX5_copy_29 rfl (lv_at hl 4 rfl) ?_
        refine c_ldcol F hK hR on rfl (by omega) dX5_copy_30 ?_
        refine x_astore_q (lv' := [(7, va_rf (c_col (gA g) (rHd r on))), (6, .null), (0, .ref (gA g 0)), (1, .int (nI cn)), (2, .int i), (3, .int (nI on)), (4, .int j), (5, .int n)]) hx hb dX5_copy_31 hl (by decide) rfl (fun ls hl => ?_)
        by_cases h0_b : rHd r on = 0
        · have e_b : va_rf (c_col (gA g) (rHd r on)) = .null := (col_0 h0_b).symm
          have hl : lv_has ls 8 [(7, .null), (6, .null), (0, .ref (gA g 0)), (1, .int (nI cn)), (2, .int i), (3, .int (nI on)), (4, .int j), (5, .int n)] := (by rw [e_b] at hl; exact hl)
          refine lv_aloadN hx hb dX5_copy_33 (lv_at hl 1 rfl) ?_
          refine lv_ifnullN (tgt := 43) hx hb dX5_copy_35 (by decide) ?_
          refine lv_iconst (v := 1) hx hb dX5_copy_43 (by decide) ?_
          refine px_goV (st1 := [.int (-11)]) (px_callS F hK (c_X5_against l D cy _ 1) kc_X5_against kw_methodLink_RX5_34 rfl trivial rfl ⟨rfl, rfl⟩ ⟨Nat.le_of_ble_eq_true rfl, Nat.le_of_ble_eq_true rfl⟩ hl.1 rfl (Nat.le_of_ble_eq_true rfl) dX5_copy_44 ⟨Nat.zero_le _, Nat.zero_le _⟩) rfl ?_
          exact px_iret F hr hlocks hS (by have e : f_copy r (nI cn) i (nI on) j n = (r, (-11)) := (by simp only [f_copy, h_4, h_11, ix_nI (show cn < 2 ^ 31 by omega), ix_nI (show on < 2 ^ 31 by omega), Bool.not_true, Bool.or_self, Bool.false_eq_true, if_false]; rw [if_pos (Or.inl h0_a)]); rw [e]; exact ⟨rfl, hR⟩) dX5_copy_47
        · have e_b : va_rf (c_col (gA g) (rHd r on)) = .ref (gA g (3 * (rHd r on))) := (col_t h0_b).symm
          have hl : lv_has ls 8 [(7, .ref (gA g (3 * (rHd r on)))), (6, .null), (0, .ref (gA g 0)), (1, .int (nI cn)), (2, .int i), (3, .int (nI on)), (4, .int j), (5, .int n)] := (by rw [e_b] at hl; exact hl)
          refine lv_aloadN hx hb dX5_copy_33 (lv_at hl 1 rfl) ?_
          refine lv_ifnullN (tgt := 43) hx hb dX5_copy_35 (by decide) ?_
          refine lv_iconst (v := 1) hx hb dX5_copy_43 (by decide) ?_
          refine px_goV (st1 := [.int (-11)]) (px_callS F hK (c_X5_against l D cy _ 1) kc_X5_against kw_methodLink_RX5_34 rfl trivial rfl ⟨rfl, rfl⟩ ⟨Nat.le_of_ble_eq_true rfl, Nat.le_of_ble_eq_true rfl⟩ hl.1 rfl (Nat.le_of_ble_eq_true rfl) dX5_copy_44 ⟨Nat.zero_le _, Nat.zero_le _⟩) rfl ?_
          exact px_iret F hr hlocks hS (by have e : f_copy r (nI cn) i (nI on) j n = (r, (-11)) := (by simp only [f_copy, h_4, h_11, ix_nI (show cn < 2 ^ 31 by omega), ix_nI (show on < 2 ^ 31 by omega), Bool.not_true, Bool.or_self, Bool.false_eq_true, if_false]; rw [if_pos (Or.inl h0_a)]); rw [e]; exact ⟨rfl, hR⟩) dX5_copy_47
      · have e_a : va_rf (c_col (gA g) (rHd r cn)) = .ref (gA g (3 * (rHd r cn))) := (col_t h0_a).symm
        have hl : lv_has ls 8 [(6, .ref (gA g (3 * (rHd r cn)))), (0, .ref (gA g 0)), (1, .int (nI cn)), (2, .int i), (3, .int (nI on)), (4, .int j), (5, .int n)] := (by rw [e_a] at hl; exact hl)
        refine lv_aload_n hx hb dX5_copy_25 rfl (lv_at hl 1 rfl) ?_
        refine c_gx F hK hR 0 (by decide) rfl kw_fieldLink_RX5_11 dX5_copy_26 ?_
        refine lv_iload_n hx hb dX5_copy_29 rfl (lv_at hl 4 rfl) ?_
        refine c_ldcol F hK hR on rfl (by omega) dX5_copy_30 ?_
        refine x_astore_q (lv' := [(7, va_rf (c_col (gA g) (rHd r on))), (6, .ref (gA g (3 * (rHd r cn)))), (0, .ref (gA g 0)), (1, .int (nI cn)), (2, .int i), (3, .int (nI on)), (4, .int j), (5, .int n)]) hx hb dX5_copy_31 hl (by decide) rfl (fun ls hl => ?_)
        by_cases h0_b : rHd r on = 0
        · have e_b : va_rf (c_col (gA g) (rHd r on)) = .null := (col_0 h0_b).symm
          have hl : lv_has ls 8 [(7, .null), (6, .ref (gA g (3 * (rHd r cn)))), (0, .ref (gA g 0)), (1, .int (nI cn)), (2, .int i), (3, .int (nI on)), (4, .int j), (5, .int n)] := (by rw [e_b] at hl; exact hl)
          refine lv_aload hx hb dX5_copy_33 (lv_at hl 1 rfl) ?_
          refine lv_ifnull hx hb dX5_copy_35 ?_
          refine lv_aloadN hx hb dX5_copy_38 (lv_at hl 0 rfl) ?_
          refine lv_ifnonnullN hx hb dX5_copy_40 ?_
          refine lv_iconst (v := 1) hx hb dX5_copy_43 (by decide) ?_
          refine px_goV (st1 := [.int (-11)]) (px_callS F hK (c_X5_against l D cy _ 1) kc_X5_against kw_methodLink_RX5_34 rfl trivial rfl ⟨rfl, rfl⟩ ⟨Nat.le_of_ble_eq_true rfl, Nat.le_of_ble_eq_true rfl⟩ hl.1 rfl (Nat.le_of_ble_eq_true rfl) dX5_copy_44 ⟨Nat.zero_le _, Nat.zero_le _⟩) rfl ?_
          exact px_iret F hr hlocks hS (by have e : f_copy r (nI cn) i (nI on) j n = (r, (-11)) := (by simp only [f_copy, h_4, h_11, ix_nI (show cn < 2 ^ 31 by omega), ix_nI (show on < 2 ^ 31 by omega), Bool.not_true, Bool.or_self, Bool.false_eq_true, if_false]; rw [if_pos (Or.inr h0_b)]); rw [e]; exact ⟨rfl, hR⟩) dX5_copy_47
        · have e_b : va_rf (c_col (gA g) (rHd r on)) = .ref (gA g (3 * (rHd r on))) := (col_t h0_b).symm
          have hl : lv_has ls 8 [(7, .ref (gA g (3 * (rHd r on)))), (6, .ref (gA g (3 * (rHd r cn)))), (0, .ref (gA g 0)), (1, .int (nI cn)), (2, .int i), (3, .int (nI on)), (4, .int j), (5, .int n)] := (by rw [e_b] at hl; exact hl)
          refine lv_aload hx hb dX5_copy_33 (lv_at hl 1 rfl) ?_
          refine lv_ifnull hx hb dX5_copy_35 ?_
          refine lv_aload hx hb dX5_copy_38 (lv_at hl 0 rfl) ?_
          refine lv_ifnonnull (tgt := 48) hx hb dX5_copy_40 (by decide) ?_
          refine lv_aload hx hb dX5_copy_48 (lv_at hl 1 rfl) ?_
          refine c_gt F hK hR (t := (rHd r cn)) (by omega) (show (rHd r cn) ≤ rT r by omega) 0 (by decide) rfl kw_fieldLink_RX5_57 (fun _ h => h) dX5_copy_50 ?_
          refine lv_aload hx hb dX5_copy_53 (lv_at hl 0 rfl) ?_
          refine c_gt F hK hR (t := (rHd r on)) (by omega) (show (rHd r on) ≤ rT r by omega) 0 (by decide) rfl kw_fieldLink_RX5_57 (fun _ h => h) dX5_copy_55 ?_
          refine lv_icmp_eq (tgt := 82) hx hb dX5_copy_58 (by decide) (fun h_58 => ?_) (fun h_58 => ?_)
          · have h_58 : (rK r (rHd r cn)) = (rK r (rHd r on)) := nIeq (show nI (rK r (rHd r cn)) = nI (rK r (rHd r on)) from h_58) (by omega) (by omega)
            have hun : f_unlike r (rHd r cn) (rHd r on) = false := (by simp [f_unlike, h_58])
            have hkk9 : rK r (rHd r cn) < 8 ↔ rK r (rHd r on) < 8 := (by omega)
            refine lv_aload hx hb dX5_copy_82 (lv_at hl 1 rfl) ?_
            refine lv_iload_n hx hb dX5_copy_84 rfl (lv_at hl 4 rfl) ?_
            refine lv_aload hx hb dX5_copy_85 (lv_at hl 0 rfl) ?_
            refine lv_iload hx hb dX5_copy_87 (lv_at hl 6 rfl) ?_
            refine lv_iload hx hb dX5_copy_89 (lv_at hl 7 rfl) ?_
            refine px_goCx (st1 := [.int ((f_tr r (rHd r cn) (rHd r on) i j n).2)]) (px_callS F hK (c_X5_transfer l D cy A r g _ (rHd r cn) (rHd r on) i j n h0_a hc0 h0_b hd0 hkk9 hV hkb hM0 (by omega) (by omega) (fun _ q hq => can_inv hI h0_a hc0 hq)) kc_X5_transfer kw_methodLink_RX5_121 rfl hR rfl ⟨rfl, rfl⟩ ⟨Nat.le_of_ble_eq_true rfl, Nat.le_of_ble_eq_true rfl⟩ hl.1 rfl (Nat.le_of_ble_eq_true rfl) dX5_copy_91 ⟨Nat.zero_le _, Nat.zero_le _⟩) hS rfl (fun H locs hR hS => ?_)
            exact px_iret F hr hlocks hS (by have e : f_copy r (nI cn) i (nI on) j n = ((f_tr r (rHd r cn) (rHd r on) i j n).1, (f_tr r (rHd r cn) (rHd r on) i j n).2) := (by simp only [f_copy, h_4, h_11, ix_nI (show cn < 2 ^ 31 by omega), ix_nI (show on < 2 ^ 31 by omega), Bool.not_true, Bool.or_self, Bool.false_eq_true, if_false]; rw [if_neg (fun q => q.elim h0_a h0_b)]; rw [hun]; rfl); rw [e]; exact ⟨rfl, hR⟩) dX5_copy_94
          · have h_58 : ¬ (rK r (rHd r cn)) = (rK r (rHd r on)) := nIne (show ¬ nI (rK r (rHd r cn)) = nI (rK r (rHd r on)) from h_58)
            refine lv_aload hx hb dX5_copy_61 (lv_at hl 1 rfl) ?_
            refine c_iP F hK hR (t := (rHd r cn)) (by omega) (show (rHd r cn) ≤ rT r by omega) kw_classLink_RX5_125 dX5_copy_63 ?_
            refine x_ifne_b (tgt := 77) hx hb dX5_copy_66 (by decide) (fun h_66 => ?_) (fun h_66 => ?_)
            · have h_66 : rK r (rHd r cn) < 8 := of_decide_eq_true h_66
              refine lv_iconst (v := 5) hx hb dX5_copy_77 (by decide) ?_
              refine px_goV (st1 := [.int (-15)]) (px_callS F hK (c_X5_against l D cy _ 5) kc_X5_against kw_methodLink_RX5_34 rfl trivial rfl ⟨rfl, rfl⟩ ⟨Nat.le_of_ble_eq_true rfl, Nat.le_of_ble_eq_true rfl⟩ hl.1 rfl (Nat.le_of_ble_eq_true rfl) dX5_copy_78 ⟨Nat.zero_le _, Nat.zero_le _⟩) rfl ?_
              exact px_iret F hr hlocks hS (by have e : f_copy r (nI cn) i (nI on) j n = (r, (-15)) := (by simp only [f_copy, h_4, h_11, ix_nI (show cn < 2 ^ 31 by omega), ix_nI (show on < 2 ^ 31 by omega), Bool.not_true, Bool.or_self, Bool.false_eq_true, if_false]; rw [if_neg (fun q => q.elim h0_a h0_b)]; rw [show f_unlike r (rHd r cn) (rHd r on) = true by simp [f_unlike, h_58, h_66]]; rfl); rw [e]; exact ⟨rfl, hR⟩) dX5_copy_81
            · have h_66 : ¬ (rK r (rHd r cn) < 8) := of_decide_eq_false h_66
              refine lv_aload hx hb dX5_copy_69 (lv_at hl 0 rfl) ?_
              refine c_iP F hK hR (t := (rHd r on)) (by omega) (show (rHd r on) ≤ rT r by omega) kw_classLink_RX5_125 dX5_copy_71 ?_
              refine x_ifeq_b (tgt := 82) hx hb dX5_copy_74 (by decide) (fun h_74 => ?_) (fun h_74 => ?_)
              · have h_74 : ¬ (rK r (rHd r on) < 8) := of_decide_eq_false h_74
                have hun : f_unlike r (rHd r cn) (rHd r on) = false := (by simp [f_unlike, h_66, h_74])
                have hkk9 : rK r (rHd r cn) < 8 ↔ rK r (rHd r on) < 8 := (by omega)
                refine lv_aload hx hb dX5_copy_82 (lv_at hl 1 rfl) ?_
                refine lv_iload_n hx hb dX5_copy_84 rfl (lv_at hl 4 rfl) ?_
                refine lv_aload hx hb dX5_copy_85 (lv_at hl 0 rfl) ?_
                refine lv_iload hx hb dX5_copy_87 (lv_at hl 6 rfl) ?_
                refine lv_iload hx hb dX5_copy_89 (lv_at hl 7 rfl) ?_
                refine px_goCx (st1 := [.int ((f_tr r (rHd r cn) (rHd r on) i j n).2)]) (px_callS F hK (c_X5_transfer l D cy A r g _ (rHd r cn) (rHd r on) i j n h0_a hc0 h0_b hd0 hkk9 hV hkb hM0 (by omega) (by omega) (fun _ q hq => can_inv hI h0_a hc0 hq)) kc_X5_transfer kw_methodLink_RX5_121 rfl hR rfl ⟨rfl, rfl⟩ ⟨Nat.le_of_ble_eq_true rfl, Nat.le_of_ble_eq_true rfl⟩ hl.1 rfl (Nat.le_of_ble_eq_true rfl) dX5_copy_91 ⟨Nat.zero_le _, Nat.zero_le _⟩) hS rfl (fun H locs hR hS => ?_)
                exact px_iret F hr hlocks hS (by have e : f_copy r (nI cn) i (nI on) j n = ((f_tr r (rHd r cn) (rHd r on) i j n).1, (f_tr r (rHd r cn) (rHd r on) i j n).2) := (by simp only [f_copy, h_4, h_11, ix_nI (show cn < 2 ^ 31 by omega), ix_nI (show on < 2 ^ 31 by omega), Bool.not_true, Bool.or_self, Bool.false_eq_true, if_false]; rw [if_neg (fun q => q.elim h0_a h0_b)]; rw [hun]; rfl); rw [e]; exact ⟨rfl, hR⟩) dX5_copy_94
              · have h_74 : rK r (rHd r on) < 8 := of_decide_eq_true h_74
                refine lv_iconst (v := 5) hx hb dX5_copy_77 (by decide) ?_
                refine px_goV (st1 := [.int (-15)]) (px_callS F hK (c_X5_against l D cy _ 5) kc_X5_against kw_methodLink_RX5_34 rfl trivial rfl ⟨rfl, rfl⟩ ⟨Nat.le_of_ble_eq_true rfl, Nat.le_of_ble_eq_true rfl⟩ hl.1 rfl (Nat.le_of_ble_eq_true rfl) dX5_copy_78 ⟨Nat.zero_le _, Nat.zero_le _⟩) rfl ?_
                exact px_iret F hr hlocks hS (by have e : f_copy r (nI cn) i (nI on) j n = (r, (-15)) := (by simp only [f_copy, h_4, h_11, ix_nI (show cn < 2 ^ 31 by omega), ix_nI (show on < 2 ^ 31 by omega), Bool.not_true, Bool.or_self, Bool.false_eq_true, if_false]; rw [if_neg (fun q => q.elim h0_a h0_b)]; rw [show f_unlike r (rHd r cn) (rHd r on) = true by simp [f_unlike, h_58, h_74]]; rfl); rw [e]; exact ⟨rfl, hR⟩) dX5_copy_81
    · refine lv_bipush (v := -2) hx hb dX5_copy_14 (by decide) ?_
      exact px_iret F hr hlocks hS (by have e : f_copy r cl i o j n = (r, (-2)) := (by simp [f_copy, h_4, h_11] <;> rfl); rw [e]; exact ⟨rfl, hR⟩) dX5_copy_16
