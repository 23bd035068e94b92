/-! the class: the public methods, 7: grow, thing -/
theorem min_e {a b : Nat} (ha : a ≤ 30) (hb : b ≤ 30) : (if nI b < nI a then nI b else nI a) = nI (min a b) := by
  by_cases h : b < a
  · rw [if_pos (nI_lt h (by omega)), Nat.min_eq_right (by omega)]
  · rw [if_neg (nI_nlt (by omega) (by omega)), Nat.min_eq_left (by omega)]
set_option maxHeartbeats 400000 in
set_option maxRecDepth 100000 in
theorem c_X5_grow (l : Launch) (D : va_G) (cy : Nat → ClassId) (A : Nat → Prop) (r : RS) (g : CG) (sz : Nat)  (cl n : Int32)  {kk : Nat} (hI : Inv kk r) (hV : VR r) (hK9 : VK r) (hA : ∀ q, sz ≤ q → A q) : Met l yX5_grow (px_w yX5_grow cX5_grow 5 (some .int)) (rmd 14 (cC r (f_grow r cl n).1) (cS r (f_grow r cl n).1)) (px_P D cy [.ref (gA g 0), .int cl, .int n] sz (CR D cy A r g)) (px_Q (px_Cw D cy A r g (fun _ => some (.int (f_grow r cl n).2)) ((f_grow r cl n).1) (gM g)) A) (cC r (f_grow r cl n).1) (cS r (f_grow r cl n).1) A := by
  refine px_met (by decide) (Nat.le_of_ble_eq_true rfl) ?_
  intro p e s m below meth c F hr hlocks hnm hK hsz hR ls hl
  have hx := F.1
  have hb := F.2.1
  have hS : va_S A s.heap s.heap [] := va_S.rf
  have hbd := hI.bd
  have hkb := hK9.k
  have hM0 := (hK9 0).2
  have hK0 := hkb 0
  have hA9 : ∀ q, s.heap.size ≤ q → A q := fun q h => hA q (by omega)
  have hl : lv_has ls 5 [(0, .ref (gA g 0)), (1, .int cl), (2, .int n)] := hl
  refine lv_iload_n hx hb dX5_grow_0 rfl (lv_at hl 1 rfl) ?_
  refine px_goV (st1 := [.int (b2i (f_in cl 0 15))]) (px_callS F hK (c_X5_isColumn l D cy _ cl) kc_X5_isColumn kw_methodLink_RX5_22 rfl trivial rfl ⟨rfl, rfl⟩ ⟨Nat.le_of_ble_eq_true rfl, Nat.le_of_ble_eq_true rfl⟩ hl.1 rfl (Nat.le_of_ble_eq_true rfl) dX5_grow_1 ⟨Nat.zero_le _, Nat.zero_le _⟩) rfl ?_
  refine x_ifeq_b (tgt := 13) hx hb dX5_grow_4 (by decide) (fun h_4 => ?_) (fun h_4 => ?_)
  · refine lv_bipush (v := -2) hx hb dX5_grow_13 (by decide) ?_
    have efm : (f_grow r cl n) = (r, (-2)) := (by simp [f_grow, h_4] <;> rfl)
    refine W.widen (k := cC r (f_grow r cl n).1) (n := cS r (f_grow r cl n).1) (Nat.zero_le _) (Nat.zero_le _) ?_
    exact px_iret F hr hlocks hS ⟨g, (by rw [efm]), (by rw [efm]; exact GX.rf rfl rfl), rfl, (by rw [efm]; exact hR)⟩ dX5_grow_15
  · refine lv_iload_n hx hb dX5_grow_7 rfl (lv_at hl 2 rfl) ?_
    refine lv_bipush (v := 30) hx hb dX5_grow_8 (by decide) ?_
    refine lv_icmp_le (tgt := 16) hx hb dX5_grow_10 (by decide) (fun h_10 => ?_) (fun h_10 => ?_)
    · have h_10 : ¬ 30 < n := Int32.not_lt.mpr h_10
      obtain ⟨cn, hl_cn, hh_cn, rfl⟩ := f_in_nat h_4 0 15 (by decide) (by decide) (by decide) (by decide)
      have hc0 := hI.hd cn (by omega)
      have hc1 := hI.tb _ hc0
      refine lv_aload_n hx hb dX5_grow_16 rfl (lv_at hl 0 rfl) ?_
      refine px_goV (st1 := [.int (b2i (decide (6000 ≤ rN r)))]) (px_callV F hK (c_X5_isFull l D cy A r g _ (by omega)) kc_X5_isFull kw_methodLink_RX5_30 rfl hR (c_recv hK hR) rfl ⟨rfl, rfl⟩ ⟨Nat.le_of_ble_eq_true rfl, Nat.le_of_ble_eq_true rfl⟩ hl.1 rfl (Nat.le_of_ble_eq_true rfl) dX5_grow_17 ⟨Nat.zero_le _, Nat.zero_le _⟩) rfl ?_
      refine x_ifeq_b (tgt := 26) hx hb dX5_grow_20 (by decide) (fun h_20 => ?_) (fun h_20 => ?_)
      · have h_20 : ¬ (6000 ≤ rN r) := of_decide_eq_false h_20
        refine lv_aload_n hx hb dX5_grow_26 rfl (lv_at hl 0 rfl) ?_
        refine c_gx F hK hR 0 (by decide) rfl kw_fieldLink_RX5_11 dX5_grow_27 ?_
        refine lv_iload_n hx hb dX5_grow_30 rfl (lv_at hl 1 rfl) ?_
        refine c_ldcol F hK hR cn rfl (by omega) dX5_grow_31 ?_
        refine x_astore_n_q (lv' := [(3, va_rf (c_col (gA g) (rHd r cn))), (0, .ref (gA g 0)), (1, .int (nI cn)), (2, .int n)]) hx hb dX5_grow_32 rfl hl (by decide) rfl (fun ls hl => ?_)
        refine x_aload_n_q hx hb dX5_grow_33 rfl (lv_at hl 0 rfl) ?_
        by_cases h0_t : rHd r cn = 0
        · have e_t : va_rf (c_col (gA g) (rHd r cn)) = .null := (col_0 h0_t).symm
          have hl : lv_has ls 5 [(3, .null), (0, .ref (gA g 0)), (1, .int (nI cn)), (2, .int n)] := (by rw [e_t] at hl; exact hl)
          refine W.eq (g2 := F0 m 34 ls [.null]) (by rw [e_t]) ?_
          refine lv_ifnonnullN hx hb dX5_grow_34 ?_
          refine lv_iconst (v := 1) hx hb dX5_grow_37 (by decide) ?_
          refine px_goV (st1 := [.int (-11)]) (px_callS F hK (c_X5_against l D cy _ 1) kc_X5_against kw_methodLink_RX5_34 rfl trivial rfl ⟨rfl, rfl⟩ ⟨Nat.le_of_ble_eq_true rfl, Nat.le_of_ble_eq_true rfl⟩ hl.1 rfl (Nat.le_of_ble_eq_true rfl) dX5_grow_38 ⟨Nat.zero_le _, Nat.zero_le _⟩) rfl ?_
          have efm : (f_grow r (nI cn) n) = (r, (-11)) := (by simp [f_grow, h_4, h_10, h_20, h0_t, ix_nI (show cn < 2 ^ 31 by omega)] <;> rfl)
          refine W.widen (k := cC r (f_grow r (nI cn) n).1) (n := cS r (f_grow r (nI cn) n).1) (Nat.zero_le _) (Nat.zero_le _) ?_
          exact px_iret F hr hlocks hS ⟨g, (by rw [efm]), (by rw [efm]; exact GX.rf rfl rfl), rfl, (by rw [efm]; exact hR)⟩ dX5_grow_41
        · have e_t : va_rf (c_col (gA g) (rHd r cn)) = .ref (gA g (3 * (rHd r cn))) := (col_t h0_t).symm
          have hl : lv_has ls 5 [(3, .ref (gA g (3 * (rHd r cn)))), (0, .ref (gA g 0)), (1, .int (nI cn)), (2, .int n)] := (by rw [e_t] at hl; exact hl)
          refine W.eq (g2 := F0 m 34 ls [.ref (gA g (3 * (rHd r cn)))]) (by rw [e_t]) ?_
          refine lv_ifnonnull (tgt := 42) hx hb dX5_grow_34 (by decide) ?_
          refine lv_iload_n hx hb dX5_grow_42 rfl (lv_at hl 3 rfl) ?_
          refine lv_if_ge (tgt := 51) hx hb dX5_grow_43 (by decide) (fun h_43 => ?_) (fun h_43 => ?_)
          · have h_43 : ¬ n < 0 := Int32.not_lt.mpr h_43
            obtain ⟨nn, hh_nn, rfl⟩ := le_nat 30 h_43 h_10 (by decide) (by decide)
            refine lv_aload_n hx hb dX5_grow_51 rfl (lv_at hl 1 rfl) ?_
            refine lv_aload_n hx hb dX5_grow_52 rfl (lv_at hl 0 rfl) ?_
            refine c_gt F hK hR (t := (rHd r cn)) (by omega) (show (rHd r cn) ≤ rT r by omega) 0 (by decide) rfl kw_fieldLink_RX5_57 (fun _ h => h) dX5_grow_53 ?_
            refine lv_iload_n hx hb dX5_grow_56 rfl (lv_at hl 3 rfl) ?_
            have efm : (f_grow r (nI cn) (nI nn)) = (sHd (f_cpy (f_table r (rK r (rHd r cn)) nn) (rHd r cn) (rT r + 1) (min nn (rMn r (rHd r cn)))) (va_up (rHd r) cn (rT r + 1)), 1) := (by simp [f_grow, h_4, h_10, h_20, h_43, h0_t, ix_nI (show cn < 2 ^ 31 by omega), ix_nI (show nn < 2 ^ 31 by omega)])
            have hcc : cC r (f_grow r (nI cn) (nI nn)).1 = cC r (f_table r (rK r (rHd r cn)) nn) := (by rw [efm]; rfl)
            have hcs : cS r (f_grow r (nI cn) (nI nn)).1 = cS r (f_table r (rK r (rHd r cn)) nn) := (by rw [efm]; rfl)
            have hc2 : 0 + 2 ≤ cC r (f_table r (rK r (rHd r cn)) nn) := (by rw [← cC_0 r]; exact cC_t MN.rf (rK r (rHd r cn)) nn)
            have hs2 : 0 + (4 + nn) ≤ cS r (f_table r (rK r (rHd r cn)) nn) := (by rw [← cS_0 r]; exact cS_t MN.rf (rK r (rHd r cn)) nn)
            refine px_goCw (c2 := cC r (f_table r (rK r (rHd r cn)) nn)) (s2 := cS r (f_table r (rK r (rHd r cn)) nn)) (px_callV F hK (c_X5_newTable l D cy A r g _ (rK r (rHd r cn)) nn (fun q9 h9 => hA9 q9 (Nat.le_trans hS.1 h9)) hV (by omega) (by omega)) kc_X5_newTable kw_methodLink_RX5_38 rfl hR (c_recv hK hR) rfl ⟨rfl, rfl⟩ ⟨Nat.le_of_ble_eq_true rfl, Nat.le_of_ble_eq_true rfl⟩ hl.1 rfl (Nat.le_of_ble_eq_true rfl) dX5_grow_57 ⟨Nat.le_trans hc2 (Nat.le_of_eq hcc.symm), Nat.le_trans hs2 (Nat.le_of_eq hcs.symm)⟩) hS hc2 hs2 (fun H locs ga hE2 hM2 hR hS => ?_)
            have hE : GX r g (f_table r (rK r (rHd r cn)) nn) ga := (GX.rf rfl rfl : GX r g (r) g).tr hE2
            have hM9 := hM2
            have hl : lv_has ls 5 [(3, .ref (gA ga (3 * (rHd r cn)))), (0, .ref (gA ga 0)), (1, .int (nI cn)), (2, .int (nI nn))] := (by rw [(hE2.t (show (rHd r cn) ≤ rT r by omega))]; rw [hE2.x]; exact hl)
            refine W.eq (g2 := F0 m 60 ls [.ref (gA ga (3 * (rT r + 1)))]) (by rfl) ?_
            refine lv_astore (lv' := [(4, .ref (gA ga (3 * (rT r + 1)))), (3, .ref (gA ga (3 * (rHd r cn)))), (0, .ref (gA ga 0)), (1, .int (nI cn)), (2, .int (nI nn))]) hx hb dX5_grow_60 hl (by decide) rfl (fun ls hl => ?_)
            refine lv_aload_n hx hb dX5_grow_62 rfl (lv_at hl 1 rfl) ?_
            refine lv_iconst (v := 0) hx hb dX5_grow_63 (by decide) ?_
            refine lv_aload hx hb dX5_grow_64 (lv_at hl 0 rfl) ?_
            refine lv_iconst (v := 0) hx hb dX5_grow_66 (by decide) ?_
            refine lv_iload_n hx hb dX5_grow_67 rfl (lv_at hl 4 rfl) ?_
            refine lv_aload_n hx hb dX5_grow_68 rfl (lv_at hl 1 rfl) ?_
            refine c_cnt F hK hR (t := (rHd r cn)) (by omega) (show (rHd r cn) ≤ rT r + 1 by omega) ⟨Nat.le_of_ble_eq_true rfl, Nat.le_of_ble_eq_true rfl⟩ hl.1 (Nat.le_of_ble_eq_true rfl) ⟨Nat.le_of_eq hcc.symm, Nat.le_of_eq hcs.symm⟩ dX5_grow_69 ?_
            refine va_mmin hx hb (F.2.2.1.trans hl.1.symm) F.2.2.2.1 (F.2.2.2.2 _ kw_methodLink_RX5_115) (F.2.2.2.2 _ kw_static_Math_min_name) (F.2.2.2.2 _ kw_initialized_java_lang_Math) (F.2.2.2.2 _ kw_code_Math_min_name) (Nat.le_of_ble_eq_true rfl) (Nat.le_of_ble_eq_true rfl) (Nat.le_of_eq hcc.symm) (Nat.le_of_eq hcs.symm) dX5_grow_72 ?_
            have hMt : rMn (f_table r (rK r (rHd r cn)) nn) (rHd r cn) = rMn r (rHd r cn) := va_up_ne _ _ (by omega)
            refine px_topi (y := nI (min nn (rMn r (rHd r cn)))) (by rw [hMt]; exact min_e hh_nn hc1.2.1) ?_
            have hV1 := hV.table (k := rK r (rHd r cn)) (n := nn) hc1.1 hh_nn
            have hK1 := hK9.table (k := rK r (rHd r cn)) (n := nn) hc1.1 hh_nn
            have hKa : rK (f_table r (rK r (rHd r cn)) nn) (rHd r cn) = rK r (rHd r cn) := va_up_ne _ _ (by omega)
            have hKb : rK (f_table r (rK r (rHd r cn)) nn) (rT r + 1) = rK r (rHd r cn) := va_up_self _ _ _
            have h9 := c_X5_transfer l D cy A (f_table r (rK r (rHd r cn)) nn) ga H.size (rHd r cn) (rT r + 1) 0 0 (nI (min nn (rMn r (rHd r cn)))) h0_t (show rHd r cn ≤ rT r + 1 by omega) (Nat.succ_ne_zero _) (Nat.le_refl _) (by rw [hKa, hKb]) hV1 hK1.k (hK1 0).2 (show rT r + 1 < 100000 by omega) (show rM r < 100000 by omega) (fun q => absurd q (by omega))
            rw [tr_flat hV (c := (min nn (rMn r (rHd r cn)))) h0_t hc0 (Nat.min_le_right _ _) (Nat.min_le_left _ _) hh_nn (fun q hq => can_inv hI h0_t hc0 (by omega))] at h9
            refine px_goCx (st1 := [.int (nI (min nn (rMn r (rHd r cn))))]) (px_callS F hK (h9) kc_X5_transfer kw_methodLink_RX5_121 rfl hR rfl ⟨rfl, rfl⟩ ⟨Nat.le_of_ble_eq_true rfl, Nat.le_of_ble_eq_true rfl⟩ hl.1 rfl (Nat.le_of_ble_eq_true rfl) dX5_grow_75 ⟨Nat.le_of_eq hcc.symm, Nat.le_of_eq hcs.symm⟩) hS rfl (fun H locs hR hS => ?_)
            refine lv_pop hx hb dX5_grow_78 rfl ?_
            refine lv_aload_n hx hb dX5_grow_79 rfl (lv_at hl 2 rfl) ?_
            refine c_gx F hK hR 0 (by decide) rfl kw_fieldLink_RX5_11 dX5_grow_80 ?_
            refine lv_iload_n hx hb dX5_grow_83 rfl (lv_at hl 3 rfl) ?_
            refine lv_aload hx hb dX5_grow_84 (lv_at hl 0 rfl) ?_
            refine c_stcol F hK hR hS cn (rT r + 1) rfl (col_t (by omega)) (show (rT r + 1) ≤ rT r + 1 by omega) (by omega) dX5_grow_86 (fun H locs hR hS => ?_)
            refine lv_iconst (v := 1) hx hb dX5_grow_87 (by decide) ?_
            refine W.widen (k := cC r (f_grow r (nI cn) (nI nn)).1) (n := cS r (f_grow r (nI cn) (nI nn)).1) (Nat.le_of_eq hcc.symm) (Nat.le_of_eq hcs.symm) ?_
            exact px_iret F hr hlocks hS ⟨ga, (by rw [efm]), (by rw [efm]; exact hE), hM9, (by rw [efm]; exact hR)⟩ dX5_grow_88
          · have h_43 : n < 0 := Int32.not_le.mp h_43
            refine lv_iconst (v := 4) hx hb dX5_grow_46 (by decide) ?_
            refine px_goV (st1 := [.int (-14)]) (px_callS F hK (c_X5_against l D cy _ 4) kc_X5_against kw_methodLink_RX5_34 rfl trivial rfl ⟨rfl, rfl⟩ ⟨Nat.le_of_ble_eq_true rfl, Nat.le_of_ble_eq_true rfl⟩ hl.1 rfl (Nat.le_of_ble_eq_true rfl) dX5_grow_47 ⟨Nat.zero_le _, Nat.zero_le _⟩) rfl ?_
            have efm : (f_grow r (nI cn) n) = (r, (-14)) := (by simp [f_grow, h_4, h_10, h_20, h0_t, h_43, ix_nI (show cn < 2 ^ 31 by omega)] <;> rfl)
            refine W.widen (k := cC r (f_grow r (nI cn) n).1) (n := cS r (f_grow r (nI cn) n).1) (Nat.zero_le _) (Nat.zero_le _) ?_
            exact px_iret F hr hlocks hS ⟨g, (by rw [efm]), (by rw [efm]; exact GX.rf rfl rfl), rfl, (by rw [efm]; exact hR)⟩ dX5_grow_50
      · have h_20 : 6000 ≤ rN r := of_decide_eq_true h_20
        refine lv_bipush (v := -3) hx hb dX5_grow_23 (by decide) ?_
        have efm : (f_grow r (nI cn) n) = (r, (-3)) := (by simp [f_grow, h_4, h_10, h_20, ix_nI (show cn < 2 ^ 31 by omega)] <;> rfl)
        refine W.widen (k := cC r (f_grow r (nI cn) n).1) (n := cS r (f_grow r (nI cn) n).1) (Nat.zero_le _) (Nat.zero_le _) ?_
        exact px_iret F hr hlocks hS ⟨g, (by rw [efm]), (by rw [efm]; exact GX.rf rfl rfl), rfl, (by rw [efm]; exact hR)⟩ dX5_grow_25
    · have h_10 : 30 < n := Int32.not_le.mp h_10
      refine lv_bipush (v := -2) hx hb dX5_grow_13 (by decide) ?_
      have efm : (f_grow r cl n) = (r, (-2)) := (by simp [f_grow, h_4, h_10] <;> rfl)
      refine W.widen (k := cC r (f_grow r cl n).1) (n := cS r (f_grow r cl n).1) (Nat.zero_le _) (Nat.zero_le _) ?_
      exact px_iret F hr hlocks hS ⟨g, (by rw [efm]), (by rw [efm]; exact GX.rf rfl rfl), rfl, (by rw [efm]; exact hR)⟩ dX5_grow_15
theorem thing_p {r : RS} {t : Nat} {i mk nu : Int32} {b : Bool} (h : f_isOf r t 8 = true) (hb : b = decide (mk = 1)) (hm : mk = 0 ∨ mk = 1) : f_place (f_newT r b nu) t i 1 (rM r + 1) = if ¬ f_thno r t i mk = 0 then (f_newT r b nu, -10 - nI (f_thno r t i mk)) else (f_put (f_newT r b nu) t (ix i) (lN (rM r + 1)), 1) := by
  have e : f_no r t 8 i = f_looked r t i := if_pos h
  have e2 : f_looked (f_newT r b nu) t i = f_looked r t i := rfl
  unfold f_place f_thno
  rw [e, e2]
  by_cases hl : f_looked r t i = 0
  · rw [if_neg (c := ¬ f_looked r t i = 0) (fun q => q hl)]
    have h0 : t ≠ 0 := fun q => by rw [q] at hl; cases hl
    have hk := isOf_k h h0
    have hK : rK (f_newT r b nu) t = rK r t := rfl
    have hI9 : rIM (f_newT r b nu) (rM r + 1) = b := va_up_self _ _ _
    rw [hK]
    rcases hm with rfl | rfl
    · have hbf : b = false := by rw [hb]; decide
      subst hbf
      by_cases h9 : rK r t = 9
      · rw [if_neg (c := 8 ≤ rK r t ∧ _) (fun q => by have q2 := q.2; simp [f_cs, h9, hI9] at q2), if_pos (c := f_looked r t i = 0 ∧ (0 : Int32) = 0 ∧ rK r t = 9) ⟨hl, rfl, h9⟩]; rfl
      · have h8 : rK r t = 8 := by omega
        rw [if_pos (c := 8 ≤ rK r t ∧ _) ⟨by omega, by simp [f_cs, h8]⟩, if_neg (c := f_looked r t i = 0 ∧ (0 : Int32) = 0 ∧ rK r t = 9) (fun q => h9 q.2.2), if_neg (fun q => q hl)]; rfl
    · have hbt : b = true := by rw [hb]; decide
      subst hbt
      rw [if_pos (c := 8 ≤ rK r t ∧ _) ⟨by omega, by rcases hk with q | ⟨-, q⟩ <;> simp [f_cs, q, hI9]⟩, if_neg (c := f_looked r t i = 0 ∧ (1 : Int32) = 0 ∧ rK r t = 9) (fun q => absurd q.2.1 (by decide)), if_neg (fun q => q hl)]; rfl
  · rw [if_pos (c := ¬ f_looked r t i = 0) hl, if_neg (c := f_looked r t i = 0 ∧ mk = 0 ∧ rK r t = 9) (fun q => hl q.1), if_pos (c := ¬ f_looked r t i = 0) hl]
theorem thing_2 {r : RS} {t : Nat} {i : Int32} (h : f_isOf r t 8 = true) : f_place r t i 0 0 = if ¬ f_thno r t i 2 = 0 then (r, -10 - nI (f_thno r t i 2)) else (f_put r t (ix i) 0, 1) := by
  have e : f_no r t 8 i = f_looked r t i := if_pos h
  unfold f_place f_thno
  rw [e, if_neg (c := f_looked r t i = 0 ∧ (2 : Int32) = 0 ∧ rK r t = 9) (fun q => absurd q.2.1 (by decide))]
  by_cases hl : f_looked r t i = 0
  · rw [if_neg (c := ¬ f_looked r t i = 0) (fun q => q hl), if_neg (c := ¬ f_looked r t i = 0) (fun q => q hl)]
    have h0 : t ≠ 0 := fun q => by rw [q] at hl; cases hl
    have hk := isOf_k h h0
    rw [if_pos ⟨by omega, rfl⟩]; rfl
  · rw [if_pos hl, if_pos hl]
theorem thno_2 {r : RS} {t : Nat} {i mk : Int32} (h : f_isOf r t 8 = false) : f_thno r t i mk = 2 := by
  unfold f_thno f_no
  rw [h]; simp
theorem VK.newT {r : RS} (h : VK r) (b : Bool) (nu : Int32) : VK (f_newT r b nu) := h
theorem cC_th (r : RS) (b : Bool) (nu : Int32) : cC r (f_newT r b nu) = 1 := by
  show 2 * (rT r - rT r) + (rM r + 1 - rM r) = 1
  omega
theorem cS_th (r : RS) (b : Bool) (nu : Int32) : cS r (f_newT r b nu) = 2 := by
  show 4 * (rT r - rT r) + (rN r - rN r) + 2 * (rM r + 1 - rM r) = 2
  omega
set_option maxHeartbeats 400000 in
set_option maxRecDepth 100000 in
theorem c_X5_thing (l : Launch) (D : va_G) (cy : Nat → ClassId) (A : Nat → Prop) (r : RS) (g : CG) (sz : Nat)  (cl i mk nu : Int32)  {kk : Nat} (hI : Inv kk r) (hV : VR r) (hK9 : VK r) (hA : ∀ q, sz ≤ q → A q) (hgM : gM g = rM r) : Met l yX5_thing (px_w yX5_thing cX5_thing 7 (some .int)) (rmd 14 (cC r (f_thing r cl i mk nu).1) (cS r (f_thing r cl i mk nu).1)) (px_P D cy [.ref (gA g 0), .int cl, .int i, .int mk, .int nu] sz (CR D cy A r g)) (px_Q (px_Cw D cy A r g (fun _ => some (.int (f_thing r cl i mk nu).2)) ((f_thing r cl i mk nu).1) (rM (f_thing r cl i mk nu).1)) A) (cC r (f_thing r cl i mk nu).1) (cS r (f_thing r cl i mk nu).1) A := by
  refine px_met (by decide) (Nat.le_of_ble_eq_true rfl) ?_
  intro p e s m below meth c F hr hlocks hnm hK hsz hR ls hl
  have hx := F.1
  have hb := F.2.1
  have hS : va_S A s.heap s.heap [] := va_S.rf
  have hbd := hI.bd
  have hkb := hK9.k
  have hM0 := (hK9 0).2
  have hK0 := hkb 0
  have hA9 : ∀ q, s.heap.size ≤ q → A q := fun q h => hA q (by omega)
  have hl : lv_has ls 7 [(0, .ref (gA g 0)), (1, .int cl), (2, .int i), (3, .int mk), (4, .int nu)] := hl
  refine lv_iload_n hx hb dX5_thing_0 rfl (lv_at hl 1 rfl) ?_
  refine px_goV (st1 := [.int (b2i (f_in cl 0 15))]) (px_callS F hK (c_X5_isColumn l D cy _ cl) kc_X5_isColumn kw_methodLink_RX5_22 rfl trivial rfl ⟨rfl, rfl⟩ ⟨Nat.le_of_ble_eq_true rfl, Nat.le_of_ble_eq_true rfl⟩ hl.1 rfl (Nat.le_of_ble_eq_true rfl) dX5_thing_1 ⟨Nat.zero_le _, Nat.zero_le _⟩) rfl ?_
  refine x_ifeq_b (tgt := 16) hx hb dX5_thing_4 (by decide) (fun h_4 => ?_) (fun h_4 => ?_)
  · refine lv_bipush (v := -2) hx hb dX5_thing_16 (by decide) ?_
    have efm : (f_thing r cl i mk nu) = (r, -2) := (by simp [f_thing, h_4])
    refine W.widen (k := cC r (f_thing r cl i mk nu).1) (n := cS r (f_thing r cl i mk nu).1) (Nat.zero_le _) (Nat.zero_le _) ?_
    exact px_iret F hr hlocks hS ⟨g, (by rw [efm]), (by rw [efm]; exact GX.rf rfl rfl), (by rw [efm]; exact hgM), (by rw [efm]; exact hR)⟩ dX5_thing_18
  · refine lv_iload_n hx hb dX5_thing_7 rfl (lv_at hl 3 rfl) ?_
    refine lv_if_lt (tgt := 16) hx hb dX5_thing_8 (by decide) (fun h_8 => ?_) (fun h_8 => ?_)
    · refine lv_bipush (v := -2) hx hb dX5_thing_16 (by decide) ?_
      have efm : (f_thing r cl i mk nu) = (r, -2) := (by simp [f_thing, show f_in mk 0 2 = false by simp [f_in, h_8]])
      refine W.widen (k := cC r (f_thing r cl i mk nu).1) (n := cS r (f_thing r cl i mk nu).1) (Nat.zero_le _) (Nat.zero_le _) ?_
      exact px_iret F hr hlocks hS ⟨g, (by rw [efm]), (by rw [efm]; exact GX.rf rfl rfl), (by rw [efm]; exact hgM), (by rw [efm]; exact hR)⟩ dX5_thing_18
    · refine lv_iload_n hx hb dX5_thing_11 rfl (lv_at hl 3 rfl) ?_
      refine lv_iconst (v := 2) hx hb dX5_thing_12 (by decide) ?_
      refine lv_icmp_le (tgt := 19) hx hb dX5_thing_13 (by decide) (fun h_13 => ?_) (fun h_13 => ?_)
      · have h_13 : ¬ 2 < mk := Int32.not_lt.mpr h_13
        obtain ⟨mn, hh_mn, rfl⟩ := le_nat 2 h_8 h_13 (by decide) (by decide)
        obtain ⟨cn, hl_cn, hh_cn, rfl⟩ := f_in_nat h_4 0 15 (by decide) (by decide) (by decide) (by decide)
        have hc0 := hI.hd cn (by omega)
        have hc1 := hI.tb _ hc0
        rcases (show mn = 0 ∨ mn = 1 ∨ mn = 2 by omega) with rfl | rfl | rfl
        · have hl : lv_has ls 7 [(0, .ref (gA g 0)), (1, .int (nI cn)), (2, .int i), (3, .int 0), (4, .int nu)] := hl
          have hin : f_in (nI 0) 0 2 = true := (by decide)
          have htp := fun (h : f_isOf r (rHd r cn) 8 = true) => thing_p (r := r) (t := rHd r cn) (i := i) (mk := nI 0) (nu := nu) (b := false) h (by decide) (Or.inl rfl)
          have efm : f_thing r (nI cn) i (nI 0) nu = if ¬ f_thno r (rHd r cn) i (nI 0) = 0 then (f_newT r false nu, -10 - nI (f_thno r (rHd r cn) i (nI 0))) else (f_put (f_newT r false nu) (rHd r cn) (ix i) (lN (rM r + 1)), 1) := (by unfold f_thing; rw [h_4, hin, if_neg (by decide), if_neg (fun q => absurd q.2 (by omega)), if_pos (show nI 0 < 2 by decide), if_pos (show nI 0 < 2 by decide), ix_nI (show cn < 2 ^ 31 by omega)]; rfl)
          have eT : (f_thing r (nI cn) i (nI 0) nu).1 = f_newT r false nu ∨ (f_thing r (nI cn) i (nI 0) nu).1 = f_put (f_newT r false nu) (rHd r cn) (ix i) (lN (rM r + 1)) := (by rw [efm]; split; exact Or.inl rfl; exact Or.inr rfl)
          have hcc : cC r (f_thing r (nI cn) i (nI 0) nu).1 = 1 := (by rcases eT with q | q <;> rw [q] <;> exact cC_th r false nu)
          have hcs : cS r (f_thing r (nI cn) i (nI 0) nu).1 = 2 := (by rcases eT with q | q <;> rw [q] <;> exact cS_th r false nu)
          refine lv_iload_n hx hb dX5_thing_19 rfl (lv_at hl 3 rfl) ?_
          refine lv_iconst (v := 2) hx hb dX5_thing_20 (by decide) ?_
          refine lv_icmp_eq (tgt := 37) hx hb dX5_thing_21 (by decide) (fun h => absurd h (by decide)) (fun _ => ?_)
          refine lv_aload_n hx hb dX5_thing_24 rfl (lv_at hl 0 rfl) ?_
          refine c_gx F hK hR 3 (by decide) rfl kw_fieldLink_RX5_80 dX5_thing_25 ?_
          refine lv_sipush (v := 3000) hx hb dX5_thing_28 (by decide) ?_
          refine lv_icmp_lt (tgt := 37) hx hb dX5_thing_31 (by decide) (fun h_31 => ?_) (fun h_31 => by exfalso; have h_31 : 3000 ≤ (gM g) := nInlt (show ¬ nI (gM g) < nI 3000 from h_31) (by omega) (by omega); omega)
          have h_31 : (gM g) < 3000 := nIlt (show nI (gM g) < nI 3000 from h_31) (by omega) (by omega)
          refine lv_iload_n hx hb dX5_thing_37 rfl (lv_at hl 3 rfl) ?_
          refine lv_iconst (v := 2) hx hb dX5_thing_38 (by decide) ?_
          refine lv_icmp_eq (tgt := 61) hx hb dX5_thing_39 (by decide) (fun h => absurd h (by decide)) (fun _ => ?_)
          refine lv_aload_n hx hb dX5_thing_42 rfl (lv_at hl 0 rfl) ?_
          refine lv_iload hx hb dX5_thing_43 (lv_at hl 4 rfl) ?_
          refine lv_iload_n hx hb dX5_thing_45 rfl (lv_at hl 3 rfl) ?_
          refine lv_iconst (v := 1) hx hb dX5_thing_46 (by decide) ?_
          refine lv_icmp_ne (tgt := 54) hx hb dX5_thing_47 (by decide) (fun _ => ?_) (fun h => absurd h (by decide))
          refine lv_iconst (v := 0) hx hb dX5_thing_54 (by decide) ?_
          refine px_goCw (c2 := 1) (s2 := 2) (px_callV F hK (c_X5_newThing l D cy A r g _ nu false (fun q9 h9 => hA9 q9 (Nat.le_trans hS.1 h9)) hV) kc_X5_newThing kw_methodLink_RX5_83 rfl hR (c_recv hK hR) rfl ⟨rfl, rfl⟩ ⟨Nat.le_of_ble_eq_true rfl, Nat.le_of_ble_eq_true rfl⟩ hl.1 rfl (Nat.le_of_ble_eq_true rfl) dX5_thing_55 ⟨Nat.le_of_eq hcc.symm, Nat.le_of_eq hcs.symm⟩) hS (Nat.le_refl _) (Nat.le_refl _) (fun H locs ga hE2 hM2 hR hS => ?_)
          have hE : GX r g (f_newT r false nu) ga := (GX.rf rfl rfl : GX r g (r) g).tr hE2
          have hM9 := hM2
          have hl : lv_has ls 7 [(0, .ref (gA ga 0)), (1, .int (nI cn)), (2, .int i), (3, .int 0), (4, .int nu)] := (by rw [hE2.x]; exact hl)
          refine W.eq (g2 := F0 m 58 ls [.ref (gA ga (3 * (rM r + 1) + 2))]) (by rfl) ?_
          refine lv_goto (tgt := 62) hx hb dX5_thing_58 (by decide) ?_
          refine lv_astore (lv' := [(5, .ref (gA ga (3 * (rM r + 1) + 2))), (0, .ref (gA ga 0)), (1, .int (nI cn)), (2, .int i), (3, .int 0), (4, .int nu)]) hx hb dX5_thing_62 hl (by decide) rfl (fun ls hl => ?_)
          refine lv_aload_n hx hb dX5_thing_64 rfl (lv_at hl 1 rfl) ?_
          refine c_gx F hK hR 0 (by decide) rfl kw_fieldLink_RX5_11 dX5_thing_65 ?_
          refine lv_iload_n hx hb dX5_thing_68 rfl (lv_at hl 2 rfl) ?_
          refine c_ldcol F hK hR cn rfl (by omega) dX5_thing_69 ?_
          refine x_astore_q (lv' := [(6, va_rf (c_col (gA ga) (rHd r cn))), (5, .ref (gA ga (3 * (rM r + 1) + 2))), (0, .ref (gA ga 0)), (1, .int (nI cn)), (2, .int i), (3, .int 0), (4, .int nu)]) hx hb dX5_thing_70 hl (by decide) rfl (fun ls hl => ?_)
          refine x_aload_q hx hb dX5_thing_72 (lv_at hl 0 rfl) ?_
          refine lv_bipush (v := 8) hx hb dX5_thing_74 (by decide) ?_
          refine px_goV (st1 := [.int (b2i (f_isOf r (rHd r cn) 8))]) (px_callS F hK (c_X5_fitsN l D cy A (f_newT r false nu) ga _ (rHd r cn) (va_rf (c_col (gA ga) (rHd r cn))) 8 rfl (show rHd r cn ≤ rT r by omega) (show rK r (rHd r cn) < 100 by omega) (by omega)) kc_X5_fits kw_methodLink_RX5_60 rfl hR rfl ⟨rfl, rfl⟩ ⟨Nat.le_of_ble_eq_true rfl, Nat.le_of_ble_eq_true rfl⟩ hl.1 rfl (Nat.le_of_ble_eq_true rfl) dX5_thing_76 ⟨Nat.le_of_eq hcc.symm, Nat.le_of_eq hcs.symm⟩) rfl ?_
          refine x_ifeq_b (tgt := 93) hx hb dX5_thing_79 (by decide) (fun h_79 => ?_) (fun h_79 => ?_)
          · refine lv_iconst (v := 2) hx hb dX5_thing_93 (by decide) ?_
            refine px_goV (st1 := [.int (-12)]) (px_callS F hK (c_X5_against l D cy _ 2) kc_X5_against kw_methodLink_RX5_34 rfl trivial rfl ⟨rfl, rfl⟩ ⟨Nat.le_of_ble_eq_true rfl, Nat.le_of_ble_eq_true rfl⟩ hl.1 rfl (Nat.le_of_ble_eq_true rfl) dX5_thing_94 ⟨Nat.le_of_eq hcc.symm, Nat.le_of_eq hcs.symm⟩) rfl ?_
            refine W.widen (k := cC r (f_thing r (nI cn) i (nI 0) nu).1) (n := cS r (f_thing r (nI cn) i (nI 0) nu).1) (Nat.le_of_eq hcc.symm) (Nat.le_of_eq hcs.symm) ?_
            have efm2 : (f_thing r (nI cn) i (nI 0) nu) = (f_newT r false nu, -12) := (by rw [efm, thno_2 h_79] <;> rfl)
            have e1 : rT (f_thing r (nI cn) i (nI 0) nu).1 = rT (f_newT r false nu) ∧ rM (f_thing r (nI cn) i (nI 0) nu).1 = rM (f_newT r false nu) := (by rw [efm]; split; exact ⟨rfl, rfl⟩; exact ⟨rfl, rfl⟩)
            have hE : GX r g (f_thing r (nI cn) i (nI 0) nu).1 ga := (by have q9 := hE; unfold GX at q9 ⊢; rw [e1.1, e1.2]; exact q9)
            exact px_iret F hr hlocks hS ⟨ga, (by rw [efm2]), hE, (by rw [e1.2]; exact hM9.trans (congrArg Nat.succ hgM)), (by rw [efm2]; exact hR)⟩ dX5_thing_97
          · refine x_aload_q hx hb dX5_thing_82 (lv_at hl 0 rfl) ?_
            refine lv_iload_n hx hb dX5_thing_84 rfl (lv_at hl 4 rfl) ?_
            refine lv_aload hx hb dX5_thing_85 (lv_at hl 1 rfl) ?_
            refine px_goCx (st1 := [.int ((f_place (f_newT r false nu) (rHd r cn) i 1 (rM r + 1)).2)]) (px_callS F hK (c_X5_place l D cy A (f_newT r false nu) ga _ (rHd r cn) (va_rf (c_col (gA ga) (rHd r cn))) 1 (rM r + 1) (.ref (gA ga (3 * (rM r + 1) + 2))) i rfl (show rHd r cn ≤ rT r by omega) rfl (Or.inr (Or.inl ⟨rfl, Nat.succ_ne_zero _, Nat.le_refl _⟩)) hc1.2.1 hM0 hV.1 (hkb _) (hkb _) (by omega)) kc_X5_place kw_methodLink_RX5_87 rfl hR rfl ⟨rfl, rfl⟩ ⟨Nat.le_of_ble_eq_true rfl, Nat.le_of_ble_eq_true rfl⟩ hl.1 rfl (Nat.le_of_ble_eq_true rfl) dX5_thing_87 ⟨Nat.le_of_eq hcc.symm, Nat.le_of_eq hcs.symm⟩) hS rfl (fun H locs hR hS => ?_)
            refine lv_goto (tgt := 97) hx hb dX5_thing_90 (by decide) ?_
            refine W.widen (k := cC r (f_thing r (nI cn) i (nI 0) nu).1) (n := cS r (f_thing r (nI cn) i (nI 0) nu).1) (Nat.le_of_eq hcc.symm) (Nat.le_of_eq hcs.symm) ?_
            have efm2 : (f_thing r (nI cn) i (nI 0) nu) = f_place (f_newT r false nu) (rHd r cn) i 1 (rM r + 1) := (by rw [efm, htp h_79] <;> rfl)
            have e1 : rT (f_thing r (nI cn) i (nI 0) nu).1 = rT (f_newT r false nu) ∧ rM (f_thing r (nI cn) i (nI 0) nu).1 = rM (f_newT r false nu) := (by rw [efm]; split; exact ⟨rfl, rfl⟩; exact ⟨rfl, rfl⟩)
            have hE : GX r g (f_thing r (nI cn) i (nI 0) nu).1 ga := (by have q9 := hE; unfold GX at q9 ⊢; rw [e1.1, e1.2]; exact q9)
            exact px_iret F hr hlocks hS ⟨ga, (by rw [efm2]), hE, (by rw [e1.2]; exact hM9.trans (congrArg Nat.succ hgM)), (by rw [efm2]; exact hR)⟩ dX5_thing_97
        · have hl : lv_has ls 7 [(0, .ref (gA g 0)), (1, .int (nI cn)), (2, .int i), (3, .int 1), (4, .int nu)] := hl
          have hin : f_in (nI 1) 0 2 = true := (by decide)
          have htp := fun (h : f_isOf r (rHd r cn) 8 = true) => thing_p (r := r) (t := rHd r cn) (i := i) (mk := nI 1) (nu := nu) (b := true) h (by decide) (Or.inr rfl)
          have efm : f_thing r (nI cn) i (nI 1) nu = if ¬ f_thno r (rHd r cn) i (nI 1) = 0 then (f_newT r true nu, -10 - nI (f_thno r (rHd r cn) i (nI 1))) else (f_put (f_newT r true nu) (rHd r cn) (ix i) (lN (rM r + 1)), 1) := (by unfold f_thing; rw [h_4, hin, if_neg (by decide), if_neg (fun q => absurd q.2 (by omega)), if_pos (show nI 1 < 2 by decide), if_pos (show nI 1 < 2 by decide), ix_nI (show cn < 2 ^ 31 by omega)]; rfl)
          have eT : (f_thing r (nI cn) i (nI 1) nu).1 = f_newT r true nu ∨ (f_thing r (nI cn) i (nI 1) nu).1 = f_put (f_newT r true nu) (rHd r cn) (ix i) (lN (rM r + 1)) := (by rw [efm]; split; exact Or.inl rfl; exact Or.inr rfl)
          have hcc : cC r (f_thing r (nI cn) i (nI 1) nu).1 = 1 := (by rcases eT with q | q <;> rw [q] <;> exact cC_th r true nu)
          have hcs : cS r (f_thing r (nI cn) i (nI 1) nu).1 = 2 := (by rcases eT with q | q <;> rw [q] <;> exact cS_th r true nu)
          refine lv_iload_n hx hb dX5_thing_19 rfl (lv_at hl 3 rfl) ?_
          refine lv_iconst (v := 2) hx hb dX5_thing_20 (by decide) ?_
          refine lv_icmp_eq (tgt := 37) hx hb dX5_thing_21 (by decide) (fun h => absurd h (by decide)) (fun _ => ?_)
          refine lv_aload_n hx hb dX5_thing_24 rfl (lv_at hl 0 rfl) ?_
          refine c_gx F hK hR 3 (by decide) rfl kw_fieldLink_RX5_80 dX5_thing_25 ?_
          refine lv_sipush (v := 3000) hx hb dX5_thing_28 (by decide) ?_
          refine lv_icmp_lt (tgt := 37) hx hb dX5_thing_31 (by decide) (fun h_31 => ?_) (fun h_31 => by exfalso; have h_31 : 3000 ≤ (gM g) := nInlt (show ¬ nI (gM g) < nI 3000 from h_31) (by omega) (by omega); omega)
          have h_31 : (gM g) < 3000 := nIlt (show nI (gM g) < nI 3000 from h_31) (by omega) (by omega)
          refine lv_iload_n hx hb dX5_thing_37 rfl (lv_at hl 3 rfl) ?_
          refine lv_iconst (v := 2) hx hb dX5_thing_38 (by decide) ?_
          refine lv_icmp_eq (tgt := 61) hx hb dX5_thing_39 (by decide) (fun h => absurd h (by decide)) (fun _ => ?_)
          refine lv_aload_n hx hb dX5_thing_42 rfl (lv_at hl 0 rfl) ?_
          refine lv_iload hx hb dX5_thing_43 (lv_at hl 4 rfl) ?_
          refine lv_iload_n hx hb dX5_thing_45 rfl (lv_at hl 3 rfl) ?_
          refine lv_iconst (v := 1) hx hb dX5_thing_46 (by decide) ?_
          refine lv_icmp_ne (tgt := 54) hx hb dX5_thing_47 (by decide) (fun h => absurd h (by decide)) (fun _ => ?_)
          refine lv_iconst (v := 1) hx hb dX5_thing_50 (by decide) ?_
          refine lv_goto (tgt := 55) hx hb dX5_thing_51 (by decide) ?_
          refine px_goCw (c2 := 1) (s2 := 2) (px_callV F hK (c_X5_newThing l D cy A r g _ nu true (fun q9 h9 => hA9 q9 (Nat.le_trans hS.1 h9)) hV) kc_X5_newThing kw_methodLink_RX5_83 rfl hR (c_recv hK hR) rfl ⟨rfl, rfl⟩ ⟨Nat.le_of_ble_eq_true rfl, Nat.le_of_ble_eq_true rfl⟩ hl.1 rfl (Nat.le_of_ble_eq_true rfl) dX5_thing_55 ⟨Nat.le_of_eq hcc.symm, Nat.le_of_eq hcs.symm⟩) hS (Nat.le_refl _) (Nat.le_refl _) (fun H locs ga hE2 hM2 hR hS => ?_)
          have hE : GX r g (f_newT r true nu) ga := (GX.rf rfl rfl : GX r g (r) g).tr hE2
          have hM9 := hM2
          have hl : lv_has ls 7 [(0, .ref (gA ga 0)), (1, .int (nI cn)), (2, .int i), (3, .int 1), (4, .int nu)] := (by rw [hE2.x]; exact hl)
          refine W.eq (g2 := F0 m 58 ls [.ref (gA ga (3 * (rM r + 1) + 2))]) (by rfl) ?_
          refine lv_goto (tgt := 62) hx hb dX5_thing_58 (by decide) ?_
          refine lv_astore (lv' := [(5, .ref (gA ga (3 * (rM r + 1) + 2))), (0, .ref (gA ga 0)), (1, .int (nI cn)), (2, .int i), (3, .int 1), (4, .int nu)]) hx hb dX5_thing_62 hl (by decide) rfl (fun ls hl => ?_)
          refine lv_aload_n hx hb dX5_thing_64 rfl (lv_at hl 1 rfl) ?_
          refine c_gx F hK hR 0 (by decide) rfl kw_fieldLink_RX5_11 dX5_thing_65 ?_
          refine lv_iload_n hx hb dX5_thing_68 rfl (lv_at hl 2 rfl) ?_
          refine c_ldcol F hK hR cn rfl (by omega) dX5_thing_69 ?_
          refine x_astore_q (lv' := [(6, va_rf (c_col (gA ga) (rHd r cn))), (5, .ref (gA ga (3 * (rM r + 1) + 2))), (0, .ref (gA ga 0)), (1, .int (nI cn)), (2, .int i), (3, .int 1), (4, .int nu)]) hx hb dX5_thing_70 hl (by decide) rfl (fun ls hl => ?_)
          refine x_aload_q hx hb dX5_thing_72 (lv_at hl 0 rfl) ?_
          refine lv_bipush (v := 8) hx hb dX5_thing_74 (by decide) ?_
          refine px_goV (st1 := [.int (b2i (f_isOf r (rHd r cn) 8))]) (px_callS F hK (c_X5_fitsN l D cy A (f_newT r true nu) ga _ (rHd r cn) (va_rf (c_col (gA ga) (rHd r cn))) 8 rfl (show rHd r cn ≤ rT r by omega) (show rK r (rHd r cn) < 100 by omega) (by omega)) kc_X5_fits kw_methodLink_RX5_60 rfl hR rfl ⟨rfl, rfl⟩ ⟨Nat.le_of_ble_eq_true rfl, Nat.le_of_ble_eq_true rfl⟩ hl.1 rfl (Nat.le_of_ble_eq_true rfl) dX5_thing_76 ⟨Nat.le_of_eq hcc.symm, Nat.le_of_eq hcs.symm⟩) rfl ?_
          refine x_ifeq_b (tgt := 93) hx hb dX5_thing_79 (by decide) (fun h_79 => ?_) (fun h_79 => ?_)
          · refine lv_iconst (v := 2) hx hb dX5_thing_93 (by decide) ?_
            refine px_goV (st1 := [.int (-12)]) (px_callS F hK (c_X5_against l D cy _ 2) kc_X5_against kw_methodLink_RX5_34 rfl trivial rfl ⟨rfl, rfl⟩ ⟨Nat.le_of_ble_eq_true rfl, Nat.le_of_ble_eq_true rfl⟩ hl.1 rfl (Nat.le_of_ble_eq_true rfl) dX5_thing_94 ⟨Nat.le_of_eq hcc.symm, Nat.le_of_eq hcs.symm⟩) rfl ?_
            refine W.widen (k := cC r (f_thing r (nI cn) i (nI 1) nu).1) (n := cS r (f_thing r (nI cn) i (nI 1) nu).1) (Nat.le_of_eq hcc.symm) (Nat.le_of_eq hcs.symm) ?_
            have efm2 : (f_thing r (nI cn) i (nI 1) nu) = (f_newT r true nu, -12) := (by rw [efm, thno_2 h_79] <;> rfl)
            have e1 : rT (f_thing r (nI cn) i (nI 1) nu).1 = rT (f_newT r true nu) ∧ rM (f_thing r (nI cn) i (nI 1) nu).1 = rM (f_newT r true nu) := (by rw [efm]; split; exact ⟨rfl, rfl⟩; exact ⟨rfl, rfl⟩)
            have hE : GX r g (f_thing r (nI cn) i (nI 1) nu).1 ga := (by have q9 := hE; unfold GX at q9 ⊢; rw [e1.1, e1.2]; exact q9)
            exact px_iret F hr hlocks hS ⟨ga, (by rw [efm2]), hE, (by rw [e1.2]; exact hM9.trans (congrArg Nat.succ hgM)), (by rw [efm2]; exact hR)⟩ dX5_thing_97
          · refine x_aload_q hx hb dX5_thing_82 (lv_at hl 0 rfl) ?_
            refine lv_iload_n hx hb dX5_thing_84 rfl (lv_at hl 4 rfl) ?_
            refine lv_aload hx hb dX5_thing_85 (lv_at hl 1 rfl) ?_
            refine px_goCx (st1 := [.int ((f_place (f_newT r true nu) (rHd r cn) i 1 (rM r + 1)).2)]) (px_callS F hK (c_X5_place l D cy A (f_newT r true nu) ga _ (rHd r cn) (va_rf (c_col (gA ga) (rHd r cn))) 1 (rM r + 1) (.ref (gA ga (3 * (rM r + 1) + 2))) i rfl (show rHd r cn ≤ rT r by omega) rfl (Or.inr (Or.inl ⟨rfl, Nat.succ_ne_zero _, Nat.le_refl _⟩)) hc1.2.1 hM0 hV.1 (hkb _) (hkb _) (by omega)) kc_X5_place kw_methodLink_RX5_87 rfl hR rfl ⟨rfl, rfl⟩ ⟨Nat.le_of_ble_eq_true rfl, Nat.le_of_ble_eq_true rfl⟩ hl.1 rfl (Nat.le_of_ble_eq_true rfl) dX5_thing_87 ⟨Nat.le_of_eq hcc.symm, Nat.le_of_eq hcs.symm⟩) hS rfl (fun H locs hR hS => ?_)
            refine lv_goto (tgt := 97) hx hb dX5_thing_90 (by decide) ?_
            refine W.widen (k := cC r (f_thing r (nI cn) i (nI 1) nu).1) (n := cS r (f_thing r (nI cn) i (nI 1) nu).1) (Nat.le_of_eq hcc.symm) (Nat.le_of_eq hcs.symm) ?_
            have efm2 : (f_thing r (nI cn) i (nI 1) nu) = f_place (f_newT r true nu) (rHd r cn) i 1 (rM r + 1) := (by rw [efm, htp h_79] <;> rfl)
            have e1 : rT (f_thing r (nI cn) i (nI 1) nu).1 = rT (f_newT r true nu) ∧ rM (f_thing r (nI cn) i (nI 1) nu).1 = rM (f_newT r true nu) := (by rw [efm]; split; exact ⟨rfl, rfl⟩; exact ⟨rfl, rfl⟩)
            have hE : GX r g (f_thing r (nI cn) i (nI 1) nu).1 ga := (by have q9 := hE; unfold GX at q9 ⊢; rw [e1.1, e1.2]; exact q9)
            exact px_iret F hr hlocks hS ⟨ga, (by rw [efm2]), hE, (by rw [e1.2]; exact hM9.trans (congrArg Nat.succ hgM)), (by rw [efm2]; exact hR)⟩ dX5_thing_97
        · have hl : lv_has ls 7 [(0, .ref (gA g 0)), (1, .int (nI cn)), (2, .int i), (3, .int 2), (4, .int nu)] := hl
          have hin : f_in (nI 2) 0 2 = true := (by decide)
          have htp := fun (h : f_isOf r (rHd r cn) 8 = true) => thing_2 (r := r) (t := rHd r cn) (i := i) h
          have efm : f_thing r (nI cn) i (nI 2) nu = if ¬ f_thno r (rHd r cn) i 2 = 0 then (r, -10 - nI (f_thno r (rHd r cn) i 2)) else (f_put r (rHd r cn) (ix i) 0, 1) := (by unfold f_thing; rw [h_4, hin, if_neg (by decide), if_neg (fun q => absurd q.1 (by decide)), if_neg (show ¬ nI 2 < 2 by decide), if_neg (show ¬ nI 2 < 2 by decide), ix_nI (show cn < 2 ^ 31 by omega)]; rfl)
          refine lv_iload_n hx hb dX5_thing_19 rfl (lv_at hl 3 rfl) ?_
          refine lv_iconst (v := 2) hx hb dX5_thing_20 (by decide) ?_
          refine lv_icmp_eq (tgt := 37) hx hb dX5_thing_21 (by decide) (fun _ => ?_) (fun h => absurd h (by decide))
          refine lv_iload_n hx hb dX5_thing_37 rfl (lv_at hl 3 rfl) ?_
          refine lv_iconst (v := 2) hx hb dX5_thing_38 (by decide) ?_
          refine lv_icmp_eq (tgt := 61) hx hb dX5_thing_39 (by decide) (fun _ => ?_) (fun h => absurd h (by decide))
          refine lv_null hx hb dX5_thing_61 ?_
          refine lv_astoreN (lv' := [(5, .null), (0, .ref (gA g 0)), (1, .int (nI cn)), (2, .int i), (3, .int 2), (4, .int nu)]) hx hb dX5_thing_62 hl (by decide) rfl (fun ls hl => ?_)
          refine lv_aload_n hx hb dX5_thing_64 rfl (lv_at hl 1 rfl) ?_
          refine c_gx F hK hR 0 (by decide) rfl kw_fieldLink_RX5_11 dX5_thing_65 ?_
          refine lv_iload_n hx hb dX5_thing_68 rfl (lv_at hl 2 rfl) ?_
          refine c_ldcol F hK hR cn rfl (by omega) dX5_thing_69 ?_
          refine x_astore_q (lv' := [(6, va_rf (c_col (gA g) (rHd r cn))), (5, .null), (0, .ref (gA g 0)), (1, .int (nI cn)), (2, .int i), (3, .int 2), (4, .int nu)]) hx hb dX5_thing_70 hl (by decide) rfl (fun ls hl => ?_)
          refine x_aload_q hx hb dX5_thing_72 (lv_at hl 0 rfl) ?_
          refine lv_bipush (v := 8) hx hb dX5_thing_74 (by decide) ?_
          refine px_goV (st1 := [.int (b2i (f_isOf r (rHd r cn) 8))]) (px_callS F hK (c_X5_fitsN l D cy A r g _ (rHd r cn) (va_rf (c_col (gA g) (rHd r cn))) 8 rfl (show rHd r cn ≤ rT r by omega) (show rK r (rHd r cn) < 100 by omega) (by omega)) kc_X5_fits kw_methodLink_RX5_60 rfl hR rfl ⟨rfl, rfl⟩ ⟨Nat.le_of_ble_eq_true rfl, Nat.le_of_ble_eq_true rfl⟩ hl.1 rfl (Nat.le_of_ble_eq_true rfl) dX5_thing_76 ⟨Nat.zero_le _, Nat.zero_le _⟩) rfl ?_
          refine x_ifeq_b (tgt := 93) hx hb dX5_thing_79 (by decide) (fun h_79 => ?_) (fun h_79 => ?_)
          · refine lv_iconst (v := 2) hx hb dX5_thing_93 (by decide) ?_
            refine px_goV (st1 := [.int (-12)]) (px_callS F hK (c_X5_against l D cy _ 2) kc_X5_against kw_methodLink_RX5_34 rfl trivial rfl ⟨rfl, rfl⟩ ⟨Nat.le_of_ble_eq_true rfl, Nat.le_of_ble_eq_true rfl⟩ hl.1 rfl (Nat.le_of_ble_eq_true rfl) dX5_thing_94 ⟨Nat.zero_le _, Nat.zero_le _⟩) rfl ?_
            refine W.widen (k := cC r (f_thing r (nI cn) i (nI 2) nu).1) (n := cS r (f_thing r (nI cn) i (nI 2) nu).1) (Nat.zero_le _) (Nat.zero_le _) ?_
            have efm2 : (f_thing r (nI cn) i (nI 2) nu) = (r, -12) := (by rw [efm, thno_2 h_79] <;> rfl)
            have e1 : rT (f_thing r (nI cn) i (nI 2) nu).1 = rT (r) ∧ rM (f_thing r (nI cn) i (nI 2) nu).1 = rM (r) := (by rw [efm]; split; exact ⟨rfl, rfl⟩; exact ⟨rfl, rfl⟩)
            have hE : GX r g (f_thing r (nI cn) i (nI 2) nu).1 g := GX.rf e1.1 e1.2
            exact px_iret F hr hlocks hS ⟨g, (by rw [efm2]), hE, (by rw [e1.2]; exact hgM), (by rw [efm2]; exact hR)⟩ dX5_thing_97
          · refine x_aload_q hx hb dX5_thing_82 (lv_at hl 0 rfl) ?_
            refine lv_iload_n hx hb dX5_thing_84 rfl (lv_at hl 4 rfl) ?_
            refine lv_aloadN hx hb dX5_thing_85 (lv_at hl 1 rfl) ?_
            refine px_goCx (st1 := [.int ((f_place (r) (rHd r cn) i 0 0).2)]) (px_callS F hK (c_X5_place l D cy A (r) g _ (rHd r cn) (va_rf (c_col (gA g) (rHd r cn))) 0 0 .null i rfl (show rHd r cn ≤ rT r by omega) rfl (Or.inl rfl) hc1.2.1 hM0 hV.1 (hkb _) (hkb _) (by omega)) kc_X5_place kw_methodLink_RX5_87 rfl hR rfl ⟨rfl, rfl⟩ ⟨Nat.le_of_ble_eq_true rfl, Nat.le_of_ble_eq_true rfl⟩ hl.1 rfl (Nat.le_of_ble_eq_true rfl) dX5_thing_87 ⟨Nat.zero_le _, Nat.zero_le _⟩) hS rfl (fun H locs hR hS => ?_)
            refine lv_goto (tgt := 97) hx hb dX5_thing_90 (by decide) ?_
            refine W.widen (k := cC r (f_thing r (nI cn) i (nI 2) nu).1) (n := cS r (f_thing r (nI cn) i (nI 2) nu).1) (Nat.zero_le _) (Nat.zero_le _) ?_
            have efm2 : (f_thing r (nI cn) i (nI 2) nu) = f_place (r) (rHd r cn) i 0 0 := (by rw [efm, htp h_79] <;> rfl)
            have e1 : rT (f_thing r (nI cn) i (nI 2) nu).1 = rT (r) ∧ rM (f_thing r (nI cn) i (nI 2) nu).1 = rM (r) := (by rw [efm]; split; exact ⟨rfl, rfl⟩; exact ⟨rfl, rfl⟩)
            have hE : GX r g (f_thing r (nI cn) i (nI 2) nu).1 g := GX.rf e1.1 e1.2
            exact px_iret F hr hlocks hS ⟨g, (by rw [efm2]), hE, (by rw [e1.2]; exact hgM), (by rw [efm2]; exact hR)⟩ dX5_thing_97
      · have h_13 : 2 < mk := Int32.not_le.mp h_13
        refine lv_bipush (v := -2) hx hb dX5_thing_16 (by decide) ?_
        have efm : (f_thing r cl i mk nu) = (r, -2) := (by simp [f_thing, show f_in mk 0 2 = false by simp [f_in, h_13]])
        refine W.widen (k := cC r (f_thing r cl i mk nu).1) (n := cS r (f_thing r cl i mk nu).1) (Nat.zero_le _) (Nat.zero_le _) ?_
        exact px_iret F hr hlocks hS ⟨g, (by rw [efm]), (by rw [efm]; exact GX.rf rfl rfl), (by rw [efm]; exact hgM), (by rw [efm]; exact hR)⟩ dX5_thing_18
