/-! the class: the public methods, 8: deep -/
theorem td_13 {k n m l : Int32} (hk : k = 13) : f_td n m l = (decide (30 < n) || decide (30 < m) || (decide (k = 13) && decide (30 < l)) || decide (400 < f_prod k n m l)) := by
  subst hk
  unfold f_td f_prod f_below f_mx
  simp only [decide_true, Bool.true_and, if_true]
  by_cases hn : n < 0 <;> by_cases hm : m < 0 <;> by_cases hl : l < 0 <;> simp [hn, hm, hl, Int32.zero_mul, Int32.mul_zero]
theorem td_no {k n m l : Int32} (hk : ¬ k = 13) : f_td n m 1 = (decide (30 < n) || decide (30 < m) || (decide (k = 13) && decide (30 < l)) || decide (400 < f_prod k n m l)) := by
  unfold f_td f_prod f_below f_mx
  have h1 : (if (1 : Int32) < 0 then 0 else 1) = (1 : Int32) := by decide
  have h2 : decide ((30 : Int32) < 1) = false := by decide
  rw [h1, h2]
  simp only [hk, decide_false, Bool.false_and, Bool.or_false, if_false, Int32.mul_one]
  by_cases hn : n < 0 <;> by_cases hm : m < 0 <;> simp [hn, hm, Int32.zero_mul, Int32.mul_zero]
theorem deep_e {r : RS} {c k n m l t : Int32} (h1 : f_in c 0 15 = true) (h2 : f_in k 10 13 = true) (h : f_td n m t = (decide (30 < n) || decide (30 < m) || (decide (k = 13) && decide (30 < l)) || decide (400 < f_prod k n m l))) : f_deep r c k n m l = if f_td n m t then (r, -2) else if 6000 ≤ rN r then (r, -3) else if f_below k n m l then (r, -14) else (sHd (f_deepT r (ix k) (ix n) (ix m) (ix l)) (va_up (rHd r) (ix c) (rT r + 1)), 1) := by
  unfold f_deep
  rw [h, h1, h2]
  simp only [Bool.not_true, Bool.false_or]
  by_cases q : (decide (30 < n) || decide (30 < m) || (decide (k = 13) && decide (30 < l))) = true
  · rw [if_pos q, q]; rfl
  · rw [if_neg q, Bool.eq_false_iff.mpr q, Bool.false_or]
    by_cases z : 400 < f_prod k n m l
    · rw [if_pos z, if_pos (decide_eq_true z)]
    · rw [if_neg z, if_neg (c := decide (400 < f_prod k n m l) = true) (by rw [decide_eq_false z]; decide)]
theorem td_le {n m l : Int32} (h : f_td n m l = false) : ¬ 30 < n ∧ ¬ 30 < m ∧ ¬ 30 < l := by
  simp only [f_td, Bool.or_eq_false_iff, decide_eq_false_iff_not] at h
  exact ⟨h.1.1.1, h.1.1.2, h.1.2⟩
theorem dp_out_l {kd m l l' t0 : Nat} {r : RS} (h : kd ≠ 13) : ∀ i, dp_out kd m l t0 r i = dp_out kd m l' t0 r i
  | 0 => rfl
  | i + 1 => by rw [dp_out, dp_out, dp_out_l h i]; unfold dp_row; rw [if_neg h, if_neg h]
theorem deepT_l {kd n m l l' : Nat} {r : RS} (h : kd ≠ 13) : f_deepT r kd n m l = f_deepT r kd n m l' := dp_out_l h n
theorem deepT_Hd (r : RS) (kd n m l : Nat) : rHd (f_deepT r kd n m l) = rHd r := dp_out_Hd _ _ _ _ _ _
theorem deepT_MN (r : RS) (kd n m l : Nat) : MN (f_table r kd n) (f_deepT r kd n m l) := dp_out_mono kd m l (rT r + 1) (f_table r kd n) (Nat.zero_le n)
set_option maxHeartbeats 400000 in
set_option maxRecDepth 100000 in
theorem c_X5_deep (l : Launch) (D : va_G) (cy : Nat → ClassId) (A : Nat → Prop) (r : RS) (g : CG) (sz : Nat)  (cl k n mm ll : Int32)  {kk : Nat} (hI : Inv kk r) (hV : VR r) (hK9 : VK r) (hA : ∀ q, sz ≤ q → A q) : Met l yX5_deep (px_w yX5_deep cX5_deep 7 (some .int)) (rmd 14 (cC r (f_deep r cl k n mm ll).1) (cS r (f_deep r cl k n mm ll).1)) (px_P D cy [.ref (gA g 0), .int cl, .int k, .int n, .int mm, .int ll] sz (CR D cy A r g)) (px_Q (px_Cw D cy A r g (fun _ => some (.int (f_deep r cl k n mm ll).2)) ((f_deep r cl k n mm ll).1) (gM g)) A) (cC r (f_deep r cl k n mm ll).1) (cS r (f_deep r cl k n mm ll).1) A := by
  refine px_met (by decide) (Nat.le_of_ble_eq_true rfl) ?_
  intro p e s m below meth c F hr hlocks hnm hK hsz hR ls hl
  have hx := F.1
  have hb := F.2.1
  have hS : va_S A s.heap s.heap [] := va_S.rf
  have hbd := hI.bd
  have hkb := hK9.k
  have hM0 := (hK9 0).2
  have hK0 := hkb 0
  have hA9 : ∀ q, s.heap.size ≤ q → A q := fun q h => hA q (by omega)
  have hl : lv_has ls 7 [(0, .ref (gA g 0)), (1, .int cl), (2, .int k), (3, .int n), (4, .int mm), (5, .int ll)] := hl
  refine lv_iload_n hx hb dX5_deep_0 rfl (lv_at hl 1 rfl) ?_
  refine px_goV (st1 := [.int (b2i (f_in cl 0 15))]) (px_callS F hK (c_X5_isColumn l D cy _ cl) kc_X5_isColumn kw_methodLink_RX5_22 rfl trivial rfl ⟨rfl, rfl⟩ ⟨Nat.le_of_ble_eq_true rfl, Nat.le_of_ble_eq_true rfl⟩ hl.1 rfl (Nat.le_of_ble_eq_true rfl) dX5_deep_1 ⟨Nat.zero_le _, Nat.zero_le _⟩) rfl ?_
  refine x_ifeq_b (tgt := 18) hx hb dX5_deep_4 (by decide) (fun h_4 => ?_) (fun h_4 => ?_)
  · refine lv_bipush (v := -2) hx hb dX5_deep_18 (by decide) ?_
    have efm : (f_deep r cl k n mm ll) = (r, (-2)) := (by simp [f_deep, h_4])
    refine W.widen (k := cC r (f_deep r cl k n mm ll).1) (n := cS r (f_deep r cl k n mm ll).1) (Nat.zero_le _) (Nat.zero_le _) ?_
    exact px_iret F hr hlocks hS ⟨g, (by rw [efm]), (by rw [efm]; exact GX.rf rfl rfl), rfl, (by rw [efm]; exact hR)⟩ dX5_deep_20
  · refine lv_iload_n hx hb dX5_deep_7 rfl (lv_at hl 2 rfl) ?_
    refine lv_bipush (v := 10) hx hb dX5_deep_8 (by decide) ?_
    refine lv_bipush (v := 13) hx hb dX5_deep_10 (by decide) ?_
    refine px_goV (st1 := [.int (b2i (f_in k 10 13))]) (px_callS F hK (c_X5_isKind l D cy _ k 10 13) kc_X5_isKind kw_methodLink_RX5_26 rfl trivial rfl ⟨rfl, rfl⟩ ⟨Nat.le_of_ble_eq_true rfl, Nat.le_of_ble_eq_true rfl⟩ hl.1 rfl (Nat.le_of_ble_eq_true rfl) dX5_deep_12 ⟨Nat.zero_le _, Nat.zero_le _⟩) rfl ?_
    refine x_ifne_b (tgt := 21) hx hb dX5_deep_15 (by decide) (fun h_15 => ?_) (fun h_15 => ?_)
    · obtain ⟨cn, hl_cn, hh_cn, rfl⟩ := f_in_nat h_4 0 15 (by decide) (by decide) (by decide) (by decide)
      obtain ⟨kn, hl_kn, hh_kn, rfl⟩ := f_in_nat h_15 10 13 (by decide) (by decide) (by decide) (by decide)
      refine lv_iload_n hx hb dX5_deep_21 rfl (lv_at hl 2 rfl) ?_
      refine lv_bipush (v := 13) hx hb dX5_deep_22 (by decide) ?_
      refine lv_icmp_ne (tgt := 32) hx hb dX5_deep_24 (by decide) (fun h_24 => ?_) (fun h_24 => ?_)
      · have h_24 : ¬ kn = 13 := nIne (show ¬ nI kn = nI 13 from h_24)
        refine lv_iconst (v := 1) hx hb dX5_deep_32 (by decide) ?_
        have hk13 : ¬ nI kn = 13 := (fun q => h_24 (nIeq (show nI kn = nI 13 from q) (by omega) (by omega)))
        have ede := deep_e (r := r) (c := nI cn) (k := nI kn) (n := n) (m := mm) (l := ll) h_4 h_15 (td_no hk13)
        refine lv_istore (lv' := [(6, .int 1), (0, .ref (gA g 0)), (1, .int (nI cn)), (2, .int (nI kn)), (3, .int n), (4, .int mm), (5, .int ll)]) hx hb dX5_deep_33 hl (by decide) rfl (fun ls hl => ?_)
        refine lv_iload_n hx hb dX5_deep_35 rfl (lv_at hl 4 rfl) ?_
        refine lv_iload hx hb dX5_deep_36 (lv_at hl 5 rfl) ?_
        refine lv_iload hx hb dX5_deep_38 (lv_at hl 0 rfl) ?_
        refine px_goV (st1 := [.int (b2i (f_td n mm 1))]) (px_callS F hK (c_X5_isTooDeep l D cy _ n mm 1) kc_X5_isTooDeep kw_methodLink_RX5_42 rfl trivial rfl ⟨rfl, rfl⟩ ⟨Nat.le_of_ble_eq_true rfl, Nat.le_of_ble_eq_true rfl⟩ hl.1 rfl (Nat.le_of_ble_eq_true rfl) dX5_deep_40 ⟨Nat.zero_le _, Nat.zero_le _⟩) rfl ?_
        refine x_ifeq_b (tgt := 49) hx hb dX5_deep_43 (by decide) (fun h_43 => ?_) (fun h_43 => ?_)
        · refine lv_aload_n hx hb dX5_deep_49 rfl (lv_at hl 1 rfl) ?_
          refine px_goV (st1 := [.int (b2i (decide (6000 ≤ rN r)))]) (px_callV F hK (c_X5_isFull l D cy A r g _ (by omega)) kc_X5_isFull kw_methodLink_RX5_30 rfl hR (c_recv hK hR) rfl ⟨rfl, rfl⟩ ⟨Nat.le_of_ble_eq_true rfl, Nat.le_of_ble_eq_true rfl⟩ hl.1 rfl (Nat.le_of_ble_eq_true rfl) dX5_deep_50 ⟨Nat.zero_le _, Nat.zero_le _⟩) rfl ?_
          refine x_ifeq_b (tgt := 59) hx hb dX5_deep_53 (by decide) (fun h_53 => ?_) (fun h_53 => ?_)
          · have h_53 : ¬ (6000 ≤ rN r) := of_decide_eq_false h_53
            refine lv_iload_n hx hb dX5_deep_59 rfl (lv_at hl 4 rfl) ?_
            refine lv_if_lt (tgt := 73) hx hb dX5_deep_60 (by decide) (fun h_60 => ?_) (fun h_60 => ?_)
            · refine lv_iconst (v := 4) hx hb dX5_deep_73 (by decide) ?_
              refine px_goV (st1 := [.int (-14)]) (px_callS F hK (c_X5_against l D cy _ 4) kc_X5_against kw_methodLink_RX5_34 rfl trivial rfl ⟨rfl, rfl⟩ ⟨Nat.le_of_ble_eq_true rfl, Nat.le_of_ble_eq_true rfl⟩ hl.1 rfl (Nat.le_of_ble_eq_true rfl) dX5_deep_74 ⟨Nat.zero_le _, Nat.zero_le _⟩) rfl ?_
              have efm : (f_deep r (nI cn) (nI kn) n mm ll) = (r, (-14)) := (by rw [ede, h_43, if_neg (by decide), if_neg h_53, show f_below (nI kn) n mm ll = true from (by simp [f_below, h_60, hk13])]; rfl)
              refine W.widen (k := cC r (f_deep r (nI cn) (nI kn) n mm ll).1) (n := cS r (f_deep r (nI cn) (nI kn) n mm ll).1) (Nat.zero_le _) (Nat.zero_le _) ?_
              exact px_iret F hr hlocks hS ⟨g, (by rw [efm]), (by rw [efm]; exact GX.rf rfl rfl), rfl, (by rw [efm]; exact hR)⟩ dX5_deep_77
            · refine lv_iload hx hb dX5_deep_63 (lv_at hl 5 rfl) ?_
              refine lv_if_lt (tgt := 73) hx hb dX5_deep_65 (by decide) (fun h_65 => ?_) (fun h_65 => ?_)
              · refine lv_iconst (v := 4) hx hb dX5_deep_73 (by decide) ?_
                refine px_goV (st1 := [.int (-14)]) (px_callS F hK (c_X5_against l D cy _ 4) kc_X5_against kw_methodLink_RX5_34 rfl trivial rfl ⟨rfl, rfl⟩ ⟨Nat.le_of_ble_eq_true rfl, Nat.le_of_ble_eq_true rfl⟩ hl.1 rfl (Nat.le_of_ble_eq_true rfl) dX5_deep_74 ⟨Nat.zero_le _, Nat.zero_le _⟩) rfl ?_
                have efm : (f_deep r (nI cn) (nI kn) n mm ll) = (r, (-14)) := (by rw [ede, h_43, if_neg (by decide), if_neg h_53, show f_below (nI kn) n mm ll = true from (by simp [f_below, h_60, h_65, hk13])]; rfl)
                refine W.widen (k := cC r (f_deep r (nI cn) (nI kn) n mm ll).1) (n := cS r (f_deep r (nI cn) (nI kn) n mm ll).1) (Nat.zero_le _) (Nat.zero_le _) ?_
                exact px_iret F hr hlocks hS ⟨g, (by rw [efm]), (by rw [efm]; exact GX.rf rfl rfl), rfl, (by rw [efm]; exact hR)⟩ dX5_deep_77
              · refine lv_iload hx hb dX5_deep_68 (lv_at hl 0 rfl) ?_
                refine lv_if_ge (tgt := 78) hx hb dX5_deep_70 (by decide) (fun _ => ?_) (fun h => absurd h (by decide))
                have hbel : f_below (nI kn) n mm ll = false := (by simp [f_below, h_60, h_65, hk13])
                have htd := td_le h_43
                rw [h_43, hbel, if_neg (by decide), if_neg h_53, if_neg (by decide)] at ede
                obtain ⟨nn, hh_nn, rfl⟩ := le_nat 30 h_60 htd.1 (by decide) (by decide)
                obtain ⟨m0, hh_m0, rfl⟩ := le_nat 30 h_65 htd.2.1 (by decide) (by decide)
                have efm : (f_deep r (nI cn) (nI kn) (nI nn) (nI m0) ll) = (sHd (f_deepT r kn nn m0 1) (va_up (rHd (f_deepT r kn nn m0 1)) cn (rT r + 1)), 1) := (by rw [ede, deepT_Hd, ix_nI (show kn < 2 ^ 31 by omega), ix_nI (show nn < 2 ^ 31 by omega), ix_nI (show m0 < 2 ^ 31 by omega), ix_nI (show cn < 2 ^ 31 by omega)]; rw [deepT_l (l' := 1) h_24])
                have hcc : cC r (f_deep r (nI cn) (nI kn) (nI nn) (nI m0) ll).1 = cC r (f_deepT r kn nn m0 1) := (by rw [efm]; exact cC_hd r _ _)
                have hcs : cS r (f_deep r (nI cn) (nI kn) (nI nn) (nI m0) ll).1 = cS r (f_deepT r kn nn m0 1) := (by rw [efm]; exact cS_hd r _ _)
                have hTd : rT r + 1 ≤ rT (f_deepT r kn nn m0 1) := (deepT_MN r kn nn m0 1).1
                refine lv_aload_n hx hb dX5_deep_78 rfl (lv_at hl 1 rfl) ?_
                refine c_gx F hK hR 0 (by decide) rfl kw_fieldLink_RX5_11 dX5_deep_79 ?_
                refine lv_iload_n hx hb dX5_deep_82 rfl (lv_at hl 2 rfl) ?_
                refine lv_aload_n hx hb dX5_deep_83 rfl (lv_at hl 1 rfl) ?_
                refine lv_iload_n hx hb dX5_deep_84 rfl (lv_at hl 3 rfl) ?_
                refine lv_iload_n hx hb dX5_deep_85 rfl (lv_at hl 4 rfl) ?_
                refine lv_iload hx hb dX5_deep_86 (lv_at hl 5 rfl) ?_
                refine lv_iload hx hb dX5_deep_88 (lv_at hl 0 rfl) ?_
                refine px_goCw (c2 := cC r (f_deepT r kn nn m0 1)) (s2 := cS r (f_deepT r kn nn m0 1)) (px_callV F hK (c_X5_newDeepTable l D cy A r g _ kn nn m0 1 (fun q9 h9 => hA9 q9 (Nat.le_trans hS.1 h9)) hV hK9 hl_kn hh_kn hh_nn hh_m0 (by omega) (by omega)) kc_X5_newDeepTable kw_methodLink_RX5_45 rfl hR (c_recv hK hR) rfl ⟨rfl, rfl⟩ ⟨Nat.le_of_ble_eq_true rfl, Nat.le_of_ble_eq_true rfl⟩ hl.1 rfl (Nat.le_of_ble_eq_true rfl) dX5_deep_90 ⟨(by rw [hcc, Nat.zero_add]; exact Nat.le_refl _), (by rw [hcs, Nat.zero_add]; exact Nat.le_refl _)⟩) hS (Nat.le_of_eq (Nat.zero_add _)) (Nat.le_of_eq (Nat.zero_add _)) (fun H locs ga hE2 hM2 hR hS => ?_)
                have hE : GX r g (f_deepT r kn nn m0 1) ga := (GX.rf rfl rfl : GX r g (r) g).tr hE2
                have hM9 := hM2
                have hl : lv_has ls 7 [(6, .int 1), (0, .ref (gA ga 0)), (1, .int (nI cn)), (2, .int (nI kn)), (3, .int (nI nn)), (4, .int (nI m0)), (5, .int ll)] := (by rw [hE2.x]; exact hl)
                refine W.eq (g2 := F0 m 93 ls [.ref (gA ga (3 * (rT r + 1))), .int (nI cn), .ref (gA ga 1)]) (by rw [(hE2.2.2.1 _ (dm_1 _))]; rfl) ?_
                refine c_stcol F hK hR hS cn (rT r + 1) rfl (col_t (by omega)) (show (rT r + 1) ≤ rT (f_deepT r kn nn m0 1) by omega) (by omega) dX5_deep_93 (fun H locs hR hS => ?_)
                refine lv_iconst (v := 1) hx hb dX5_deep_94 (by decide) ?_
                refine W.widen (k := cC r (f_deep r (nI cn) (nI kn) (nI nn) (nI m0) ll).1) (n := cS r (f_deep r (nI cn) (nI kn) (nI nn) (nI m0) ll).1) (Nat.le_of_eq hcc.symm) (Nat.le_of_eq hcs.symm) ?_
                exact px_iret F hr hlocks hS ⟨ga, (by rw [efm]), (by rw [efm]; exact GX.hd hE _), hM9, (by rw [efm]; exact hR)⟩ dX5_deep_95
          · have h_53 : 6000 ≤ rN r := of_decide_eq_true h_53
            refine lv_bipush (v := -3) hx hb dX5_deep_56 (by decide) ?_
            have efm : (f_deep r (nI cn) (nI kn) n mm ll) = (r, (-3)) := (by rw [ede, h_43, if_neg (by decide), if_pos h_53])
            refine W.widen (k := cC r (f_deep r (nI cn) (nI kn) n mm ll).1) (n := cS r (f_deep r (nI cn) (nI kn) n mm ll).1) (Nat.zero_le _) (Nat.zero_le _) ?_
            exact px_iret F hr hlocks hS ⟨g, (by rw [efm]), (by rw [efm]; exact GX.rf rfl rfl), rfl, (by rw [efm]; exact hR)⟩ dX5_deep_58
        · refine lv_bipush (v := -2) hx hb dX5_deep_46 (by decide) ?_
          have efm : (f_deep r (nI cn) (nI kn) n mm ll) = (r, (-2)) := (by rw [ede, h_43]; rfl)
          refine W.widen (k := cC r (f_deep r (nI cn) (nI kn) n mm ll).1) (n := cS r (f_deep r (nI cn) (nI kn) n mm ll).1) (Nat.zero_le _) (Nat.zero_le _) ?_
          exact px_iret F hr hlocks hS ⟨g, (by rw [efm]), (by rw [efm]; exact GX.rf rfl rfl), rfl, (by rw [efm]; exact hR)⟩ dX5_deep_48
      · have h_24 : kn = 13 := nIeq (show nI kn = nI 13 from h_24) (by omega) (by omega)
        refine lv_iload hx hb dX5_deep_27 (lv_at hl 5 rfl) ?_
        refine lv_goto (tgt := 33) hx hb dX5_deep_29 (by decide) ?_
        have hk13 : nI kn = 13 := (by rw [h_24]; rfl)
        have ede := deep_e (r := r) (c := nI cn) (k := nI kn) (n := n) (m := mm) (l := ll) h_4 h_15 (td_13 hk13)
        refine lv_istore (lv' := [(6, .int ll), (0, .ref (gA g 0)), (1, .int (nI cn)), (2, .int (nI kn)), (3, .int n), (4, .int mm), (5, .int ll)]) hx hb dX5_deep_33 hl (by decide) rfl (fun ls hl => ?_)
        refine lv_iload_n hx hb dX5_deep_35 rfl (lv_at hl 4 rfl) ?_
        refine lv_iload hx hb dX5_deep_36 (lv_at hl 5 rfl) ?_
        refine lv_iload hx hb dX5_deep_38 (lv_at hl 0 rfl) ?_
        refine px_goV (st1 := [.int (b2i (f_td n mm ll))]) (px_callS F hK (c_X5_isTooDeep l D cy _ n mm ll) kc_X5_isTooDeep kw_methodLink_RX5_42 rfl trivial rfl ⟨rfl, rfl⟩ ⟨Nat.le_of_ble_eq_true rfl, Nat.le_of_ble_eq_true rfl⟩ hl.1 rfl (Nat.le_of_ble_eq_true rfl) dX5_deep_40 ⟨Nat.zero_le _, Nat.zero_le _⟩) rfl ?_
        refine x_ifeq_b (tgt := 49) hx hb dX5_deep_43 (by decide) (fun h_43 => ?_) (fun h_43 => ?_)
        · refine lv_aload_n hx hb dX5_deep_49 rfl (lv_at hl 1 rfl) ?_
          refine px_goV (st1 := [.int (b2i (decide (6000 ≤ rN r)))]) (px_callV F hK (c_X5_isFull l D cy A r g _ (by omega)) kc_X5_isFull kw_methodLink_RX5_30 rfl hR (c_recv hK hR) rfl ⟨rfl, rfl⟩ ⟨Nat.le_of_ble_eq_true rfl, Nat.le_of_ble_eq_true rfl⟩ hl.1 rfl (Nat.le_of_ble_eq_true rfl) dX5_deep_50 ⟨Nat.zero_le _, Nat.zero_le _⟩) rfl ?_
          refine x_ifeq_b (tgt := 59) hx hb dX5_deep_53 (by decide) (fun h_53 => ?_) (fun h_53 => ?_)
          · have h_53 : ¬ (6000 ≤ rN r) := of_decide_eq_false h_53
            refine lv_iload_n hx hb dX5_deep_59 rfl (lv_at hl 4 rfl) ?_
            refine lv_if_lt (tgt := 73) hx hb dX5_deep_60 (by decide) (fun h_60 => ?_) (fun h_60 => ?_)
            · refine lv_iconst (v := 4) hx hb dX5_deep_73 (by decide) ?_
              refine px_goV (st1 := [.int (-14)]) (px_callS F hK (c_X5_against l D cy _ 4) kc_X5_against kw_methodLink_RX5_34 rfl trivial rfl ⟨rfl, rfl⟩ ⟨Nat.le_of_ble_eq_true rfl, Nat.le_of_ble_eq_true rfl⟩ hl.1 rfl (Nat.le_of_ble_eq_true rfl) dX5_deep_74 ⟨Nat.zero_le _, Nat.zero_le _⟩) rfl ?_
              have efm : (f_deep r (nI cn) (nI kn) n mm ll) = (r, (-14)) := (by rw [ede, h_43, if_neg (by decide), if_neg h_53, show f_below (nI kn) n mm ll = true from (by simp [f_below, h_60, hk13])]; rfl)
              refine W.widen (k := cC r (f_deep r (nI cn) (nI kn) n mm ll).1) (n := cS r (f_deep r (nI cn) (nI kn) n mm ll).1) (Nat.zero_le _) (Nat.zero_le _) ?_
              exact px_iret F hr hlocks hS ⟨g, (by rw [efm]), (by rw [efm]; exact GX.rf rfl rfl), rfl, (by rw [efm]; exact hR)⟩ dX5_deep_77
            · refine lv_iload hx hb dX5_deep_63 (lv_at hl 5 rfl) ?_
              refine lv_if_lt (tgt := 73) hx hb dX5_deep_65 (by decide) (fun h_65 => ?_) (fun h_65 => ?_)
              · refine lv_iconst (v := 4) hx hb dX5_deep_73 (by decide) ?_
                refine px_goV (st1 := [.int (-14)]) (px_callS F hK (c_X5_against l D cy _ 4) kc_X5_against kw_methodLink_RX5_34 rfl trivial rfl ⟨rfl, rfl⟩ ⟨Nat.le_of_ble_eq_true rfl, Nat.le_of_ble_eq_true rfl⟩ hl.1 rfl (Nat.le_of_ble_eq_true rfl) dX5_deep_74 ⟨Nat.zero_le _, Nat.zero_le _⟩) rfl ?_
                have efm : (f_deep r (nI cn) (nI kn) n mm ll) = (r, (-14)) := (by rw [ede, h_43, if_neg (by decide), if_neg h_53, show f_below (nI kn) n mm ll = true from (by simp [f_below, h_60, h_65, hk13])]; rfl)
                refine W.widen (k := cC r (f_deep r (nI cn) (nI kn) n mm ll).1) (n := cS r (f_deep r (nI cn) (nI kn) n mm ll).1) (Nat.zero_le _) (Nat.zero_le _) ?_
                exact px_iret F hr hlocks hS ⟨g, (by rw [efm]), (by rw [efm]; exact GX.rf rfl rfl), rfl, (by rw [efm]; exact hR)⟩ dX5_deep_77
              · refine lv_iload hx hb dX5_deep_68 (lv_at hl 0 rfl) ?_
                refine lv_if_ge (tgt := 78) hx hb dX5_deep_70 (by decide) (fun h_70 => ?_) (fun h_70 => ?_)
                · have h_70 : ¬ ll < 0 := Int32.not_lt.mpr h_70
                  have hbel : f_below (nI kn) n mm ll = false := (by simp [f_below, h_60, h_65, h_70, hk13])
                  have htd := td_le h_43
                  rw [h_43, hbel, if_neg (by decide), if_neg h_53, if_neg (by decide)] at ede
                  obtain ⟨nn, hh_nn, rfl⟩ := le_nat 30 h_60 htd.1 (by decide) (by decide)
                  obtain ⟨m0, hh_m0, rfl⟩ := le_nat 30 h_65 htd.2.1 (by decide) (by decide)
                  obtain ⟨l0, hh_l0, rfl⟩ := le_nat 30 h_70 htd.2.2 (by decide) (by decide)
                  have efm : (f_deep r (nI cn) (nI kn) (nI nn) (nI m0) (nI l0)) = (sHd (f_deepT r kn nn m0 l0) (va_up (rHd (f_deepT r kn nn m0 l0)) cn (rT r + 1)), 1) := (by rw [ede, deepT_Hd, ix_nI (show kn < 2 ^ 31 by omega), ix_nI (show nn < 2 ^ 31 by omega), ix_nI (show m0 < 2 ^ 31 by omega), ix_nI (show l0 < 2 ^ 31 by omega), ix_nI (show cn < 2 ^ 31 by omega)])
                  have hcc : cC r (f_deep r (nI cn) (nI kn) (nI nn) (nI m0) (nI l0)).1 = cC r (f_deepT r kn nn m0 l0) := (by rw [efm]; exact cC_hd r _ _)
                  have hcs : cS r (f_deep r (nI cn) (nI kn) (nI nn) (nI m0) (nI l0)).1 = cS r (f_deepT r kn nn m0 l0) := (by rw [efm]; exact cS_hd r _ _)
                  have hTd : rT r + 1 ≤ rT (f_deepT r kn nn m0 l0) := (deepT_MN r kn nn m0 l0).1
                  refine lv_aload_n hx hb dX5_deep_78 rfl (lv_at hl 1 rfl) ?_
                  refine c_gx F hK hR 0 (by decide) rfl kw_fieldLink_RX5_11 dX5_deep_79 ?_
                  refine lv_iload_n hx hb dX5_deep_82 rfl (lv_at hl 2 rfl) ?_
                  refine lv_aload_n hx hb dX5_deep_83 rfl (lv_at hl 1 rfl) ?_
                  refine lv_iload_n hx hb dX5_deep_84 rfl (lv_at hl 3 rfl) ?_
                  refine lv_iload_n hx hb dX5_deep_85 rfl (lv_at hl 4 rfl) ?_
                  refine lv_iload hx hb dX5_deep_86 (lv_at hl 5 rfl) ?_
                  refine lv_iload hx hb dX5_deep_88 (lv_at hl 0 rfl) ?_
                  refine px_goCw (c2 := cC r (f_deepT r kn nn m0 l0)) (s2 := cS r (f_deepT r kn nn m0 l0)) (px_callV F hK (c_X5_newDeepTable l D cy A r g _ kn nn m0 l0 (fun q9 h9 => hA9 q9 (Nat.le_trans hS.1 h9)) hV hK9 hl_kn hh_kn hh_nn hh_m0 (by omega) (by omega)) kc_X5_newDeepTable kw_methodLink_RX5_45 rfl hR (c_recv hK hR) rfl ⟨rfl, rfl⟩ ⟨Nat.le_of_ble_eq_true rfl, Nat.le_of_ble_eq_true rfl⟩ hl.1 rfl (Nat.le_of_ble_eq_true rfl) dX5_deep_90 ⟨(by rw [hcc, Nat.zero_add]; exact Nat.le_refl _), (by rw [hcs, Nat.zero_add]; exact Nat.le_refl _)⟩) hS (Nat.le_of_eq (Nat.zero_add _)) (Nat.le_of_eq (Nat.zero_add _)) (fun H locs ga hE2 hM2 hR hS => ?_)
                  have hE : GX r g (f_deepT r kn nn m0 l0) ga := (GX.rf rfl rfl : GX r g (r) g).tr hE2
                  have hM9 := hM2
                  have hl : lv_has ls 7 [(6, .int (nI l0)), (0, .ref (gA ga 0)), (1, .int (nI cn)), (2, .int (nI kn)), (3, .int (nI nn)), (4, .int (nI m0)), (5, .int (nI l0))] := (by rw [hE2.x]; exact hl)
                  refine W.eq (g2 := F0 m 93 ls [.ref (gA ga (3 * (rT r + 1))), .int (nI cn), .ref (gA ga 1)]) (by rw [(hE2.2.2.1 _ (dm_1 _))]; rfl) ?_
                  refine c_stcol F hK hR hS cn (rT r + 1) rfl (col_t (by omega)) (show (rT r + 1) ≤ rT (f_deepT r kn nn m0 l0) by omega) (by omega) dX5_deep_93 (fun H locs hR hS => ?_)
                  refine lv_iconst (v := 1) hx hb dX5_deep_94 (by decide) ?_
                  refine W.widen (k := cC r (f_deep r (nI cn) (nI kn) (nI nn) (nI m0) (nI l0)).1) (n := cS r (f_deep r (nI cn) (nI kn) (nI nn) (nI m0) (nI l0)).1) (Nat.le_of_eq hcc.symm) (Nat.le_of_eq hcs.symm) ?_
                  exact px_iret F hr hlocks hS ⟨ga, (by rw [efm]), (by rw [efm]; exact GX.hd hE _), hM9, (by rw [efm]; exact hR)⟩ dX5_deep_95
                · have h_70 : ll < 0 := Int32.not_le.mp h_70
                  refine lv_iconst (v := 4) hx hb dX5_deep_73 (by decide) ?_
                  refine px_goV (st1 := [.int (-14)]) (px_callS F hK (c_X5_against l D cy _ 4) kc_X5_against kw_methodLink_RX5_34 rfl trivial rfl ⟨rfl, rfl⟩ ⟨Nat.le_of_ble_eq_true rfl, Nat.le_of_ble_eq_true rfl⟩ hl.1 rfl (Nat.le_of_ble_eq_true rfl) dX5_deep_74 ⟨Nat.zero_le _, Nat.zero_le _⟩) rfl ?_
                  have efm : (f_deep r (nI cn) (nI kn) n mm ll) = (r, (-14)) := (by rw [ede, h_43, if_neg (by decide), if_neg h_53, show f_below (nI kn) n mm ll = true from (by simp [f_below, h_60, h_65, h_70, hk13])]; rfl)
                  refine W.widen (k := cC r (f_deep r (nI cn) (nI kn) n mm ll).1) (n := cS r (f_deep r (nI cn) (nI kn) n mm ll).1) (Nat.zero_le _) (Nat.zero_le _) ?_
                  exact px_iret F hr hlocks hS ⟨g, (by rw [efm]), (by rw [efm]; exact GX.rf rfl rfl), rfl, (by rw [efm]; exact hR)⟩ dX5_deep_77
          · have h_53 : 6000 ≤ rN r := of_decide_eq_true h_53
            refine lv_bipush (v := -3) hx hb dX5_deep_56 (by decide) ?_
            have efm : (f_deep r (nI cn) (nI kn) n mm ll) = (r, (-3)) := (by rw [ede, h_43, if_neg (by decide), if_pos h_53])
            refine W.widen (k := cC r (f_deep r (nI cn) (nI kn) n mm ll).1) (n := cS r (f_deep r (nI cn) (nI kn) n mm ll).1) (Nat.zero_le _) (Nat.zero_le _) ?_
            exact px_iret F hr hlocks hS ⟨g, (by rw [efm]), (by rw [efm]; exact GX.rf rfl rfl), rfl, (by rw [efm]; exact hR)⟩ dX5_deep_58
        · refine lv_bipush (v := -2) hx hb dX5_deep_46 (by decide) ?_
          have efm : (f_deep r (nI cn) (nI kn) n mm ll) = (r, (-2)) := (by rw [ede, h_43]; rfl)
          refine W.widen (k := cC r (f_deep r (nI cn) (nI kn) n mm ll).1) (n := cS r (f_deep r (nI cn) (nI kn) n mm ll).1) (Nat.zero_le _) (Nat.zero_le _) ?_
          exact px_iret F hr hlocks hS ⟨g, (by rw [efm]), (by rw [efm]; exact GX.rf rfl rfl), rfl, (by rw [efm]; exact hR)⟩ dX5_deep_48
    · refine lv_bipush (v := -2) hx hb dX5_deep_18 (by decide) ?_
      have efm : (f_deep r cl k n mm ll) = (r, (-2)) := (by simp [f_deep, h_4, h_15])
      refine W.widen (k := cC r (f_deep r cl k n mm ll).1) (n := cS r (f_deep r cl k n mm ll).1) (Nat.zero_le _) (Nat.zero_le _) ?_
      exact px_iret F hr hlocks hS ⟨g, (by rw [efm]), (by rw [efm]; exact GX.rf rfl rfl), rfl, (by rw [efm]; exact hR)⟩ dX5_deep_20
