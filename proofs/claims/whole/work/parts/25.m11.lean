/-! the reference: deep -/
set_option maxHeartbeats 400000 in
set_option maxRecDepth 100000 in
theorem c_X6_deep (l : Launch) (D : va_G) (cy : Nat → ClassId) (A : Nat → Prop) (G : Nat → Nat) (r : RS) (C : Nat → Nat) (E : Nat → Int64) (sz : Nat) (cl k n mm ll : Int32) {kk : Nat} (hI : Inv kk r) : Met l yX6_deep (px_w yX6_deep cX6_deep 13 (some .int)) (rmd 3 0 0) (px_P D cy [.ref (G 0), .int cl, .int k, .int n, .int mm, .int ll] sz (MR D cy A G r C E)) (px_Q (px_M D cy A G (some (.int (f_deep r cl k n mm ll).2)) ((f_deep r cl k n mm ll).1)) A) 0 0 A := by
  refine px_met (by decide) (Nat.le_of_ble_eq_true rfl) ?_
  intro p e s m below meth c F hr hlocks hnm hK hsz hR ls hl
  have hx := F.1
  have hb := F.2.1
  have hl : lv_has ls 13 [(0, .ref (G 0)), (1, .int cl), (2, .int k), (3, .int n), (4, .int mm), (5, .int ll)] := hl
  have hS : va_S A s.heap s.heap [] := va_S.rf
  have hbd := hI.bd
  refine lv_iload_n hx hb dX6_deep_0 rfl (lv_at hl 1 rfl) ?_
  refine px_goV (st1 := [.int (b2i (f_in cl 0 15))]) (px_callS F hK (c_X6_isColumn l D cy _ cl) kc_X6_isColumn kw_methodLink_RX6_53 rfl trivial rfl ⟨rfl, rfl⟩ ⟨Nat.le_of_ble_eq_true rfl, Nat.le_of_ble_eq_true rfl⟩ hl.1 rfl (Nat.le_of_ble_eq_true rfl) dX6_deep_1 ⟨Nat.zero_le _, Nat.zero_le _⟩) rfl ?_
  refine x_ifeq_b (tgt := 44) hx hb dX6_deep_4 (by decide) (fun h_4 => ?_) (fun h_4 => ?_)
  · refine lv_bipush (v := -2) hx hb dX6_deep_44 (by decide) ?_
    exact px_iret F hr hlocks hS (by have e : f_deep r cl k n mm ll = (r, (-2)) := (by simp [f_deep, h_4] <;> rfl); rw [e]; exact ⟨rfl, _, _, hR⟩) dX6_deep_46
  · refine lv_iload_n hx hb dX6_deep_7 rfl (lv_at hl 2 rfl) ?_
    refine lv_bipush (v := 10) hx hb dX6_deep_8 (by decide) ?_
    refine lv_bipush (v := 13) hx hb dX6_deep_10 (by decide) ?_
    refine px_goV (st1 := [.int (b2i (f_in k 10 13))]) (px_callS F hK (c_X6_in l D cy _ k 10 13) kc_X6_in kw_methodLink_RX6_57 rfl trivial rfl ⟨rfl, rfl⟩ ⟨Nat.le_of_ble_eq_true rfl, Nat.le_of_ble_eq_true rfl⟩ hl.1 rfl (Nat.le_of_ble_eq_true rfl) dX6_deep_12 ⟨Nat.zero_le _, Nat.zero_le _⟩) rfl ?_
    refine x_ifeq_b (tgt := 44) hx hb dX6_deep_15 (by decide) (fun h_15 => ?_) (fun h_15 => ?_)
    · refine lv_bipush (v := -2) hx hb dX6_deep_44 (by decide) ?_
      exact px_iret F hr hlocks hS (by have e : f_deep r cl k n mm ll = (r, (-2)) := (by simp [f_deep, h_4, h_15] <;> rfl); rw [e]; exact ⟨rfl, _, _, hR⟩) dX6_deep_46
    · obtain ⟨kn, hl_kn, hh_kn, rfl⟩ := f_in_nat h_15 10 13 (by decide) (by decide) (by decide) (by decide)
      by_cases h13 : kn = 13
      · have hk13 : nI kn = 13 := (by rw [h13]; rfl)
        have hk13e : (nI kn = 13) = True := eq_true hk13
        refine lv_iload_n hx hb dX6_deep_18 rfl (lv_at hl 3 rfl) ?_
        refine lv_bipush (v := 30) hx hb dX6_deep_19 (by decide) ?_
        refine lv_icmp_gt (tgt := 44) hx hb dX6_deep_21 (by decide) (fun h_21 => ?_) (fun h_21 => ?_)
        · refine lv_bipush (v := -2) hx hb dX6_deep_44 (by decide) ?_
          exact px_iret F hr hlocks hS (by have e : f_deep r cl (nI kn) n mm ll = (r, (-2)) := (by simp [f_deep, h_4, h_15, hk13e, h_21, ix_nI (show kn < 2 ^ 31 by omega)] <;> rfl); rw [e]; exact ⟨rfl, _, _, hR⟩) dX6_deep_46
        · refine lv_iload hx hb dX6_deep_24 (lv_at hl 4 rfl) ?_
          refine lv_bipush (v := 30) hx hb dX6_deep_26 (by decide) ?_
          refine lv_icmp_gt (tgt := 44) hx hb dX6_deep_28 (by decide) (fun h_28 => ?_) (fun h_28 => ?_)
          · refine lv_bipush (v := -2) hx hb dX6_deep_44 (by decide) ?_
            exact px_iret F hr hlocks hS (by have e : f_deep r cl (nI kn) n mm ll = (r, (-2)) := (by simp [f_deep, h_4, h_15, hk13e, h_21, h_28, ix_nI (show kn < 2 ^ 31 by omega)] <;> rfl); rw [e]; exact ⟨rfl, _, _, hR⟩) dX6_deep_46
          · refine lv_iload_n hx hb dX6_deep_31 rfl (lv_at hl 2 rfl) ?_
            refine lv_bipush (v := 13) hx hb dX6_deep_32 (by decide) ?_
            refine lv_icmp_ne (tgt := 47) hx hb dX6_deep_34 (by decide) (fun h_34 => by exfalso; have h_34 : ¬ kn = 13 := nIne (show ¬ nI kn = nI 13 from h_34); omega) (fun h_34 => ?_)
            have h_34 : kn = 13 := nIeq (show nI kn = nI 13 from h_34) (by omega) (by omega)
            refine lv_iload hx hb dX6_deep_37 (lv_at hl 5 rfl) ?_
            refine lv_bipush (v := 30) hx hb dX6_deep_39 (by decide) ?_
            refine lv_icmp_le (tgt := 47) hx hb dX6_deep_41 (by decide) (fun h_41 => ?_) (fun h_41 => ?_)
            · have h_41 : ¬ 30 < ll := Int32.not_lt.mpr h_41
              refine lv_iload_n hx hb dX6_deep_47 rfl (lv_at hl 3 rfl) ?_
              refine lv_if_lt (tgt := 67) hx hb dX6_deep_48 (by decide) (fun h_48 => ?_) (fun h_48 => ?_)
              · have hbel : f_below (nI kn) n mm ll = true := (by simp [f_below, hk13e, h_48])
                have hprod : f_prod (nI kn) n mm ll = 0 := (by simp [f_prod, hbel])
                refine lv_iconst (v := 1) hx hb dX6_deep_67 (by decide) ?_
                refine lv_goto (tgt := 72) hx hb dX6_deep_68 (by decide) ?_
                refine lv_istore (lv' := [(6, .int 1), (0, .ref (G 0)), (1, .int cl), (2, .int (nI kn)), (3, .int n), (4, .int mm), (5, .int ll)]) hx hb dX6_deep_72 hl (by decide) rfl (fun ls hl => ?_)
                refine lv_iload hx hb dX6_deep_74 (lv_at hl 0 rfl) ?_
                refine lv_if_eq (tgt := 83) hx hb dX6_deep_76 (by decide) (fun h => absurd h (by decide)) (fun _ => ?_)
                refine lv_iconst (v := 0) hx hb dX6_deep_79 (by decide) ?_
                refine lv_goto (tgt := 103) hx hb dX6_deep_80 (by decide) ?_
                refine lv_istore (lv' := [(7, .int 0), (6, .int 1), (0, .ref (G 0)), (1, .int cl), (2, .int (nI kn)), (3, .int n), (4, .int mm), (5, .int ll)]) hx hb dX6_deep_103 hl (by decide) rfl (fun ls hl => ?_)
                refine lv_iload hx hb dX6_deep_105 (lv_at hl 0 rfl) ?_
                refine lv_sipush (v := 400) hx hb dX6_deep_107 (by decide) ?_
                refine lv_icmp_le (tgt := 116) hx hb dX6_deep_110 (by decide) (fun _ => ?_) (fun h => absurd h (by decide))
                refine lv_aload_n hx hb dX6_deep_116 rfl (lv_at hl 2 rfl) ?_
                refine px_goV (st1 := [.int (b2i (decide (6000 ≤ rN r)))]) (px_callV F hK (c_X6_isFull l D cy A G r _ _ _ (by omega)) kc_X6_isFull kw_methodLink_RX6_61 rfl hR (m_recv hK hR) rfl ⟨rfl, rfl⟩ ⟨Nat.le_of_ble_eq_true rfl, Nat.le_of_ble_eq_true rfl⟩ hl.1 rfl (Nat.le_of_ble_eq_true rfl) dX6_deep_117 ⟨Nat.zero_le _, Nat.zero_le _⟩) rfl ?_
                refine x_ifeq_b (tgt := 126) hx hb dX6_deep_120 (by decide) (fun h_120 => ?_) (fun h_120 => ?_)
                · have h_120 : ¬ (6000 ≤ rN r) := of_decide_eq_false h_120
                  refine lv_iload hx hb dX6_deep_126 (lv_at hl 1 rfl) ?_
                  refine lv_if_eq (tgt := 136) hx hb dX6_deep_128 (by decide) (fun h => absurd h (by decide)) (fun _ => ?_)
                  refine lv_iconst (v := 4) hx hb dX6_deep_131 (by decide) ?_
                  refine px_goV (st1 := [.int (-14)]) (px_callS F hK (c_X6_answer l D cy _ 4) kc_X6_answer kw_methodLink_RX6_65 rfl trivial rfl ⟨rfl, rfl⟩ ⟨Nat.le_of_ble_eq_true rfl, Nat.le_of_ble_eq_true rfl⟩ hl.1 rfl (Nat.le_of_ble_eq_true rfl) dX6_deep_132 ⟨Nat.zero_le _, Nat.zero_le _⟩) rfl ?_
                  exact px_iret F hr hlocks hS (by have e : f_deep r cl (nI kn) n mm ll = (r, (-14)) := (by simp [f_deep, h_4, h_15, hk13e, h_21, h_28, h_41, h_48, hbel, hprod, h_120, ix_nI (show kn < 2 ^ 31 by omega)] <;> rfl); rw [e]; exact ⟨rfl, _, _, hR⟩) dX6_deep_135
                · have h_120 : 6000 ≤ rN r := of_decide_eq_true h_120
                  refine lv_bipush (v := -3) hx hb dX6_deep_123 (by decide) ?_
                  exact px_iret F hr hlocks hS (by have e : f_deep r cl (nI kn) n mm ll = (r, (-3)) := (by simp [f_deep, h_4, h_15, hk13e, h_21, h_28, h_41, h_48, hbel, hprod, h_120, ix_nI (show kn < 2 ^ 31 by omega)] <;> rfl); rw [e]; exact ⟨rfl, _, _, hR⟩) dX6_deep_125
              · refine lv_iload hx hb dX6_deep_51 (lv_at hl 4 rfl) ?_
                refine lv_if_lt (tgt := 67) hx hb dX6_deep_53 (by decide) (fun h_53 => ?_) (fun h_53 => ?_)
                · have hbel : f_below (nI kn) n mm ll = true := (by simp [f_below, hk13e, h_48, h_53])
                  have hprod : f_prod (nI kn) n mm ll = 0 := (by simp [f_prod, hbel])
                  refine lv_iconst (v := 1) hx hb dX6_deep_67 (by decide) ?_
                  refine lv_goto (tgt := 72) hx hb dX6_deep_68 (by decide) ?_
                  refine lv_istore (lv' := [(6, .int 1), (0, .ref (G 0)), (1, .int cl), (2, .int (nI kn)), (3, .int n), (4, .int mm), (5, .int ll)]) hx hb dX6_deep_72 hl (by decide) rfl (fun ls hl => ?_)
                  refine lv_iload hx hb dX6_deep_74 (lv_at hl 0 rfl) ?_
                  refine lv_if_eq (tgt := 83) hx hb dX6_deep_76 (by decide) (fun h => absurd h (by decide)) (fun _ => ?_)
                  refine lv_iconst (v := 0) hx hb dX6_deep_79 (by decide) ?_
                  refine lv_goto (tgt := 103) hx hb dX6_deep_80 (by decide) ?_
                  refine lv_istore (lv' := [(7, .int 0), (6, .int 1), (0, .ref (G 0)), (1, .int cl), (2, .int (nI kn)), (3, .int n), (4, .int mm), (5, .int ll)]) hx hb dX6_deep_103 hl (by decide) rfl (fun ls hl => ?_)
                  refine lv_iload hx hb dX6_deep_105 (lv_at hl 0 rfl) ?_
                  refine lv_sipush (v := 400) hx hb dX6_deep_107 (by decide) ?_
                  refine lv_icmp_le (tgt := 116) hx hb dX6_deep_110 (by decide) (fun _ => ?_) (fun h => absurd h (by decide))
                  refine lv_aload_n hx hb dX6_deep_116 rfl (lv_at hl 2 rfl) ?_
                  refine px_goV (st1 := [.int (b2i (decide (6000 ≤ rN r)))]) (px_callV F hK (c_X6_isFull l D cy A G r _ _ _ (by omega)) kc_X6_isFull kw_methodLink_RX6_61 rfl hR (m_recv hK hR) rfl ⟨rfl, rfl⟩ ⟨Nat.le_of_ble_eq_true rfl, Nat.le_of_ble_eq_true rfl⟩ hl.1 rfl (Nat.le_of_ble_eq_true rfl) dX6_deep_117 ⟨Nat.zero_le _, Nat.zero_le _⟩) rfl ?_
                  refine x_ifeq_b (tgt := 126) hx hb dX6_deep_120 (by decide) (fun h_120 => ?_) (fun h_120 => ?_)
                  · have h_120 : ¬ (6000 ≤ rN r) := of_decide_eq_false h_120
                    refine lv_iload hx hb dX6_deep_126 (lv_at hl 1 rfl) ?_
                    refine lv_if_eq (tgt := 136) hx hb dX6_deep_128 (by decide) (fun h => absurd h (by decide)) (fun _ => ?_)
                    refine lv_iconst (v := 4) hx hb dX6_deep_131 (by decide) ?_
                    refine px_goV (st1 := [.int (-14)]) (px_callS F hK (c_X6_answer l D cy _ 4) kc_X6_answer kw_methodLink_RX6_65 rfl trivial rfl ⟨rfl, rfl⟩ ⟨Nat.le_of_ble_eq_true rfl, Nat.le_of_ble_eq_true rfl⟩ hl.1 rfl (Nat.le_of_ble_eq_true rfl) dX6_deep_132 ⟨Nat.zero_le _, Nat.zero_le _⟩) rfl ?_
                    exact px_iret F hr hlocks hS (by have e : f_deep r cl (nI kn) n mm ll = (r, (-14)) := (by simp [f_deep, h_4, h_15, hk13e, h_21, h_28, h_41, h_48, h_53, hbel, hprod, h_120, ix_nI (show kn < 2 ^ 31 by omega)] <;> rfl); rw [e]; exact ⟨rfl, _, _, hR⟩) dX6_deep_135
                  · have h_120 : 6000 ≤ rN r := of_decide_eq_true h_120
                    refine lv_bipush (v := -3) hx hb dX6_deep_123 (by decide) ?_
                    exact px_iret F hr hlocks hS (by have e : f_deep r cl (nI kn) n mm ll = (r, (-3)) := (by simp [f_deep, h_4, h_15, hk13e, h_21, h_28, h_41, h_48, h_53, hbel, hprod, h_120, ix_nI (show kn < 2 ^ 31 by omega)] <;> rfl); rw [e]; exact ⟨rfl, _, _, hR⟩) dX6_deep_125
                · refine lv_iload_n hx hb dX6_deep_56 rfl (lv_at hl 2 rfl) ?_
                  refine lv_bipush (v := 13) hx hb dX6_deep_57 (by decide) ?_
                  refine lv_icmp_ne (tgt := 71) hx hb dX6_deep_59 (by decide) (fun h_59 => by exfalso; have h_59 : ¬ kn = 13 := nIne (show ¬ nI kn = nI 13 from h_59); omega) (fun h_59 => ?_)
                  have h_59 : kn = 13 := nIeq (show nI kn = nI 13 from h_59) (by omega) (by omega)
                  refine lv_iload hx hb dX6_deep_62 (lv_at hl 5 rfl) ?_
                  refine lv_if_ge (tgt := 71) hx hb dX6_deep_64 (by decide) (fun h_64 => ?_) (fun h_64 => ?_)
                  · have h_64 : ¬ ll < 0 := Int32.not_lt.mpr h_64
                    have hbel : f_below (nI kn) n mm ll = false := (by simp [f_below, hk13e, h_48, h_53, h_64])
                    obtain ⟨nn, hh_nn, rfl⟩ := le_nat 30 h_48 h_21 (by decide) (by decide)
                    obtain ⟨m0, hh_m0, rfl⟩ := le_nat 30 h_53 h_28 (by decide) (by decide)
                    obtain ⟨l0, hh_l0, rfl⟩ := le_nat 30 h_64 h_41 (by decide) (by decide)
                    have hmul : nn * m0 ≤ 900 := Nat.le_trans (Nat.mul_le_mul hh_nn hh_m0) (by decide)
                    have hmul3 : nn * m0 * l0 ≤ 27000 := Nat.le_trans (Nat.mul_le_mul hmul hh_l0) (by decide)
                    have hprod : f_prod (nI kn) (nI nn) (nI m0) (nI l0) = nI (nn * m0 * l0) := (by simp only [f_prod, hbel, hk13e, Bool.false_eq_true, if_false, if_true, pk_mul])
                    refine lv_iconst (v := 0) hx hb dX6_deep_71 (by decide) ?_
                    refine lv_istore (lv' := [(6, .int 0), (0, .ref (G 0)), (1, .int cl), (2, .int (nI kn)), (3, .int (nI nn)), (4, .int (nI m0)), (5, .int (nI l0))]) hx hb dX6_deep_72 hl (by decide) rfl (fun ls hl => ?_)
                    refine lv_iload hx hb dX6_deep_74 (lv_at hl 0 rfl) ?_
                    refine lv_if_eq (tgt := 83) hx hb dX6_deep_76 (by decide) (fun _ => ?_) (fun h => absurd h (by decide))
                    refine lv_iload_n hx hb dX6_deep_83 rfl (lv_at hl 3 rfl) ?_
                    refine lv_bipush (v := 13) hx hb dX6_deep_84 (by decide) ?_
                    refine lv_icmp_ne (tgt := 99) hx hb dX6_deep_86 (by decide) (fun h_86 => by exfalso; have h_86 : ¬ kn = 13 := nIne (show ¬ nI kn = nI 13 from h_86); omega) (fun h_86 => ?_)
                    have h_86 : kn = 13 := nIeq (show nI kn = nI 13 from h_86) (by omega) (by omega)
                    refine lv_iload_n hx hb dX6_deep_89 rfl (lv_at hl 4 rfl) ?_
                    refine lv_iload hx hb dX6_deep_90 (lv_at hl 5 rfl) ?_
                    refine lv_imul hx hb dX6_deep_92 ?_
                    refine px_topi (y := nI (nn * m0)) (pk_mul _ _) ?_
                    refine lv_iload hx hb dX6_deep_93 (lv_at hl 6 rfl) ?_
                    refine lv_imul hx hb dX6_deep_95 ?_
                    refine px_topi (y := nI ((nn * m0) * l0)) (pk_mul _ _) ?_
                    refine lv_goto (tgt := 103) hx hb dX6_deep_96 (by decide) ?_
                    refine lv_istore (lv' := [(7, .int (nI ((nn * m0) * l0))), (6, .int 0), (0, .ref (G 0)), (1, .int cl), (2, .int (nI kn)), (3, .int (nI nn)), (4, .int (nI m0)), (5, .int (nI l0))]) hx hb dX6_deep_103 hl (by decide) rfl (fun ls hl => ?_)
                    refine lv_iload hx hb dX6_deep_105 (lv_at hl 0 rfl) ?_
                    refine lv_sipush (v := 400) hx hb dX6_deep_107 (by decide) ?_
                    refine lv_icmp_le (tgt := 116) hx hb dX6_deep_110 (by decide) (fun h_110 => ?_) (fun h_110 => ?_)
                    · have h_110 : ((nn * m0) * l0) ≤ 400 := nIle (show nI ((nn * m0) * l0) ≤ nI 400 from h_110) (by omega) (by omega)
                      have h400 : ¬ (400 : Int32) < nI (nn * m0 * l0) := (fun q => absurd (nIlt (show nI 400 < nI (nn * m0 * l0) from q) (by omega) (by omega)) (by omega))
                      refine lv_aload_n hx hb dX6_deep_116 rfl (lv_at hl 2 rfl) ?_
                      refine px_goV (st1 := [.int (b2i (decide (6000 ≤ rN r)))]) (px_callV F hK (c_X6_isFull l D cy A G r _ _ _ (by omega)) kc_X6_isFull kw_methodLink_RX6_61 rfl hR (m_recv hK hR) rfl ⟨rfl, rfl⟩ ⟨Nat.le_of_ble_eq_true rfl, Nat.le_of_ble_eq_true rfl⟩ hl.1 rfl (Nat.le_of_ble_eq_true rfl) dX6_deep_117 ⟨Nat.zero_le _, Nat.zero_le _⟩) rfl ?_
                      refine x_ifeq_b (tgt := 126) hx hb dX6_deep_120 (by decide) (fun h_120 => ?_) (fun h_120 => ?_)
                      · have h_120 : ¬ (6000 ≤ rN r) := of_decide_eq_false h_120
                        refine lv_iload hx hb dX6_deep_126 (lv_at hl 1 rfl) ?_
                        refine lv_if_eq (tgt := 136) hx hb dX6_deep_128 (by decide) (fun _ => ?_) (fun h => absurd h (by decide))
                        obtain ⟨cn, hl_cn, hh_cn, rfl⟩ := f_in_nat h_4 0 15 (by decide) (by decide) (by decide) (by decide)
                        have hTN := hI.2.1
                        have hKK := hI.1
                        have hrk := rkN_le kn
                        refine lv_aload_n hx hb dX6_deep_136 rfl (lv_at hl 2 rfl) ?_
                        refine lv_iload_n hx hb dX6_deep_137 rfl (lv_at hl 4 rfl) ?_
                        refine lv_iload_n hx hb dX6_deep_138 rfl (lv_at hl 5 rfl) ?_
                        refine px_goMx (st1 := [.int (nI ((rT r) + 1))]) (px_callV F hK (c_X6_table l D cy A G r _ _ _ kn nn (show (rT r) + 1 < 13000 by omega) (show (rN r) + nn ≤ 12200 by omega) (by omega) (by omega)) kc_X6_table kw_methodLink_RX6_69 rfl hR (m_recv hK hR) rfl ⟨rfl, rfl⟩ ⟨Nat.le_of_ble_eq_true rfl, Nat.le_of_ble_eq_true rfl⟩ hl.1 rfl (Nat.le_of_ble_eq_true rfl) dX6_deep_139 ⟨Nat.zero_le _, Nat.zero_le _⟩) hS rfl (fun H locs hR hS => ?_)
                        refine lv_istore (lv' := [(8, .int (nI ((rT r) + 1))), (7, .int (nI ((nn * m0) * l0))), (6, .int 0), (0, .ref (G 0)), (1, .int (nI cn)), (2, .int (nI kn)), (3, .int (nI nn)), (4, .int (nI m0)), (5, .int (nI l0))]) hx hb dX6_deep_142 hl (by decide) rfl (fun ls hl => ?_)
                        refine lv_iconst (v := 0) hx hb dX6_deep_144 (by decide) ?_
                        refine lv_istore (lv' := [(9, .int 0), (8, .int (nI ((rT r) + 1))), (7, .int (nI ((nn * m0) * l0))), (6, .int 0), (0, .ref (G 0)), (1, .int (nI cn)), (2, .int (nI kn)), (3, .int (nI nn)), (4, .int (nI m0)), (5, .int (nI l0))]) hx hb dX6_deep_145 hl (by decide) rfl (fun ls hl => ?_)
                        have loop : ∀ (d9 i9 : Nat), i9 + d9 = nn → ∀ (H : Heap) (locs : List Loc) (ls : Array Slot), MR D cy A G (dp_out kn m0 l0 (rT r + 1) (f_table r kn nn) i9) (C) (E) H → va_S A s.heap H locs → lv_has ls 13 [(9, .int (nI i9)), (8, .int (nI ((rT r) + 1))), (0, .ref (G 0)), (1, .int (nI cn)), (2, .int (nI kn)), (3, .int (nI nn)), (4, .int (nI m0)), (5, .int (nI l0))] → W p l e (rmd 3 0 0) s m ([.ref (G 0), .int (nI cn), .int (nI kn), .int (nI nn), .int (nI m0), .int (nI l0)] : List Value).toArray below meth c H locs 0 0 (MQ below (px_Q (px_M D cy A G (some (.int (f_deep r (nI cn) (nI kn) (nI nn) (nI m0) (nI l0)).2)) ((f_deep r (nI cn) (nI kn) (nI nn) (nI m0) (nI l0)).1)) A) ([.ref (G 0), .int (nI cn), .int (nI kn), .int (nI nn), .int (nI m0), .int (nI l0)] : List Value).toArray s 0 0 A) (F0 m 147 ls []) := by
                          intro d9
                          induction d9 with
                          | zero =>
                            intro i9 hi9 H locs ls hR hS hl
                            refine lv_iload hx hb dX6_deep_147 (lv_at hl 0 rfl) ?_
                            refine lv_iload_n hx hb dX6_deep_149 rfl (lv_at hl 5 rfl) ?_
                            refine lv_icmp_ge (tgt := 224) hx hb dX6_deep_150 (by decide) (fun h_150 => ?_) (fun h_150 => by exfalso; have h_150 : i9 < nn := nInle (show ¬ nI nn ≤ nI i9 from h_150) (by omega) (by omega); omega)
                            have h_150 : nn ≤ i9 := nIle (show nI nn ≤ nI i9 from h_150) (by omega) (by omega)
                            refine lv_aload_n hx hb dX6_deep_224 rfl (lv_at hl 2 rfl) ?_
                            refine m_get F hK hR 9 (by decide) rfl kw_fieldLink_RX6_31 dX6_deep_225 ?_
                            refine lv_iload_n hx hb dX6_deep_228 rfl (lv_at hl 3 rfl) ?_
                            refine lv_iload hx hb dX6_deep_229 (lv_at hl 1 rfl) ?_
                            refine m_stHd F hK hR hS cn ((rT r) + 1) rfl rfl (by omega) dX6_deep_231 (fun H locs hR hS => ?_)
                            refine lv_iconst (v := 1) hx hb dX6_deep_232 (by decide) ?_
                            have hin9 : i9 = nn := (by omega)
                            exact px_iret F hr hlocks hS (by have e : f_deep r (nI cn) (nI kn) (nI nn) (nI m0) (nI l0) = (sHd (dp_out kn m0 l0 (rT r + 1) (f_table r kn nn) i9) (va_up (rHd (dp_out kn m0 l0 (rT r + 1) (f_table r kn nn) i9)) cn ((rT r) + 1)), 1) := (by rw [hin9, dp_out_Hd]; simp only [f_deep, f_deepT, ix_nI (show kn < 2 ^ 31 by omega), ix_nI (show nn < 2 ^ 31 by omega), ix_nI (show m0 < 2 ^ 31 by omega), ix_nI (show l0 < 2 ^ 31 by omega), ix_nI (show cn < 2 ^ 31 by omega)]; simp [h_4, h_15, hk13e, h_21, h_28, h_41, h_48, h_53, h_64, hbel, hprod, h400, h_120] <;> rfl); rw [e]; exact ⟨rfl, _, _, hR⟩) dX6_deep_233
                          | succ d9 ih_loop =>
                            intro i9 hi9 H locs ls hR hS hl
                            refine lv_iload hx hb dX6_deep_147 (lv_at hl 0 rfl) ?_
                            refine lv_iload_n hx hb dX6_deep_149 rfl (lv_at hl 5 rfl) ?_
                            refine lv_icmp_ge (tgt := 224) hx hb dX6_deep_150 (by decide) (fun h_150 => by exfalso; have h_150 : nn ≤ i9 := nIle (show nI nn ≤ nI i9 from h_150) (by omega) (by omega); omega) (fun h_150 => ?_)
                            have h_150 : i9 < nn := nInle (show ¬ nI nn ≤ nI i9 from h_150) (by omega) (by omega)
                            have hoT : rT (dp_out kn m0 l0 (rT r + 1) (f_table r kn nn) i9) = rT r + 1 + i9 * (1 + dpy kn m0) := dp_out_T _ _ _ _ _ _
                            have hoN : rN (dp_out kn m0 l0 (rT r + 1) (f_table r kn nn) i9) = rN r + nn + i9 * (m0 + dpx kn m0 l0) := dp_out_N _ _ _ _ _ _
                            have hoS : rS (dp_out kn m0 l0 (rT r + 1) (f_table r kn nn) i9) (rT r + 1) = rN r := (dp_out_S _ _ _ _ _ (show rT r + 1 ≤ rT r + 1 from Nat.le_refl _) _).trans (tb_Sn r kn nn)
                            have hbb := dp_bd (kd := kn) (l := l0) hh_nn hh_m0 (fun _ => by omega) (show i9 ≤ nn by omega) (fun _ => by omega)
                            refine lv_aload_n hx hb dX6_deep_153 rfl (lv_at hl 2 rfl) ?_
                            refine lv_iload_n hx hb dX6_deep_154 rfl (lv_at hl 4 rfl) ?_
                            refine px_goV (st1 := [.int (nI (rkN kn)), .ref (G 0)]) (px_callS F hK (c_X6_rowKind l D cy _ kn (by omega)) kc_X6_rowKind kw_methodLink_RX6_73 rfl trivial rfl ⟨rfl, rfl⟩ ⟨Nat.le_of_ble_eq_true rfl, Nat.le_of_ble_eq_true rfl⟩ hl.1 rfl (Nat.le_of_ble_eq_true rfl) dX6_deep_155 ⟨Nat.zero_le _, Nat.zero_le _⟩) rfl ?_
                            refine lv_iload hx hb dX6_deep_158 (lv_at hl 6 rfl) ?_
                            refine px_goMx (st1 := [.int (nI ((rT (dp_out kn m0 l0 (rT r + 1) (f_table r kn nn) i9)) + 1))]) (px_callV F hK (c_X6_table l D cy A G (dp_out kn m0 l0 (rT r + 1) (f_table r kn nn) i9) _ _ _ (rkN kn) m0 (show (rT (dp_out kn m0 l0 (rT r + 1) (f_table r kn nn) i9)) + 1 < 13000 by omega) (show (rN (dp_out kn m0 l0 (rT r + 1) (f_table r kn nn) i9)) + m0 ≤ 12200 by omega) (by omega) (by omega)) kc_X6_table kw_methodLink_RX6_69 rfl hR (m_recv hK hR) rfl ⟨rfl, rfl⟩ ⟨Nat.le_of_ble_eq_true rfl, Nat.le_of_ble_eq_true rfl⟩ hl.1 rfl (Nat.le_of_ble_eq_true rfl) dX6_deep_160 ⟨Nat.zero_le _, Nat.zero_le _⟩) hS rfl (fun H locs hR hS => ?_)
                            refine lv_istore (lv' := [(10, .int (nI ((rT (dp_out kn m0 l0 (rT r + 1) (f_table r kn nn) i9)) + 1))), (9, .int (nI i9)), (8, .int (nI ((rT r) + 1))), (0, .ref (G 0)), (1, .int (nI cn)), (2, .int (nI kn)), (3, .int (nI nn)), (4, .int (nI m0)), (5, .int (nI l0))]) hx hb dX6_deep_163 hl (by decide) rfl (fun ls hl => ?_)
                            have hs1 : rS (f_table (dp_out kn m0 l0 (rT r + 1) (f_table r kn nn) i9) (rkN kn) m0) (rT r + 1) = rN r := (tb_S _ _ _ (by omega)).trans hoS
                            refine lv_aload_n hx hb dX6_deep_165 rfl (lv_at hl 3 rfl) ?_
                            refine lv_iload hx hb dX6_deep_166 (lv_at hl 2 rfl) ?_
                            refine lv_iload hx hb dX6_deep_168 (lv_at hl 1 rfl) ?_
                            refine lv_iload hx hb dX6_deep_170 (lv_at hl 0 rfl) ?_
                            refine lv_i2l (v := lN ((rT (dp_out kn m0 l0 (rT r + 1) (f_table r kn nn) i9)) + 1)) hx hb dX6_deep_172 (nI_l (n := ((rT (dp_out kn m0 l0 (rT r + 1) (f_table r kn nn) i9)) + 1)) (by omega)) ?_
                            refine px_goMx (st1 := []) (px_callV F hK (c_X6_put l D cy A G (f_table (dp_out kn m0 l0 (rT r + 1) (f_table r kn nn) i9) (rkN kn) m0) _ _ _ ((rT r) + 1) i9 (lN ((rT (dp_out kn m0 l0 (rT r + 1) (f_table r kn nn) i9)) + 1)) (by omega) (show rS (f_table (dp_out kn m0 l0 (rT r + 1) (f_table r kn nn) i9) (rkN kn) m0) ((rT r) + 1) + i9 < 12200 by omega)) kc_X6_put kw_methodLink_RX6_76 rfl hR (m_recv hK hR) rfl ⟨rfl, rfl⟩ ⟨Nat.le_of_ble_eq_true rfl, Nat.le_of_ble_eq_true rfl⟩ hl.1 rfl (Nat.le_of_ble_eq_true rfl) dX6_deep_173 ⟨Nat.zero_le _, Nat.zero_le _⟩) hS rfl (fun H locs hR hS => ?_)
                            refine lv_iconst (v := 0) hx hb dX6_deep_176 (by decide) ?_
                            refine lv_istore (lv' := [(11, .int 0), (10, .int (nI ((rT (dp_out kn m0 l0 (rT r + 1) (f_table r kn nn) i9)) + 1))), (9, .int (nI i9)), (8, .int (nI ((rT r) + 1))), (0, .ref (G 0)), (1, .int (nI cn)), (2, .int (nI kn)), (3, .int (nI nn)), (4, .int (nI m0)), (5, .int (nI l0))]) hx hb dX6_deep_177 hl (by decide) rfl (fun ls hl => ?_)
                            have loop2 : ∀ (e9 j9 : Nat), j9 + e9 = m0 → ∀ (H : Heap) (locs : List Loc) (ls : Array Slot), MR D cy A G (dp_in (rT (dp_out kn m0 l0 (rT r + 1) (f_table r kn nn) i9) + 1) l0 (f_put (f_table (dp_out kn m0 l0 (rT r + 1) (f_table r kn nn) i9) (rkN kn) m0) ((rT r) + 1) i9 (lN ((rT (dp_out kn m0 l0 (rT r + 1) (f_table r kn nn) i9)) + 1))) j9) (C) (E) H → va_S A s.heap H locs → lv_has ls 13 [(11, .int (nI j9)), (10, .int (nI ((rT (dp_out kn m0 l0 (rT r + 1) (f_table r kn nn) i9)) + 1))), (9, .int (nI i9)), (8, .int (nI ((rT r) + 1))), (0, .ref (G 0)), (1, .int (nI cn)), (2, .int (nI kn)), (3, .int (nI nn)), (4, .int (nI m0)), (5, .int (nI l0))] → W p l e (rmd 3 0 0) s m ([.ref (G 0), .int (nI cn), .int (nI kn), .int (nI nn), .int (nI m0), .int (nI l0)] : List Value).toArray below meth c H locs 0 0 (MQ below (px_Q (px_M D cy A G (some (.int (f_deep r (nI cn) (nI kn) (nI nn) (nI m0) (nI l0)).2)) ((f_deep r (nI cn) (nI kn) (nI nn) (nI m0) (nI l0)).1)) A) ([.ref (G 0), .int (nI cn), .int (nI kn), .int (nI nn), .int (nI m0), .int (nI l0)] : List Value).toArray s 0 0 A) (F0 m 179 ls []) := by
                              intro e9
                              induction e9 with
                              | zero =>
                                intro j9 hj9 H locs ls hR hS hl
                                refine lv_iload hx hb dX6_deep_179 (lv_at hl 0 rfl) ?_
                                refine lv_iload hx hb dX6_deep_181 (lv_at hl 8 rfl) ?_
                                refine lv_icmp_ge (tgt := 218) hx hb dX6_deep_183 (by decide) (fun h_183 => ?_) (fun h_183 => by exfalso; have h_183 : j9 < m0 := nInle (show ¬ nI m0 ≤ nI j9 from h_183) (by omega) (by omega); omega)
                                have h_183 : m0 ≤ j9 := nIle (show nI m0 ≤ nI j9 from h_183) (by omega) (by omega)
                                have hj9 : j9 = m0 := (by omega)
                                refine lv_iinc (v := nI (i9 + 1)) (lv' := [(9, .int (nI (i9 + 1))), (11, .int (nI j9)), (10, .int (nI ((rT (dp_out kn m0 l0 (rT r + 1) (f_table r kn nn) i9)) + 1))), (8, .int (nI ((rT r) + 1))), (0, .ref (G 0)), (1, .int (nI cn)), (2, .int (nI kn)), (3, .int (nI nn)), (4, .int (nI m0)), (5, .int (nI l0))]) hx hb dX6_deep_218 hl (k := 2) rfl (by show nI i9 + 1 = nI (i9 + 1); exact nI_1 _) (by decide) rfl (fun ls hl => ?_)
                                refine lv_goto (tgt := 147) hx hb dX6_deep_221 (by decide) ?_
                                exact ih_loop (i9 + 1) (by omega) _ _ _ (by rw [dp_out, dp_row, if_pos h13]; rw [hj9] at hR; exact hR) hS (lv_sub hl [0, 3, 4, 5, 6, 7, 8, 9] rfl)
                              | succ e9 ih_loop2 =>
                                intro j9 hj9 H locs ls hR hS hl
                                refine lv_iload hx hb dX6_deep_179 (lv_at hl 0 rfl) ?_
                                refine lv_iload hx hb dX6_deep_181 (lv_at hl 8 rfl) ?_
                                refine lv_icmp_ge (tgt := 218) hx hb dX6_deep_183 (by decide) (fun h_183 => by exfalso; have h_183 : m0 ≤ j9 := nIle (show nI m0 ≤ nI j9 from h_183) (by omega) (by omega); omega) (fun h_183 => ?_)
                                have h_183 : j9 < m0 := nInle (show ¬ nI m0 ≤ nI j9 from h_183) (by omega) (by omega)
                                refine lv_iload_n hx hb dX6_deep_186 rfl (lv_at hl 6 rfl) ?_
                                refine lv_bipush (v := 13) hx hb dX6_deep_187 (by decide) ?_
                                refine lv_icmp_ne (tgt := 218) hx hb dX6_deep_189 (by decide) (fun h_189 => by exfalso; have h_189 : ¬ kn = 13 := nIne (show ¬ nI kn = nI 13 from h_189); omega) (fun h_189 => ?_)
                                have h_189 : kn = 13 := nIeq (show nI kn = nI 13 from h_189) (by omega) (by omega)
                                have hjT : rT (dp_in (rT (dp_out kn m0 l0 (rT r + 1) (f_table r kn nn) i9) + 1) l0 (f_put (f_table (dp_out kn m0 l0 (rT r + 1) (f_table r kn nn) i9) (rkN kn) m0) ((rT r) + 1) i9 (lN ((rT (dp_out kn m0 l0 (rT r + 1) (f_table r kn nn) i9)) + 1))) j9) = rT (dp_out kn m0 l0 (rT r + 1) (f_table r kn nn) i9) + 1 + j9 := dp_in_T _ _ _ _
                                have hjN : rN (dp_in (rT (dp_out kn m0 l0 (rT r + 1) (f_table r kn nn) i9) + 1) l0 (f_put (f_table (dp_out kn m0 l0 (rT r + 1) (f_table r kn nn) i9) (rkN kn) m0) ((rT r) + 1) i9 (lN ((rT (dp_out kn m0 l0 (rT r + 1) (f_table r kn nn) i9)) + 1))) j9) = rN (dp_out kn m0 l0 (rT r + 1) (f_table r kn nn) i9) + m0 + j9 * l0 := dp_in_N _ _ _ _
                                have hjl : j9 * l0 ≤ 900 := Nat.le_trans (Nat.mul_le_mul (show j9 ≤ 30 by omega) hh_l0) (by decide)
                                refine lv_aload_n hx hb dX6_deep_192 rfl (lv_at hl 4 rfl) ?_
                                refine lv_iconst (v := 4) hx hb dX6_deep_193 (by decide) ?_
                                refine lv_iload hx hb dX6_deep_194 (lv_at hl 9 rfl) ?_
                                refine px_goMx (st1 := [.int (nI ((rT (dp_in (rT (dp_out kn m0 l0 (rT r + 1) (f_table r kn nn) i9) + 1) l0 (f_put (f_table (dp_out kn m0 l0 (rT r + 1) (f_table r kn nn) i9) (rkN kn) m0) ((rT r) + 1) i9 (lN ((rT (dp_out kn m0 l0 (rT r + 1) (f_table r kn nn) i9)) + 1))) j9)) + 1))]) (px_callV F hK (c_X6_table l D cy A G (dp_in (rT (dp_out kn m0 l0 (rT r + 1) (f_table r kn nn) i9) + 1) l0 (f_put (f_table (dp_out kn m0 l0 (rT r + 1) (f_table r kn nn) i9) (rkN kn) m0) ((rT r) + 1) i9 (lN ((rT (dp_out kn m0 l0 (rT r + 1) (f_table r kn nn) i9)) + 1))) j9) _ _ _ 4 l0 (show (rT (dp_in (rT (dp_out kn m0 l0 (rT r + 1) (f_table r kn nn) i9) + 1) l0 (f_put (f_table (dp_out kn m0 l0 (rT r + 1) (f_table r kn nn) i9) (rkN kn) m0) ((rT r) + 1) i9 (lN ((rT (dp_out kn m0 l0 (rT r + 1) (f_table r kn nn) i9)) + 1))) j9)) + 1 < 13000 by omega) (show (rN (dp_in (rT (dp_out kn m0 l0 (rT r + 1) (f_table r kn nn) i9) + 1) l0 (f_put (f_table (dp_out kn m0 l0 (rT r + 1) (f_table r kn nn) i9) (rkN kn) m0) ((rT r) + 1) i9 (lN ((rT (dp_out kn m0 l0 (rT r + 1) (f_table r kn nn) i9)) + 1))) j9)) + l0 ≤ 12200 by omega) (by omega) (by omega)) kc_X6_table kw_methodLink_RX6_69 rfl hR (m_recv hK hR) rfl ⟨rfl, rfl⟩ ⟨Nat.le_of_ble_eq_true rfl, Nat.le_of_ble_eq_true rfl⟩ hl.1 rfl (Nat.le_of_ble_eq_true rfl) dX6_deep_196 ⟨Nat.zero_le _, Nat.zero_le _⟩) hS rfl (fun H locs hR hS => ?_)
                                have hs2 : rS (f_table (dp_in (rT (dp_out kn m0 l0 (rT r + 1) (f_table r kn nn) i9) + 1) l0 (f_put (f_table (dp_out kn m0 l0 (rT r + 1) (f_table r kn nn) i9) (rkN kn) m0) ((rT r) + 1) i9 (lN ((rT (dp_out kn m0 l0 (rT r + 1) (f_table r kn nn) i9)) + 1))) j9) 4 l0) (rT (dp_out kn m0 l0 (rT r + 1) (f_table r kn nn) i9) + 1) = rN (dp_out kn m0 l0 (rT r + 1) (f_table r kn nn) i9) := (tb_S _ _ _ (by rw [dp_in_T]; exact Nat.le_add_right _ _)).trans ((dp_in_S _ _ _ (Nat.le_refl _) _).trans (tb_Sn (dp_out kn m0 l0 (rT r + 1) (f_table r kn nn) i9) (rkN kn) m0))
                                refine lv_istore (lv' := [(12, .int (nI ((rT (dp_in (rT (dp_out kn m0 l0 (rT r + 1) (f_table r kn nn) i9) + 1) l0 (f_put (f_table (dp_out kn m0 l0 (rT r + 1) (f_table r kn nn) i9) (rkN kn) m0) ((rT r) + 1) i9 (lN ((rT (dp_out kn m0 l0 (rT r + 1) (f_table r kn nn) i9)) + 1))) j9)) + 1))), (11, .int (nI j9)), (10, .int (nI ((rT (dp_out kn m0 l0 (rT r + 1) (f_table r kn nn) i9)) + 1))), (9, .int (nI i9)), (8, .int (nI ((rT r) + 1))), (0, .ref (G 0)), (1, .int (nI cn)), (2, .int (nI kn)), (3, .int (nI nn)), (4, .int (nI m0)), (5, .int (nI l0))]) hx hb dX6_deep_199 hl (by decide) rfl (fun ls hl => ?_)
                                refine lv_aload_n hx hb dX6_deep_201 rfl (lv_at hl 5 rfl) ?_
                                refine lv_iload hx hb dX6_deep_202 (lv_at hl 2 rfl) ?_
                                refine lv_iload hx hb dX6_deep_204 (lv_at hl 1 rfl) ?_
                                refine lv_iload hx hb dX6_deep_206 (lv_at hl 0 rfl) ?_
                                refine lv_i2l (v := lN ((rT (dp_in (rT (dp_out kn m0 l0 (rT r + 1) (f_table r kn nn) i9) + 1) l0 (f_put (f_table (dp_out kn m0 l0 (rT r + 1) (f_table r kn nn) i9) (rkN kn) m0) ((rT r) + 1) i9 (lN ((rT (dp_out kn m0 l0 (rT r + 1) (f_table r kn nn) i9)) + 1))) j9)) + 1)) hx hb dX6_deep_208 (nI_l (n := ((rT (dp_in (rT (dp_out kn m0 l0 (rT r + 1) (f_table r kn nn) i9) + 1) l0 (f_put (f_table (dp_out kn m0 l0 (rT r + 1) (f_table r kn nn) i9) (rkN kn) m0) ((rT r) + 1) i9 (lN ((rT (dp_out kn m0 l0 (rT r + 1) (f_table r kn nn) i9)) + 1))) j9)) + 1)) (by omega)) ?_
                                refine px_goMx (st1 := []) (px_callV F hK (c_X6_put l D cy A G (f_table (dp_in (rT (dp_out kn m0 l0 (rT r + 1) (f_table r kn nn) i9) + 1) l0 (f_put (f_table (dp_out kn m0 l0 (rT r + 1) (f_table r kn nn) i9) (rkN kn) m0) ((rT r) + 1) i9 (lN ((rT (dp_out kn m0 l0 (rT r + 1) (f_table r kn nn) i9)) + 1))) j9) 4 l0) _ _ _ ((rT (dp_out kn m0 l0 (rT r + 1) (f_table r kn nn) i9)) + 1) j9 (lN ((rT (dp_in (rT (dp_out kn m0 l0 (rT r + 1) (f_table r kn nn) i9) + 1) l0 (f_put (f_table (dp_out kn m0 l0 (rT r + 1) (f_table r kn nn) i9) (rkN kn) m0) ((rT r) + 1) i9 (lN ((rT (dp_out kn m0 l0 (rT r + 1) (f_table r kn nn) i9)) + 1))) j9)) + 1)) (by omega) (show rS (f_table (dp_in (rT (dp_out kn m0 l0 (rT r + 1) (f_table r kn nn) i9) + 1) l0 (f_put (f_table (dp_out kn m0 l0 (rT r + 1) (f_table r kn nn) i9) (rkN kn) m0) ((rT r) + 1) i9 (lN ((rT (dp_out kn m0 l0 (rT r + 1) (f_table r kn nn) i9)) + 1))) j9) 4 l0) ((rT (dp_out kn m0 l0 (rT r + 1) (f_table r kn nn) i9)) + 1) + j9 < 12200 by omega)) kc_X6_put kw_methodLink_RX6_76 rfl hR (m_recv hK hR) rfl ⟨rfl, rfl⟩ ⟨Nat.le_of_ble_eq_true rfl, Nat.le_of_ble_eq_true rfl⟩ hl.1 rfl (Nat.le_of_ble_eq_true rfl) dX6_deep_209 ⟨Nat.zero_le _, Nat.zero_le _⟩) hS rfl (fun H locs hR hS => ?_)
                                refine lv_iinc (v := nI (j9 + 1)) (lv' := [(11, .int (nI (j9 + 1))), (12, .int (nI ((rT (dp_in (rT (dp_out kn m0 l0 (rT r + 1) (f_table r kn nn) i9) + 1) l0 (f_put (f_table (dp_out kn m0 l0 (rT r + 1) (f_table r kn nn) i9) (rkN kn) m0) ((rT r) + 1) i9 (lN ((rT (dp_out kn m0 l0 (rT r + 1) (f_table r kn nn) i9)) + 1))) j9)) + 1))), (10, .int (nI ((rT (dp_out kn m0 l0 (rT r + 1) (f_table r kn nn) i9)) + 1))), (9, .int (nI i9)), (8, .int (nI ((rT r) + 1))), (0, .ref (G 0)), (1, .int (nI cn)), (2, .int (nI kn)), (3, .int (nI nn)), (4, .int (nI m0)), (5, .int (nI l0))]) hx hb dX6_deep_212 hl (k := 1) rfl (by show nI j9 + 1 = nI (j9 + 1); exact nI_1 _) (by decide) rfl (fun ls hl => ?_)
                                refine lv_goto (tgt := 179) hx hb dX6_deep_215 (by decide) ?_
                                exact ih_loop2 (j9 + 1) (by omega) _ _ _ hR hS (lv_sub hl [0, 2, 3, 4, 5, 6, 7, 8, 9, 10] rfl)
                            exact loop2 m0 0 (by omega) _ _ _ hR hS (lv_sub hl [0, 1, 2, 3, 4, 5, 6, 7, 8, 9] rfl)
                        exact loop nn 0 (by omega) _ _ _ hR hS (lv_sub hl [0, 1, 4, 5, 6, 7, 8, 9] rfl)
                      · have h_120 : 6000 ≤ rN r := of_decide_eq_true h_120
                        refine lv_bipush (v := -3) hx hb dX6_deep_123 (by decide) ?_
                        exact px_iret F hr hlocks hS (by have e : f_deep r cl (nI kn) (nI nn) (nI m0) (nI l0) = (r, (-3)) := (by simp [f_deep, h_4, h_15, hk13e, h_21, h_28, h_41, h_48, h_53, h_64, hbel, hprod, h400, h_120, ix_nI (show kn < 2 ^ 31 by omega), ix_nI (show nn < 2 ^ 31 by omega), ix_nI (show m0 < 2 ^ 31 by omega), ix_nI (show l0 < 2 ^ 31 by omega)] <;> rfl); rw [e]; exact ⟨rfl, _, _, hR⟩) dX6_deep_125
                    · have h_110 : 400 < ((nn * m0) * l0) := nInle (show ¬ nI ((nn * m0) * l0) ≤ nI 400 from h_110) (by omega) (by omega)
                      have h400 : (400 : Int32) < nI (nn * m0 * l0) := nI_lt (a := 400) (by omega) (by omega)
                      refine lv_bipush (v := -2) hx hb dX6_deep_113 (by decide) ?_
                      exact px_iret F hr hlocks hS (by have e : f_deep r cl (nI kn) (nI nn) (nI m0) (nI l0) = (r, (-2)) := (by simp [f_deep, h_4, h_15, hk13e, h_21, h_28, h_41, h_48, h_53, h_64, hbel, hprod, h400, ix_nI (show kn < 2 ^ 31 by omega), ix_nI (show nn < 2 ^ 31 by omega), ix_nI (show m0 < 2 ^ 31 by omega), ix_nI (show l0 < 2 ^ 31 by omega)] <;> rfl); rw [e]; exact ⟨rfl, _, _, hR⟩) dX6_deep_115
                  · have h_64 : ll < 0 := Int32.not_le.mp h_64
                    have hbel : f_below (nI kn) n mm ll = true := (by simp [f_below, hk13e, h_48, h_53, h_64])
                    have hprod : f_prod (nI kn) n mm ll = 0 := (by simp [f_prod, hbel])
                    refine lv_iconst (v := 1) hx hb dX6_deep_67 (by decide) ?_
                    refine lv_goto (tgt := 72) hx hb dX6_deep_68 (by decide) ?_
                    refine lv_istore (lv' := [(6, .int 1), (0, .ref (G 0)), (1, .int cl), (2, .int (nI kn)), (3, .int n), (4, .int mm), (5, .int ll)]) hx hb dX6_deep_72 hl (by decide) rfl (fun ls hl => ?_)
                    refine lv_iload hx hb dX6_deep_74 (lv_at hl 0 rfl) ?_
                    refine lv_if_eq (tgt := 83) hx hb dX6_deep_76 (by decide) (fun h => absurd h (by decide)) (fun _ => ?_)
                    refine lv_iconst (v := 0) hx hb dX6_deep_79 (by decide) ?_
                    refine lv_goto (tgt := 103) hx hb dX6_deep_80 (by decide) ?_
                    refine lv_istore (lv' := [(7, .int 0), (6, .int 1), (0, .ref (G 0)), (1, .int cl), (2, .int (nI kn)), (3, .int n), (4, .int mm), (5, .int ll)]) hx hb dX6_deep_103 hl (by decide) rfl (fun ls hl => ?_)
                    refine lv_iload hx hb dX6_deep_105 (lv_at hl 0 rfl) ?_
                    refine lv_sipush (v := 400) hx hb dX6_deep_107 (by decide) ?_
                    refine lv_icmp_le (tgt := 116) hx hb dX6_deep_110 (by decide) (fun _ => ?_) (fun h => absurd h (by decide))
                    refine lv_aload_n hx hb dX6_deep_116 rfl (lv_at hl 2 rfl) ?_
                    refine px_goV (st1 := [.int (b2i (decide (6000 ≤ rN r)))]) (px_callV F hK (c_X6_isFull l D cy A G r _ _ _ (by omega)) kc_X6_isFull kw_methodLink_RX6_61 rfl hR (m_recv hK hR) rfl ⟨rfl, rfl⟩ ⟨Nat.le_of_ble_eq_true rfl, Nat.le_of_ble_eq_true rfl⟩ hl.1 rfl (Nat.le_of_ble_eq_true rfl) dX6_deep_117 ⟨Nat.zero_le _, Nat.zero_le _⟩) rfl ?_
                    refine x_ifeq_b (tgt := 126) hx hb dX6_deep_120 (by decide) (fun h_120 => ?_) (fun h_120 => ?_)
                    · have h_120 : ¬ (6000 ≤ rN r) := of_decide_eq_false h_120
                      refine lv_iload hx hb dX6_deep_126 (lv_at hl 1 rfl) ?_
                      refine lv_if_eq (tgt := 136) hx hb dX6_deep_128 (by decide) (fun h => absurd h (by decide)) (fun _ => ?_)
                      refine lv_iconst (v := 4) hx hb dX6_deep_131 (by decide) ?_
                      refine px_goV (st1 := [.int (-14)]) (px_callS F hK (c_X6_answer l D cy _ 4) kc_X6_answer kw_methodLink_RX6_65 rfl trivial rfl ⟨rfl, rfl⟩ ⟨Nat.le_of_ble_eq_true rfl, Nat.le_of_ble_eq_true rfl⟩ hl.1 rfl (Nat.le_of_ble_eq_true rfl) dX6_deep_132 ⟨Nat.zero_le _, Nat.zero_le _⟩) rfl ?_
                      exact px_iret F hr hlocks hS (by have e : f_deep r cl (nI kn) n mm ll = (r, (-14)) := (by simp [f_deep, h_4, h_15, hk13e, h_21, h_28, h_41, h_48, h_53, h_64, hbel, hprod, h_120, ix_nI (show kn < 2 ^ 31 by omega)] <;> rfl); rw [e]; exact ⟨rfl, _, _, hR⟩) dX6_deep_135
                    · have h_120 : 6000 ≤ rN r := of_decide_eq_true h_120
                      refine lv_bipush (v := -3) hx hb dX6_deep_123 (by decide) ?_
                      exact px_iret F hr hlocks hS (by have e : f_deep r cl (nI kn) n mm ll = (r, (-3)) := (by simp [f_deep, h_4, h_15, hk13e, h_21, h_28, h_41, h_48, h_53, h_64, hbel, hprod, h_120, ix_nI (show kn < 2 ^ 31 by omega)] <;> rfl); rw [e]; exact ⟨rfl, _, _, hR⟩) dX6_deep_125
            · have h_41 : 30 < ll := Int32.not_le.mp h_41
              refine lv_bipush (v := -2) hx hb dX6_deep_44 (by decide) ?_
              exact px_iret F hr hlocks hS (by have e : f_deep r cl (nI kn) n mm ll = (r, (-2)) := (by simp [f_deep, h_4, h_15, hk13e, h_21, h_28, h_41, ix_nI (show kn < 2 ^ 31 by omega)] <;> rfl); rw [e]; exact ⟨rfl, _, _, hR⟩) dX6_deep_46
      · have hk13 : ¬ nI kn = 13 := (by intro q; exact h13 (nIeq (show nI kn = nI 13 from q) (by omega) (by omega)))
        have hk13e : (nI kn = 13) = False := eq_false hk13
        refine lv_iload_n hx hb dX6_deep_18 rfl (lv_at hl 3 rfl) ?_
        refine lv_bipush (v := 30) hx hb dX6_deep_19 (by decide) ?_
        refine lv_icmp_gt (tgt := 44) hx hb dX6_deep_21 (by decide) (fun h_21 => ?_) (fun h_21 => ?_)
        · refine lv_bipush (v := -2) hx hb dX6_deep_44 (by decide) ?_
          exact px_iret F hr hlocks hS (by have e : f_deep r cl (nI kn) n mm ll = (r, (-2)) := (by simp [f_deep, h_4, h_15, hk13e, h_21, ix_nI (show kn < 2 ^ 31 by omega)] <;> rfl); rw [e]; exact ⟨rfl, _, _, hR⟩) dX6_deep_46
        · refine lv_iload hx hb dX6_deep_24 (lv_at hl 4 rfl) ?_
          refine lv_bipush (v := 30) hx hb dX6_deep_26 (by decide) ?_
          refine lv_icmp_gt (tgt := 44) hx hb dX6_deep_28 (by decide) (fun h_28 => ?_) (fun h_28 => ?_)
          · refine lv_bipush (v := -2) hx hb dX6_deep_44 (by decide) ?_
            exact px_iret F hr hlocks hS (by have e : f_deep r cl (nI kn) n mm ll = (r, (-2)) := (by simp [f_deep, h_4, h_15, hk13e, h_21, h_28, ix_nI (show kn < 2 ^ 31 by omega)] <;> rfl); rw [e]; exact ⟨rfl, _, _, hR⟩) dX6_deep_46
          · refine lv_iload_n hx hb dX6_deep_31 rfl (lv_at hl 2 rfl) ?_
            refine lv_bipush (v := 13) hx hb dX6_deep_32 (by decide) ?_
            refine lv_icmp_ne (tgt := 47) hx hb dX6_deep_34 (by decide) (fun h_34 => ?_) (fun h_34 => by exfalso; have h_34 : kn = 13 := nIeq (show nI kn = nI 13 from h_34) (by omega) (by omega); omega)
            have h_34 : ¬ kn = 13 := nIne (show ¬ nI kn = nI 13 from h_34)
            refine lv_iload_n hx hb dX6_deep_47 rfl (lv_at hl 3 rfl) ?_
            refine lv_if_lt (tgt := 67) hx hb dX6_deep_48 (by decide) (fun h_48 => ?_) (fun h_48 => ?_)
            · have hbel : f_below (nI kn) n mm ll = true := (by simp [f_below, hk13e, h_48])
              have hprod : f_prod (nI kn) n mm ll = 0 := (by simp [f_prod, hbel])
              refine lv_iconst (v := 1) hx hb dX6_deep_67 (by decide) ?_
              refine lv_goto (tgt := 72) hx hb dX6_deep_68 (by decide) ?_
              refine lv_istore (lv' := [(6, .int 1), (0, .ref (G 0)), (1, .int cl), (2, .int (nI kn)), (3, .int n), (4, .int mm), (5, .int ll)]) hx hb dX6_deep_72 hl (by decide) rfl (fun ls hl => ?_)
              refine lv_iload hx hb dX6_deep_74 (lv_at hl 0 rfl) ?_
              refine lv_if_eq (tgt := 83) hx hb dX6_deep_76 (by decide) (fun h => absurd h (by decide)) (fun _ => ?_)
              refine lv_iconst (v := 0) hx hb dX6_deep_79 (by decide) ?_
              refine lv_goto (tgt := 103) hx hb dX6_deep_80 (by decide) ?_
              refine lv_istore (lv' := [(7, .int 0), (6, .int 1), (0, .ref (G 0)), (1, .int cl), (2, .int (nI kn)), (3, .int n), (4, .int mm), (5, .int ll)]) hx hb dX6_deep_103 hl (by decide) rfl (fun ls hl => ?_)
              refine lv_iload hx hb dX6_deep_105 (lv_at hl 0 rfl) ?_
              refine lv_sipush (v := 400) hx hb dX6_deep_107 (by decide) ?_
              refine lv_icmp_le (tgt := 116) hx hb dX6_deep_110 (by decide) (fun _ => ?_) (fun h => absurd h (by decide))
              refine lv_aload_n hx hb dX6_deep_116 rfl (lv_at hl 2 rfl) ?_
              refine px_goV (st1 := [.int (b2i (decide (6000 ≤ rN r)))]) (px_callV F hK (c_X6_isFull l D cy A G r _ _ _ (by omega)) kc_X6_isFull kw_methodLink_RX6_61 rfl hR (m_recv hK hR) rfl ⟨rfl, rfl⟩ ⟨Nat.le_of_ble_eq_true rfl, Nat.le_of_ble_eq_true rfl⟩ hl.1 rfl (Nat.le_of_ble_eq_true rfl) dX6_deep_117 ⟨Nat.zero_le _, Nat.zero_le _⟩) rfl ?_
              refine x_ifeq_b (tgt := 126) hx hb dX6_deep_120 (by decide) (fun h_120 => ?_) (fun h_120 => ?_)
              · have h_120 : ¬ (6000 ≤ rN r) := of_decide_eq_false h_120
                refine lv_iload hx hb dX6_deep_126 (lv_at hl 1 rfl) ?_
                refine lv_if_eq (tgt := 136) hx hb dX6_deep_128 (by decide) (fun h => absurd h (by decide)) (fun _ => ?_)
                refine lv_iconst (v := 4) hx hb dX6_deep_131 (by decide) ?_
                refine px_goV (st1 := [.int (-14)]) (px_callS F hK (c_X6_answer l D cy _ 4) kc_X6_answer kw_methodLink_RX6_65 rfl trivial rfl ⟨rfl, rfl⟩ ⟨Nat.le_of_ble_eq_true rfl, Nat.le_of_ble_eq_true rfl⟩ hl.1 rfl (Nat.le_of_ble_eq_true rfl) dX6_deep_132 ⟨Nat.zero_le _, Nat.zero_le _⟩) rfl ?_
                exact px_iret F hr hlocks hS (by have e : f_deep r cl (nI kn) n mm ll = (r, (-14)) := (by simp [f_deep, h_4, h_15, hk13e, h_21, h_28, h_48, hbel, hprod, h_120, ix_nI (show kn < 2 ^ 31 by omega)] <;> rfl); rw [e]; exact ⟨rfl, _, _, hR⟩) dX6_deep_135
              · have h_120 : 6000 ≤ rN r := of_decide_eq_true h_120
                refine lv_bipush (v := -3) hx hb dX6_deep_123 (by decide) ?_
                exact px_iret F hr hlocks hS (by have e : f_deep r cl (nI kn) n mm ll = (r, (-3)) := (by simp [f_deep, h_4, h_15, hk13e, h_21, h_28, h_48, hbel, hprod, h_120, ix_nI (show kn < 2 ^ 31 by omega)] <;> rfl); rw [e]; exact ⟨rfl, _, _, hR⟩) dX6_deep_125
            · refine lv_iload hx hb dX6_deep_51 (lv_at hl 4 rfl) ?_
              refine lv_if_lt (tgt := 67) hx hb dX6_deep_53 (by decide) (fun h_53 => ?_) (fun h_53 => ?_)
              · have hbel : f_below (nI kn) n mm ll = true := (by simp [f_below, hk13e, h_48, h_53])
                have hprod : f_prod (nI kn) n mm ll = 0 := (by simp [f_prod, hbel])
                refine lv_iconst (v := 1) hx hb dX6_deep_67 (by decide) ?_
                refine lv_goto (tgt := 72) hx hb dX6_deep_68 (by decide) ?_
                refine lv_istore (lv' := [(6, .int 1), (0, .ref (G 0)), (1, .int cl), (2, .int (nI kn)), (3, .int n), (4, .int mm), (5, .int ll)]) hx hb dX6_deep_72 hl (by decide) rfl (fun ls hl => ?_)
                refine lv_iload hx hb dX6_deep_74 (lv_at hl 0 rfl) ?_
                refine lv_if_eq (tgt := 83) hx hb dX6_deep_76 (by decide) (fun h => absurd h (by decide)) (fun _ => ?_)
                refine lv_iconst (v := 0) hx hb dX6_deep_79 (by decide) ?_
                refine lv_goto (tgt := 103) hx hb dX6_deep_80 (by decide) ?_
                refine lv_istore (lv' := [(7, .int 0), (6, .int 1), (0, .ref (G 0)), (1, .int cl), (2, .int (nI kn)), (3, .int n), (4, .int mm), (5, .int ll)]) hx hb dX6_deep_103 hl (by decide) rfl (fun ls hl => ?_)
                refine lv_iload hx hb dX6_deep_105 (lv_at hl 0 rfl) ?_
                refine lv_sipush (v := 400) hx hb dX6_deep_107 (by decide) ?_
                refine lv_icmp_le (tgt := 116) hx hb dX6_deep_110 (by decide) (fun _ => ?_) (fun h => absurd h (by decide))
                refine lv_aload_n hx hb dX6_deep_116 rfl (lv_at hl 2 rfl) ?_
                refine px_goV (st1 := [.int (b2i (decide (6000 ≤ rN r)))]) (px_callV F hK (c_X6_isFull l D cy A G r _ _ _ (by omega)) kc_X6_isFull kw_methodLink_RX6_61 rfl hR (m_recv hK hR) rfl ⟨rfl, rfl⟩ ⟨Nat.le_of_ble_eq_true rfl, Nat.le_of_ble_eq_true rfl⟩ hl.1 rfl (Nat.le_of_ble_eq_true rfl) dX6_deep_117 ⟨Nat.zero_le _, Nat.zero_le _⟩) rfl ?_
                refine x_ifeq_b (tgt := 126) hx hb dX6_deep_120 (by decide) (fun h_120 => ?_) (fun h_120 => ?_)
                · have h_120 : ¬ (6000 ≤ rN r) := of_decide_eq_false h_120
                  refine lv_iload hx hb dX6_deep_126 (lv_at hl 1 rfl) ?_
                  refine lv_if_eq (tgt := 136) hx hb dX6_deep_128 (by decide) (fun h => absurd h (by decide)) (fun _ => ?_)
                  refine lv_iconst (v := 4) hx hb dX6_deep_131 (by decide) ?_
                  refine px_goV (st1 := [.int (-14)]) (px_callS F hK (c_X6_answer l D cy _ 4) kc_X6_answer kw_methodLink_RX6_65 rfl trivial rfl ⟨rfl, rfl⟩ ⟨Nat.le_of_ble_eq_true rfl, Nat.le_of_ble_eq_true rfl⟩ hl.1 rfl (Nat.le_of_ble_eq_true rfl) dX6_deep_132 ⟨Nat.zero_le _, Nat.zero_le _⟩) rfl ?_
                  exact px_iret F hr hlocks hS (by have e : f_deep r cl (nI kn) n mm ll = (r, (-14)) := (by simp [f_deep, h_4, h_15, hk13e, h_21, h_28, h_48, h_53, hbel, hprod, h_120, ix_nI (show kn < 2 ^ 31 by omega)] <;> rfl); rw [e]; exact ⟨rfl, _, _, hR⟩) dX6_deep_135
                · have h_120 : 6000 ≤ rN r := of_decide_eq_true h_120
                  refine lv_bipush (v := -3) hx hb dX6_deep_123 (by decide) ?_
                  exact px_iret F hr hlocks hS (by have e : f_deep r cl (nI kn) n mm ll = (r, (-3)) := (by simp [f_deep, h_4, h_15, hk13e, h_21, h_28, h_48, h_53, hbel, hprod, h_120, ix_nI (show kn < 2 ^ 31 by omega)] <;> rfl); rw [e]; exact ⟨rfl, _, _, hR⟩) dX6_deep_125
              · refine lv_iload_n hx hb dX6_deep_56 rfl (lv_at hl 2 rfl) ?_
                refine lv_bipush (v := 13) hx hb dX6_deep_57 (by decide) ?_
                refine lv_icmp_ne (tgt := 71) hx hb dX6_deep_59 (by decide) (fun h_59 => ?_) (fun h_59 => by exfalso; have h_59 : kn = 13 := nIeq (show nI kn = nI 13 from h_59) (by omega) (by omega); omega)
                have h_59 : ¬ kn = 13 := nIne (show ¬ nI kn = nI 13 from h_59)
                have hbel : f_below (nI kn) n mm ll = false := (by simp [f_below, hk13e, h_48, h_53])
                obtain ⟨nn, hh_nn, rfl⟩ := le_nat 30 h_48 h_21 (by decide) (by decide)
                obtain ⟨m0, hh_m0, rfl⟩ := le_nat 30 h_53 h_28 (by decide) (by decide)
                have hmul : nn * m0 ≤ 900 := Nat.le_trans (Nat.mul_le_mul hh_nn hh_m0) (by decide)
                have hprod : f_prod (nI kn) (nI nn) (nI m0) ll = nI (nn * m0) := (by simp only [f_prod, hbel, hk13e, Bool.false_eq_true, if_false, if_true, pk_mul])
                refine lv_iconst (v := 0) hx hb dX6_deep_71 (by decide) ?_
                refine lv_istore (lv' := [(6, .int 0), (0, .ref (G 0)), (1, .int cl), (2, .int (nI kn)), (3, .int (nI nn)), (4, .int (nI m0)), (5, .int ll)]) hx hb dX6_deep_72 hl (by decide) rfl (fun ls hl => ?_)
                refine lv_iload hx hb dX6_deep_74 (lv_at hl 0 rfl) ?_
                refine lv_if_eq (tgt := 83) hx hb dX6_deep_76 (by decide) (fun _ => ?_) (fun h => absurd h (by decide))
                refine lv_iload_n hx hb dX6_deep_83 rfl (lv_at hl 3 rfl) ?_
                refine lv_bipush (v := 13) hx hb dX6_deep_84 (by decide) ?_
                refine lv_icmp_ne (tgt := 99) hx hb dX6_deep_86 (by decide) (fun h_86 => ?_) (fun h_86 => by exfalso; have h_86 : kn = 13 := nIeq (show nI kn = nI 13 from h_86) (by omega) (by omega); omega)
                have h_86 : ¬ kn = 13 := nIne (show ¬ nI kn = nI 13 from h_86)
                refine lv_iload_n hx hb dX6_deep_99 rfl (lv_at hl 4 rfl) ?_
                refine lv_iload hx hb dX6_deep_100 (lv_at hl 5 rfl) ?_
                refine lv_imul hx hb dX6_deep_102 ?_
                refine px_topi (y := nI (nn * m0)) (pk_mul _ _) ?_
                refine lv_istore (lv' := [(7, .int (nI (nn * m0))), (6, .int 0), (0, .ref (G 0)), (1, .int cl), (2, .int (nI kn)), (3, .int (nI nn)), (4, .int (nI m0)), (5, .int ll)]) hx hb dX6_deep_103 hl (by decide) rfl (fun ls hl => ?_)
                refine lv_iload hx hb dX6_deep_105 (lv_at hl 0 rfl) ?_
                refine lv_sipush (v := 400) hx hb dX6_deep_107 (by decide) ?_
                refine lv_icmp_le (tgt := 116) hx hb dX6_deep_110 (by decide) (fun h_110 => ?_) (fun h_110 => ?_)
                · have h_110 : (nn * m0) ≤ 400 := nIle (show nI (nn * m0) ≤ nI 400 from h_110) (by omega) (by omega)
                  have h400 : ¬ (400 : Int32) < nI (nn * m0) := (fun q => absurd (nIlt (show nI 400 < nI (nn * m0) from q) (by omega) (by omega)) (by omega))
                  refine lv_aload_n hx hb dX6_deep_116 rfl (lv_at hl 2 rfl) ?_
                  refine px_goV (st1 := [.int (b2i (decide (6000 ≤ rN r)))]) (px_callV F hK (c_X6_isFull l D cy A G r _ _ _ (by omega)) kc_X6_isFull kw_methodLink_RX6_61 rfl hR (m_recv hK hR) rfl ⟨rfl, rfl⟩ ⟨Nat.le_of_ble_eq_true rfl, Nat.le_of_ble_eq_true rfl⟩ hl.1 rfl (Nat.le_of_ble_eq_true rfl) dX6_deep_117 ⟨Nat.zero_le _, Nat.zero_le _⟩) rfl ?_
                  refine x_ifeq_b (tgt := 126) hx hb dX6_deep_120 (by decide) (fun h_120 => ?_) (fun h_120 => ?_)
                  · have h_120 : ¬ (6000 ≤ rN r) := of_decide_eq_false h_120
                    refine lv_iload hx hb dX6_deep_126 (lv_at hl 1 rfl) ?_
                    refine lv_if_eq (tgt := 136) hx hb dX6_deep_128 (by decide) (fun _ => ?_) (fun h => absurd h (by decide))
                    obtain ⟨cn, hl_cn, hh_cn, rfl⟩ := f_in_nat h_4 0 15 (by decide) (by decide) (by decide) (by decide)
                    have hTN := hI.2.1
                    have hKK := hI.1
                    have hrk := rkN_le kn
                    refine lv_aload_n hx hb dX6_deep_136 rfl (lv_at hl 2 rfl) ?_
                    refine lv_iload_n hx hb dX6_deep_137 rfl (lv_at hl 4 rfl) ?_
                    refine lv_iload_n hx hb dX6_deep_138 rfl (lv_at hl 5 rfl) ?_
                    refine px_goMx (st1 := [.int (nI ((rT r) + 1))]) (px_callV F hK (c_X6_table l D cy A G r _ _ _ kn nn (show (rT r) + 1 < 13000 by omega) (show (rN r) + nn ≤ 12200 by omega) (by omega) (by omega)) kc_X6_table kw_methodLink_RX6_69 rfl hR (m_recv hK hR) rfl ⟨rfl, rfl⟩ ⟨Nat.le_of_ble_eq_true rfl, Nat.le_of_ble_eq_true rfl⟩ hl.1 rfl (Nat.le_of_ble_eq_true rfl) dX6_deep_139 ⟨Nat.zero_le _, Nat.zero_le _⟩) hS rfl (fun H locs hR hS => ?_)
                    refine lv_istore (lv' := [(8, .int (nI ((rT r) + 1))), (7, .int (nI (nn * m0))), (6, .int 0), (0, .ref (G 0)), (1, .int (nI cn)), (2, .int (nI kn)), (3, .int (nI nn)), (4, .int (nI m0)), (5, .int ll)]) hx hb dX6_deep_142 hl (by decide) rfl (fun ls hl => ?_)
                    refine lv_iconst (v := 0) hx hb dX6_deep_144 (by decide) ?_
                    refine lv_istore (lv' := [(9, .int 0), (8, .int (nI ((rT r) + 1))), (7, .int (nI (nn * m0))), (6, .int 0), (0, .ref (G 0)), (1, .int (nI cn)), (2, .int (nI kn)), (3, .int (nI nn)), (4, .int (nI m0)), (5, .int ll)]) hx hb dX6_deep_145 hl (by decide) rfl (fun ls hl => ?_)
                    have loop : ∀ (d9 i9 : Nat), i9 + d9 = nn → ∀ (H : Heap) (locs : List Loc) (ls : Array Slot), MR D cy A G (dp_out kn m0 (ix ll) (rT r + 1) (f_table r kn nn) i9) (C) (E) H → va_S A s.heap H locs → lv_has ls 13 [(9, .int (nI i9)), (8, .int (nI ((rT r) + 1))), (0, .ref (G 0)), (1, .int (nI cn)), (2, .int (nI kn)), (3, .int (nI nn)), (4, .int (nI m0)), (5, .int ll)] → W p l e (rmd 3 0 0) s m ([.ref (G 0), .int (nI cn), .int (nI kn), .int (nI nn), .int (nI m0), .int ll] : List Value).toArray below meth c H locs 0 0 (MQ below (px_Q (px_M D cy A G (some (.int (f_deep r (nI cn) (nI kn) (nI nn) (nI m0) ll).2)) ((f_deep r (nI cn) (nI kn) (nI nn) (nI m0) ll).1)) A) ([.ref (G 0), .int (nI cn), .int (nI kn), .int (nI nn), .int (nI m0), .int ll] : List Value).toArray s 0 0 A) (F0 m 147 ls []) := by
                      intro d9
                      induction d9 with
                      | zero =>
                        intro i9 hi9 H locs ls hR hS hl
                        refine lv_iload hx hb dX6_deep_147 (lv_at hl 0 rfl) ?_
                        refine lv_iload_n hx hb dX6_deep_149 rfl (lv_at hl 5 rfl) ?_
                        refine lv_icmp_ge (tgt := 224) hx hb dX6_deep_150 (by decide) (fun h_150 => ?_) (fun h_150 => by exfalso; have h_150 : i9 < nn := nInle (show ¬ nI nn ≤ nI i9 from h_150) (by omega) (by omega); omega)
                        have h_150 : nn ≤ i9 := nIle (show nI nn ≤ nI i9 from h_150) (by omega) (by omega)
                        refine lv_aload_n hx hb dX6_deep_224 rfl (lv_at hl 2 rfl) ?_
                        refine m_get F hK hR 9 (by decide) rfl kw_fieldLink_RX6_31 dX6_deep_225 ?_
                        refine lv_iload_n hx hb dX6_deep_228 rfl (lv_at hl 3 rfl) ?_
                        refine lv_iload hx hb dX6_deep_229 (lv_at hl 1 rfl) ?_
                        refine m_stHd F hK hR hS cn ((rT r) + 1) rfl rfl (by omega) dX6_deep_231 (fun H locs hR hS => ?_)
                        refine lv_iconst (v := 1) hx hb dX6_deep_232 (by decide) ?_
                        have hin9 : i9 = nn := (by omega)
                        exact px_iret F hr hlocks hS (by have e : f_deep r (nI cn) (nI kn) (nI nn) (nI m0) ll = (sHd (dp_out kn m0 (ix ll) (rT r + 1) (f_table r kn nn) i9) (va_up (rHd (dp_out kn m0 (ix ll) (rT r + 1) (f_table r kn nn) i9)) cn ((rT r) + 1)), 1) := (by rw [hin9, dp_out_Hd]; simp only [f_deep, f_deepT, ix_nI (show kn < 2 ^ 31 by omega), ix_nI (show nn < 2 ^ 31 by omega), ix_nI (show m0 < 2 ^ 31 by omega), ix_nI (show cn < 2 ^ 31 by omega)]; simp [h_4, h_15, hk13e, h_21, h_28, h_48, h_53, hbel, hprod, h400, h_120] <;> rfl); rw [e]; exact ⟨rfl, _, _, hR⟩) dX6_deep_233
                      | succ d9 ih_loop =>
                        intro i9 hi9 H locs ls hR hS hl
                        refine lv_iload hx hb dX6_deep_147 (lv_at hl 0 rfl) ?_
                        refine lv_iload_n hx hb dX6_deep_149 rfl (lv_at hl 5 rfl) ?_
                        refine lv_icmp_ge (tgt := 224) hx hb dX6_deep_150 (by decide) (fun h_150 => by exfalso; have h_150 : nn ≤ i9 := nIle (show nI nn ≤ nI i9 from h_150) (by omega) (by omega); omega) (fun h_150 => ?_)
                        have h_150 : i9 < nn := nInle (show ¬ nI nn ≤ nI i9 from h_150) (by omega) (by omega)
                        have hoT : rT (dp_out kn m0 (ix ll) (rT r + 1) (f_table r kn nn) i9) = rT r + 1 + i9 * (1 + dpy kn m0) := dp_out_T _ _ _ _ _ _
                        have hoN : rN (dp_out kn m0 (ix ll) (rT r + 1) (f_table r kn nn) i9) = rN r + nn + i9 * (m0 + dpx kn m0 (ix ll)) := dp_out_N _ _ _ _ _ _
                        have hoS : rS (dp_out kn m0 (ix ll) (rT r + 1) (f_table r kn nn) i9) (rT r + 1) = rN r := (dp_out_S _ _ _ _ _ (show rT r + 1 ≤ rT r + 1 from Nat.le_refl _) _).trans (tb_Sn r kn nn)
                        have hbb := dp_bd (kd := kn) (l := (ix ll)) hh_nn hh_m0 (fun q => absurd q h13) (show i9 ≤ nn by omega) (fun q => absurd q h13)
                        refine lv_aload_n hx hb dX6_deep_153 rfl (lv_at hl 2 rfl) ?_
                        refine lv_iload_n hx hb dX6_deep_154 rfl (lv_at hl 4 rfl) ?_
                        refine px_goV (st1 := [.int (nI (rkN kn)), .ref (G 0)]) (px_callS F hK (c_X6_rowKind l D cy _ kn (by omega)) kc_X6_rowKind kw_methodLink_RX6_73 rfl trivial rfl ⟨rfl, rfl⟩ ⟨Nat.le_of_ble_eq_true rfl, Nat.le_of_ble_eq_true rfl⟩ hl.1 rfl (Nat.le_of_ble_eq_true rfl) dX6_deep_155 ⟨Nat.zero_le _, Nat.zero_le _⟩) rfl ?_
                        refine lv_iload hx hb dX6_deep_158 (lv_at hl 6 rfl) ?_
                        refine px_goMx (st1 := [.int (nI ((rT (dp_out kn m0 (ix ll) (rT r + 1) (f_table r kn nn) i9)) + 1))]) (px_callV F hK (c_X6_table l D cy A G (dp_out kn m0 (ix ll) (rT r + 1) (f_table r kn nn) i9) _ _ _ (rkN kn) m0 (show (rT (dp_out kn m0 (ix ll) (rT r + 1) (f_table r kn nn) i9)) + 1 < 13000 by omega) (show (rN (dp_out kn m0 (ix ll) (rT r + 1) (f_table r kn nn) i9)) + m0 ≤ 12200 by omega) (by omega) (by omega)) kc_X6_table kw_methodLink_RX6_69 rfl hR (m_recv hK hR) rfl ⟨rfl, rfl⟩ ⟨Nat.le_of_ble_eq_true rfl, Nat.le_of_ble_eq_true rfl⟩ hl.1 rfl (Nat.le_of_ble_eq_true rfl) dX6_deep_160 ⟨Nat.zero_le _, Nat.zero_le _⟩) hS rfl (fun H locs hR hS => ?_)
                        refine lv_istore (lv' := [(10, .int (nI ((rT (dp_out kn m0 (ix ll) (rT r + 1) (f_table r kn nn) i9)) + 1))), (9, .int (nI i9)), (8, .int (nI ((rT r) + 1))), (0, .ref (G 0)), (1, .int (nI cn)), (2, .int (nI kn)), (3, .int (nI nn)), (4, .int (nI m0)), (5, .int ll)]) hx hb dX6_deep_163 hl (by decide) rfl (fun ls hl => ?_)
                        have hs1 : rS (f_table (dp_out kn m0 (ix ll) (rT r + 1) (f_table r kn nn) i9) (rkN kn) m0) (rT r + 1) = rN r := (tb_S _ _ _ (by omega)).trans hoS
                        refine lv_aload_n hx hb dX6_deep_165 rfl (lv_at hl 3 rfl) ?_
                        refine lv_iload hx hb dX6_deep_166 (lv_at hl 2 rfl) ?_
                        refine lv_iload hx hb dX6_deep_168 (lv_at hl 1 rfl) ?_
                        refine lv_iload hx hb dX6_deep_170 (lv_at hl 0 rfl) ?_
                        refine lv_i2l (v := lN ((rT (dp_out kn m0 (ix ll) (rT r + 1) (f_table r kn nn) i9)) + 1)) hx hb dX6_deep_172 (nI_l (n := ((rT (dp_out kn m0 (ix ll) (rT r + 1) (f_table r kn nn) i9)) + 1)) (by omega)) ?_
                        refine px_goMx (st1 := []) (px_callV F hK (c_X6_put l D cy A G (f_table (dp_out kn m0 (ix ll) (rT r + 1) (f_table r kn nn) i9) (rkN kn) m0) _ _ _ ((rT r) + 1) i9 (lN ((rT (dp_out kn m0 (ix ll) (rT r + 1) (f_table r kn nn) i9)) + 1)) (by omega) (show rS (f_table (dp_out kn m0 (ix ll) (rT r + 1) (f_table r kn nn) i9) (rkN kn) m0) ((rT r) + 1) + i9 < 12200 by omega)) kc_X6_put kw_methodLink_RX6_76 rfl hR (m_recv hK hR) rfl ⟨rfl, rfl⟩ ⟨Nat.le_of_ble_eq_true rfl, Nat.le_of_ble_eq_true rfl⟩ hl.1 rfl (Nat.le_of_ble_eq_true rfl) dX6_deep_173 ⟨Nat.zero_le _, Nat.zero_le _⟩) hS rfl (fun H locs hR hS => ?_)
                        refine lv_iconst (v := 0) hx hb dX6_deep_176 (by decide) ?_
                        refine lv_istore (lv' := [(11, .int 0), (10, .int (nI ((rT (dp_out kn m0 (ix ll) (rT r + 1) (f_table r kn nn) i9)) + 1))), (9, .int (nI i9)), (8, .int (nI ((rT r) + 1))), (0, .ref (G 0)), (1, .int (nI cn)), (2, .int (nI kn)), (3, .int (nI nn)), (4, .int (nI m0)), (5, .int ll)]) hx hb dX6_deep_177 hl (by decide) rfl (fun ls hl => ?_)
                        refine lv_iload hx hb dX6_deep_179 (lv_at hl 0 rfl) ?_
                        refine lv_iload hx hb dX6_deep_181 (lv_at hl 8 rfl) ?_
                        refine lv_icmp_ge (tgt := 218) hx hb dX6_deep_183 (by decide) (fun h_183 => ?_) (fun h_183 => ?_)
                        · have h_183 : m0 ≤ 0 := nIle (show nI m0 ≤ nI 0 from h_183) (by omega) (by omega)
                          refine lv_iinc (v := nI (i9 + 1)) (lv' := [(9, .int (nI (i9 + 1))), (11, .int 0), (10, .int (nI ((rT (dp_out kn m0 (ix ll) (rT r + 1) (f_table r kn nn) i9)) + 1))), (8, .int (nI ((rT r) + 1))), (0, .ref (G 0)), (1, .int (nI cn)), (2, .int (nI kn)), (3, .int (nI nn)), (4, .int (nI m0)), (5, .int ll)]) hx hb dX6_deep_218 hl (k := 2) rfl (by show nI i9 + 1 = nI (i9 + 1); exact nI_1 _) (by decide) rfl (fun ls hl => ?_)
                          refine lv_goto (tgt := 147) hx hb dX6_deep_221 (by decide) ?_
                          exact ih_loop (i9 + 1) (by omega) _ _ _ (by rw [dp_out, dp_row, if_neg h13]; exact hR) hS (lv_sub hl [0, 3, 4, 5, 6, 7, 8, 9] rfl)
                        · have h_183 : 0 < m0 := nInle (show ¬ nI m0 ≤ nI 0 from h_183) (by omega) (by omega)
                          refine lv_iload_n hx hb dX6_deep_186 rfl (lv_at hl 6 rfl) ?_
                          refine lv_bipush (v := 13) hx hb dX6_deep_187 (by decide) ?_
                          refine lv_icmp_ne (tgt := 218) hx hb dX6_deep_189 (by decide) (fun h_189 => ?_) (fun h_189 => by exfalso; have h_189 : kn = 13 := nIeq (show nI kn = nI 13 from h_189) (by omega) (by omega); omega)
                          have h_189 : ¬ kn = 13 := nIne (show ¬ nI kn = nI 13 from h_189)
                          refine lv_iinc (v := nI (i9 + 1)) (lv' := [(9, .int (nI (i9 + 1))), (11, .int 0), (10, .int (nI ((rT (dp_out kn m0 (ix ll) (rT r + 1) (f_table r kn nn) i9)) + 1))), (8, .int (nI ((rT r) + 1))), (0, .ref (G 0)), (1, .int (nI cn)), (2, .int (nI kn)), (3, .int (nI nn)), (4, .int (nI m0)), (5, .int ll)]) hx hb dX6_deep_218 hl (k := 2) rfl (by show nI i9 + 1 = nI (i9 + 1); exact nI_1 _) (by decide) rfl (fun ls hl => ?_)
                          refine lv_goto (tgt := 147) hx hb dX6_deep_221 (by decide) ?_
                          exact ih_loop (i9 + 1) (by omega) _ _ _ (by rw [dp_out, dp_row, if_neg h13]; exact hR) hS (lv_sub hl [0, 3, 4, 5, 6, 7, 8, 9] rfl)
                    exact loop nn 0 (by omega) _ _ _ hR hS (lv_sub hl [0, 1, 4, 5, 6, 7, 8, 9] rfl)
                  · have h_120 : 6000 ≤ rN r := of_decide_eq_true h_120
                    refine lv_bipush (v := -3) hx hb dX6_deep_123 (by decide) ?_
                    exact px_iret F hr hlocks hS (by have e : f_deep r cl (nI kn) (nI nn) (nI m0) ll = (r, (-3)) := (by simp [f_deep, h_4, h_15, hk13e, h_21, h_28, h_48, h_53, hbel, hprod, h400, h_120, ix_nI (show kn < 2 ^ 31 by omega), ix_nI (show nn < 2 ^ 31 by omega), ix_nI (show m0 < 2 ^ 31 by omega)] <;> rfl); rw [e]; exact ⟨rfl, _, _, hR⟩) dX6_deep_125
                · have h_110 : 400 < (nn * m0) := nInle (show ¬ nI (nn * m0) ≤ nI 400 from h_110) (by omega) (by omega)
                  have h400 : (400 : Int32) < nI (nn * m0) := nI_lt (a := 400) (by omega) (by omega)
                  refine lv_bipush (v := -2) hx hb dX6_deep_113 (by decide) ?_
                  exact px_iret F hr hlocks hS (by have e : f_deep r cl (nI kn) (nI nn) (nI m0) ll = (r, (-2)) := (by simp [f_deep, h_4, h_15, hk13e, h_21, h_28, h_48, h_53, hbel, hprod, h400, ix_nI (show kn < 2 ^ 31 by omega), ix_nI (show nn < 2 ^ 31 by omega), ix_nI (show m0 < 2 ^ 31 by omega)] <;> rfl); rw [e]; exact ⟨rfl, _, _, hR⟩) dX6_deep_115
