/-! the reference: thing, canStand, likes -/
set_option maxHeartbeats 400000 in
set_option maxRecDepth 100000 in
theorem c_X6_thing (l : Launch) (D : va_G) (cy : Nat → ClassId) (A : Nat → Prop) (G : Nat → Nat) (r : RS) (C : Nat → Nat) (E : Nat → Int64) (sz : Nat) (cl i mk nu : Int32) {kk : Nat} (hI : Inv kk r) : Met l yX6_thing (px_w yX6_thing cX6_thing 7 (some .int)) (rmd 3 0 0) (px_P D cy [.ref (G 0), .int cl, .int i, .int mk, .int nu] sz (MR D cy A G r C E)) (px_Q (px_M D cy A G (some (.int (f_thing r cl i mk nu).2)) ((f_thing r cl i mk nu).1)) A) 0 0 A := by
  refine px_met (by decide) (Nat.le_of_ble_eq_true rfl) ?_
  intro p e s m below meth c F hr hlocks hnm hK hsz hR ls hl
  have hx := F.1
  have hb := F.2.1
  have hl : lv_has ls 7 [(0, .ref (G 0)), (1, .int cl), (2, .int i), (3, .int mk), (4, .int nu)] := hl
  have hS : va_S A s.heap s.heap [] := va_S.rf
  have hbd := hI.bd
  refine lv_iload_n hx hb dX6_thing_0 rfl (lv_at hl 1 rfl) ?_
  refine px_goV (st1 := [.int (b2i (f_in cl 0 15))]) (px_callS F hK (c_X6_isColumn l D cy _ cl) kc_X6_isColumn kw_methodLink_RX6_53 rfl trivial rfl ⟨rfl, rfl⟩ ⟨Nat.le_of_ble_eq_true rfl, Nat.le_of_ble_eq_true rfl⟩ hl.1 rfl (Nat.le_of_ble_eq_true rfl) dX6_thing_1 ⟨Nat.zero_le _, Nat.zero_le _⟩) rfl ?_
  refine x_ifeq_b (tgt := 16) hx hb dX6_thing_4 (by decide) (fun h_4 => ?_) (fun h_4 => ?_)
  · refine lv_bipush (v := -2) hx hb dX6_thing_16 (by decide) ?_
    exact px_iret F hr hlocks hS (by have e : f_thing r cl i mk nu = (r, (-2)) := (by simp [f_thing, f_no, f_thno, f_newT, h_4] <;> rfl); rw [e]; exact ⟨rfl, _, _, hR⟩) dX6_thing_18
  · refine lv_iload_n hx hb dX6_thing_7 rfl (lv_at hl 3 rfl) ?_
    refine lv_iconst (v := 0) hx hb dX6_thing_8 (by decide) ?_
    refine lv_iconst (v := 2) hx hb dX6_thing_9 (by decide) ?_
    refine px_goV (st1 := [.int (b2i (f_in mk 0 2))]) (px_callS F hK (c_X6_in l D cy _ mk 0 2) kc_X6_in kw_methodLink_RX6_57 rfl trivial rfl ⟨rfl, rfl⟩ ⟨Nat.le_of_ble_eq_true rfl, Nat.le_of_ble_eq_true rfl⟩ hl.1 rfl (Nat.le_of_ble_eq_true rfl) dX6_thing_10 ⟨Nat.zero_le _, Nat.zero_le _⟩) rfl ?_
    refine x_ifne_b (tgt := 19) hx hb dX6_thing_13 (by decide) (fun h_13 => ?_) (fun h_13 => ?_)
    · obtain ⟨cn, hl_cn, hh_cn, rfl⟩ := f_in_nat h_4 0 15 (by decide) (by decide) (by decide) (by decide)
      obtain ⟨mn, hl_mn, hh_mn, rfl⟩ := f_in_nat h_13 0 2 (by decide) (by decide) (by decide) (by decide)
      have hc0 := hI.hd cn (by omega)
      have hc1 := hI.tb _ hc0
      have hlk := looked_le r (rHd r cn) i
      rcases (show mn = 0 ∨ mn = 1 ∨ mn = 2 by omega) with rfl | rfl | rfl
      · have q1 : (nI 0 < (2 : Int32)) = True := eq_true (by decide)
        have q2 : (nI 0 = (0 : Int32)) = True := eq_true (by decide)
        have q3 : (nI 0 = (1 : Int32)) = False := eq_false (by decide)
        have q4 : ¬ 3000 ≤ rM r := (by omega)
        refine lv_iload_n hx hb dX6_thing_19 rfl (lv_at hl 3 rfl) ?_
        refine lv_iconst (v := 2) hx hb dX6_thing_20 (by decide) ?_
        refine lv_icmp_ge (tgt := 37) hx hb dX6_thing_21 (by decide) (fun h => absurd h (by decide)) (fun _ => ?_)
        refine lv_aload_n hx hb dX6_thing_24 rfl (lv_at hl 0 rfl) ?_
        refine m_get F hK hR 6 (by decide) rfl kw_fieldLink_RX6_122 dX6_thing_25 ?_
        refine lv_sipush (v := 3000) hx hb dX6_thing_28 (by decide) ?_
        refine lv_icmp_lt (tgt := 37) hx hb dX6_thing_31 (by decide) (fun h_31 => ?_) (fun h_31 => by exfalso; have h_31 : 3000 ≤ (rM r) := nInlt (show ¬ nI (rM r) < nI 3000 from h_31) (by omega) (by omega); omega)
        have h_31 : (rM r) < 3000 := nIlt (show nI (rM r) < nI 3000 from h_31) (by omega) (by omega)
        refine lv_iload_n hx hb dX6_thing_37 rfl (lv_at hl 3 rfl) ?_
        refine lv_iconst (v := 2) hx hb dX6_thing_38 (by decide) ?_
        refine lv_icmp_ge (tgt := 82) hx hb dX6_thing_39 (by decide) (fun h => absurd h (by decide)) (fun _ => ?_)
        refine lv_aload_n hx hb dX6_thing_42 rfl (lv_at hl 0 rfl) ?_
        refine lv_dup hx hb dX6_thing_43 rfl ?_
        refine m_get F hK hR 6 (by decide) rfl kw_fieldLink_RX6_122 dX6_thing_44 ?_
        refine lv_iconst (v := 1) hx hb dX6_thing_47 (by decide) ?_
        refine lv_iadd hx hb dX6_thing_48 ?_
        refine px_topi (y := nI ((rM r) + 1)) (nI_add _ _) ?_
        refine m_put F hK hR hS 6 (by decide) (v := nI ((rM r) + 1)) rfl (sM r ((rM r) + 1)) rfl kw_fieldLink_RX6_122 rfl rfl dX6_thing_49 (fun H locs hR hS => ?_)
        refine lv_aload_n hx hb dX6_thing_52 rfl (lv_at hl 0 rfl) ?_
        refine m_get F hK hR 7 (by decide) rfl kw_fieldLink_RX6_24 dX6_thing_53 ?_
        refine lv_aload_n hx hb dX6_thing_56 rfl (lv_at hl 0 rfl) ?_
        refine m_get F hK hR 6 (by decide) rfl kw_fieldLink_RX6_122 dX6_thing_57 ?_
        refine lv_iload hx hb dX6_thing_60 (lv_at hl 4 rfl) ?_
        refine m_stTN F hK hR hS ((rM r) + 1) nu rfl rfl (by omega) dX6_thing_62 (fun H locs hR hS => ?_)
        refine lv_aload_n hx hb dX6_thing_63 rfl (lv_at hl 0 rfl) ?_
        refine m_get F hK hR 8 (by decide) rfl kw_fieldLink_RX6_27 dX6_thing_64 ?_
        refine lv_aload_n hx hb dX6_thing_67 rfl (lv_at hl 0 rfl) ?_
        refine m_get F hK hR 6 (by decide) rfl kw_fieldLink_RX6_122 dX6_thing_68 ?_
        refine lv_iload_n hx hb dX6_thing_71 rfl (lv_at hl 3 rfl) ?_
        refine lv_iconst (v := 1) hx hb dX6_thing_72 (by decide) ?_
        refine lv_icmp_ne (tgt := 80) hx hb dX6_thing_73 (by decide) (fun _ => ?_) (fun h => absurd h (by decide))
        refine lv_iconst (v := 0) hx hb dX6_thing_80 (by decide) ?_
        refine m_stIM F hK hR hS ((rM r) + 1) false rfl rfl (by omega) dX6_thing_81 (fun H locs hR hS => ?_)
        refine lv_aload_n hx hb dX6_thing_82 rfl (lv_at hl 0 rfl) ?_
        refine m_get F hK hR 9 (by decide) rfl kw_fieldLink_RX6_31 dX6_thing_83 ?_
        refine lv_iload_n hx hb dX6_thing_86 rfl (lv_at hl 1 rfl) ?_
        refine m_ldHd F hK hR cn rfl (by omega) dX6_thing_87 ?_
        refine lv_istore (lv' := [(5, .int (nI (rHd r cn))), (0, .ref (G 0)), (1, .int (nI cn)), (2, .int i), (3, .int 0), (4, .int nu)]) hx hb dX6_thing_88 hl (by decide) rfl (fun ls hl => ?_)
        refine lv_aload_n hx hb dX6_thing_90 rfl (lv_at hl 1 rfl) ?_
        refine lv_iload hx hb dX6_thing_91 (lv_at hl 0 rfl) ?_
        refine lv_bipush (v := 8) hx hb dX6_thing_93 (by decide) ?_
        refine px_goV (st1 := [.int (b2i (f_isOf r (rHd r cn) 8))]) (px_callV F hK (c_X6_isOf l D cy A G (sIM (sTN (sM r ((rM r) + 1)) (va_up (rTN r) ((rM r) + 1) nu)) (va_up (rIM r) ((rM r) + 1) false)) _ _ _ (rHd r cn) 8 (by omega) (by omega) (show rK r (rHd r cn) < 100 by omega)) kc_X6_isOf kw_methodLink_RX6_90 rfl hR (m_recv hK hR) rfl ⟨rfl, rfl⟩ ⟨Nat.le_of_ble_eq_true rfl, Nat.le_of_ble_eq_true rfl⟩ hl.1 rfl (Nat.le_of_ble_eq_true rfl) dX6_thing_95 ⟨Nat.zero_le _, Nat.zero_le _⟩) rfl ?_
        refine x_ifeq_b (tgt := 111) hx hb dX6_thing_98 (by decide) (fun h_98 => ?_) (fun h_98 => ?_)
        · refine lv_iconst (v := 2) hx hb dX6_thing_111 (by decide) ?_
          refine lv_istore (lv' := [(6, .int 2), (5, .int (nI (rHd r cn))), (0, .ref (G 0)), (1, .int (nI cn)), (2, .int i), (3, .int 0), (4, .int nu)]) hx hb dX6_thing_112 hl (by decide) rfl (fun ls hl => ?_)
          refine lv_iload hx hb dX6_thing_114 (lv_at hl 0 rfl) ?_
          refine lv_if_ne (tgt := 139) hx hb dX6_thing_116 (by decide) (fun _ => ?_) (fun h => absurd h (by decide))
          refine lv_iload hx hb dX6_thing_139 (lv_at hl 0 rfl) ?_
          refine lv_istore (lv' := [(6, .int 2), (5, .int (nI (rHd r cn))), (0, .ref (G 0)), (1, .int (nI cn)), (2, .int i), (3, .int 0), (4, .int nu)]) hx hb dX6_thing_141 hl (by decide) rfl (fun ls hl => ?_)
          refine lv_iload hx hb dX6_thing_143 (lv_at hl 0 rfl) ?_
          refine lv_if_eq (tgt := 154) hx hb dX6_thing_145 (by decide) (fun h => absurd h (by decide)) (fun _ => ?_)
          refine lv_iload hx hb dX6_thing_148 (lv_at hl 0 rfl) ?_
          refine px_goV (st1 := [.int (-12)]) (px_callS F hK (c_X6_answer l D cy _ 2) kc_X6_answer kw_methodLink_RX6_65 rfl trivial rfl ⟨rfl, rfl⟩ ⟨Nat.le_of_ble_eq_true rfl, Nat.le_of_ble_eq_true rfl⟩ hl.1 rfl (Nat.le_of_ble_eq_true rfl) dX6_thing_150 ⟨Nat.zero_le _, Nat.zero_le _⟩) rfl ?_
          exact px_iret F hr hlocks hS (by have e : f_thing r (nI cn) i (nI 0) nu = (sIM (sTN (sM r ((rM r) + 1)) (va_up (rTN r) ((rM r) + 1) nu)) (va_up (rIM r) ((rM r) + 1) false), (-12)) := (by simp [f_thing, f_no, f_thno, f_newT, h_4, h_13, q1, q2, q3, q4, h_31, h_98, ix_nI (show cn < 2 ^ 31 by omega)] <;> rfl); rw [e]; exact ⟨rfl, _, _, hR⟩) dX6_thing_153
        · refine lv_aload_n hx hb dX6_thing_101 rfl (lv_at hl 1 rfl) ?_
          refine lv_iload hx hb dX6_thing_102 (lv_at hl 0 rfl) ?_
          refine lv_iload_n hx hb dX6_thing_104 rfl (lv_at hl 3 rfl) ?_
          refine px_goV (st1 := [.int (nI (f_looked r (rHd r cn) i))]) (px_callV F hK (c_X6_looked l D cy A G (sIM (sTN (sM r ((rM r) + 1)) (va_up (rTN r) ((rM r) + 1) nu)) (va_up (rIM r) ((rM r) + 1) false)) _ _ _ (rHd r cn) i (by omega)) kc_X6_looked kw_methodLink_RX6_108 rfl hR (m_recv hK hR) rfl ⟨rfl, rfl⟩ ⟨Nat.le_of_ble_eq_true rfl, Nat.le_of_ble_eq_true rfl⟩ hl.1 rfl (Nat.le_of_ble_eq_true rfl) dX6_thing_105 ⟨Nat.zero_le _, Nat.zero_le _⟩) rfl ?_
          refine lv_goto (tgt := 112) hx hb dX6_thing_108 (by decide) ?_
          refine lv_istore (lv' := [(6, .int (nI (f_looked r (rHd r cn) i))), (5, .int (nI (rHd r cn))), (0, .ref (G 0)), (1, .int (nI cn)), (2, .int i), (3, .int 0), (4, .int nu)]) hx hb dX6_thing_112 hl (by decide) rfl (fun ls hl => ?_)
          refine lv_iload hx hb dX6_thing_114 (lv_at hl 0 rfl) ?_
          refine lv_if_ne (tgt := 139) hx hb dX6_thing_116 (by decide) (fun h_116 => ?_) (fun h_116 => ?_)
          · have h_116 : ¬ (f_looked r (rHd r cn) i) = 0 := nIne (show ¬ nI (f_looked r (rHd r cn) i) = nI 0 from h_116)
            refine lv_iload hx hb dX6_thing_139 (lv_at hl 0 rfl) ?_
            refine lv_istore (lv' := [(6, .int (nI (f_looked r (rHd r cn) i))), (5, .int (nI (rHd r cn))), (0, .ref (G 0)), (1, .int (nI cn)), (2, .int i), (3, .int 0), (4, .int nu)]) hx hb dX6_thing_141 hl (by decide) rfl (fun ls hl => ?_)
            refine lv_iload hx hb dX6_thing_143 (lv_at hl 0 rfl) ?_
            refine lv_if_eq (tgt := 154) hx hb dX6_thing_145 (by decide) (fun h_145 => by exfalso; have h_145 : (f_looked r (rHd r cn) i) = 0 := nIeq (show nI (f_looked r (rHd r cn) i) = nI 0 from h_145) (by omega) (by omega); omega) (fun h_145 => ?_)
            have h_145 : ¬ (f_looked r (rHd r cn) i) = 0 := nIne (show ¬ nI (f_looked r (rHd r cn) i) = nI 0 from h_145)
            refine lv_iload hx hb dX6_thing_148 (lv_at hl 0 rfl) ?_
            refine px_goV (st1 := [.int (-10 - (nI (f_looked r (rHd r cn) i)))]) (px_callS F hK (c_X6_answer l D cy _ (nI (f_looked r (rHd r cn) i))) kc_X6_answer kw_methodLink_RX6_65 rfl trivial rfl ⟨rfl, rfl⟩ ⟨Nat.le_of_ble_eq_true rfl, Nat.le_of_ble_eq_true rfl⟩ hl.1 rfl (Nat.le_of_ble_eq_true rfl) dX6_thing_150 ⟨Nat.zero_le _, Nat.zero_le _⟩) rfl ?_
            exact px_iret F hr hlocks hS (by have e : f_thing r (nI cn) i (nI 0) nu = (sIM (sTN (sM r ((rM r) + 1)) (va_up (rTN r) ((rM r) + 1) nu)) (va_up (rIM r) ((rM r) + 1) false), -10 - (nI (f_looked r (rHd r cn) i))) := (by simp [f_thing, f_no, f_thno, f_newT, h_4, h_13, q1, q2, q3, q4, h_31, h_98, h_116, h_145, ix_nI (show cn < 2 ^ 31 by omega)] <;> rfl); rw [e]; exact ⟨rfl, _, _, hR⟩) dX6_thing_153
          · have h_116 : (f_looked r (rHd r cn) i) = 0 := nIeq (show nI (f_looked r (rHd r cn) i) = nI 0 from h_116) (by omega) (by omega)
            refine lv_iload_n hx hb dX6_thing_119 rfl (lv_at hl 5 rfl) ?_
            refine lv_if_ne (tgt := 139) hx hb dX6_thing_120 (by decide) (fun h => absurd h (by decide)) (fun _ => ?_)
            refine lv_aload_n hx hb dX6_thing_123 rfl (lv_at hl 2 rfl) ?_
            refine m_get F hK hR 1 (by decide) rfl kw_fieldLink_RX6_7 dX6_thing_124 ?_
            refine lv_iload hx hb dX6_thing_127 (lv_at hl 1 rfl) ?_
            refine m_ldK F hK hR (rHd r cn) rfl (by omega) dX6_thing_129 ?_
            refine lv_bipush (v := 9) hx hb dX6_thing_130 (by decide) ?_
            refine lv_icmp_ne (tgt := 139) hx hb dX6_thing_132 (by decide) (fun h_132 => ?_) (fun h_132 => ?_)
            · have h_132 : ¬ (rK r (rHd r cn)) = 9 := nIne (show ¬ nI (rK r (rHd r cn)) = nI 9 from h_132)
              refine lv_iload hx hb dX6_thing_139 (lv_at hl 0 rfl) ?_
              refine lv_istore (lv' := [(6, .int (nI (f_looked r (rHd r cn) i))), (5, .int (nI (rHd r cn))), (0, .ref (G 0)), (1, .int (nI cn)), (2, .int i), (3, .int 0), (4, .int nu)]) hx hb dX6_thing_141 hl (by decide) rfl (fun ls hl => ?_)
              refine lv_iload hx hb dX6_thing_143 (lv_at hl 0 rfl) ?_
              refine lv_if_eq (tgt := 154) hx hb dX6_thing_145 (by decide) (fun h_145 => ?_) (fun h_145 => by exfalso; have h_145 : ¬ (f_looked r (rHd r cn) i) = 0 := nIne (show ¬ nI (f_looked r (rHd r cn) i) = nI 0 from h_145); omega)
              have h_145 : (f_looked r (rHd r cn) i) = 0 := nIeq (show nI (f_looked r (rHd r cn) i) = nI 0 from h_145) (by omega) (by omega)
              obtain ⟨ht0_j, j, hj_j, rfl⟩ := looked_0 h_145 (by omega)
              refine lv_aload_n hx hb dX6_thing_154 rfl (lv_at hl 2 rfl) ?_
              refine lv_iload hx hb dX6_thing_155 (lv_at hl 1 rfl) ?_
              refine lv_iload_n hx hb dX6_thing_157 rfl (lv_at hl 4 rfl) ?_
              refine lv_iload_n hx hb dX6_thing_158 rfl (lv_at hl 5 rfl) ?_
              refine lv_iconst (v := 2) hx hb dX6_thing_159 (by decide) ?_
              refine lv_icmp_ne (tgt := 167) hx hb dX6_thing_160 (by decide) (fun _ => ?_) (fun h => absurd h (by decide))
              refine lv_aload_n hx hb dX6_thing_167 rfl (lv_at hl 2 rfl) ?_
              refine m_get F hK hR 6 (by decide) rfl kw_fieldLink_RX6_122 dX6_thing_168 ?_
              refine lv_i2l (v := lN ((rM r) + 1)) hx hb dX6_thing_171 (nI_l (n := ((rM r) + 1)) (by omega)) ?_
              refine px_goMx (st1 := []) (px_callV F hK (c_X6_put l D cy A G (sIM (sTN (sM r ((rM r) + 1)) (va_up (rTN r) ((rM r) + 1) nu)) (va_up (rIM r) ((rM r) + 1) false)) _ _ _ (rHd r cn) j (lN ((rM r) + 1)) (by omega) (show rS r (rHd r cn) + j < 12200 by omega)) kc_X6_put kw_methodLink_RX6_76 rfl hR (m_recv hK hR) rfl ⟨rfl, rfl⟩ ⟨Nat.le_of_ble_eq_true rfl, Nat.le_of_ble_eq_true rfl⟩ hl.1 rfl (Nat.le_of_ble_eq_true rfl) dX6_thing_172 ⟨Nat.zero_le _, Nat.zero_le _⟩) hS rfl (fun H locs hR hS => ?_)
              refine lv_iconst (v := 1) hx hb dX6_thing_175 (by decide) ?_
              exact px_iret F hr hlocks hS (by have e : f_thing r (nI cn) (nI j) (nI 0) nu = (f_put (sIM (sTN (sM r ((rM r) + 1)) (va_up (rTN r) ((rM r) + 1) nu)) (va_up (rIM r) ((rM r) + 1) false)) (rHd r cn) j (lN ((rM r) + 1)), 1) := (by simp [f_thing, f_no, f_thno, f_newT, h_4, h_13, q1, q2, q3, q4, h_31, h_98, h_116, h_132, h_145, ix_nI (show cn < 2 ^ 31 by omega), ix_nI (show j < 2 ^ 31 by omega)] <;> rfl); rw [e]; exact ⟨rfl, _, _, hR⟩) dX6_thing_176
            · have h_132 : (rK r (rHd r cn)) = 9 := nIeq (show nI (rK r (rHd r cn)) = nI 9 from h_132) (by omega) (by omega)
              refine lv_iconst (v := 5) hx hb dX6_thing_135 (by decide) ?_
              refine lv_goto (tgt := 141) hx hb dX6_thing_136 (by decide) ?_
              refine lv_istore (lv' := [(6, .int 5), (5, .int (nI (rHd r cn))), (0, .ref (G 0)), (1, .int (nI cn)), (2, .int i), (3, .int 0), (4, .int nu)]) hx hb dX6_thing_141 hl (by decide) rfl (fun ls hl => ?_)
              refine lv_iload hx hb dX6_thing_143 (lv_at hl 0 rfl) ?_
              refine lv_if_eq (tgt := 154) hx hb dX6_thing_145 (by decide) (fun h => absurd h (by decide)) (fun _ => ?_)
              refine lv_iload hx hb dX6_thing_148 (lv_at hl 0 rfl) ?_
              refine px_goV (st1 := [.int (-15)]) (px_callS F hK (c_X6_answer l D cy _ 5) kc_X6_answer kw_methodLink_RX6_65 rfl trivial rfl ⟨rfl, rfl⟩ ⟨Nat.le_of_ble_eq_true rfl, Nat.le_of_ble_eq_true rfl⟩ hl.1 rfl (Nat.le_of_ble_eq_true rfl) dX6_thing_150 ⟨Nat.zero_le _, Nat.zero_le _⟩) rfl ?_
              exact px_iret F hr hlocks hS (by have e : f_thing r (nI cn) i (nI 0) nu = (sIM (sTN (sM r ((rM r) + 1)) (va_up (rTN r) ((rM r) + 1) nu)) (va_up (rIM r) ((rM r) + 1) false), (-15)) := (by simp [f_thing, f_no, f_thno, f_newT, h_4, h_13, q1, q2, q3, q4, h_31, h_98, h_116, h_132, ix_nI (show cn < 2 ^ 31 by omega)] <;> rfl); rw [e]; exact ⟨rfl, _, _, hR⟩) dX6_thing_153
      · have q1 : (nI 1 < (2 : Int32)) = True := eq_true (by decide)
        have q2 : (nI 1 = (0 : Int32)) = False := eq_false (by decide)
        have q3 : (nI 1 = (1 : Int32)) = True := eq_true (by decide)
        have q4 : ¬ 3000 ≤ rM r := (by omega)
        refine lv_iload_n hx hb dX6_thing_19 rfl (lv_at hl 3 rfl) ?_
        refine lv_iconst (v := 2) hx hb dX6_thing_20 (by decide) ?_
        refine lv_icmp_ge (tgt := 37) hx hb dX6_thing_21 (by decide) (fun h => absurd h (by decide)) (fun _ => ?_)
        refine lv_aload_n hx hb dX6_thing_24 rfl (lv_at hl 0 rfl) ?_
        refine m_get F hK hR 6 (by decide) rfl kw_fieldLink_RX6_122 dX6_thing_25 ?_
        refine lv_sipush (v := 3000) hx hb dX6_thing_28 (by decide) ?_
        refine lv_icmp_lt (tgt := 37) hx hb dX6_thing_31 (by decide) (fun h_31 => ?_) (fun h_31 => by exfalso; have h_31 : 3000 ≤ (rM r) := nInlt (show ¬ nI (rM r) < nI 3000 from h_31) (by omega) (by omega); omega)
        have h_31 : (rM r) < 3000 := nIlt (show nI (rM r) < nI 3000 from h_31) (by omega) (by omega)
        refine lv_iload_n hx hb dX6_thing_37 rfl (lv_at hl 3 rfl) ?_
        refine lv_iconst (v := 2) hx hb dX6_thing_38 (by decide) ?_
        refine lv_icmp_ge (tgt := 82) hx hb dX6_thing_39 (by decide) (fun h => absurd h (by decide)) (fun _ => ?_)
        refine lv_aload_n hx hb dX6_thing_42 rfl (lv_at hl 0 rfl) ?_
        refine lv_dup hx hb dX6_thing_43 rfl ?_
        refine m_get F hK hR 6 (by decide) rfl kw_fieldLink_RX6_122 dX6_thing_44 ?_
        refine lv_iconst (v := 1) hx hb dX6_thing_47 (by decide) ?_
        refine lv_iadd hx hb dX6_thing_48 ?_
        refine px_topi (y := nI ((rM r) + 1)) (nI_add _ _) ?_
        refine m_put F hK hR hS 6 (by decide) (v := nI ((rM r) + 1)) rfl (sM r ((rM r) + 1)) rfl kw_fieldLink_RX6_122 rfl rfl dX6_thing_49 (fun H locs hR hS => ?_)
        refine lv_aload_n hx hb dX6_thing_52 rfl (lv_at hl 0 rfl) ?_
        refine m_get F hK hR 7 (by decide) rfl kw_fieldLink_RX6_24 dX6_thing_53 ?_
        refine lv_aload_n hx hb dX6_thing_56 rfl (lv_at hl 0 rfl) ?_
        refine m_get F hK hR 6 (by decide) rfl kw_fieldLink_RX6_122 dX6_thing_57 ?_
        refine lv_iload hx hb dX6_thing_60 (lv_at hl 4 rfl) ?_
        refine m_stTN F hK hR hS ((rM r) + 1) nu rfl rfl (by omega) dX6_thing_62 (fun H locs hR hS => ?_)
        refine lv_aload_n hx hb dX6_thing_63 rfl (lv_at hl 0 rfl) ?_
        refine m_get F hK hR 8 (by decide) rfl kw_fieldLink_RX6_27 dX6_thing_64 ?_
        refine lv_aload_n hx hb dX6_thing_67 rfl (lv_at hl 0 rfl) ?_
        refine m_get F hK hR 6 (by decide) rfl kw_fieldLink_RX6_122 dX6_thing_68 ?_
        refine lv_iload_n hx hb dX6_thing_71 rfl (lv_at hl 3 rfl) ?_
        refine lv_iconst (v := 1) hx hb dX6_thing_72 (by decide) ?_
        refine lv_icmp_ne (tgt := 80) hx hb dX6_thing_73 (by decide) (fun h => absurd h (by decide)) (fun _ => ?_)
        refine lv_iconst (v := 1) hx hb dX6_thing_76 (by decide) ?_
        refine lv_goto (tgt := 81) hx hb dX6_thing_77 (by decide) ?_
        refine m_stIM F hK hR hS ((rM r) + 1) true rfl rfl (by omega) dX6_thing_81 (fun H locs hR hS => ?_)
        refine lv_aload_n hx hb dX6_thing_82 rfl (lv_at hl 0 rfl) ?_
        refine m_get F hK hR 9 (by decide) rfl kw_fieldLink_RX6_31 dX6_thing_83 ?_
        refine lv_iload_n hx hb dX6_thing_86 rfl (lv_at hl 1 rfl) ?_
        refine m_ldHd F hK hR cn rfl (by omega) dX6_thing_87 ?_
        refine lv_istore (lv' := [(5, .int (nI (rHd r cn))), (0, .ref (G 0)), (1, .int (nI cn)), (2, .int i), (3, .int 1), (4, .int nu)]) hx hb dX6_thing_88 hl (by decide) rfl (fun ls hl => ?_)
        refine lv_aload_n hx hb dX6_thing_90 rfl (lv_at hl 1 rfl) ?_
        refine lv_iload hx hb dX6_thing_91 (lv_at hl 0 rfl) ?_
        refine lv_bipush (v := 8) hx hb dX6_thing_93 (by decide) ?_
        refine px_goV (st1 := [.int (b2i (f_isOf r (rHd r cn) 8))]) (px_callV F hK (c_X6_isOf l D cy A G (sIM (sTN (sM r ((rM r) + 1)) (va_up (rTN r) ((rM r) + 1) nu)) (va_up (rIM r) ((rM r) + 1) true)) _ _ _ (rHd r cn) 8 (by omega) (by omega) (show rK r (rHd r cn) < 100 by omega)) kc_X6_isOf kw_methodLink_RX6_90 rfl hR (m_recv hK hR) rfl ⟨rfl, rfl⟩ ⟨Nat.le_of_ble_eq_true rfl, Nat.le_of_ble_eq_true rfl⟩ hl.1 rfl (Nat.le_of_ble_eq_true rfl) dX6_thing_95 ⟨Nat.zero_le _, Nat.zero_le _⟩) rfl ?_
        refine x_ifeq_b (tgt := 111) hx hb dX6_thing_98 (by decide) (fun h_98 => ?_) (fun h_98 => ?_)
        · refine lv_iconst (v := 2) hx hb dX6_thing_111 (by decide) ?_
          refine lv_istore (lv' := [(6, .int 2), (5, .int (nI (rHd r cn))), (0, .ref (G 0)), (1, .int (nI cn)), (2, .int i), (3, .int 1), (4, .int nu)]) hx hb dX6_thing_112 hl (by decide) rfl (fun ls hl => ?_)
          refine lv_iload hx hb dX6_thing_114 (lv_at hl 0 rfl) ?_
          refine lv_if_ne (tgt := 139) hx hb dX6_thing_116 (by decide) (fun _ => ?_) (fun h => absurd h (by decide))
          refine lv_iload hx hb dX6_thing_139 (lv_at hl 0 rfl) ?_
          refine lv_istore (lv' := [(6, .int 2), (5, .int (nI (rHd r cn))), (0, .ref (G 0)), (1, .int (nI cn)), (2, .int i), (3, .int 1), (4, .int nu)]) hx hb dX6_thing_141 hl (by decide) rfl (fun ls hl => ?_)
          refine lv_iload hx hb dX6_thing_143 (lv_at hl 0 rfl) ?_
          refine lv_if_eq (tgt := 154) hx hb dX6_thing_145 (by decide) (fun h => absurd h (by decide)) (fun _ => ?_)
          refine lv_iload hx hb dX6_thing_148 (lv_at hl 0 rfl) ?_
          refine px_goV (st1 := [.int (-12)]) (px_callS F hK (c_X6_answer l D cy _ 2) kc_X6_answer kw_methodLink_RX6_65 rfl trivial rfl ⟨rfl, rfl⟩ ⟨Nat.le_of_ble_eq_true rfl, Nat.le_of_ble_eq_true rfl⟩ hl.1 rfl (Nat.le_of_ble_eq_true rfl) dX6_thing_150 ⟨Nat.zero_le _, Nat.zero_le _⟩) rfl ?_
          exact px_iret F hr hlocks hS (by have e : f_thing r (nI cn) i (nI 1) nu = (sIM (sTN (sM r ((rM r) + 1)) (va_up (rTN r) ((rM r) + 1) nu)) (va_up (rIM r) ((rM r) + 1) true), (-12)) := (by simp [f_thing, f_no, f_thno, f_newT, h_4, h_13, q1, q2, q3, q4, h_31, h_98, ix_nI (show cn < 2 ^ 31 by omega)] <;> rfl); rw [e]; exact ⟨rfl, _, _, hR⟩) dX6_thing_153
        · refine lv_aload_n hx hb dX6_thing_101 rfl (lv_at hl 1 rfl) ?_
          refine lv_iload hx hb dX6_thing_102 (lv_at hl 0 rfl) ?_
          refine lv_iload_n hx hb dX6_thing_104 rfl (lv_at hl 3 rfl) ?_
          refine px_goV (st1 := [.int (nI (f_looked r (rHd r cn) i))]) (px_callV F hK (c_X6_looked l D cy A G (sIM (sTN (sM r ((rM r) + 1)) (va_up (rTN r) ((rM r) + 1) nu)) (va_up (rIM r) ((rM r) + 1) true)) _ _ _ (rHd r cn) i (by omega)) kc_X6_looked kw_methodLink_RX6_108 rfl hR (m_recv hK hR) rfl ⟨rfl, rfl⟩ ⟨Nat.le_of_ble_eq_true rfl, Nat.le_of_ble_eq_true rfl⟩ hl.1 rfl (Nat.le_of_ble_eq_true rfl) dX6_thing_105 ⟨Nat.zero_le _, Nat.zero_le _⟩) rfl ?_
          refine lv_goto (tgt := 112) hx hb dX6_thing_108 (by decide) ?_
          refine lv_istore (lv' := [(6, .int (nI (f_looked r (rHd r cn) i))), (5, .int (nI (rHd r cn))), (0, .ref (G 0)), (1, .int (nI cn)), (2, .int i), (3, .int 1), (4, .int nu)]) hx hb dX6_thing_112 hl (by decide) rfl (fun ls hl => ?_)
          refine lv_iload hx hb dX6_thing_114 (lv_at hl 0 rfl) ?_
          refine lv_if_ne (tgt := 139) hx hb dX6_thing_116 (by decide) (fun h_116 => ?_) (fun h_116 => ?_)
          · have h_116 : ¬ (f_looked r (rHd r cn) i) = 0 := nIne (show ¬ nI (f_looked r (rHd r cn) i) = nI 0 from h_116)
            refine lv_iload hx hb dX6_thing_139 (lv_at hl 0 rfl) ?_
            refine lv_istore (lv' := [(6, .int (nI (f_looked r (rHd r cn) i))), (5, .int (nI (rHd r cn))), (0, .ref (G 0)), (1, .int (nI cn)), (2, .int i), (3, .int 1), (4, .int nu)]) hx hb dX6_thing_141 hl (by decide) rfl (fun ls hl => ?_)
            refine lv_iload hx hb dX6_thing_143 (lv_at hl 0 rfl) ?_
            refine lv_if_eq (tgt := 154) hx hb dX6_thing_145 (by decide) (fun h_145 => by exfalso; have h_145 : (f_looked r (rHd r cn) i) = 0 := nIeq (show nI (f_looked r (rHd r cn) i) = nI 0 from h_145) (by omega) (by omega); omega) (fun h_145 => ?_)
            have h_145 : ¬ (f_looked r (rHd r cn) i) = 0 := nIne (show ¬ nI (f_looked r (rHd r cn) i) = nI 0 from h_145)
            refine lv_iload hx hb dX6_thing_148 (lv_at hl 0 rfl) ?_
            refine px_goV (st1 := [.int (-10 - (nI (f_looked r (rHd r cn) i)))]) (px_callS F hK (c_X6_answer l D cy _ (nI (f_looked r (rHd r cn) i))) kc_X6_answer kw_methodLink_RX6_65 rfl trivial rfl ⟨rfl, rfl⟩ ⟨Nat.le_of_ble_eq_true rfl, Nat.le_of_ble_eq_true rfl⟩ hl.1 rfl (Nat.le_of_ble_eq_true rfl) dX6_thing_150 ⟨Nat.zero_le _, Nat.zero_le _⟩) rfl ?_
            exact px_iret F hr hlocks hS (by have e : f_thing r (nI cn) i (nI 1) nu = (sIM (sTN (sM r ((rM r) + 1)) (va_up (rTN r) ((rM r) + 1) nu)) (va_up (rIM r) ((rM r) + 1) true), -10 - (nI (f_looked r (rHd r cn) i))) := (by simp [f_thing, f_no, f_thno, f_newT, h_4, h_13, q1, q2, q3, q4, h_31, h_98, h_116, h_145, ix_nI (show cn < 2 ^ 31 by omega)] <;> rfl); rw [e]; exact ⟨rfl, _, _, hR⟩) dX6_thing_153
          · have h_116 : (f_looked r (rHd r cn) i) = 0 := nIeq (show nI (f_looked r (rHd r cn) i) = nI 0 from h_116) (by omega) (by omega)
            refine lv_iload_n hx hb dX6_thing_119 rfl (lv_at hl 5 rfl) ?_
            refine lv_if_ne (tgt := 139) hx hb dX6_thing_120 (by decide) (fun _ => ?_) (fun h => absurd h (by decide))
            refine lv_iload hx hb dX6_thing_139 (lv_at hl 0 rfl) ?_
            refine lv_istore (lv' := [(6, .int (nI (f_looked r (rHd r cn) i))), (5, .int (nI (rHd r cn))), (0, .ref (G 0)), (1, .int (nI cn)), (2, .int i), (3, .int 1), (4, .int nu)]) hx hb dX6_thing_141 hl (by decide) rfl (fun ls hl => ?_)
            refine lv_iload hx hb dX6_thing_143 (lv_at hl 0 rfl) ?_
            refine lv_if_eq (tgt := 154) hx hb dX6_thing_145 (by decide) (fun h_145 => ?_) (fun h_145 => by exfalso; have h_145 : ¬ (f_looked r (rHd r cn) i) = 0 := nIne (show ¬ nI (f_looked r (rHd r cn) i) = nI 0 from h_145); omega)
            have h_145 : (f_looked r (rHd r cn) i) = 0 := nIeq (show nI (f_looked r (rHd r cn) i) = nI 0 from h_145) (by omega) (by omega)
            obtain ⟨ht0_j, j, hj_j, rfl⟩ := looked_0 h_145 (by omega)
            refine lv_aload_n hx hb dX6_thing_154 rfl (lv_at hl 2 rfl) ?_
            refine lv_iload hx hb dX6_thing_155 (lv_at hl 1 rfl) ?_
            refine lv_iload_n hx hb dX6_thing_157 rfl (lv_at hl 4 rfl) ?_
            refine lv_iload_n hx hb dX6_thing_158 rfl (lv_at hl 5 rfl) ?_
            refine lv_iconst (v := 2) hx hb dX6_thing_159 (by decide) ?_
            refine lv_icmp_ne (tgt := 167) hx hb dX6_thing_160 (by decide) (fun _ => ?_) (fun h => absurd h (by decide))
            refine lv_aload_n hx hb dX6_thing_167 rfl (lv_at hl 2 rfl) ?_
            refine m_get F hK hR 6 (by decide) rfl kw_fieldLink_RX6_122 dX6_thing_168 ?_
            refine lv_i2l (v := lN ((rM r) + 1)) hx hb dX6_thing_171 (nI_l (n := ((rM r) + 1)) (by omega)) ?_
            refine px_goMx (st1 := []) (px_callV F hK (c_X6_put l D cy A G (sIM (sTN (sM r ((rM r) + 1)) (va_up (rTN r) ((rM r) + 1) nu)) (va_up (rIM r) ((rM r) + 1) true)) _ _ _ (rHd r cn) j (lN ((rM r) + 1)) (by omega) (show rS r (rHd r cn) + j < 12200 by omega)) kc_X6_put kw_methodLink_RX6_76 rfl hR (m_recv hK hR) rfl ⟨rfl, rfl⟩ ⟨Nat.le_of_ble_eq_true rfl, Nat.le_of_ble_eq_true rfl⟩ hl.1 rfl (Nat.le_of_ble_eq_true rfl) dX6_thing_172 ⟨Nat.zero_le _, Nat.zero_le _⟩) hS rfl (fun H locs hR hS => ?_)
            refine lv_iconst (v := 1) hx hb dX6_thing_175 (by decide) ?_
            exact px_iret F hr hlocks hS (by have e : f_thing r (nI cn) (nI j) (nI 1) nu = (f_put (sIM (sTN (sM r ((rM r) + 1)) (va_up (rTN r) ((rM r) + 1) nu)) (va_up (rIM r) ((rM r) + 1) true)) (rHd r cn) j (lN ((rM r) + 1)), 1) := (by simp [f_thing, f_no, f_thno, f_newT, h_4, h_13, q1, q2, q3, q4, h_31, h_98, h_116, h_145, ix_nI (show cn < 2 ^ 31 by omega), ix_nI (show j < 2 ^ 31 by omega)] <;> rfl); rw [e]; exact ⟨rfl, _, _, hR⟩) dX6_thing_176
      · have q1 : (nI 2 < (2 : Int32)) = False := eq_false (by decide)
        have q2 : (nI 2 = (0 : Int32)) = False := eq_false (by decide)
        have q3 : (nI 2 = (1 : Int32)) = False := eq_false (by decide)
        have q4 : ¬ 3000 ≤ rM r := (by omega)
        refine lv_iload_n hx hb dX6_thing_19 rfl (lv_at hl 3 rfl) ?_
        refine lv_iconst (v := 2) hx hb dX6_thing_20 (by decide) ?_
        refine lv_icmp_ge (tgt := 37) hx hb dX6_thing_21 (by decide) (fun _ => ?_) (fun h => absurd h (by decide))
        refine lv_iload_n hx hb dX6_thing_37 rfl (lv_at hl 3 rfl) ?_
        refine lv_iconst (v := 2) hx hb dX6_thing_38 (by decide) ?_
        refine lv_icmp_ge (tgt := 82) hx hb dX6_thing_39 (by decide) (fun _ => ?_) (fun h => absurd h (by decide))
        refine lv_aload_n hx hb dX6_thing_82 rfl (lv_at hl 0 rfl) ?_
        refine m_get F hK hR 9 (by decide) rfl kw_fieldLink_RX6_31 dX6_thing_83 ?_
        refine lv_iload_n hx hb dX6_thing_86 rfl (lv_at hl 1 rfl) ?_
        refine m_ldHd F hK hR cn rfl (by omega) dX6_thing_87 ?_
        refine lv_istore (lv' := [(5, .int (nI (rHd r cn))), (0, .ref (G 0)), (1, .int (nI cn)), (2, .int i), (3, .int 2), (4, .int nu)]) hx hb dX6_thing_88 hl (by decide) rfl (fun ls hl => ?_)
        refine lv_aload_n hx hb dX6_thing_90 rfl (lv_at hl 1 rfl) ?_
        refine lv_iload hx hb dX6_thing_91 (lv_at hl 0 rfl) ?_
        refine lv_bipush (v := 8) hx hb dX6_thing_93 (by decide) ?_
        refine px_goV (st1 := [.int (b2i (f_isOf r (rHd r cn) 8))]) (px_callV F hK (c_X6_isOf l D cy A G r _ _ _ (rHd r cn) 8 (by omega) (by omega) (show rK r (rHd r cn) < 100 by omega)) kc_X6_isOf kw_methodLink_RX6_90 rfl hR (m_recv hK hR) rfl ⟨rfl, rfl⟩ ⟨Nat.le_of_ble_eq_true rfl, Nat.le_of_ble_eq_true rfl⟩ hl.1 rfl (Nat.le_of_ble_eq_true rfl) dX6_thing_95 ⟨Nat.zero_le _, Nat.zero_le _⟩) rfl ?_
        refine x_ifeq_b (tgt := 111) hx hb dX6_thing_98 (by decide) (fun h_98 => ?_) (fun h_98 => ?_)
        · refine lv_iconst (v := 2) hx hb dX6_thing_111 (by decide) ?_
          refine lv_istore (lv' := [(6, .int 2), (5, .int (nI (rHd r cn))), (0, .ref (G 0)), (1, .int (nI cn)), (2, .int i), (3, .int 2), (4, .int nu)]) hx hb dX6_thing_112 hl (by decide) rfl (fun ls hl => ?_)
          refine lv_iload hx hb dX6_thing_114 (lv_at hl 0 rfl) ?_
          refine lv_if_ne (tgt := 139) hx hb dX6_thing_116 (by decide) (fun _ => ?_) (fun h => absurd h (by decide))
          refine lv_iload hx hb dX6_thing_139 (lv_at hl 0 rfl) ?_
          refine lv_istore (lv' := [(6, .int 2), (5, .int (nI (rHd r cn))), (0, .ref (G 0)), (1, .int (nI cn)), (2, .int i), (3, .int 2), (4, .int nu)]) hx hb dX6_thing_141 hl (by decide) rfl (fun ls hl => ?_)
          refine lv_iload hx hb dX6_thing_143 (lv_at hl 0 rfl) ?_
          refine lv_if_eq (tgt := 154) hx hb dX6_thing_145 (by decide) (fun h => absurd h (by decide)) (fun _ => ?_)
          refine lv_iload hx hb dX6_thing_148 (lv_at hl 0 rfl) ?_
          refine px_goV (st1 := [.int (-12)]) (px_callS F hK (c_X6_answer l D cy _ 2) kc_X6_answer kw_methodLink_RX6_65 rfl trivial rfl ⟨rfl, rfl⟩ ⟨Nat.le_of_ble_eq_true rfl, Nat.le_of_ble_eq_true rfl⟩ hl.1 rfl (Nat.le_of_ble_eq_true rfl) dX6_thing_150 ⟨Nat.zero_le _, Nat.zero_le _⟩) rfl ?_
          exact px_iret F hr hlocks hS (by have e : f_thing r (nI cn) i (nI 2) nu = (r, (-12)) := (by simp [f_thing, f_no, f_thno, f_newT, h_4, h_13, q1, q2, q3, q4, h_98, ix_nI (show cn < 2 ^ 31 by omega)] <;> rfl); rw [e]; exact ⟨rfl, _, _, hR⟩) dX6_thing_153
        · refine lv_aload_n hx hb dX6_thing_101 rfl (lv_at hl 1 rfl) ?_
          refine lv_iload hx hb dX6_thing_102 (lv_at hl 0 rfl) ?_
          refine lv_iload_n hx hb dX6_thing_104 rfl (lv_at hl 3 rfl) ?_
          refine px_goV (st1 := [.int (nI (f_looked r (rHd r cn) i))]) (px_callV F hK (c_X6_looked l D cy A G r _ _ _ (rHd r cn) i (by omega)) kc_X6_looked kw_methodLink_RX6_108 rfl hR (m_recv hK hR) rfl ⟨rfl, rfl⟩ ⟨Nat.le_of_ble_eq_true rfl, Nat.le_of_ble_eq_true rfl⟩ hl.1 rfl (Nat.le_of_ble_eq_true rfl) dX6_thing_105 ⟨Nat.zero_le _, Nat.zero_le _⟩) rfl ?_
          refine lv_goto (tgt := 112) hx hb dX6_thing_108 (by decide) ?_
          refine lv_istore (lv' := [(6, .int (nI (f_looked r (rHd r cn) i))), (5, .int (nI (rHd r cn))), (0, .ref (G 0)), (1, .int (nI cn)), (2, .int i), (3, .int 2), (4, .int nu)]) hx hb dX6_thing_112 hl (by decide) rfl (fun ls hl => ?_)
          refine lv_iload hx hb dX6_thing_114 (lv_at hl 0 rfl) ?_
          refine lv_if_ne (tgt := 139) hx hb dX6_thing_116 (by decide) (fun h_116 => ?_) (fun h_116 => ?_)
          · have h_116 : ¬ (f_looked r (rHd r cn) i) = 0 := nIne (show ¬ nI (f_looked r (rHd r cn) i) = nI 0 from h_116)
            refine lv_iload hx hb dX6_thing_139 (lv_at hl 0 rfl) ?_
            refine lv_istore (lv' := [(6, .int (nI (f_looked r (rHd r cn) i))), (5, .int (nI (rHd r cn))), (0, .ref (G 0)), (1, .int (nI cn)), (2, .int i), (3, .int 2), (4, .int nu)]) hx hb dX6_thing_141 hl (by decide) rfl (fun ls hl => ?_)
            refine lv_iload hx hb dX6_thing_143 (lv_at hl 0 rfl) ?_
            refine lv_if_eq (tgt := 154) hx hb dX6_thing_145 (by decide) (fun h_145 => by exfalso; have h_145 : (f_looked r (rHd r cn) i) = 0 := nIeq (show nI (f_looked r (rHd r cn) i) = nI 0 from h_145) (by omega) (by omega); omega) (fun h_145 => ?_)
            have h_145 : ¬ (f_looked r (rHd r cn) i) = 0 := nIne (show ¬ nI (f_looked r (rHd r cn) i) = nI 0 from h_145)
            refine lv_iload hx hb dX6_thing_148 (lv_at hl 0 rfl) ?_
            refine px_goV (st1 := [.int (-10 - (nI (f_looked r (rHd r cn) i)))]) (px_callS F hK (c_X6_answer l D cy _ (nI (f_looked r (rHd r cn) i))) kc_X6_answer kw_methodLink_RX6_65 rfl trivial rfl ⟨rfl, rfl⟩ ⟨Nat.le_of_ble_eq_true rfl, Nat.le_of_ble_eq_true rfl⟩ hl.1 rfl (Nat.le_of_ble_eq_true rfl) dX6_thing_150 ⟨Nat.zero_le _, Nat.zero_le _⟩) rfl ?_
            exact px_iret F hr hlocks hS (by have e : f_thing r (nI cn) i (nI 2) nu = (r, -10 - (nI (f_looked r (rHd r cn) i))) := (by simp [f_thing, f_no, f_thno, f_newT, h_4, h_13, q1, q2, q3, q4, h_98, h_116, h_145, ix_nI (show cn < 2 ^ 31 by omega)] <;> rfl); rw [e]; exact ⟨rfl, _, _, hR⟩) dX6_thing_153
          · have h_116 : (f_looked r (rHd r cn) i) = 0 := nIeq (show nI (f_looked r (rHd r cn) i) = nI 0 from h_116) (by omega) (by omega)
            refine lv_iload_n hx hb dX6_thing_119 rfl (lv_at hl 5 rfl) ?_
            refine lv_if_ne (tgt := 139) hx hb dX6_thing_120 (by decide) (fun _ => ?_) (fun h => absurd h (by decide))
            refine lv_iload hx hb dX6_thing_139 (lv_at hl 0 rfl) ?_
            refine lv_istore (lv' := [(6, .int (nI (f_looked r (rHd r cn) i))), (5, .int (nI (rHd r cn))), (0, .ref (G 0)), (1, .int (nI cn)), (2, .int i), (3, .int 2), (4, .int nu)]) hx hb dX6_thing_141 hl (by decide) rfl (fun ls hl => ?_)
            refine lv_iload hx hb dX6_thing_143 (lv_at hl 0 rfl) ?_
            refine lv_if_eq (tgt := 154) hx hb dX6_thing_145 (by decide) (fun h_145 => ?_) (fun h_145 => by exfalso; have h_145 : ¬ (f_looked r (rHd r cn) i) = 0 := nIne (show ¬ nI (f_looked r (rHd r cn) i) = nI 0 from h_145); omega)
            have h_145 : (f_looked r (rHd r cn) i) = 0 := nIeq (show nI (f_looked r (rHd r cn) i) = nI 0 from h_145) (by omega) (by omega)
            obtain ⟨ht0_j, j, hj_j, rfl⟩ := looked_0 h_145 (by omega)
            refine lv_aload_n hx hb dX6_thing_154 rfl (lv_at hl 2 rfl) ?_
            refine lv_iload hx hb dX6_thing_155 (lv_at hl 1 rfl) ?_
            refine lv_iload_n hx hb dX6_thing_157 rfl (lv_at hl 4 rfl) ?_
            refine lv_iload_n hx hb dX6_thing_158 rfl (lv_at hl 5 rfl) ?_
            refine lv_iconst (v := 2) hx hb dX6_thing_159 (by decide) ?_
            refine lv_icmp_ne (tgt := 167) hx hb dX6_thing_160 (by decide) (fun h => absurd h (by decide)) (fun _ => ?_)
            refine lv_lconst (v := 0) hx hb dX6_thing_163 (by decide) ?_
            refine lv_goto (tgt := 172) hx hb dX6_thing_164 (by decide) ?_
            refine px_goMx (st1 := []) (px_callV F hK (c_X6_put l D cy A G r _ _ _ (rHd r cn) j 0 (by omega) (show rS r (rHd r cn) + j < 12200 by omega)) kc_X6_put kw_methodLink_RX6_76 rfl hR (m_recv hK hR) rfl ⟨rfl, rfl⟩ ⟨Nat.le_of_ble_eq_true rfl, Nat.le_of_ble_eq_true rfl⟩ hl.1 rfl (Nat.le_of_ble_eq_true rfl) dX6_thing_172 ⟨Nat.zero_le _, Nat.zero_le _⟩) hS rfl (fun H locs hR hS => ?_)
            refine lv_iconst (v := 1) hx hb dX6_thing_175 (by decide) ?_
            exact px_iret F hr hlocks hS (by have e : f_thing r (nI cn) (nI j) (nI 2) nu = (f_put r (rHd r cn) j 0, 1) := (by simp [f_thing, f_no, f_thno, f_newT, h_4, h_13, q1, q2, q3, q4, h_98, h_116, h_145, ix_nI (show cn < 2 ^ 31 by omega), ix_nI (show j < 2 ^ 31 by omega)] <;> rfl); rw [e]; exact ⟨rfl, _, _, hR⟩) dX6_thing_176
    · refine lv_bipush (v := -2) hx hb dX6_thing_16 (by decide) ?_
      exact px_iret F hr hlocks hS (by have e : f_thing r cl i mk nu = (r, (-2)) := (by simp [f_thing, f_no, f_thno, f_newT, h_4, h_13] <;> rfl); rw [e]; exact ⟨rfl, _, _, hR⟩) dX6_thing_18
set_option maxHeartbeats 400000 in
set_option maxRecDepth 100000 in
theorem c_X6_areThingsLike (l : Launch) (D : va_G) (cy : Nat → ClassId) (A : Nat → Prop) (G : Nat → Nat) (r : RS) (C : Nat → Nat) (E : Nat → Int64) (sz : Nat) (x y : Nat) (hx1 : x < 3100) (hy1 : y < 3100) : Met l yX6_areThingsLike (px_w yX6_areThingsLike cX6_areThingsLike 3 (some .boolean)) (rmd 1 0 0) (px_P D cy [.ref (G 0), .int (nI x), .int (nI y)] sz (MR D cy A G r C E)) (px_V (some (.int (b2i (f_thl r x y))))) 0 0 (fun _ => False) := by
  refine px_met (by decide) (Nat.le_of_ble_eq_true rfl) ?_
  intro p e s m below meth c F hr hlocks hnm hK hsz hR ls hl
  have hx := F.1
  have hb := F.2.1
  have hl : lv_has ls 3 [(0, .ref (G 0)), (1, .int (nI x)), (2, .int (nI y))] := hl
  refine lv_iload_n hx hb dX6_areThingsLike_0 rfl (lv_at hl 1 rfl) ?_
  refine lv_iload_n hx hb dX6_areThingsLike_1 rfl (lv_at hl 2 rfl) ?_
  refine lv_icmp_eq (tgt := 43) hx hb dX6_areThingsLike_2 (by decide) (fun h_2 => ?_) (fun h_2 => ?_)
  · have h_2 : x = y := nIeq (show nI x = nI y from h_2) (by omega) (by omega)
    refine lv_iconst (v := 1) hx hb dX6_areThingsLike_43 (by decide) ?_
    refine lv_goto (tgt := 48) hx hb dX6_areThingsLike_44 (by decide) ?_
    exact pv_zret F hr hlocks (Or.inr rfl) (by simp [f_thl, b2i, h_2] <;> omega) dX6_areThingsLike_48
  · have h_2 : ¬ x = y := nIne (show ¬ nI x = nI y from h_2)
    refine lv_iload_n hx hb dX6_areThingsLike_5 rfl (lv_at hl 1 rfl) ?_
    refine lv_if_eq (tgt := 47) hx hb dX6_areThingsLike_6 (by decide) (fun h_6 => ?_) (fun h_6 => ?_)
    · have h_6 : x = 0 := nIeq (show nI x = nI 0 from h_6) (by omega) (by omega)
      refine lv_iconst (v := 0) hx hb dX6_areThingsLike_47 (by decide) ?_
      exact pv_zret F hr hlocks (Or.inl rfl) (by simp [f_thl, b2i, h_2, h_6] <;> omega) dX6_areThingsLike_48
    · have h_6 : ¬ x = 0 := nIne (show ¬ nI x = nI 0 from h_6)
      refine lv_iload_n hx hb dX6_areThingsLike_9 rfl (lv_at hl 2 rfl) ?_
      refine lv_if_eq (tgt := 47) hx hb dX6_areThingsLike_10 (by decide) (fun h_10 => ?_) (fun h_10 => ?_)
      · have h_10 : y = 0 := nIeq (show nI y = nI 0 from h_10) (by omega) (by omega)
        refine lv_iconst (v := 0) hx hb dX6_areThingsLike_47 (by decide) ?_
        exact pv_zret F hr hlocks (Or.inl rfl) (by simp [f_thl, b2i, h_2, h_6, h_10] <;> omega) dX6_areThingsLike_48
      · have h_10 : ¬ y = 0 := nIne (show ¬ nI y = nI 0 from h_10)
        refine lv_aload_n hx hb dX6_areThingsLike_13 rfl (lv_at hl 0 rfl) ?_
        refine m_get F hK hR 7 (by decide) rfl kw_fieldLink_RX6_24 dX6_areThingsLike_14 ?_
        refine lv_iload_n hx hb dX6_areThingsLike_17 rfl (lv_at hl 1 rfl) ?_
        refine m_ldTN F hK hR x rfl (by omega) dX6_areThingsLike_18 ?_
        refine lv_aload_n hx hb dX6_areThingsLike_19 rfl (lv_at hl 0 rfl) ?_
        refine m_get F hK hR 7 (by decide) rfl kw_fieldLink_RX6_24 dX6_areThingsLike_20 ?_
        refine lv_iload_n hx hb dX6_areThingsLike_23 rfl (lv_at hl 2 rfl) ?_
        refine m_ldTN F hK hR y rfl (by omega) dX6_areThingsLike_24 ?_
        refine lv_icmp_ne (tgt := 47) hx hb dX6_areThingsLike_25 (by decide) (fun h_25 => ?_) (fun h_25 => ?_)
        · have h_25 : ¬ (rTN r x) = (rTN r y) := h_25
          refine lv_iconst (v := 0) hx hb dX6_areThingsLike_47 (by decide) ?_
          exact pv_zret F hr hlocks (Or.inl rfl) (by simp [f_thl, b2i, h_2, h_6, h_10, h_25] <;> omega) dX6_areThingsLike_48
        · have h_25 : (rTN r x) = (rTN r y) := h_25
          refine lv_aload_n hx hb dX6_areThingsLike_28 rfl (lv_at hl 0 rfl) ?_
          refine m_get F hK hR 8 (by decide) rfl kw_fieldLink_RX6_27 dX6_areThingsLike_29 ?_
          refine lv_iload_n hx hb dX6_areThingsLike_32 rfl (lv_at hl 1 rfl) ?_
          refine m_ldIM F hK hR x rfl (by omega) dX6_areThingsLike_33 ?_
          refine lv_aload_n hx hb dX6_areThingsLike_34 rfl (lv_at hl 0 rfl) ?_
          refine m_get F hK hR 8 (by decide) rfl kw_fieldLink_RX6_27 dX6_areThingsLike_35 ?_
          refine lv_iload_n hx hb dX6_areThingsLike_38 rfl (lv_at hl 2 rfl) ?_
          refine m_ldIM F hK hR y rfl (by omega) dX6_areThingsLike_39 ?_
          refine lv_icmp_ne (tgt := 47) hx hb dX6_areThingsLike_40 (by decide) (fun h_40 => ?_) (fun h_40 => ?_)
          · have h_40 : ¬ rIM r x = rIM r y := b2i_ninj h_40
            refine lv_iconst (v := 0) hx hb dX6_areThingsLike_47 (by decide) ?_
            exact pv_zret F hr hlocks (Or.inl rfl) (by simp [f_thl, b2i, h_2, h_6, h_10, h_25, h_40] <;> omega) dX6_areThingsLike_48
          · have h_40 : rIM r x = rIM r y := b2i_inj h_40
            refine lv_iconst (v := 1) hx hb dX6_areThingsLike_43 (by decide) ?_
            refine lv_goto (tgt := 48) hx hb dX6_areThingsLike_44 (by decide) ?_
            exact pv_zret F hr hlocks (Or.inr rfl) (by simp [f_thl, b2i, h_2, h_6, h_10, h_25, h_40] <;> omega) dX6_areThingsLike_48
set_option maxHeartbeats 400000 in
set_option maxRecDepth 100000 in
theorem c_X6_canStand (l : Launch) (D : va_G) (cy : Nat → ClassId) (A : Nat → Prop) (G : Nat → Nat) (r : RS) (C : Nat → Nat) (E : Nat → Int64) (sz : Nat) (a b : Nat) (v : Int64) (ha : a < 13000) (hb1 : b < 13000) (hKa : rK r a < 100) (hKb : rK r b < 100) (hv : 8 ≤ rK r b → v = lN (iv v) ∧ iv v < 13000 ∧ (rK r a < 10 → iv v < 3100) ∧ (10 ≤ rK r a → rK r (iv v) < 100)) : Met l yX6_canStand (px_w yX6_canStand cX6_canStand 6 (some .boolean)) (rmd 3 0 0) (px_P D cy [.ref (G 0), .int (nI a), .long v, .int (nI b)] sz (MR D cy A G r C E)) (px_V (some (.int (b2i (f_canStand r a v b))))) 0 0 (fun _ => False) := by
  refine px_met (by decide) (Nat.le_of_ble_eq_true rfl) ?_
  intro p e s m below meth c F hr hlocks hnm hK hsz hR ls hl
  have hx := F.1
  have hb := F.2.1
  have hl : lv_has ls 6 [(0, .ref (G 0)), (1, .int (nI a)), (2, .long v), (4, .int (nI b))] := hl
  refine lv_aload_n hx hb dX6_canStand_0 rfl (lv_at hl 0 rfl) ?_
  refine m_get F hK hR 1 (by decide) rfl kw_fieldLink_RX6_7 dX6_canStand_1 ?_
  refine lv_iload hx hb dX6_canStand_4 (lv_at hl 3 rfl) ?_
  refine m_ldK F hK hR b rfl (by omega) dX6_canStand_6 ?_
  refine lv_istore (lv' := [(5, .int (nI (rK r b))), (0, .ref (G 0)), (1, .int (nI a)), (2, .long v), (4, .int (nI b))]) hx hb dX6_canStand_7 hl (by decide) rfl (fun ls hl => ?_)
  refine lv_iload hx hb dX6_canStand_9 (lv_at hl 0 rfl) ?_
  refine lv_bipush (v := 8) hx hb dX6_canStand_11 (by decide) ?_
  refine lv_icmp_lt (tgt := 22) hx hb dX6_canStand_13 (by decide) (fun h_13 => ?_) (fun h_13 => ?_)
  · have h_13 : (rK r b) < 8 := nIlt (show nI (rK r b) < nI 8 from h_13) (by omega) (by omega)
    refine lv_iconst (v := 1) hx hb dX6_canStand_22 (by decide) ?_
    exact pv_zret F hr hlocks (Or.inr rfl) (by simp [f_canStand, b2i, show rK r b < 8 by omega]) dX6_canStand_23
  · have h_13 : 8 ≤ (rK r b) := nInlt (show ¬ nI (rK r b) < nI 8 from h_13) (by omega) (by omega)
    refine lv_lload_n hx hb dX6_canStand_16 rfl (lv_at hl 3 rfl) ?_
    refine lv_lconst (v := 0) hx hb dX6_canStand_17 (by decide) ?_
    refine W.lcmp hx hb dX6_canStand_18 ?_
    refine x_cmp_ne (tgt := 24) hx hb dX6_canStand_19 (by decide) (fun h_19 => ?_) (fun h_19 => ?_)
    · have hv1 := hv (by omega)
      refine lv_aload_n hx hb dX6_canStand_24 rfl (lv_at hl 1 rfl) ?_
      refine m_get F hK hR 1 (by decide) rfl kw_fieldLink_RX6_7 dX6_canStand_25 ?_
      refine lv_iload_n hx hb dX6_canStand_28 rfl (lv_at hl 2 rfl) ?_
      refine m_ldK F hK hR a rfl (by omega) dX6_canStand_29 ?_
      refine lv_bipush (v := 10) hx hb dX6_canStand_30 (by decide) ?_
      refine lv_icmp_ge (tgt := 65) hx hb dX6_canStand_32 (by decide) (fun h_32 => ?_) (fun h_32 => ?_)
      · have h_32 : 10 ≤ (rK r a) := nIle (show nI 10 ≤ nI (rK r a) from h_32) (by omega) (by omega)
        refine lv_iload hx hb dX6_canStand_65 (lv_at hl 0 rfl) ?_
        refine lv_bipush (v := 10) hx hb dX6_canStand_67 (by decide) ?_
        refine lv_icmp_lt (tgt := 90) hx hb dX6_canStand_69 (by decide) (fun h_69 => ?_) (fun h_69 => ?_)
        · have h_69 : (rK r b) < 10 := nIlt (show nI (rK r b) < nI 10 from h_69) (by omega) (by omega)
          refine lv_iconst (v := 0) hx hb dX6_canStand_90 (by decide) ?_
          exact pv_zret F hr hlocks (Or.inl rfl) (by simp [f_canStand, b2i, show ¬ rK r b < 8 by omega, show ¬ rK r a < 10 by omega, show ¬ 10 ≤ rK r b by omega, h_19]) dX6_canStand_91
        · have h_69 : 10 ≤ (rK r b) := nInlt (show ¬ nI (rK r b) < nI 10 from h_69) (by omega) (by omega)
          refine lv_aload_n hx hb dX6_canStand_72 rfl (lv_at hl 1 rfl) ?_
          refine lv_lload_n hx hb dX6_canStand_73 rfl (lv_at hl 3 rfl) ?_
          have hv3 := hv1.2.2.2 (by omega)
          have hrk := rkN_le (rK r b)
          refine px_topl hv1.1 ?_
          refine lv_l2i (v := nI (iv (v))) hx hb dX6_canStand_74 (lN_i _) ?_
          refine lv_iload hx hb dX6_canStand_75 (lv_at hl 0 rfl) ?_
          refine px_goV (st1 := [.int (nI (rkN (rK r b))), .int (nI (iv (v))), .ref (G 0)]) (px_callS F hK (c_X6_rowKind l D cy _ (rK r b) (by omega)) kc_X6_rowKind kw_methodLink_RX6_73 rfl trivial rfl ⟨rfl, rfl⟩ ⟨Nat.le_of_ble_eq_true rfl, Nat.le_of_ble_eq_true rfl⟩ hl.1 rfl (Nat.le_of_ble_eq_true rfl) dX6_canStand_77 ⟨Nat.zero_le _, Nat.zero_le _⟩) rfl ?_
          refine px_goV (st1 := [.int (b2i (f_isOf r (iv (v)) (rkN (rK r b))))]) (px_callV F hK (c_X6_isOf l D cy A G r _ _ _ (iv (v)) (rkN (rK r b)) (by omega) (by omega) (show rK r (iv (v)) < 100 by omega)) kc_X6_isOf kw_methodLink_RX6_90 rfl hR (m_recv hK hR) rfl ⟨rfl, rfl⟩ ⟨Nat.le_of_ble_eq_true rfl, Nat.le_of_ble_eq_true rfl⟩ hl.1 rfl (Nat.le_of_ble_eq_true rfl) dX6_canStand_80 ⟨Nat.zero_le _, Nat.zero_le _⟩) rfl ?_
          refine x_ifeq_b (tgt := 90) hx hb dX6_canStand_83 (by decide) (fun h_83 => ?_) (fun h_83 => ?_)
          · refine lv_iconst (v := 0) hx hb dX6_canStand_90 (by decide) ?_
            exact pv_zret F hr hlocks (Or.inl rfl) (by simp [f_canStand, b2i, show ¬ rK r b < 8 by omega, show ¬ rK r a < 10 by omega, show 10 ≤ rK r b by omega, h_19, h_83]) dX6_canStand_91
          · refine lv_iconst (v := 1) hx hb dX6_canStand_86 (by decide) ?_
            refine lv_goto (tgt := 91) hx hb dX6_canStand_87 (by decide) ?_
            exact pv_zret F hr hlocks (Or.inr rfl) (by simp [f_canStand, b2i, show ¬ rK r b < 8 by omega, show ¬ rK r a < 10 by omega, show 10 ≤ rK r b by omega, h_19, h_83]) dX6_canStand_91
      · have h_32 : (rK r a) < 10 := nInle (show ¬ nI 10 ≤ nI (rK r a) from h_32) (by omega) (by omega)
        refine lv_iload hx hb dX6_canStand_35 (lv_at hl 0 rfl) ?_
        refine lv_bipush (v := 8) hx hb dX6_canStand_37 (by decide) ?_
        refine lv_icmp_eq (tgt := 59) hx hb dX6_canStand_39 (by decide) (fun h_39 => ?_) (fun h_39 => ?_)
        · have h_39 : (rK r b) = 8 := nIeq (show nI (rK r b) = nI 8 from h_39) (by omega) (by omega)
          refine lv_iconst (v := 1) hx hb dX6_canStand_59 (by decide) ?_
          refine lv_goto (tgt := 64) hx hb dX6_canStand_60 (by decide) ?_
          exact pv_zret F hr hlocks (Or.inr rfl) (by simp [f_canStand, b2i, show ¬ rK r b < 8 by omega, show rK r a < 10 by omega, h_19, h_39]) dX6_canStand_64
        · have h_39 : ¬ (rK r b) = 8 := nIne (show ¬ nI (rK r b) = nI 8 from h_39)
          refine lv_iload hx hb dX6_canStand_42 (lv_at hl 0 rfl) ?_
          refine lv_bipush (v := 9) hx hb dX6_canStand_44 (by decide) ?_
          refine lv_icmp_ne (tgt := 63) hx hb dX6_canStand_46 (by decide) (fun h_46 => ?_) (fun h_46 => ?_)
          · have h_46 : ¬ (rK r b) = 9 := nIne (show ¬ nI (rK r b) = nI 9 from h_46)
            refine lv_iconst (v := 0) hx hb dX6_canStand_63 (by decide) ?_
            exact pv_zret F hr hlocks (Or.inl rfl) (by simp [f_canStand, b2i, show ¬ rK r b < 8 by omega, show rK r a < 10 by omega, h_19, h_39, h_46]) dX6_canStand_64
          · have h_46 : (rK r b) = 9 := nIeq (show nI (rK r b) = nI 9 from h_46) (by omega) (by omega)
            refine lv_aload_n hx hb dX6_canStand_49 rfl (lv_at hl 1 rfl) ?_
            refine m_get F hK hR 8 (by decide) rfl kw_fieldLink_RX6_27 dX6_canStand_50 ?_
            refine lv_lload_n hx hb dX6_canStand_53 rfl (lv_at hl 3 rfl) ?_
            have hv2 := hv1.2.2.1 (by omega)
            refine px_topl hv1.1 ?_
            refine lv_l2i (v := nI (iv (v))) hx hb dX6_canStand_54 (lN_i _) ?_
            refine m_ldIM F hK hR (iv (v)) rfl (by omega) dX6_canStand_55 ?_
            refine x_ifeq_b (tgt := 63) hx hb dX6_canStand_56 (by decide) (fun h_56 => ?_) (fun h_56 => ?_)
            · refine lv_iconst (v := 0) hx hb dX6_canStand_63 (by decide) ?_
              exact pv_zret F hr hlocks (Or.inl rfl) (by simp [f_canStand, b2i, show ¬ rK r b < 8 by omega, show rK r a < 10 by omega, h_19, h_39, h_46, h_56]) dX6_canStand_64
            · refine lv_iconst (v := 1) hx hb dX6_canStand_59 (by decide) ?_
              refine lv_goto (tgt := 64) hx hb dX6_canStand_60 (by decide) ?_
              exact pv_zret F hr hlocks (Or.inr rfl) (by simp [f_canStand, b2i, show ¬ rK r b < 8 by omega, show rK r a < 10 by omega, h_19, h_39, h_46, h_56]) dX6_canStand_64
    · refine lv_iconst (v := 1) hx hb dX6_canStand_22 (by decide) ?_
      exact pv_zret F hr hlocks (Or.inr rfl) (by simp [f_canStand, b2i, show ¬ rK r b < 8 by omega, h_19]) dX6_canStand_23
