/-! the reference: aside -/
set_option maxHeartbeats 400000 in
set_option maxRecDepth 100000 in
theorem c_X6_aside (l : Launch) (D : va_G) (cy : Nat → ClassId) (A : Nat → Prop) (G : Nat → Nat) (r : RS) (C : Nat → Nat) (E : Nat → Int64) (sz : Nat) (cl f : Int32) {kk : Nat} (hI : Inv kk r) : Met l yX6_aside (px_w yX6_aside cX6_aside 6 (some .int)) (rmd 5 0 0) (px_P D cy [.ref (G 0), .int cl, .int f] sz (MR D cy A G r C E)) (px_Q (px_M D cy A G (some (.int (f_aside r C cl f).2)) ((f_aside r C cl f).1)) A) 0 0 A := by
  refine px_met (by decide) (Nat.le_of_ble_eq_true rfl) ?_
  intro p e s m below meth c F hr hlocks hnm hK hsz hR ls hl
  have hx := F.1
  have hb := F.2.1
  have hl : lv_has ls 6 [(0, .ref (G 0)), (1, .int cl), (2, .int f)] := hl
  have hS : va_S A s.heap s.heap [] := va_S.rf
  have hbd := hI.bd
  refine lv_iload_n hx hb dX6_aside_0 rfl (lv_at hl 1 rfl) ?_
  refine px_goV (st1 := [.int (b2i (f_in cl 0 15))]) (px_callS F hK (c_X6_isColumn l D cy _ cl) kc_X6_isColumn kw_methodLink_RX6_53 rfl trivial rfl ⟨rfl, rfl⟩ ⟨Nat.le_of_ble_eq_true rfl, Nat.le_of_ble_eq_true rfl⟩ hl.1 rfl (Nat.le_of_ble_eq_true rfl) dX6_aside_1 ⟨Nat.zero_le _, Nat.zero_le _⟩) rfl ?_
  refine x_ifeq_b (tgt := 14) hx hb dX6_aside_4 (by decide) (fun h_4 => ?_) (fun h_4 => ?_)
  · refine lv_bipush (v := -2) hx hb dX6_aside_14 (by decide) ?_
    exact px_iret F hr hlocks hS (by have e : f_aside r C cl f = (r, (-2)) := (by simp [f_aside, h_4] <;> rfl); rw [e]; exact ⟨rfl, _, _, hR⟩) dX6_aside_16
  · refine lv_iload_n hx hb dX6_aside_7 rfl (lv_at hl 2 rfl) ?_
    refine px_goV (st1 := [.int (b2i (f_in f 0 15))]) (px_callS F hK (c_X6_isColumn l D cy _ f) kc_X6_isColumn kw_methodLink_RX6_53 rfl trivial rfl ⟨rfl, rfl⟩ ⟨Nat.le_of_ble_eq_true rfl, Nat.le_of_ble_eq_true rfl⟩ hl.1 rfl (Nat.le_of_ble_eq_true rfl) dX6_aside_8 ⟨Nat.zero_le _, Nat.zero_le _⟩) rfl ?_
    refine x_ifne_b (tgt := 17) hx hb dX6_aside_11 (by decide) (fun h_11 => ?_) (fun h_11 => ?_)
    · obtain ⟨cn, hl_cn, hh_cn, rfl⟩ := f_in_nat h_4 0 15 (by decide) (by decide) (by decide) (by decide)
      obtain ⟨fn, hl_fn, hh_fn, rfl⟩ := f_in_nat h_11 0 15 (by decide) (by decide) (by decide) (by decide)
      have hc0 := hI.hd fn (by omega)
      have hc1 := hI.tb _ hc0
      refine lv_aload_n hx hb dX6_aside_17 rfl (lv_at hl 0 rfl) ?_
      refine px_goV (st1 := [.int (b2i (decide (6000 ≤ rN r)))]) (px_callV F hK (c_X6_isFull l D cy A G r _ _ _ (by omega)) kc_X6_isFull kw_methodLink_RX6_61 rfl hR (m_recv hK hR) rfl ⟨rfl, rfl⟩ ⟨Nat.le_of_ble_eq_true rfl, Nat.le_of_ble_eq_true rfl⟩ hl.1 rfl (Nat.le_of_ble_eq_true rfl) dX6_aside_18 ⟨Nat.zero_le _, Nat.zero_le _⟩) rfl ?_
      refine x_ifeq_b (tgt := 27) hx hb dX6_aside_21 (by decide) (fun h_21 => ?_) (fun h_21 => ?_)
      · have h_21 : ¬ (6000 ≤ rN r) := of_decide_eq_false h_21
        refine lv_iconst (v := 0) hx hb dX6_aside_27 (by decide) ?_
        refine lv_istore_n (lv' := [(3, .int 0), (0, .ref (G 0)), (1, .int (nI cn)), (2, .int (nI fn))]) hx hb dX6_aside_28 rfl hl (by decide) rfl (fun ls hl => ?_)
        have loop : ∀ (d k : Nat), k + d = (rT r + 1) → ∀ (H : Heap) (locs : List Loc) (ls : Array Slot), MR D cy A G (r) (clrH C k) (E) H → va_S A s.heap H locs → lv_has ls 6 [(3, .int (nI k)), (0, .ref (G 0)), (1, .int (nI cn)), (2, .int (nI fn))] → W p l e (rmd 5 0 0) s m ([.ref (G 0), .int (nI cn), .int (nI fn)] : List Value).toArray below meth c H locs 0 0 (MQ below (px_Q (px_M D cy A G (some (.int (f_aside r C (nI cn) (nI fn)).2)) ((f_aside r C (nI cn) (nI fn)).1)) A) ([.ref (G 0), .int (nI cn), .int (nI fn)] : List Value).toArray s 0 0 A) (F0 m 29 ls []) := by
          intro d
          induction d with
          | zero =>
            intro k hk H locs ls hR hS hl
            refine lv_iload_n hx hb dX6_aside_29 rfl (lv_at hl 0 rfl) ?_
            refine lv_aload_n hx hb dX6_aside_30 rfl (lv_at hl 1 rfl) ?_
            refine m_get F hK hR 0 (by decide) rfl kw_fieldLink_RX6_47 dX6_aside_31 ?_
            refine lv_icmp_gt (tgt := 50) hx hb dX6_aside_34 (by decide) (fun h_34 => ?_) (fun h_34 => by exfalso; have h_34 : k ≤ (rT r) := nInlt (show ¬ nI (rT r) < nI k from h_34) (by omega) (by omega); omega)
            have h_34 : (rT r) < k := nIlt (show nI (rT r) < nI k from h_34) (by omega) (by omega)
            have hkn : k = rT r + 1 := (by omega)
            rw [hkn] at hR
            have hA := AI.init hI C
            have hf : rN r < 6000 := (by omega)
            have hTN := hI.2.1
            have hKK := hI.1
            have hfh : (rHd r fn) ≤ rT r ∧ rK r (rHd r fn) ≤ 13 ∧ rMn r (rHd r fn) ≤ 30 ∧ rS r (rHd r fn) + rMn r (rHd r fn) ≤ rN r ∧ (¬ (rHd r fn) = 0 → (clrH C (rT r + 1)) (rHd r fn) = 0 → rN r + rMn r (rHd r fn) ≤ 12200) ∧ rN r ≤ 12200 ∧ (clrH C (rT r + 1)) (rHd r fn) ≤ rT r := hA.fh hI hf hc0
            refine lv_aload_n hx hb dX6_aside_50 rfl (lv_at hl 1 rfl) ?_
            refine m_get F hK hR 9 (by decide) rfl kw_fieldLink_RX6_31 dX6_aside_51 ?_
            refine lv_iload_n hx hb dX6_aside_54 rfl (lv_at hl 3 rfl) ?_
            refine m_ldHd F hK hR fn rfl (by omega) dX6_aside_55 ?_
            refine lv_istore_n (lv' := [(3, .int (nI (rHd r fn))), (0, .ref (G 0)), (1, .int (nI cn)), (2, .int (nI fn))]) hx hb dX6_aside_56 rfl hl (by decide) rfl (fun ls hl => ?_)
            refine lv_iload_n hx hb dX6_aside_57 rfl (lv_at hl 0 rfl) ?_
            refine lv_if_eq (tgt := 80) hx hb dX6_aside_58 (by decide) (fun h_58 => ?_) (fun h_58 => ?_)
            · have h_58 : (rHd r fn) = 0 := nIeq (show nI (rHd r fn) = nI 0 from h_58) (by omega) (by omega)
              refine lv_aload_n hx hb dX6_aside_80 rfl (lv_at hl 1 rfl) ?_
              refine lv_iload_n hx hb dX6_aside_81 rfl (lv_at hl 0 rfl) ?_
              refine px_goMx (st1 := [.int (nI (a_mans (r, (clrH C (rT r + 1))) (rHd r fn)))]) (px_callV F hK (c_X6_middle l D cy A G r (clrH C (rT r + 1)) _ _ r (rHd r fn) hI hA hf hc0 (by omega)) kc_X6_middle kw_methodLink_RX6_87 rfl hR (m_recv hK hR) rfl ⟨rfl, rfl⟩ ⟨Nat.le_of_ble_eq_true rfl, Nat.le_of_ble_eq_true rfl⟩ hl.1 rfl (Nat.le_of_ble_eq_true rfl) dX6_aside_82 ⟨Nat.zero_le _, Nat.zero_le _⟩) hS rfl (fun H locs hR hS => ?_)
              have hAm := hA.mid hI hc0
              have hqm : rK (a_mid (r, clrH C (rT r + 1)) (rHd r fn)).1 (rHd r fn) = rK r (rHd r fn) ∧ rMn (a_mid (r, clrH C (rT r + 1)) (rHd r fn)).1 (rHd r fn) = rMn r (rHd r fn) ∧ rS (a_mid (r, clrH C (rT r + 1)) (rHd r fn)).1 (rHd r fn) = rS r (rHd r fn) := hAm.1.2.1 _ hc0
              refine lv_istore (lv' := [(4, .int (nI (a_mans (r, (clrH C (rT r + 1))) (rHd r fn)))), (3, .int (nI (rHd r fn))), (0, .ref (G 0)), (1, .int (nI cn)), (2, .int (nI fn))]) hx hb dX6_aside_85 hl (by decide) rfl (fun ls hl => ?_)
              refine lv_iload_n hx hb dX6_aside_87 rfl (lv_at hl 1 rfl) ?_
              refine lv_if_eq (tgt := 143) hx hb dX6_aside_88 (by decide) (fun h_88 => ?_) (fun h_88 => by exfalso; have h_88 : ¬ (rHd r fn) = 0 := nIne (show ¬ nI (rHd r fn) = nI 0 from h_88); omega)
              have h_88 : (rHd r fn) = 0 := nIeq (show nI (rHd r fn) = nI 0 from h_88) (by omega) (by omega)
              refine lv_aload_n hx hb dX6_aside_143 rfl (lv_at hl 2 rfl) ?_
              refine m_get F hK hR 9 (by decide) rfl kw_fieldLink_RX6_31 dX6_aside_144 ?_
              refine lv_iload_n hx hb dX6_aside_147 rfl (lv_at hl 3 rfl) ?_
              refine lv_iload hx hb dX6_aside_148 (lv_at hl 0 rfl) ?_
              refine m_stHd F hK hR hS cn (a_mans (r, (clrH C (rT r + 1))) (rHd r fn)) rfl rfl (by omega) dX6_aside_150 (fun H locs hR hS => ?_)
              refine lv_iconst (v := 1) hx hb dX6_aside_151 (by decide) ?_
              have hHd : rHd (a_mid (r, clrH C (rT r + 1)) (rHd r fn)).1 = rHd r := hAm.1.2.2.2.2.2.2.2.1
              exact px_iret F hr hlocks hS (by have e : f_aside r C (nI cn) (nI fn) = (sHd ((a_mid (r, (clrH C (rT r + 1))) (rHd r fn)).1) (va_up (rHd ((a_mid (r, (clrH C (rT r + 1))) (rHd r fn)).1)) cn (a_mans (r, (clrH C (rT r + 1))) (rHd r fn))), 1) := (by simp only [f_aside, h_4, h_11, ix_nI (show cn < 2 ^ 31 by omega), ix_nI (show fn < 2 ^ 31 by omega), Bool.not_true, Bool.or_self, Bool.false_eq_true, if_false]; rw [if_neg h_21]; rw [hHd, show a_top (r, clrH C (rT r + 1)) (rHd r fn) = a_mid (r, clrH C (rT r + 1)) (rHd r fn) from (by unfold a_top; rw [if_neg (fun q => absurd q.1 (by omega))]), show a_tans (r, clrH C (rT r + 1)) (rHd r fn) = a_mans (r, clrH C (rT r + 1)) (rHd r fn) from (by unfold a_tans; rw [if_neg (fun q => absurd q.1 (by omega))])]); rw [e]; exact ⟨rfl, _, _, hR⟩) dX6_aside_152
            · have h_58 : ¬ (rHd r fn) = 0 := nIne (show ¬ nI (rHd r fn) = nI 0 from h_58)
              refine lv_aload_n hx hb dX6_aside_61 rfl (lv_at hl 1 rfl) ?_
              refine m_get F hK hR 1 (by decide) rfl kw_fieldLink_RX6_7 dX6_aside_62 ?_
              refine lv_iload_n hx hb dX6_aside_65 rfl (lv_at hl 0 rfl) ?_
              refine m_ldK F hK hR (rHd r fn) rfl (by omega) dX6_aside_66 ?_
              refine lv_bipush (v := 13) hx hb dX6_aside_67 (by decide) ?_
              refine lv_icmp_ne (tgt := 80) hx hb dX6_aside_69 (by decide) (fun h_69 => ?_) (fun h_69 => ?_)
              · have h_69 : ¬ (rK r (rHd r fn)) = 13 := nIne (show ¬ nI (rK r (rHd r fn)) = nI 13 from h_69)
                refine lv_aload_n hx hb dX6_aside_80 rfl (lv_at hl 1 rfl) ?_
                refine lv_iload_n hx hb dX6_aside_81 rfl (lv_at hl 0 rfl) ?_
                refine px_goMx (st1 := [.int (nI (a_mans (r, (clrH C (rT r + 1))) (rHd r fn)))]) (px_callV F hK (c_X6_middle l D cy A G r (clrH C (rT r + 1)) _ _ r (rHd r fn) hI hA hf hc0 (by omega)) kc_X6_middle kw_methodLink_RX6_87 rfl hR (m_recv hK hR) rfl ⟨rfl, rfl⟩ ⟨Nat.le_of_ble_eq_true rfl, Nat.le_of_ble_eq_true rfl⟩ hl.1 rfl (Nat.le_of_ble_eq_true rfl) dX6_aside_82 ⟨Nat.zero_le _, Nat.zero_le _⟩) hS rfl (fun H locs hR hS => ?_)
                have hAm := hA.mid hI hc0
                have hqm : rK (a_mid (r, clrH C (rT r + 1)) (rHd r fn)).1 (rHd r fn) = rK r (rHd r fn) ∧ rMn (a_mid (r, clrH C (rT r + 1)) (rHd r fn)).1 (rHd r fn) = rMn r (rHd r fn) ∧ rS (a_mid (r, clrH C (rT r + 1)) (rHd r fn)).1 (rHd r fn) = rS r (rHd r fn) := hAm.1.2.1 _ hc0
                refine lv_istore (lv' := [(4, .int (nI (a_mans (r, (clrH C (rT r + 1))) (rHd r fn)))), (3, .int (nI (rHd r fn))), (0, .ref (G 0)), (1, .int (nI cn)), (2, .int (nI fn))]) hx hb dX6_aside_85 hl (by decide) rfl (fun ls hl => ?_)
                refine lv_iload_n hx hb dX6_aside_87 rfl (lv_at hl 1 rfl) ?_
                refine lv_if_eq (tgt := 143) hx hb dX6_aside_88 (by decide) (fun h_88 => by exfalso; have h_88 : (rHd r fn) = 0 := nIeq (show nI (rHd r fn) = nI 0 from h_88) (by omega) (by omega); omega) (fun h_88 => ?_)
                have h_88 : ¬ (rHd r fn) = 0 := nIne (show ¬ nI (rHd r fn) = nI 0 from h_88)
                refine lv_aload_n hx hb dX6_aside_91 rfl (lv_at hl 2 rfl) ?_
                refine m_get F hK hR 1 (by decide) rfl kw_fieldLink_RX6_7 dX6_aside_92 ?_
                refine lv_iload_n hx hb dX6_aside_95 rfl (lv_at hl 1 rfl) ?_
                refine m_ldK F hK hR (rHd r fn) rfl (by omega) dX6_aside_96 ?_
                refine lv_bipush (v := 13) hx hb dX6_aside_97 (by decide) ?_
                refine lv_icmp_ne (tgt := 143) hx hb dX6_aside_99 (by decide) (fun h_99 => ?_) (fun h_99 => by exfalso; have h_99 : (rK ((a_mid (r, (clrH C (rT r + 1))) (rHd r fn)).1) (rHd r fn)) = 13 := nIeq (show nI (rK ((a_mid (r, (clrH C (rT r + 1))) (rHd r fn)).1) (rHd r fn)) = nI 13 from h_99) (by omega) (by omega); omega)
                have h_99 : ¬ (rK ((a_mid (r, (clrH C (rT r + 1))) (rHd r fn)).1) (rHd r fn)) = 13 := nIne (show ¬ nI (rK ((a_mid (r, (clrH C (rT r + 1))) (rHd r fn)).1) (rHd r fn)) = nI 13 from h_99)
                refine lv_aload_n hx hb dX6_aside_143 rfl (lv_at hl 2 rfl) ?_
                refine m_get F hK hR 9 (by decide) rfl kw_fieldLink_RX6_31 dX6_aside_144 ?_
                refine lv_iload_n hx hb dX6_aside_147 rfl (lv_at hl 3 rfl) ?_
                refine lv_iload hx hb dX6_aside_148 (lv_at hl 0 rfl) ?_
                refine m_stHd F hK hR hS cn (a_mans (r, (clrH C (rT r + 1))) (rHd r fn)) rfl rfl (by omega) dX6_aside_150 (fun H locs hR hS => ?_)
                refine lv_iconst (v := 1) hx hb dX6_aside_151 (by decide) ?_
                have hHd : rHd (a_mid (r, clrH C (rT r + 1)) (rHd r fn)).1 = rHd r := hAm.1.2.2.2.2.2.2.2.1
                exact px_iret F hr hlocks hS (by have e : f_aside r C (nI cn) (nI fn) = (sHd ((a_mid (r, (clrH C (rT r + 1))) (rHd r fn)).1) (va_up (rHd ((a_mid (r, (clrH C (rT r + 1))) (rHd r fn)).1)) cn (a_mans (r, (clrH C (rT r + 1))) (rHd r fn))), 1) := (by simp only [f_aside, h_4, h_11, ix_nI (show cn < 2 ^ 31 by omega), ix_nI (show fn < 2 ^ 31 by omega), Bool.not_true, Bool.or_self, Bool.false_eq_true, if_false]; rw [if_neg h_21]; rw [hHd, show a_top (r, clrH C (rT r + 1)) (rHd r fn) = a_mid (r, clrH C (rT r + 1)) (rHd r fn) from (by unfold a_top; rw [if_neg (fun q => absurd (show rK r (rHd r fn) = 13 from q.2) (by omega))]), show a_tans (r, clrH C (rT r + 1)) (rHd r fn) = a_mans (r, clrH C (rT r + 1)) (rHd r fn) from (by unfold a_tans; rw [if_neg (fun q => absurd (show rK r (rHd r fn) = 13 from q.2) (by omega))])]); rw [e]; exact ⟨rfl, _, _, hR⟩) dX6_aside_152
              · have h_69 : (rK r (rHd r fn)) = 13 := nIeq (show nI (rK r (rHd r fn)) = nI 13 from h_69) (by omega) (by omega)
                refine lv_aload_n hx hb dX6_aside_72 rfl (lv_at hl 1 rfl) ?_
                refine lv_iload_n hx hb dX6_aside_73 rfl (lv_at hl 0 rfl) ?_
                refine px_goMx (st1 := [.int (nI (a_fans (r, (clrH C (rT r + 1))) (rHd r fn)))]) (px_callV F hK (c_X6_flat l D cy A G r (clrH C (rT r + 1)) _ _ (rHd r fn) hfh.1 (by omega) hfh.2.1 hfh.2.2.1 hfh.2.2.2.1 hfh.2.2.2.2.1 hfh.2.2.2.2.2.1 (Nat.lt_of_le_of_lt hfh.2.2.2.2.2.2 (by omega))) kc_X6_flat kw_methodLink_RX6_84 rfl hR (m_recv hK hR) rfl ⟨rfl, rfl⟩ ⟨Nat.le_of_ble_eq_true rfl, Nat.le_of_ble_eq_true rfl⟩ hl.1 rfl (Nat.le_of_ble_eq_true rfl) dX6_aside_74 ⟨Nat.zero_le _, Nat.zero_le _⟩) hS rfl (fun H locs hR hS => ?_)
                refine lv_goto (tgt := 85) hx hb dX6_aside_77 (by decide) ?_
                have hct : clrH C (rT r + 1) (rHd r fn) = 0 := (by simp [clrH]; omega)
                have hAf := hA.flat hI hc0
                have hqf : rK (a_flat (r, clrH C (rT r + 1)) (rHd r fn)).1 (rHd r fn) = rK r (rHd r fn) ∧ rMn (a_flat (r, clrH C (rT r + 1)) (rHd r fn)).1 (rHd r fn) = rMn r (rHd r fn) ∧ rS (a_flat (r, clrH C (rT r + 1)) (rHd r fn)).1 (rHd r fn) = rS r (rHd r fn) := hAf.2.1 _ hc0
                have hnT : rT (a_flat (r, clrH C (rT r + 1)) (rHd r fn)).1 = rT r + 1 := (by rw [a_flat_new (x := (r, clrH C (rT r + 1))) h_58 hct]; rfl)
                have hn2 : a_fans (r, clrH C (rT r + 1)) (rHd r fn) = rT r + 1 := (by unfold a_fans; rw [if_neg h_58, a_flat_new (x := (r, clrH C (rT r + 1))) h_58 hct]; exact va_up_self _ _ _)
                have hfN : rN r ≤ rN (a_flat (r, clrH C (rT r + 1)) (rHd r fn)).1 := (a_flat_T (r, clrH C (rT r + 1)) (rHd r fn)).2.2
                refine px_topi (y := nI (rT r + 1)) (by rw [hn2]) ?_
                refine lv_istore (lv' := [(4, .int (nI (rT r + 1))), (3, .int (nI (rHd r fn))), (0, .ref (G 0)), (1, .int (nI cn)), (2, .int (nI fn))]) hx hb dX6_aside_85 hl (by decide) rfl (fun ls hl => ?_)
                refine lv_iload_n hx hb dX6_aside_87 rfl (lv_at hl 1 rfl) ?_
                refine lv_if_eq (tgt := 143) hx hb dX6_aside_88 (by decide) (fun h_88 => by exfalso; have h_88 : (rHd r fn) = 0 := nIeq (show nI (rHd r fn) = nI 0 from h_88) (by omega) (by omega); omega) (fun h_88 => ?_)
                have h_88 : ¬ (rHd r fn) = 0 := nIne (show ¬ nI (rHd r fn) = nI 0 from h_88)
                refine lv_aload_n hx hb dX6_aside_91 rfl (lv_at hl 2 rfl) ?_
                refine m_get F hK hR 1 (by decide) rfl kw_fieldLink_RX6_7 dX6_aside_92 ?_
                refine lv_iload_n hx hb dX6_aside_95 rfl (lv_at hl 1 rfl) ?_
                refine m_ldK F hK hR (rHd r fn) rfl (by omega) dX6_aside_96 ?_
                refine lv_bipush (v := 13) hx hb dX6_aside_97 (by decide) ?_
                refine lv_icmp_ne (tgt := 143) hx hb dX6_aside_99 (by decide) (fun h_99 => by exfalso; have h_99 : ¬ (rK ((a_flat (r, (clrH C (rT r + 1))) (rHd r fn)).1) (rHd r fn)) = 13 := nIne (show ¬ nI (rK ((a_flat (r, (clrH C (rT r + 1))) (rHd r fn)).1) (rHd r fn)) = nI 13 from h_99); omega) (fun h_99 => ?_)
                have h_99 : (rK ((a_flat (r, (clrH C (rT r + 1))) (rHd r fn)).1) (rHd r fn)) = 13 := nIeq (show nI (rK ((a_flat (r, (clrH C (rT r + 1))) (rHd r fn)).1) (rHd r fn)) = nI 13 from h_99) (by omega) (by omega)
                refine lv_iconst (v := 0) hx hb dX6_aside_102 (by decide) ?_
                refine lv_istore (lv' := [(5, .int 0), (4, .int (nI (rT r + 1))), (3, .int (nI (rHd r fn))), (0, .ref (G 0)), (1, .int (nI cn)), (2, .int (nI fn))]) hx hb dX6_aside_103 hl (by decide) rfl (fun ls hl => ?_)
                have loop2 : ∀ (d2 k2 : Nat), k2 + d2 = rMn r (rHd r fn) → ∀ (H : Heap) (locs : List Loc) (ls : Array Slot), MR D cy A G ((a_topL (rHd r fn) (rT r + 1) (a_flat (r, clrH C (rT r + 1)) (rHd r fn)) k2).1) ((a_topL (rHd r fn) (rT r + 1) (a_flat (r, clrH C (rT r + 1)) (rHd r fn)) k2).2) (E) H → va_S A s.heap H locs → lv_has ls 6 [(5, .int (nI k2)), (4, .int (nI (rT r + 1))), (3, .int (nI (rHd r fn))), (0, .ref (G 0)), (1, .int (nI cn)), (2, .int (nI fn))] → W p l e (rmd 5 0 0) s m ([.ref (G 0), .int (nI cn), .int (nI fn)] : List Value).toArray below meth c H locs 0 0 (MQ below (px_Q (px_M D cy A G (some (.int (f_aside r C (nI cn) (nI fn)).2)) ((f_aside r C (nI cn) (nI fn)).1)) A) ([.ref (G 0), .int (nI cn), .int (nI fn)] : List Value).toArray s 0 0 A) (F0 m 105 ls []) := by
                  intro d2
                  induction d2 with
                  | zero =>
                    intro k2 hk2 H locs ls hR hS hl
                    have hmk := hAf.topL hI h_58 hc0 (by omega) (show rT r < rT r + 1 by omega) (by omega) k2 (by omega)
                    have hq0 := hmk.1.2.1 _ hc0
                    have hmT := hmk.2.1
                    have hmU := hmk.2.2.1
                    have hmN := hmk.1.N
                    refine lv_iload hx hb dX6_aside_105 (lv_at hl 0 rfl) ?_
                    refine lv_aload_n hx hb dX6_aside_107 rfl (lv_at hl 3 rfl) ?_
                    refine m_get F hK hR 2 (by decide) rfl kw_fieldLink_RX6_13 dX6_aside_108 ?_
                    refine lv_iload_n hx hb dX6_aside_111 rfl (lv_at hl 2 rfl) ?_
                    refine m_ldMn F hK hR (rHd r fn) rfl (by omega) dX6_aside_112 ?_
                    refine lv_icmp_ge (tgt := 143) hx hb dX6_aside_113 (by decide) (fun h_113 => ?_) (fun h_113 => by exfalso; have h_113 : k2 < (rMn ((a_topL (rHd r fn) (rT r + 1) (a_flat (r, clrH C (rT r + 1)) (rHd r fn)) k2).1) (rHd r fn)) := nInle (show ¬ nI (rMn ((a_topL (rHd r fn) (rT r + 1) (a_flat (r, clrH C (rT r + 1)) (rHd r fn)) k2).1) (rHd r fn)) ≤ nI k2 from h_113) (by omega) (by omega); omega)
                    have h_113 : (rMn ((a_topL (rHd r fn) (rT r + 1) (a_flat (r, clrH C (rT r + 1)) (rHd r fn)) k2).1) (rHd r fn)) ≤ k2 := nIle (show nI (rMn ((a_topL (rHd r fn) (rT r + 1) (a_flat (r, clrH C (rT r + 1)) (rHd r fn)) k2).1) (rHd r fn)) ≤ nI k2 from h_113) (by omega) (by omega)
                    refine lv_aload_n hx hb dX6_aside_143 rfl (lv_at hl 3 rfl) ?_
                    refine m_get F hK hR 9 (by decide) rfl kw_fieldLink_RX6_31 dX6_aside_144 ?_
                    refine lv_iload_n hx hb dX6_aside_147 rfl (lv_at hl 4 rfl) ?_
                    refine lv_iload hx hb dX6_aside_148 (lv_at hl 1 rfl) ?_
                    refine m_stHd F hK hR hS cn (rT r + 1) rfl rfl (by omega) dX6_aside_150 (fun H locs hR hS => ?_)
                    refine lv_iconst (v := 1) hx hb dX6_aside_151 (by decide) ?_
                    have hk2 : k2 = rMn r (rHd r fn) := (by omega)
                    have hHd : rHd (a_topL (rHd r fn) (rT r + 1) (a_flat (r, clrH C (rT r + 1)) (rHd r fn)) k2).1 = rHd r := hmk.1.2.2.2.2.2.2.2.1
                    exact px_iret F hr hlocks hS (by have e : f_aside r C (nI cn) (nI fn) = (sHd ((a_topL (rHd r fn) (rT r + 1) (a_flat (r, clrH C (rT r + 1)) (rHd r fn)) k2).1) (va_up (rHd ((a_topL (rHd r fn) (rT r + 1) (a_flat (r, clrH C (rT r + 1)) (rHd r fn)) k2).1)) cn (rT r + 1)), 1) := (by simp only [f_aside, h_4, h_11, ix_nI (show cn < 2 ^ 31 by omega), ix_nI (show fn < 2 ^ 31 by omega), Bool.not_true, Bool.or_self, Bool.false_eq_true, if_false]; rw [if_neg h_21]; rw [hHd, show a_top (r, clrH C (rT r + 1)) (rHd r fn) = (a_topL (rHd r fn) (rT r + 1) (a_flat (r, clrH C (rT r + 1)) (rHd r fn)) k2) from (by unfold a_top; rw [if_pos ⟨h_58, show rK r (rHd r fn) = 13 by omega⟩, hn2, hk2]), show a_tans (r, clrH C (rT r + 1)) (rHd r fn) = rT r + 1 from (by unfold a_tans; rw [if_pos ⟨h_58, show rK r (rHd r fn) = 13 by omega⟩, hn2])]); rw [e]; exact ⟨rfl, _, _, hR⟩) dX6_aside_152
                  | succ d2 ih_loop2 =>
                    intro k2 hk2 H locs ls hR hS hl
                    have hmk := hAf.topL hI h_58 hc0 (by omega) (show rT r < rT r + 1 by omega) (by omega) k2 (by omega)
                    have hq0 := hmk.1.2.1 _ hc0
                    have hmT := hmk.2.1
                    have hmU := hmk.2.2.1
                    have hmN := hmk.1.N
                    refine lv_iload hx hb dX6_aside_105 (lv_at hl 0 rfl) ?_
                    refine lv_aload_n hx hb dX6_aside_107 rfl (lv_at hl 3 rfl) ?_
                    refine m_get F hK hR 2 (by decide) rfl kw_fieldLink_RX6_13 dX6_aside_108 ?_
                    refine lv_iload_n hx hb dX6_aside_111 rfl (lv_at hl 2 rfl) ?_
                    refine m_ldMn F hK hR (rHd r fn) rfl (by omega) dX6_aside_112 ?_
                    refine lv_icmp_ge (tgt := 143) hx hb dX6_aside_113 (by decide) (fun h_113 => by exfalso; have h_113 : (rMn ((a_topL (rHd r fn) (rT r + 1) (a_flat (r, clrH C (rT r + 1)) (rHd r fn)) k2).1) (rHd r fn)) ≤ k2 := nIle (show nI (rMn ((a_topL (rHd r fn) (rT r + 1) (a_flat (r, clrH C (rT r + 1)) (rHd r fn)) k2).1) (rHd r fn)) ≤ nI k2 from h_113) (by omega) (by omega); omega) (fun h_113 => ?_)
                    have h_113 : k2 < (rMn ((a_topL (rHd r fn) (rT r + 1) (a_flat (r, clrH C (rT r + 1)) (rHd r fn)) k2).1) (rHd r fn)) := nInle (show ¬ nI (rMn ((a_topL (rHd r fn) (rT r + 1) (a_flat (r, clrH C (rT r + 1)) (rHd r fn)) k2).1) (rHd r fn)) ≤ nI k2 from h_113) (by omega) (by omega)
                    have hrw := hmk.1.row hI h_58 hc0 (show k2 < rMn r (rHd r fn) by omega) (by omega)
                    have hww : iv (f_at (a_topL (rHd r fn) (rT r + 1) (a_flat (r, clrH C (rT r + 1)) (rHd r fn)) k2).1 (rHd r fn) k2) ≤ rT r := (by rw [hrw.2.1]; exact hrw.2.2.1)
                    have hft : (rHd r fn) ≤ rT (a_topL (rHd r fn) (rT r + 1) (a_flat (r, clrH C (rT r + 1)) (rHd r fn)) k2).1 ∧ rK (a_topL (rHd r fn) (rT r + 1) (a_flat (r, clrH C (rT r + 1)) (rHd r fn)) k2).1 (rHd r fn) ≤ 13 ∧ rMn (a_topL (rHd r fn) (rT r + 1) (a_flat (r, clrH C (rT r + 1)) (rHd r fn)) k2).1 (rHd r fn) ≤ 30 ∧ rS (a_topL (rHd r fn) (rT r + 1) (a_flat (r, clrH C (rT r + 1)) (rHd r fn)) k2).1 (rHd r fn) + rMn (a_topL (rHd r fn) (rT r + 1) (a_flat (r, clrH C (rT r + 1)) (rHd r fn)) k2).1 (rHd r fn) ≤ rN (a_topL (rHd r fn) (rT r + 1) (a_flat (r, clrH C (rT r + 1)) (rHd r fn)) k2).1 ∧ (¬ (rHd r fn) = 0 → (a_topL (rHd r fn) (rT r + 1) (a_flat (r, clrH C (rT r + 1)) (rHd r fn)) k2).2 (rHd r fn) = 0 → rN (a_topL (rHd r fn) (rT r + 1) (a_flat (r, clrH C (rT r + 1)) (rHd r fn)) k2).1 + rMn (a_topL (rHd r fn) (rT r + 1) (a_flat (r, clrH C (rT r + 1)) (rHd r fn)) k2).1 (rHd r fn) ≤ 12200) ∧ rN (a_topL (rHd r fn) (rT r + 1) (a_flat (r, clrH C (rT r + 1)) (rHd r fn)) k2).1 ≤ 12200 ∧ (a_topL (rHd r fn) (rT r + 1) (a_flat (r, clrH C (rT r + 1)) (rHd r fn)) k2).2 (rHd r fn) ≤ rT (a_topL (rHd r fn) (rT r + 1) (a_flat (r, clrH C (rT r + 1)) (rHd r fn)) k2).1 := hmk.1.fh hI hf hc0
                    refine lv_aload_n hx hb dX6_aside_116 rfl (lv_at hl 3 rfl) ?_
                    refine lv_iload hx hb dX6_aside_117 (lv_at hl 1 rfl) ?_
                    refine lv_iload hx hb dX6_aside_119 (lv_at hl 0 rfl) ?_
                    refine lv_aload_n hx hb dX6_aside_121 rfl (lv_at hl 3 rfl) ?_
                    refine lv_aload_n hx hb dX6_aside_122 rfl (lv_at hl 3 rfl) ?_
                    refine lv_iload_n hx hb dX6_aside_123 rfl (lv_at hl 2 rfl) ?_
                    refine lv_iload hx hb dX6_aside_124 (lv_at hl 0 rfl) ?_
                    refine px_goV (st1 := [.long (f_at ((a_topL (rHd r fn) (rT r + 1) (a_flat (r, clrH C (rT r + 1)) (rHd r fn)) k2).1) (rHd r fn) k2), .ref (G 0), .int (nI k2), .int (nI (rT r + 1)), .ref (G 0)]) (px_callV F hK (c_X6_at l D cy A G ((a_topL (rHd r fn) (rT r + 1) (a_flat (r, clrH C (rT r + 1)) (rHd r fn)) k2).1) _ _ _ (rHd r fn) k2 (by omega) (show rS ((a_topL (rHd r fn) (rT r + 1) (a_flat (r, clrH C (rT r + 1)) (rHd r fn)) k2).1) (rHd r fn) + k2 < 12200 by omega)) kc_X6_at kw_methodLink_RX6_80 rfl hR (m_recv hK hR) rfl ⟨rfl, rfl⟩ ⟨Nat.le_of_ble_eq_true rfl, Nat.le_of_ble_eq_true rfl⟩ hl.1 rfl (Nat.le_of_ble_eq_true rfl) dX6_aside_126 ⟨Nat.zero_le _, Nat.zero_le _⟩) rfl ?_
                    refine px_topl (y := lN (iv (f_at ((a_topL (rHd r fn) (rT r + 1) (a_flat (r, clrH C (rT r + 1)) (rHd r fn)) k2).1) (rHd r fn) k2))) (by rw [hrw.2.1]; exact hrw.1) ?_
                    refine lv_l2i (v := nI (iv (f_at ((a_topL (rHd r fn) (rT r + 1) (a_flat (r, clrH C (rT r + 1)) (rHd r fn)) k2).1) (rHd r fn) k2))) hx hb dX6_aside_129 (lN_i _) ?_
                    refine px_goMx (st1 := [.int (nI (a_mans (a_topL (rHd r fn) (rT r + 1) (a_flat (r, clrH C (rT r + 1)) (rHd r fn)) k2) (iv (f_at ((a_topL (rHd r fn) (rT r + 1) (a_flat (r, clrH C (rT r + 1)) (rHd r fn)) k2).1) (rHd r fn) k2)))), .int (nI k2), .int (nI (rT r + 1)), .ref (G 0)]) (px_callV F hK (c_X6_middle l D cy A G ((a_topL (rHd r fn) (rT r + 1) (a_flat (r, clrH C (rT r + 1)) (rHd r fn)) k2).1) ((a_topL (rHd r fn) (rT r + 1) (a_flat (r, clrH C (rT r + 1)) (rHd r fn)) k2).2) _ _ r (iv (f_at ((a_topL (rHd r fn) (rT r + 1) (a_flat (r, clrH C (rT r + 1)) (rHd r fn)) k2).1) (rHd r fn) k2)) hI hmk.1 hf hww (by omega)) kc_X6_middle kw_methodLink_RX6_87 rfl hR (m_recv hK hR) rfl ⟨rfl, rfl⟩ ⟨Nat.le_of_ble_eq_true rfl, Nat.le_of_ble_eq_true rfl⟩ hl.1 rfl (Nat.le_of_ble_eq_true rfl) dX6_aside_130 ⟨Nat.zero_le _, Nat.zero_le _⟩) hS rfl (fun H locs hR hS => ?_)
                    have han := a_mans_le hmk.1 hI hww
                    have hmm := hmk.1.mid hI hww
                    have hmmN := hmm.1.N
                    have hmmT := hmm.2.1
                    have hmmU := hmm.2.2.1
                    have hfl := hmm.1.2.2.2.1 (rT r + 1) (by omega) (by omega)
                    refine lv_i2l (v := lN (a_mans (a_topL (rHd r fn) (rT r + 1) (a_flat (r, clrH C (rT r + 1)) (rHd r fn)) k2) (iv (f_at ((a_topL (rHd r fn) (rT r + 1) (a_flat (r, clrH C (rT r + 1)) (rHd r fn)) k2).1) (rHd r fn) k2)))) hx hb dX6_aside_133 (nI_l (n := (a_mans (a_topL (rHd r fn) (rT r + 1) (a_flat (r, clrH C (rT r + 1)) (rHd r fn)) k2) (iv (f_at ((a_topL (rHd r fn) (rT r + 1) (a_flat (r, clrH C (rT r + 1)) (rHd r fn)) k2).1) (rHd r fn) k2)))) (by omega)) ?_
                    refine px_goMx (st1 := []) (px_callV F hK (c_X6_put l D cy A G ((a_mid (a_topL (rHd r fn) (rT r + 1) (a_flat (r, clrH C (rT r + 1)) (rHd r fn)) k2) (iv (f_at ((a_topL (rHd r fn) (rT r + 1) (a_flat (r, clrH C (rT r + 1)) (rHd r fn)) k2).1) (rHd r fn) k2))).1) _ _ _ (rT r + 1) k2 (lN (a_mans (a_topL (rHd r fn) (rT r + 1) (a_flat (r, clrH C (rT r + 1)) (rHd r fn)) k2) (iv (f_at ((a_topL (rHd r fn) (rT r + 1) (a_flat (r, clrH C (rT r + 1)) (rHd r fn)) k2).1) (rHd r fn) k2)))) (by omega) (show rS ((a_mid (a_topL (rHd r fn) (rT r + 1) (a_flat (r, clrH C (rT r + 1)) (rHd r fn)) k2) (iv (f_at ((a_topL (rHd r fn) (rT r + 1) (a_flat (r, clrH C (rT r + 1)) (rHd r fn)) k2).1) (rHd r fn) k2))).1) (rT r + 1) + k2 < 12200 by omega)) kc_X6_put kw_methodLink_RX6_76 rfl hR (m_recv hK hR) rfl ⟨rfl, rfl⟩ ⟨Nat.le_of_ble_eq_true rfl, Nat.le_of_ble_eq_true rfl⟩ hl.1 rfl (Nat.le_of_ble_eq_true rfl) dX6_aside_134 ⟨Nat.zero_le _, Nat.zero_le _⟩) hS rfl (fun H locs hR hS => ?_)
                    refine lv_iinc (v := nI (k2 + 1)) (lv' := [(5, .int (nI (k2 + 1))), (4, .int (nI (rT r + 1))), (3, .int (nI (rHd r fn))), (0, .ref (G 0)), (1, .int (nI cn)), (2, .int (nI fn))]) hx hb dX6_aside_137 hl (k := 0) rfl (by show nI k2 + 1 = nI (k2 + 1); exact nI_1 _) (by decide) rfl (fun ls hl => ?_)
                    refine lv_goto (tgt := 105) hx hb dX6_aside_140 (by decide) ?_
                    exact ih_loop2 (k2 + 1) (by omega) _ _ _ hR hS (lv_sub hl [0, 1, 2, 3, 4, 5] rfl)
                exact loop2 (rMn r (rHd r fn)) 0 (by omega) _ _ _ hR hS (lv_sub hl [0, 1, 2, 3, 4, 5] rfl)
          | succ d ih_loop =>
            intro k hk H locs ls hR hS hl
            refine lv_iload_n hx hb dX6_aside_29 rfl (lv_at hl 0 rfl) ?_
            refine lv_aload_n hx hb dX6_aside_30 rfl (lv_at hl 1 rfl) ?_
            refine m_get F hK hR 0 (by decide) rfl kw_fieldLink_RX6_47 dX6_aside_31 ?_
            refine lv_icmp_gt (tgt := 50) hx hb dX6_aside_34 (by decide) (fun h_34 => by exfalso; have h_34 : (rT r) < k := nIlt (show nI (rT r) < nI k from h_34) (by omega) (by omega); omega) (fun h_34 => ?_)
            have h_34 : k ≤ (rT r) := nInlt (show ¬ nI (rT r) < nI k from h_34) (by omega) (by omega)
            refine lv_aload_n hx hb dX6_aside_37 rfl (lv_at hl 1 rfl) ?_
            refine m_get F hK hR 14 (by decide) rfl kw_fieldLink_RX6_41 dX6_aside_38 ?_
            refine lv_iload_n hx hb dX6_aside_41 rfl (lv_at hl 0 rfl) ?_
            refine lv_iconst (v := 0) hx hb dX6_aside_42 (by decide) ?_
            refine m_stC F hK hR hS k 0 rfl rfl (by omega) dX6_aside_43 (fun H locs hR hS => ?_)
            refine lv_iinc (v := nI (k + 1)) (lv' := [(3, .int (nI (k + 1))), (0, .ref (G 0)), (1, .int (nI cn)), (2, .int (nI fn))]) hx hb dX6_aside_44 hl (k := 0) rfl (by show nI k + 1 = nI (k + 1); exact nI_1 _) (by decide) rfl (fun ls hl => ?_)
            refine lv_goto (tgt := 29) hx hb dX6_aside_47 (by decide) ?_
            exact ih_loop (k + 1) (by omega) _ _ _ (by rw [← clrH_s]; exact hR) hS (lv_sub hl [0, 1, 2, 3] rfl)
        exact loop (rT r + 1) 0 (by omega) _ _ _ (by rw [clrH_0]; exact hR) hS (lv_sub hl [0, 1, 2, 3] rfl)
      · have h_21 : 6000 ≤ rN r := of_decide_eq_true h_21
        refine lv_bipush (v := -3) hx hb dX6_aside_24 (by decide) ?_
        exact px_iret F hr hlocks hS (by have e : f_aside r C (nI cn) (nI fn) = (r, (-3)) := (by simp [f_aside, h_4, h_11, h_21, ix_nI (show cn < 2 ^ 31 by omega), ix_nI (show fn < 2 ^ 31 by omega)] <;> rfl); rw [e]; exact ⟨rfl, _, _, hR⟩) dX6_aside_26
    · refine lv_bipush (v := -2) hx hb dX6_aside_14 (by decide) ?_
      exact px_iret F hr hlocks hS (by have e : f_aside r C cl f = (r, (-2)) := (by simp [f_aside, h_4, h_11] <;> rfl); rw [e]; exact ⟨rfl, _, _, hR⟩) dX6_aside_16
