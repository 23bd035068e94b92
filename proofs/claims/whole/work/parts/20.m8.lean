/-! the reference: alike, fill, clear, raise -/
set_option maxHeartbeats 400000 in
set_option maxRecDepth 100000 in
theorem c_X6_alike (l : Launch) (D : va_G) (cy : Nat → ClassId) (A : Nat → Prop) (G : Nat → Nat) (r : RS) (C : Nat → Nat) (E : Nat → Int64) (sz : Nat) (cl ot : Int32) {kk : Nat} (hI : Inv kk r) : Met l yX6_alike (px_w yX6_alike cX6_alike 7 (some .int)) (rmd 4 0 0) (px_P D cy [.ref (G 0), .int cl, .int ot] sz (MR D cy A G r C E)) (px_V (some (.int (f_alike r cl ot)))) 0 0 (fun _ => False) := by
  refine px_met (by decide) (Nat.le_of_ble_eq_true rfl) ?_
  intro p e s m below meth c F hr hlocks hnm hK hsz hR ls hl
  have hx := F.1
  have hb := F.2.1
  have hl : lv_has ls 7 [(0, .ref (G 0)), (1, .int cl), (2, .int ot)] := hl
  have hbd := hI.bd
  refine lv_iload_n hx hb dX6_alike_0 rfl (lv_at hl 1 rfl) ?_
  refine px_goV (st1 := [.int (b2i (f_in cl 0 15))]) (px_callS F hK (c_X6_isColumn l D cy _ cl) kc_X6_isColumn kw_methodLink_RX6_53 rfl trivial rfl ⟨rfl, rfl⟩ ⟨Nat.le_of_ble_eq_true rfl, Nat.le_of_ble_eq_true rfl⟩ hl.1 rfl (Nat.le_of_ble_eq_true rfl) dX6_alike_1 ⟨Nat.zero_le _, Nat.zero_le _⟩) rfl ?_
  refine x_ifeq_b (tgt := 14) hx hb dX6_alike_4 (by decide) (fun h_4 => ?_) (fun h_4 => ?_)
  · refine lv_bipush (v := -2) hx hb dX6_alike_14 (by decide) ?_
    exact pv_iret F hr hlocks (by rw [show f_alike r cl ot = -2 from (by simp [f_alike, h_4])]) dX6_alike_16
  · refine lv_iload_n hx hb dX6_alike_7 rfl (lv_at hl 2 rfl) ?_
    refine px_goV (st1 := [.int (b2i (f_in ot 0 15))]) (px_callS F hK (c_X6_isColumn l D cy _ ot) kc_X6_isColumn kw_methodLink_RX6_53 rfl trivial rfl ⟨rfl, rfl⟩ ⟨Nat.le_of_ble_eq_true rfl, Nat.le_of_ble_eq_true rfl⟩ hl.1 rfl (Nat.le_of_ble_eq_true rfl) dX6_alike_8 ⟨Nat.zero_le _, Nat.zero_le _⟩) rfl ?_
    refine x_ifne_b (tgt := 17) hx hb dX6_alike_11 (by decide) (fun h_11 => ?_) (fun h_11 => ?_)
    · obtain ⟨cn, hl_cn, hh_cn, rfl⟩ := f_in_nat h_4 0 15 (by decide) (by decide) (by decide) (by decide)
      obtain ⟨on, hl_on, hh_on, rfl⟩ := f_in_nat h_11 0 15 (by decide) (by decide) (by decide) (by decide)
      have hc0 := hI.hd cn (by omega)
      have hc1 := hI.tb _ hc0
      have hd0 := hI.hd on (by omega)
      have hd1 := hI.tb _ hd0
      refine lv_aload_n hx hb dX6_alike_17 rfl (lv_at hl 0 rfl) ?_
      refine m_get F hK hR 9 (by decide) rfl kw_fieldLink_RX6_31 dX6_alike_18 ?_
      refine lv_iload_n hx hb dX6_alike_21 rfl (lv_at hl 1 rfl) ?_
      refine m_ldHd F hK hR cn rfl (by omega) dX6_alike_22 ?_
      refine lv_istore_n (lv' := [(3, .int (nI (rHd r cn))), (0, .ref (G 0)), (1, .int (nI cn)), (2, .int (nI on))]) hx hb dX6_alike_23 rfl hl (by decide) rfl (fun ls hl => ?_)
      refine lv_aload_n hx hb dX6_alike_24 rfl (lv_at hl 1 rfl) ?_
      refine m_get F hK hR 9 (by decide) rfl kw_fieldLink_RX6_31 dX6_alike_25 ?_
      refine lv_iload_n hx hb dX6_alike_28 rfl (lv_at hl 3 rfl) ?_
      refine m_ldHd F hK hR on rfl (by omega) dX6_alike_29 ?_
      refine lv_istore (lv' := [(4, .int (nI (rHd r on))), (3, .int (nI (rHd r cn))), (0, .ref (G 0)), (1, .int (nI cn)), (2, .int (nI on))]) hx hb dX6_alike_30 hl (by decide) rfl (fun ls hl => ?_)
      refine lv_iload_n hx hb dX6_alike_32 rfl (lv_at hl 1 rfl) ?_
      refine lv_iload hx hb dX6_alike_33 (lv_at hl 0 rfl) ?_
      refine lv_icmp_ne (tgt := 40) hx hb dX6_alike_35 (by decide) (fun h_35 => ?_) (fun h_35 => ?_)
      · have h_35 : ¬ (rHd r cn) = (rHd r on) := nIne (show ¬ nI (rHd r cn) = nI (rHd r on) from h_35)
        refine lv_iload_n hx hb dX6_alike_40 rfl (lv_at hl 1 rfl) ?_
        refine lv_if_eq (tgt := 60) hx hb dX6_alike_41 (by decide) (fun h_41 => ?_) (fun h_41 => ?_)
        · have h_41 : (rHd r cn) = 0 := nIeq (show nI (rHd r cn) = nI 0 from h_41) (by omega) (by omega)
          refine lv_aload_n hx hb dX6_alike_60 rfl (lv_at hl 2 rfl) ?_
          refine lv_iload_n hx hb dX6_alike_61 rfl (lv_at hl 1 rfl) ?_
          refine lv_iload hx hb dX6_alike_62 (lv_at hl 0 rfl) ?_
          refine px_goV (st1 := [.int (b2i (f_mla r (rHd r cn) (rHd r on)))]) (px_callV F hK (c_X6_areMiddleLike l D cy A G r _ _ _ (rHd r cn) (rHd r on) hI hc0 hd0 (fun q1 q2 => by omega)) kc_X6_areMiddleLike kw_methodLink_RX6_147 rfl hR (m_recv hK hR) rfl ⟨rfl, rfl⟩ ⟨Nat.le_of_ble_eq_true rfl, Nat.le_of_ble_eq_true rfl⟩ hl.1 rfl (Nat.le_of_ble_eq_true rfl) dX6_alike_64 ⟨Nat.zero_le _, Nat.zero_le _⟩) rfl ?_
          refine x_ifeq_b (tgt := 74) hx hb dX6_alike_67 (by decide) (fun h_67 => ?_) (fun h_67 => ?_)
          · refine lv_iconst (v := 0) hx hb dX6_alike_74 (by decide) ?_
            exact pv_iret F hr hlocks (by rw [show f_alike r (nI cn) (nI on) = 0 from (by simp only [f_alike, h_4, h_11, ix_nI (show cn < 2 ^ 31 by omega), ix_nI (show on < 2 ^ 31 by omega), Bool.not_true, Bool.or_self, Bool.false_eq_true, if_false]; rw [if_neg h_35]; unfold f_tla; rw [if_pos (by omega), h_67]; rfl)]) dX6_alike_75
          · refine lv_iconst (v := 1) hx hb dX6_alike_70 (by decide) ?_
            refine lv_goto (tgt := 75) hx hb dX6_alike_71 (by decide) ?_
            exact pv_iret F hr hlocks (by rw [show f_alike r (nI cn) (nI on) = 1 from (by simp only [f_alike, h_4, h_11, ix_nI (show cn < 2 ^ 31 by omega), ix_nI (show on < 2 ^ 31 by omega), Bool.not_true, Bool.or_self, Bool.false_eq_true, if_false]; rw [if_neg h_35]; unfold f_tla; rw [if_pos (by omega), h_67]; rfl)]) dX6_alike_75
        · have h_41 : ¬ (rHd r cn) = 0 := nIne (show ¬ nI (rHd r cn) = nI 0 from h_41)
          refine lv_iload hx hb dX6_alike_44 (lv_at hl 0 rfl) ?_
          refine lv_if_eq (tgt := 60) hx hb dX6_alike_46 (by decide) (fun h_46 => ?_) (fun h_46 => ?_)
          · have h_46 : (rHd r on) = 0 := nIeq (show nI (rHd r on) = nI 0 from h_46) (by omega) (by omega)
            refine lv_aload_n hx hb dX6_alike_60 rfl (lv_at hl 2 rfl) ?_
            refine lv_iload_n hx hb dX6_alike_61 rfl (lv_at hl 1 rfl) ?_
            refine lv_iload hx hb dX6_alike_62 (lv_at hl 0 rfl) ?_
            refine px_goV (st1 := [.int (b2i (f_mla r (rHd r cn) (rHd r on)))]) (px_callV F hK (c_X6_areMiddleLike l D cy A G r _ _ _ (rHd r cn) (rHd r on) hI hc0 hd0 (fun q1 q2 => by omega)) kc_X6_areMiddleLike kw_methodLink_RX6_147 rfl hR (m_recv hK hR) rfl ⟨rfl, rfl⟩ ⟨Nat.le_of_ble_eq_true rfl, Nat.le_of_ble_eq_true rfl⟩ hl.1 rfl (Nat.le_of_ble_eq_true rfl) dX6_alike_64 ⟨Nat.zero_le _, Nat.zero_le _⟩) rfl ?_
            refine x_ifeq_b (tgt := 74) hx hb dX6_alike_67 (by decide) (fun h_67 => ?_) (fun h_67 => ?_)
            · refine lv_iconst (v := 0) hx hb dX6_alike_74 (by decide) ?_
              exact pv_iret F hr hlocks (by rw [show f_alike r (nI cn) (nI on) = 0 from (by simp only [f_alike, h_4, h_11, ix_nI (show cn < 2 ^ 31 by omega), ix_nI (show on < 2 ^ 31 by omega), Bool.not_true, Bool.or_self, Bool.false_eq_true, if_false]; rw [if_neg h_35]; unfold f_tla; rw [if_pos (by omega), h_67]; rfl)]) dX6_alike_75
            · refine lv_iconst (v := 1) hx hb dX6_alike_70 (by decide) ?_
              refine lv_goto (tgt := 75) hx hb dX6_alike_71 (by decide) ?_
              exact pv_iret F hr hlocks (by rw [show f_alike r (nI cn) (nI on) = 1 from (by simp only [f_alike, h_4, h_11, ix_nI (show cn < 2 ^ 31 by omega), ix_nI (show on < 2 ^ 31 by omega), Bool.not_true, Bool.or_self, Bool.false_eq_true, if_false]; rw [if_neg h_35]; unfold f_tla; rw [if_pos (by omega), h_67]; rfl)]) dX6_alike_75
          · have h_46 : ¬ (rHd r on) = 0 := nIne (show ¬ nI (rHd r on) = nI 0 from h_46)
            refine lv_aload_n hx hb dX6_alike_49 rfl (lv_at hl 2 rfl) ?_
            refine m_get F hK hR 1 (by decide) rfl kw_fieldLink_RX6_7 dX6_alike_50 ?_
            refine lv_iload_n hx hb dX6_alike_53 rfl (lv_at hl 1 rfl) ?_
            refine m_ldK F hK hR (rHd r cn) rfl (by omega) dX6_alike_54 ?_
            refine lv_bipush (v := 13) hx hb dX6_alike_55 (by decide) ?_
            refine lv_icmp_ge (tgt := 76) hx hb dX6_alike_57 (by decide) (fun h_57 => ?_) (fun h_57 => ?_)
            · have h_57 : 13 ≤ (rK r (rHd r cn)) := nIle (show nI 13 ≤ nI (rK r (rHd r cn)) from h_57) (by omega) (by omega)
              refine lv_aload_n hx hb dX6_alike_76 rfl (lv_at hl 2 rfl) ?_
              refine lv_iload_n hx hb dX6_alike_77 rfl (lv_at hl 1 rfl) ?_
              refine lv_iload hx hb dX6_alike_78 (lv_at hl 0 rfl) ?_
              refine px_goV (st1 := [.int (b2i (f_shaped r (rHd r cn) (rHd r on)))]) (px_callV F hK (c_X6_areShaped l D cy A G r _ _ _ (rHd r cn) (rHd r on) (by omega) (by omega) (by omega) (by omega) (by omega) (by omega)) kc_X6_areShaped kw_methodLink_RX6_138 rfl hR (m_recv hK hR) rfl ⟨rfl, rfl⟩ ⟨Nat.le_of_ble_eq_true rfl, Nat.le_of_ble_eq_true rfl⟩ hl.1 rfl (Nat.le_of_ble_eq_true rfl) dX6_alike_80 ⟨Nat.zero_le _, Nat.zero_le _⟩) rfl ?_
              refine lv_istore (lv' := [(5, .int (b2i (f_shaped r (rHd r cn) (rHd r on)))), (4, .int (nI (rHd r on))), (3, .int (nI (rHd r cn))), (0, .ref (G 0)), (1, .int (nI cn)), (2, .int (nI on))]) hx hb dX6_alike_83 hl (by decide) rfl (fun ls hl => ?_)
              refine lv_iconst (v := 0) hx hb dX6_alike_85 (by decide) ?_
              refine lv_istore (lv' := [(6, .int 0), (5, .int (b2i (f_shaped r (rHd r cn) (rHd r on)))), (4, .int (nI (rHd r on))), (3, .int (nI (rHd r cn))), (0, .ref (G 0)), (1, .int (nI cn)), (2, .int (nI on))]) hx hb dX6_alike_86 hl (by decide) rfl (fun ls hl => ?_)
              have loop : ∀ (d k : Nat), k + d = rMn r (rHd r cn) → ∀ (ls : Array Slot), lv_has ls 7 [(6, .int (nI k)), (5, .int (b2i (f_shaped r (rHd r cn) (rHd r on) && f_all (fun k => f_mla r (iv (f_at r (rHd r cn) k)) (iv (f_at r (rHd r on) k))) k))), (4, .int (nI (rHd r on))), (3, .int (nI (rHd r cn))), (0, .ref (G 0)), (1, .int (nI cn)), (2, .int (nI on))] → W p l e (rmd 4 0 0) s m ([.ref (G 0), .int (nI cn), .int (nI on)] : List Value).toArray below meth c s.heap [] 0 0 (MQ below (px_V (some (.int (f_alike r (nI cn) (nI on))))) ([.ref (G 0), .int (nI cn), .int (nI on)] : List Value).toArray s 0 0 (fun _ => False)) (F0 m 88 ls []) := by
                intro d
                induction d with
                | zero =>
                  intro k hk ls hl
                  refine lv_iload hx hb dX6_alike_88 (lv_at hl 1 rfl) ?_
                  refine x_ifeq_b (tgt := 133) hx hb dX6_alike_90 (by decide) (fun h_90 => ?_) (fun h_90 => ?_)
                  · refine lv_iload hx hb dX6_alike_133 (lv_at hl 1 rfl) ?_
                    refine x_ifeq_b (tgt := 142) hx hb dX6_alike_135 (by decide) (fun h_135 => ?_) (fun h_135 => ?_)
                    · refine lv_iconst (v := 0) hx hb dX6_alike_142 (by decide) ?_
                      have efin : (f_shaped r (rHd r cn) (rHd r on) && f_all (fun k => f_mla r (iv (f_at r (rHd r cn) k)) (iv (f_at r (rHd r on) k))) k) = (f_shaped r (rHd r cn) (rHd r on) && f_all (fun k => f_mla r (iv (f_at r (rHd r cn) k)) (iv (f_at r (rHd r on) k))) (rMn r (rHd r cn))) := (by rw [h_90]; cases hq : f_shaped r (rHd r cn) (rHd r on) with | false => rfl | true => rw [f_all_le (fun k => f_mla r (iv (f_at r (rHd r cn) k)) (iv (f_at r (rHd r on) k))) (k := k) (by rw [hq] at h_90; simpa using h_90) _ (by omega)]; rfl)
                      exact pv_iret F hr hlocks (by rw [show f_alike r (nI cn) (nI on) = 0 from (by simp only [f_alike, h_4, h_11, ix_nI (show cn < 2 ^ 31 by omega), ix_nI (show on < 2 ^ 31 by omega), Bool.not_true, Bool.or_self, Bool.false_eq_true, if_false]; rw [if_neg h_35]; unfold f_tla; rw [if_neg (by omega), ← efin, h_135]; rfl)]) dX6_alike_143
                    · refine lv_iconst (v := 1) hx hb dX6_alike_138 (by decide) ?_
                      refine lv_goto (tgt := 143) hx hb dX6_alike_139 (by decide) ?_
                      have efin : (f_shaped r (rHd r cn) (rHd r on) && f_all (fun k => f_mla r (iv (f_at r (rHd r cn) k)) (iv (f_at r (rHd r on) k))) k) = (f_shaped r (rHd r cn) (rHd r on) && f_all (fun k => f_mla r (iv (f_at r (rHd r cn) k)) (iv (f_at r (rHd r on) k))) (rMn r (rHd r cn))) := (by rw [h_90]; cases hq : f_shaped r (rHd r cn) (rHd r on) with | false => rfl | true => rw [f_all_le (fun k => f_mla r (iv (f_at r (rHd r cn) k)) (iv (f_at r (rHd r on) k))) (k := k) (by rw [hq] at h_90; simpa using h_90) _ (by omega)]; rfl)
                      exact pv_iret F hr hlocks (by rw [show f_alike r (nI cn) (nI on) = 1 from (by simp only [f_alike, h_4, h_11, ix_nI (show cn < 2 ^ 31 by omega), ix_nI (show on < 2 ^ 31 by omega), Bool.not_true, Bool.or_self, Bool.false_eq_true, if_false]; rw [if_neg h_35]; unfold f_tla; rw [if_neg (by omega), ← efin, h_135]; rfl)]) dX6_alike_143
                  · have hsh := shaped_t ((Bool.and_eq_true _ _).mp h_90).1
                    refine lv_iload hx hb dX6_alike_93 (lv_at hl 0 rfl) ?_
                    refine lv_aload_n hx hb dX6_alike_95 rfl (lv_at hl 4 rfl) ?_
                    refine m_get F hK hR 2 (by decide) rfl kw_fieldLink_RX6_13 dX6_alike_96 ?_
                    refine lv_iload_n hx hb dX6_alike_99 rfl (lv_at hl 3 rfl) ?_
                    refine m_ldMn F hK hR (rHd r cn) rfl (by omega) dX6_alike_100 ?_
                    refine lv_icmp_ge (tgt := 133) hx hb dX6_alike_101 (by decide) (fun h_101 => ?_) (fun h_101 => by exfalso; have h_101 : k < (rMn r (rHd r cn)) := nInle (show ¬ nI (rMn r (rHd r cn)) ≤ nI k from h_101) (by omega) (by omega); omega)
                    have h_101 : (rMn r (rHd r cn)) ≤ k := nIle (show nI (rMn r (rHd r cn)) ≤ nI k from h_101) (by omega) (by omega)
                    refine lv_iload hx hb dX6_alike_133 (lv_at hl 1 rfl) ?_
                    refine x_ifeq_b (tgt := 142) hx hb dX6_alike_135 (by decide) (fun h_135 => ?_) (fun h_135 => ?_)
                    · refine lv_iconst (v := 0) hx hb dX6_alike_142 (by decide) ?_
                      have efin : (f_shaped r (rHd r cn) (rHd r on) && f_all (fun k => f_mla r (iv (f_at r (rHd r cn) k)) (iv (f_at r (rHd r on) k))) k) = (f_shaped r (rHd r cn) (rHd r on) && f_all (fun k => f_mla r (iv (f_at r (rHd r cn) k)) (iv (f_at r (rHd r on) k))) (rMn r (rHd r cn))) := (by rw [show k = rMn r (rHd r cn) by omega])
                      exact pv_iret F hr hlocks (by rw [show f_alike r (nI cn) (nI on) = 0 from (by simp only [f_alike, h_4, h_11, ix_nI (show cn < 2 ^ 31 by omega), ix_nI (show on < 2 ^ 31 by omega), Bool.not_true, Bool.or_self, Bool.false_eq_true, if_false]; rw [if_neg h_35]; unfold f_tla; rw [if_neg (by omega), ← efin, h_135]; rfl)]) dX6_alike_143
                    · refine lv_iconst (v := 1) hx hb dX6_alike_138 (by decide) ?_
                      refine lv_goto (tgt := 143) hx hb dX6_alike_139 (by decide) ?_
                      have efin : (f_shaped r (rHd r cn) (rHd r on) && f_all (fun k => f_mla r (iv (f_at r (rHd r cn) k)) (iv (f_at r (rHd r on) k))) k) = (f_shaped r (rHd r cn) (rHd r on) && f_all (fun k => f_mla r (iv (f_at r (rHd r cn) k)) (iv (f_at r (rHd r on) k))) (rMn r (rHd r cn))) := (by rw [show k = rMn r (rHd r cn) by omega])
                      exact pv_iret F hr hlocks (by rw [show f_alike r (nI cn) (nI on) = 1 from (by simp only [f_alike, h_4, h_11, ix_nI (show cn < 2 ^ 31 by omega), ix_nI (show on < 2 ^ 31 by omega), Bool.not_true, Bool.or_self, Bool.false_eq_true, if_false]; rw [if_neg h_35]; unfold f_tla; rw [if_neg (by omega), ← efin, h_135]; rfl)]) dX6_alike_143
                | succ d ih_loop =>
                  intro k hk ls hl
                  refine lv_iload hx hb dX6_alike_88 (lv_at hl 1 rfl) ?_
                  refine x_ifeq_b (tgt := 133) hx hb dX6_alike_90 (by decide) (fun h_90 => ?_) (fun h_90 => ?_)
                  · refine lv_iload hx hb dX6_alike_133 (lv_at hl 1 rfl) ?_
                    refine x_ifeq_b (tgt := 142) hx hb dX6_alike_135 (by decide) (fun h_135 => ?_) (fun h_135 => ?_)
                    · refine lv_iconst (v := 0) hx hb dX6_alike_142 (by decide) ?_
                      have efin : (f_shaped r (rHd r cn) (rHd r on) && f_all (fun k => f_mla r (iv (f_at r (rHd r cn) k)) (iv (f_at r (rHd r on) k))) k) = (f_shaped r (rHd r cn) (rHd r on) && f_all (fun k => f_mla r (iv (f_at r (rHd r cn) k)) (iv (f_at r (rHd r on) k))) (rMn r (rHd r cn))) := (by rw [h_90]; cases hq : f_shaped r (rHd r cn) (rHd r on) with | false => rfl | true => rw [f_all_le (fun k => f_mla r (iv (f_at r (rHd r cn) k)) (iv (f_at r (rHd r on) k))) (k := k) (by rw [hq] at h_90; simpa using h_90) _ (by omega)]; rfl)
                      exact pv_iret F hr hlocks (by rw [show f_alike r (nI cn) (nI on) = 0 from (by simp only [f_alike, h_4, h_11, ix_nI (show cn < 2 ^ 31 by omega), ix_nI (show on < 2 ^ 31 by omega), Bool.not_true, Bool.or_self, Bool.false_eq_true, if_false]; rw [if_neg h_35]; unfold f_tla; rw [if_neg (by omega), ← efin, h_135]; rfl)]) dX6_alike_143
                    · refine lv_iconst (v := 1) hx hb dX6_alike_138 (by decide) ?_
                      refine lv_goto (tgt := 143) hx hb dX6_alike_139 (by decide) ?_
                      have efin : (f_shaped r (rHd r cn) (rHd r on) && f_all (fun k => f_mla r (iv (f_at r (rHd r cn) k)) (iv (f_at r (rHd r on) k))) k) = (f_shaped r (rHd r cn) (rHd r on) && f_all (fun k => f_mla r (iv (f_at r (rHd r cn) k)) (iv (f_at r (rHd r on) k))) (rMn r (rHd r cn))) := (by rw [h_90]; cases hq : f_shaped r (rHd r cn) (rHd r on) with | false => rfl | true => rw [f_all_le (fun k => f_mla r (iv (f_at r (rHd r cn) k)) (iv (f_at r (rHd r on) k))) (k := k) (by rw [hq] at h_90; simpa using h_90) _ (by omega)]; rfl)
                      exact pv_iret F hr hlocks (by rw [show f_alike r (nI cn) (nI on) = 1 from (by simp only [f_alike, h_4, h_11, ix_nI (show cn < 2 ^ 31 by omega), ix_nI (show on < 2 ^ 31 by omega), Bool.not_true, Bool.or_self, Bool.false_eq_true, if_false]; rw [if_neg h_35]; unfold f_tla; rw [if_neg (by omega), ← efin, h_135]; rfl)]) dX6_alike_143
                  · have hsh := shaped_t ((Bool.and_eq_true _ _).mp h_90).1
                    refine lv_iload hx hb dX6_alike_93 (lv_at hl 0 rfl) ?_
                    refine lv_aload_n hx hb dX6_alike_95 rfl (lv_at hl 4 rfl) ?_
                    refine m_get F hK hR 2 (by decide) rfl kw_fieldLink_RX6_13 dX6_alike_96 ?_
                    refine lv_iload_n hx hb dX6_alike_99 rfl (lv_at hl 3 rfl) ?_
                    refine m_ldMn F hK hR (rHd r cn) rfl (by omega) dX6_alike_100 ?_
                    refine lv_icmp_ge (tgt := 133) hx hb dX6_alike_101 (by decide) (fun h_101 => by exfalso; have h_101 : (rMn r (rHd r cn)) ≤ k := nIle (show nI (rMn r (rHd r cn)) ≤ nI k from h_101) (by omega) (by omega); omega) (fun h_101 => ?_)
                    have h_101 : k < (rMn r (rHd r cn)) := nInle (show ¬ nI (rMn r (rHd r cn)) ≤ nI k from h_101) (by omega) (by omega)
                    refine lv_aload_n hx hb dX6_alike_104 rfl (lv_at hl 4 rfl) ?_
                    refine lv_aload_n hx hb dX6_alike_105 rfl (lv_at hl 4 rfl) ?_
                    refine lv_iload_n hx hb dX6_alike_106 rfl (lv_at hl 3 rfl) ?_
                    refine lv_iload hx hb dX6_alike_107 (lv_at hl 0 rfl) ?_
                    refine px_goV (st1 := [.long (f_at r (rHd r cn) k), .ref (G 0)]) (px_callV F hK (c_X6_at l D cy A G r _ _ _ (rHd r cn) k (by omega) (show rS r (rHd r cn) + k < 12200 by omega)) kc_X6_at kw_methodLink_RX6_80 rfl hR (m_recv hK hR) rfl ⟨rfl, rfl⟩ ⟨Nat.le_of_ble_eq_true rfl, Nat.le_of_ble_eq_true rfl⟩ hl.1 rfl (Nat.le_of_ble_eq_true rfl) dX6_alike_109 ⟨Nat.zero_le _, Nat.zero_le _⟩) rfl ?_
                    have hita := hI.it hsh.1 hc0 h_101 (by omega)
                    have hitb := hI.it hsh.2.1 hd0 (show k < rMn r (rHd r on) by omega) (by omega)
                    have hra := hita.2.2.2.2 (by omega)
                    have hrb := hitb.2.2.2.2 (by omega)
                    refine px_topl hita.1 ?_
                    refine lv_l2i (v := nI (iv (f_at r (rHd r cn) k))) hx hb dX6_alike_112 (lN_i _) ?_
                    refine lv_aload_n hx hb dX6_alike_113 rfl (lv_at hl 4 rfl) ?_
                    refine lv_iload hx hb dX6_alike_114 (lv_at hl 2 rfl) ?_
                    refine lv_iload hx hb dX6_alike_116 (lv_at hl 0 rfl) ?_
                    refine px_goV (st1 := [.long (f_at r (rHd r on) k), .int (nI (iv (f_at r (rHd r cn) k))), .ref (G 0)]) (px_callV F hK (c_X6_at l D cy A G r _ _ _ (rHd r on) k (by omega) (show rS r (rHd r on) + k < 12200 by omega)) kc_X6_at kw_methodLink_RX6_80 rfl hR (m_recv hK hR) rfl ⟨rfl, rfl⟩ ⟨Nat.le_of_ble_eq_true rfl, Nat.le_of_ble_eq_true rfl⟩ hl.1 rfl (Nat.le_of_ble_eq_true rfl) dX6_alike_118 ⟨Nat.zero_le _, Nat.zero_le _⟩) rfl ?_
                    refine px_topl hitb.1 ?_
                    refine lv_l2i (v := nI (iv (f_at r (rHd r on) k))) hx hb dX6_alike_121 (lN_i _) ?_
                    refine px_goV (st1 := [.int (b2i (f_mla r (iv (f_at r (rHd r cn) k)) (iv (f_at r (rHd r on) k))))]) (px_callV F hK (c_X6_areMiddleLike l D cy A G r _ _ _ (iv (f_at r (rHd r cn) k)) (iv (f_at r (rHd r on) k)) hI hra.1 hrb.1 (fun q1 _ => by have q3 := isOf_k (hra.2 q1) q1; have q4 := rkN_le (rK r (rHd r cn)); omega)) kc_X6_areMiddleLike kw_methodLink_RX6_147 rfl hR (m_recv hK hR) rfl ⟨rfl, rfl⟩ ⟨Nat.le_of_ble_eq_true rfl, Nat.le_of_ble_eq_true rfl⟩ hl.1 rfl (Nat.le_of_ble_eq_true rfl) dX6_alike_122 ⟨Nat.zero_le _, Nat.zero_le _⟩) rfl ?_
                    refine lv_istore (lv' := [(5, .int (b2i (f_mla r (iv (f_at r (rHd r cn) k)) (iv (f_at r (rHd r on) k))))), (6, .int (nI k)), (4, .int (nI (rHd r on))), (3, .int (nI (rHd r cn))), (0, .ref (G 0)), (1, .int (nI cn)), (2, .int (nI on))]) hx hb dX6_alike_125 hl (by decide) rfl (fun ls hl => ?_)
                    refine lv_iinc (v := nI (k + 1)) (lv' := [(6, .int (nI (k + 1))), (5, .int (b2i (f_mla r (iv (f_at r (rHd r cn) k)) (iv (f_at r (rHd r on) k))))), (4, .int (nI (rHd r on))), (3, .int (nI (rHd r cn))), (0, .ref (G 0)), (1, .int (nI cn)), (2, .int (nI on))]) hx hb dX6_alike_127 hl (k := 1) rfl (by show nI k + 1 = nI (k + 1); exact nI_1 _) (by decide) rfl (fun ls hl => ?_)
                    refine lv_goto (tgt := 88) hx hb dX6_alike_130 (by decide) ?_
                    have e_5 : (b2i (f_shaped r (rHd r cn) (rHd r on) && f_all (fun k => f_mla r (iv (f_at r (rHd r cn) k)) (iv (f_at r (rHd r on) k))) (k + 1)) : Int32) = b2i (f_mla r (iv (f_at r (rHd r cn) k)) (iv (f_at r (rHd r on) k))) := (by exact congrArg b2i (by rw [f_all]; simp only [Bool.and_eq_true] at h_90; rw [h_90.1, h_90.2]; rfl))
                    exact ih_loop (k + 1) (by omega) _ (by rw [e_5]; exact lv_sub hl [0, 1, 2, 3, 4, 5, 6] rfl)
              have e_5 : (b2i (f_shaped r (rHd r cn) (rHd r on) && f_all (fun k => f_mla r (iv (f_at r (rHd r cn) k)) (iv (f_at r (rHd r on) k))) 0) : Int32) = b2i (f_shaped r (rHd r cn) (rHd r on)) := (by simp [f_all])
              exact loop (rMn r (rHd r cn)) 0 (by omega) _ (by rw [e_5]; exact lv_sub hl [0, 1, 2, 3, 4, 5, 6] rfl)
            · have h_57 : (rK r (rHd r cn)) < 13 := nInle (show ¬ nI 13 ≤ nI (rK r (rHd r cn)) from h_57) (by omega) (by omega)
              refine lv_aload_n hx hb dX6_alike_60 rfl (lv_at hl 2 rfl) ?_
              refine lv_iload_n hx hb dX6_alike_61 rfl (lv_at hl 1 rfl) ?_
              refine lv_iload hx hb dX6_alike_62 (lv_at hl 0 rfl) ?_
              refine px_goV (st1 := [.int (b2i (f_mla r (rHd r cn) (rHd r on)))]) (px_callV F hK (c_X6_areMiddleLike l D cy A G r _ _ _ (rHd r cn) (rHd r on) hI hc0 hd0 (fun q1 q2 => by omega)) kc_X6_areMiddleLike kw_methodLink_RX6_147 rfl hR (m_recv hK hR) rfl ⟨rfl, rfl⟩ ⟨Nat.le_of_ble_eq_true rfl, Nat.le_of_ble_eq_true rfl⟩ hl.1 rfl (Nat.le_of_ble_eq_true rfl) dX6_alike_64 ⟨Nat.zero_le _, Nat.zero_le _⟩) rfl ?_
              refine x_ifeq_b (tgt := 74) hx hb dX6_alike_67 (by decide) (fun h_67 => ?_) (fun h_67 => ?_)
              · refine lv_iconst (v := 0) hx hb dX6_alike_74 (by decide) ?_
                exact pv_iret F hr hlocks (by rw [show f_alike r (nI cn) (nI on) = 0 from (by simp only [f_alike, h_4, h_11, ix_nI (show cn < 2 ^ 31 by omega), ix_nI (show on < 2 ^ 31 by omega), Bool.not_true, Bool.or_self, Bool.false_eq_true, if_false]; rw [if_neg h_35]; unfold f_tla; rw [if_pos (by omega), h_67]; rfl)]) dX6_alike_75
              · refine lv_iconst (v := 1) hx hb dX6_alike_70 (by decide) ?_
                refine lv_goto (tgt := 75) hx hb dX6_alike_71 (by decide) ?_
                exact pv_iret F hr hlocks (by rw [show f_alike r (nI cn) (nI on) = 1 from (by simp only [f_alike, h_4, h_11, ix_nI (show cn < 2 ^ 31 by omega), ix_nI (show on < 2 ^ 31 by omega), Bool.not_true, Bool.or_self, Bool.false_eq_true, if_false]; rw [if_neg h_35]; unfold f_tla; rw [if_pos (by omega), h_67]; rfl)]) dX6_alike_75
      · have h_35 : (rHd r cn) = (rHd r on) := nIeq (show nI (rHd r cn) = nI (rHd r on) from h_35) (by omega) (by omega)
        refine lv_iconst (v := 2) hx hb dX6_alike_38 (by decide) ?_
        exact pv_iret F hr hlocks (by rw [show f_alike r (nI cn) (nI on) = 2 from (by simp only [f_alike, h_4, h_11, ix_nI (show cn < 2 ^ 31 by omega), ix_nI (show on < 2 ^ 31 by omega), Bool.not_true, Bool.or_self, Bool.false_eq_true, if_false]; rw [if_pos h_35])]) dX6_alike_39
    · refine lv_bipush (v := -2) hx hb dX6_alike_14 (by decide) ?_
      exact pv_iret F hr hlocks (by rw [show f_alike r cl ot = -2 from (by simp [f_alike, h_4, h_11])]) dX6_alike_16
set_option maxHeartbeats 400000 in
set_option maxRecDepth 100000 in
theorem c_X6_fill (l : Launch) (D : va_G) (cy : Nat → ClassId) (A : Nat → Prop) (G : Nat → Nat) (r : RS) (C : Nat → Nat) (E : Nat → Int64) (sz : Nat) (cl k0 : Int32) (b : Int64) {kk : Nat} (hI : Inv kk r) : Met l yX6_fill (px_w yX6_fill cX6_fill 7 (some .int)) (rmd 3 0 0) (px_P D cy [.ref (G 0), .int cl, .int k0, .long b] sz (MR D cy A G r C E)) (px_Q (px_M D cy A G (some (.int (f_fill r cl k0 b).2)) ((f_fill r cl k0 b).1)) A) 0 0 A := by
  refine px_met (by decide) (Nat.le_of_ble_eq_true rfl) ?_
  intro p e s m below meth c F hr hlocks hnm hK hsz hR ls hl
  have hx := F.1
  have hb := F.2.1
  have hl : lv_has ls 7 [(0, .ref (G 0)), (1, .int cl), (2, .int k0), (3, .long b)] := hl
  have hS : va_S A s.heap s.heap [] := va_S.rf
  have hbd := hI.bd
  refine lv_iload_n hx hb dX6_fill_0 rfl (lv_at hl 1 rfl) ?_
  refine px_goV (st1 := [.int (b2i (f_in cl 0 15))]) (px_callS F hK (c_X6_isColumn l D cy _ cl) kc_X6_isColumn kw_methodLink_RX6_53 rfl trivial rfl ⟨rfl, rfl⟩ ⟨Nat.le_of_ble_eq_true rfl, Nat.le_of_ble_eq_true rfl⟩ hl.1 rfl (Nat.le_of_ble_eq_true rfl) dX6_fill_1 ⟨Nat.zero_le _, Nat.zero_le _⟩) rfl ?_
  refine x_ifeq_b (tgt := 17) hx hb dX6_fill_4 (by decide) (fun h_4 => ?_) (fun h_4 => ?_)
  · refine lv_bipush (v := -2) hx hb dX6_fill_17 (by decide) ?_
    exact px_iret F hr hlocks hS (by have e : f_fill r cl k0 b = (r, (-2)) := (by simp [f_fill, h_4] <;> rfl); rw [e]; exact ⟨rfl, _, _, hR⟩) dX6_fill_19
  · refine lv_iload_n hx hb dX6_fill_7 rfl (lv_at hl 2 rfl) ?_
    refine lv_iconst (v := 0) hx hb dX6_fill_8 (by decide) ?_
    refine lv_bipush (v := 7) hx hb dX6_fill_9 (by decide) ?_
    refine px_goV (st1 := [.int (b2i (f_in k0 0 7))]) (px_callS F hK (c_X6_in l D cy _ k0 0 7) kc_X6_in kw_methodLink_RX6_57 rfl trivial rfl ⟨rfl, rfl⟩ ⟨Nat.le_of_ble_eq_true rfl, Nat.le_of_ble_eq_true rfl⟩ hl.1 rfl (Nat.le_of_ble_eq_true rfl) dX6_fill_11 ⟨Nat.zero_le _, Nat.zero_le _⟩) rfl ?_
    refine x_ifne_b (tgt := 20) hx hb dX6_fill_14 (by decide) (fun h_14 => ?_) (fun h_14 => ?_)
    · obtain ⟨cn, hl_cn, hh_cn, rfl⟩ := f_in_nat h_4 0 15 (by decide) (by decide) (by decide) (by decide)
      obtain ⟨kn, hl_kn, hh_kn, rfl⟩ := f_in_nat h_14 0 7 (by decide) (by decide) (by decide) (by decide)
      have hc0 := hI.hd cn (by omega)
      have hc1 := hI.tb _ hc0
      refine lv_aload_n hx hb dX6_fill_20 rfl (lv_at hl 0 rfl) ?_
      refine m_get F hK hR 9 (by decide) rfl kw_fieldLink_RX6_31 dX6_fill_21 ?_
      refine lv_iload_n hx hb dX6_fill_24 rfl (lv_at hl 1 rfl) ?_
      refine m_ldHd F hK hR cn rfl (by omega) dX6_fill_25 ?_
      refine lv_istore (lv' := [(5, .int (nI (rHd r cn))), (0, .ref (G 0)), (1, .int (nI cn)), (2, .int (nI kn)), (3, .long b)]) hx hb dX6_fill_26 hl (by decide) rfl (fun ls hl => ?_)
      refine lv_aload_n hx hb dX6_fill_28 rfl (lv_at hl 1 rfl) ?_
      refine lv_iload hx hb dX6_fill_29 (lv_at hl 0 rfl) ?_
      refine lv_iload_n hx hb dX6_fill_31 rfl (lv_at hl 3 rfl) ?_
      refine px_goV (st1 := [.int (b2i (f_isOf r (rHd r cn) kn))]) (px_callV F hK (c_X6_isOf l D cy A G r _ _ _ (rHd r cn) kn (by omega) (by omega) (show rK r (rHd r cn) < 100 by omega)) kc_X6_isOf kw_methodLink_RX6_90 rfl hR (m_recv hK hR) rfl ⟨rfl, rfl⟩ ⟨Nat.le_of_ble_eq_true rfl, Nat.le_of_ble_eq_true rfl⟩ hl.1 rfl (Nat.le_of_ble_eq_true rfl) dX6_fill_32 ⟨Nat.zero_le _, Nat.zero_le _⟩) rfl ?_
      refine x_ifeq_b (tgt := 43) hx hb dX6_fill_35 (by decide) (fun h_35 => ?_) (fun h_35 => ?_)
      · refine lv_aload_n hx hb dX6_fill_43 rfl (lv_at hl 1 rfl) ?_
        refine lv_iload hx hb dX6_fill_44 (lv_at hl 0 rfl) ?_
        refine lv_iload_n hx hb dX6_fill_46 rfl (lv_at hl 3 rfl) ?_
        refine px_goV (st1 := [.int (b2i (f_isOf r (rHd r cn) kn))]) (px_callV F hK (c_X6_isOf l D cy A G r _ _ _ (rHd r cn) kn (by omega) (by omega) (show rK r (rHd r cn) < 100 by omega)) kc_X6_isOf kw_methodLink_RX6_90 rfl hR (m_recv hK hR) rfl ⟨rfl, rfl⟩ ⟨Nat.le_of_ble_eq_true rfl, Nat.le_of_ble_eq_true rfl⟩ hl.1 rfl (Nat.le_of_ble_eq_true rfl) dX6_fill_47 ⟨Nat.zero_le _, Nat.zero_le _⟩) rfl ?_
        refine x_ifeq_b (tgt := 57) hx hb dX6_fill_50 (by decide) (fun h_50 => ?_) (fun h_50 => (Bool.false_ne_true (h_35.symm.trans h_50)).elim)
        refine lv_iconst (v := 2) hx hb dX6_fill_57 (by decide) ?_
        refine px_goV (st1 := [.int (-12)]) (px_callS F hK (c_X6_answer l D cy _ 2) kc_X6_answer kw_methodLink_RX6_65 rfl trivial rfl ⟨rfl, rfl⟩ ⟨Nat.le_of_ble_eq_true rfl, Nat.le_of_ble_eq_true rfl⟩ hl.1 rfl (Nat.le_of_ble_eq_true rfl) dX6_fill_58 ⟨Nat.zero_le _, Nat.zero_le _⟩) rfl ?_
        exact px_iret F hr hlocks hS (by have e : f_fill r (nI cn) (nI kn) b = (r, (-12)) := (by simp [f_fill, h_4, h_14, h_35, ix_nI (show cn < 2 ^ 31 by omega), ix_nI (show kn < 2 ^ 31 by omega)] <;> rfl); rw [e]; exact ⟨rfl, _, _, hR⟩) dX6_fill_61
      · refine lv_iload hx hb dX6_fill_38 (lv_at hl 0 rfl) ?_
        refine lv_if_ne (tgt := 62) hx hb dX6_fill_40 (by decide) (fun h_40 => ?_) (fun h_40 => ?_)
        · have h_40 : ¬ (rHd r cn) = 0 := nIne (show ¬ nI (rHd r cn) = nI 0 from h_40)
          refine lv_iconst (v := 0) hx hb dX6_fill_62 (by decide) ?_
          refine lv_istore (lv' := [(6, .int 0), (5, .int (nI (rHd r cn))), (0, .ref (G 0)), (1, .int (nI cn)), (2, .int (nI kn)), (3, .long b)]) hx hb dX6_fill_63 hl (by decide) rfl (fun ls hl => ?_)
          have loop : ∀ (d k : Nat), k + d = rMn r (rHd r cn) → ∀ (H : Heap) (locs : List Loc) (ls : Array Slot), MR D cy A G (sI r (filI (rI r) (rS r (rHd r cn)) (f_cut kn b) k)) (C) (E) H → va_S A s.heap H locs → lv_has ls 7 [(6, .int (nI k)), (5, .int (nI (rHd r cn))), (0, .ref (G 0)), (1, .int (nI cn)), (2, .int (nI kn)), (3, .long b)] → W p l e (rmd 3 0 0) s m ([.ref (G 0), .int (nI cn), .int (nI kn), .long b] : List Value).toArray below meth c H locs 0 0 (MQ below (px_Q (px_M D cy A G (some (.int (f_fill r (nI cn) (nI kn) b).2)) ((f_fill r (nI cn) (nI kn) b).1)) A) ([.ref (G 0), .int (nI cn), .int (nI kn), .long b] : List Value).toArray s 0 0 A) (F0 m 65 ls []) := by
            intro d
            induction d with
            | zero =>
              intro k hk H locs ls hR hS hl
              refine lv_iload hx hb dX6_fill_65 (lv_at hl 0 rfl) ?_
              refine lv_aload_n hx hb dX6_fill_67 rfl (lv_at hl 2 rfl) ?_
              refine m_get F hK hR 2 (by decide) rfl kw_fieldLink_RX6_13 dX6_fill_68 ?_
              refine lv_iload hx hb dX6_fill_71 (lv_at hl 1 rfl) ?_
              refine m_ldMn F hK hR (rHd r cn) rfl (by omega) dX6_fill_73 ?_
              refine lv_icmp_ge (tgt := 96) hx hb dX6_fill_74 (by decide) (fun h_74 => ?_) (fun h_74 => by exfalso; have h_74 : k < (rMn r (rHd r cn)) := nInle (show ¬ nI (rMn r (rHd r cn)) ≤ nI k from h_74) (by omega) (by omega); omega)
              have h_74 : (rMn r (rHd r cn)) ≤ k := nIle (show nI (rMn r (rHd r cn)) ≤ nI k from h_74) (by omega) (by omega)
              refine lv_aload_n hx hb dX6_fill_96 rfl (lv_at hl 2 rfl) ?_
              refine m_get F hK hR 2 (by decide) rfl kw_fieldLink_RX6_13 dX6_fill_97 ?_
              refine lv_iload hx hb dX6_fill_100 (lv_at hl 1 rfl) ?_
              refine m_ldMn F hK hR (rHd r cn) rfl (by omega) dX6_fill_102 ?_
              have hkn : k = rMn r (rHd r cn) := (by omega)
              exact px_iret F hr hlocks hS (by have e : f_fill r (nI cn) (nI kn) b = (f_fil r (rHd r cn) (f_cut kn b) k, nI (rMn r (rHd r cn))) := (by simp [f_fill, hkn, h_4, h_14, h_35, h_40, ix_nI (show cn < 2 ^ 31 by omega), ix_nI (show kn < 2 ^ 31 by omega)]); rw [e]; exact ⟨rfl, _, _, hR⟩) dX6_fill_103
            | succ d ih_loop =>
              intro k hk H locs ls hR hS hl
              refine lv_iload hx hb dX6_fill_65 (lv_at hl 0 rfl) ?_
              refine lv_aload_n hx hb dX6_fill_67 rfl (lv_at hl 2 rfl) ?_
              refine m_get F hK hR 2 (by decide) rfl kw_fieldLink_RX6_13 dX6_fill_68 ?_
              refine lv_iload hx hb dX6_fill_71 (lv_at hl 1 rfl) ?_
              refine m_ldMn F hK hR (rHd r cn) rfl (by omega) dX6_fill_73 ?_
              refine lv_icmp_ge (tgt := 96) hx hb dX6_fill_74 (by decide) (fun h_74 => by exfalso; have h_74 : (rMn r (rHd r cn)) ≤ k := nIle (show nI (rMn r (rHd r cn)) ≤ nI k from h_74) (by omega) (by omega); omega) (fun h_74 => ?_)
              have h_74 : k < (rMn r (rHd r cn)) := nInle (show ¬ nI (rMn r (rHd r cn)) ≤ nI k from h_74) (by omega) (by omega)
              refine lv_aload_n hx hb dX6_fill_77 rfl (lv_at hl 2 rfl) ?_
              refine lv_iload hx hb dX6_fill_78 (lv_at hl 1 rfl) ?_
              refine lv_iload hx hb dX6_fill_80 (lv_at hl 0 rfl) ?_
              refine lv_iload_n hx hb dX6_fill_82 rfl (lv_at hl 4 rfl) ?_
              refine lv_lload_n hx hb dX6_fill_83 rfl (lv_at hl 5 rfl) ?_
              refine px_goV (st1 := [.long (f_cut kn b), .int (nI k), .int (nI (rHd r cn)), .ref (G 0)]) (px_callS F hK (c_X6_cut l D cy _ kn b (by omega)) kc_X6_cut kw_methodLink_RX6_118 rfl trivial rfl ⟨rfl, rfl⟩ ⟨Nat.le_of_ble_eq_true rfl, Nat.le_of_ble_eq_true rfl⟩ hl.1 rfl (Nat.le_of_ble_eq_true rfl) dX6_fill_84 ⟨Nat.zero_le _, Nat.zero_le _⟩) rfl ?_
              refine px_goMx (st1 := []) (px_callV F hK (c_X6_put l D cy A G (sI r (filI (rI r) (rS r (rHd r cn)) (f_cut kn b) k)) _ _ _ (rHd r cn) k (f_cut kn b) (by omega) (show rS r (rHd r cn) + k < 12200 by omega)) kc_X6_put kw_methodLink_RX6_76 rfl hR (m_recv hK hR) rfl ⟨rfl, rfl⟩ ⟨Nat.le_of_ble_eq_true rfl, Nat.le_of_ble_eq_true rfl⟩ hl.1 rfl (Nat.le_of_ble_eq_true rfl) dX6_fill_87 ⟨Nat.zero_le _, Nat.zero_le _⟩) hS rfl (fun H locs hR hS => ?_)
              refine lv_iinc (v := nI (k + 1)) (lv' := [(6, .int (nI (k + 1))), (5, .int (nI (rHd r cn))), (0, .ref (G 0)), (1, .int (nI cn)), (2, .int (nI kn)), (3, .long b)]) hx hb dX6_fill_90 hl (k := 0) rfl (by show nI k + 1 = nI (k + 1); exact nI_1 _) (by decide) rfl (fun ls hl => ?_)
              refine lv_goto (tgt := 65) hx hb dX6_fill_93 (by decide) ?_
              exact ih_loop (k + 1) (by omega) _ _ _ hR hS (lv_sub hl [0, 1, 2, 3, 4, 5] rfl)
          exact loop (rMn r (rHd r cn)) 0 (by omega) _ _ _ hR hS (lv_sub hl [0, 1, 2, 3, 4, 5] rfl)
        · have h_40 : (rHd r cn) = 0 := nIeq (show nI (rHd r cn) = nI 0 from h_40) (by omega) (by omega)
          refine lv_aload_n hx hb dX6_fill_43 rfl (lv_at hl 1 rfl) ?_
          refine lv_iload hx hb dX6_fill_44 (lv_at hl 0 rfl) ?_
          refine lv_iload_n hx hb dX6_fill_46 rfl (lv_at hl 3 rfl) ?_
          refine px_goV (st1 := [.int (b2i (f_isOf r (rHd r cn) kn))]) (px_callV F hK (c_X6_isOf l D cy A G r _ _ _ (rHd r cn) kn (by omega) (by omega) (show rK r (rHd r cn) < 100 by omega)) kc_X6_isOf kw_methodLink_RX6_90 rfl hR (m_recv hK hR) rfl ⟨rfl, rfl⟩ ⟨Nat.le_of_ble_eq_true rfl, Nat.le_of_ble_eq_true rfl⟩ hl.1 rfl (Nat.le_of_ble_eq_true rfl) dX6_fill_47 ⟨Nat.zero_le _, Nat.zero_le _⟩) rfl ?_
          refine x_ifeq_b (tgt := 57) hx hb dX6_fill_50 (by decide) (fun h_50 => (Bool.false_ne_true ((h_50).symm.trans h_35)).elim) (fun h_50 => ?_)
          refine lv_iconst (v := 1) hx hb dX6_fill_53 (by decide) ?_
          refine lv_goto (tgt := 58) hx hb dX6_fill_54 (by decide) ?_
          refine px_goV (st1 := [.int (-11)]) (px_callS F hK (c_X6_answer l D cy _ 1) kc_X6_answer kw_methodLink_RX6_65 rfl trivial rfl ⟨rfl, rfl⟩ ⟨Nat.le_of_ble_eq_true rfl, Nat.le_of_ble_eq_true rfl⟩ hl.1 rfl (Nat.le_of_ble_eq_true rfl) dX6_fill_58 ⟨Nat.zero_le _, Nat.zero_le _⟩) rfl ?_
          exact px_iret F hr hlocks hS (by have e : f_fill r (nI cn) (nI kn) b = (r, (-11)) := (by simp [f_fill, h_4, h_14, h_35, h_40, ix_nI (show cn < 2 ^ 31 by omega), ix_nI (show kn < 2 ^ 31 by omega)] <;> rfl); rw [e]; exact ⟨rfl, _, _, hR⟩) dX6_fill_61
    · refine lv_bipush (v := -2) hx hb dX6_fill_17 (by decide) ?_
      exact px_iret F hr hlocks hS (by have e : f_fill r cl k0 b = (r, (-2)) := (by simp [f_fill, h_4, h_14] <;> rfl); rw [e]; exact ⟨rfl, _, _, hR⟩) dX6_fill_19
