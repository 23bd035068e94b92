/-! the reference: copy -/
set_option maxHeartbeats 400000 in
set_option maxRecDepth 100000 in
theorem c_X6_copy (l : Launch) (D : va_G) (cy : Nat → ClassId) (A : Nat → Prop) (G : Nat → Nat) (r : RS) (C : Nat → Nat) (E : Nat → Int64) (sz : Nat) (cl i ot j n : Int32) {kk : Nat} (hI : Inv kk r) : Met l yX6_copy (px_w yX6_copy cX6_copy 9 (some .int)) (rmd 4 0 0) (px_P D cy [.ref (G 0), .int cl, .int i, .int ot, .int j, .int n] sz (MR D cy A G r C E)) (px_Q (px_M D cy A G (some (.int (f_copy r cl i ot j n).2)) ((f_copy r cl i ot j n).1)) A) 0 0 A := by
  refine px_met (by decide) (Nat.le_of_ble_eq_true rfl) ?_
  intro p e s m below meth c F hr hlocks hnm hK hsz hR ls hl
  have hx := F.1
  have hb := F.2.1
  have hl : lv_has ls 9 [(0, .ref (G 0)), (1, .int cl), (2, .int i), (3, .int ot), (4, .int j), (5, .int n)] := hl
  have hS : va_S A s.heap s.heap [] := va_S.rf
  have hbd := hI.bd
  refine lv_iload_n hx hb dX6_copy_0 rfl (lv_at hl 1 rfl) ?_
  refine px_goV (st1 := [.int (b2i (f_in cl 0 15))]) (px_callS F hK (c_X6_isColumn l D cy _ cl) kc_X6_isColumn kw_methodLink_RX6_53 rfl trivial rfl ⟨rfl, rfl⟩ ⟨Nat.le_of_ble_eq_true rfl, Nat.le_of_ble_eq_true rfl⟩ hl.1 rfl (Nat.le_of_ble_eq_true rfl) dX6_copy_1 ⟨Nat.zero_le _, Nat.zero_le _⟩) rfl ?_
  refine x_ifeq_b (tgt := 14) hx hb dX6_copy_4 (by decide) (fun h_4 => ?_) (fun h_4 => ?_)
  · refine lv_bipush (v := -2) hx hb dX6_copy_14 (by decide) ?_
    exact px_iret F hr hlocks hS (by have e : f_copy r cl i ot j n = (r, (-2)) := (by simp [f_copy, h_4] <;> rfl); rw [e]; exact ⟨rfl, _, _, hR⟩) dX6_copy_16
  · refine lv_iload_n hx hb dX6_copy_7 rfl (lv_at hl 3 rfl) ?_
    refine px_goV (st1 := [.int (b2i (f_in ot 0 15))]) (px_callS F hK (c_X6_isColumn l D cy _ ot) kc_X6_isColumn kw_methodLink_RX6_53 rfl trivial rfl ⟨rfl, rfl⟩ ⟨Nat.le_of_ble_eq_true rfl, Nat.le_of_ble_eq_true rfl⟩ hl.1 rfl (Nat.le_of_ble_eq_true rfl) dX6_copy_8 ⟨Nat.zero_le _, Nat.zero_le _⟩) rfl ?_
    refine x_ifne_b (tgt := 17) hx hb dX6_copy_11 (by decide) (fun h_11 => ?_) (fun h_11 => ?_)
    · obtain ⟨cn, hl_cn, hh_cn, rfl⟩ := f_in_nat h_4 0 15 (by decide) (by decide) (by decide) (by decide)
      obtain ⟨on, hl_on, hh_on, rfl⟩ := f_in_nat h_11 0 15 (by decide) (by decide) (by decide) (by decide)
      have hc0 := hI.hd cn (by omega)
      have hc1 := hI.tb _ hc0
      have hd0 := hI.hd on (by omega)
      have hd1 := hI.tb _ hd0
      refine lv_aload_n hx hb dX6_copy_17 rfl (lv_at hl 0 rfl) ?_
      refine m_get F hK hR 9 (by decide) rfl kw_fieldLink_RX6_31 dX6_copy_18 ?_
      refine lv_iload_n hx hb dX6_copy_21 rfl (lv_at hl 1 rfl) ?_
      refine m_ldHd F hK hR cn rfl (by omega) dX6_copy_22 ?_
      refine lv_istore (lv' := [(6, .int (nI (rHd r cn))), (0, .ref (G 0)), (1, .int (nI cn)), (2, .int i), (3, .int (nI on)), (4, .int j), (5, .int n)]) hx hb dX6_copy_23 hl (by decide) rfl (fun ls hl => ?_)
      refine lv_aload_n hx hb dX6_copy_25 rfl (lv_at hl 1 rfl) ?_
      refine m_get F hK hR 9 (by decide) rfl kw_fieldLink_RX6_31 dX6_copy_26 ?_
      refine lv_iload_n hx hb dX6_copy_29 rfl (lv_at hl 4 rfl) ?_
      refine m_ldHd F hK hR on rfl (by omega) dX6_copy_30 ?_
      refine lv_istore (lv' := [(7, .int (nI (rHd r on))), (6, .int (nI (rHd r cn))), (0, .ref (G 0)), (1, .int (nI cn)), (2, .int i), (3, .int (nI on)), (4, .int j), (5, .int n)]) hx hb dX6_copy_31 hl (by decide) rfl (fun ls hl => ?_)
      refine lv_iload hx hb dX6_copy_33 (lv_at hl 1 rfl) ?_
      refine lv_if_eq (tgt := 43) hx hb dX6_copy_35 (by decide) (fun h_35 => ?_) (fun h_35 => ?_)
      · have h_35 : (rHd r cn) = 0 := nIeq (show nI (rHd r cn) = nI 0 from h_35) (by omega) (by omega)
        refine lv_iconst (v := 1) hx hb dX6_copy_43 (by decide) ?_
        refine px_goV (st1 := [.int (-11)]) (px_callS F hK (c_X6_answer l D cy _ 1) kc_X6_answer kw_methodLink_RX6_65 rfl trivial rfl ⟨rfl, rfl⟩ ⟨Nat.le_of_ble_eq_true rfl, Nat.le_of_ble_eq_true rfl⟩ hl.1 rfl (Nat.le_of_ble_eq_true rfl) dX6_copy_44 ⟨Nat.zero_le _, Nat.zero_le _⟩) rfl ?_
        exact px_iret F hr hlocks hS (by have e : f_copy r (nI cn) i (nI on) j n = (r, (-11)) := (by simp [f_copy, f_cpo, h_4, h_11, h_35, ix_nI (show cn < 2 ^ 31 by omega), ix_nI (show on < 2 ^ 31 by omega)] <;> rfl); rw [e]; exact ⟨rfl, _, _, hR⟩) dX6_copy_47
      · have h_35 : ¬ (rHd r cn) = 0 := nIne (show ¬ nI (rHd r cn) = nI 0 from h_35)
        refine lv_iload hx hb dX6_copy_38 (lv_at hl 0 rfl) ?_
        refine lv_if_ne (tgt := 48) hx hb dX6_copy_40 (by decide) (fun h_40 => ?_) (fun h_40 => ?_)
        · have h_40 : ¬ (rHd r on) = 0 := nIne (show ¬ nI (rHd r on) = nI 0 from h_40)
          refine lv_aload_n hx hb dX6_copy_48 rfl (lv_at hl 2 rfl) ?_
          refine lv_iload hx hb dX6_copy_49 (lv_at hl 1 rfl) ?_
          refine lv_iload hx hb dX6_copy_51 (lv_at hl 0 rfl) ?_
          refine px_goV (st1 := [.int (b2i (f_unlike r (rHd r cn) (rHd r on)))]) (px_callV F hK (c_X6_areUnlike l D cy A G r _ _ _ (rHd r cn) (rHd r on) (by omega) (by omega) (by omega) (by omega)) kc_X6_areUnlike kw_methodLink_RX6_125 rfl hR (m_recv hK hR) rfl ⟨rfl, rfl⟩ ⟨Nat.le_of_ble_eq_true rfl, Nat.le_of_ble_eq_true rfl⟩ hl.1 rfl (Nat.le_of_ble_eq_true rfl) dX6_copy_53 ⟨Nat.zero_le _, Nat.zero_le _⟩) rfl ?_
          refine x_ifeq_b (tgt := 64) hx hb dX6_copy_56 (by decide) (fun h_56 => ?_) (fun h_56 => ?_)
          · refine lv_iload_n hx hb dX6_copy_64 rfl (lv_at hl 4 rfl) ?_
            refine lv_if_lt (tgt := 107) hx hb dX6_copy_65 (by decide) (fun h_65 => ?_) (fun h_65 => ?_)
            · refine lv_iconst (v := 3) hx hb dX6_copy_107 (by decide) ?_
              refine px_goV (st1 := [.int (-13)]) (px_callS F hK (c_X6_answer l D cy _ 3) kc_X6_answer kw_methodLink_RX6_65 rfl trivial rfl ⟨rfl, rfl⟩ ⟨Nat.le_of_ble_eq_true rfl, Nat.le_of_ble_eq_true rfl⟩ hl.1 rfl (Nat.le_of_ble_eq_true rfl) dX6_copy_108 ⟨Nat.zero_le _, Nat.zero_le _⟩) rfl ?_
              exact px_iret F hr hlocks hS (by have e : f_copy r (nI cn) i (nI on) j n = (r, (-13)) := (by simp [f_copy, f_cpo, h_4, h_11, h_35, h_40, h_56, h_65, ix_nI (show cn < 2 ^ 31 by omega), ix_nI (show on < 2 ^ 31 by omega)] <;> rfl); rw [e]; exact ⟨rfl, _, _, hR⟩) dX6_copy_111
            · refine lv_iload hx hb dX6_copy_68 (lv_at hl 6 rfl) ?_
              refine lv_if_lt (tgt := 107) hx hb dX6_copy_70 (by decide) (fun h_70 => ?_) (fun h_70 => ?_)
              · refine lv_iconst (v := 3) hx hb dX6_copy_107 (by decide) ?_
                refine px_goV (st1 := [.int (-13)]) (px_callS F hK (c_X6_answer l D cy _ 3) kc_X6_answer kw_methodLink_RX6_65 rfl trivial rfl ⟨rfl, rfl⟩ ⟨Nat.le_of_ble_eq_true rfl, Nat.le_of_ble_eq_true rfl⟩ hl.1 rfl (Nat.le_of_ble_eq_true rfl) dX6_copy_108 ⟨Nat.zero_le _, Nat.zero_le _⟩) rfl ?_
                exact px_iret F hr hlocks hS (by have e : f_copy r (nI cn) i (nI on) j n = (r, (-13)) := (by simp [f_copy, f_cpo, h_4, h_11, h_35, h_40, h_56, h_65, h_70, ix_nI (show cn < 2 ^ 31 by omega), ix_nI (show on < 2 ^ 31 by omega)] <;> rfl); rw [e]; exact ⟨rfl, _, _, hR⟩) dX6_copy_111
              · refine lv_iload hx hb dX6_copy_73 (lv_at hl 7 rfl) ?_
                refine lv_if_lt (tgt := 107) hx hb dX6_copy_75 (by decide) (fun h_75 => ?_) (fun h_75 => ?_)
                · refine lv_iconst (v := 3) hx hb dX6_copy_107 (by decide) ?_
                  refine px_goV (st1 := [.int (-13)]) (px_callS F hK (c_X6_answer l D cy _ 3) kc_X6_answer kw_methodLink_RX6_65 rfl trivial rfl ⟨rfl, rfl⟩ ⟨Nat.le_of_ble_eq_true rfl, Nat.le_of_ble_eq_true rfl⟩ hl.1 rfl (Nat.le_of_ble_eq_true rfl) dX6_copy_108 ⟨Nat.zero_le _, Nat.zero_le _⟩) rfl ?_
                  exact px_iret F hr hlocks hS (by have e : f_copy r (nI cn) i (nI on) j n = (r, (-13)) := (by simp [f_copy, f_cpo, h_4, h_11, h_35, h_40, h_56, h_65, h_70, h_75, ix_nI (show cn < 2 ^ 31 by omega), ix_nI (show on < 2 ^ 31 by omega)] <;> rfl); rw [e]; exact ⟨rfl, _, _, hR⟩) dX6_copy_111
                · refine lv_iload hx hb dX6_copy_78 (lv_at hl 7 rfl) ?_
                  refine lv_aload_n hx hb dX6_copy_80 rfl (lv_at hl 2 rfl) ?_
                  refine m_get F hK hR 2 (by decide) rfl kw_fieldLink_RX6_13 dX6_copy_81 ?_
                  refine lv_iload hx hb dX6_copy_84 (lv_at hl 1 rfl) ?_
                  refine m_ldMn F hK hR (rHd r cn) rfl (by omega) dX6_copy_86 ?_
                  refine lv_iload_n hx hb dX6_copy_87 rfl (lv_at hl 4 rfl) ?_
                  refine lv_isub hx hb dX6_copy_88 ?_
                  refine lv_icmp_gt (tgt := 107) hx hb dX6_copy_89 (by decide) (fun h_89 => ?_) (fun h_89 => ?_)
                  · refine lv_iconst (v := 3) hx hb dX6_copy_107 (by decide) ?_
                    refine px_goV (st1 := [.int (-13)]) (px_callS F hK (c_X6_answer l D cy _ 3) kc_X6_answer kw_methodLink_RX6_65 rfl trivial rfl ⟨rfl, rfl⟩ ⟨Nat.le_of_ble_eq_true rfl, Nat.le_of_ble_eq_true rfl⟩ hl.1 rfl (Nat.le_of_ble_eq_true rfl) dX6_copy_108 ⟨Nat.zero_le _, Nat.zero_le _⟩) rfl ?_
                    exact px_iret F hr hlocks hS (by have e : f_copy r (nI cn) i (nI on) j n = (r, (-13)) := (by simp [f_copy, f_cpo, h_4, h_11, h_35, h_40, h_56, h_65, h_70, h_75, h_89, ix_nI (show cn < 2 ^ 31 by omega), ix_nI (show on < 2 ^ 31 by omega)] <;> rfl); rw [e]; exact ⟨rfl, _, _, hR⟩) dX6_copy_111
                  · refine lv_iload hx hb dX6_copy_92 (lv_at hl 7 rfl) ?_
                    refine lv_aload_n hx hb dX6_copy_94 rfl (lv_at hl 2 rfl) ?_
                    refine m_get F hK hR 2 (by decide) rfl kw_fieldLink_RX6_13 dX6_copy_95 ?_
                    refine lv_iload hx hb dX6_copy_98 (lv_at hl 0 rfl) ?_
                    refine m_ldMn F hK hR (rHd r on) rfl (by omega) dX6_copy_100 ?_
                    refine lv_iload hx hb dX6_copy_101 (lv_at hl 6 rfl) ?_
                    refine lv_isub hx hb dX6_copy_103 ?_
                    refine lv_icmp_le (tgt := 112) hx hb dX6_copy_104 (by decide) (fun h_104 => ?_) (fun h_104 => ?_)
                    · have h_104 : ¬ ((nI (rMn r (rHd r on))) - j) < n := Int32.not_lt.mpr h_104
                      have hcpo : f_cpo r (rHd r cn) (rHd r on) i j n = false := (by simp [f_cpo, h_65, h_70, h_75, h_89, h_104])
                      obtain ⟨i0, n0, rfl, rfl, hin⟩ := cp_nat hc1.2.1 h_65 h_75 h_89
                      obtain ⟨j0, n1, rfl, hn1, hjn⟩ := cp_nat hd1.2.1 h_70 h_75 h_104
                      have hn2 : n0 = n1 := nIeq hn1 (by omega) (by omega)
                      refine lv_iconst (v := 0) hx hb dX6_copy_112 (by decide) ?_
                      refine lv_istore (lv' := [(8, .int 0), (7, .int (nI (rHd r on))), (6, .int (nI (rHd r cn))), (0, .ref (G 0)), (1, .int (nI cn)), (2, .int (nI i0)), (3, .int (nI on)), (4, .int (nI j0)), (5, .int (nI n0))]) hx hb dX6_copy_113 hl (by decide) rfl (fun ls hl => ?_)
                      have loop : ∀ (d k : Nat), k + d = n0 → ∀ (H : Heap) (locs : List Loc) (ls : Array Slot), MR D cy A G (r) (C) (kE (fun q => f_at r (rHd r cn) (i0 + q)) E k) H → va_S A s.heap H locs → lv_has ls 9 [(8, .int (nI k)), (7, .int (nI (rHd r on))), (6, .int (nI (rHd r cn))), (0, .ref (G 0)), (1, .int (nI cn)), (2, .int (nI i0)), (3, .int (nI on)), (4, .int (nI j0)), (5, .int (nI n0))] → W p l e (rmd 4 0 0) s m ([.ref (G 0), .int (nI cn), .int (nI i0), .int (nI on), .int (nI j0), .int (nI n0)] : List Value).toArray below meth c H locs 0 0 (MQ below (px_Q (px_M D cy A G (some (.int (f_copy r (nI cn) (nI i0) (nI on) (nI j0) (nI n0)).2)) ((f_copy r (nI cn) (nI i0) (nI on) (nI j0) (nI n0)).1)) A) ([.ref (G 0), .int (nI cn), .int (nI i0), .int (nI on), .int (nI j0), .int (nI n0)] : List Value).toArray s 0 0 A) (F0 m 115 ls []) := by
                        intro d
                        induction d with
                        | zero =>
                          intro k hk H locs ls hR hS hl
                          refine lv_iload hx hb dX6_copy_115 (lv_at hl 0 rfl) ?_
                          refine lv_iload hx hb dX6_copy_117 (lv_at hl 8 rfl) ?_
                          refine lv_icmp_ge (tgt := 145) hx hb dX6_copy_119 (by decide) (fun h_119 => ?_) (fun h_119 => by exfalso; have h_119 : k < n0 := nInle (show ¬ nI n0 ≤ nI k from h_119) (by omega) (by omega); omega)
                          have h_119 : n0 ≤ k := nIle (show nI n0 ≤ nI k from h_119) (by omega) (by omega)
                          refine lv_iconst (v := 0) hx hb dX6_copy_145 (by decide) ?_
                          refine lv_istore (lv' := [(8, .int 0), (7, .int (nI (rHd r on))), (6, .int (nI (rHd r cn))), (0, .ref (G 0)), (1, .int (nI cn)), (2, .int (nI i0)), (3, .int (nI on)), (4, .int (nI j0)), (5, .int (nI n0))]) hx hb dX6_copy_146 hl (by decide) rfl (fun ls hl => ?_)
                          have loop2 : ∀ (d2 k2 : Nat), k2 + d2 = n0 → (∀ q, q < k2 → f_canStand r (rHd r cn) ((fun q => f_at r (rHd r cn) (i0 + q)) q) (rHd r on) = true) → ∀ (H : Heap) (locs : List Loc) (ls : Array Slot), MR D cy A G (sI r (putI (rI r) (rS r (rHd r on) + j0) (fun q => f_at r (rHd r cn) (i0 + q)) k2)) (C) (kE (fun q => f_at r (rHd r cn) (i0 + q)) E k) H → va_S A s.heap H locs → lv_has ls 9 [(8, .int (nI k2)), (7, .int (nI (rHd r on))), (6, .int (nI (rHd r cn))), (0, .ref (G 0)), (1, .int (nI cn)), (2, .int (nI i0)), (3, .int (nI on)), (4, .int (nI j0)), (5, .int (nI n0))] → W p l e (rmd 4 0 0) s m ([.ref (G 0), .int (nI cn), .int (nI i0), .int (nI on), .int (nI j0), .int (nI n0)] : List Value).toArray below meth c H locs 0 0 (MQ below (px_Q (px_M D cy A G (some (.int (f_copy r (nI cn) (nI i0) (nI on) (nI j0) (nI n0)).2)) ((f_copy r (nI cn) (nI i0) (nI on) (nI j0) (nI n0)).1)) A) ([.ref (G 0), .int (nI cn), .int (nI i0), .int (nI on), .int (nI j0), .int (nI n0)] : List Value).toArray s 0 0 A) (F0 m 148 ls []) := by
                            intro d2
                            induction d2 with
                            | zero =>
                              intro k2 hk2 hcan H locs ls hR hS hl
                              refine lv_iload hx hb dX6_copy_148 (lv_at hl 0 rfl) ?_
                              refine lv_iload hx hb dX6_copy_150 (lv_at hl 8 rfl) ?_
                              refine lv_icmp_ge (tgt := 202) hx hb dX6_copy_152 (by decide) (fun h_152 => ?_) (fun h_152 => by exfalso; have h_152 : k2 < n0 := nInle (show ¬ nI n0 ≤ nI k2 from h_152) (by omega) (by omega); omega)
                              have h_152 : n0 ≤ k2 := nIle (show nI n0 ≤ nI k2 from h_152) (by omega) (by omega)
                              refine lv_iload hx hb dX6_copy_202 (lv_at hl 8 rfl) ?_
                              exact px_iret F hr hlocks hS (by have e : f_copy r (nI cn) (nI i0) (nI on) (nI j0) (nI n0) = (sI r (putI (rI r) (rS r (rHd r on) + j0) (fun q => f_at r (rHd r cn) (i0 + q)) k2), nI n0) := (by simp only [f_copy, h_4, h_11, ix_nI (show cn < 2 ^ 31 by omega), ix_nI (show on < 2 ^ 31 by omega), ix_nI (show i0 < 2 ^ 31 by omega), ix_nI (show n0 < 2 ^ 31 by omega), ix_nI (show j0 < 2 ^ 31 by omega), Bool.not_true, Bool.or_self, Bool.false_eq_true, if_false]; rw [if_neg (by omega), if_neg (by rw [h_56]; decide), if_neg (by rw [hcpo]; decide)]; unfold f_come; rw [comI_end _ _ _ _ _ (fun q hq => hcan q (by omega)), show k2 = n0 by omega]); rw [e]; exact ⟨rfl, _, _, hR⟩) dX6_copy_204
                            | succ d2 ih_loop2 =>
                              intro k2 hk2 hcan H locs ls hR hS hl
                              refine lv_iload hx hb dX6_copy_148 (lv_at hl 0 rfl) ?_
                              refine lv_iload hx hb dX6_copy_150 (lv_at hl 8 rfl) ?_
                              refine lv_icmp_ge (tgt := 202) hx hb dX6_copy_152 (by decide) (fun h_152 => by exfalso; have h_152 : n0 ≤ k2 := nIle (show nI n0 ≤ nI k2 from h_152) (by omega) (by omega); omega) (fun h_152 => ?_)
                              have h_152 : k2 < n0 := nInle (show ¬ nI n0 ≤ nI k2 from h_152) (by omega) (by omega)
                              refine lv_aload_n hx hb dX6_copy_155 rfl (lv_at hl 3 rfl) ?_
                              refine lv_iload hx hb dX6_copy_156 (lv_at hl 2 rfl) ?_
                              refine lv_aload_n hx hb dX6_copy_158 rfl (lv_at hl 3 rfl) ?_
                              refine m_get F hK hR 15 (by decide) rfl kw_fieldLink_RX6_44 dX6_copy_159 ?_
                              refine lv_iload hx hb dX6_copy_162 (lv_at hl 0 rfl) ?_
                              refine m_ldE F hK hR k2 rfl (by omega) dX6_copy_164 ?_
                              have hv : 8 ≤ rK r (rHd r on) → f_at r (rHd r cn) (i0 + k2) = lN (iv (f_at r (rHd r cn) (i0 + k2))) ∧ iv (f_at r (rHd r cn) (i0 + k2)) < 13000 ∧ (rK r (rHd r cn) < 10 → iv (f_at r (rHd r cn) (i0 + k2)) < 3100) ∧ (10 ≤ rK r (rHd r cn) → rK r (iv (f_at r (rHd r cn) (i0 + k2))) < 100) := (fun q8 => by have hit := hI.it h_35 hc0 (show i0 + k2 < rMn r (rHd r cn) by omega) (unlike_f h_56 q8); exact ⟨hit.1, by omega, fun q => by have q2 := hit.2.2.1 q; omega, fun q => by have q2 := hI.tb _ (hit.2.2.2.2 q).1; omega⟩)
                              refine px_topl (y := f_at r (rHd r cn) (i0 + k2)) (kE_at (fun q => f_at r (rHd r cn) (i0 + q)) E (show k2 < k by omega)) ?_
                              refine lv_iload hx hb dX6_copy_165 (lv_at hl 1 rfl) ?_
                              refine px_goV (st1 := [.int (b2i (f_canStand r (rHd r cn) (f_at r (rHd r cn) (i0 + k2)) (rHd r on)))]) (px_callV F hK (c_X6_canStand l D cy A G (sI r (putI (rI r) (rS r (rHd r on) + j0) (fun q => f_at r (rHd r cn) (i0 + q)) k2)) _ _ _ (rHd r cn) (rHd r on) (f_at r (rHd r cn) (i0 + k2)) (by omega) (by omega) (show rK r (rHd r cn) < 100 by omega) (show rK r (rHd r on) < 100 by omega) hv) kc_X6_canStand kw_methodLink_RX6_128 rfl hR (m_recv hK hR) rfl ⟨rfl, rfl⟩ ⟨Nat.le_of_ble_eq_true rfl, Nat.le_of_ble_eq_true rfl⟩ hl.1 rfl (Nat.le_of_ble_eq_true rfl) dX6_copy_167 ⟨Nat.zero_le _, Nat.zero_le _⟩) rfl ?_
                              refine x_ifne_b (tgt := 178) hx hb dX6_copy_170 (by decide) (fun h_170 => ?_) (fun h_170 => ?_)
                              · refine lv_aload_n hx hb dX6_copy_178 rfl (lv_at hl 3 rfl) ?_
                                refine lv_iload hx hb dX6_copy_179 (lv_at hl 1 rfl) ?_
                                refine lv_iload hx hb dX6_copy_181 (lv_at hl 7 rfl) ?_
                                refine lv_iload hx hb dX6_copy_183 (lv_at hl 0 rfl) ?_
                                refine lv_iadd hx hb dX6_copy_185 ?_
                                refine px_topi (y := nI (j0 + k2)) (nI_add _ _) ?_
                                refine lv_aload_n hx hb dX6_copy_186 rfl (lv_at hl 3 rfl) ?_
                                refine m_get F hK hR 15 (by decide) rfl kw_fieldLink_RX6_44 dX6_copy_187 ?_
                                refine lv_iload hx hb dX6_copy_190 (lv_at hl 0 rfl) ?_
                                refine m_ldE F hK hR k2 rfl (by omega) dX6_copy_192 ?_
                                refine px_topl (y := f_at r (rHd r cn) (i0 + k2)) (kE_at (fun q => f_at r (rHd r cn) (i0 + q)) E (show k2 < k by omega)) ?_
                                refine px_goMx (st1 := []) (px_callV F hK (c_X6_put l D cy A G (sI r (putI (rI r) (rS r (rHd r on) + j0) (fun q => f_at r (rHd r cn) (i0 + q)) k2)) _ _ _ (rHd r on) (j0 + k2) (f_at r (rHd r cn) (i0 + k2)) (by omega) (show rS r (rHd r on) + (j0 + k2) < 12200 by omega)) kc_X6_put kw_methodLink_RX6_76 rfl hR (m_recv hK hR) rfl ⟨rfl, rfl⟩ ⟨Nat.le_of_ble_eq_true rfl, Nat.le_of_ble_eq_true rfl⟩ hl.1 rfl (Nat.le_of_ble_eq_true rfl) dX6_copy_193 ⟨Nat.zero_le _, Nat.zero_le _⟩) hS rfl (fun H locs hR hS => ?_)
                                refine lv_iinc (v := nI (k2 + 1)) (lv' := [(8, .int (nI (k2 + 1))), (7, .int (nI (rHd r on))), (6, .int (nI (rHd r cn))), (0, .ref (G 0)), (1, .int (nI cn)), (2, .int (nI i0)), (3, .int (nI on)), (4, .int (nI j0)), (5, .int (nI n0))]) hx hb dX6_copy_196 hl (k := 0) rfl (by show nI k2 + 1 = nI (k2 + 1); exact nI_1 _) (by decide) rfl (fun ls hl => ?_)
                                refine lv_goto (tgt := 148) hx hb dX6_copy_199 (by decide) ?_
                                exact ih_loop2 (k2 + 1) (by omega) (fun q hq => (Nat.lt_succ_iff_lt_or_eq.mp hq).elim (hcan q) (fun e => by rw [e]; exact h_170)) _ _ _ (by rw [putI, Nat.add_assoc]; exact hR) hS (lv_sub hl [0, 1, 2, 3, 4, 5, 6, 7, 8] rfl)
                              · refine lv_iconst (v := 5) hx hb dX6_copy_173 (by decide) ?_
                                refine px_goV (st1 := [.int (-15)]) (px_callS F hK (c_X6_answer l D cy _ 5) kc_X6_answer kw_methodLink_RX6_65 rfl trivial rfl ⟨rfl, rfl⟩ ⟨Nat.le_of_ble_eq_true rfl, Nat.le_of_ble_eq_true rfl⟩ hl.1 rfl (Nat.le_of_ble_eq_true rfl) dX6_copy_174 ⟨Nat.zero_le _, Nat.zero_le _⟩) rfl ?_
                                exact px_iret F hr hlocks hS (by have e : f_copy r (nI cn) (nI i0) (nI on) (nI j0) (nI n0) = (sI r (putI (rI r) (rS r (rHd r on) + j0) (fun q => f_at r (rHd r cn) (i0 + q)) k2), (-15)) := (by simp only [f_copy, h_4, h_11, ix_nI (show cn < 2 ^ 31 by omega), ix_nI (show on < 2 ^ 31 by omega), ix_nI (show i0 < 2 ^ 31 by omega), ix_nI (show n0 < 2 ^ 31 by omega), ix_nI (show j0 < 2 ^ 31 by omega), Bool.not_true, Bool.or_self, Bool.false_eq_true, if_false]; rw [if_neg (by omega), if_neg (by rw [h_56]; decide), if_neg (by rw [hcpo]; decide)]; unfold f_come; rw [comI_stop _ _ _ _ _ (k := k2) (by omega) hcan h_170]); rw [e]; exact ⟨rfl, _, _, hR⟩) dX6_copy_177
                          exact loop2 n0 0 (by omega) (fun q hq => absurd hq (by omega)) _ _ _ hR hS (lv_sub hl [0, 1, 2, 3, 4, 5, 6, 7, 8] rfl)
                        | succ d ih_loop =>
                          intro k hk H locs ls hR hS hl
                          refine lv_iload hx hb dX6_copy_115 (lv_at hl 0 rfl) ?_
                          refine lv_iload hx hb dX6_copy_117 (lv_at hl 8 rfl) ?_
                          refine lv_icmp_ge (tgt := 145) hx hb dX6_copy_119 (by decide) (fun h_119 => by exfalso; have h_119 : n0 ≤ k := nIle (show nI n0 ≤ nI k from h_119) (by omega) (by omega); omega) (fun h_119 => ?_)
                          have h_119 : k < n0 := nInle (show ¬ nI n0 ≤ nI k from h_119) (by omega) (by omega)
                          refine lv_aload_n hx hb dX6_copy_122 rfl (lv_at hl 3 rfl) ?_
                          refine m_get F hK hR 15 (by decide) rfl kw_fieldLink_RX6_44 dX6_copy_123 ?_
                          refine lv_iload hx hb dX6_copy_126 (lv_at hl 0 rfl) ?_
                          refine lv_aload_n hx hb dX6_copy_128 rfl (lv_at hl 3 rfl) ?_
                          refine lv_iload hx hb dX6_copy_129 (lv_at hl 2 rfl) ?_
                          refine lv_iload_n hx hb dX6_copy_131 rfl (lv_at hl 5 rfl) ?_
                          refine lv_iload hx hb dX6_copy_132 (lv_at hl 0 rfl) ?_
                          refine lv_iadd hx hb dX6_copy_134 ?_
                          refine px_topi (y := nI (i0 + k)) (nI_add _ _) ?_
                          refine px_goV (st1 := [.long (f_at r (rHd r cn) (i0 + k)), .int (nI k), .ref (G 10)]) (px_callV F hK (c_X6_at l D cy A G r _ _ _ (rHd r cn) (i0 + k) (by omega) (show rS r (rHd r cn) + (i0 + k) < 12200 by omega)) kc_X6_at kw_methodLink_RX6_80 rfl hR (m_recv hK hR) rfl ⟨rfl, rfl⟩ ⟨Nat.le_of_ble_eq_true rfl, Nat.le_of_ble_eq_true rfl⟩ hl.1 rfl (Nat.le_of_ble_eq_true rfl) dX6_copy_135 ⟨Nat.zero_le _, Nat.zero_le _⟩) rfl ?_
                          refine m_stE F hK hR hS k (f_at r (rHd r cn) (i0 + k)) rfl rfl (by omega) dX6_copy_138 (fun H locs hR hS => ?_)
                          refine lv_iinc (v := nI (k + 1)) (lv' := [(8, .int (nI (k + 1))), (7, .int (nI (rHd r on))), (6, .int (nI (rHd r cn))), (0, .ref (G 0)), (1, .int (nI cn)), (2, .int (nI i0)), (3, .int (nI on)), (4, .int (nI j0)), (5, .int (nI n0))]) hx hb dX6_copy_139 hl (k := 0) rfl (by show nI k + 1 = nI (k + 1); exact nI_1 _) (by decide) rfl (fun ls hl => ?_)
                          refine lv_goto (tgt := 115) hx hb dX6_copy_142 (by decide) ?_
                          exact ih_loop (k + 1) (by omega) _ _ _ (by rw [← kE_s]; exact hR) hS (lv_sub hl [0, 1, 2, 3, 4, 5, 6, 7, 8] rfl)
                      exact loop n0 0 (by omega) _ _ _ (by rw [kE_0]; exact hR) hS (lv_sub hl [0, 1, 2, 3, 4, 5, 6, 7, 8] rfl)
                    · have h_104 : ((nI (rMn r (rHd r on))) - j) < n := Int32.not_le.mp h_104
                      refine lv_iconst (v := 3) hx hb dX6_copy_107 (by decide) ?_
                      refine px_goV (st1 := [.int (-13)]) (px_callS F hK (c_X6_answer l D cy _ 3) kc_X6_answer kw_methodLink_RX6_65 rfl trivial rfl ⟨rfl, rfl⟩ ⟨Nat.le_of_ble_eq_true rfl, Nat.le_of_ble_eq_true rfl⟩ hl.1 rfl (Nat.le_of_ble_eq_true rfl) dX6_copy_108 ⟨Nat.zero_le _, Nat.zero_le _⟩) rfl ?_
                      exact px_iret F hr hlocks hS (by have e : f_copy r (nI cn) i (nI on) j n = (r, (-13)) := (by simp [f_copy, f_cpo, h_4, h_11, h_35, h_40, h_56, h_65, h_70, h_75, h_89, h_104, ix_nI (show cn < 2 ^ 31 by omega), ix_nI (show on < 2 ^ 31 by omega)] <;> rfl); rw [e]; exact ⟨rfl, _, _, hR⟩) dX6_copy_111
          · refine lv_iconst (v := 5) hx hb dX6_copy_59 (by decide) ?_
            refine px_goV (st1 := [.int (-15)]) (px_callS F hK (c_X6_answer l D cy _ 5) kc_X6_answer kw_methodLink_RX6_65 rfl trivial rfl ⟨rfl, rfl⟩ ⟨Nat.le_of_ble_eq_true rfl, Nat.le_of_ble_eq_true rfl⟩ hl.1 rfl (Nat.le_of_ble_eq_true rfl) dX6_copy_60 ⟨Nat.zero_le _, Nat.zero_le _⟩) rfl ?_
            exact px_iret F hr hlocks hS (by have e : f_copy r (nI cn) i (nI on) j n = (r, (-15)) := (by simp [f_copy, f_cpo, h_4, h_11, h_35, h_40, h_56, ix_nI (show cn < 2 ^ 31 by omega), ix_nI (show on < 2 ^ 31 by omega)] <;> rfl); rw [e]; exact ⟨rfl, _, _, hR⟩) dX6_copy_63
        · have h_40 : (rHd r on) = 0 := nIeq (show nI (rHd r on) = nI 0 from h_40) (by omega) (by omega)
          refine lv_iconst (v := 1) hx hb dX6_copy_43 (by decide) ?_
          refine px_goV (st1 := [.int (-11)]) (px_callS F hK (c_X6_answer l D cy _ 1) kc_X6_answer kw_methodLink_RX6_65 rfl trivial rfl ⟨rfl, rfl⟩ ⟨Nat.le_of_ble_eq_true rfl, Nat.le_of_ble_eq_true rfl⟩ hl.1 rfl (Nat.le_of_ble_eq_true rfl) dX6_copy_44 ⟨Nat.zero_le _, Nat.zero_le _⟩) rfl ?_
          exact px_iret F hr hlocks hS (by have e : f_copy r (nI cn) i (nI on) j n = (r, (-11)) := (by simp [f_copy, f_cpo, h_4, h_11, h_35, h_40, ix_nI (show cn < 2 ^ 31 by omega), ix_nI (show on < 2 ^ 31 by omega)] <;> rfl); rw [e]; exact ⟨rfl, _, _, hR⟩) dX6_copy_47
    · refine lv_bipush (v := -2) hx hb dX6_copy_14 (by decide) ?_
      exact px_iret F hr hlocks hS (by have e : f_copy r cl i ot j n = (r, (-2)) := (by simp [f_copy, h_4, h_11] <;> rfl); rw [e]; exact ⟨rfl, _, _, hR⟩) dX6_copy_16
