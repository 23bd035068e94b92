/-! the reference: clear, raise, grow, copy -/
set_option maxHeartbeats 400000 in
set_option maxRecDepth 100000 in
theorem c_X6_clear (l : Launch) (D : va_G) (cy : Nat → ClassId) (A : Nat → Prop) (G : Nat → Nat) (r : RS) (C : Nat → Nat) (E : Nat → Int64) (sz : Nat)  {kk : Nat} (hI : Inv kk r) : Met l yX6_clear (px_w yX6_clear cX6_clear 3 (some .int)) (rmd 1 0 0) (px_P D cy [.ref (G 0)] sz (MR D cy A G r C E)) (px_Q (px_M D cy A G (some (.int (f_clear r ).2)) ((f_clear r ).1)) A) 0 0 A := by
  refine px_met (by decide) (Nat.le_of_ble_eq_true rfl) ?_
  intro p e s m below meth c F hr hlocks hnm hK hsz hR ls hl
  have hx := F.1
  have hb := F.2.1
  have hl : lv_has ls 3 [(0, .ref (G 0))] := hl
  have hS : va_S A s.heap s.heap [] := va_S.rf
  have hbd := hI.bd
  refine lv_iconst (v := 0) hx hb dX6_clear_0 (by decide) ?_
  refine lv_istore_n (lv' := [(1, .int 0), (0, .ref (G 0))]) hx hb dX6_clear_1 rfl hl (by decide) rfl (fun ls hl => ?_)
  refine lv_iconst (v := 0) hx hb dX6_clear_2 (by decide) ?_
  refine lv_istore_n (lv' := [(2, .int 0), (1, .int 0), (0, .ref (G 0))]) hx hb dX6_clear_3 rfl hl (by decide) rfl (fun ls hl => ?_)
  have loop : ∀ (d k : Nat), k + d = 16 → ∀ (H : Heap) (locs : List Loc) (ls : Array Slot), MR D cy A G (sHd r (clrH (rHd r) k)) (C) (E) H → va_S A s.heap H locs → lv_has ls 3 [(2, .int (nI k)), (1, .int (nI (f_cnt (fun k => if rHd r k = 0 then 0 else 1) k))), (0, .ref (G 0))] → W p l e (rmd 1 0 0) s m ([.ref (G 0)] : List Value).toArray below meth c H locs 0 0 (MQ below (px_Q (px_M D cy A G (some (.int (f_clear r ).2)) ((f_clear r ).1)) A) ([.ref (G 0)] : List Value).toArray s 0 0 A) (F0 m 4 ls []) := by
    intro d
    induction d with
    | zero =>
      intro k hk H locs ls hR hS hl
      refine lv_iload_n hx hb dX6_clear_4 rfl (lv_at hl 0 rfl) ?_
      refine lv_bipush (v := 16) hx hb dX6_clear_5 (by decide) ?_
      refine lv_icmp_ge (tgt := 40) hx hb dX6_clear_7 (by decide) (fun h_7 => ?_) (fun h_7 => by exfalso; have h_7 : k < 16 := nInle (show ¬ nI 16 ≤ nI k from h_7) (by omega) (by omega); omega)
      have h_7 : 16 ≤ k := nIle (show nI 16 ≤ nI k from h_7) (by omega) (by omega)
      have hkn : k = 16 := (by omega)
      refine lv_iconst (v := 0) hx hb dX6_clear_40 (by decide) ?_
      refine lv_istore_n (lv' := [(2, .int 0), (1, .int (nI (f_cnt (fun k => if rHd r k = 0 then 0 else 1) k))), (0, .ref (G 0))]) hx hb dX6_clear_41 rfl hl (by decide) rfl (fun ls hl => ?_)
      have loop2 : ∀ (d2 k2 : Nat), k2 + d2 = 8 → ∀ (H : Heap) (locs : List Loc) (ls : Array Slot), MR D cy A G (sTr (sHd r (clrH (rHd r) k)) (clrT (rTr r) k2)) (C) (E) H → va_S A s.heap H locs → lv_has ls 3 [(2, .int (nI k2)), (1, .int (nI (f_cnt (fun k => if rHd r k = 0 then 0 else 1) k))), (0, .ref (G 0))] → W p l e (rmd 1 0 0) s m ([.ref (G 0)] : List Value).toArray below meth c H locs 0 0 (MQ below (px_Q (px_M D cy A G (some (.int (f_clear r ).2)) ((f_clear r ).1)) A) ([.ref (G 0)] : List Value).toArray s 0 0 A) (F0 m 42 ls []) := by
        intro d2
        induction d2 with
        | zero =>
          intro k2 hk2 H locs ls hR hS hl
          refine lv_iload_n hx hb dX6_clear_42 rfl (lv_at hl 0 rfl) ?_
          refine lv_bipush (v := 8) hx hb dX6_clear_43 (by decide) ?_
          refine lv_icmp_ge (tgt := 61) hx hb dX6_clear_45 (by decide) (fun h_45 => ?_) (fun h_45 => by exfalso; have h_45 : k2 < 8 := nInle (show ¬ nI 8 ≤ nI k2 from h_45) (by omega) (by omega); omega)
          have h_45 : 8 ≤ k2 := nIle (show nI 8 ≤ nI k2 from h_45) (by omega) (by omega)
          refine lv_aload_n hx hb dX6_clear_61 rfl (lv_at hl 2 rfl) ?_
          refine lv_iconst (v := 0) hx hb dX6_clear_62 (by decide) ?_
          refine m_put F hK hR hS 11 (by decide) (v := 0) rfl (sPa (sTr (sHd r (clrH (rHd r) k)) (clrT (rTr r) k2)) 0) rfl kw_fieldLink_RX6_150 rfl rfl dX6_clear_63 (fun H locs hR hS => ?_)
          refine lv_aload_n hx hb dX6_clear_66 rfl (lv_at hl 2 rfl) ?_
          refine lv_iconst (v := -1) hx hb dX6_clear_67 (by decide) ?_
          refine m_put F hK hR hS 12 (by decide) (v := (-1)) rfl (sNu (sPa (sTr (sHd r (clrH (rHd r) k)) (clrT (rTr r) k2)) 0) (-1)) rfl kw_fieldLink_RX6_37 rfl rfl dX6_clear_68 (fun H locs hR hS => ?_)
          refine lv_aload_n hx hb dX6_clear_71 rfl (lv_at hl 2 rfl) ?_
          refine lv_iconst (v := 0) hx hb dX6_clear_72 (by decide) ?_
          refine m_put F hK hR hS 13 (by decide) (v := 0) rfl (sFa (sNu (sPa (sTr (sHd r (clrH (rHd r) k)) (clrT (rTr r) k2)) 0) (-1)) 0) rfl kw_fieldLink_RX6_111 rfl rfl dX6_clear_73 (fun H locs hR hS => ?_)
          refine lv_iload_n hx hb dX6_clear_76 rfl (lv_at hl 1 rfl) ?_
          have hkn2 : k2 = 8 := (by omega)
          exact px_iret F hr hlocks hS (by have e : f_clear r = (sFa (sNu (sPa (sTr (sHd r (clrH (rHd r) k)) (clrT (rTr r) k2)) 0) (-1)) 0, nI (f_cnt (fun k => if rHd r k = 0 then 0 else 1) k)) := (by rw [hkn, hkn2]; rfl); rw [e]; exact ⟨rfl, _, _, hR⟩) dX6_clear_77
        | succ d2 ih_loop2 =>
          intro k2 hk2 H locs ls hR hS hl
          refine lv_iload_n hx hb dX6_clear_42 rfl (lv_at hl 0 rfl) ?_
          refine lv_bipush (v := 8) hx hb dX6_clear_43 (by decide) ?_
          refine lv_icmp_ge (tgt := 61) hx hb dX6_clear_45 (by decide) (fun h_45 => by exfalso; have h_45 : 8 ≤ k2 := nIle (show nI 8 ≤ nI k2 from h_45) (by omega) (by omega); omega) (fun h_45 => ?_)
          have h_45 : k2 < 8 := nInle (show ¬ nI 8 ≤ nI k2 from h_45) (by omega) (by omega)
          refine lv_aload_n hx hb dX6_clear_48 rfl (lv_at hl 2 rfl) ?_
          refine m_get F hK hR 10 (by decide) rfl kw_fieldLink_RX6_34 dX6_clear_49 ?_
          refine lv_iload_n hx hb dX6_clear_52 rfl (lv_at hl 0 rfl) ?_
          refine lv_iconst (v := -1) hx hb dX6_clear_53 (by decide) ?_
          refine m_stTr F hK hR hS k2 (-1) rfl rfl (by omega) dX6_clear_54 (fun H locs hR hS => ?_)
          refine lv_iinc (v := nI (k2 + 1)) (lv' := [(2, .int (nI (k2 + 1))), (1, .int (nI (f_cnt (fun k => if rHd r k = 0 then 0 else 1) k))), (0, .ref (G 0))]) hx hb dX6_clear_55 hl (k := 0) rfl (by show nI k2 + 1 = nI (k2 + 1); exact nI_1 _) (by decide) rfl (fun ls hl => ?_)
          refine lv_goto (tgt := 42) hx hb dX6_clear_58 (by decide) ?_
          exact ih_loop2 (k2 + 1) (by omega) _ _ _ (by rw [← clrT_s]; exact hR) hS (lv_sub hl [0, 1, 2] rfl)
      exact loop2 8 0 (by omega) _ _ _ (by rw [clrT_0]; exact hR) hS (lv_sub hl [0, 1, 2] rfl)
    | succ d ih_loop =>
      intro k hk H locs ls hR hS hl
      have hh := hI.hd k (by omega)
      refine lv_iload_n hx hb dX6_clear_4 rfl (lv_at hl 0 rfl) ?_
      refine lv_bipush (v := 16) hx hb dX6_clear_5 (by decide) ?_
      refine lv_icmp_ge (tgt := 40) hx hb dX6_clear_7 (by decide) (fun h_7 => by exfalso; have h_7 : 16 ≤ k := nIle (show nI 16 ≤ nI k from h_7) (by omega) (by omega); omega) (fun h_7 => ?_)
      have h_7 : k < 16 := nInle (show ¬ nI 16 ≤ nI k from h_7) (by omega) (by omega)
      refine lv_iload_n hx hb dX6_clear_10 rfl (lv_at hl 1 rfl) ?_
      refine lv_aload_n hx hb dX6_clear_11 rfl (lv_at hl 2 rfl) ?_
      refine m_get F hK hR 9 (by decide) rfl kw_fieldLink_RX6_31 dX6_clear_12 ?_
      refine lv_iload_n hx hb dX6_clear_15 rfl (lv_at hl 0 rfl) ?_
      refine m_ldHd F hK hR k rfl (by omega) dX6_clear_16 ?_
      refine px_topi (y := nI (rHd r k)) (by show nI (clrH (rHd r) k k) = _; rw [clrH_k]) ?_
      refine lv_if_eq (tgt := 24) hx hb dX6_clear_17 (by decide) (fun h_17 => ?_) (fun h_17 => ?_)
      · have h_17 : (rHd r k) = 0 := nIeq (show nI (rHd r k) = nI 0 from h_17) (by omega) (by omega)
        refine lv_iconst (v := 0) hx hb dX6_clear_24 (by decide) ?_
        refine lv_iadd hx hb dX6_clear_25 ?_
        refine px_topi (y := nI ((f_cnt (fun k => if rHd r k = 0 then 0 else 1) k) + 0)) (nI_add _ _) ?_
        refine lv_istore_n (lv' := [(1, .int (nI ((f_cnt (fun k => if rHd r k = 0 then 0 else 1) k) + 0))), (2, .int (nI k)), (0, .ref (G 0))]) hx hb dX6_clear_26 rfl hl (by decide) rfl (fun ls hl => ?_)
        refine lv_aload_n hx hb dX6_clear_27 rfl (lv_at hl 2 rfl) ?_
        refine m_get F hK hR 9 (by decide) rfl kw_fieldLink_RX6_31 dX6_clear_28 ?_
        refine lv_iload_n hx hb dX6_clear_31 rfl (lv_at hl 1 rfl) ?_
        refine lv_iconst (v := 0) hx hb dX6_clear_32 (by decide) ?_
        refine m_stHd F hK hR hS k 0 rfl rfl (by omega) dX6_clear_33 (fun H locs hR hS => ?_)
        refine lv_iinc (v := nI (k + 1)) (lv' := [(2, .int (nI (k + 1))), (1, .int (nI ((f_cnt (fun k => if rHd r k = 0 then 0 else 1) k) + 0))), (0, .ref (G 0))]) hx hb dX6_clear_34 hl (k := 1) rfl (by show nI k + 1 = nI (k + 1); exact nI_1 _) (by decide) rfl (fun ls hl => ?_)
        refine lv_goto (tgt := 4) hx hb dX6_clear_37 (by decide) ?_
        have e_1 : (nI (f_cnt (fun k => if rHd r k = 0 then 0 else 1) (k + 1)) : Int32) = nI ((f_cnt (fun k => if rHd r k = 0 then 0 else 1) k) + 0) := (by simp [f_cnt, h_17])
        exact ih_loop (k + 1) (by omega) _ _ _ (by rw [← clrH_s]; exact hR) hS (by rw [e_1]; exact lv_sub hl [0, 1, 2] rfl)
      · have h_17 : ¬ (rHd r k) = 0 := nIne (show ¬ nI (rHd r k) = nI 0 from h_17)
        refine lv_iconst (v := 1) hx hb dX6_clear_20 (by decide) ?_
        refine lv_goto (tgt := 25) hx hb dX6_clear_21 (by decide) ?_
        refine lv_iadd hx hb dX6_clear_25 ?_
        refine px_topi (y := nI ((f_cnt (fun k => if rHd r k = 0 then 0 else 1) k) + 1)) (nI_add _ _) ?_
        refine lv_istore_n (lv' := [(1, .int (nI ((f_cnt (fun k => if rHd r k = 0 then 0 else 1) k) + 1))), (2, .int (nI k)), (0, .ref (G 0))]) hx hb dX6_clear_26 rfl hl (by decide) rfl (fun ls hl => ?_)
        refine lv_aload_n hx hb dX6_clear_27 rfl (lv_at hl 2 rfl) ?_
        refine m_get F hK hR 9 (by decide) rfl kw_fieldLink_RX6_31 dX6_clear_28 ?_
        refine lv_iload_n hx hb dX6_clear_31 rfl (lv_at hl 1 rfl) ?_
        refine lv_iconst (v := 0) hx hb dX6_clear_32 (by decide) ?_
        refine m_stHd F hK hR hS k 0 rfl rfl (by omega) dX6_clear_33 (fun H locs hR hS => ?_)
        refine lv_iinc (v := nI (k + 1)) (lv' := [(2, .int (nI (k + 1))), (1, .int (nI ((f_cnt (fun k => if rHd r k = 0 then 0 else 1) k) + 1))), (0, .ref (G 0))]) hx hb dX6_clear_34 hl (k := 1) rfl (by show nI k + 1 = nI (k + 1); exact nI_1 _) (by decide) rfl (fun ls hl => ?_)
        refine lv_goto (tgt := 4) hx hb dX6_clear_37 (by decide) ?_
        have e_1 : (nI (f_cnt (fun k => if rHd r k = 0 then 0 else 1) (k + 1)) : Int32) = nI ((f_cnt (fun k => if rHd r k = 0 then 0 else 1) k) + 1) := (by simp [f_cnt, h_17])
        exact ih_loop (k + 1) (by omega) _ _ _ (by rw [← clrH_s]; exact hR) hS (by rw [e_1]; exact lv_sub hl [0, 1, 2] rfl)
  have e_1 : (nI (f_cnt (fun k => if rHd r k = 0 then 0 else 1) 0) : Int32) = 0 := (by rfl)
  exact loop 16 0 (by omega) _ _ _ (by rw [clrH_0]; exact hR) hS (by rw [e_1]; exact lv_sub hl [0, 1, 2] rfl)
set_option maxHeartbeats 400000 in
set_option maxRecDepth 100000 in
theorem c_X6_raise (l : Launch) (D : va_G) (cy : Nat → ClassId) (A : Nat → Prop) (G : Nat → Nat) (r : RS) (C : Nat → Nat) (E : Nat → Int64) (sz : Nat) (t f : Int32) {kk : Nat} (hI : Inv kk r) : Met l yX6_raise (px_w yX6_raise cX6_raise 4 (some .int)) (rmd 3 0 0) (px_P D cy [.ref (G 0), .int t, .int f] sz (MR D cy A G r C E)) (px_Q (px_M D cy A G (some (.int (f_raise r t f).2)) ((f_raise r t f).1)) A) 0 0 A := by
  refine px_met (by decide) (Nat.le_of_ble_eq_true rfl) ?_
  intro p e s m below meth c F hr hlocks hnm hK hsz hR ls hl
  have hx := F.1
  have hb := F.2.1
  have hl : lv_has ls 4 [(0, .ref (G 0)), (1, .int t), (2, .int f)] := hl
  have hS : va_S A s.heap s.heap [] := va_S.rf
  have hbd := hI.bd
  refine lv_iload_n hx hb dX6_raise_0 rfl (lv_at hl 1 rfl) ?_
  refine lv_iconst (v := 0) hx hb dX6_raise_1 (by decide) ?_
  refine lv_bipush (v := 7) hx hb dX6_raise_2 (by decide) ?_
  refine px_goV (st1 := [.int (b2i (f_in t 0 7))]) (px_callS F hK (c_X6_in l D cy _ t 0 7) kc_X6_in kw_methodLink_RX6_57 rfl trivial rfl ⟨rfl, rfl⟩ ⟨Nat.le_of_ble_eq_true rfl, Nat.le_of_ble_eq_true rfl⟩ hl.1 rfl (Nat.le_of_ble_eq_true rfl) dX6_raise_4 ⟨Nat.zero_le _, Nat.zero_le _⟩) rfl ?_
  refine x_ifeq_b (tgt := 20) hx hb dX6_raise_7 (by decide) (fun h_7 => ?_) (fun h_7 => ?_)
  · refine lv_bipush (v := -2) hx hb dX6_raise_20 (by decide) ?_
    exact px_iret F hr hlocks hS (by have e : f_raise r t f = (r, (-2)) := (by simp [f_raise, h_7] <;> rfl); rw [e]; exact ⟨rfl, _, _, hR⟩) dX6_raise_22
  · refine lv_iload_n hx hb dX6_raise_10 rfl (lv_at hl 2 rfl) ?_
    refine lv_iconst (v := 1) hx hb dX6_raise_11 (by decide) ?_
    refine lv_bipush (v := 8) hx hb dX6_raise_12 (by decide) ?_
    refine px_goV (st1 := [.int (b2i (f_in f 1 8))]) (px_callS F hK (c_X6_in l D cy _ f 1 8) kc_X6_in kw_methodLink_RX6_57 rfl trivial rfl ⟨rfl, rfl⟩ ⟨Nat.le_of_ble_eq_true rfl, Nat.le_of_ble_eq_true rfl⟩ hl.1 rfl (Nat.le_of_ble_eq_true rfl) dX6_raise_14 ⟨Nat.zero_le _, Nat.zero_le _⟩) rfl ?_
    refine x_ifne_b (tgt := 23) hx hb dX6_raise_17 (by decide) (fun h_17 => ?_) (fun h_17 => ?_)
    · obtain ⟨tn, hl_tn, hh_tn, rfl⟩ := f_in_nat h_7 0 7 (by decide) (by decide) (by decide) (by decide)
      obtain ⟨fn, hl_fn, hh_fn, rfl⟩ := f_in_nat h_17 1 8 (by decide) (by decide) (by decide) (by decide)
      refine lv_aload_n hx hb dX6_raise_23 rfl (lv_at hl 0 rfl) ?_
      refine lv_iconst (v := 0) hx hb dX6_raise_24 (by decide) ?_
      refine m_put F hK hR hS 11 (by decide) (v := 0) rfl (sPa r 0) rfl kw_fieldLink_RX6_150 rfl rfl dX6_raise_25 (fun H locs hR hS => ?_)
      refine lv_iload_n hx hb dX6_raise_28 rfl (lv_at hl 2 rfl) ?_
      refine lv_istore_n (lv' := [(3, .int (nI fn)), (0, .ref (G 0)), (1, .int (nI tn)), (2, .int (nI fn))]) hx hb dX6_raise_29 rfl hl (by decide) rfl (fun ls hl => ?_)
      have loop : ∀ (d k : Nat), k + d = fn → ∀ (H : Heap) (locs : List Loc) (ls : Array Slot), MR D cy A G (sPa r (f_figs fn k)) (C) (E) H → va_S A s.heap H locs → lv_has ls 4 [(3, .int (nI (fn - k))), (0, .ref (G 0)), (1, .int (nI tn)), (2, .int (nI fn))] → W p l e (rmd 3 0 0) s m ([.ref (G 0), .int (nI tn), .int (nI fn)] : List Value).toArray below meth c H locs 0 0 (MQ below (px_Q (px_M D cy A G (some (.int (f_raise r (nI tn) (nI fn)).2)) ((f_raise r (nI tn) (nI fn)).1)) A) ([.ref (G 0), .int (nI tn), .int (nI fn)] : List Value).toArray s 0 0 A) (F0 m 30 ls []) := by
        intro d
        induction d with
        | zero =>
          intro k hk H locs ls hR hS hl
          refine lv_iload_n hx hb dX6_raise_30 rfl (lv_at hl 0 rfl) ?_
          refine lv_if_le (tgt := 53) hx hb dX6_raise_31 (by decide) (fun h_31 => ?_) (fun h_31 => by exfalso; have h_31 : 0 < (fn - k) := nInle (show ¬ nI (fn - k) ≤ nI 0 from h_31) (by omega) (by omega); omega)
          have h_31 : (fn - k) ≤ 0 := nIle (show nI (fn - k) ≤ nI 0 from h_31) (by omega) (by omega)
          refine lv_aload_n hx hb dX6_raise_53 rfl (lv_at hl 1 rfl) ?_
          refine lv_aload_n hx hb dX6_raise_54 rfl (lv_at hl 1 rfl) ?_
          refine m_get F hK hR 10 (by decide) rfl kw_fieldLink_RX6_34 dX6_raise_55 ?_
          refine lv_iload_n hx hb dX6_raise_58 rfl (lv_at hl 2 rfl) ?_
          refine m_ldTr F hK hR tn rfl (by omega) dX6_raise_59 ?_
          refine m_put F hK hR hS 12 (by decide) (v := rTr r tn) rfl (sNu (sPa r (f_figs fn k)) (rTr r tn)) rfl kw_fieldLink_RX6_37 rfl rfl dX6_raise_60 (fun H locs hR hS => ?_)
          refine lv_aload_n hx hb dX6_raise_63 rfl (lv_at hl 1 rfl) ?_
          refine m_get F hK hR 12 (by decide) rfl kw_fieldLink_RX6_37 dX6_raise_64 ?_
          refine lv_iconst (v := -1) hx hb dX6_raise_67 (by decide) ?_
          refine lv_icmp_ne (tgt := 75) hx hb dX6_raise_68 (by decide) (fun h_68 => ?_) (fun h_68 => ?_)
          · have h_68 : ¬ (rTr r tn) = (-1) := h_68
            refine lv_bipush (v := 6) hx hb dX6_raise_75 (by decide) ?_
            refine px_goV (st1 := [.int (-16)]) (px_callS F hK (c_X6_answer l D cy _ 6) kc_X6_answer kw_methodLink_RX6_65 rfl trivial rfl ⟨rfl, rfl⟩ ⟨Nat.le_of_ble_eq_true rfl, Nat.le_of_ble_eq_true rfl⟩ hl.1 rfl (Nat.le_of_ble_eq_true rfl) dX6_raise_77 ⟨Nat.zero_le _, Nat.zero_le _⟩) rfl ?_
            exact px_iret F hr hlocks hS (by have e : f_raise r (nI tn) (nI fn) = (sNu (sPa r (f_figs fn k)) (rTr r tn), (-16)) := (by rw [show k = fn by omega]; simp [f_raise, h_7, h_17, h_68, ix_nI (show tn < 2 ^ 31 by omega), ix_nI (show fn < 2 ^ 31 by omega)]); rw [e]; exact ⟨rfl, _, _, hR⟩) dX6_raise_80
          · have h_68 : (rTr r tn) = (-1) := h_68
            refine lv_iconst (v := 1) hx hb dX6_raise_71 (by decide) ?_
            refine lv_goto (tgt := 77) hx hb dX6_raise_72 (by decide) ?_
            refine px_goV (st1 := [.int (-11)]) (px_callS F hK (c_X6_answer l D cy _ 1) kc_X6_answer kw_methodLink_RX6_65 rfl trivial rfl ⟨rfl, rfl⟩ ⟨Nat.le_of_ble_eq_true rfl, Nat.le_of_ble_eq_true rfl⟩ hl.1 rfl (Nat.le_of_ble_eq_true rfl) dX6_raise_77 ⟨Nat.zero_le _, Nat.zero_le _⟩) rfl ?_
            exact px_iret F hr hlocks hS (by have e : f_raise r (nI tn) (nI fn) = (sNu (sPa r (f_figs fn k)) (rTr r tn), (-11)) := (by rw [show k = fn by omega]; simp [f_raise, h_7, h_17, h_68, ix_nI (show tn < 2 ^ 31 by omega), ix_nI (show fn < 2 ^ 31 by omega)]); rw [e]; exact ⟨rfl, _, _, hR⟩) dX6_raise_80
        | succ d ih_loop =>
          intro k hk H locs ls hR hS hl
          refine lv_iload_n hx hb dX6_raise_30 rfl (lv_at hl 0 rfl) ?_
          refine lv_if_le (tgt := 53) hx hb dX6_raise_31 (by decide) (fun h_31 => by exfalso; have h_31 : (fn - k) ≤ 0 := nIle (show nI (fn - k) ≤ nI 0 from h_31) (by omega) (by omega); omega) (fun h_31 => ?_)
          have h_31 : 0 < (fn - k) := nInle (show ¬ nI (fn - k) ≤ nI 0 from h_31) (by omega) (by omega)
          refine lv_aload_n hx hb dX6_raise_34 rfl (lv_at hl 1 rfl) ?_
          refine lv_bipush (v := 10) hx hb dX6_raise_35 (by decide) ?_
          refine lv_aload_n hx hb dX6_raise_37 rfl (lv_at hl 1 rfl) ?_
          refine m_get F hK hR 11 (by decide) rfl kw_fieldLink_RX6_150 dX6_raise_38 ?_
          refine lv_imul hx hb dX6_raise_41 ?_
          refine lv_iload_n hx hb dX6_raise_42 rfl (lv_at hl 0 rfl) ?_
          refine lv_iadd hx hb dX6_raise_43 ?_
          refine m_put F hK hR hS 11 (by decide) (v := (10 * (f_figs fn k)) + (nI (fn - k))) rfl (sPa r ((10 * (f_figs fn k)) + (nI (fn - k)))) rfl kw_fieldLink_RX6_150 rfl rfl dX6_raise_44 (fun H locs hR hS => ?_)
          have hl : lv_has ls 4 [(3, .int (nI ((fn - (k + 1)) + 1))), (0, .ref (G 0)), (1, .int (nI tn)), (2, .int (nI fn))] := (by rw [show (fn - (k + 1)) + 1 = fn - k by omega]; exact hl)
          refine lv_iinc (v := nI (fn - (k + 1))) (lv' := [(3, .int (nI (fn - (k + 1)))), (0, .ref (G 0)), (1, .int (nI tn)), (2, .int (nI fn))]) hx hb dX6_raise_47 hl (k := 0) rfl (pk_m1 _) (by decide) rfl (fun ls hl => ?_)
          refine lv_goto (tgt := 30) hx hb dX6_raise_50 (by decide) ?_
          exact ih_loop (k + 1) (by omega) _ _ _ hR hS (lv_sub hl [0, 1, 2, 3] rfl)
      have e_3 : (nI (fn - 0) : Int32) = nI fn := (by rfl)
      exact loop fn 0 (by omega) _ _ _ hR hS (by rw [e_3]; exact lv_sub hl [0, 1, 2, 3] rfl)
    · refine lv_bipush (v := -2) hx hb dX6_raise_20 (by decide) ?_
      exact px_iret F hr hlocks hS (by have e : f_raise r t f = (r, (-2)) := (by simp [f_raise, h_7, h_17] <;> rfl); rw [e]; exact ⟨rfl, _, _, hR⟩) dX6_raise_22
set_option maxHeartbeats 400000 in
set_option maxRecDepth 100000 in
theorem c_X6_grow (l : Launch) (D : va_G) (cy : Nat → ClassId) (A : Nat → Prop) (G : Nat → Nat) (r : RS) (C : Nat → Nat) (E : Nat → Int64) (sz : Nat) (cl n : Int32) {kk : Nat} (hI : Inv kk r) : Met l yX6_grow (px_w yX6_grow cX6_grow 6 (some .int)) (rmd 3 0 0) (px_P D cy [.ref (G 0), .int cl, .int n] sz (MR D cy A G r C E)) (px_Q (px_M D cy A G (some (.int (f_grow r cl n).2)) ((f_grow r cl n).1)) A) 0 0 A := by
  refine px_met (by decide) (Nat.le_of_ble_eq_true rfl) ?_
  intro p e s m below meth c F hr hlocks hnm hK hsz hR ls hl
  have hx := F.1
  have hb := F.2.1
  have hl : lv_has ls 6 [(0, .ref (G 0)), (1, .int cl), (2, .int n)] := hl
  have hS : va_S A s.heap s.heap [] := va_S.rf
  have hbd := hI.bd
  refine lv_iload_n hx hb dX6_grow_0 rfl (lv_at hl 1 rfl) ?_
  refine px_goV (st1 := [.int (b2i (f_in cl 0 15))]) (px_callS F hK (c_X6_isColumn l D cy _ cl) kc_X6_isColumn kw_methodLink_RX6_53 rfl trivial rfl ⟨rfl, rfl⟩ ⟨Nat.le_of_ble_eq_true rfl, Nat.le_of_ble_eq_true rfl⟩ hl.1 rfl (Nat.le_of_ble_eq_true rfl) dX6_grow_1 ⟨Nat.zero_le _, Nat.zero_le _⟩) rfl ?_
  refine x_ifeq_b (tgt := 13) hx hb dX6_grow_4 (by decide) (fun h_4 => ?_) (fun h_4 => ?_)
  · refine lv_bipush (v := -2) hx hb dX6_grow_13 (by decide) ?_
    exact px_iret F hr hlocks hS (by have e : f_grow r cl n = (r, (-2)) := (by simp [f_grow, h_4] <;> rfl); rw [e]; exact ⟨rfl, _, _, hR⟩) dX6_grow_15
  · refine lv_iload_n hx hb dX6_grow_7 rfl (lv_at hl 2 rfl) ?_
    refine lv_bipush (v := 30) hx hb dX6_grow_8 (by decide) ?_
    refine lv_icmp_le (tgt := 16) hx hb dX6_grow_10 (by decide) (fun h_10 => ?_) (fun h_10 => ?_)
    · have h_10 : ¬ 30 < n := Int32.not_lt.mpr h_10
      obtain ⟨cn, hl_cn, hh_cn, rfl⟩ := f_in_nat h_4 0 15 (by decide) (by decide) (by decide) (by decide)
      have hc0 := hI.hd cn (by omega)
      have hc1 := hI.tb _ hc0
      refine lv_aload_n hx hb dX6_grow_16 rfl (lv_at hl 0 rfl) ?_
      refine px_goV (st1 := [.int (b2i (decide (6000 ≤ rN r)))]) (px_callV F hK (c_X6_isFull l D cy A G r _ _ _ (by omega)) kc_X6_isFull kw_methodLink_RX6_61 rfl hR (m_recv hK hR) rfl ⟨rfl, rfl⟩ ⟨Nat.le_of_ble_eq_true rfl, Nat.le_of_ble_eq_true rfl⟩ hl.1 rfl (Nat.le_of_ble_eq_true rfl) dX6_grow_17 ⟨Nat.zero_le _, Nat.zero_le _⟩) rfl ?_
      refine x_ifeq_b (tgt := 26) hx hb dX6_grow_20 (by decide) (fun h_20 => ?_) (fun h_20 => ?_)
      · have h_20 : ¬ (6000 ≤ rN r) := of_decide_eq_false h_20
        refine lv_aload_n hx hb dX6_grow_26 rfl (lv_at hl 0 rfl) ?_
        refine m_get F hK hR 9 (by decide) rfl kw_fieldLink_RX6_31 dX6_grow_27 ?_
        refine lv_iload_n hx hb dX6_grow_30 rfl (lv_at hl 1 rfl) ?_
        refine m_ldHd F hK hR cn rfl (by omega) dX6_grow_31 ?_
        refine lv_istore_n (lv' := [(3, .int (nI (rHd r cn))), (0, .ref (G 0)), (1, .int (nI cn)), (2, .int n)]) hx hb dX6_grow_32 rfl hl (by decide) rfl (fun ls hl => ?_)
        refine lv_iload_n hx hb dX6_grow_33 rfl (lv_at hl 0 rfl) ?_
        refine lv_if_eq (tgt := 41) hx hb dX6_grow_34 (by decide) (fun h_34 => ?_) (fun h_34 => ?_)
        · have h_34 : (rHd r cn) = 0 := nIeq (show nI (rHd r cn) = nI 0 from h_34) (by omega) (by omega)
          refine lv_iload_n hx hb dX6_grow_41 rfl (lv_at hl 0 rfl) ?_
          refine lv_if_ne (tgt := 49) hx hb dX6_grow_42 (by decide) (fun h_42 => by exfalso; have h_42 : ¬ (rHd r cn) = 0 := nIne (show ¬ nI (rHd r cn) = nI 0 from h_42); omega) (fun h_42 => ?_)
          have h_42 : (rHd r cn) = 0 := nIeq (show nI (rHd r cn) = nI 0 from h_42) (by omega) (by omega)
          refine lv_iconst (v := 1) hx hb dX6_grow_45 (by decide) ?_
          refine lv_goto (tgt := 50) hx hb dX6_grow_46 (by decide) ?_
          refine px_goV (st1 := [.int (-11)]) (px_callS F hK (c_X6_answer l D cy _ 1) kc_X6_answer kw_methodLink_RX6_65 rfl trivial rfl ⟨rfl, rfl⟩ ⟨Nat.le_of_ble_eq_true rfl, Nat.le_of_ble_eq_true rfl⟩ hl.1 rfl (Nat.le_of_ble_eq_true rfl) dX6_grow_50 ⟨Nat.zero_le _, Nat.zero_le _⟩) rfl ?_
          exact px_iret F hr hlocks hS (by have e : f_grow r (nI cn) n = (r, (-11)) := (by simp [f_grow, h_4, h_10, h_20, h_34, h_42, ix_nI (show cn < 2 ^ 31 by omega)] <;> rfl); rw [e]; exact ⟨rfl, _, _, hR⟩) dX6_grow_53
        · have h_34 : ¬ (rHd r cn) = 0 := nIne (show ¬ nI (rHd r cn) = nI 0 from h_34)
          refine lv_iload_n hx hb dX6_grow_37 rfl (lv_at hl 3 rfl) ?_
          refine lv_if_ge (tgt := 54) hx hb dX6_grow_38 (by decide) (fun h_38 => ?_) (fun h_38 => ?_)
          · have h_38 : ¬ n < 0 := Int32.not_lt.mpr h_38
            obtain ⟨nn, hh_nn, rfl⟩ := le_nat 30 h_38 h_10 (by decide) (by decide)
            refine lv_aload_n hx hb dX6_grow_54 rfl (lv_at hl 1 rfl) ?_
            refine lv_aload_n hx hb dX6_grow_55 rfl (lv_at hl 1 rfl) ?_
            refine m_get F hK hR 1 (by decide) rfl kw_fieldLink_RX6_7 dX6_grow_56 ?_
            refine lv_iload_n hx hb dX6_grow_59 rfl (lv_at hl 0 rfl) ?_
            refine m_ldK F hK hR (rHd r cn) rfl (by omega) dX6_grow_60 ?_
            refine lv_iload_n hx hb dX6_grow_61 rfl (lv_at hl 3 rfl) ?_
            refine px_goMx (st1 := [.int (nI ((rT r) + 1))]) (px_callV F hK (c_X6_table l D cy A G r _ _ _ (rK r (rHd r cn)) nn (show (rT r) + 1 < 13000 by omega) (show (rN r) + nn ≤ 12200 by omega) (by omega) (by omega)) kc_X6_table kw_methodLink_RX6_69 rfl hR (m_recv hK hR) rfl ⟨rfl, rfl⟩ ⟨Nat.le_of_ble_eq_true rfl, Nat.le_of_ble_eq_true rfl⟩ hl.1 rfl (Nat.le_of_ble_eq_true rfl) dX6_grow_62 ⟨Nat.zero_le _, Nat.zero_le _⟩) hS rfl (fun H locs hR hS => ?_)
            refine lv_istore (lv' := [(4, .int (nI ((rT r) + 1))), (3, .int (nI (rHd r cn))), (0, .ref (G 0)), (1, .int (nI cn)), (2, .int (nI nn))]) hx hb dX6_grow_65 hl (by decide) rfl (fun ls hl => ?_)
            have hT1 : ∀ q, q ≤ rT r → rS (f_table r (rK r (rHd r cn)) nn) q = rS r q := (fun q hq => va_up_ne _ _ (by omega))
            have hT2 : ∀ q, q ≤ rT r → rMn (f_table r (rK r (rHd r cn)) nn) q = rMn r q := (fun q hq => va_up_ne _ _ (by omega))
            have hT3 : rS (f_table r (rK r (rHd r cn)) nn) (rT r + 1) = rN r := va_up_self _ _ _
            have hm1 := hT1 _ hc0
            have hm2 := hT2 _ hc0
            refine lv_iconst (v := 0) hx hb dX6_grow_67 (by decide) ?_
            refine lv_istore (lv' := [(5, .int 0), (4, .int (nI ((rT r) + 1))), (3, .int (nI (rHd r cn))), (0, .ref (G 0)), (1, .int (nI cn)), (2, .int (nI nn))]) hx hb dX6_grow_68 hl (by decide) rfl (fun ls hl => ?_)
            have loop : ∀ (d k : Nat), k + d = (min nn (rMn r (rHd r cn))) → ∀ (H : Heap) (locs : List Loc) (ls : Array Slot), MR D cy A G (sI (f_table r (rK r (rHd r cn)) nn) (cpyI (rI (f_table r (rK r (rHd r cn)) nn)) (rS (f_table r (rK r (rHd r cn)) nn) (rHd r cn)) (rS (f_table r (rK r (rHd r cn)) nn) (rT r + 1)) k)) (C) (E) H → va_S A s.heap H locs → lv_has ls 6 [(5, .int (nI k)), (4, .int (nI ((rT r) + 1))), (3, .int (nI (rHd r cn))), (0, .ref (G 0)), (1, .int (nI cn)), (2, .int (nI nn))] → W p l e (rmd 3 0 0) s m ([.ref (G 0), .int (nI cn), .int (nI nn)] : List Value).toArray below meth c H locs 0 0 (MQ below (px_Q (px_M D cy A G (some (.int (f_grow r (nI cn) (nI nn)).2)) ((f_grow r (nI cn) (nI nn)).1)) A) ([.ref (G 0), .int (nI cn), .int (nI nn)] : List Value).toArray s 0 0 A) (F0 m 70 ls []) := by
              intro d
              induction d with
              | zero =>
                intro k hk H locs ls hR hS hl
                refine lv_iload hx hb dX6_grow_70 (lv_at hl 0 rfl) ?_
                refine lv_iload_n hx hb dX6_grow_72 rfl (lv_at hl 5 rfl) ?_
                refine lv_icmp_ge (tgt := 108) hx hb dX6_grow_73 (by decide) (fun h_73 => ?_) (fun h_73 => ?_)
                · have h_73 : nn ≤ k := nIle (show nI nn ≤ nI k from h_73) (by omega) (by omega)
                  refine lv_aload_n hx hb dX6_grow_108 rfl (lv_at hl 3 rfl) ?_
                  refine m_get F hK hR 9 (by decide) rfl kw_fieldLink_RX6_31 dX6_grow_109 ?_
                  refine lv_iload_n hx hb dX6_grow_112 rfl (lv_at hl 4 rfl) ?_
                  refine lv_iload hx hb dX6_grow_113 (lv_at hl 1 rfl) ?_
                  refine m_stHd F hK hR hS cn ((rT r) + 1) rfl rfl (by omega) dX6_grow_115 (fun H locs hR hS => ?_)
                  refine lv_iconst (v := 1) hx hb dX6_grow_116 (by decide) ?_
                  have hkn : min nn (rMn r (rHd r cn)) = k := (by omega)
                  exact px_iret F hr hlocks hS (by have e : f_grow r (nI cn) (nI nn) = (sHd (sI (f_table r (rK r (rHd r cn)) nn) (cpyI (rI (f_table r (rK r (rHd r cn)) nn)) (rS (f_table r (rK r (rHd r cn)) nn) (rHd r cn)) (rS (f_table r (rK r (rHd r cn)) nn) (rT r + 1)) k)) (va_up (rHd r) cn ((rT r) + 1)), 1) := (by simp only [f_grow, ix_nI (show cn < 2 ^ 31 by omega), ix_nI (show nn < 2 ^ 31 by omega)]; simp [h_4, h_10, h_20, h_34, h_38, hkn]); rw [e]; exact ⟨rfl, _, _, hR⟩) dX6_grow_117
                · have h_73 : k < nn := nInle (show ¬ nI nn ≤ nI k from h_73) (by omega) (by omega)
                  refine lv_iload hx hb dX6_grow_76 (lv_at hl 0 rfl) ?_
                  refine lv_aload_n hx hb dX6_grow_78 rfl (lv_at hl 3 rfl) ?_
                  refine m_get F hK hR 2 (by decide) rfl kw_fieldLink_RX6_13 dX6_grow_79 ?_
                  refine lv_iload_n hx hb dX6_grow_82 rfl (lv_at hl 2 rfl) ?_
                  refine m_ldMn F hK hR (rHd r cn) rfl (by omega) dX6_grow_83 ?_
                  refine lv_icmp_ge (tgt := 108) hx hb dX6_grow_84 (by decide) (fun h_84 => ?_) (fun h_84 => by exfalso; have h_84 : k < (rMn (f_table r (rK r (rHd r cn)) nn) (rHd r cn)) := nInle (show ¬ nI (rMn (f_table r (rK r (rHd r cn)) nn) (rHd r cn)) ≤ nI k from h_84) (by omega) (by omega); omega)
                  have h_84 : (rMn (f_table r (rK r (rHd r cn)) nn) (rHd r cn)) ≤ k := nIle (show nI (rMn (f_table r (rK r (rHd r cn)) nn) (rHd r cn)) ≤ nI k from h_84) (by omega) (by omega)
                  refine lv_aload_n hx hb dX6_grow_108 rfl (lv_at hl 3 rfl) ?_
                  refine m_get F hK hR 9 (by decide) rfl kw_fieldLink_RX6_31 dX6_grow_109 ?_
                  refine lv_iload_n hx hb dX6_grow_112 rfl (lv_at hl 4 rfl) ?_
                  refine lv_iload hx hb dX6_grow_113 (lv_at hl 1 rfl) ?_
                  refine m_stHd F hK hR hS cn ((rT r) + 1) rfl rfl (by omega) dX6_grow_115 (fun H locs hR hS => ?_)
                  refine lv_iconst (v := 1) hx hb dX6_grow_116 (by decide) ?_
                  have hkn : min nn (rMn r (rHd r cn)) = k := (by omega)
                  exact px_iret F hr hlocks hS (by have e : f_grow r (nI cn) (nI nn) = (sHd (sI (f_table r (rK r (rHd r cn)) nn) (cpyI (rI (f_table r (rK r (rHd r cn)) nn)) (rS (f_table r (rK r (rHd r cn)) nn) (rHd r cn)) (rS (f_table r (rK r (rHd r cn)) nn) (rT r + 1)) k)) (va_up (rHd r) cn ((rT r) + 1)), 1) := (by simp only [f_grow, ix_nI (show cn < 2 ^ 31 by omega), ix_nI (show nn < 2 ^ 31 by omega)]; simp [h_4, h_10, h_20, h_34, h_38, hkn]); rw [e]; exact ⟨rfl, _, _, hR⟩) dX6_grow_117
              | succ d ih_loop =>
                intro k hk H locs ls hR hS hl
                refine lv_iload hx hb dX6_grow_70 (lv_at hl 0 rfl) ?_
                refine lv_iload_n hx hb dX6_grow_72 rfl (lv_at hl 5 rfl) ?_
                refine lv_icmp_ge (tgt := 108) hx hb dX6_grow_73 (by decide) (fun h_73 => by exfalso; have h_73 : nn ≤ k := nIle (show nI nn ≤ nI k from h_73) (by omega) (by omega); omega) (fun h_73 => ?_)
                have h_73 : k < nn := nInle (show ¬ nI nn ≤ nI k from h_73) (by omega) (by omega)
                refine lv_iload hx hb dX6_grow_76 (lv_at hl 0 rfl) ?_
                refine lv_aload_n hx hb dX6_grow_78 rfl (lv_at hl 3 rfl) ?_
                refine m_get F hK hR 2 (by decide) rfl kw_fieldLink_RX6_13 dX6_grow_79 ?_
                refine lv_iload_n hx hb dX6_grow_82 rfl (lv_at hl 2 rfl) ?_
                refine m_ldMn F hK hR (rHd r cn) rfl (by omega) dX6_grow_83 ?_
                refine lv_icmp_ge (tgt := 108) hx hb dX6_grow_84 (by decide) (fun h_84 => by exfalso; have h_84 : (rMn (f_table r (rK r (rHd r cn)) nn) (rHd r cn)) ≤ k := nIle (show nI (rMn (f_table r (rK r (rHd r cn)) nn) (rHd r cn)) ≤ nI k from h_84) (by omega) (by omega); omega) (fun h_84 => ?_)
                have h_84 : k < (rMn (f_table r (rK r (rHd r cn)) nn) (rHd r cn)) := nInle (show ¬ nI (rMn (f_table r (rK r (rHd r cn)) nn) (rHd r cn)) ≤ nI k from h_84) (by omega) (by omega)
                refine lv_aload_n hx hb dX6_grow_87 rfl (lv_at hl 3 rfl) ?_
                refine lv_iload hx hb dX6_grow_88 (lv_at hl 1 rfl) ?_
                refine lv_iload hx hb dX6_grow_90 (lv_at hl 0 rfl) ?_
                refine lv_aload_n hx hb dX6_grow_92 rfl (lv_at hl 3 rfl) ?_
                refine lv_iload_n hx hb dX6_grow_93 rfl (lv_at hl 2 rfl) ?_
                refine lv_iload hx hb dX6_grow_94 (lv_at hl 0 rfl) ?_
                refine px_goV (st1 := [.long (f_at (sI (f_table r (rK r (rHd r cn)) nn) (cpyI (rI (f_table r (rK r (rHd r cn)) nn)) (rS (f_table r (rK r (rHd r cn)) nn) (rHd r cn)) (rS (f_table r (rK r (rHd r cn)) nn) (rT r + 1)) k)) (rHd r cn) k), .int (nI k), .int (nI ((rT r) + 1)), .ref (G 0)]) (px_callV F hK (c_X6_at l D cy A G (sI (f_table r (rK r (rHd r cn)) nn) (cpyI (rI (f_table r (rK r (rHd r cn)) nn)) (rS (f_table r (rK r (rHd r cn)) nn) (rHd r cn)) (rS (f_table r (rK r (rHd r cn)) nn) (rT r + 1)) k)) _ _ _ (rHd r cn) k (by omega) (show rS (f_table r (rK r (rHd r cn)) nn) (rHd r cn) + k < 12200 by omega)) kc_X6_at kw_methodLink_RX6_80 rfl hR (m_recv hK hR) rfl ⟨rfl, rfl⟩ ⟨Nat.le_of_ble_eq_true rfl, Nat.le_of_ble_eq_true rfl⟩ hl.1 rfl (Nat.le_of_ble_eq_true rfl) dX6_grow_96 ⟨Nat.zero_le _, Nat.zero_le _⟩) rfl ?_
                refine px_goMx (st1 := []) (px_callV F hK (c_X6_put l D cy A G (sI (f_table r (rK r (rHd r cn)) nn) (cpyI (rI (f_table r (rK r (rHd r cn)) nn)) (rS (f_table r (rK r (rHd r cn)) nn) (rHd r cn)) (rS (f_table r (rK r (rHd r cn)) nn) (rT r + 1)) k)) _ _ _ ((rT r) + 1) k (f_at (sI (f_table r (rK r (rHd r cn)) nn) (cpyI (rI (f_table r (rK r (rHd r cn)) nn)) (rS (f_table r (rK r (rHd r cn)) nn) (rHd r cn)) (rS (f_table r (rK r (rHd r cn)) nn) (rT r + 1)) k)) (rHd r cn) k) (by omega) (show rS (f_table r (rK r (rHd r cn)) nn) ((rT r) + 1) + k < 12200 by omega)) kc_X6_put kw_methodLink_RX6_76 rfl hR (m_recv hK hR) rfl ⟨rfl, rfl⟩ ⟨Nat.le_of_ble_eq_true rfl, Nat.le_of_ble_eq_true rfl⟩ hl.1 rfl (Nat.le_of_ble_eq_true rfl) dX6_grow_99 ⟨Nat.zero_le _, Nat.zero_le _⟩) hS rfl (fun H locs hR hS => ?_)
                refine lv_iinc (v := nI (k + 1)) (lv' := [(5, .int (nI (k + 1))), (4, .int (nI ((rT r) + 1))), (3, .int (nI (rHd r cn))), (0, .ref (G 0)), (1, .int (nI cn)), (2, .int (nI nn))]) hx hb dX6_grow_102 hl (k := 0) rfl (by show nI k + 1 = nI (k + 1); exact nI_1 _) (by decide) rfl (fun ls hl => ?_)
                refine lv_goto (tgt := 70) hx hb dX6_grow_105 (by decide) ?_
                exact ih_loop (k + 1) (by omega) _ _ _ hR hS (lv_sub hl [0, 1, 2, 3, 4, 5] rfl)
            exact loop (min nn (rMn r (rHd r cn))) 0 (by omega) _ _ _ hR hS (lv_sub hl [0, 1, 2, 3, 4, 5] rfl)
          · have h_38 : n < 0 := Int32.not_le.mp h_38
            refine lv_iload_n hx hb dX6_grow_41 rfl (lv_at hl 0 rfl) ?_
            refine lv_if_ne (tgt := 49) hx hb dX6_grow_42 (by decide) (fun h_42 => ?_) (fun h_42 => by exfalso; have h_42 : (rHd r cn) = 0 := nIeq (show nI (rHd r cn) = nI 0 from h_42) (by omega) (by omega); omega)
            have h_42 : ¬ (rHd r cn) = 0 := nIne (show ¬ nI (rHd r cn) = nI 0 from h_42)
            refine lv_iconst (v := 4) hx hb dX6_grow_49 (by decide) ?_
            refine px_goV (st1 := [.int (-14)]) (px_callS F hK (c_X6_answer l D cy _ 4) kc_X6_answer kw_methodLink_RX6_65 rfl trivial rfl ⟨rfl, rfl⟩ ⟨Nat.le_of_ble_eq_true rfl, Nat.le_of_ble_eq_true rfl⟩ hl.1 rfl (Nat.le_of_ble_eq_true rfl) dX6_grow_50 ⟨Nat.zero_le _, Nat.zero_le _⟩) rfl ?_
            exact px_iret F hr hlocks hS (by have e : f_grow r (nI cn) n = (r, (-14)) := (by simp [f_grow, h_4, h_10, h_20, h_34, h_38, h_42, ix_nI (show cn < 2 ^ 31 by omega)] <;> rfl); rw [e]; exact ⟨rfl, _, _, hR⟩) dX6_grow_53
      · have h_20 : 6000 ≤ rN r := of_decide_eq_true h_20
        refine lv_bipush (v := -3) hx hb dX6_grow_23 (by decide) ?_
        exact px_iret F hr hlocks hS (by have e : f_grow r (nI cn) n = (r, (-3)) := (by simp [f_grow, h_4, h_10, h_20, ix_nI (show cn < 2 ^ 31 by omega)] <;> rfl); rw [e]; exact ⟨rfl, _, _, hR⟩) dX6_grow_25
    · have h_10 : 30 < n := Int32.not_le.mp h_10
      refine lv_bipush (v := -2) hx hb dX6_grow_13 (by decide) ?_
      exact px_iret F hr hlocks hS (by have e : f_grow r cl n = (r, (-2)) := (by simp [f_grow, h_4, h_10] <;> rfl); rw [e]; exact ⟨rfl, _, _, hR⟩) dX6_grow_15
