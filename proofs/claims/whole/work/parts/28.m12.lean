/-! the reference: flat, middle -/
set_option maxHeartbeats 400000 in
set_option maxRecDepth 100000 in
theorem c_X6_flat (l : Launch) (D : va_G) (cy : Nat → ClassId) (A : Nat → Prop) (G : Nat → Nat) (r : RS) (C : Nat → Nat) (E : Nat → Int64) (sz : Nat) (t : Nat) (ht : t ≤ rT r) (hT : rT r + 1 < 13000) (hKt : rK r t ≤ 13) (hMt : rMn r t ≤ 30) (hSt : rS r t + rMn r t ≤ rN r) (hN : ¬ t = 0 → C t = 0 → rN r + rMn r t ≤ 12200) (hN2 : rN r ≤ 12200) (hC : C t < 13000) : Met l yX6_flat (px_w yX6_flat cX6_flat 4 (some .int)) (rmd 3 0 0) (px_P D cy [.ref (G 0), .int (nI t)] sz (MR D cy A G r C E)) (px_Q (px_Mx D cy A G (some (.int (nI (a_fans (r, C) t)))) ((a_flat (r, C) t).1) ((a_flat (r, C) t).2) (E)) A) 0 0 A := by
  refine px_met (by decide) (Nat.le_of_ble_eq_true rfl) ?_
  intro p e s m below meth c F hr hlocks hnm hK hsz hR ls hl
  have hx := F.1
  have hb := F.2.1
  have hl : lv_has ls 4 [(0, .ref (G 0)), (1, .int (nI t))] := hl
  have hS : va_S A s.heap s.heap [] := va_S.rf
  refine lv_iload_n hx hb dX6_flat_0 rfl (lv_at hl 1 rfl) ?_
  refine lv_if_ne (tgt := 6) hx hb dX6_flat_1 (by decide) (fun h_1 => ?_) (fun h_1 => ?_)
  · have h_1 : ¬ t = 0 := nIne (show ¬ nI t = nI 0 from h_1)
    refine lv_aload_n hx hb dX6_flat_6 rfl (lv_at hl 0 rfl) ?_
    refine m_get F hK hR 14 (by decide) rfl kw_fieldLink_RX6_41 dX6_flat_7 ?_
    refine lv_iload_n hx hb dX6_flat_10 rfl (lv_at hl 1 rfl) ?_
    refine m_ldC F hK hR t rfl (by omega) dX6_flat_11 ?_
    refine lv_if_ne (tgt := 69) hx hb dX6_flat_12 (by decide) (fun h_12 => ?_) (fun h_12 => ?_)
    · have h_12 : ¬ (C t) = 0 := nIne (show ¬ nI (C t) = nI 0 from h_12)
      refine lv_aload_n hx hb dX6_flat_69 rfl (lv_at hl 0 rfl) ?_
      refine m_get F hK hR 14 (by decide) rfl kw_fieldLink_RX6_41 dX6_flat_70 ?_
      refine lv_iload_n hx hb dX6_flat_73 rfl (lv_at hl 1 rfl) ?_
      refine m_ldC F hK hR t rfl (by omega) dX6_flat_74 ?_
      exact px_iret F hr hlocks hS (by have e : a_flat (r, C) t = (r, C) := (by unfold a_flat; rw [if_pos (Or.inr h_12)]); unfold a_fans; rw [if_neg h_1, e]; exact ⟨rfl, hR⟩) dX6_flat_75
    · have h_12 : (C t) = 0 := nIeq (show nI (C t) = nI 0 from h_12) (by omega) (by omega)
      have hN1 := hN h_1 h_12
      refine lv_aload_n hx hb dX6_flat_15 rfl (lv_at hl 0 rfl) ?_
      refine lv_aload_n hx hb dX6_flat_16 rfl (lv_at hl 0 rfl) ?_
      refine m_get F hK hR 1 (by decide) rfl kw_fieldLink_RX6_7 dX6_flat_17 ?_
      refine lv_iload_n hx hb dX6_flat_20 rfl (lv_at hl 1 rfl) ?_
      refine m_ldK F hK hR t rfl (by omega) dX6_flat_21 ?_
      refine lv_aload_n hx hb dX6_flat_22 rfl (lv_at hl 0 rfl) ?_
      refine m_get F hK hR 2 (by decide) rfl kw_fieldLink_RX6_13 dX6_flat_23 ?_
      refine lv_iload_n hx hb dX6_flat_26 rfl (lv_at hl 1 rfl) ?_
      refine m_ldMn F hK hR t rfl (by omega) dX6_flat_27 ?_
      refine px_goMx (st1 := [.int (nI ((rT r) + 1))]) (px_callV F hK (c_X6_table l D cy A G r _ _ _ (rK r t) (rMn r t) (show (rT r) + 1 < 13000 by omega) (show (rN r) + (rMn r t) ≤ 12200 by omega) (by omega) (by omega)) kc_X6_table kw_methodLink_RX6_69 rfl hR (m_recv hK hR) rfl ⟨rfl, rfl⟩ ⟨Nat.le_of_ble_eq_true rfl, Nat.le_of_ble_eq_true rfl⟩ hl.1 rfl (Nat.le_of_ble_eq_true rfl) dX6_flat_28 ⟨Nat.zero_le _, Nat.zero_le _⟩) hS rfl (fun H locs hR hS => ?_)
      refine lv_istore_n (lv' := [(2, .int (nI ((rT r) + 1))), (0, .ref (G 0)), (1, .int (nI t))]) hx hb dX6_flat_31 rfl hl (by decide) rfl (fun ls hl => ?_)
      have hm1 : rS (f_table r (rK r t) (rMn r t)) t = rS r t := tb_S r _ _ (by omega)
      have hm2 : rMn (f_table r (rK r t) (rMn r t)) t = rMn r t := va_up_ne _ _ (by omega)
      have hm3 : rS (f_table r (rK r t) (rMn r t)) (rT r + 1) = rN r := tb_Sn r _ _
      refine lv_iconst (v := 0) hx hb dX6_flat_32 (by decide) ?_
      refine lv_istore_n (lv' := [(3, .int 0), (2, .int (nI ((rT r) + 1))), (0, .ref (G 0)), (1, .int (nI t))]) hx hb dX6_flat_33 rfl hl (by decide) rfl (fun ls hl => ?_)
      have loop : ∀ (d k : Nat), k + d = rMn r t → ∀ (H : Heap) (locs : List Loc) (ls : Array Slot), MR D cy A G (sI (f_table r (rK r t) (rMn r t)) (cpyI (rI (f_table r (rK r t) (rMn r t))) (rS (f_table r (rK r t) (rMn r t)) t) (rS (f_table r (rK r t) (rMn r t)) (rT r + 1)) k)) (C) (E) H → va_S A s.heap H locs → lv_has ls 4 [(3, .int (nI k)), (2, .int (nI ((rT r) + 1))), (0, .ref (G 0)), (1, .int (nI t))] → W p l e (rmd 3 0 0) s m ([.ref (G 0), .int (nI t)] : List Value).toArray below meth c H locs 0 0 (MQ below (px_Q (px_Mx D cy A G (some (.int (nI (a_fans (r, C) t)))) ((a_flat (r, C) t).1) ((a_flat (r, C) t).2) (E)) A) ([.ref (G 0), .int (nI t)] : List Value).toArray s 0 0 A) (F0 m 34 ls []) := by
        intro d
        induction d with
        | zero =>
          intro k hk H locs ls hR hS hl
          refine lv_iload_n hx hb dX6_flat_34 rfl (lv_at hl 0 rfl) ?_
          refine lv_aload_n hx hb dX6_flat_35 rfl (lv_at hl 2 rfl) ?_
          refine m_get F hK hR 2 (by decide) rfl kw_fieldLink_RX6_13 dX6_flat_36 ?_
          refine lv_iload_n hx hb dX6_flat_39 rfl (lv_at hl 3 rfl) ?_
          refine m_ldMn F hK hR t rfl (by omega) dX6_flat_40 ?_
          refine lv_icmp_ge (tgt := 62) hx hb dX6_flat_41 (by decide) (fun h_41 => ?_) (fun h_41 => by exfalso; have h_41 : k < (rMn (f_table r (rK r t) (rMn r t)) t) := nInle (show ¬ nI (rMn (f_table r (rK r t) (rMn r t)) t) ≤ nI k from h_41) (by omega) (by omega); omega)
          have h_41 : (rMn (f_table r (rK r t) (rMn r t)) t) ≤ k := nIle (show nI (rMn (f_table r (rK r t) (rMn r t)) t) ≤ nI k from h_41) (by omega) (by omega)
          refine lv_aload_n hx hb dX6_flat_62 rfl (lv_at hl 2 rfl) ?_
          refine m_get F hK hR 14 (by decide) rfl kw_fieldLink_RX6_41 dX6_flat_63 ?_
          refine lv_iload_n hx hb dX6_flat_66 rfl (lv_at hl 3 rfl) ?_
          refine lv_iload_n hx hb dX6_flat_67 rfl (lv_at hl 1 rfl) ?_
          refine m_stC F hK hR hS t ((rT r) + 1) rfl rfl (by omega) dX6_flat_68 (fun H locs hR hS => ?_)
          refine lv_aload_n hx hb dX6_flat_69 rfl (lv_at hl 2 rfl) ?_
          refine m_get F hK hR 14 (by decide) rfl kw_fieldLink_RX6_41 dX6_flat_70 ?_
          refine lv_iload_n hx hb dX6_flat_73 rfl (lv_at hl 3 rfl) ?_
          refine m_ldC F hK hR t rfl (by omega) dX6_flat_74 ?_
          exact px_iret F hr hlocks hS (by have hkn : k = rMn r t := (by omega); have e := a_flat_new (x := (r, C)) h_1 h_12; unfold a_fans; rw [if_neg h_1, e]; rw [hkn] at hR; exact ⟨by show _ = some (Value.int (nI (va_up C t (rT r + 1) t))); rfl, hR⟩) dX6_flat_75
        | succ d ih_loop =>
          intro k hk H locs ls hR hS hl
          refine lv_iload_n hx hb dX6_flat_34 rfl (lv_at hl 0 rfl) ?_
          refine lv_aload_n hx hb dX6_flat_35 rfl (lv_at hl 2 rfl) ?_
          refine m_get F hK hR 2 (by decide) rfl kw_fieldLink_RX6_13 dX6_flat_36 ?_
          refine lv_iload_n hx hb dX6_flat_39 rfl (lv_at hl 3 rfl) ?_
          refine m_ldMn F hK hR t rfl (by omega) dX6_flat_40 ?_
          refine lv_icmp_ge (tgt := 62) hx hb dX6_flat_41 (by decide) (fun h_41 => by exfalso; have h_41 : (rMn (f_table r (rK r t) (rMn r t)) t) ≤ k := nIle (show nI (rMn (f_table r (rK r t) (rMn r t)) t) ≤ nI k from h_41) (by omega) (by omega); omega) (fun h_41 => ?_)
          have h_41 : k < (rMn (f_table r (rK r t) (rMn r t)) t) := nInle (show ¬ nI (rMn (f_table r (rK r t) (rMn r t)) t) ≤ nI k from h_41) (by omega) (by omega)
          refine lv_aload_n hx hb dX6_flat_44 rfl (lv_at hl 2 rfl) ?_
          refine lv_iload_n hx hb dX6_flat_45 rfl (lv_at hl 1 rfl) ?_
          refine lv_iload_n hx hb dX6_flat_46 rfl (lv_at hl 0 rfl) ?_
          refine lv_aload_n hx hb dX6_flat_47 rfl (lv_at hl 2 rfl) ?_
          refine lv_iload_n hx hb dX6_flat_48 rfl (lv_at hl 3 rfl) ?_
          refine lv_iload_n hx hb dX6_flat_49 rfl (lv_at hl 0 rfl) ?_
          refine px_goV (st1 := [.long (f_at (sI (f_table r (rK r t) (rMn r t)) (cpyI (rI (f_table r (rK r t) (rMn r t))) (rS (f_table r (rK r t) (rMn r t)) t) (rS (f_table r (rK r t) (rMn r t)) (rT r + 1)) k)) t k), .int (nI k), .int (nI ((rT r) + 1)), .ref (G 0)]) (px_callV F hK (c_X6_at l D cy A G (sI (f_table r (rK r t) (rMn r t)) (cpyI (rI (f_table r (rK r t) (rMn r t))) (rS (f_table r (rK r t) (rMn r t)) t) (rS (f_table r (rK r t) (rMn r t)) (rT r + 1)) k)) _ _ _ t k (by omega) (show rS (f_table r (rK r t) (rMn r t)) t + k < 12200 by omega)) kc_X6_at kw_methodLink_RX6_80 rfl hR (m_recv hK hR) rfl ⟨rfl, rfl⟩ ⟨Nat.le_of_ble_eq_true rfl, Nat.le_of_ble_eq_true rfl⟩ hl.1 rfl (Nat.le_of_ble_eq_true rfl) dX6_flat_50 ⟨Nat.zero_le _, Nat.zero_le _⟩) rfl ?_
          refine px_goMx (st1 := []) (px_callV F hK (c_X6_put l D cy A G (sI (f_table r (rK r t) (rMn r t)) (cpyI (rI (f_table r (rK r t) (rMn r t))) (rS (f_table r (rK r t) (rMn r t)) t) (rS (f_table r (rK r t) (rMn r t)) (rT r + 1)) k)) _ _ _ ((rT r) + 1) k (f_at (sI (f_table r (rK r t) (rMn r t)) (cpyI (rI (f_table r (rK r t) (rMn r t))) (rS (f_table r (rK r t) (rMn r t)) t) (rS (f_table r (rK r t) (rMn r t)) (rT r + 1)) k)) t k) (by omega) (show rS (f_table r (rK r t) (rMn r t)) ((rT r) + 1) + k < 12200 by omega)) kc_X6_put kw_methodLink_RX6_76 rfl hR (m_recv hK hR) rfl ⟨rfl, rfl⟩ ⟨Nat.le_of_ble_eq_true rfl, Nat.le_of_ble_eq_true rfl⟩ hl.1 rfl (Nat.le_of_ble_eq_true rfl) dX6_flat_53 ⟨Nat.zero_le _, Nat.zero_le _⟩) hS rfl (fun H locs hR hS => ?_)
          refine lv_iinc (v := nI (k + 1)) (lv' := [(3, .int (nI (k + 1))), (2, .int (nI ((rT r) + 1))), (0, .ref (G 0)), (1, .int (nI t))]) hx hb dX6_flat_56 hl (k := 0) rfl (by show nI k + 1 = nI (k + 1); exact nI_1 _) (by decide) rfl (fun ls hl => ?_)
          refine lv_goto (tgt := 34) hx hb dX6_flat_59 (by decide) ?_
          exact ih_loop (k + 1) (by omega) _ _ _ hR hS (lv_sub hl [0, 1, 2, 3] rfl)
      exact loop (rMn r t) 0 (by omega) _ _ _ hR hS (lv_sub hl [0, 1, 2, 3] rfl)
  · have h_1 : t = 0 := nIeq (show nI t = nI 0 from h_1) (by omega) (by omega)
    refine lv_iconst (v := 0) hx hb dX6_flat_4 (by decide) ?_
    exact px_iret F hr hlocks hS (by exact ⟨by simp [a_fans, h_1] <;> rfl, by simpa [a_flat, h_1] using hR⟩) dX6_flat_5
set_option maxHeartbeats 400000 in
set_option maxRecDepth 100000 in
theorem c_X6_middle (l : Launch) (D : va_G) (cy : Nat → ClassId) (A : Nat → Prop) (G : Nat → Nat) (r : RS) (C : Nat → Nat) (E : Nat → Int64) (sz : Nat) (r0 : RS) (t : Nat) {kk : Nat} (hI : Inv kk r0) (hA : AI r0 (r, C)) (hf : rN r0 < 6000) (ht : t ≤ rT r0) (hT : rT r + 40 < 13000) : Met l yX6_middle (px_w yX6_middle cX6_middle 4 (some .int)) (rmd 4 0 0) (px_P D cy [.ref (G 0), .int (nI t)] sz (MR D cy A G r C E)) (px_Q (px_Mx D cy A G (some (.int (nI (a_mans (r, C) t)))) ((a_mid (r, C) t).1) ((a_mid (r, C) t).2) (E)) A) 0 0 A := by
  refine px_met (by decide) (Nat.le_of_ble_eq_true rfl) ?_
  intro p e s m below meth c F hr hlocks hnm hK hsz hR ls hl
  have hx := F.1
  have hb := F.2.1
  have hl : lv_has ls 4 [(0, .ref (G 0)), (1, .int (nI t))] := hl
  have hS : va_S A s.heap s.heap [] := va_S.rf
  have hbd := hI.bd
  have hA1 : rT r0 ≤ rT r := hA.1
  have hq : rK r t = rK r0 t ∧ rMn r t = rMn r0 t ∧ rS r t = rS r0 t := hA.2.1 t ht
  have hb0 := hI.tb t ht
  have hfh : t ≤ rT r ∧ rK r t ≤ 13 ∧ rMn r t ≤ 30 ∧ rS r t + rMn r t ≤ rN r ∧ (¬ t = 0 → C t = 0 → rN r + rMn r t ≤ 12200) ∧ rN r ≤ 12200 ∧ C t ≤ rT r := hA.fh hI hf ht
  refine lv_iload_n hx hb dX6_middle_0 rfl (lv_at hl 1 rfl) ?_
  refine lv_if_eq (tgt := 15) hx hb dX6_middle_1 (by decide) (fun h_1 => ?_) (fun h_1 => ?_)
  · have h_1 : t = 0 := nIeq (show nI t = nI 0 from h_1) (by omega) (by omega)
    refine lv_aload_n hx hb dX6_middle_15 rfl (lv_at hl 0 rfl) ?_
    refine lv_iload_n hx hb dX6_middle_16 rfl (lv_at hl 1 rfl) ?_
    refine px_goMx (st1 := [.int (nI (a_fans (r, C) t))]) (px_callV F hK (c_X6_flat l D cy A G r C _ _ t hfh.1 (by omega) hfh.2.1 hfh.2.2.1 hfh.2.2.2.1 hfh.2.2.2.2.1 hfh.2.2.2.2.2.1 (Nat.lt_of_le_of_lt hfh.2.2.2.2.2.2 (by omega))) kc_X6_flat kw_methodLink_RX6_84 rfl hR (m_recv hK hR) rfl ⟨rfl, rfl⟩ ⟨Nat.le_of_ble_eq_true rfl, Nat.le_of_ble_eq_true rfl⟩ hl.1 rfl (Nat.le_of_ble_eq_true rfl) dX6_middle_17 ⟨Nat.zero_le _, Nat.zero_le _⟩) hS rfl (fun H locs hR hS => ?_)
    exact px_iret F hr hlocks hS (by have e := a_mid_F (x := (r, C)) (t := t) (Or.inl h_1); have e2 : a_mans (r, C) t = a_fans (r, C) t := (by unfold a_mans a_fans; rw [e]); rw [e2, e]; exact ⟨rfl, hR⟩) dX6_middle_20
  · have h_1 : ¬ t = 0 := nIne (show ¬ nI t = nI 0 from h_1)
    refine lv_aload_n hx hb dX6_middle_4 rfl (lv_at hl 0 rfl) ?_
    refine m_get F hK hR 1 (by decide) rfl kw_fieldLink_RX6_7 dX6_middle_5 ?_
    refine lv_iload_n hx hb dX6_middle_8 rfl (lv_at hl 1 rfl) ?_
    refine m_ldK F hK hR t rfl (by omega) dX6_middle_9 ?_
    refine lv_bipush (v := 10) hx hb dX6_middle_10 (by decide) ?_
    refine lv_icmp_ge (tgt := 21) hx hb dX6_middle_12 (by decide) (fun h_12 => ?_) (fun h_12 => ?_)
    · have h_12 : 10 ≤ (rK r t) := nIle (show nI 10 ≤ nI (rK r t) from h_12) (by omega) (by omega)
      refine lv_aload_n hx hb dX6_middle_21 rfl (lv_at hl 0 rfl) ?_
      refine m_get F hK hR 14 (by decide) rfl kw_fieldLink_RX6_41 dX6_middle_22 ?_
      refine lv_iload_n hx hb dX6_middle_25 rfl (lv_at hl 1 rfl) ?_
      refine m_ldC F hK hR t rfl (by omega) dX6_middle_26 ?_
      refine lv_if_ne (tgt := 72) hx hb dX6_middle_27 (by decide) (fun h_27 => ?_) (fun h_27 => ?_)
      · have h_27 : ¬ (C t) = 0 := nIne (show ¬ nI (C t) = nI 0 from h_27)
        refine lv_aload_n hx hb dX6_middle_72 rfl (lv_at hl 0 rfl) ?_
        refine m_get F hK hR 14 (by decide) rfl kw_fieldLink_RX6_41 dX6_middle_73 ?_
        refine lv_iload_n hx hb dX6_middle_76 rfl (lv_at hl 1 rfl) ?_
        refine m_ldC F hK hR t rfl (by omega) dX6_middle_77 ?_
        exact px_iret F hr hlocks hS (by have e := a_mid_C (x := (r, C)) h_1 (show ¬ rK r t < 10 by omega) h_27; unfold a_mans; rw [if_neg h_1, e]; exact ⟨rfl, hR⟩) dX6_middle_78
      · have h_27 : (C t) = 0 := nIeq (show nI (C t) = nI 0 from h_27) (by omega) (by omega)
        refine lv_aload_n hx hb dX6_middle_30 rfl (lv_at hl 0 rfl) ?_
        refine lv_iload_n hx hb dX6_middle_31 rfl (lv_at hl 1 rfl) ?_
        refine px_goMx (st1 := [.int (nI (a_fans (r, C) t))]) (px_callV F hK (c_X6_flat l D cy A G r C _ _ t hfh.1 (by omega) hfh.2.1 hfh.2.2.1 hfh.2.2.2.1 hfh.2.2.2.2.1 hfh.2.2.2.2.2.1 (Nat.lt_of_le_of_lt hfh.2.2.2.2.2.2 (by omega))) kc_X6_flat kw_methodLink_RX6_84 rfl hR (m_recv hK hR) rfl ⟨rfl, rfl⟩ ⟨Nat.le_of_ble_eq_true rfl, Nat.le_of_ble_eq_true rfl⟩ hl.1 rfl (Nat.le_of_ble_eq_true rfl) dX6_middle_32 ⟨Nat.zero_le _, Nat.zero_le _⟩) hS rfl (fun H locs hR hS => ?_)
        refine lv_istore_n (lv' := [(2, .int (nI (a_fans (r, C) t))), (0, .ref (G 0)), (1, .int (nI t))]) hx hb dX6_middle_35 rfl hl (by decide) rfl (fun ls hl => ?_)
        have hnT : rT (a_flat (r, C) t).1 = rT r + 1 := (by rw [a_flat_new h_1 h_27]; rfl)
        have hn2 : a_fans (r, C) t = rT r + 1 := (by unfold a_fans; rw [if_neg h_1, a_flat_new h_1 h_27]; exact va_up_self _ _ _)
        have hl : lv_has ls 4 [(2, .int (nI (rT r + 1))), (0, .ref (G 0)), (1, .int (nI t))] := (by rw [hn2] at hl; exact hl)
        refine lv_iconst (v := 0) hx hb dX6_middle_36 (by decide) ?_
        refine lv_istore_n (lv' := [(3, .int 0), (2, .int (nI (rT r + 1))), (0, .ref (G 0)), (1, .int (nI t))]) hx hb dX6_middle_37 rfl hl (by decide) rfl (fun ls hl => ?_)
        have loop : ∀ (d k : Nat), k + d = rMn r t → ∀ (H : Heap) (locs : List Loc) (ls : Array Slot), MR D cy A G ((a_midL t (rT r + 1) (a_flat (r, C) t) k).1) ((a_midL t (rT r + 1) (a_flat (r, C) t) k).2) (E) H → va_S A s.heap H locs → lv_has ls 4 [(3, .int (nI k)), (2, .int (nI (rT r + 1))), (0, .ref (G 0)), (1, .int (nI t))] → W p l e (rmd 4 0 0) s m ([.ref (G 0), .int (nI t)] : List Value).toArray below meth c H locs 0 0 (MQ below (px_Q (px_Mx D cy A G (some (.int (nI (a_mans (r, C) t)))) ((a_mid (r, C) t).1) ((a_mid (r, C) t).2) (E)) A) ([.ref (G 0), .int (nI t)] : List Value).toArray s 0 0 A) (F0 m 38 ls []) := by
          intro d
          induction d with
          | zero =>
            intro k hk H locs ls hR hS hl
            have hmk0 := (hA.flat hI ht).midL hI h_1 ht (by omega) (show rT r0 < rT r + 1 by omega) (by omega) k (by omega)
            have hq0 := hmk0.1.2.1 t ht
            refine lv_iload_n hx hb dX6_middle_38 rfl (lv_at hl 0 rfl) ?_
            refine lv_aload_n hx hb dX6_middle_39 rfl (lv_at hl 2 rfl) ?_
            refine m_get F hK hR 2 (by decide) rfl kw_fieldLink_RX6_13 dX6_middle_40 ?_
            refine lv_iload_n hx hb dX6_middle_43 rfl (lv_at hl 3 rfl) ?_
            refine m_ldMn F hK hR t rfl (by omega) dX6_middle_44 ?_
            refine lv_icmp_ge (tgt := 72) hx hb dX6_middle_45 (by decide) (fun h_45 => ?_) (fun h_45 => by exfalso; have h_45 : k < (rMn ((a_midL t (rT r + 1) (a_flat (r, C) t) k).1) t) := nInle (show ¬ nI (rMn ((a_midL t (rT r + 1) (a_flat (r, C) t) k).1) t) ≤ nI k from h_45) (by omega) (by omega); omega)
            have h_45 : (rMn ((a_midL t (rT r + 1) (a_flat (r, C) t) k).1) t) ≤ k := nIle (show nI (rMn ((a_midL t (rT r + 1) (a_flat (r, C) t) k).1) t) ≤ nI k from h_45) (by omega) (by omega)
            refine lv_aload_n hx hb dX6_middle_72 rfl (lv_at hl 2 rfl) ?_
            refine m_get F hK hR 14 (by decide) rfl kw_fieldLink_RX6_41 dX6_middle_73 ?_
            refine lv_iload_n hx hb dX6_middle_76 rfl (lv_at hl 3 rfl) ?_
            refine m_ldC F hK hR t rfl (by omega) dX6_middle_77 ?_
            exact px_iret F hr hlocks hS (by have hkn : k = rMn r t := (by omega); have e := a_mid_L (x := (r, C)) h_1 (show ¬ rK r t < 10 by omega) h_27; unfold a_mans; rw [if_neg h_1, e]; rw [hkn] at hR ⊢; exact ⟨rfl, hR⟩) dX6_middle_78
          | succ d ih_loop =>
            intro k hk H locs ls hR hS hl
            have hmk0 := (hA.flat hI ht).midL hI h_1 ht (by omega) (show rT r0 < rT r + 1 by omega) (by omega) k (by omega)
            have hq0 := hmk0.1.2.1 t ht
            refine lv_iload_n hx hb dX6_middle_38 rfl (lv_at hl 0 rfl) ?_
            refine lv_aload_n hx hb dX6_middle_39 rfl (lv_at hl 2 rfl) ?_
            refine m_get F hK hR 2 (by decide) rfl kw_fieldLink_RX6_13 dX6_middle_40 ?_
            refine lv_iload_n hx hb dX6_middle_43 rfl (lv_at hl 3 rfl) ?_
            refine m_ldMn F hK hR t rfl (by omega) dX6_middle_44 ?_
            refine lv_icmp_ge (tgt := 72) hx hb dX6_middle_45 (by decide) (fun h_45 => by exfalso; have h_45 : (rMn ((a_midL t (rT r + 1) (a_flat (r, C) t) k).1) t) ≤ k := nIle (show nI (rMn ((a_midL t (rT r + 1) (a_flat (r, C) t) k).1) t) ≤ nI k from h_45) (by omega) (by omega); omega) (fun h_45 => ?_)
            have h_45 : k < (rMn ((a_midL t (rT r + 1) (a_flat (r, C) t) k).1) t) := nInle (show ¬ nI (rMn ((a_midL t (rT r + 1) (a_flat (r, C) t) k).1) t) ≤ nI k from h_45) (by omega) (by omega)
            have hmk := (hA.flat hI ht).midL hI h_1 ht (by omega) (show rT r0 < rT r + 1 by omega) (by omega) k (by omega)
            have hrw := hmk.1.row hI h_1 ht (show k < rMn r0 t by omega) (by omega)
            have hww : iv (f_at (a_midL t (rT r + 1) (a_flat (r, C) t) k).1 t k) ≤ rT r0 := (by rw [hrw.2.1]; exact hrw.2.2.1)
            have hfw : (iv (f_at (a_midL t (rT r + 1) (a_flat (r, C) t) k).1 t k)) ≤ rT (a_midL t (rT r + 1) (a_flat (r, C) t) k).1 ∧ rK (a_midL t (rT r + 1) (a_flat (r, C) t) k).1 (iv (f_at (a_midL t (rT r + 1) (a_flat (r, C) t) k).1 t k)) ≤ 13 ∧ rMn (a_midL t (rT r + 1) (a_flat (r, C) t) k).1 (iv (f_at (a_midL t (rT r + 1) (a_flat (r, C) t) k).1 t k)) ≤ 30 ∧ rS (a_midL t (rT r + 1) (a_flat (r, C) t) k).1 (iv (f_at (a_midL t (rT r + 1) (a_flat (r, C) t) k).1 t k)) + rMn (a_midL t (rT r + 1) (a_flat (r, C) t) k).1 (iv (f_at (a_midL t (rT r + 1) (a_flat (r, C) t) k).1 t k)) ≤ rN (a_midL t (rT r + 1) (a_flat (r, C) t) k).1 ∧ (¬ (iv (f_at (a_midL t (rT r + 1) (a_flat (r, C) t) k).1 t k)) = 0 → (a_midL t (rT r + 1) (a_flat (r, C) t) k).2 (iv (f_at (a_midL t (rT r + 1) (a_flat (r, C) t) k).1 t k)) = 0 → rN (a_midL t (rT r + 1) (a_flat (r, C) t) k).1 + rMn (a_midL t (rT r + 1) (a_flat (r, C) t) k).1 (iv (f_at (a_midL t (rT r + 1) (a_flat (r, C) t) k).1 t k)) ≤ 12200) ∧ rN (a_midL t (rT r + 1) (a_flat (r, C) t) k).1 ≤ 12200 ∧ (a_midL t (rT r + 1) (a_flat (r, C) t) k).2 (iv (f_at (a_midL t (rT r + 1) (a_flat (r, C) t) k).1 t k)) ≤ rT (a_midL t (rT r + 1) (a_flat (r, C) t) k).1 := hmk.1.fh hI hf hww
            have hft : t ≤ rT (a_midL t (rT r + 1) (a_flat (r, C) t) k).1 ∧ rK (a_midL t (rT r + 1) (a_flat (r, C) t) k).1 t ≤ 13 ∧ rMn (a_midL t (rT r + 1) (a_flat (r, C) t) k).1 t ≤ 30 ∧ rS (a_midL t (rT r + 1) (a_flat (r, C) t) k).1 t + rMn (a_midL t (rT r + 1) (a_flat (r, C) t) k).1 t ≤ rN (a_midL t (rT r + 1) (a_flat (r, C) t) k).1 ∧ (¬ t = 0 → (a_midL t (rT r + 1) (a_flat (r, C) t) k).2 t = 0 → rN (a_midL t (rT r + 1) (a_flat (r, C) t) k).1 + rMn (a_midL t (rT r + 1) (a_flat (r, C) t) k).1 t ≤ 12200) ∧ rN (a_midL t (rT r + 1) (a_flat (r, C) t) k).1 ≤ 12200 ∧ (a_midL t (rT r + 1) (a_flat (r, C) t) k).2 t ≤ rT (a_midL t (rT r + 1) (a_flat (r, C) t) k).1 := hmk.1.fh hI hf ht
            have hmT := hmk.2.1
            have hmU := hmk.2.2.1
            refine lv_aload_n hx hb dX6_middle_48 rfl (lv_at hl 2 rfl) ?_
            refine lv_iload_n hx hb dX6_middle_49 rfl (lv_at hl 1 rfl) ?_
            refine lv_iload_n hx hb dX6_middle_50 rfl (lv_at hl 0 rfl) ?_
            refine lv_aload_n hx hb dX6_middle_51 rfl (lv_at hl 2 rfl) ?_
            refine lv_aload_n hx hb dX6_middle_52 rfl (lv_at hl 2 rfl) ?_
            refine lv_iload_n hx hb dX6_middle_53 rfl (lv_at hl 3 rfl) ?_
            refine lv_iload_n hx hb dX6_middle_54 rfl (lv_at hl 0 rfl) ?_
            refine px_goV (st1 := [.long (f_at ((a_midL t (rT r + 1) (a_flat (r, C) t) k).1) t k), .ref (G 0), .int (nI k), .int (nI (rT r + 1)), .ref (G 0)]) (px_callV F hK (c_X6_at l D cy A G ((a_midL t (rT r + 1) (a_flat (r, C) t) k).1) _ _ _ t k (by omega) (show rS ((a_midL t (rT r + 1) (a_flat (r, C) t) k).1) t + k < 12200 by omega)) kc_X6_at kw_methodLink_RX6_80 rfl hR (m_recv hK hR) rfl ⟨rfl, rfl⟩ ⟨Nat.le_of_ble_eq_true rfl, Nat.le_of_ble_eq_true rfl⟩ hl.1 rfl (Nat.le_of_ble_eq_true rfl) dX6_middle_55 ⟨Nat.zero_le _, Nat.zero_le _⟩) rfl ?_
            refine px_topl (y := lN (iv (f_at ((a_midL t (rT r + 1) (a_flat (r, C) t) k).1) t k))) (by rw [hrw.2.1]; exact hrw.1) ?_
            refine lv_l2i (v := nI (iv (f_at ((a_midL t (rT r + 1) (a_flat (r, C) t) k).1) t k))) hx hb dX6_middle_58 (lN_i _) ?_
            refine px_goMx (st1 := [.int (nI (a_fans (a_midL t (rT r + 1) (a_flat (r, C) t) k) (iv (f_at ((a_midL t (rT r + 1) (a_flat (r, C) t) k).1) t k)))), .int (nI k), .int (nI (rT r + 1)), .ref (G 0)]) (px_callV F hK (c_X6_flat l D cy A G ((a_midL t (rT r + 1) (a_flat (r, C) t) k).1) ((a_midL t (rT r + 1) (a_flat (r, C) t) k).2) _ _ (iv (f_at ((a_midL t (rT r + 1) (a_flat (r, C) t) k).1) t k)) hfw.1 (by omega) hfw.2.1 hfw.2.2.1 hfw.2.2.2.1 hfw.2.2.2.2.1 hfw.2.2.2.2.2.1 (Nat.lt_of_le_of_lt hfw.2.2.2.2.2.2 (by omega))) kc_X6_flat kw_methodLink_RX6_84 rfl hR (m_recv hK hR) rfl ⟨rfl, rfl⟩ ⟨Nat.le_of_ble_eq_true rfl, Nat.le_of_ble_eq_true rfl⟩ hl.1 rfl (Nat.le_of_ble_eq_true rfl) dX6_middle_59 ⟨Nat.zero_le _, Nat.zero_le _⟩) hS rfl (fun H locs hR hS => ?_)
            have han := a_fans_le hmk.1 hI hww
            have hfT := a_flat_T (a_midL t (rT r + 1) (a_flat (r, C) t) k) (iv (f_at (a_midL t (rT r + 1) (a_flat (r, C) t) k).1 t k))
            have hfl := (hmk.1.flat hI hww).2.2.2.1 (rT r + 1) (by omega) (by omega)
            have hflN := (hmk.1.flat hI hww).N
            refine lv_i2l (v := lN (a_fans (a_midL t (rT r + 1) (a_flat (r, C) t) k) (iv (f_at ((a_midL t (rT r + 1) (a_flat (r, C) t) k).1) t k)))) hx hb dX6_middle_62 (nI_l (n := (a_fans (a_midL t (rT r + 1) (a_flat (r, C) t) k) (iv (f_at ((a_midL t (rT r + 1) (a_flat (r, C) t) k).1) t k)))) (by omega)) ?_
            refine px_goMx (st1 := []) (px_callV F hK (c_X6_put l D cy A G ((a_flat (a_midL t (rT r + 1) (a_flat (r, C) t) k) (iv (f_at ((a_midL t (rT r + 1) (a_flat (r, C) t) k).1) t k))).1) _ _ _ (rT r + 1) k (lN (a_fans (a_midL t (rT r + 1) (a_flat (r, C) t) k) (iv (f_at ((a_midL t (rT r + 1) (a_flat (r, C) t) k).1) t k)))) (by omega) (show rS ((a_flat (a_midL t (rT r + 1) (a_flat (r, C) t) k) (iv (f_at ((a_midL t (rT r + 1) (a_flat (r, C) t) k).1) t k))).1) (rT r + 1) + k < 12200 by omega)) kc_X6_put kw_methodLink_RX6_76 rfl hR (m_recv hK hR) rfl ⟨rfl, rfl⟩ ⟨Nat.le_of_ble_eq_true rfl, Nat.le_of_ble_eq_true rfl⟩ hl.1 rfl (Nat.le_of_ble_eq_true rfl) dX6_middle_63 ⟨Nat.zero_le _, Nat.zero_le _⟩) hS rfl (fun H locs hR hS => ?_)
            refine lv_iinc (v := nI (k + 1)) (lv' := [(3, .int (nI (k + 1))), (2, .int (nI (rT r + 1))), (0, .ref (G 0)), (1, .int (nI t))]) hx hb dX6_middle_66 hl (k := 0) rfl (by show nI k + 1 = nI (k + 1); exact nI_1 _) (by decide) rfl (fun ls hl => ?_)
            refine lv_goto (tgt := 38) hx hb dX6_middle_69 (by decide) ?_
            exact ih_loop (k + 1) (by omega) _ _ _ hR hS (lv_sub hl [0, 1, 2, 3] rfl)
        exact loop (rMn r t) 0 (by omega) _ _ _ hR hS (lv_sub hl [0, 1, 2, 3] rfl)
    · have h_12 : (rK r t) < 10 := nInle (show ¬ nI 10 ≤ nI (rK r t) from h_12) (by omega) (by omega)
      refine lv_aload_n hx hb dX6_middle_15 rfl (lv_at hl 0 rfl) ?_
      refine lv_iload_n hx hb dX6_middle_16 rfl (lv_at hl 1 rfl) ?_
      refine px_goMx (st1 := [.int (nI (a_fans (r, C) t))]) (px_callV F hK (c_X6_flat l D cy A G r C _ _ t hfh.1 (by omega) hfh.2.1 hfh.2.2.1 hfh.2.2.2.1 hfh.2.2.2.2.1 hfh.2.2.2.2.2.1 (Nat.lt_of_le_of_lt hfh.2.2.2.2.2.2 (by omega))) kc_X6_flat kw_methodLink_RX6_84 rfl hR (m_recv hK hR) rfl ⟨rfl, rfl⟩ ⟨Nat.le_of_ble_eq_true rfl, Nat.le_of_ble_eq_true rfl⟩ hl.1 rfl (Nat.le_of_ble_eq_true rfl) dX6_middle_17 ⟨Nat.zero_le _, Nat.zero_le _⟩) hS rfl (fun H locs hR hS => ?_)
      exact px_iret F hr hlocks hS (by have e := a_mid_F (x := (r, C)) (t := t) (Or.inr h_12); have e2 : a_mans (r, C) t = a_fans (r, C) t := (by unfold a_mans a_fans; rw [e]); rw [e2, e]; exact ⟨rfl, hR⟩) dX6_middle_20
