/-! the reference: likes -/
set_option maxHeartbeats 400000 in
set_option maxRecDepth 100000 in
theorem c_X6_areFlatLike (l : Launch) (D : va_G) (cy : Nat → ClassId) (A : Nat → Prop) (G : Nat → Nat) (r : RS) (C : Nat → Nat) (E : Nat → Int64) (sz : Nat) (a b : Nat) {kk : Nat} (hI : Inv kk r) (ha : a ≤ rT r) (hb1 : b ≤ rT r) (h10 : a ≠ 0 → b ≠ 0 → rK r a < 10) : Met l yX6_areFlatLike (px_w yX6_areFlatLike cX6_areFlatLike 5 (some .boolean)) (rmd 2 0 0) (px_P D cy [.ref (G 0), .int (nI a), .int (nI b)] sz (MR D cy A G r C E)) (px_V (some (.int (b2i (f_fla r a b))))) 0 0 (fun _ => False) := by
  refine px_met (by decide) (Nat.le_of_ble_eq_true rfl) ?_
  intro p e s m below meth c F hr hlocks hnm hK hsz hR ls hl
  have hx := F.1
  have hb := F.2.1
  have hl : lv_has ls 5 [(0, .ref (G 0)), (1, .int (nI a)), (2, .int (nI b))] := hl
  have hbd := hI.bd
  have ha1 := hI.tb a ha
  have hb2 := hI.tb b hb1
  refine lv_iload_n hx hb dX6_areFlatLike_0 rfl (lv_at hl 1 rfl) ?_
  refine lv_iload_n hx hb dX6_areFlatLike_1 rfl (lv_at hl 2 rfl) ?_
  refine lv_icmp_ne (tgt := 7) hx hb dX6_areFlatLike_2 (by decide) (fun h_2 => ?_) (fun h_2 => ?_)
  · have h_2 : ¬ a = b := nIne (show ¬ nI a = nI b from h_2)
    refine lv_aload_n hx hb dX6_areFlatLike_7 rfl (lv_at hl 0 rfl) ?_
    refine lv_iload_n hx hb dX6_areFlatLike_8 rfl (lv_at hl 1 rfl) ?_
    refine lv_iload_n hx hb dX6_areFlatLike_9 rfl (lv_at hl 2 rfl) ?_
    refine px_goV (st1 := [.int (b2i (f_shaped r a b))]) (px_callV F hK (c_X6_areShaped l D cy A G r _ _ _ a b (by omega) (by omega) (by omega) (by omega) (by omega) (by omega)) kc_X6_areShaped kw_methodLink_RX6_138 rfl hR (m_recv hK hR) rfl ⟨rfl, rfl⟩ ⟨Nat.le_of_ble_eq_true rfl, Nat.le_of_ble_eq_true rfl⟩ hl.1 rfl (Nat.le_of_ble_eq_true rfl) dX6_areFlatLike_10 ⟨Nat.zero_le _, Nat.zero_le _⟩) rfl ?_
    refine lv_istore_n (lv' := [(3, .int (b2i (f_shaped r a b))), (0, .ref (G 0)), (1, .int (nI a)), (2, .int (nI b))]) hx hb dX6_areFlatLike_13 rfl hl (by decide) rfl (fun ls hl => ?_)
    refine lv_iconst (v := 0) hx hb dX6_areFlatLike_14 (by decide) ?_
    refine lv_istore (lv' := [(4, .int 0), (3, .int (b2i (f_shaped r a b))), (0, .ref (G 0)), (1, .int (nI a)), (2, .int (nI b))]) hx hb dX6_areFlatLike_15 hl (by decide) rfl (fun ls hl => ?_)
    have loop : ∀ (d k : Nat), k + d = rMn r a → ∀ (ls : Array Slot), lv_has ls 5 [(4, .int (nI k)), (3, .int (b2i (f_shaped r a b && f_all (fun k => if rK r a < 8 then decide (f_at r a k = f_at r b k) else f_thl r (iv (f_at r a k)) (iv (f_at r b k))) k))), (0, .ref (G 0)), (1, .int (nI a)), (2, .int (nI b))] → W p l e (rmd 2 0 0) s m ([.ref (G 0), .int (nI a), .int (nI b)] : List Value).toArray below meth c s.heap [] 0 0 (MQ below (px_V (some (.int (b2i (f_fla r a b))))) ([.ref (G 0), .int (nI a), .int (nI b)] : List Value).toArray s 0 0 (fun _ => False)) (F0 m 17 ls []) := by
      intro d
      induction d with
      | zero =>
        intro k hk ls hl
        refine lv_iload_n hx hb dX6_areFlatLike_17 rfl (lv_at hl 1 rfl) ?_
        refine x_ifeq_b (tgt := 96) hx hb dX6_areFlatLike_18 (by decide) (fun h_18 => ?_) (fun h_18 => ?_)
        · refine lv_iload_n hx hb dX6_areFlatLike_96 rfl (lv_at hl 1 rfl) ?_
          have efin : (f_shaped r a b && f_all (fun k => if rK r a < 8 then decide (f_at r a k = f_at r b k) else f_thl r (iv (f_at r a k)) (iv (f_at r b k))) k) = (f_shaped r a b && f_all (fun k => if rK r a < 8 then decide (f_at r a k = f_at r b k) else f_thl r (iv (f_at r a k)) (iv (f_at r b k))) (rMn r a)) := (by rw [h_18]; cases hq : f_shaped r a b with | false => rfl | true => rw [f_all_le (fun k => if rK r a < 8 then decide (f_at r a k = f_at r b k) else f_thl r (iv (f_at r a k)) (iv (f_at r b k))) (k := k) (by rw [hq] at h_18; simpa using h_18) _ (by omega)]; rfl)
          exact pv_zret F hr hlocks (b2i_01 _) (by rw [efin]; simp [f_fla, h_2]) dX6_areFlatLike_97
        · have hsh := shaped_t ((Bool.and_eq_true _ _).mp h_18).1
          refine lv_iload hx hb dX6_areFlatLike_21 (lv_at hl 0 rfl) ?_
          refine lv_aload_n hx hb dX6_areFlatLike_23 rfl (lv_at hl 2 rfl) ?_
          refine m_get F hK hR 2 (by decide) rfl kw_fieldLink_RX6_13 dX6_areFlatLike_24 ?_
          refine lv_iload_n hx hb dX6_areFlatLike_27 rfl (lv_at hl 3 rfl) ?_
          refine m_ldMn F hK hR a rfl (by omega) dX6_areFlatLike_28 ?_
          refine lv_icmp_ge (tgt := 96) hx hb dX6_areFlatLike_29 (by decide) (fun h_29 => ?_) (fun h_29 => by exfalso; have h_29 : k < (rMn r a) := nInle (show ¬ nI (rMn r a) ≤ nI k from h_29) (by omega) (by omega); omega)
          have h_29 : (rMn r a) ≤ k := nIle (show nI (rMn r a) ≤ nI k from h_29) (by omega) (by omega)
          refine lv_iload_n hx hb dX6_areFlatLike_96 rfl (lv_at hl 1 rfl) ?_
          have efin : (f_shaped r a b && f_all (fun k => if rK r a < 8 then decide (f_at r a k = f_at r b k) else f_thl r (iv (f_at r a k)) (iv (f_at r b k))) k) = (f_shaped r a b && f_all (fun k => if rK r a < 8 then decide (f_at r a k = f_at r b k) else f_thl r (iv (f_at r a k)) (iv (f_at r b k))) (rMn r a)) := (by rw [show k = rMn r a by omega])
          exact pv_zret F hr hlocks (b2i_01 _) (by rw [efin]; simp [f_fla, h_2]) dX6_areFlatLike_97
      | succ d ih_loop =>
        intro k hk ls hl
        refine lv_iload_n hx hb dX6_areFlatLike_17 rfl (lv_at hl 1 rfl) ?_
        refine x_ifeq_b (tgt := 96) hx hb dX6_areFlatLike_18 (by decide) (fun h_18 => ?_) (fun h_18 => ?_)
        · refine lv_iload_n hx hb dX6_areFlatLike_96 rfl (lv_at hl 1 rfl) ?_
          have efin : (f_shaped r a b && f_all (fun k => if rK r a < 8 then decide (f_at r a k = f_at r b k) else f_thl r (iv (f_at r a k)) (iv (f_at r b k))) k) = (f_shaped r a b && f_all (fun k => if rK r a < 8 then decide (f_at r a k = f_at r b k) else f_thl r (iv (f_at r a k)) (iv (f_at r b k))) (rMn r a)) := (by rw [h_18]; cases hq : f_shaped r a b with | false => rfl | true => rw [f_all_le (fun k => if rK r a < 8 then decide (f_at r a k = f_at r b k) else f_thl r (iv (f_at r a k)) (iv (f_at r b k))) (k := k) (by rw [hq] at h_18; simpa using h_18) _ (by omega)]; rfl)
          exact pv_zret F hr hlocks (b2i_01 _) (by rw [efin]; simp [f_fla, h_2]) dX6_areFlatLike_97
        · have hsh := shaped_t ((Bool.and_eq_true _ _).mp h_18).1
          refine lv_iload hx hb dX6_areFlatLike_21 (lv_at hl 0 rfl) ?_
          refine lv_aload_n hx hb dX6_areFlatLike_23 rfl (lv_at hl 2 rfl) ?_
          refine m_get F hK hR 2 (by decide) rfl kw_fieldLink_RX6_13 dX6_areFlatLike_24 ?_
          refine lv_iload_n hx hb dX6_areFlatLike_27 rfl (lv_at hl 3 rfl) ?_
          refine m_ldMn F hK hR a rfl (by omega) dX6_areFlatLike_28 ?_
          refine lv_icmp_ge (tgt := 96) hx hb dX6_areFlatLike_29 (by decide) (fun h_29 => by exfalso; have h_29 : (rMn r a) ≤ k := nIle (show nI (rMn r a) ≤ nI k from h_29) (by omega) (by omega); omega) (fun h_29 => ?_)
          have h_29 : k < (rMn r a) := nInle (show ¬ nI (rMn r a) ≤ nI k from h_29) (by omega) (by omega)
          refine lv_aload_n hx hb dX6_areFlatLike_32 rfl (lv_at hl 2 rfl) ?_
          refine m_get F hK hR 1 (by decide) rfl kw_fieldLink_RX6_7 dX6_areFlatLike_33 ?_
          refine lv_iload_n hx hb dX6_areFlatLike_36 rfl (lv_at hl 3 rfl) ?_
          refine m_ldK F hK hR a rfl (by omega) dX6_areFlatLike_37 ?_
          refine lv_bipush (v := 8) hx hb dX6_areFlatLike_38 (by decide) ?_
          refine lv_icmp_ge (tgt := 69) hx hb dX6_areFlatLike_40 (by decide) (fun h_40 => ?_) (fun h_40 => ?_)
          · have h_40 : 8 ≤ (rK r a) := nIle (show nI 8 ≤ nI (rK r a) from h_40) (by omega) (by omega)
            refine lv_aload_n hx hb dX6_areFlatLike_69 rfl (lv_at hl 2 rfl) ?_
            refine lv_aload_n hx hb dX6_areFlatLike_70 rfl (lv_at hl 2 rfl) ?_
            refine lv_iload_n hx hb dX6_areFlatLike_71 rfl (lv_at hl 3 rfl) ?_
            refine lv_iload hx hb dX6_areFlatLike_72 (lv_at hl 0 rfl) ?_
            refine px_goV (st1 := [.long (f_at r a k), .ref (G 0)]) (px_callV F hK (c_X6_at l D cy A G r _ _ _ a k (by omega) (show rS r a + k < 12200 by omega)) kc_X6_at kw_methodLink_RX6_80 rfl hR (m_recv hK hR) rfl ⟨rfl, rfl⟩ ⟨Nat.le_of_ble_eq_true rfl, Nat.le_of_ble_eq_true rfl⟩ hl.1 rfl (Nat.le_of_ble_eq_true rfl) dX6_areFlatLike_74 ⟨Nat.zero_le _, Nat.zero_le _⟩) rfl ?_
            have hita := hI.it hsh.1 ha h_29 (by omega)
            have hitb := hI.it hsh.2.1 hb1 (show k < rMn r b by omega) (by omega)
            have h10b := h10 hsh.1 hsh.2.1
            have hva := hita.2.2.1 (by omega)
            have hvb := hitb.2.2.1 (by omega)
            refine px_topl hita.1 ?_
            refine lv_l2i (v := nI (iv (f_at r a k))) hx hb dX6_areFlatLike_77 (lN_i _) ?_
            refine lv_aload_n hx hb dX6_areFlatLike_78 rfl (lv_at hl 2 rfl) ?_
            refine lv_iload_n hx hb dX6_areFlatLike_79 rfl (lv_at hl 4 rfl) ?_
            refine lv_iload hx hb dX6_areFlatLike_80 (lv_at hl 0 rfl) ?_
            refine px_goV (st1 := [.long (f_at r b k), .int (nI (iv (f_at r a k))), .ref (G 0)]) (px_callV F hK (c_X6_at l D cy A G r _ _ _ b k (by omega) (show rS r b + k < 12200 by omega)) kc_X6_at kw_methodLink_RX6_80 rfl hR (m_recv hK hR) rfl ⟨rfl, rfl⟩ ⟨Nat.le_of_ble_eq_true rfl, Nat.le_of_ble_eq_true rfl⟩ hl.1 rfl (Nat.le_of_ble_eq_true rfl) dX6_areFlatLike_82 ⟨Nat.zero_le _, Nat.zero_le _⟩) rfl ?_
            refine px_topl hitb.1 ?_
            refine lv_l2i (v := nI (iv (f_at r b k))) hx hb dX6_areFlatLike_85 (lN_i _) ?_
            refine px_goV (st1 := [.int (b2i (f_thl r (iv (f_at r a k)) (iv (f_at r b k))))]) (px_callV F hK (c_X6_areThingsLike l D cy A G r _ _ _ (iv (f_at r a k)) (iv (f_at r b k)) (by omega) (by omega)) kc_X6_areThingsLike kw_methodLink_RX6_141 rfl hR (m_recv hK hR) rfl ⟨rfl, rfl⟩ ⟨Nat.le_of_ble_eq_true rfl, Nat.le_of_ble_eq_true rfl⟩ hl.1 rfl (Nat.le_of_ble_eq_true rfl) dX6_areFlatLike_86 ⟨Nat.zero_le _, Nat.zero_le _⟩) rfl ?_
            refine lv_istore_n (lv' := [(3, .int (b2i (f_thl r (iv (f_at r a k)) (iv (f_at r b k))))), (4, .int (nI k)), (0, .ref (G 0)), (1, .int (nI a)), (2, .int (nI b))]) hx hb dX6_areFlatLike_89 rfl hl (by decide) rfl (fun ls hl => ?_)
            refine lv_iinc (v := nI (k + 1)) (lv' := [(4, .int (nI (k + 1))), (3, .int (b2i (f_thl r (iv (f_at r a k)) (iv (f_at r b k))))), (0, .ref (G 0)), (1, .int (nI a)), (2, .int (nI b))]) hx hb dX6_areFlatLike_90 hl (k := 1) rfl (by show nI k + 1 = nI (k + 1); exact nI_1 _) (by decide) rfl (fun ls hl => ?_)
            refine lv_goto (tgt := 17) hx hb dX6_areFlatLike_93 (by decide) ?_
            have e_3 : (b2i (f_shaped r a b && f_all (fun k => if rK r a < 8 then decide (f_at r a k = f_at r b k) else f_thl r (iv (f_at r a k)) (iv (f_at r b k))) (k + 1)) : Int32) = b2i (f_thl r (iv (f_at r a k)) (iv (f_at r b k))) := (by exact congrArg b2i (by rw [f_all]; simp only [Bool.and_eq_true] at h_18; rw [h_18.1, h_18.2]; simp [show ¬ rK r a < 8 by omega]))
            exact ih_loop (k + 1) (by omega) _ (by rw [e_3]; exact lv_sub hl [0, 1, 2, 3, 4] rfl)
          · have h_40 : (rK r a) < 8 := nInle (show ¬ nI 8 ≤ nI (rK r a) from h_40) (by omega) (by omega)
            refine lv_aload_n hx hb dX6_areFlatLike_43 rfl (lv_at hl 2 rfl) ?_
            refine lv_iload_n hx hb dX6_areFlatLike_44 rfl (lv_at hl 3 rfl) ?_
            refine lv_iload hx hb dX6_areFlatLike_45 (lv_at hl 0 rfl) ?_
            refine px_goV (st1 := [.long (f_at r a k)]) (px_callV F hK (c_X6_at l D cy A G r _ _ _ a k (by omega) (show rS r a + k < 12200 by omega)) kc_X6_at kw_methodLink_RX6_80 rfl hR (m_recv hK hR) rfl ⟨rfl, rfl⟩ ⟨Nat.le_of_ble_eq_true rfl, Nat.le_of_ble_eq_true rfl⟩ hl.1 rfl (Nat.le_of_ble_eq_true rfl) dX6_areFlatLike_47 ⟨Nat.zero_le _, Nat.zero_le _⟩) rfl ?_
            refine lv_aload_n hx hb dX6_areFlatLike_50 rfl (lv_at hl 2 rfl) ?_
            refine lv_iload_n hx hb dX6_areFlatLike_51 rfl (lv_at hl 4 rfl) ?_
            refine lv_iload hx hb dX6_areFlatLike_52 (lv_at hl 0 rfl) ?_
            refine px_goV (st1 := [.long (f_at r b k), .long (f_at r a k)]) (px_callV F hK (c_X6_at l D cy A G r _ _ _ b k (by omega) (show rS r b + k < 12200 by omega)) kc_X6_at kw_methodLink_RX6_80 rfl hR (m_recv hK hR) rfl ⟨rfl, rfl⟩ ⟨Nat.le_of_ble_eq_true rfl, Nat.le_of_ble_eq_true rfl⟩ hl.1 rfl (Nat.le_of_ble_eq_true rfl) dX6_areFlatLike_54 ⟨Nat.zero_le _, Nat.zero_le _⟩) rfl ?_
            refine W.lcmp hx hb dX6_areFlatLike_57 ?_
            refine x_cmp_ne (tgt := 65) hx hb dX6_areFlatLike_58 (by decide) (fun h_58 => ?_) (fun h_58 => ?_)
            · refine lv_iconst (v := 0) hx hb dX6_areFlatLike_65 (by decide) ?_
              refine lv_goto (tgt := 89) hx hb dX6_areFlatLike_66 (by decide) ?_
              refine lv_istore_n (lv' := [(3, .int 0), (4, .int (nI k)), (0, .ref (G 0)), (1, .int (nI a)), (2, .int (nI b))]) hx hb dX6_areFlatLike_89 rfl hl (by decide) rfl (fun ls hl => ?_)
              refine lv_iinc (v := nI (k + 1)) (lv' := [(4, .int (nI (k + 1))), (3, .int 0), (0, .ref (G 0)), (1, .int (nI a)), (2, .int (nI b))]) hx hb dX6_areFlatLike_90 hl (k := 1) rfl (by show nI k + 1 = nI (k + 1); exact nI_1 _) (by decide) rfl (fun ls hl => ?_)
              refine lv_goto (tgt := 17) hx hb dX6_areFlatLike_93 (by decide) ?_
              have e_3 : (b2i (f_shaped r a b && f_all (fun k => if rK r a < 8 then decide (f_at r a k = f_at r b k) else f_thl r (iv (f_at r a k)) (iv (f_at r b k))) (k + 1)) : Int32) = 0 := (by exact b2i_0 (by rw [f_all]; simp only [Bool.and_eq_true] at h_18; rw [h_18.1, h_18.2]; simp [show rK r a < 8 by omega, h_58]))
              exact ih_loop (k + 1) (by omega) _ (by rw [e_3]; exact lv_sub hl [0, 1, 2, 3, 4] rfl)
            · refine lv_iconst (v := 1) hx hb dX6_areFlatLike_61 (by decide) ?_
              refine lv_goto (tgt := 89) hx hb dX6_areFlatLike_62 (by decide) ?_
              refine lv_istore_n (lv' := [(3, .int 1), (4, .int (nI k)), (0, .ref (G 0)), (1, .int (nI a)), (2, .int (nI b))]) hx hb dX6_areFlatLike_89 rfl hl (by decide) rfl (fun ls hl => ?_)
              refine lv_iinc (v := nI (k + 1)) (lv' := [(4, .int (nI (k + 1))), (3, .int 1), (0, .ref (G 0)), (1, .int (nI a)), (2, .int (nI b))]) hx hb dX6_areFlatLike_90 hl (k := 1) rfl (by show nI k + 1 = nI (k + 1); exact nI_1 _) (by decide) rfl (fun ls hl => ?_)
              refine lv_goto (tgt := 17) hx hb dX6_areFlatLike_93 (by decide) ?_
              have e_3 : (b2i (f_shaped r a b && f_all (fun k => if rK r a < 8 then decide (f_at r a k = f_at r b k) else f_thl r (iv (f_at r a k)) (iv (f_at r b k))) (k + 1)) : Int32) = 1 := (by exact b2i_1 (by rw [f_all]; simp only [Bool.and_eq_true] at h_18; rw [h_18.1, h_18.2]; simp [show rK r a < 8 by omega, h_58]))
              exact ih_loop (k + 1) (by omega) _ (by rw [e_3]; exact lv_sub hl [0, 1, 2, 3, 4] rfl)
    have e_3 : (b2i (f_shaped r a b && f_all (fun k => if rK r a < 8 then decide (f_at r a k = f_at r b k) else f_thl r (iv (f_at r a k)) (iv (f_at r b k))) 0) : Int32) = b2i (f_shaped r a b) := (by simp [f_all])
    exact loop (rMn r a) 0 (by omega) _ (by rw [e_3]; exact lv_sub hl [0, 1, 2, 3, 4] rfl)
  · have h_2 : a = b := nIeq (show nI a = nI b from h_2) (by omega) (by omega)
    refine lv_iconst (v := 1) hx hb dX6_areFlatLike_5 (by decide) ?_
    exact pv_zret F hr hlocks (Or.inr rfl) (by simp [f_fla, h_2, b2i]) dX6_areFlatLike_6
set_option maxHeartbeats 400000 in
set_option maxRecDepth 100000 in
theorem c_X6_areMiddleLike (l : Launch) (D : va_G) (cy : Nat → ClassId) (A : Nat → Prop) (G : Nat → Nat) (r : RS) (C : Nat → Nat) (E : Nat → Int64) (sz : Nat) (a b : Nat) {kk : Nat} (hI : Inv kk r) (ha : a ≤ rT r) (hb1 : b ≤ rT r) (h13 : a ≠ 0 → b ≠ 0 → rK r a < 13) : Met l yX6_areMiddleLike (px_w yX6_areMiddleLike cX6_areMiddleLike 5 (some .boolean)) (rmd 3 0 0) (px_P D cy [.ref (G 0), .int (nI a), .int (nI b)] sz (MR D cy A G r C E)) (px_V (some (.int (b2i (f_mla r a b))))) 0 0 (fun _ => False) := by
  refine px_met (by decide) (Nat.le_of_ble_eq_true rfl) ?_
  intro p e s m below meth c F hr hlocks hnm hK hsz hR ls hl
  have hx := F.1
  have hb := F.2.1
  have hl : lv_has ls 5 [(0, .ref (G 0)), (1, .int (nI a)), (2, .int (nI b))] := hl
  have hbd := hI.bd
  have ha1 := hI.tb a ha
  have hb2 := hI.tb b hb1
  refine lv_iload_n hx hb dX6_areMiddleLike_0 rfl (lv_at hl 1 rfl) ?_
  refine lv_iload_n hx hb dX6_areMiddleLike_1 rfl (lv_at hl 2 rfl) ?_
  refine lv_icmp_ne (tgt := 7) hx hb dX6_areMiddleLike_2 (by decide) (fun h_2 => ?_) (fun h_2 => ?_)
  · have h_2 : ¬ a = b := nIne (show ¬ nI a = nI b from h_2)
    refine lv_iload_n hx hb dX6_areMiddleLike_7 rfl (lv_at hl 1 rfl) ?_
    refine lv_if_eq (tgt := 26) hx hb dX6_areMiddleLike_8 (by decide) (fun h_8 => ?_) (fun h_8 => ?_)
    · have h_8 : a = 0 := nIeq (show nI a = nI 0 from h_8) (by omega) (by omega)
      refine lv_aload_n hx hb dX6_areMiddleLike_26 rfl (lv_at hl 0 rfl) ?_
      refine lv_iload_n hx hb dX6_areMiddleLike_27 rfl (lv_at hl 1 rfl) ?_
      refine lv_iload_n hx hb dX6_areMiddleLike_28 rfl (lv_at hl 2 rfl) ?_
      refine px_goV (st1 := [.int (b2i (f_fla r a b))]) (px_callV F hK (c_X6_areFlatLike l D cy A G r _ _ _ a b hI (by omega) (by omega) (fun q1 q2 => by omega)) kc_X6_areFlatLike kw_methodLink_RX6_144 rfl hR (m_recv hK hR) rfl ⟨rfl, rfl⟩ ⟨Nat.le_of_ble_eq_true rfl, Nat.le_of_ble_eq_true rfl⟩ hl.1 rfl (Nat.le_of_ble_eq_true rfl) dX6_areMiddleLike_29 ⟨Nat.zero_le _, Nat.zero_le _⟩) rfl ?_
      exact pv_zret F hr hlocks (b2i_01 _) (by rw [show f_mla r a b = f_fla r a b from (by unfold f_mla; rw [decide_eq_false h_2, Bool.false_or, if_pos (by omega)])]) dX6_areMiddleLike_32
    · have h_8 : ¬ a = 0 := nIne (show ¬ nI a = nI 0 from h_8)
      refine lv_iload_n hx hb dX6_areMiddleLike_11 rfl (lv_at hl 2 rfl) ?_
      refine lv_if_eq (tgt := 26) hx hb dX6_areMiddleLike_12 (by decide) (fun h_12 => ?_) (fun h_12 => ?_)
      · have h_12 : b = 0 := nIeq (show nI b = nI 0 from h_12) (by omega) (by omega)
        refine lv_aload_n hx hb dX6_areMiddleLike_26 rfl (lv_at hl 0 rfl) ?_
        refine lv_iload_n hx hb dX6_areMiddleLike_27 rfl (lv_at hl 1 rfl) ?_
        refine lv_iload_n hx hb dX6_areMiddleLike_28 rfl (lv_at hl 2 rfl) ?_
        refine px_goV (st1 := [.int (b2i (f_fla r a b))]) (px_callV F hK (c_X6_areFlatLike l D cy A G r _ _ _ a b hI (by omega) (by omega) (fun q1 q2 => by omega)) kc_X6_areFlatLike kw_methodLink_RX6_144 rfl hR (m_recv hK hR) rfl ⟨rfl, rfl⟩ ⟨Nat.le_of_ble_eq_true rfl, Nat.le_of_ble_eq_true rfl⟩ hl.1 rfl (Nat.le_of_ble_eq_true rfl) dX6_areMiddleLike_29 ⟨Nat.zero_le _, Nat.zero_le _⟩) rfl ?_
        exact pv_zret F hr hlocks (b2i_01 _) (by rw [show f_mla r a b = f_fla r a b from (by unfold f_mla; rw [decide_eq_false h_2, Bool.false_or, if_pos (by omega)])]) dX6_areMiddleLike_32
      · have h_12 : ¬ b = 0 := nIne (show ¬ nI b = nI 0 from h_12)
        refine lv_aload_n hx hb dX6_areMiddleLike_15 rfl (lv_at hl 0 rfl) ?_
        refine m_get F hK hR 1 (by decide) rfl kw_fieldLink_RX6_7 dX6_areMiddleLike_16 ?_
        refine lv_iload_n hx hb dX6_areMiddleLike_19 rfl (lv_at hl 1 rfl) ?_
        refine m_ldK F hK hR a rfl (by omega) dX6_areMiddleLike_20 ?_
        refine lv_bipush (v := 10) hx hb dX6_areMiddleLike_21 (by decide) ?_
        refine lv_icmp_ge (tgt := 33) hx hb dX6_areMiddleLike_23 (by decide) (fun h_23 => ?_) (fun h_23 => ?_)
        · have h_23 : 10 ≤ (rK r a) := nIle (show nI 10 ≤ nI (rK r a) from h_23) (by omega) (by omega)
          refine lv_aload_n hx hb dX6_areMiddleLike_33 rfl (lv_at hl 0 rfl) ?_
          refine lv_iload_n hx hb dX6_areMiddleLike_34 rfl (lv_at hl 1 rfl) ?_
          refine lv_iload_n hx hb dX6_areMiddleLike_35 rfl (lv_at hl 2 rfl) ?_
          refine px_goV (st1 := [.int (b2i (f_shaped r a b))]) (px_callV F hK (c_X6_areShaped l D cy A G r _ _ _ a b (by omega) (by omega) (by omega) (by omega) (by omega) (by omega)) kc_X6_areShaped kw_methodLink_RX6_138 rfl hR (m_recv hK hR) rfl ⟨rfl, rfl⟩ ⟨Nat.le_of_ble_eq_true rfl, Nat.le_of_ble_eq_true rfl⟩ hl.1 rfl (Nat.le_of_ble_eq_true rfl) dX6_areMiddleLike_36 ⟨Nat.zero_le _, Nat.zero_le _⟩) rfl ?_
          refine lv_istore_n (lv' := [(3, .int (b2i (f_shaped r a b))), (0, .ref (G 0)), (1, .int (nI a)), (2, .int (nI b))]) hx hb dX6_areMiddleLike_39 rfl hl (by decide) rfl (fun ls hl => ?_)
          refine lv_iconst (v := 0) hx hb dX6_areMiddleLike_40 (by decide) ?_
          refine lv_istore (lv' := [(4, .int 0), (3, .int (b2i (f_shaped r a b))), (0, .ref (G 0)), (1, .int (nI a)), (2, .int (nI b))]) hx hb dX6_areMiddleLike_41 hl (by decide) rfl (fun ls hl => ?_)
          have loop : ∀ (d k : Nat), k + d = rMn r a → ∀ (ls : Array Slot), lv_has ls 5 [(4, .int (nI k)), (3, .int (b2i (f_shaped r a b && f_all (fun k => f_fla r (iv (f_at r a k)) (iv (f_at r b k))) k))), (0, .ref (G 0)), (1, .int (nI a)), (2, .int (nI b))] → W p l e (rmd 3 0 0) s m ([.ref (G 0), .int (nI a), .int (nI b)] : List Value).toArray below meth c s.heap [] 0 0 (MQ below (px_V (some (.int (b2i (f_mla r a b))))) ([.ref (G 0), .int (nI a), .int (nI b)] : List Value).toArray s 0 0 (fun _ => False)) (F0 m 43 ls []) := by
            intro d
            induction d with
            | zero =>
              intro k hk ls hl
              refine lv_iload_n hx hb dX6_areMiddleLike_43 rfl (lv_at hl 1 rfl) ?_
              refine x_ifeq_b (tgt := 85) hx hb dX6_areMiddleLike_44 (by decide) (fun h_44 => ?_) (fun h_44 => ?_)
              · refine lv_iload_n hx hb dX6_areMiddleLike_85 rfl (lv_at hl 1 rfl) ?_
                have efin : (f_shaped r a b && f_all (fun k => f_fla r (iv (f_at r a k)) (iv (f_at r b k))) k) = (f_shaped r a b && f_all (fun k => f_fla r (iv (f_at r a k)) (iv (f_at r b k))) (rMn r a)) := (by rw [h_44]; cases hq : f_shaped r a b with | false => rfl | true => rw [f_all_le (fun k => f_fla r (iv (f_at r a k)) (iv (f_at r b k))) (k := k) (by rw [hq] at h_44; simpa using h_44) _ (by omega)]; rfl)
                exact pv_zret F hr hlocks (b2i_01 _) (by rw [efin]; rw [show f_mla r a b = _ from (by unfold f_mla; rw [decide_eq_false h_2, Bool.false_or, if_neg (by omega)])]) dX6_areMiddleLike_86
              · have hsh := shaped_t ((Bool.and_eq_true _ _).mp h_44).1
                have h13b := h13 hsh.1 hsh.2.1
                refine lv_iload hx hb dX6_areMiddleLike_47 (lv_at hl 0 rfl) ?_
                refine lv_aload_n hx hb dX6_areMiddleLike_49 rfl (lv_at hl 2 rfl) ?_
                refine m_get F hK hR 2 (by decide) rfl kw_fieldLink_RX6_13 dX6_areMiddleLike_50 ?_
                refine lv_iload_n hx hb dX6_areMiddleLike_53 rfl (lv_at hl 3 rfl) ?_
                refine m_ldMn F hK hR a rfl (by omega) dX6_areMiddleLike_54 ?_
                refine lv_icmp_ge (tgt := 85) hx hb dX6_areMiddleLike_55 (by decide) (fun h_55 => ?_) (fun h_55 => by exfalso; have h_55 : k < (rMn r a) := nInle (show ¬ nI (rMn r a) ≤ nI k from h_55) (by omega) (by omega); omega)
                have h_55 : (rMn r a) ≤ k := nIle (show nI (rMn r a) ≤ nI k from h_55) (by omega) (by omega)
                refine lv_iload_n hx hb dX6_areMiddleLike_85 rfl (lv_at hl 1 rfl) ?_
                have efin : (f_shaped r a b && f_all (fun k => f_fla r (iv (f_at r a k)) (iv (f_at r b k))) k) = (f_shaped r a b && f_all (fun k => f_fla r (iv (f_at r a k)) (iv (f_at r b k))) (rMn r a)) := (by rw [show k = rMn r a by omega])
                exact pv_zret F hr hlocks (b2i_01 _) (by rw [efin]; rw [show f_mla r a b = _ from (by unfold f_mla; rw [decide_eq_false h_2, Bool.false_or, if_neg (by omega)])]) dX6_areMiddleLike_86
            | succ d ih_loop =>
              intro k hk ls hl
              refine lv_iload_n hx hb dX6_areMiddleLike_43 rfl (lv_at hl 1 rfl) ?_
              refine x_ifeq_b (tgt := 85) hx hb dX6_areMiddleLike_44 (by decide) (fun h_44 => ?_) (fun h_44 => ?_)
              · refine lv_iload_n hx hb dX6_areMiddleLike_85 rfl (lv_at hl 1 rfl) ?_
                have efin : (f_shaped r a b && f_all (fun k => f_fla r (iv (f_at r a k)) (iv (f_at r b k))) k) = (f_shaped r a b && f_all (fun k => f_fla r (iv (f_at r a k)) (iv (f_at r b k))) (rMn r a)) := (by rw [h_44]; cases hq : f_shaped r a b with | false => rfl | true => rw [f_all_le (fun k => f_fla r (iv (f_at r a k)) (iv (f_at r b k))) (k := k) (by rw [hq] at h_44; simpa using h_44) _ (by omega)]; rfl)
                exact pv_zret F hr hlocks (b2i_01 _) (by rw [efin]; rw [show f_mla r a b = _ from (by unfold f_mla; rw [decide_eq_false h_2, Bool.false_or, if_neg (by omega)])]) dX6_areMiddleLike_86
              · have hsh := shaped_t ((Bool.and_eq_true _ _).mp h_44).1
                have h13b := h13 hsh.1 hsh.2.1
                refine lv_iload hx hb dX6_areMiddleLike_47 (lv_at hl 0 rfl) ?_
                refine lv_aload_n hx hb dX6_areMiddleLike_49 rfl (lv_at hl 2 rfl) ?_
                refine m_get F hK hR 2 (by decide) rfl kw_fieldLink_RX6_13 dX6_areMiddleLike_50 ?_
                refine lv_iload_n hx hb dX6_areMiddleLike_53 rfl (lv_at hl 3 rfl) ?_
                refine m_ldMn F hK hR a rfl (by omega) dX6_areMiddleLike_54 ?_
                refine lv_icmp_ge (tgt := 85) hx hb dX6_areMiddleLike_55 (by decide) (fun h_55 => by exfalso; have h_55 : (rMn r a) ≤ k := nIle (show nI (rMn r a) ≤ nI k from h_55) (by omega) (by omega); omega) (fun h_55 => ?_)
                have h_55 : k < (rMn r a) := nInle (show ¬ nI (rMn r a) ≤ nI k from h_55) (by omega) (by omega)
                refine lv_aload_n hx hb dX6_areMiddleLike_58 rfl (lv_at hl 2 rfl) ?_
                refine lv_aload_n hx hb dX6_areMiddleLike_59 rfl (lv_at hl 2 rfl) ?_
                refine lv_iload_n hx hb dX6_areMiddleLike_60 rfl (lv_at hl 3 rfl) ?_
                refine lv_iload hx hb dX6_areMiddleLike_61 (lv_at hl 0 rfl) ?_
                refine px_goV (st1 := [.long (f_at r a k), .ref (G 0)]) (px_callV F hK (c_X6_at l D cy A G r _ _ _ a k (by omega) (show rS r a + k < 12200 by omega)) kc_X6_at kw_methodLink_RX6_80 rfl hR (m_recv hK hR) rfl ⟨rfl, rfl⟩ ⟨Nat.le_of_ble_eq_true rfl, Nat.le_of_ble_eq_true rfl⟩ hl.1 rfl (Nat.le_of_ble_eq_true rfl) dX6_areMiddleLike_63 ⟨Nat.zero_le _, Nat.zero_le _⟩) rfl ?_
                have hita := hI.it hsh.1 ha h_55 (by omega)
                have hitb := hI.it hsh.2.1 hb1 (show k < rMn r b by omega) (by omega)
                have hra := hita.2.2.2.2 (by omega)
                have hrb := hitb.2.2.2.2 (by omega)
                refine px_topl hita.1 ?_
                refine lv_l2i (v := nI (iv (f_at r a k))) hx hb dX6_areMiddleLike_66 (lN_i _) ?_
                refine lv_aload_n hx hb dX6_areMiddleLike_67 rfl (lv_at hl 2 rfl) ?_
                refine lv_iload_n hx hb dX6_areMiddleLike_68 rfl (lv_at hl 4 rfl) ?_
                refine lv_iload hx hb dX6_areMiddleLike_69 (lv_at hl 0 rfl) ?_
                refine px_goV (st1 := [.long (f_at r b k), .int (nI (iv (f_at r a k))), .ref (G 0)]) (px_callV F hK (c_X6_at l D cy A G r _ _ _ b k (by omega) (show rS r b + k < 12200 by omega)) kc_X6_at kw_methodLink_RX6_80 rfl hR (m_recv hK hR) rfl ⟨rfl, rfl⟩ ⟨Nat.le_of_ble_eq_true rfl, Nat.le_of_ble_eq_true rfl⟩ hl.1 rfl (Nat.le_of_ble_eq_true rfl) dX6_areMiddleLike_71 ⟨Nat.zero_le _, Nat.zero_le _⟩) rfl ?_
                refine px_topl hitb.1 ?_
                refine lv_l2i (v := nI (iv (f_at r b k))) hx hb dX6_areMiddleLike_74 (lN_i _) ?_
                refine px_goV (st1 := [.int (b2i (f_fla r (iv (f_at r a k)) (iv (f_at r b k))))]) (px_callV F hK (c_X6_areFlatLike l D cy A G r _ _ _ (iv (f_at r a k)) (iv (f_at r b k)) hI hra.1 hrb.1 (fun q1 _ => by have q3 := isOf_k (hra.2 q1) q1; have q4 := rkN_lt (show rK r a < 13 by omega) (show 10 ≤ rK r a by omega); omega)) kc_X6_areFlatLike kw_methodLink_RX6_144 rfl hR (m_recv hK hR) rfl ⟨rfl, rfl⟩ ⟨Nat.le_of_ble_eq_true rfl, Nat.le_of_ble_eq_true rfl⟩ hl.1 rfl (Nat.le_of_ble_eq_true rfl) dX6_areMiddleLike_75 ⟨Nat.zero_le _, Nat.zero_le _⟩) rfl ?_
                refine lv_istore_n (lv' := [(3, .int (b2i (f_fla r (iv (f_at r a k)) (iv (f_at r b k))))), (4, .int (nI k)), (0, .ref (G 0)), (1, .int (nI a)), (2, .int (nI b))]) hx hb dX6_areMiddleLike_78 rfl hl (by decide) rfl (fun ls hl => ?_)
                refine lv_iinc (v := nI (k + 1)) (lv' := [(4, .int (nI (k + 1))), (3, .int (b2i (f_fla r (iv (f_at r a k)) (iv (f_at r b k))))), (0, .ref (G 0)), (1, .int (nI a)), (2, .int (nI b))]) hx hb dX6_areMiddleLike_79 hl (k := 1) rfl (by show nI k + 1 = nI (k + 1); exact nI_1 _) (by decide) rfl (fun ls hl => ?_)
                refine lv_goto (tgt := 43) hx hb dX6_areMiddleLike_82 (by decide) ?_
                have e_3 : (b2i (f_shaped r a b && f_all (fun k => f_fla r (iv (f_at r a k)) (iv (f_at r b k))) (k + 1)) : Int32) = b2i (f_fla r (iv (f_at r a k)) (iv (f_at r b k))) := (by exact congrArg b2i (by rw [f_all]; simp only [Bool.and_eq_true] at h_44; rw [h_44.1, h_44.2]; rfl))
                exact ih_loop (k + 1) (by omega) _ (by rw [e_3]; exact lv_sub hl [0, 1, 2, 3, 4] rfl)
          have e_3 : (b2i (f_shaped r a b && f_all (fun k => f_fla r (iv (f_at r a k)) (iv (f_at r b k))) 0) : Int32) = b2i (f_shaped r a b) := (by simp [f_all])
          exact loop (rMn r a) 0 (by omega) _ (by rw [e_3]; exact lv_sub hl [0, 1, 2, 3, 4] rfl)
        · have h_23 : (rK r a) < 10 := nInle (show ¬ nI 10 ≤ nI (rK r a) from h_23) (by omega) (by omega)
          refine lv_aload_n hx hb dX6_areMiddleLike_26 rfl (lv_at hl 0 rfl) ?_
          refine lv_iload_n hx hb dX6_areMiddleLike_27 rfl (lv_at hl 1 rfl) ?_
          refine lv_iload_n hx hb dX6_areMiddleLike_28 rfl (lv_at hl 2 rfl) ?_
          refine px_goV (st1 := [.int (b2i (f_fla r a b))]) (px_callV F hK (c_X6_areFlatLike l D cy A G r _ _ _ a b hI (by omega) (by omega) (fun q1 q2 => by omega)) kc_X6_areFlatLike kw_methodLink_RX6_144 rfl hR (m_recv hK hR) rfl ⟨rfl, rfl⟩ ⟨Nat.le_of_ble_eq_true rfl, Nat.le_of_ble_eq_true rfl⟩ hl.1 rfl (Nat.le_of_ble_eq_true rfl) dX6_areMiddleLike_29 ⟨Nat.zero_le _, Nat.zero_le _⟩) rfl ?_
          exact pv_zret F hr hlocks (b2i_01 _) (by rw [show f_mla r a b = f_fla r a b from (by unfold f_mla; rw [decide_eq_false h_2, Bool.false_or, if_pos (by omega)])]) dX6_areMiddleLike_32
  · have h_2 : a = b := nIeq (show nI a = nI b from h_2) (by omega) (by omega)
    refine lv_iconst (v := 1) hx hb dX6_areMiddleLike_5 (by decide) ?_
    exact pv_zret F hr hlocks (Or.inr rfl) (by simp [f_mla, h_2, b2i]) dX6_areMiddleLike_6
