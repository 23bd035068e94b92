/-! the class: transfer -/
set_option maxHeartbeats 400000 in
set_option maxRecDepth 100000 in
theorem c_X5_transfer (l : Launch) (D : va_G) (cy : Nat → ClassId) (A : Nat → Prop) (r : RS) (g : CG) (sz : Nat)  (a b : Nat) (i j n : Int32)  (h0_a : a ≠ 0) (ht_a : a ≤ rT r) (h0_b : b ≠ 0) (ht_b : b ≤ rT r) (hkk : rK r a < 8 ↔ rK r b < 8) (hV : VR r) (hkb : ∀ w, rK r w < 100) (hM0 : rMn r 0 ≤ 30) (hTb : rT r < 100000) (hMb : rM r < 100000) (hSt : a = b → ∀ q, q < rMn r a → f_canStand r a (f_at r a q) a = true) : Met l yX5_transfer (px_w yX5_transfer cX5_transfer 7 (some .int)) (rmd 6 0 0) (px_P D cy [.ref (gA g (3 * a)), .int i, .ref (gA g (3 * b)), .int j, .int n] sz (CR D cy A r g)) (px_Q (px_Cx D cy A g (some (.int (f_tr r a b i j n).2)) ((f_tr r a b i j n).1)) A) 0 0 A := by
  refine px_met (by decide) (Nat.le_of_ble_eq_true rfl) ?_
  intro p e s m below meth c F hr hlocks hnm hK hsz hR ls hl
  have hx := F.1
  have hb := F.2.1
  have hS : va_S A s.heap s.heap [] := va_S.rf
  have hva := hV.2.1 a h0_a ht_a
  have hvb := hV.2.1 b h0_b ht_b
  have hma := hva.2.1
  have hmb := hvb.2.1
  have hl : lv_has ls 7 [(0, .ref (gA g (3 * a))), (1, .int i), (2, .ref (gA g (3 * b))), (3, .int j), (4, .int n)] := hl
  refine lv_aload_n hx hb dX5_transfer_0 rfl (lv_at hl 0 rfl) ?_
  refine lv_iload_n hx hb dX5_transfer_1 rfl (lv_at hl 1 rfl) ?_
  refine lv_iload hx hb dX5_transfer_2 (lv_at hl 4 rfl) ?_
  refine px_goV (st1 := [.int (b2i (f_str r a i n))]) (px_callS F hK (c_X5_hasStretch l D cy A r g _ a i n (by omega) (by omega)) kc_X5_hasStretch kw_methodLink_RX5_200 rfl hR rfl ⟨rfl, rfl⟩ ⟨Nat.le_of_ble_eq_true rfl, Nat.le_of_ble_eq_true rfl⟩ hl.1 rfl (Nat.le_of_ble_eq_true rfl) dX5_transfer_4 ⟨Nat.zero_le _, Nat.zero_le _⟩) rfl ?_
  refine x_ifeq_b (tgt := 20) hx hb dX5_transfer_7 (by decide) (fun h_7 => ?_) (fun h_7 => ?_)
  · refine lv_iconst (v := 3) hx hb dX5_transfer_20 (by decide) ?_
    refine px_goV (st1 := [.int (-13)]) (px_callS F hK (c_X5_against l D cy _ 3) kc_X5_against kw_methodLink_RX5_34 rfl trivial rfl ⟨rfl, rfl⟩ ⟨Nat.le_of_ble_eq_true rfl, Nat.le_of_ble_eq_true rfl⟩ hl.1 rfl (Nat.le_of_ble_eq_true rfl) dX5_transfer_21 ⟨Nat.zero_le _, Nat.zero_le _⟩) rfl ?_
    exact px_iret F hr hlocks hS (by have e : f_tr r a b i j n = (r, -13) := (tr_out (by rw [str_cpo hma hmb, h_7]; simp)); rw [e]; exact ⟨rfl, hR⟩) dX5_transfer_24
  · refine lv_aload_n hx hb dX5_transfer_10 rfl (lv_at hl 2 rfl) ?_
    refine lv_iload_n hx hb dX5_transfer_11 rfl (lv_at hl 3 rfl) ?_
    refine lv_iload hx hb dX5_transfer_12 (lv_at hl 4 rfl) ?_
    refine px_goV (st1 := [.int (b2i (f_str r b j n))]) (px_callS F hK (c_X5_hasStretch l D cy A r g _ b j n (by omega) (by omega)) kc_X5_hasStretch kw_methodLink_RX5_200 rfl hR rfl ⟨rfl, rfl⟩ ⟨Nat.le_of_ble_eq_true rfl, Nat.le_of_ble_eq_true rfl⟩ hl.1 rfl (Nat.le_of_ble_eq_true rfl) dX5_transfer_14 ⟨Nat.zero_le _, Nat.zero_le _⟩) rfl ?_
    refine x_ifne_b (tgt := 25) hx hb dX5_transfer_17 (by decide) (fun h_17 => ?_) (fun h_17 => ?_)
    · obtain ⟨x, z, rfl, rfl, hxz⟩ := str_nat hma h_7
      obtain ⟨y, z2, rfl, e9, hyz⟩ := str_nat hmb h_17
      have hz2 := nIeq e9 (by omega) (by omega)
      subst hz2
      have hcp : f_cpo r a b (nI x) (nI y) (nI z) = false := (by rw [str_cpo hma hmb, h_7, h_17]; rfl)
      have etr := tr_in hma hmb hcp (by omega) (by omega) (by omega)
      refine lv_aload_n hx hb dX5_transfer_25 rfl (lv_at hl 0 rfl) ?_
      refine c_iP F hK hR (t := a) (by omega) (show a ≤ rT r by omega) kw_classLink_RX5_125 dX5_transfer_26 ?_
      refine x_ifeq_b (tgt := 71) hx hb dX5_transfer_29 (by decide) (fun h_29 => ?_) (fun h_29 => ?_)
      · have h_29 : ¬ (rK r a < 8) := of_decide_eq_false h_29
        refine lv_aload_n hx hb dX5_transfer_71 rfl (lv_at hl 0 rfl) ?_
        refine lv_iload_n hx hb dX5_transfer_72 rfl (lv_at hl 1 rfl) ?_
        refine lv_aload_n hx hb dX5_transfer_73 rfl (lv_at hl 2 rfl) ?_
        refine lv_iload_n hx hb dX5_transfer_74 rfl (lv_at hl 3 rfl) ?_
        refine lv_iload hx hb dX5_transfer_75 (lv_at hl 4 rfl) ?_
        refine px_goCx (st1 := [.int ((f_come r a b y z (fun q => f_at r a (x + q))).2)]) (px_callS F hK (c_X5_transferItems l D cy A r g _ a x b y z h0_a ht_a h0_b ht_b (by omega) (by omega) hxz hyz hV hkb hM0 hTb hMb hSt) kc_X5_transferItems kw_methodLink_RX5_210 rfl hR rfl ⟨rfl, rfl⟩ ⟨Nat.le_of_ble_eq_true rfl, Nat.le_of_ble_eq_true rfl⟩ hl.1 rfl (Nat.le_of_ble_eq_true rfl) dX5_transfer_77 ⟨Nat.zero_le _, Nat.zero_le _⟩) hS rfl (fun H locs hR hS => ?_)
        exact px_iret F hr hlocks hS (by rw [etr]; exact ⟨rfl, hR⟩) dX5_transfer_80
      · have h_29 : rK r a < 8 := of_decide_eq_true h_29
        refine lv_aload_n hx hb dX5_transfer_32 rfl (lv_at hl 0 rfl) ?_
        refine c_cP F hK hR (t := a) (by omega) (show a ≤ rT r by omega) (show rK r a < 8 by omega) kw_classLink_RX5_125 dX5_transfer_33 ?_
        refine lv_astore (lv' := [(5, .ref (gA g (3 * a))), (0, .ref (gA g (3 * a))), (1, .int (nI x)), (2, .ref (gA g (3 * b))), (3, .int (nI y)), (4, .int (nI z))]) hx hb dX5_transfer_36 hl (by decide) rfl (fun ls hl => ?_)
        refine lv_aload_n hx hb dX5_transfer_38 rfl (lv_at hl 3 rfl) ?_
        refine c_iP F hK hR (t := b) (by omega) (show b ≤ rT r by omega) kw_classLink_RX5_125 dX5_transfer_39 ?_
        refine x_ifeq_b (tgt := 71) hx hb dX5_transfer_42 (by decide) (fun h_42 => by exfalso; have h_42 : ¬ (rK r b < 8) := of_decide_eq_false h_42; omega) (fun h_42 => ?_)
        have h_42 : rK r b < 8 := of_decide_eq_true h_42
        refine lv_aload_n hx hb dX5_transfer_45 rfl (lv_at hl 3 rfl) ?_
        refine c_cP F hK hR (t := b) (by omega) (show b ≤ rT r by omega) (show rK r b < 8 by omega) kw_classLink_RX5_125 dX5_transfer_46 ?_
        refine lv_astore (lv' := [(6, .ref (gA g (3 * b))), (5, .ref (gA g (3 * a))), (0, .ref (gA g (3 * a))), (1, .int (nI x)), (2, .ref (gA g (3 * b))), (3, .int (nI y)), (4, .int (nI z))]) hx hb dX5_transfer_49 hl (by decide) rfl (fun ls hl => ?_)
        refine lv_aload hx hb dX5_transfer_51 (lv_at hl 1 rfl) ?_
        refine c_gbits F hK hR (t := a) (by omega) (show a ≤ rT r by omega) (show rK r a < 8 by omega) kw_fieldLink_RX5_183 dX5_transfer_53 ?_
        refine lv_iload_n hx hb dX5_transfer_56 rfl (lv_at hl 3 rfl) ?_
        refine lv_aload hx hb dX5_transfer_57 (lv_at hl 0 rfl) ?_
        refine c_gbits F hK hR (t := b) (by omega) (show b ≤ rT r by omega) (show rK r b < 8 by omega) kw_fieldLink_RX5_183 dX5_transfer_59 ?_
        refine lv_iload_n hx hb dX5_transfer_62 rfl (lv_at hl 5 rfl) ?_
        refine lv_iload hx hb dX5_transfer_63 (lv_at hl 6 rfl) ?_
        refine c_copy F hK hR hS hV.1 h0_a ht_a h0_b ht_b (by omega) (by omega) hxz hyz hma hmb hl.1 (Nat.le_of_ble_eq_true rfl) (Nat.le_of_ble_eq_true rfl) dX5_transfer_65 (fun H locs hR hS => ?_)
        refine lv_iload hx hb dX5_transfer_68 (lv_at hl 6 rfl) ?_
        exact px_iret F hr hlocks hS (by have e : f_tr r a b (nI x) (nI y) (nI z) = (sI r (mvF (rI r) (rS r b + y) (fun q => f_at r a (x + q)) z), nI z) := (by rw [etr]; exact tr_plain (by omega)); rw [e]; exact ⟨rfl, hR⟩) dX5_transfer_70
    · refine lv_iconst (v := 3) hx hb dX5_transfer_20 (by decide) ?_
      refine px_goV (st1 := [.int (-13)]) (px_callS F hK (c_X5_against l D cy _ 3) kc_X5_against kw_methodLink_RX5_34 rfl trivial rfl ⟨rfl, rfl⟩ ⟨Nat.le_of_ble_eq_true rfl, Nat.le_of_ble_eq_true rfl⟩ hl.1 rfl (Nat.le_of_ble_eq_true rfl) dX5_transfer_21 ⟨Nat.zero_le _, Nat.zero_le _⟩) rfl ?_
      exact px_iret F hr hlocks hS (by have e : f_tr r a b i j n = (r, -13) := (tr_out (by rw [str_cpo hma hmb, h_7, h_17]; simp)); rw [e]; exact ⟨rfl, hR⟩) dX5_transfer_24
