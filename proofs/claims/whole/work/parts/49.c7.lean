/-! the class: transferItems, transfer -/
set_option maxHeartbeats 400000 in
set_option maxRecDepth 100000 in
theorem c_X5_transferItems (l : Launch) (D : va_G) (cy : Nat → ClassId) (A : Nat → Prop) (r : RS) (g : CG) (sz : Nat)  (a i b j n : Nat)  (h0_a : a ≠ 0) (ht_a : a ≤ rT r) (h0_b : b ≠ 0) (ht_b : b ≤ rT r) (ha8 : 8 ≤ rK r a) (hb8 : 8 ≤ rK r b) (hin : i + n ≤ rMn r a) (hjn : j + n ≤ rMn r b) (hV : VR r) (hkb : ∀ w, rK r w < 100) (hM0 : rMn r 0 ≤ 30) (hTb : rT r < 100000) (hMb : rM r < 100000) (hSt : a = b → ∀ q, q < rMn r a → f_canStand r a (f_at r a q) a = true) : Met l yX5_transferItems (px_w yX5_transferItems cX5_transferItems 9 (some .int)) (rmd 5 0 0) (px_P D cy [.ref (gA g (3 * a)), .int (nI i), .ref (gA g (3 * b)), .int (nI j), .int (nI n)] sz (CR D cy A r g)) (px_Q (px_Cx D cy A g (some (.int (f_come r a b j n (fun q => f_at r a (i + q))).2)) ((f_come r a b j n (fun q => f_at r a (i + q))).1)) A) 0 0 A := by
  refine px_met (by decide) (Nat.le_of_ble_eq_true rfl) ?_
  intro p e s m below meth c F hr hlocks hnm hK hsz hR ls hl
  have hx := F.1
  have hb := F.2.1
  have hS : va_S A s.heap s.heap [] := va_S.rf
  have hva := hV.2.1 a h0_a ht_a
  have hvb := hV.2.1 b h0_b ht_b
  have hma := hva.2.1
  have hmb := hvb.2.1
  have hka := hva.1
  have hkb9 := hvb.1
  have hSIk : ∀ I, SI (sI r I) := fun _ => hV.1
  have hl : lv_has ls 9 [(0, .ref (gA g (3 * a))), (1, .int (nI i)), (2, .ref (gA g (3 * b))), (3, .int (nI j)), (4, .int (nI n))] := hl
  refine lv_aload_n hx hb dX5_transferItems_0 rfl (lv_at hl 0 rfl) ?_
  refine lv_aload_n hx hb dX5_transferItems_1 rfl (lv_at hl 2 rfl) ?_
  refine lv_acmp_ne (rx := some (gA g (3 * a))) (ry := some (gA g (3 * b))) (tgt := 14) hx hb dX5_transferItems_2 (by decide) (fun h_2 => ?_) (fun h_2 => ?_)
  · have h_2 : ¬ a = b := (fun q9 => h_2 (by rw [q9]))
    refine lv_iconst (v := 0) hx hb dX5_transferItems_14 (by decide) ?_
    refine lv_istore (lv' := [(5, .int 0), (0, .ref (gA g (3 * a))), (1, .int (nI i)), (2, .ref (gA g (3 * b))), (3, .int (nI j)), (4, .int (nI n))]) hx hb dX5_transferItems_15 hl (by decide) rfl (fun ls hl => ?_)
    refine lv_iconst (v := 0) hx hb dX5_transferItems_17 (by decide) ?_
    refine lv_istore (lv' := [(6, .int 0), (5, .int 0), (0, .ref (gA g (3 * a))), (1, .int (nI i)), (2, .ref (gA g (3 * b))), (3, .int (nI j)), (4, .int (nI n))]) hx hb dX5_transferItems_18 hl (by decide) rfl (fun ls hl => ?_)
    have loop : ∀ (d k : Nat), k + d = n → comI (fun x => f_canStand r a x b) (rS r b + j) n (fun q => f_at r a (i + q)) d (mvF (rI r) (rS r b + j) (fun q => f_at r a (i + q)) k) = comI (fun x => f_canStand r a x b) (rS r b + j) n (fun q => f_at r a (i + q)) n (rI r) → ∀ (H : Heap) (locs : List Loc) (ls : Array Slot), CR D cy A (sI r (mvF (rI r) (rS r b + j) (fun q => f_at r a (i + q)) k)) g H → va_S A s.heap H locs → lv_has ls 9 [(6, .int (nI k)), (5, .int 0), (0, .ref (gA g (3 * a))), (1, .int (nI i)), (2, .ref (gA g (3 * b))), (3, .int (nI j)), (4, .int (nI n))] → W p l e (rmd 5 0 0) s m ([.ref (gA g (3 * a)), .int (nI i), .ref (gA g (3 * b)), .int (nI j), .int (nI n)] : List Value).toArray below meth c H locs (0) (0) (MQ below (px_Q (px_Cx D cy A g (some (.int (f_come r a b j n (fun q => f_at r a (i + q))).2)) ((f_come r a b j n (fun q => f_at r a (i + q))).1)) A) ([.ref (gA g (3 * a)), .int (nI i), .ref (gA g (3 * b)), .int (nI j), .int (nI n)] : List Value).toArray s (0) (0) A) (F0 m 20 ls []) := by
      intro d
      induction d with
      | zero =>
        intro k hk hcom H locs ls hR hS hl
        refine lv_iload hx hb dX5_transferItems_20 (lv_at hl 0 rfl) ?_
        refine lv_iload hx hb dX5_transferItems_22 (lv_at hl 6 rfl) ?_
        refine lv_icmp_ge (tgt := 79) hx hb dX5_transferItems_24 (by decide) (fun h_24 => ?_) (fun h_24 => by exfalso; have h_24 : k < n := nInle (show ¬ nI n ≤ nI k from h_24) (by omega) (by omega); omega)
        have h_24 : n ≤ k := nIle (show nI n ≤ nI k from h_24) (by omega) (by omega)
        refine lv_iload hx hb dX5_transferItems_79 (lv_at hl 6 rfl) ?_
        exact px_iret F hr hlocks hS (by have e : f_come r a b j n (fun q => f_at r a (i + q)) = (sI r (mvF (rI r) (rS r b + j) (fun q => f_at r a (i + q)) k), nI n) := (by have hkn : k = n := (by omega); unfold f_come; rw [← hcom]; rfl); rw [e]; exact ⟨rfl, hR⟩) dX5_transferItems_81
      | succ d ih_loop =>
        intro k hk hcom H locs ls hR hS hl
        refine lv_iload hx hb dX5_transferItems_20 (lv_at hl 0 rfl) ?_
        refine lv_iload hx hb dX5_transferItems_22 (lv_at hl 6 rfl) ?_
        refine lv_icmp_ge (tgt := 79) hx hb dX5_transferItems_24 (by decide) (fun h_24 => by exfalso; have h_24 : n ≤ k := nIle (show nI n ≤ nI k from h_24) (by omega) (by omega); omega) (fun h_24 => ?_)
        have h_24 : k < n := nInle (show ¬ nI n ≤ nI k from h_24) (by omega) (by omega)
        refine lv_iload hx hb dX5_transferItems_27 (lv_at hl 1 rfl) ?_
        refine lv_if_eq (tgt := 42) hx hb dX5_transferItems_29 (by decide) (fun _ => ?_) (fun h => absurd h (by decide))
        refine lv_iload hx hb dX5_transferItems_42 (lv_at hl 0 rfl) ?_
        refine lv_istore (lv' := [(7, .int (nI k)), (6, .int (nI k)), (5, .int 0), (0, .ref (gA g (3 * a))), (1, .int (nI i)), (2, .ref (gA g (3 * b))), (3, .int (nI j)), (4, .int (nI n))]) hx hb dX5_transferItems_44 hl (by decide) rfl (fun ls hl => ?_)
        refine lv_aload_n hx hb dX5_transferItems_46 rfl (lv_at hl 5 rfl) ?_
        refine lv_iload_n hx hb dX5_transferItems_47 rfl (lv_at hl 6 rfl) ?_
        refine lv_iload hx hb dX5_transferItems_48 (lv_at hl 0 rfl) ?_
        refine lv_iadd hx hb dX5_transferItems_50 ?_
        refine px_topi (y := nI (j + k)) (nI_add _ _) ?_
        refine lv_aload_n hx hb dX5_transferItems_51 rfl (lv_at hl 3 rfl) ?_
        refine lv_iload_n hx hb dX5_transferItems_52 rfl (lv_at hl 4 rfl) ?_
        refine lv_iload hx hb dX5_transferItems_53 (lv_at hl 0 rfl) ?_
        refine lv_iadd hx hb dX5_transferItems_55 ?_
        refine px_topi (y := nI (i + k)) (nI_add _ _) ?_
        refine px_goV (st1 := [va_rf (c_item (gA g) (sI r (mvF (rI r) (rS r b + j) (fun q => f_at r a (i + q)) k)) a (nI (i + k))), .int (nI (j + k)), .ref (gA g (3 * b))]) (px_callS F hK (c_X5_itemAt l D cy A (sI r (mvF (rI r) (rS r b + j) (fun q => f_at r a (i + q)) k)) g _ a (.ref (gA g (3 * a))) (nI (i + k)) (col_t (by omega)) (by omega) (by omega)) kc_X5_itemAt kw_methodLink_RX5_95 rfl hR rfl ⟨rfl, rfl⟩ ⟨Nat.le_of_ble_eq_true rfl, Nat.le_of_ble_eq_true rfl⟩ hl.1 rfl (Nat.le_of_ble_eq_true rfl) dX5_transferItems_56 ⟨Nat.zero_le _, Nat.zero_le _⟩) rfl ?_
        have hat : f_at (sI r (mvF (rI r) (rS r b + j) (fun q => f_at r a (i + q)) k)) a (i + k) = f_at r a (i + k) := at_mvF hV.1 h0_a ht_a h0_b ht_b (n := n) hjn (by omega) (by omega) (by omega)
        have hiv := (hV.2.1 a h0_a ht_a).2.2 (i + k) (by omega) ha8
        rcases c_item_4 (r := (sI r (mvF (rI r) (rS r b + j) (fun q => f_at r a (i + q)) k))) (t := a) (j := i + k) (gA g) h0_a ha8 (show rMn r a ≤ 30 by omega) (show i + k < rMn r a by omega) hat hiv.1 hiv.2.1 hiv.2.2 with ⟨hv9, hq9⟩ | ⟨w, hv9, hw1, hw2, hk9, hq9⟩ | ⟨w, hv9, hw1, hw2, hk9, hq9⟩
        · refine px_topv (y := .null) (by rw [hq9]; rfl) ?_
          have e9 := place_eq (r := (sI r (mvF (rI r) (rS r b + j) (fun q => f_at r a (i + q)) k))) (a := a) (b := b) (j := j + k) (ty := 0) (w := 0) (v := f_at r a (i + k)) h0_b (show rMn r b ≤ 30 by omega) (show j + k < rMn r b by omega) hb8 (show rK r b ≤ 13 by omega) (show 0 < 2 ^ 31 by omega) (hkb 0) (Or.inl ⟨rfl, hv9⟩)
          by_cases hcan : f_canStand r a (f_at r a (i + k)) b = true
          · rw [show (if f_canStand (sI r (mvF (rI r) (rS r b + j) (fun q => f_at r a (i + q)) k)) a (f_at r a (i + k)) b then (f_put (sI r (mvF (rI r) (rS r b + j) (fun q => f_at r a (i + q)) k)) b (j + k) (f_at r a (i + k)), 1) else ((sI r (mvF (rI r) (rS r b + j) (fun q => f_at r a (i + q)) k)), -15)) = ((f_put (sI r (mvF (rI r) (rS r b + j) (fun q => f_at r a (i + q)) k)) b (j + k) (f_at r a (i + k)), 1) : RS × Int32) from if_pos hcan] at e9
            have h9 := c_X5_place l D cy A (sI r (mvF (rI r) (rS r b + j) (fun q => f_at r a (i + q)) k)) g H.size b (.ref (gA g (3 * b))) 0 0 .null (nI (j + k)) (col_t (by omega)) ht_b rfl (Or.inl rfl) (show rMn r b ≤ 30 by omega) hM0 hV.1 (hkb b) (hkb 0) (by omega)
            rw [e9] at h9
            refine px_goCx (st1 := [.int 1]) (px_callS F hK (h9) kc_X5_place kw_methodLink_RX5_87 rfl hR rfl ⟨rfl, rfl⟩ ⟨Nat.le_of_ble_eq_true rfl, Nat.le_of_ble_eq_true rfl⟩ hl.1 rfl (Nat.le_of_ble_eq_true rfl) dX5_transferItems_59 ⟨Nat.zero_le _, Nat.zero_le _⟩) hS rfl (fun H locs hR hS => ?_)
            refine lv_istore (lv' := [(8, .int 1), (7, .int (nI k)), (6, .int (nI k)), (5, .int 0), (0, .ref (gA g (3 * a))), (1, .int (nI i)), (2, .ref (gA g (3 * b))), (3, .int (nI j)), (4, .int (nI n))]) hx hb dX5_transferItems_62 hl (by decide) rfl (fun ls hl => ?_)
            refine lv_iload hx hb dX5_transferItems_64 (lv_at hl 0 rfl) ?_
            refine lv_iconst (v := 1) hx hb dX5_transferItems_66 (by decide) ?_
            refine lv_icmp_eq (tgt := 73) hx hb dX5_transferItems_67 (by decide) (fun _ => ?_) (fun h => absurd h (by decide))
            refine lv_iinc (v := nI (k + 1)) (lv' := [(6, .int (nI (k + 1))), (8, .int 1), (7, .int (nI k)), (5, .int 0), (0, .ref (gA g (3 * a))), (1, .int (nI i)), (2, .ref (gA g (3 * b))), (3, .int (nI j)), (4, .int (nI n))]) hx hb dX5_transferItems_73 hl (k := 2) rfl (by show nI k + 1 = nI (k + 1); exact nI_1 _) (by decide) rfl (fun ls hl => ?_)
            refine lv_goto (tgt := 20) hx hb dX5_transferItems_76 (by decide) ?_
            exact ih_loop (k + 1) (by omega) ((comI_yes hk hcan).symm.trans hcom) _ _ _ (by rw [show mvF (rI r) (rS r b + j) (fun q => f_at r a (i + q)) (k + 1) = va_up (mvF (rI r) (rS r b + j) (fun q => f_at r a (i + q)) k) (rS r b + (j + k)) (f_at r a (i + k)) from (by rw [← Nat.add_assoc]; rfl)]; exact hR) hS (lv_sub hl [0, 3, 4, 5, 6, 7, 8] rfl)
          · have hcan : f_canStand r a (f_at r a (i + k)) b = false := Bool.eq_false_iff.mpr hcan
            rw [show (if f_canStand (sI r (mvF (rI r) (rS r b + j) (fun q => f_at r a (i + q)) k)) a (f_at r a (i + k)) b then (f_put (sI r (mvF (rI r) (rS r b + j) (fun q => f_at r a (i + q)) k)) b (j + k) (f_at r a (i + k)), 1) else ((sI r (mvF (rI r) (rS r b + j) (fun q => f_at r a (i + q)) k)), -15)) = (((sI r (mvF (rI r) (rS r b + j) (fun q => f_at r a (i + q)) k)), -15) : RS × Int32) from if_neg (by show ¬ f_canStand r a (f_at r a (i + k)) b = true; rw [hcan]; decide)] at e9
            have h9 := c_X5_place l D cy A (sI r (mvF (rI r) (rS r b + j) (fun q => f_at r a (i + q)) k)) g H.size b (.ref (gA g (3 * b))) 0 0 .null (nI (j + k)) (col_t (by omega)) ht_b rfl (Or.inl rfl) (show rMn r b ≤ 30 by omega) hM0 hV.1 (hkb b) (hkb 0) (by omega)
            rw [e9] at h9
            refine px_goCx (st1 := [.int (-15)]) (px_callS F hK (h9) kc_X5_place kw_methodLink_RX5_87 rfl hR rfl ⟨rfl, rfl⟩ ⟨Nat.le_of_ble_eq_true rfl, Nat.le_of_ble_eq_true rfl⟩ hl.1 rfl (Nat.le_of_ble_eq_true rfl) dX5_transferItems_59 ⟨Nat.zero_le _, Nat.zero_le _⟩) hS rfl (fun H locs hR hS => ?_)
            refine lv_istore (lv' := [(8, .int (-15)), (7, .int (nI k)), (6, .int (nI k)), (5, .int 0), (0, .ref (gA g (3 * a))), (1, .int (nI i)), (2, .ref (gA g (3 * b))), (3, .int (nI j)), (4, .int (nI n))]) hx hb dX5_transferItems_62 hl (by decide) rfl (fun ls hl => ?_)
            refine lv_iload hx hb dX5_transferItems_64 (lv_at hl 0 rfl) ?_
            refine lv_iconst (v := 1) hx hb dX5_transferItems_66 (by decide) ?_
            refine lv_icmp_eq (tgt := 73) hx hb dX5_transferItems_67 (by decide) (fun h_67 => ((by decide : ¬ ((-15 : Int32) = 1)) h_67).elim) (fun h_67 => ?_)
            refine lv_iload hx hb dX5_transferItems_70 (lv_at hl 0 rfl) ?_
            exact px_iret F hr hlocks hS (by have e : f_come r a b j n (fun q => f_at r a (i + q)) = (sI r (mvF (rI r) (rS r b + j) (fun q => f_at r a (i + q)) k), (-15)) := (by unfold f_come; rw [← hcom, comI_no hk hcan]); rw [e]; exact ⟨rfl, hR⟩) dX5_transferItems_72
        · refine px_topv (y := .ref (gA g (3 * w + 2))) (by rw [hq9]; rfl) ?_
          have hw2 : w ≤ rM r := hw2
          have e9 := place_eq (r := (sI r (mvF (rI r) (rS r b + j) (fun q => f_at r a (i + q)) k))) (a := a) (b := b) (j := j + k) (ty := 1) (w := w) (v := f_at r a (i + k)) h0_b (show rMn r b ≤ 30 by omega) (show j + k < rMn r b by omega) hb8 (show rK r b ≤ 13 by omega) (show w < 2 ^ 31 by omega) (hkb w) (Or.inr (Or.inl ⟨rfl, hw1, hv9, hk9⟩))
          by_cases hcan : f_canStand r a (f_at r a (i + k)) b = true
          · rw [show (if f_canStand (sI r (mvF (rI r) (rS r b + j) (fun q => f_at r a (i + q)) k)) a (f_at r a (i + k)) b then (f_put (sI r (mvF (rI r) (rS r b + j) (fun q => f_at r a (i + q)) k)) b (j + k) (f_at r a (i + k)), 1) else ((sI r (mvF (rI r) (rS r b + j) (fun q => f_at r a (i + q)) k)), -15)) = ((f_put (sI r (mvF (rI r) (rS r b + j) (fun q => f_at r a (i + q)) k)) b (j + k) (f_at r a (i + k)), 1) : RS × Int32) from if_pos hcan] at e9
            have h9 := c_X5_place l D cy A (sI r (mvF (rI r) (rS r b + j) (fun q => f_at r a (i + q)) k)) g H.size b (.ref (gA g (3 * b))) 1 w (.ref (gA g (3 * w + 2))) (nI (j + k)) (col_t (by omega)) ht_b rfl (Or.inr (Or.inl ⟨rfl, hw1, hw2⟩)) (show rMn r b ≤ 30 by omega) hM0 hV.1 (hkb b) (hkb w) (by omega)
            rw [e9] at h9
            refine px_goCx (st1 := [.int 1]) (px_callS F hK (h9) kc_X5_place kw_methodLink_RX5_87 rfl hR rfl ⟨rfl, rfl⟩ ⟨Nat.le_of_ble_eq_true rfl, Nat.le_of_ble_eq_true rfl⟩ hl.1 rfl (Nat.le_of_ble_eq_true rfl) dX5_transferItems_59 ⟨Nat.zero_le _, Nat.zero_le _⟩) hS rfl (fun H locs hR hS => ?_)
            refine lv_istore (lv' := [(8, .int 1), (7, .int (nI k)), (6, .int (nI k)), (5, .int 0), (0, .ref (gA g (3 * a))), (1, .int (nI i)), (2, .ref (gA g (3 * b))), (3, .int (nI j)), (4, .int (nI n))]) hx hb dX5_transferItems_62 hl (by decide) rfl (fun ls hl => ?_)
            refine lv_iload hx hb dX5_transferItems_64 (lv_at hl 0 rfl) ?_
            refine lv_iconst (v := 1) hx hb dX5_transferItems_66 (by decide) ?_
            refine lv_icmp_eq (tgt := 73) hx hb dX5_transferItems_67 (by decide) (fun _ => ?_) (fun h => absurd h (by decide))
            refine lv_iinc (v := nI (k + 1)) (lv' := [(6, .int (nI (k + 1))), (8, .int 1), (7, .int (nI k)), (5, .int 0), (0, .ref (gA g (3 * a))), (1, .int (nI i)), (2, .ref (gA g (3 * b))), (3, .int (nI j)), (4, .int (nI n))]) hx hb dX5_transferItems_73 hl (k := 2) rfl (by show nI k + 1 = nI (k + 1); exact nI_1 _) (by decide) rfl (fun ls hl => ?_)
            refine lv_goto (tgt := 20) hx hb dX5_transferItems_76 (by decide) ?_
            exact ih_loop (k + 1) (by omega) ((comI_yes hk hcan).symm.trans hcom) _ _ _ (by rw [show mvF (rI r) (rS r b + j) (fun q => f_at r a (i + q)) (k + 1) = va_up (mvF (rI r) (rS r b + j) (fun q => f_at r a (i + q)) k) (rS r b + (j + k)) (f_at r a (i + k)) from (by rw [← Nat.add_assoc]; rfl)]; exact hR) hS (lv_sub hl [0, 3, 4, 5, 6, 7, 8] rfl)
          · have hcan : f_canStand r a (f_at r a (i + k)) b = false := Bool.eq_false_iff.mpr hcan
            rw [show (if f_canStand (sI r (mvF (rI r) (rS r b + j) (fun q => f_at r a (i + q)) k)) a (f_at r a (i + k)) b then (f_put (sI r (mvF (rI r) (rS r b + j) (fun q => f_at r a (i + q)) k)) b (j + k) (f_at r a (i + k)), 1) else ((sI r (mvF (rI r) (rS r b + j) (fun q => f_at r a (i + q)) k)), -15)) = (((sI r (mvF (rI r) (rS r b + j) (fun q => f_at r a (i + q)) k)), -15) : RS × Int32) from if_neg (by show ¬ f_canStand r a (f_at r a (i + k)) b = true; rw [hcan]; decide)] at e9
            have h9 := c_X5_place l D cy A (sI r (mvF (rI r) (rS r b + j) (fun q => f_at r a (i + q)) k)) g H.size b (.ref (gA g (3 * b))) 1 w (.ref (gA g (3 * w + 2))) (nI (j + k)) (col_t (by omega)) ht_b rfl (Or.inr (Or.inl ⟨rfl, hw1, hw2⟩)) (show rMn r b ≤ 30 by omega) hM0 hV.1 (hkb b) (hkb w) (by omega)
            rw [e9] at h9
            refine px_goCx (st1 := [.int (-15)]) (px_callS F hK (h9) kc_X5_place kw_methodLink_RX5_87 rfl hR rfl ⟨rfl, rfl⟩ ⟨Nat.le_of_ble_eq_true rfl, Nat.le_of_ble_eq_true rfl⟩ hl.1 rfl (Nat.le_of_ble_eq_true rfl) dX5_transferItems_59 ⟨Nat.zero_le _, Nat.zero_le _⟩) hS rfl (fun H locs hR hS => ?_)
            refine lv_istore (lv' := [(8, .int (-15)), (7, .int (nI k)), (6, .int (nI k)), (5, .int 0), (0, .ref (gA g (3 * a))), (1, .int (nI i)), (2, .ref (gA g (3 * b))), (3, .int (nI j)), (4, .int (nI n))]) hx hb dX5_transferItems_62 hl (by decide) rfl (fun ls hl => ?_)
            refine lv_iload hx hb dX5_transferItems_64 (lv_at hl 0 rfl) ?_
            refine lv_iconst (v := 1) hx hb dX5_transferItems_66 (by decide) ?_
            refine lv_icmp_eq (tgt := 73) hx hb dX5_transferItems_67 (by decide) (fun h_67 => ((by decide : ¬ ((-15 : Int32) = 1)) h_67).elim) (fun h_67 => ?_)
            refine lv_iload hx hb dX5_transferItems_70 (lv_at hl 0 rfl) ?_
            exact px_iret F hr hlocks hS (by have e : f_come r a b j n (fun q => f_at r a (i + q)) = (sI r (mvF (rI r) (rS r b + j) (fun q => f_at r a (i + q)) k), (-15)) := (by unfold f_come; rw [← hcom, comI_no hk hcan]); rw [e]; exact ⟨rfl, hR⟩) dX5_transferItems_72
        · refine px_topv (y := .ref (gA g (3 * w))) (by rw [hq9]; rfl) ?_
          have hw2 : w ≤ rT r := hw2
          have hkw9 := (hV.2.1 w hw1 hw2).1
          have e9 := place_eq (r := (sI r (mvF (rI r) (rS r b + j) (fun q => f_at r a (i + q)) k))) (a := a) (b := b) (j := j + k) (ty := 2) (w := w) (v := f_at r a (i + k)) h0_b (show rMn r b ≤ 30 by omega) (show j + k < rMn r b by omega) hb8 (show rK r b ≤ 13 by omega) (show w < 2 ^ 31 by omega) (hkb w) (Or.inr (Or.inr ⟨rfl, hw1, hv9, hk9⟩))
          by_cases hcan : f_canStand r a (f_at r a (i + k)) b = true
          · rw [show (if f_canStand (sI r (mvF (rI r) (rS r b + j) (fun q => f_at r a (i + q)) k)) a (f_at r a (i + k)) b then (f_put (sI r (mvF (rI r) (rS r b + j) (fun q => f_at r a (i + q)) k)) b (j + k) (f_at r a (i + k)), 1) else ((sI r (mvF (rI r) (rS r b + j) (fun q => f_at r a (i + q)) k)), -15)) = ((f_put (sI r (mvF (rI r) (rS r b + j) (fun q => f_at r a (i + q)) k)) b (j + k) (f_at r a (i + k)), 1) : RS × Int32) from if_pos hcan] at e9
            have h9 := c_X5_place l D cy A (sI r (mvF (rI r) (rS r b + j) (fun q => f_at r a (i + q)) k)) g H.size b (.ref (gA g (3 * b))) 2 w (.ref (gA g (3 * w))) (nI (j + k)) (col_t (by omega)) ht_b rfl (Or.inr (Or.inr ⟨rfl, hw1, hw2⟩)) (show rMn r b ≤ 30 by omega) hM0 hV.1 (hkb b) (hkb w) (by omega)
            rw [e9] at h9
            refine px_goCx (st1 := [.int 1]) (px_callS F hK (h9) kc_X5_place kw_methodLink_RX5_87 rfl hR rfl ⟨rfl, rfl⟩ ⟨Nat.le_of_ble_eq_true rfl, Nat.le_of_ble_eq_true rfl⟩ hl.1 rfl (Nat.le_of_ble_eq_true rfl) dX5_transferItems_59 ⟨Nat.zero_le _, Nat.zero_le _⟩) hS rfl (fun H locs hR hS => ?_)
            refine lv_istore (lv' := [(8, .int 1), (7, .int (nI k)), (6, .int (nI k)), (5, .int 0), (0, .ref (gA g (3 * a))), (1, .int (nI i)), (2, .ref (gA g (3 * b))), (3, .int (nI j)), (4, .int (nI n))]) hx hb dX5_transferItems_62 hl (by decide) rfl (fun ls hl => ?_)
            refine lv_iload hx hb dX5_transferItems_64 (lv_at hl 0 rfl) ?_
            refine lv_iconst (v := 1) hx hb dX5_transferItems_66 (by decide) ?_
            refine lv_icmp_eq (tgt := 73) hx hb dX5_transferItems_67 (by decide) (fun _ => ?_) (fun h => absurd h (by decide))
            refine lv_iinc (v := nI (k + 1)) (lv' := [(6, .int (nI (k + 1))), (8, .int 1), (7, .int (nI k)), (5, .int 0), (0, .ref (gA g (3 * a))), (1, .int (nI i)), (2, .ref (gA g (3 * b))), (3, .int (nI j)), (4, .int (nI n))]) hx hb dX5_transferItems_73 hl (k := 2) rfl (by show nI k + 1 = nI (k + 1); exact nI_1 _) (by decide) rfl (fun ls hl => ?_)
            refine lv_goto (tgt := 20) hx hb dX5_transferItems_76 (by decide) ?_
            exact ih_loop (k + 1) (by omega) ((comI_yes hk hcan).symm.trans hcom) _ _ _ (by rw [show mvF (rI r) (rS r b + j) (fun q => f_at r a (i + q)) (k + 1) = va_up (mvF (rI r) (rS r b + j) (fun q => f_at r a (i + q)) k) (rS r b + (j + k)) (f_at r a (i + k)) from (by rw [← Nat.add_assoc]; rfl)]; exact hR) hS (lv_sub hl [0, 3, 4, 5, 6, 7, 8] rfl)
          · have hcan : f_canStand r a (f_at r a (i + k)) b = false := Bool.eq_false_iff.mpr hcan
            rw [show (if f_canStand (sI r (mvF (rI r) (rS r b + j) (fun q => f_at r a (i + q)) k)) a (f_at r a (i + k)) b then (f_put (sI r (mvF (rI r) (rS r b + j) (fun q => f_at r a (i + q)) k)) b (j + k) (f_at r a (i + k)), 1) else ((sI r (mvF (rI r) (rS r b + j) (fun q => f_at r a (i + q)) k)), -15)) = (((sI r (mvF (rI r) (rS r b + j) (fun q => f_at r a (i + q)) k)), -15) : RS × Int32) from if_neg (by show ¬ f_canStand r a (f_at r a (i + k)) b = true; rw [hcan]; decide)] at e9
            have h9 := c_X5_place l D cy A (sI r (mvF (rI r) (rS r b + j) (fun q => f_at r a (i + q)) k)) g H.size b (.ref (gA g (3 * b))) 2 w (.ref (gA g (3 * w))) (nI (j + k)) (col_t (by omega)) ht_b rfl (Or.inr (Or.inr ⟨rfl, hw1, hw2⟩)) (show rMn r b ≤ 30 by omega) hM0 hV.1 (hkb b) (hkb w) (by omega)
            rw [e9] at h9
            refine px_goCx (st1 := [.int (-15)]) (px_callS F hK (h9) kc_X5_place kw_methodLink_RX5_87 rfl hR rfl ⟨rfl, rfl⟩ ⟨Nat.le_of_ble_eq_true rfl, Nat.le_of_ble_eq_true rfl⟩ hl.1 rfl (Nat.le_of_ble_eq_true rfl) dX5_transferItems_59 ⟨Nat.zero_le _, Nat.zero_le _⟩) hS rfl (fun H locs hR hS => ?_)
            refine lv_istore (lv' := [(8, .int (-15)), (7, .int (nI k)), (6, .int (nI k)), (5, .int 0), (0, .ref (gA g (3 * a))), (1, .int (nI i)), (2, .ref (gA g (3 * b))), (3, .int (nI j)), (4, .int (nI n))]) hx hb dX5_transferItems_62 hl (by decide) rfl (fun ls hl => ?_)
            refine lv_iload hx hb dX5_transferItems_64 (lv_at hl 0 rfl) ?_
            refine lv_iconst (v := 1) hx hb dX5_transferItems_66 (by decide) ?_
            refine lv_icmp_eq (tgt := 73) hx hb dX5_transferItems_67 (by decide) (fun h_67 => ((by decide : ¬ ((-15 : Int32) = 1)) h_67).elim) (fun h_67 => ?_)
            refine lv_iload hx hb dX5_transferItems_70 (lv_at hl 0 rfl) ?_
            exact px_iret F hr hlocks hS (by have e : f_come r a b j n (fun q => f_at r a (i + q)) = (sI r (mvF (rI r) (rS r b + j) (fun q => f_at r a (i + q)) k), (-15)) := (by unfold f_come; rw [← hcom, comI_no hk hcan]); rw [e]; exact ⟨rfl, hR⟩) dX5_transferItems_72
    exact loop n 0 (by omega) rfl _ _ _ hR hS (lv_sub hl [0, 1, 2, 3, 4, 5, 6] rfl)
  · have h_2 : a = b := (by have q9 := hR.inj (dm_t (show a ≤ rT r by omega)) (dm_t (show b ≤ rT r by omega)) (Option.some.inj h_2); omega)
    refine lv_iload_n hx hb dX5_transferItems_5 rfl (lv_at hl 1 rfl) ?_
    refine lv_iload_n hx hb dX5_transferItems_6 rfl (lv_at hl 3 rfl) ?_
    refine lv_icmp_ge (tgt := 14) hx hb dX5_transferItems_7 (by decide) (fun h_7 => ?_) (fun h_7 => ?_)
    · have h_7 : j ≤ i := nIle (show nI j ≤ nI i from h_7) (by omega) (by omega)
      refine lv_iconst (v := 0) hx hb dX5_transferItems_14 (by decide) ?_
      refine lv_istore (lv' := [(5, .int 0), (0, .ref (gA g (3 * a))), (1, .int (nI i)), (2, .ref (gA g (3 * b))), (3, .int (nI j)), (4, .int (nI n))]) hx hb dX5_transferItems_15 hl (by decide) rfl (fun ls hl => ?_)
      refine lv_iconst (v := 0) hx hb dX5_transferItems_17 (by decide) ?_
      refine lv_istore (lv' := [(6, .int 0), (5, .int 0), (0, .ref (gA g (3 * a))), (1, .int (nI i)), (2, .ref (gA g (3 * b))), (3, .int (nI j)), (4, .int (nI n))]) hx hb dX5_transferItems_18 hl (by decide) rfl (fun ls hl => ?_)
      have loop : ∀ (d k : Nat), k + d = n → comI (fun x => f_canStand r a x b) (rS r b + j) n (fun q => f_at r a (i + q)) d (mvF (rI r) (rS r b + j) (fun q => f_at r a (i + q)) k) = comI (fun x => f_canStand r a x b) (rS r b + j) n (fun q => f_at r a (i + q)) n (rI r) → ∀ (H : Heap) (locs : List Loc) (ls : Array Slot), CR D cy A (sI r (mvF (rI r) (rS r b + j) (fun q => f_at r a (i + q)) k)) g H → va_S A s.heap H locs → lv_has ls 9 [(6, .int (nI k)), (5, .int 0), (0, .ref (gA g (3 * a))), (1, .int (nI i)), (2, .ref (gA g (3 * b))), (3, .int (nI j)), (4, .int (nI n))] → W p l e (rmd 5 0 0) s m ([.ref (gA g (3 * a)), .int (nI i), .ref (gA g (3 * b)), .int (nI j), .int (nI n)] : List Value).toArray below meth c H locs (0) (0) (MQ below (px_Q (px_Cx D cy A g (some (.int (f_come r a b j n (fun q => f_at r a (i + q))).2)) ((f_come r a b j n (fun q => f_at r a (i + q))).1)) A) ([.ref (gA g (3 * a)), .int (nI i), .ref (gA g (3 * b)), .int (nI j), .int (nI n)] : List Value).toArray s (0) (0) A) (F0 m 20 ls []) := by
        intro d
        induction d with
        | zero =>
          intro k hk hcom H locs ls hR hS hl
          refine lv_iload hx hb dX5_transferItems_20 (lv_at hl 0 rfl) ?_
          refine lv_iload hx hb dX5_transferItems_22 (lv_at hl 6 rfl) ?_
          refine lv_icmp_ge (tgt := 79) hx hb dX5_transferItems_24 (by decide) (fun h_24 => ?_) (fun h_24 => by exfalso; have h_24 : k < n := nInle (show ¬ nI n ≤ nI k from h_24) (by omega) (by omega); omega)
          have h_24 : n ≤ k := nIle (show nI n ≤ nI k from h_24) (by omega) (by omega)
          refine lv_iload hx hb dX5_transferItems_79 (lv_at hl 6 rfl) ?_
          exact px_iret F hr hlocks hS (by have e : f_come r a b j n (fun q => f_at r a (i + q)) = (sI r (mvF (rI r) (rS r b + j) (fun q => f_at r a (i + q)) k), nI n) := (by have hkn : k = n := (by omega); unfold f_come; rw [← hcom]; rfl); rw [e]; exact ⟨rfl, hR⟩) dX5_transferItems_81
        | succ d ih_loop =>
          intro k hk hcom H locs ls hR hS hl
          refine lv_iload hx hb dX5_transferItems_20 (lv_at hl 0 rfl) ?_
          refine lv_iload hx hb dX5_transferItems_22 (lv_at hl 6 rfl) ?_
          refine lv_icmp_ge (tgt := 79) hx hb dX5_transferItems_24 (by decide) (fun h_24 => by exfalso; have h_24 : n ≤ k := nIle (show nI n ≤ nI k from h_24) (by omega) (by omega); omega) (fun h_24 => ?_)
          have h_24 : k < n := nInle (show ¬ nI n ≤ nI k from h_24) (by omega) (by omega)
          refine lv_iload hx hb dX5_transferItems_27 (lv_at hl 1 rfl) ?_
          refine lv_if_eq (tgt := 42) hx hb dX5_transferItems_29 (by decide) (fun _ => ?_) (fun h => absurd h (by decide))
          refine lv_iload hx hb dX5_transferItems_42 (lv_at hl 0 rfl) ?_
          refine lv_istore (lv' := [(7, .int (nI k)), (6, .int (nI k)), (5, .int 0), (0, .ref (gA g (3 * a))), (1, .int (nI i)), (2, .ref (gA g (3 * b))), (3, .int (nI j)), (4, .int (nI n))]) hx hb dX5_transferItems_44 hl (by decide) rfl (fun ls hl => ?_)
          refine lv_aload_n hx hb dX5_transferItems_46 rfl (lv_at hl 5 rfl) ?_
          refine lv_iload_n hx hb dX5_transferItems_47 rfl (lv_at hl 6 rfl) ?_
          refine lv_iload hx hb dX5_transferItems_48 (lv_at hl 0 rfl) ?_
          refine lv_iadd hx hb dX5_transferItems_50 ?_
          refine px_topi (y := nI (j + k)) (nI_add _ _) ?_
          refine lv_aload_n hx hb dX5_transferItems_51 rfl (lv_at hl 3 rfl) ?_
          refine lv_iload_n hx hb dX5_transferItems_52 rfl (lv_at hl 4 rfl) ?_
          refine lv_iload hx hb dX5_transferItems_53 (lv_at hl 0 rfl) ?_
          refine lv_iadd hx hb dX5_transferItems_55 ?_
          refine px_topi (y := nI (i + k)) (nI_add _ _) ?_
          refine px_goV (st1 := [va_rf (c_item (gA g) (sI r (mvF (rI r) (rS r b + j) (fun q => f_at r a (i + q)) k)) a (nI (i + k))), .int (nI (j + k)), .ref (gA g (3 * b))]) (px_callS F hK (c_X5_itemAt l D cy A (sI r (mvF (rI r) (rS r b + j) (fun q => f_at r a (i + q)) k)) g _ a (.ref (gA g (3 * a))) (nI (i + k)) (col_t (by omega)) (by omega) (by omega)) kc_X5_itemAt kw_methodLink_RX5_95 rfl hR rfl ⟨rfl, rfl⟩ ⟨Nat.le_of_ble_eq_true rfl, Nat.le_of_ble_eq_true rfl⟩ hl.1 rfl (Nat.le_of_ble_eq_true rfl) dX5_transferItems_56 ⟨Nat.zero_le _, Nat.zero_le _⟩) rfl ?_
          have hat : f_at (sI r (mvF (rI r) (rS r b + j) (fun q => f_at r a (i + q)) k)) a (i + k) = f_at r a (i + k) := at_mvF hV.1 h0_a ht_a h0_b ht_b (n := n) hjn (by omega) (by omega) (by omega)
          have hiv := (hV.2.1 a h0_a ht_a).2.2 (i + k) (by omega) ha8
          rcases c_item_4 (r := (sI r (mvF (rI r) (rS r b + j) (fun q => f_at r a (i + q)) k))) (t := a) (j := i + k) (gA g) h0_a ha8 (show rMn r a ≤ 30 by omega) (show i + k < rMn r a by omega) hat hiv.1 hiv.2.1 hiv.2.2 with ⟨hv9, hq9⟩ | ⟨w, hv9, hw1, hw2, hk9, hq9⟩ | ⟨w, hv9, hw1, hw2, hk9, hq9⟩
          · refine px_topv (y := .null) (by rw [hq9]; rfl) ?_
            have e9 := place_eq (r := (sI r (mvF (rI r) (rS r b + j) (fun q => f_at r a (i + q)) k))) (a := a) (b := b) (j := j + k) (ty := 0) (w := 0) (v := f_at r a (i + k)) h0_b (show rMn r b ≤ 30 by omega) (show j + k < rMn r b by omega) hb8 (show rK r b ≤ 13 by omega) (show 0 < 2 ^ 31 by omega) (hkb 0) (Or.inl ⟨rfl, hv9⟩)
            by_cases hcan : f_canStand r a (f_at r a (i + k)) b = true
            · rw [show (if f_canStand (sI r (mvF (rI r) (rS r b + j) (fun q => f_at r a (i + q)) k)) a (f_at r a (i + k)) b then (f_put (sI r (mvF (rI r) (rS r b + j) (fun q => f_at r a (i + q)) k)) b (j + k) (f_at r a (i + k)), 1) else ((sI r (mvF (rI r) (rS r b + j) (fun q => f_at r a (i + q)) k)), -15)) = ((f_put (sI r (mvF (rI r) (rS r b + j) (fun q => f_at r a (i + q)) k)) b (j + k) (f_at r a (i + k)), 1) : RS × Int32) from if_pos hcan] at e9
              have h9 := c_X5_place l D cy A (sI r (mvF (rI r) (rS r b + j) (fun q => f_at r a (i + q)) k)) g H.size b (.ref (gA g (3 * b))) 0 0 .null (nI (j + k)) (col_t (by omega)) ht_b rfl (Or.inl rfl) (show rMn r b ≤ 30 by omega) hM0 hV.1 (hkb b) (hkb 0) (by omega)
              rw [e9] at h9
              refine px_goCx (st1 := [.int 1]) (px_callS F hK (h9) kc_X5_place kw_methodLink_RX5_87 rfl hR rfl ⟨rfl, rfl⟩ ⟨Nat.le_of_ble_eq_true rfl, Nat.le_of_ble_eq_true rfl⟩ hl.1 rfl (Nat.le_of_ble_eq_true rfl) dX5_transferItems_59 ⟨Nat.zero_le _, Nat.zero_le _⟩) hS rfl (fun H locs hR hS => ?_)
              refine lv_istore (lv' := [(8, .int 1), (7, .int (nI k)), (6, .int (nI k)), (5, .int 0), (0, .ref (gA g (3 * a))), (1, .int (nI i)), (2, .ref (gA g (3 * b))), (3, .int (nI j)), (4, .int (nI n))]) hx hb dX5_transferItems_62 hl (by decide) rfl (fun ls hl => ?_)
              refine lv_iload hx hb dX5_transferItems_64 (lv_at hl 0 rfl) ?_
              refine lv_iconst (v := 1) hx hb dX5_transferItems_66 (by decide) ?_
              refine lv_icmp_eq (tgt := 73) hx hb dX5_transferItems_67 (by decide) (fun _ => ?_) (fun h => absurd h (by decide))
              refine lv_iinc (v := nI (k + 1)) (lv' := [(6, .int (nI (k + 1))), (8, .int 1), (7, .int (nI k)), (5, .int 0), (0, .ref (gA g (3 * a))), (1, .int (nI i)), (2, .ref (gA g (3 * b))), (3, .int (nI j)), (4, .int (nI n))]) hx hb dX5_transferItems_73 hl (k := 2) rfl (by show nI k + 1 = nI (k + 1); exact nI_1 _) (by decide) rfl (fun ls hl => ?_)
              refine lv_goto (tgt := 20) hx hb dX5_transferItems_76 (by decide) ?_
              exact ih_loop (k + 1) (by omega) ((comI_yes hk hcan).symm.trans hcom) _ _ _ (by rw [show mvF (rI r) (rS r b + j) (fun q => f_at r a (i + q)) (k + 1) = va_up (mvF (rI r) (rS r b + j) (fun q => f_at r a (i + q)) k) (rS r b + (j + k)) (f_at r a (i + k)) from (by rw [← Nat.add_assoc]; rfl)]; exact hR) hS (lv_sub hl [0, 3, 4, 5, 6, 7, 8] rfl)
            · have hcan : f_canStand r a (f_at r a (i + k)) b = false := Bool.eq_false_iff.mpr hcan
              rw [show (if f_canStand (sI r (mvF (rI r) (rS r b + j) (fun q => f_at r a (i + q)) k)) a (f_at r a (i + k)) b then (f_put (sI r (mvF (rI r) (rS r b + j) (fun q => f_at r a (i + q)) k)) b (j + k) (f_at r a (i + k)), 1) else ((sI r (mvF (rI r) (rS r b + j) (fun q => f_at r a (i + q)) k)), -15)) = (((sI r (mvF (rI r) (rS r b + j) (fun q => f_at r a (i + q)) k)), -15) : RS × Int32) from if_neg (by show ¬ f_canStand r a (f_at r a (i + k)) b = true; rw [hcan]; decide)] at e9
              have h9 := c_X5_place l D cy A (sI r (mvF (rI r) (rS r b + j) (fun q => f_at r a (i + q)) k)) g H.size b (.ref (gA g (3 * b))) 0 0 .null (nI (j + k)) (col_t (by omega)) ht_b rfl (Or.inl rfl) (show rMn r b ≤ 30 by omega) hM0 hV.1 (hkb b) (hkb 0) (by omega)
              rw [e9] at h9
              refine px_goCx (st1 := [.int (-15)]) (px_callS F hK (h9) kc_X5_place kw_methodLink_RX5_87 rfl hR rfl ⟨rfl, rfl⟩ ⟨Nat.le_of_ble_eq_true rfl, Nat.le_of_ble_eq_true rfl⟩ hl.1 rfl (Nat.le_of_ble_eq_true rfl) dX5_transferItems_59 ⟨Nat.zero_le _, Nat.zero_le _⟩) hS rfl (fun H locs hR hS => ?_)
              refine lv_istore (lv' := [(8, .int (-15)), (7, .int (nI k)), (6, .int (nI k)), (5, .int 0), (0, .ref (gA g (3 * a))), (1, .int (nI i)), (2, .ref (gA g (3 * b))), (3, .int (nI j)), (4, .int (nI n))]) hx hb dX5_transferItems_62 hl (by decide) rfl (fun ls hl => ?_)
              refine lv_iload hx hb dX5_transferItems_64 (lv_at hl 0 rfl) ?_
              refine lv_iconst (v := 1) hx hb dX5_transferItems_66 (by decide) ?_
              refine lv_icmp_eq (tgt := 73) hx hb dX5_transferItems_67 (by decide) (fun h_67 => ((by decide : ¬ ((-15 : Int32) = 1)) h_67).elim) (fun h_67 => ?_)
              refine lv_iload hx hb dX5_transferItems_70 (lv_at hl 0 rfl) ?_
              exact px_iret F hr hlocks hS (by have e : f_come r a b j n (fun q => f_at r a (i + q)) = (sI r (mvF (rI r) (rS r b + j) (fun q => f_at r a (i + q)) k), (-15)) := (by unfold f_come; rw [← hcom, comI_no hk hcan]); rw [e]; exact ⟨rfl, hR⟩) dX5_transferItems_72
          · refine px_topv (y := .ref (gA g (3 * w + 2))) (by rw [hq9]; rfl) ?_
            have hw2 : w ≤ rM r := hw2
            have e9 := place_eq (r := (sI r (mvF (rI r) (rS r b + j) (fun q => f_at r a (i + q)) k))) (a := a) (b := b) (j := j + k) (ty := 1) (w := w) (v := f_at r a (i + k)) h0_b (show rMn r b ≤ 30 by omega) (show j + k < rMn r b by omega) hb8 (show rK r b ≤ 13 by omega) (show w < 2 ^ 31 by omega) (hkb w) (Or.inr (Or.inl ⟨rfl, hw1, hv9, hk9⟩))
            by_cases hcan : f_canStand r a (f_at r a (i + k)) b = true
            · rw [show (if f_canStand (sI r (mvF (rI r) (rS r b + j) (fun q => f_at r a (i + q)) k)) a (f_at r a (i + k)) b then (f_put (sI r (mvF (rI r) (rS r b + j) (fun q => f_at r a (i + q)) k)) b (j + k) (f_at r a (i + k)), 1) else ((sI r (mvF (rI r) (rS r b + j) (fun q => f_at r a (i + q)) k)), -15)) = ((f_put (sI r (mvF (rI r) (rS r b + j) (fun q => f_at r a (i + q)) k)) b (j + k) (f_at r a (i + k)), 1) : RS × Int32) from if_pos hcan] at e9
              have h9 := c_X5_place l D cy A (sI r (mvF (rI r) (rS r b + j) (fun q => f_at r a (i + q)) k)) g H.size b (.ref (gA g (3 * b))) 1 w (.ref (gA g (3 * w + 2))) (nI (j + k)) (col_t (by omega)) ht_b rfl (Or.inr (Or.inl ⟨rfl, hw1, hw2⟩)) (show rMn r b ≤ 30 by omega) hM0 hV.1 (hkb b) (hkb w) (by omega)
              rw [e9] at h9
              refine px_goCx (st1 := [.int 1]) (px_callS F hK (h9) kc_X5_place kw_methodLink_RX5_87 rfl hR rfl ⟨rfl, rfl⟩ ⟨Nat.le_of_ble_eq_true rfl, Nat.le_of_ble_eq_true rfl⟩ hl.1 rfl (Nat.le_of_ble_eq_true rfl) dX5_transferItems_59 ⟨Nat.zero_le _, Nat.zero_le _⟩) hS rfl (fun H locs hR hS => ?_)
              refine lv_istore (lv' := [(8, .int 1), (7, .int (nI k)), (6, .int (nI k)), (5, .int 0), (0, .ref (gA g (3 * a))), (1, .int (nI i)), (2, .ref (gA g (3 * b))), (3, .int (nI j)), (4, .int (nI n))]) hx hb dX5_transferItems_62 hl (by decide) rfl (fun ls hl => ?_)
              refine lv_iload hx hb dX5_transferItems_64 (lv_at hl 0 rfl) ?_
              refine lv_iconst (v := 1) hx hb dX5_transferItems_66 (by decide) ?_
              refine lv_icmp_eq (tgt := 73) hx hb dX5_transferItems_67 (by decide) (fun _ => ?_) (fun h => absurd h (by decide))
              refine lv_iinc (v := nI (k + 1)) (lv' := [(6, .int (nI (k + 1))), (8, .int 1), (7, .int (nI k)), (5, .int 0), (0, .ref (gA g (3 * a))), (1, .int (nI i)), (2, .ref (gA g (3 * b))), (3, .int (nI j)), (4, .int (nI n))]) hx hb dX5_transferItems_73 hl (k := 2) rfl (by show nI k + 1 = nI (k + 1); exact nI_1 _) (by decide) rfl (fun ls hl => ?_)
              refine lv_goto (tgt := 20) hx hb dX5_transferItems_76 (by decide) ?_
              exact ih_loop (k + 1) (by omega) ((comI_yes hk hcan).symm.trans hcom) _ _ _ (by rw [show mvF (rI r) (rS r b + j) (fun q => f_at r a (i + q)) (k + 1) = va_up (mvF (rI r) (rS r b + j) (fun q => f_at r a (i + q)) k) (rS r b + (j + k)) (f_at r a (i + k)) from (by rw [← Nat.add_assoc]; rfl)]; exact hR) hS (lv_sub hl [0, 3, 4, 5, 6, 7, 8] rfl)
            · have hcan : f_canStand r a (f_at r a (i + k)) b = false := Bool.eq_false_iff.mpr hcan
              rw [show (if f_canStand (sI r (mvF (rI r) (rS r b + j) (fun q => f_at r a (i + q)) k)) a (f_at r a (i + k)) b then (f_put (sI r (mvF (rI r) (rS r b + j) (fun q => f_at r a (i + q)) k)) b (j + k) (f_at r a (i + k)), 1) else ((sI r (mvF (rI r) (rS r b + j) (fun q => f_at r a (i + q)) k)), -15)) = (((sI r (mvF (rI r) (rS r b + j) (fun q => f_at r a (i + q)) k)), -15) : RS × Int32) from if_neg (by show ¬ f_canStand r a (f_at r a (i + k)) b = true; rw [hcan]; decide)] at e9
              have h9 := c_X5_place l D cy A (sI r (mvF (rI r) (rS r b + j) (fun q => f_at r a (i + q)) k)) g H.size b (.ref (gA g (3 * b))) 1 w (.ref (gA g (3 * w + 2))) (nI (j + k)) (col_t (by omega)) ht_b rfl (Or.inr (Or.inl ⟨rfl, hw1, hw2⟩)) (show rMn r b ≤ 30 by omega) hM0 hV.1 (hkb b) (hkb w) (by omega)
              rw [e9] at h9
              refine px_goCx (st1 := [.int (-15)]) (px_callS F hK (h9) kc_X5_place kw_methodLink_RX5_87 rfl hR rfl ⟨rfl, rfl⟩ ⟨Nat.le_of_ble_eq_true rfl, Nat.le_of_ble_eq_true rfl⟩ hl.1 rfl (Nat.le_of_ble_eq_true rfl) dX5_transferItems_59 ⟨Nat.zero_le _, Nat.zero_le _⟩) hS rfl (fun H locs hR hS => ?_)
              refine lv_istore (lv' := [(8, .int (-15)), (7, .int (nI k)), (6, .int (nI k)), (5, .int 0), (0, .ref (gA g (3 * a))), (1, .int (nI i)), (2, .ref (gA g (3 * b))), (3, .int (nI j)), (4, .int (nI n))]) hx hb dX5_transferItems_62 hl (by decide) rfl (fun ls hl => ?_)
              refine lv_iload hx hb dX5_transferItems_64 (lv_at hl 0 rfl) ?_
              refine lv_iconst (v := 1) hx hb dX5_transferItems_66 (by decide) ?_
              refine lv_icmp_eq (tgt := 73) hx hb dX5_transferItems_67 (by decide) (fun h_67 => ((by decide : ¬ ((-15 : Int32) = 1)) h_67).elim) (fun h_67 => ?_)
              refine lv_iload hx hb dX5_transferItems_70 (lv_at hl 0 rfl) ?_
              exact px_iret F hr hlocks hS (by have e : f_come r a b j n (fun q => f_at r a (i + q)) = (sI r (mvF (rI r) (rS r b + j) (fun q => f_at r a (i + q)) k), (-15)) := (by unfold f_come; rw [← hcom, comI_no hk hcan]); rw [e]; exact ⟨rfl, hR⟩) dX5_transferItems_72
          · refine px_topv (y := .ref (gA g (3 * w))) (by rw [hq9]; rfl) ?_
            have hw2 : w ≤ rT r := hw2
            have hkw9 := (hV.2.1 w hw1 hw2).1
            have e9 := place_eq (r := (sI r (mvF (rI r) (rS r b + j) (fun q => f_at r a (i + q)) k))) (a := a) (b := b) (j := j + k) (ty := 2) (w := w) (v := f_at r a (i + k)) h0_b (show rMn r b ≤ 30 by omega) (show j + k < rMn r b by omega) hb8 (show rK r b ≤ 13 by omega) (show w < 2 ^ 31 by omega) (hkb w) (Or.inr (Or.inr ⟨rfl, hw1, hv9, hk9⟩))
            by_cases hcan : f_canStand r a (f_at r a (i + k)) b = true
            · rw [show (if f_canStand (sI r (mvF (rI r) (rS r b + j) (fun q => f_at r a (i + q)) k)) a (f_at r a (i + k)) b then (f_put (sI r (mvF (rI r) (rS r b + j) (fun q => f_at r a (i + q)) k)) b (j + k) (f_at r a (i + k)), 1) else ((sI r (mvF (rI r) (rS r b + j) (fun q => f_at r a (i + q)) k)), -15)) = ((f_put (sI r (mvF (rI r) (rS r b + j) (fun q => f_at r a (i + q)) k)) b (j + k) (f_at r a (i + k)), 1) : RS × Int32) from if_pos hcan] at e9
              have h9 := c_X5_place l D cy A (sI r (mvF (rI r) (rS r b + j) (fun q => f_at r a (i + q)) k)) g H.size b (.ref (gA g (3 * b))) 2 w (.ref (gA g (3 * w))) (nI (j + k)) (col_t (by omega)) ht_b rfl (Or.inr (Or.inr ⟨rfl, hw1, hw2⟩)) (show rMn r b ≤ 30 by omega) hM0 hV.1 (hkb b) (hkb w) (by omega)
              rw [e9] at h9
              refine px_goCx (st1 := [.int 1]) (px_callS F hK (h9) kc_X5_place kw_methodLink_RX5_87 rfl hR rfl ⟨rfl, rfl⟩ ⟨Nat.le_of_ble_eq_true rfl, Nat.le_of_ble_eq_true rfl⟩ hl.1 rfl (Nat.le_of_ble_eq_true rfl) dX5_transferItems_59 ⟨Nat.zero_le _, Nat.zero_le _⟩) hS rfl (fun H locs hR hS => ?_)
              refine lv_istore (lv' := [(8, .int 1), (7, .int (nI k)), (6, .int (nI k)), (5, .int 0), (0, .ref (gA g (3 * a))), (1, .int (nI i)), (2, .ref (gA g (3 * b))), (3, .int (nI j)), (4, .int (nI n))]) hx hb dX5_transferItems_62 hl (by decide) rfl (fun ls hl => ?_)
              refine lv_iload hx hb dX5_transferItems_64 (lv_at hl 0 rfl) ?_
              refine lv_iconst (v := 1) hx hb dX5_transferItems_66 (by decide) ?_
              refine lv_icmp_eq (tgt := 73) hx hb dX5_transferItems_67 (by decide) (fun _ => ?_) (fun h => absurd h (by decide))
              refine lv_iinc (v := nI (k + 1)) (lv' := [(6, .int (nI (k + 1))), (8, .int 1), (7, .int (nI k)), (5, .int 0), (0, .ref (gA g (3 * a))), (1, .int (nI i)), (2, .ref (gA g (3 * b))), (3, .int (nI j)), (4, .int (nI n))]) hx hb dX5_transferItems_73 hl (k := 2) rfl (by show nI k + 1 = nI (k + 1); exact nI_1 _) (by decide) rfl (fun ls hl => ?_)
              refine lv_goto (tgt := 20) hx hb dX5_transferItems_76 (by decide) ?_
              exact ih_loop (k + 1) (by omega) ((comI_yes hk hcan).symm.trans hcom) _ _ _ (by rw [show mvF (rI r) (rS r b + j) (fun q => f_at r a (i + q)) (k + 1) = va_up (mvF (rI r) (rS r b + j) (fun q => f_at r a (i + q)) k) (rS r b + (j + k)) (f_at r a (i + k)) from (by rw [← Nat.add_assoc]; rfl)]; exact hR) hS (lv_sub hl [0, 3, 4, 5, 6, 7, 8] rfl)
            · have hcan : f_canStand r a (f_at r a (i + k)) b = false := Bool.eq_false_iff.mpr hcan
              rw [show (if f_canStand (sI r (mvF (rI r) (rS r b + j) (fun q => f_at r a (i + q)) k)) a (f_at r a (i + k)) b then (f_put (sI r (mvF (rI r) (rS r b + j) (fun q => f_at r a (i + q)) k)) b (j + k) (f_at r a (i + k)), 1) else ((sI r (mvF (rI r) (rS r b + j) (fun q => f_at r a (i + q)) k)), -15)) = (((sI r (mvF (rI r) (rS r b + j) (fun q => f_at r a (i + q)) k)), -15) : RS × Int32) from if_neg (by show ¬ f_canStand r a (f_at r a (i + k)) b = true; rw [hcan]; decide)] at e9
              have h9 := c_X5_place l D cy A (sI r (mvF (rI r) (rS r b + j) (fun q => f_at r a (i + q)) k)) g H.size b (.ref (gA g (3 * b))) 2 w (.ref (gA g (3 * w))) (nI (j + k)) (col_t (by omega)) ht_b rfl (Or.inr (Or.inr ⟨rfl, hw1, hw2⟩)) (show rMn r b ≤ 30 by omega) hM0 hV.1 (hkb b) (hkb w) (by omega)
              rw [e9] at h9
              refine px_goCx (st1 := [.int (-15)]) (px_callS F hK (h9) kc_X5_place kw_methodLink_RX5_87 rfl hR rfl ⟨rfl, rfl⟩ ⟨Nat.le_of_ble_eq_true rfl, Nat.le_of_ble_eq_true rfl⟩ hl.1 rfl (Nat.le_of_ble_eq_true rfl) dX5_transferItems_59 ⟨Nat.zero_le _, Nat.zero_le _⟩) hS rfl (fun H locs hR hS => ?_)
              refine lv_istore (lv' := [(8, .int (-15)), (7, .int (nI k)), (6, .int (nI k)), (5, .int 0), (0, .ref (gA g (3 * a))), (1, .int (nI i)), (2, .ref (gA g (3 * b))), (3, .int (nI j)), (4, .int (nI n))]) hx hb dX5_transferItems_62 hl (by decide) rfl (fun ls hl => ?_)
              refine lv_iload hx hb dX5_transferItems_64 (lv_at hl 0 rfl) ?_
              refine lv_iconst (v := 1) hx hb dX5_transferItems_66 (by decide) ?_
              refine lv_icmp_eq (tgt := 73) hx hb dX5_transferItems_67 (by decide) (fun h_67 => ((by decide : ¬ ((-15 : Int32) = 1)) h_67).elim) (fun h_67 => ?_)
              refine lv_iload hx hb dX5_transferItems_70 (lv_at hl 0 rfl) ?_
              exact px_iret F hr hlocks hS (by have e : f_come r a b j n (fun q => f_at r a (i + q)) = (sI r (mvF (rI r) (rS r b + j) (fun q => f_at r a (i + q)) k), (-15)) := (by unfold f_come; rw [← hcom, comI_no hk hcan]); rw [e]; exact ⟨rfl, hR⟩) dX5_transferItems_72
      exact loop n 0 (by omega) rfl _ _ _ hR hS (lv_sub hl [0, 1, 2, 3, 4, 5, 6] rfl)
    · have h_7 : i < j := nInle (show ¬ nI j ≤ nI i from h_7) (by omega) (by omega)
      refine lv_iconst (v := 1) hx hb dX5_transferItems_10 (by decide) ?_
      refine lv_goto (tgt := 15) hx hb dX5_transferItems_11 (by decide) ?_
      refine lv_istore (lv' := [(5, .int 1), (0, .ref (gA g (3 * a))), (1, .int (nI i)), (2, .ref (gA g (3 * b))), (3, .int (nI j)), (4, .int (nI n))]) hx hb dX5_transferItems_15 hl (by decide) rfl (fun ls hl => ?_)
      refine lv_iconst (v := 0) hx hb dX5_transferItems_17 (by decide) ?_
      refine lv_istore (lv' := [(6, .int 0), (5, .int 1), (0, .ref (gA g (3 * a))), (1, .int (nI i)), (2, .ref (gA g (3 * b))), (3, .int (nI j)), (4, .int (nI n))]) hx hb dX5_transferItems_18 hl (by decide) rfl (fun ls hl => ?_)
      have loop : ∀ (d k : Nat), k + d = n → ∀ (H : Heap) (locs : List Loc) (ls : Array Slot), CR D cy A (sI r (mvB (rI r) (rS r b + j) n (fun q => f_at r a (i + q)) k)) g H → va_S A s.heap H locs → lv_has ls 9 [(6, .int (nI k)), (5, .int 1), (0, .ref (gA g (3 * a))), (1, .int (nI i)), (2, .ref (gA g (3 * b))), (3, .int (nI j)), (4, .int (nI n))] → W p l e (rmd 5 0 0) s m ([.ref (gA g (3 * a)), .int (nI i), .ref (gA g (3 * b)), .int (nI j), .int (nI n)] : List Value).toArray below meth c H locs (0) (0) (MQ below (px_Q (px_Cx D cy A g (some (.int (f_come r a b j n (fun q => f_at r a (i + q))).2)) ((f_come r a b j n (fun q => f_at r a (i + q))).1)) A) ([.ref (gA g (3 * a)), .int (nI i), .ref (gA g (3 * b)), .int (nI j), .int (nI n)] : List Value).toArray s (0) (0) A) (F0 m 20 ls []) := by
        intro d
        induction d with
        | zero =>
          intro k hk H locs ls hR hS hl
          refine lv_iload hx hb dX5_transferItems_20 (lv_at hl 0 rfl) ?_
          refine lv_iload hx hb dX5_transferItems_22 (lv_at hl 6 rfl) ?_
          refine lv_icmp_ge (tgt := 79) hx hb dX5_transferItems_24 (by decide) (fun h_24 => ?_) (fun h_24 => by exfalso; have h_24 : k < n := nInle (show ¬ nI n ≤ nI k from h_24) (by omega) (by omega); omega)
          have h_24 : n ≤ k := nIle (show nI n ≤ nI k from h_24) (by omega) (by omega)
          refine lv_iload hx hb dX5_transferItems_79 (lv_at hl 6 rfl) ?_
          exact px_iret F hr hlocks hS (by have e : f_come r a b j n (fun q => f_at r a (i + q)) = (sI r (mvB (rI r) (rS r b + j) n (fun q => f_at r a (i + q)) k), nI n) := (by have hkn : k = n := (by omega); subst hkn; rw [mvBF]; have e8 := come_all (r := r) (a := a) (b := b) (j := j) (n := k) (v := (fun q => f_at r a (i + q))) (fun q hq => by have q9 := hSt h_2 (i + q) (by omega); rw [← h_2]; exact q9); exact e8); rw [e]; exact ⟨rfl, hR⟩) dX5_transferItems_81
        | succ d ih_loop =>
          intro k hk H locs ls hR hS hl
          refine lv_iload hx hb dX5_transferItems_20 (lv_at hl 0 rfl) ?_
          refine lv_iload hx hb dX5_transferItems_22 (lv_at hl 6 rfl) ?_
          refine lv_icmp_ge (tgt := 79) hx hb dX5_transferItems_24 (by decide) (fun h_24 => by exfalso; have h_24 : n ≤ k := nIle (show nI n ≤ nI k from h_24) (by omega) (by omega); omega) (fun h_24 => ?_)
          have h_24 : k < n := nInle (show ¬ nI n ≤ nI k from h_24) (by omega) (by omega)
          refine lv_iload hx hb dX5_transferItems_27 (lv_at hl 1 rfl) ?_
          refine lv_if_eq (tgt := 42) hx hb dX5_transferItems_29 (by decide) (fun h => absurd h (by decide)) (fun _ => ?_)
          refine lv_iload hx hb dX5_transferItems_32 (lv_at hl 6 rfl) ?_
          refine lv_iconst (v := 1) hx hb dX5_transferItems_34 (by decide) ?_
          refine lv_isub hx hb dX5_transferItems_35 ?_
          refine lv_iload hx hb dX5_transferItems_36 (lv_at hl 0 rfl) ?_
          refine lv_isub hx hb dX5_transferItems_38 ?_
          refine px_topi (y := nI (n - 1 - k)) (by show nI n - nI 1 - nI k = _; rw [pk_sub (by omega), pk_sub (by omega)]) ?_
          refine lv_goto (tgt := 44) hx hb dX5_transferItems_39 (by decide) ?_
          refine lv_istore (lv' := [(7, .int (nI (n - 1 - k))), (6, .int (nI k)), (5, .int 1), (0, .ref (gA g (3 * a))), (1, .int (nI i)), (2, .ref (gA g (3 * b))), (3, .int (nI j)), (4, .int (nI n))]) hx hb dX5_transferItems_44 hl (by decide) rfl (fun ls hl => ?_)
          refine lv_aload_n hx hb dX5_transferItems_46 rfl (lv_at hl 5 rfl) ?_
          refine lv_iload_n hx hb dX5_transferItems_47 rfl (lv_at hl 6 rfl) ?_
          refine lv_iload hx hb dX5_transferItems_48 (lv_at hl 0 rfl) ?_
          refine lv_iadd hx hb dX5_transferItems_50 ?_
          refine px_topi (y := nI (j + (n - 1 - k))) (nI_add _ _) ?_
          refine lv_aload_n hx hb dX5_transferItems_51 rfl (lv_at hl 3 rfl) ?_
          refine lv_iload_n hx hb dX5_transferItems_52 rfl (lv_at hl 4 rfl) ?_
          refine lv_iload hx hb dX5_transferItems_53 (lv_at hl 0 rfl) ?_
          refine lv_iadd hx hb dX5_transferItems_55 ?_
          refine px_topi (y := nI (i + (n - 1 - k))) (nI_add _ _) ?_
          refine px_goV (st1 := [va_rf (c_item (gA g) (sI r (mvB (rI r) (rS r b + j) n (fun q => f_at r a (i + q)) k)) a (nI (i + (n - 1 - k)))), .int (nI (j + (n - 1 - k))), .ref (gA g (3 * b))]) (px_callS F hK (c_X5_itemAt l D cy A (sI r (mvB (rI r) (rS r b + j) n (fun q => f_at r a (i + q)) k)) g _ a (.ref (gA g (3 * a))) (nI (i + (n - 1 - k))) (col_t (by omega)) (by omega) (by omega)) kc_X5_itemAt kw_methodLink_RX5_95 rfl hR rfl ⟨rfl, rfl⟩ ⟨Nat.le_of_ble_eq_true rfl, Nat.le_of_ble_eq_true rfl⟩ hl.1 rfl (Nat.le_of_ble_eq_true rfl) dX5_transferItems_56 ⟨Nat.zero_le _, Nat.zero_le _⟩) rfl ?_
          have hat : f_at (sI r (mvB (rI r) (rS r b + j) n (fun q => f_at r a (i + q)) k)) a (i + (n - 1 - k)) = f_at r a (i + (n - 1 - k)) := at_mvB h_2 (by omega) (by omega)
          have hiv := (hV.2.1 a h0_a ht_a).2.2 (i + (n - 1 - k)) (by omega) ha8
          rcases c_item_4 (r := (sI r (mvB (rI r) (rS r b + j) n (fun q => f_at r a (i + q)) k))) (t := a) (j := i + (n - 1 - k)) (gA g) h0_a ha8 (show rMn r a ≤ 30 by omega) (show i + (n - 1 - k) < rMn r a by omega) hat hiv.1 hiv.2.1 hiv.2.2 with ⟨hv9, hq9⟩ | ⟨w, hv9, hw1, hw2, hk9, hq9⟩ | ⟨w, hv9, hw1, hw2, hk9, hq9⟩
          · refine px_topv (y := .null) (by rw [hq9]; rfl) ?_
            have e9 := place_eq (r := (sI r (mvB (rI r) (rS r b + j) n (fun q => f_at r a (i + q)) k))) (a := a) (b := b) (j := j + (n - 1 - k)) (ty := 0) (w := 0) (v := f_at r a (i + (n - 1 - k))) h0_b (show rMn r b ≤ 30 by omega) (show j + (n - 1 - k) < rMn r b by omega) hb8 (show rK r b ≤ 13 by omega) (show 0 < 2 ^ 31 by omega) (hkb 0) (Or.inl ⟨rfl, hv9⟩)
            rw [show (if f_canStand (sI r (mvB (rI r) (rS r b + j) n (fun q => f_at r a (i + q)) k)) a (f_at r a (i + (n - 1 - k))) b then (f_put (sI r (mvB (rI r) (rS r b + j) n (fun q => f_at r a (i + q)) k)) b (j + (n - 1 - k)) (f_at r a (i + (n - 1 - k))), 1) else ((sI r (mvB (rI r) (rS r b + j) n (fun q => f_at r a (i + q)) k)), -15)) = ((f_put (sI r (mvB (rI r) (rS r b + j) n (fun q => f_at r a (i + q)) k)) b (j + (n - 1 - k)) (f_at r a (i + (n - 1 - k))), 1) : RS × Int32) from if_pos (show f_canStand r a (f_at r a (i + (n - 1 - k))) b = true from (by have q9 := hSt h_2 (i + (n - 1 - k)) (by omega); rw [← h_2]; exact q9))] at e9
            have h9 := c_X5_place l D cy A (sI r (mvB (rI r) (rS r b + j) n (fun q => f_at r a (i + q)) k)) g H.size b (.ref (gA g (3 * b))) 0 0 .null (nI (j + (n - 1 - k))) (col_t (by omega)) ht_b rfl (Or.inl rfl) (show rMn r b ≤ 30 by omega) hM0 hV.1 (hkb b) (hkb 0) (by omega)
            rw [e9] at h9
            refine px_goCx (st1 := [.int 1]) (px_callS F hK (h9) kc_X5_place kw_methodLink_RX5_87 rfl hR rfl ⟨rfl, rfl⟩ ⟨Nat.le_of_ble_eq_true rfl, Nat.le_of_ble_eq_true rfl⟩ hl.1 rfl (Nat.le_of_ble_eq_true rfl) dX5_transferItems_59 ⟨Nat.zero_le _, Nat.zero_le _⟩) hS rfl (fun H locs hR hS => ?_)
            refine lv_istore (lv' := [(8, .int 1), (7, .int (nI (n - 1 - k))), (6, .int (nI k)), (5, .int 1), (0, .ref (gA g (3 * a))), (1, .int (nI i)), (2, .ref (gA g (3 * b))), (3, .int (nI j)), (4, .int (nI n))]) hx hb dX5_transferItems_62 hl (by decide) rfl (fun ls hl => ?_)
            refine lv_iload hx hb dX5_transferItems_64 (lv_at hl 0 rfl) ?_
            refine lv_iconst (v := 1) hx hb dX5_transferItems_66 (by decide) ?_
            refine lv_icmp_eq (tgt := 73) hx hb dX5_transferItems_67 (by decide) (fun _ => ?_) (fun h => absurd h (by decide))
            refine lv_iinc (v := nI (k + 1)) (lv' := [(6, .int (nI (k + 1))), (8, .int 1), (7, .int (nI (n - 1 - k))), (5, .int 1), (0, .ref (gA g (3 * a))), (1, .int (nI i)), (2, .ref (gA g (3 * b))), (3, .int (nI j)), (4, .int (nI n))]) hx hb dX5_transferItems_73 hl (k := 2) rfl (by show nI k + 1 = nI (k + 1); exact nI_1 _) (by decide) rfl (fun ls hl => ?_)
            refine lv_goto (tgt := 20) hx hb dX5_transferItems_76 (by decide) ?_
            exact ih_loop (k + 1) (by omega) _ _ _ (by rw [show mvB (rI r) (rS r b + j) n (fun q => f_at r a (i + q)) (k + 1) = va_up (mvB (rI r) (rS r b + j) n (fun q => f_at r a (i + q)) k) (rS r b + (j + (n - 1 - k))) (f_at r a (i + (n - 1 - k))) from (by rw [← Nat.add_assoc]; rfl)]; exact hR) hS (lv_sub hl [0, 3, 4, 5, 6, 7, 8] rfl)
          · refine px_topv (y := .ref (gA g (3 * w + 2))) (by rw [hq9]; rfl) ?_
            have hw2 : w ≤ rM r := hw2
            have e9 := place_eq (r := (sI r (mvB (rI r) (rS r b + j) n (fun q => f_at r a (i + q)) k))) (a := a) (b := b) (j := j + (n - 1 - k)) (ty := 1) (w := w) (v := f_at r a (i + (n - 1 - k))) h0_b (show rMn r b ≤ 30 by omega) (show j + (n - 1 - k) < rMn r b by omega) hb8 (show rK r b ≤ 13 by omega) (show w < 2 ^ 31 by omega) (hkb w) (Or.inr (Or.inl ⟨rfl, hw1, hv9, hk9⟩))
            rw [show (if f_canStand (sI r (mvB (rI r) (rS r b + j) n (fun q => f_at r a (i + q)) k)) a (f_at r a (i + (n - 1 - k))) b then (f_put (sI r (mvB (rI r) (rS r b + j) n (fun q => f_at r a (i + q)) k)) b (j + (n - 1 - k)) (f_at r a (i + (n - 1 - k))), 1) else ((sI r (mvB (rI r) (rS r b + j) n (fun q => f_at r a (i + q)) k)), -15)) = ((f_put (sI r (mvB (rI r) (rS r b + j) n (fun q => f_at r a (i + q)) k)) b (j + (n - 1 - k)) (f_at r a (i + (n - 1 - k))), 1) : RS × Int32) from if_pos (show f_canStand r a (f_at r a (i + (n - 1 - k))) b = true from (by have q9 := hSt h_2 (i + (n - 1 - k)) (by omega); rw [← h_2]; exact q9))] at e9
            have h9 := c_X5_place l D cy A (sI r (mvB (rI r) (rS r b + j) n (fun q => f_at r a (i + q)) k)) g H.size b (.ref (gA g (3 * b))) 1 w (.ref (gA g (3 * w + 2))) (nI (j + (n - 1 - k))) (col_t (by omega)) ht_b rfl (Or.inr (Or.inl ⟨rfl, hw1, hw2⟩)) (show rMn r b ≤ 30 by omega) hM0 hV.1 (hkb b) (hkb w) (by omega)
            rw [e9] at h9
            refine px_goCx (st1 := [.int 1]) (px_callS F hK (h9) kc_X5_place kw_methodLink_RX5_87 rfl hR rfl ⟨rfl, rfl⟩ ⟨Nat.le_of_ble_eq_true rfl, Nat.le_of_ble_eq_true rfl⟩ hl.1 rfl (Nat.le_of_ble_eq_true rfl) dX5_transferItems_59 ⟨Nat.zero_le _, Nat.zero_le _⟩) hS rfl (fun H locs hR hS => ?_)
            refine lv_istore (lv' := [(8, .int 1), (7, .int (nI (n - 1 - k))), (6, .int (nI k)), (5, .int 1), (0, .ref (gA g (3 * a))), (1, .int (nI i)), (2, .ref (gA g (3 * b))), (3, .int (nI j)), (4, .int (nI n))]) hx hb dX5_transferItems_62 hl (by decide) rfl (fun ls hl => ?_)
            refine lv_iload hx hb dX5_transferItems_64 (lv_at hl 0 rfl) ?_
            refine lv_iconst (v := 1) hx hb dX5_transferItems_66 (by decide) ?_
            refine lv_icmp_eq (tgt := 73) hx hb dX5_transferItems_67 (by decide) (fun _ => ?_) (fun h => absurd h (by decide))
            refine lv_iinc (v := nI (k + 1)) (lv' := [(6, .int (nI (k + 1))), (8, .int 1), (7, .int (nI (n - 1 - k))), (5, .int 1), (0, .ref (gA g (3 * a))), (1, .int (nI i)), (2, .ref (gA g (3 * b))), (3, .int (nI j)), (4, .int (nI n))]) hx hb dX5_transferItems_73 hl (k := 2) rfl (by show nI k + 1 = nI (k + 1); exact nI_1 _) (by decide) rfl (fun ls hl => ?_)
            refine lv_goto (tgt := 20) hx hb dX5_transferItems_76 (by decide) ?_
            exact ih_loop (k + 1) (by omega) _ _ _ (by rw [show mvB (rI r) (rS r b + j) n (fun q => f_at r a (i + q)) (k + 1) = va_up (mvB (rI r) (rS r b + j) n (fun q => f_at r a (i + q)) k) (rS r b + (j + (n - 1 - k))) (f_at r a (i + (n - 1 - k))) from (by rw [← Nat.add_assoc]; rfl)]; exact hR) hS (lv_sub hl [0, 3, 4, 5, 6, 7, 8] rfl)
          · refine px_topv (y := .ref (gA g (3 * w))) (by rw [hq9]; rfl) ?_
            have hw2 : w ≤ rT r := hw2
            have hkw9 := (hV.2.1 w hw1 hw2).1
            have e9 := place_eq (r := (sI r (mvB (rI r) (rS r b + j) n (fun q => f_at r a (i + q)) k))) (a := a) (b := b) (j := j + (n - 1 - k)) (ty := 2) (w := w) (v := f_at r a (i + (n - 1 - k))) h0_b (show rMn r b ≤ 30 by omega) (show j + (n - 1 - k) < rMn r b by omega) hb8 (show rK r b ≤ 13 by omega) (show w < 2 ^ 31 by omega) (hkb w) (Or.inr (Or.inr ⟨rfl, hw1, hv9, hk9⟩))
            rw [show (if f_canStand (sI r (mvB (rI r) (rS r b + j) n (fun q => f_at r a (i + q)) k)) a (f_at r a (i + (n - 1 - k))) b then (f_put (sI r (mvB (rI r) (rS r b + j) n (fun q => f_at r a (i + q)) k)) b (j + (n - 1 - k)) (f_at r a (i + (n - 1 - k))), 1) else ((sI r (mvB (rI r) (rS r b + j) n (fun q => f_at r a (i + q)) k)), -15)) = ((f_put (sI r (mvB (rI r) (rS r b + j) n (fun q => f_at r a (i + q)) k)) b (j + (n - 1 - k)) (f_at r a (i + (n - 1 - k))), 1) : RS × Int32) from if_pos (show f_canStand r a (f_at r a (i + (n - 1 - k))) b = true from (by have q9 := hSt h_2 (i + (n - 1 - k)) (by omega); rw [← h_2]; exact q9))] at e9
            have h9 := c_X5_place l D cy A (sI r (mvB (rI r) (rS r b + j) n (fun q => f_at r a (i + q)) k)) g H.size b (.ref (gA g (3 * b))) 2 w (.ref (gA g (3 * w))) (nI (j + (n - 1 - k))) (col_t (by omega)) ht_b rfl (Or.inr (Or.inr ⟨rfl, hw1, hw2⟩)) (show rMn r b ≤ 30 by omega) hM0 hV.1 (hkb b) (hkb w) (by omega)
            rw [e9] at h9
            refine px_goCx (st1 := [.int 1]) (px_callS F hK (h9) kc_X5_place kw_methodLink_RX5_87 rfl hR rfl ⟨rfl, rfl⟩ ⟨Nat.le_of_ble_eq_true rfl, Nat.le_of_ble_eq_true rfl⟩ hl.1 rfl (Nat.le_of_ble_eq_true rfl) dX5_transferItems_59 ⟨Nat.zero_le _, Nat.zero_le _⟩) hS rfl (fun H locs hR hS => ?_)
            refine lv_istore (lv' := [(8, .int 1), (7, .int (nI (n - 1 - k))), (6, .int (nI k)), (5, .int 1), (0, .ref (gA g (3 * a))), (1, .int (nI i)), (2, .ref (gA g (3 * b))), (3, .int (nI j)), (4, .int (nI n))]) hx hb dX5_transferItems_62 hl (by decide) rfl (fun ls hl => ?_)
            refine lv_iload hx hb dX5_transferItems_64 (lv_at hl 0 rfl) ?_
            refine lv_iconst (v := 1) hx hb dX5_transferItems_66 (by decide) ?_
            refine lv_icmp_eq (tgt := 73) hx hb dX5_transferItems_67 (by decide) (fun _ => ?_) (fun h => absurd h (by decide))
            refine lv_iinc (v := nI (k + 1)) (lv' := [(6, .int (nI (k + 1))), (8, .int 1), (7, .int (nI (n - 1 - k))), (5, .int 1), (0, .ref (gA g (3 * a))), (1, .int (nI i)), (2, .ref (gA g (3 * b))), (3, .int (nI j)), (4, .int (nI n))]) hx hb dX5_transferItems_73 hl (k := 2) rfl (by show nI k + 1 = nI (k + 1); exact nI_1 _) (by decide) rfl (fun ls hl => ?_)
            refine lv_goto (tgt := 20) hx hb dX5_transferItems_76 (by decide) ?_
            exact ih_loop (k + 1) (by omega) _ _ _ (by rw [show mvB (rI r) (rS r b + j) n (fun q => f_at r a (i + q)) (k + 1) = va_up (mvB (rI r) (rS r b + j) n (fun q => f_at r a (i + q)) k) (rS r b + (j + (n - 1 - k))) (f_at r a (i + (n - 1 - k))) from (by rw [← Nat.add_assoc]; rfl)]; exact hR) hS (lv_sub hl [0, 3, 4, 5, 6, 7, 8] rfl)
      exact loop n 0 (by omega) _ _ _ hR hS (lv_sub hl [0, 1, 2, 3, 4, 5, 6] rfl)
