/-! the class: placeNewRows, newDeepTable -/
set_option maxHeartbeats 400000 in
set_option maxRecDepth 100000 in
theorem c_X5_placeNewRows (l : Launch) (D : va_G) (cy : Nat → ClassId) (A : Nat → Prop) (r : RS) (g : CG) (sz : Nat)  (row ll : Nat)  (hA : ∀ q, sz ≤ q → A q) (hV : VR r) (hK9 : VK r) (h0_row : row ≠ 0) (ht_row : row ≤ rT r) (hk10 : rK r row = 10) (hl30 : ll ≤ 30) (hTb : rT r < 90000) : Met l yX5_placeNewRows (px_w yX5_placeNewRows cX5_placeNewRows 4 none) (rmd 6 (cC r (dp_in row ll r (rMn r row))) (cS r (dp_in row ll r (rMn r row)))) (px_P D cy [.ref (gA g 0), .ref (gA g (3 * row)), .int (nI ll)] sz (CR D cy A r g)) (px_Q (px_Cw D cy A r g (fun _ => none) (dp_in row ll r (rMn r row)) (gM g)) A) (cC r (dp_in row ll r (rMn r row))) (cS r (dp_in row ll r (rMn r row))) A := by
  refine px_met (by decide) (Nat.le_of_ble_eq_true rfl) ?_
  intro p e s m below meth c F hr hlocks hnm hK hsz hR ls hl
  have hx := F.1
  have hb := F.2.1
  have hS : va_S A s.heap s.heap [] := va_S.rf
  have hA9 : ∀ q, s.heap.size ≤ q → A q := fun q h => hA q (by omega)
  have hm30 := (hK9 row).2
  have hl : lv_has ls 4 [(0, .ref (gA g 0)), (1, .ref (gA g (3 * row))), (2, .int (nI ll))] := hl
  refine lv_iconst (v := 0) hx hb dX5_placeNewRows_0 (by decide) ?_
  refine lv_istore_n (lv' := [(3, .int 0), (0, .ref (gA g 0)), (1, .ref (gA g (3 * row))), (2, .int (nI ll))]) hx hb dX5_placeNewRows_1 rfl hl (by decide) rfl (fun ls hl => ?_)
  have loop : ∀ (d k : Nat), k + d = rMn r row → ∀ (H : Heap) (locs : List Loc) (ls : Array Slot) (gk : CG) , GX (r) (g) (dp_in row ll r k) gk → gM gk = gM g → CR D cy A (dp_in row ll r k) gk H → va_S A s.heap H locs → lv_has ls 4 [(3, .int (nI k)), (0, .ref (gA gk 0)), (1, .ref (gA gk (3 * row))), (2, .int (nI ll))] → W p l e (rmd 6 (cC r (dp_in row ll r (rMn r row))) (cS r (dp_in row ll r (rMn r row)))) s m ([.ref (gA g 0), .ref (gA g (3 * row)), .int (nI ll)] : List Value).toArray below meth c H locs (cC r (dp_in row ll r k)) (cS r (dp_in row ll r k)) (MQ below (px_Q (px_Cw D cy A r g (fun _ => none) (dp_in row ll r (rMn r row)) (gM g)) A) ([.ref (gA g 0), .ref (gA g (3 * row)), .int (nI ll)] : List Value).toArray s (cC r (dp_in row ll r (rMn r row))) (cS r (dp_in row ll r (rMn r row))) A) (F0 m 2 ls []) := by
    intro d
    induction d with
    | zero =>
      intro k hk H locs ls gk hE hM9 hR hS hl
      obtain ⟨⟨hVk, hKk, hMNk, hMk, hOk, _⟩, hTk⟩ := dp_in_f (l := ll) hV hK9 h0_row ht_row hk10 hl30 hTb k (by omega)
      have hRow1 := (hOk row ht_row).1
      have hRow2 := (hOk row ht_row).2
      have hcc1 : cC r (dp_in row ll r k) ≤ cC r (dp_in row ll r (rMn r row)) := cC_le (dp_in_mono row ll r (by omega))
      have hcs1 : cS r (dp_in row ll r k) ≤ cS r (dp_in row ll r (rMn r row)) := cS_le (dp_in_mono row ll r (by omega))
      refine lv_iload_n hx hb dX5_placeNewRows_2 rfl (lv_at hl 0 rfl) ?_
      refine lv_aload_n hx hb dX5_placeNewRows_3 rfl (lv_at hl 2 rfl) ?_
      refine c_cnt F hK hR (t := row) (by omega) (show row ≤ rT (dp_in row ll r k) by omega) ⟨Nat.le_of_ble_eq_true rfl, Nat.le_of_ble_eq_true rfl⟩ hl.1 (Nat.le_of_ble_eq_true rfl) ⟨hcc1, hcs1⟩ dX5_placeNewRows_4 ?_
      refine lv_icmp_ge (tgt := 28) hx hb dX5_placeNewRows_7 (by decide) (fun h_7 => ?_) (fun h_7 => by exfalso; have h_7 : k < (rMn (dp_in row ll r k) row) := nInle (show ¬ nI (rMn (dp_in row ll r k) row) ≤ nI k from h_7) (by omega) (by omega); omega)
      have h_7 : (rMn (dp_in row ll r k) row) ≤ k := nIle (show nI (rMn (dp_in row ll r k) row) ≤ nI k from h_7) (by omega) (by omega)
      have hkm : k = rMn r row := (by omega)
      subst hkm
      exact px_vret F hr hlocks hS ⟨_, rfl, hE, hM9, hR⟩ dX5_placeNewRows_28
    | succ d ih_loop =>
      intro k hk H locs ls gk hE hM9 hR hS hl
      obtain ⟨⟨hVk, hKk, hMNk, hMk, hOk, _⟩, hTk⟩ := dp_in_f (l := ll) hV hK9 h0_row ht_row hk10 hl30 hTb k (by omega)
      have hRow1 := (hOk row ht_row).1
      have hRow2 := (hOk row ht_row).2
      have hcc1 : cC r (dp_in row ll r k) ≤ cC r (dp_in row ll r (rMn r row)) := cC_le (dp_in_mono row ll r (by omega))
      have hcs1 : cS r (dp_in row ll r k) ≤ cS r (dp_in row ll r (rMn r row)) := cS_le (dp_in_mono row ll r (by omega))
      have hnx : MN (f_table (dp_in row ll r k) 4 ll) (dp_in row ll r (rMn r row)) := dp_in_mono row ll r (show k + 1 ≤ rMn r row by omega)
      have hcc2 : cC r (f_table (dp_in row ll r k) 4 ll) ≤ cC r (dp_in row ll r (rMn r row)) := cC_le hnx
      have hcs2 : cS r (f_table (dp_in row ll r k) 4 ll) ≤ cS r (dp_in row ll r (rMn r row)) := cS_le hnx
      have hTV : VR (f_table (dp_in row ll r k) 4 ll) ∧ VK (f_table (dp_in row ll r k) 4 ll) := ⟨hVk.table (by omega) hl30, hKk.table (by omega) hl30⟩
      have hTM : rMn (f_table (dp_in row ll r k) 4 ll) row = rMn r row := (va_up_ne _ _ (by omega)).trans hRow2
      have hTK : rK (f_table (dp_in row ll r k) 4 ll) row = 10 := (va_up_ne _ _ (by omega)).trans (hRow1.trans hk10)
      refine lv_iload_n hx hb dX5_placeNewRows_2 rfl (lv_at hl 0 rfl) ?_
      refine lv_aload_n hx hb dX5_placeNewRows_3 rfl (lv_at hl 2 rfl) ?_
      refine c_cnt F hK hR (t := row) (by omega) (show row ≤ rT (dp_in row ll r k) by omega) ⟨Nat.le_of_ble_eq_true rfl, Nat.le_of_ble_eq_true rfl⟩ hl.1 (Nat.le_of_ble_eq_true rfl) ⟨hcc1, hcs1⟩ dX5_placeNewRows_4 ?_
      refine lv_icmp_ge (tgt := 28) hx hb dX5_placeNewRows_7 (by decide) (fun h_7 => by exfalso; have h_7 : (rMn (dp_in row ll r k) row) ≤ k := nIle (show nI (rMn (dp_in row ll r k) row) ≤ nI k from h_7) (by omega) (by omega); omega) (fun h_7 => ?_)
      have h_7 : k < (rMn (dp_in row ll r k) row) := nInle (show ¬ nI (rMn (dp_in row ll r k) row) ≤ nI k from h_7) (by omega) (by omega)
      refine lv_aload_n hx hb dX5_placeNewRows_10 rfl (lv_at hl 2 rfl) ?_
      refine lv_iload_n hx hb dX5_placeNewRows_11 rfl (lv_at hl 0 rfl) ?_
      refine lv_aload_n hx hb dX5_placeNewRows_12 rfl (lv_at hl 1 rfl) ?_
      refine lv_iconst (v := 4) hx hb dX5_placeNewRows_13 (by decide) ?_
      refine lv_iload_n hx hb dX5_placeNewRows_14 rfl (lv_at hl 3 rfl) ?_
      refine px_goCw (c2 := cC r (f_table (dp_in row ll r k) 4 ll)) (s2 := cS r (f_table (dp_in row ll r k) 4 ll)) (px_callV F hK (c_X5_newTable l D cy A (dp_in row ll r k) gk _ 4 ll (fun q9 h9 => hA9 q9 (Nat.le_trans hS.1 h9)) hVk (by omega) (by omega)) kc_X5_newTable kw_methodLink_RX5_38 rfl hR (c_recv hK hR) rfl ⟨rfl, rfl⟩ ⟨Nat.le_of_ble_eq_true rfl, Nat.le_of_ble_eq_true rfl⟩ hl.1 rfl (Nat.le_of_ble_eq_true rfl) dX5_placeNewRows_15 ⟨Nat.le_trans (cC_t hMNk 4 ll) hcc2, Nat.le_trans (cS_t hMNk 4 ll) hcs2⟩) hS (cC_t hMNk 4 ll) (cS_t hMNk 4 ll) (fun H locs ga hE2 hM2 hR hS => ?_)
      have hE := hE.tr hE2
      have hM9 := hM2.trans hM9
      have hl : lv_has ls 4 [(3, .int (nI k)), (0, .ref (gA ga 0)), (1, .ref (gA ga (3 * row))), (2, .int (nI ll))] := (by rw [hE2.x]; rw [(hE2.t (show row ≤ rT (dp_in row ll r k) by omega))]; exact hl)
      refine W.eq (g2 := F0 m 18 ls [.ref (gA ga (3 * (rT (dp_in row ll r k) + 1))), .int (nI k), .ref (gA ga (3 * row))]) (by rw [(hE2.t (show row ≤ rT (dp_in row ll r k) by omega))]; rfl) ?_
      have h9 := c_X5_place l D cy A (f_table (dp_in row ll r k) 4 ll) ga H.size row (.ref (gA ga (3 * row))) 2 (rT (dp_in row ll r k) + 1) (.ref (gA ga (3 * (rT (dp_in row ll r k) + 1)))) (nI k) (col_t (by omega)) (show row ≤ rT (dp_in row ll r k) + 1 by omega) rfl (Or.inr (Or.inr ⟨rfl, Nat.succ_ne_zero _, Nat.le_refl _⟩)) (hTV.2 row).2 (hTV.2 0).2 hTV.1.1 (hTV.2.k row) (hTV.2.k _) (by omega)
      rw [place_ok h0_row (hTV.2 row).2 (by rw [hTM]; omega) (by rw [hTK]; omega) (by have q9 := cs_row (r := dp_in row ll r k) (t := row) (n := ll) (by omega) (by omega) (by omega); rw [show rkN (rK (dp_in row ll r k) row) = 4 by rw [hRow1, hk10]; rfl] at q9; exact q9)] at h9
      refine px_goCx (st1 := [.int 1]) (px_callS F hK (h9) kc_X5_place kw_methodLink_RX5_87 rfl hR rfl ⟨rfl, rfl⟩ ⟨Nat.le_of_ble_eq_true rfl, Nat.le_of_ble_eq_true rfl⟩ hl.1 rfl (Nat.le_of_ble_eq_true rfl) dX5_placeNewRows_18 ⟨hcc2, hcs2⟩) hS rfl (fun H locs hR hS => ?_)
      refine lv_pop hx hb dX5_placeNewRows_21 rfl ?_
      refine lv_iinc (v := nI (k + 1)) (lv' := [(3, .int (nI (k + 1))), (0, .ref (gA ga 0)), (1, .ref (gA ga (3 * row))), (2, .int (nI ll))]) hx hb dX5_placeNewRows_22 hl (k := 0) rfl (by show nI k + 1 = nI (k + 1); exact nI_1 _) (by decide) rfl (fun ls hl => ?_)
      refine lv_goto (tgt := 2) hx hb dX5_placeNewRows_25 (by decide) ?_
      exact W.widen (Nat.le_refl _) (Nat.le_refl _) (ih_loop (k + 1) (by omega) _ _ _ _ (hE.put _ _ _) hM9 hR hS (lv_sub hl [0, 1, 2, 3] rfl))
  exact W.widen (Nat.zero_le _) (Nat.zero_le _) (loop (rMn r row) 0 (by omega) _ _ _ _ (GX.rf rfl rfl) rfl hR hS (lv_sub hl [0, 1, 2, 3] rfl))
