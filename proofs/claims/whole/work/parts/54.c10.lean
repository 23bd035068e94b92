/-! the class: newDeepTable -/
set_option maxHeartbeats 400000 in
set_option maxRecDepth 100000 in
theorem c_X5_newDeepTable (l : Launch) (D : va_G) (cy : Nat → ClassId) (A : Nat → Prop) (r : RS) (g : CG) (sz : Nat)  (kd n mm ll : Nat)  (hA : ∀ q, sz ≤ q → A q) (hV : VR r) (hK9 : VK r) (h10 : 10 ≤ kd) (h13 : kd ≤ 13) (hn30 : n ≤ 30) (hm30 : mm ≤ 30) (hl30 : ll ≤ 30) (hTb : rT r < 60000) : Met l yX5_newDeepTable (px_w yX5_newDeepTable cX5_newDeepTable 8 (some (.object "PlanCopies$Table"))) (rmd 7 (cC r (f_deepT r kd n mm ll)) (cS r (f_deepT r kd n mm ll))) (px_P D cy [.ref (gA g 0), .int (nI kd), .int (nI n), .int (nI mm), .int (nI ll)] sz (CR D cy A r g)) (px_Q (px_Cw D cy A r g (fun g2 => some (.ref (gA g2 (3 * (rT r + 1))))) (f_deepT r kd n mm ll) (gM g)) A) (cC r (f_deepT r kd n mm ll)) (cS r (f_deepT r kd n mm ll)) A := by
  refine px_met (by decide) (Nat.le_of_ble_eq_true rfl) ?_
  intro p e s m below meth c F hr hlocks hnm hK hsz hR ls hl
  have hx := F.1
  have hb := F.2.1
  have hS : va_S A s.heap s.heap [] := va_S.rf
  have hA9 : ∀ q, s.heap.size ≤ q → A q := fun q h => hA q (by omega)
  have hV1 : VR (f_table r kd n) := hV.table h13 hn30
  have hK1 : VK (f_table r kd n) := hK9.table h13 hn30
  have hk1 : rK (f_table r kd n) (rT r + 1) = kd := va_up_self _ _ _
  have hn1 : rMn (f_table r kd n) (rT r + 1) = n := va_up_self _ _ _
  have hcc0 : cC r (f_table r kd n) ≤ cC r (f_deepT r kd n mm ll) := cC_le (dp_out_mono kd mm ll (rT r + 1) (f_table r kd n) (Nat.zero_le n))
  have hcs0 : cS r (f_table r kd n) ≤ cS r (f_deepT r kd n mm ll) := cS_le (dp_out_mono kd mm ll (rT r + 1) (f_table r kd n) (Nat.zero_le n))
  have hl : lv_has ls 8 [(0, .ref (gA g 0)), (1, .int (nI kd)), (2, .int (nI n)), (3, .int (nI mm)), (4, .int (nI ll))] := hl
  refine lv_aload_n hx hb dX5_newDeepTable_0 rfl (lv_at hl 0 rfl) ?_
  refine lv_iload_n hx hb dX5_newDeepTable_1 rfl (lv_at hl 1 rfl) ?_
  refine lv_iload_n hx hb dX5_newDeepTable_2 rfl (lv_at hl 2 rfl) ?_
  refine px_goCw (c2 := cC r (f_table r kd n)) (s2 := cS r (f_table r kd n)) (px_callV F hK (c_X5_newTable l D cy A r g _ kd n (fun q9 h9 => hA9 q9 (Nat.le_trans hS.1 h9)) hV (by omega) (by omega)) kc_X5_newTable kw_methodLink_RX5_38 rfl hR (c_recv hK hR) rfl ⟨rfl, rfl⟩ ⟨Nat.le_of_ble_eq_true rfl, Nat.le_of_ble_eq_true rfl⟩ hl.1 rfl (Nat.le_of_ble_eq_true rfl) dX5_newDeepTable_3 ⟨Nat.le_trans (Nat.le_trans (by rw [← cC_0 r]; exact cC_t MN.rf kd n) hcc0) (Nat.le_refl _), Nat.le_trans (by rw [← cS_0 r]; exact cS_t MN.rf kd n) hcs0⟩) hS (by rw [← cC_0 r]; exact cC_t MN.rf kd n) (by rw [← cS_0 r]; exact cS_t MN.rf kd n) (fun H locs ga hE2 hM2 hR hS => ?_)
  have hE : GX r g (f_table r kd n) ga := (GX.rf rfl rfl : GX r g (r) g).tr hE2
  have hM9 := hM2
  have hl : lv_has ls 8 [(0, .ref (gA ga 0)), (1, .int (nI kd)), (2, .int (nI n)), (3, .int (nI mm)), (4, .int (nI ll))] := (by rw [hE2.x]; exact hl)
  refine W.eq (g2 := F0 m 6 ls [.ref (gA ga (3 * (rT r + 1)))]) (by rfl) ?_
  refine lv_astore (lv' := [(5, .ref (gA ga (3 * (rT r + 1)))), (0, .ref (gA ga 0)), (1, .int (nI kd)), (2, .int (nI n)), (3, .int (nI mm)), (4, .int (nI ll))]) hx hb dX5_newDeepTable_6 hl (by decide) rfl (fun ls hl => ?_)
  refine lv_iconst (v := 0) hx hb dX5_newDeepTable_8 (by decide) ?_
  refine lv_istore (lv' := [(6, .int 0), (5, .ref (gA ga (3 * (rT r + 1)))), (0, .ref (gA ga 0)), (1, .int (nI kd)), (2, .int (nI n)), (3, .int (nI mm)), (4, .int (nI ll))]) hx hb dX5_newDeepTable_9 hl (by decide) rfl (fun ls hl => ?_)
  have loop : ∀ (d k : Nat), k + d = n → ∀ (H : Heap) (locs : List Loc) (ls : Array Slot) (gk : CG) , GX (r) (g) (dp_out kd mm ll (rT r + 1) (f_table r kd n) k) gk → gM gk = gM g → CR D cy A (dp_out kd mm ll (rT r + 1) (f_table r kd n) k) gk H → va_S A s.heap H locs → lv_has ls 8 [(6, .int (nI k)), (5, .ref (gA gk (3 * (rT r + 1)))), (0, .ref (gA gk 0)), (1, .int (nI kd)), (2, .int (nI n)), (3, .int (nI mm)), (4, .int (nI ll))] → W p l e (rmd 7 (cC r (f_deepT r kd n mm ll)) (cS r (f_deepT r kd n mm ll))) s m ([.ref (gA g 0), .int (nI kd), .int (nI n), .int (nI mm), .int (nI ll)] : List Value).toArray below meth c H locs (cC r (dp_out kd mm ll (rT r + 1) (f_table r kd n) k)) (cS r (dp_out kd mm ll (rT r + 1) (f_table r kd n) k)) (MQ below (px_Q (px_Cw D cy A r g (fun g2 => some (.ref (gA g2 (3 * (rT r + 1))))) (f_deepT r kd n mm ll) (gM g)) A) ([.ref (gA g 0), .int (nI kd), .int (nI n), .int (nI mm), .int (nI ll)] : List Value).toArray s (cC r (f_deepT r kd n mm ll)) (cS r (f_deepT r kd n mm ll)) A) (F0 m 11 ls []) := by
    intro d
    induction d with
    | zero =>
      intro k hk H locs ls gk hE hM9 hR hS hl
      obtain ⟨⟨hVk, hKk, hMNk, hMk, hOk, _⟩, hTk⟩ := dp_out_f (m := mm) (l := ll) hV1 hK1 (Nat.succ_ne_zero (rT r)) (Nat.le_refl (rT r + 1)) hk1 h10 h13 hm30 hl30 (show rT r + 1 < 70000 by omega) k (by rw [hn1]; omega)
      have hRow1 : rK (dp_out kd mm ll (rT r + 1) (f_table r kd n) k) (rT r + 1) = kd := (hOk (rT r + 1) (Nat.le_refl (rT r + 1))).1.trans hk1
      have hRow2 : rMn (dp_out kd mm ll (rT r + 1) (f_table r kd n) k) (rT r + 1) = n := (hOk (rT r + 1) (Nat.le_refl (rT r + 1))).2.trans hn1
      have hMNr : MN r (dp_out kd mm ll (rT r + 1) (f_table r kd n) k) := (MN.table r kd n).tr hMNk
      have hTle : rT r + 1 ≤ rT (dp_out kd mm ll (rT r + 1) (f_table r kd n) k) := hMNk.1
      have hTk : rT (dp_out kd mm ll (rT r + 1) (f_table r kd n) k) ≤ rT r + 1 + 31 * k := hTk
      have hcc1 : cC r (dp_out kd mm ll (rT r + 1) (f_table r kd n) k) ≤ cC r (dp_out kd mm ll (rT r + 1) (f_table r kd n) n) := cC_le (dp_out_mono kd mm ll (rT r + 1) (f_table r kd n) (by omega))
      have hcs1 : cS r (dp_out kd mm ll (rT r + 1) (f_table r kd n) k) ≤ cS r (dp_out kd mm ll (rT r + 1) (f_table r kd n) n) := cS_le (dp_out_mono kd mm ll (rT r + 1) (f_table r kd n) (by omega))
      refine lv_iload hx hb dX5_newDeepTable_11 (lv_at hl 0 rfl) ?_
      refine lv_iload_n hx hb dX5_newDeepTable_13 rfl (lv_at hl 4 rfl) ?_
      refine lv_icmp_ge (tgt := 58) hx hb dX5_newDeepTable_14 (by decide) (fun h_14 => ?_) (fun h_14 => by exfalso; have h_14 : k < n := nInle (show ¬ nI n ≤ nI k from h_14) (by omega) (by omega); omega)
      have h_14 : n ≤ k := nIle (show nI n ≤ nI k from h_14) (by omega) (by omega)
      refine lv_aload hx hb dX5_newDeepTable_58 (lv_at hl 1 rfl) ?_
      have hkn : n = k := (by omega)
      subst hkn
      exact px_aret (r := some (gA gk (3 * (rT r + 1)))) F hr hlocks hS ⟨gk, rfl, hE, hM9, hR⟩ dX5_newDeepTable_60
    | succ d ih_loop =>
      intro k hk H locs ls gk hE hM9 hR hS hl
      obtain ⟨⟨hVk, hKk, hMNk, hMk, hOk, _⟩, hTk⟩ := dp_out_f (m := mm) (l := ll) hV1 hK1 (Nat.succ_ne_zero (rT r)) (Nat.le_refl (rT r + 1)) hk1 h10 h13 hm30 hl30 (show rT r + 1 < 70000 by omega) k (by rw [hn1]; omega)
      have hRow1 : rK (dp_out kd mm ll (rT r + 1) (f_table r kd n) k) (rT r + 1) = kd := (hOk (rT r + 1) (Nat.le_refl (rT r + 1))).1.trans hk1
      have hRow2 : rMn (dp_out kd mm ll (rT r + 1) (f_table r kd n) k) (rT r + 1) = n := (hOk (rT r + 1) (Nat.le_refl (rT r + 1))).2.trans hn1
      have hMNr : MN r (dp_out kd mm ll (rT r + 1) (f_table r kd n) k) := (MN.table r kd n).tr hMNk
      have hTle : rT r + 1 ≤ rT (dp_out kd mm ll (rT r + 1) (f_table r kd n) k) := hMNk.1
      have hTk : rT (dp_out kd mm ll (rT r + 1) (f_table r kd n) k) ≤ rT r + 1 + 31 * k := hTk
      have hcc1 : cC r (dp_out kd mm ll (rT r + 1) (f_table r kd n) k) ≤ cC r (dp_out kd mm ll (rT r + 1) (f_table r kd n) n) := cC_le (dp_out_mono kd mm ll (rT r + 1) (f_table r kd n) (by omega))
      have hcs1 : cS r (dp_out kd mm ll (rT r + 1) (f_table r kd n) k) ≤ cS r (dp_out kd mm ll (rT r + 1) (f_table r kd n) n) := cS_le (dp_out_mono kd mm ll (rT r + 1) (f_table r kd n) (by omega))
      have hrk := rkN_le kd
      have hnx : MN (f_table (dp_out kd mm ll (rT r + 1) (f_table r kd n) k) (rkN kd) mm) (dp_out kd mm ll (rT r + 1) (f_table r kd n) n) := (MN.row_mono kd mm ll (rT r + 1) k (dp_out kd mm ll (rT r + 1) (f_table r kd n) k)).tr (dp_out_mono kd mm ll (rT r + 1) (f_table r kd n) (show k + 1 ≤ n by omega))
      have hcc2 : cC r (f_table (dp_out kd mm ll (rT r + 1) (f_table r kd n) k) (rkN kd) mm) ≤ cC r (dp_out kd mm ll (rT r + 1) (f_table r kd n) n) := cC_le hnx
      have hcs2 : cS r (f_table (dp_out kd mm ll (rT r + 1) (f_table r kd n) k) (rkN kd) mm) ≤ cS r (dp_out kd mm ll (rT r + 1) (f_table r kd n) n) := cS_le hnx
      have hTV : VR (f_table (dp_out kd mm ll (rT r + 1) (f_table r kd n) k) (rkN kd) mm) ∧ VK (f_table (dp_out kd mm ll (rT r + 1) (f_table r kd n) k) (rkN kd) mm) := ⟨hVk.table (by omega) hm30, hKk.table (by omega) hm30⟩
      have hTM : rMn (f_table (dp_out kd mm ll (rT r + 1) (f_table r kd n) k) (rkN kd) mm) (rT r + 1) = n := (va_up_ne _ _ (by omega)).trans hRow2
      have hTK : rK (f_table (dp_out kd mm ll (rT r + 1) (f_table r kd n) k) (rkN kd) mm) (rT r + 1) = kd := (va_up_ne _ _ (by omega)).trans hRow1
      refine lv_iload hx hb dX5_newDeepTable_11 (lv_at hl 0 rfl) ?_
      refine lv_iload_n hx hb dX5_newDeepTable_13 rfl (lv_at hl 4 rfl) ?_
      refine lv_icmp_ge (tgt := 58) hx hb dX5_newDeepTable_14 (by decide) (fun h_14 => by exfalso; have h_14 : n ≤ k := nIle (show nI n ≤ nI k from h_14) (by omega) (by omega); omega) (fun h_14 => ?_)
      have h_14 : k < n := nInle (show ¬ nI n ≤ nI k from h_14) (by omega) (by omega)
      refine lv_aload_n hx hb dX5_newDeepTable_17 rfl (lv_at hl 2 rfl) ?_
      refine lv_iload_n hx hb dX5_newDeepTable_18 rfl (lv_at hl 3 rfl) ?_
      refine px_goV (st1 := [.int (f_kor kd), .ref (gA gk 0)]) (px_callS F hK (c_X5_kindOfRows l D cy _ kd (by omega)) kc_X5_kindOfRows kw_methodLink_RX5_112 rfl trivial rfl ⟨rfl, rfl⟩ ⟨Nat.le_of_ble_eq_true rfl, Nat.le_of_ble_eq_true rfl⟩ hl.1 rfl (Nat.le_of_ble_eq_true rfl) dX5_newDeepTable_19 ⟨hcc1, hcs1⟩) rfl ?_
      refine px_topi (y := nI (rkN kd)) (kor_rk (by omega) (by omega)) ?_
      refine lv_iload_n hx hb dX5_newDeepTable_22 rfl (lv_at hl 5 rfl) ?_
      refine px_goCw (c2 := cC r (f_table (dp_out kd mm ll (rT r + 1) (f_table r kd n) k) (rkN kd) mm)) (s2 := cS r (f_table (dp_out kd mm ll (rT r + 1) (f_table r kd n) k) (rkN kd) mm)) (px_callV F hK (c_X5_newTable l D cy A (dp_out kd mm ll (rT r + 1) (f_table r kd n) k) gk _ (rkN kd) mm (fun q9 h9 => hA9 q9 (Nat.le_trans hS.1 h9)) hVk (by omega) (by omega)) kc_X5_newTable kw_methodLink_RX5_38 rfl hR (c_recv hK hR) rfl ⟨rfl, rfl⟩ ⟨Nat.le_of_ble_eq_true rfl, Nat.le_of_ble_eq_true rfl⟩ hl.1 rfl (Nat.le_of_ble_eq_true rfl) dX5_newDeepTable_23 ⟨Nat.le_trans (cC_t hMNr (rkN kd) mm) hcc2, Nat.le_trans (cS_t hMNr (rkN kd) mm) hcs2⟩) hS (cC_t hMNr (rkN kd) mm) (cS_t hMNr (rkN kd) mm) (fun H locs gb hE2 hM2 hR hS => ?_)
      have hE := hE.tr hE2
      have hM9 := hM2.trans hM9
      have hl : lv_has ls 8 [(6, .int (nI k)), (5, .ref (gA gb (3 * (rT r + 1)))), (0, .ref (gA gb 0)), (1, .int (nI kd)), (2, .int (nI n)), (3, .int (nI mm)), (4, .int (nI ll))] := (by rw [(hE2.t (show (rT r + 1) ≤ rT (dp_out kd mm ll (rT r + 1) (f_table r kd n) k) by omega))]; rw [hE2.x]; exact hl)
      refine W.eq (g2 := F0 m 26 ls [.ref (gA gb (3 * (rT (dp_out kd mm ll (rT r + 1) (f_table r kd n) k) + 1)))]) (by rfl) ?_
      refine lv_astore (lv' := [(7, .ref (gA gb (3 * (rT (dp_out kd mm ll (rT r + 1) (f_table r kd n) k) + 1)))), (6, .int (nI k)), (5, .ref (gA gb (3 * (rT r + 1)))), (0, .ref (gA gb 0)), (1, .int (nI kd)), (2, .int (nI n)), (3, .int (nI mm)), (4, .int (nI ll))]) hx hb dX5_newDeepTable_26 hl (by decide) rfl (fun ls hl => ?_)
      refine lv_aload hx hb dX5_newDeepTable_28 (lv_at hl 2 rfl) ?_
      refine lv_iload hx hb dX5_newDeepTable_30 (lv_at hl 1 rfl) ?_
      refine lv_aload hx hb dX5_newDeepTable_32 (lv_at hl 0 rfl) ?_
      have h9 := c_X5_place l D cy A (f_table (dp_out kd mm ll (rT r + 1) (f_table r kd n) k) (rkN kd) mm) gb H.size (rT r + 1) (.ref (gA gb (3 * (rT r + 1)))) 2 (rT (dp_out kd mm ll (rT r + 1) (f_table r kd n) k) + 1) (.ref (gA gb (3 * (rT (dp_out kd mm ll (rT r + 1) (f_table r kd n) k) + 1)))) (nI k) (col_t (by omega)) (show rT r + 1 ≤ rT (dp_out kd mm ll (rT r + 1) (f_table r kd n) k) + 1 by omega) rfl (Or.inr (Or.inr ⟨rfl, Nat.succ_ne_zero _, Nat.le_refl _⟩)) (hTV.2 _).2 (hTV.2 0).2 hTV.1.1 (hTV.2.k _) (hTV.2.k _) (by omega)
      rw [place_ok (Nat.succ_ne_zero _) (hTV.2 _).2 (by rw [hTM]; omega) (by rw [hTK]; omega) (by have q9 := cs_row (r := dp_out kd mm ll (rT r + 1) (f_table r kd n) k) (t := rT r + 1) (n := mm) (by omega) (by omega) (by omega); rw [hRow1] at q9; exact q9)] at h9
      refine px_goCx (st1 := [.int 1]) (px_callS F hK (h9) kc_X5_place kw_methodLink_RX5_87 rfl hR rfl ⟨rfl, rfl⟩ ⟨Nat.le_of_ble_eq_true rfl, Nat.le_of_ble_eq_true rfl⟩ hl.1 rfl (Nat.le_of_ble_eq_true rfl) dX5_newDeepTable_34 ⟨hcc2, hcs2⟩) hS rfl (fun H locs hR hS => ?_)
      refine lv_pop hx hb dX5_newDeepTable_37 rfl ?_
      refine lv_iload_n hx hb dX5_newDeepTable_38 rfl (lv_at hl 4 rfl) ?_
      refine lv_bipush (v := 13) hx hb dX5_newDeepTable_39 (by decide) ?_
      refine lv_icmp_ne (tgt := 52) hx hb dX5_newDeepTable_41 (by decide) (fun h_41 => ?_) (fun h_41 => ?_)
      · have h_41 : ¬ kd = 13 := nIne (show ¬ nI kd = nI 13 from h_41)
        have hrow : dp_out kd mm ll (rT r + 1) (f_table r kd n) (k + 1) = f_put (f_table (dp_out kd mm ll (rT r + 1) (f_table r kd n) k) (rkN kd) mm) (rT r + 1) k (lN (rT (dp_out kd mm ll (rT r + 1) (f_table r kd n) k) + 1)) := if_neg h_41
        refine lv_iinc (v := nI (k + 1)) (lv' := [(6, .int (nI (k + 1))), (7, .ref (gA gb (3 * (rT (dp_out kd mm ll (rT r + 1) (f_table r kd n) k) + 1)))), (5, .ref (gA gb (3 * (rT r + 1)))), (0, .ref (gA gb 0)), (1, .int (nI kd)), (2, .int (nI n)), (3, .int (nI mm)), (4, .int (nI ll))]) hx hb dX5_newDeepTable_52 hl (k := 1) rfl (by show nI k + 1 = nI (k + 1); exact nI_1 _) (by decide) rfl (fun ls hl => ?_)
        refine lv_goto (tgt := 11) hx hb dX5_newDeepTable_55 (by decide) ?_
        exact W.widen (by rw [hrow]; exact Nat.le_refl _) (by rw [hrow]; exact Nat.le_refl _) (ih_loop (k + 1) (by omega) _ _ _ _ (by rw [hrow]; exact hE) hM9 (by rw [hrow]; exact hR) hS (lv_sub hl [0, 2, 3, 4, 5, 6, 7] rfl))
      · have h_41 : kd = 13 := nIeq (show nI kd = nI 13 from h_41) (by omega) (by omega)
        have hrow : dp_out kd mm ll (rT r + 1) (f_table r kd n) (k + 1) = dp_in (rT (dp_out kd mm ll (rT r + 1) (f_table r kd n) k) + 1) ll (f_put (f_table (dp_out kd mm ll (rT r + 1) (f_table r kd n) k) (rkN kd) mm) (rT r + 1) k (lN (rT (dp_out kd mm ll (rT r + 1) (f_table r kd n) k) + 1))) mm := if_pos h_41
        have hnq : MN (dp_in (rT (dp_out kd mm ll (rT r + 1) (f_table r kd n) k) + 1) ll (f_put (f_table (dp_out kd mm ll (rT r + 1) (f_table r kd n) k) (rkN kd) mm) (rT r + 1) k (lN (rT (dp_out kd mm ll (rT r + 1) (f_table r kd n) k) + 1))) mm) (dp_out kd mm ll (rT r + 1) (f_table r kd n) n) := (by have q9 := dp_out_mono kd mm ll (rT r + 1) (f_table r kd n) (show k + 1 ≤ n by omega); rw [hrow] at q9; exact q9)
        have hPV := DF.row (r := dp_out kd mm ll (rT r + 1) (f_table r kd n) k) (k := rkN kd) (n := mm) (t := rT r + 1) (j := k) hVk hKk (Nat.succ_ne_zero _) hTle (by rw [hRow2]; omega) (by rw [hRow1]; omega) (by omega) hm30 (by omega)
        have hMNp : MN r (f_put (f_table (dp_out kd mm ll (rT r + 1) (f_table r kd n) k) (rkN kd) mm) (rT r + 1) k (lN (rT (dp_out kd mm ll (rT r + 1) (f_table r kd n) k) + 1))) := hMNr.tr hPV.2.2.1
        have hMpq : MN (f_put (f_table (dp_out kd mm ll (rT r + 1) (f_table r kd n) k) (rkN kd) mm) (rT r + 1) k (lN (rT (dp_out kd mm ll (rT r + 1) (f_table r kd n) k) + 1))) (dp_in (rT (dp_out kd mm ll (rT r + 1) (f_table r kd n) k) + 1) ll (f_put (f_table (dp_out kd mm ll (rT r + 1) (f_table r kd n) k) (rkN kd) mm) (rT r + 1) k (lN (rT (dp_out kd mm ll (rT r + 1) (f_table r kd n) k) + 1))) mm) := dp_in_mono (rT (dp_out kd mm ll (rT r + 1) (f_table r kd n) k) + 1) ll (f_put (f_table (dp_out kd mm ll (rT r + 1) (f_table r kd n) k) (rkN kd) mm) (rT r + 1) k (lN (rT (dp_out kd mm ll (rT r + 1) (f_table r kd n) k) + 1))) (Nat.zero_le mm)
        have hk10p : rK (f_put (f_table (dp_out kd mm ll (rT r + 1) (f_table r kd n) k) (rkN kd) mm) (rT r + 1) k (lN (rT (dp_out kd mm ll (rT r + 1) (f_table r kd n) k) + 1))) (rT (dp_out kd mm ll (rT r + 1) (f_table r kd n) k) + 1) = 10 := (by show va_up (rK (dp_out kd mm ll (rT r + 1) (f_table r kd n) k)) (rT (dp_out kd mm ll (rT r + 1) (f_table r kd n) k) + 1) (rkN kd) (rT (dp_out kd mm ll (rT r + 1) (f_table r kd n) k) + 1) = 10; rw [va_up_self, h_41]; rfl)
        have hmp : rMn (f_put (f_table (dp_out kd mm ll (rT r + 1) (f_table r kd n) k) (rkN kd) mm) (rT r + 1) k (lN (rT (dp_out kd mm ll (rT r + 1) (f_table r kd n) k) + 1))) (rT (dp_out kd mm ll (rT r + 1) (f_table r kd n) k) + 1) = mm := va_up_self _ _ _
        refine lv_aload_n hx hb dX5_newDeepTable_44 rfl (lv_at hl 3 rfl) ?_
        refine lv_aload hx hb dX5_newDeepTable_45 (lv_at hl 0 rfl) ?_
        refine lv_iload hx hb dX5_newDeepTable_47 (lv_at hl 7 rfl) ?_
        have h9 := c_X5_placeNewRows l D cy A (f_put (f_table (dp_out kd mm ll (rT r + 1) (f_table r kd n) k) (rkN kd) mm) (rT r + 1) k (lN (rT (dp_out kd mm ll (rT r + 1) (f_table r kd n) k) + 1))) gb H.size (rT (dp_out kd mm ll (rT r + 1) (f_table r kd n) k) + 1) ll (fun q9 h9 => hA9 q9 (Nat.le_trans hS.1 h9)) hPV.1 hPV.2.1 (Nat.succ_ne_zero _) (Nat.le_refl _) hk10p hl30 (show rT (dp_out kd mm ll (rT r + 1) (f_table r kd n) k) + 1 < 90000 by omega)
        rw [hmp] at h9
        refine px_goCw (c2 := cC r (dp_in (rT (dp_out kd mm ll (rT r + 1) (f_table r kd n) k) + 1) ll (f_put (f_table (dp_out kd mm ll (rT r + 1) (f_table r kd n) k) (rkN kd) mm) (rT r + 1) k (lN (rT (dp_out kd mm ll (rT r + 1) (f_table r kd n) k) + 1))) mm)) (s2 := cS r (dp_in (rT (dp_out kd mm ll (rT r + 1) (f_table r kd n) k) + 1) ll (f_put (f_table (dp_out kd mm ll (rT r + 1) (f_table r kd n) k) (rkN kd) mm) (rT r + 1) k (lN (rT (dp_out kd mm ll (rT r + 1) (f_table r kd n) k) + 1))) mm)) (px_callV F hK (h9) kc_X5_placeNewRows kw_methodLink_RX5_161 rfl hR (c_recv hK hR) rfl ⟨rfl, rfl⟩ ⟨Nat.le_of_ble_eq_true rfl, Nat.le_of_ble_eq_true rfl⟩ hl.1 rfl (Nat.le_of_ble_eq_true rfl) dX5_newDeepTable_49 ⟨Nat.le_trans (cC_add hMNp hMpq) (cC_le hnq), Nat.le_trans (cS_add hMNp hMpq) (cS_le hnq)⟩) hS (cC_add hMNp hMpq) (cS_add hMNp hMpq) (fun H locs gc hE2 hM2 hR hS => ?_)
        have hE := hE.tr hE2
        have hM9 := hM2.trans hM9
        have hl : lv_has ls 8 [(7, .ref (gA gc (3 * (rT (dp_out kd mm ll (rT r + 1) (f_table r kd n) k) + 1)))), (6, .int (nI k)), (5, .ref (gA gc (3 * (rT r + 1)))), (0, .ref (gA gc 0)), (1, .int (nI kd)), (2, .int (nI n)), (3, .int (nI mm)), (4, .int (nI ll))] := (by rw [(hE2.t (show (rT (dp_out kd mm ll (rT r + 1) (f_table r kd n) k) + 1) ≤ rT (dp_out kd mm ll (rT r + 1) (f_table r kd n) k) + 1 by omega))]; rw [(hE2.t (show (rT r + 1) ≤ rT (dp_out kd mm ll (rT r + 1) (f_table r kd n) k) + 1 by omega))]; rw [hE2.x]; exact hl)
        refine W.eq (g2 := F0 m 52 ls []) (by rfl) ?_
        refine lv_iinc (v := nI (k + 1)) (lv' := [(6, .int (nI (k + 1))), (7, .ref (gA gc (3 * (rT (dp_out kd mm ll (rT r + 1) (f_table r kd n) k) + 1)))), (5, .ref (gA gc (3 * (rT r + 1)))), (0, .ref (gA gc 0)), (1, .int (nI kd)), (2, .int (nI n)), (3, .int (nI mm)), (4, .int (nI ll))]) hx hb dX5_newDeepTable_52 hl (k := 1) rfl (by show nI k + 1 = nI (k + 1); exact nI_1 _) (by decide) rfl (fun ls hl => ?_)
        refine lv_goto (tgt := 11) hx hb dX5_newDeepTable_55 (by decide) ?_
        exact W.widen (by rw [hrow]; exact Nat.le_refl _) (by rw [hrow]; exact Nat.le_refl _) (ih_loop (k + 1) (by omega) _ _ _ _ (by rw [hrow]; exact hE) hM9 (by rw [hrow]; exact hR) hS (lv_sub hl [0, 2, 3, 4, 5, 6, 7] rfl))
  exact W.widen (Nat.le_refl _) (Nat.le_refl _) (loop n 0 (by omega) _ _ _ _ hE hM9 hR hS (lv_sub hl [0, 1, 2, 3, 4, 5, 6] rfl))
