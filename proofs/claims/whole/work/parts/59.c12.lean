/-! the class: renewRows 1, twinOf 2 -/
set_option maxHeartbeats 400000 in
set_option maxRecDepth 100000 in
theorem c_X5_renewRows1 (l : Launch) (D : va_G) (cy : Nat → ClassId) (A : Nat → Prop) (r : RS) (g : CG) (sz : Nat)  (r0 : RS) (kk : Nat) (C : Nat → Nat) (t u : Nat)  (hA : ∀ q, sz ≤ q → A q) (hI : Inv kk r0) (hAV : AV r0 (r, C)) (hTW : TW r0 (r, C) g) (h0_t : t ≠ 0) (htr : t ≤ rT r0) (hk10 : 10 ≤ rK r0 t) (hk13 : rK r0 t < 13) (hu : rT r0 < u) (hu2 : u ≤ rT r) (hKu : rK r u = rK r0 t) (hMu : rMn r u = rMn r0 t) (hsame : ∀ q, q < rMn r0 t → f_at r u q = f_at r0 t q) (hTb : rT r < 80000) (hMb : rM r < 100000) : Met l yX5_renewRows (px_w yX5_renewRows cX5_renewRows 6 none) (rmd 8 (cC r (a_midL t u (r, C) (rMn r0 t)).1) (cS r (a_midL t u (r, C) (rMn r0 t)).1)) (px_P D cy [.ref (gA g 0), .ref (gA g (3 * u)), .int 1] sz (CR D cy A r g)) (px_Q (px_Ca D cy A r0 r g (fun _ => none) ((a_midL t u (r, C) (rMn r0 t)))) A) (cC r (a_midL t u (r, C) (rMn r0 t)).1) (cS r (a_midL t u (r, C) (rMn r0 t)).1) A := by
  refine px_met (by decide) (Nat.le_of_ble_eq_true rfl) ?_
  intro p e s m below meth c F hr hlocks hnm hK hsz hR ls hl
  have hx := F.1
  have hb := F.2.1
  have hS : va_S A s.heap s.heap [] := va_S.rf
  have hA9 : ∀ q, s.heap.size ≤ q → A q := fun q h => hA q (by omega)
  have hm30 : rMn r0 t ≤ 30 := (hI.tb t htr).2.1
  have hl : lv_has ls 6 [(0, .ref (gA g 0)), (1, .ref (gA g (3 * u))), (2, .int 1)] := hl
  refine lv_iconst (v := 0) hx hb dX5_renewRows_0 (by decide) ?_
  refine lv_istore_n (lv' := [(3, .int 0), (0, .ref (gA g 0)), (1, .ref (gA g (3 * u))), (2, .int 1)]) hx hb dX5_renewRows_1 rfl hl (by decide) rfl (fun ls hl => ?_)
  have loop : ∀ (d k : Nat), k + d = rMn r0 t → ∀ (H : Heap) (locs : List Loc) (ls : Array Slot) (gk : CG) , GY r g (a_midL t u (r, C) k).1 gk → TW r0 (a_midL t u (r, C) k) gk → CR D cy A ((a_midL t u (r, C) k).1) gk H → va_S A s.heap H locs → lv_has ls 6 [(3, .int (nI k)), (0, .ref (gA gk 0)), (1, .ref (gA gk (3 * u))), (2, .int 1)] → W p l e (rmd 8 (cC r (a_midL t u (r, C) (rMn r0 t)).1) (cS r (a_midL t u (r, C) (rMn r0 t)).1)) s m ([.ref (gA g 0), .ref (gA g (3 * u)), .int 1] : List Value).toArray below meth c H locs (cC r (a_midL t u (r, C) k).1) (cS r (a_midL t u (r, C) k).1) (MQ below (px_Q (px_Ca D cy A r0 r g (fun _ => none) ((a_midL t u (r, C) (rMn r0 t)))) A) ([.ref (gA g 0), .ref (gA g (3 * u)), .int 1] : List Value).toArray s (cC r (a_midL t u (r, C) (rMn r0 t)).1) (cS r (a_midL t u (r, C) (rMn r0 t)).1) A) (F0 m 2 ls []) := by
    intro d
    induction d with
    | zero =>
      intro k hk H locs ls gk hE hM9 hR hS hl
      have hY := hE
      have hW2 := hM9
      obtain ⟨hAk, hPk, hTk⟩ := midL_f hAV hI h0_t htr hk10 hu hu2 hKu hMu (show rT r < _ by omega) k (by omega)
      have hT9 : rT (a_midL t u (r, C) k).1 ≤ rT r + k := hTk
      have hKk : rK (a_midL t u (r, C) k).1 u = rK r0 t := (hPk.2.1 u hu2).1.trans hKu
      have hMk : rMn (a_midL t u (r, C) k).1 u = rMn r0 t := (hPk.2.1 u hu2).2.trans hMu
      have huk : u ≤ rT (a_midL t u (r, C) k).1 := Nat.le_trans hu2 hPk.1.1
      have hMN1 : MN r (a_midL t u (r, C) k).1 := hPk.1
      have hcc1 : cC r (a_midL t u (r, C) k).1 ≤ cC r (a_midL t u (r, C) (rMn r0 t)).1 := cC_le (midL_mono t u (r, C) (by omega))
      have hcs1 : cS r (a_midL t u (r, C) k).1 ≤ cS r (a_midL t u (r, C) (rMn r0 t)).1 := cS_le (midL_mono t u (r, C) (by omega))
      refine lv_iload_n hx hb dX5_renewRows_2 rfl (lv_at hl 0 rfl) ?_
      refine lv_aload_n hx hb dX5_renewRows_3 rfl (lv_at hl 2 rfl) ?_
      refine c_gitems F hK hR (t := u) (by omega) (show u ≤ rT ((a_midL t u (r, C) k).1) by omega) (show 8 ≤ rK ((a_midL t u (r, C) k).1) u by omega) kw_fieldLink_RX5_179 dX5_renewRows_4 ?_
      refine c_lenb F hK hR (t := u) (by omega) (show u ≤ rT ((a_midL t u (r, C) k).1) by omega) dX5_renewRows_7 ?_
      refine lv_icmp_ge (tgt := 53) hx hb dX5_renewRows_8 (by decide) (fun h_8 => ?_) (fun h_8 => by exfalso; have h_8 : k < (rMn ((a_midL t u (r, C) k).1) u) := nInle (show ¬ nI (rMn ((a_midL t u (r, C) k).1) u) ≤ nI k from h_8) (by omega) (by omega); omega)
      have h_8 : (rMn ((a_midL t u (r, C) k).1) u) ≤ k := nIle (show nI (rMn ((a_midL t u (r, C) k).1) u) ≤ nI k from h_8) (by omega) (by omega)
      have hkn : k = rMn r0 t := (by omega)
      subst hkn
      exact px_vret F hr hlocks hS ⟨gk, rfl, hY, hW2, hR⟩ dX5_renewRows_53
    | succ d ih_loop =>
      intro k hk H locs ls gk hE hM9 hR hS hl
      have hY := hE
      have hW2 := hM9
      obtain ⟨hAk, hPk, hTk⟩ := midL_f hAV hI h0_t htr hk10 hu hu2 hKu hMu (show rT r < _ by omega) k (by omega)
      have hT9 : rT (a_midL t u (r, C) k).1 ≤ rT r + k := hTk
      have hKk : rK (a_midL t u (r, C) k).1 u = rK r0 t := (hPk.2.1 u hu2).1.trans hKu
      have hMk : rMn (a_midL t u (r, C) k).1 u = rMn r0 t := (hPk.2.1 u hu2).2.trans hMu
      have huk : u ≤ rT (a_midL t u (r, C) k).1 := Nat.le_trans hu2 hPk.1.1
      have hMN1 : MN r (a_midL t u (r, C) k).1 := hPk.1
      have hcc1 : cC r (a_midL t u (r, C) k).1 ≤ cC r (a_midL t u (r, C) (rMn r0 t)).1 := cC_le (midL_mono t u (r, C) (by omega))
      have hcs1 : cS r (a_midL t u (r, C) k).1 ≤ cS r (a_midL t u (r, C) (rMn r0 t)).1 := cS_le (midL_mono t u (r, C) (by omega))
      have hat : f_at (a_midL t u (r, C) k).1 u k = f_at r0 t k := (hPk.2.2.1 u (by omega) hu2 k (show k < rMn r u by omega) (fun _ => Nat.le_refl _)).trans (hsame k (by omega))
      have hrow := hAk.1.row hI h0_t htr (show k < rMn r0 t by omega) hk10
      refine lv_iload_n hx hb dX5_renewRows_2 rfl (lv_at hl 0 rfl) ?_
      refine lv_aload_n hx hb dX5_renewRows_3 rfl (lv_at hl 2 rfl) ?_
      refine c_gitems F hK hR (t := u) (by omega) (show u ≤ rT ((a_midL t u (r, C) k).1) by omega) (show 8 ≤ rK ((a_midL t u (r, C) k).1) u by omega) kw_fieldLink_RX5_179 dX5_renewRows_4 ?_
      refine c_lenb F hK hR (t := u) (by omega) (show u ≤ rT ((a_midL t u (r, C) k).1) by omega) dX5_renewRows_7 ?_
      refine lv_icmp_ge (tgt := 53) hx hb dX5_renewRows_8 (by decide) (fun h_8 => by exfalso; have h_8 : (rMn ((a_midL t u (r, C) k).1) u) ≤ k := nIle (show nI (rMn ((a_midL t u (r, C) k).1) u) ≤ nI k from h_8) (by omega) (by omega); omega) (fun h_8 => ?_)
      have h_8 : k < (rMn ((a_midL t u (r, C) k).1) u) := nInle (show ¬ nI (rMn ((a_midL t u (r, C) k).1) u) ≤ nI k from h_8) (by omega) (by omega)
      refine lv_aload_n hx hb dX5_renewRows_11 rfl (lv_at hl 2 rfl) ?_
      refine c_gitems F hK hR (t := u) (by omega) (show u ≤ rT ((a_midL t u (r, C) k).1) by omega) (show 8 ≤ rK ((a_midL t u (r, C) k).1) u by omega) kw_fieldLink_RX5_179 dX5_renewRows_12 ?_
      refine lv_iload_n hx hb dX5_renewRows_15 rfl (lv_at hl 0 rfl) ?_
      refine c_lditem F hK hR (t := u) (by omega) (show u ≤ rT ((a_midL t u (r, C) k).1) by omega) (show 8 ≤ rK ((a_midL t u (r, C) k).1) u by omega) (show rMn ((a_midL t u (r, C) k).1) u < 2 ^ 31 by omega) k rfl (show k < rMn ((a_midL t u (r, C) k).1) u by omega) dX5_renewRows_16 ?_
      rcases c_ref_tb (T := rT r0) (kd := rK (a_midL t u (r, C) k).1 u) (v := f_at r0 t k) (gA gk) (by omega) (hI.it h0_t htr (show k < rMn r0 t by omega) (by omega)).1 hrow.2.2.1 with ⟨hv9, hq9⟩ | ⟨w, hv9, hwv, hw1, hw2, hq9⟩
      · refine px_topv (y := .null) (by rw [hat, hq9]; rfl) ?_
        have hst9 : a_midL t u (r, C) (k + 1) = (a_midL t u (r, C) k) := midL_0 (by rw [hrow.2.1, hv9]; rfl) (by rw [hat]; exact hv9)
        refine lv_astoreN (lv' := [(5, .null), (3, .int (nI k)), (0, .ref (gA gk 0)), (1, .ref (gA gk (3 * u))), (2, .int 1)]) hx hb dX5_renewRows_17 hl (by decide) rfl (fun ls hl => ?_)
        refine lv_aloadN hx hb dX5_renewRows_19 (lv_at hl 0 rfl) ?_
        refine lv_instN hx hb dX5_renewRows_21 ?_
        refine lv_if_eq (tgt := 47) hx hb dX5_renewRows_24 (by decide) (fun _ => ?_) (fun h => absurd h (by decide))
        refine lv_iinc (v := nI (k + 1)) (lv' := [(3, .int (nI (k + 1))), (5, .null), (0, .ref (gA gk 0)), (1, .ref (gA gk (3 * u))), (2, .int 1)]) hx hb dX5_renewRows_47 hl (k := 1) rfl (by show nI k + 1 = nI (k + 1); exact nI_1 _) (by decide) rfl (fun ls hl => ?_)
        refine lv_goto (tgt := 2) hx hb dX5_renewRows_50 (by decide) ?_
        exact W.widen (by rw [hst9]; exact Nat.le_refl _) (by rw [hst9]; exact Nat.le_refl _) (ih_loop (k + 1) (by omega) _ _ _ _ (by rw [hst9]; exact hY) (by rw [hst9]; exact hW2) (by rw [hst9]; exact hR) hS (lv_sub hl [0, 2, 3, 4] rfl))
      · refine px_topv (y := .ref (gA gk (3 * w))) (by rw [hat, hq9]; rfl) ?_
        have hwk : iv (f_at (a_midL t u (r, C) k).1 t k) = w := hrow.2.1.trans hwv.symm
        have hst9 : a_midL t u (r, C) (k + 1) = (f_put (a_flat (a_midL t u (r, C) k) w).1 u k (lN (a_fans (a_midL t u (r, C) k) w)), (a_flat (a_midL t u (r, C) k) w).2) := midL_1 hwk
        have hrk := row_k (hI.tb t htr).1 hk10 (show w ≠ 0 from hw1) (by rw [hwv]; exact hrow.2.2.2 (by rw [← hwv]; exact hw1))
        have hKw : rK (a_midL t u (r, C) k).1 w = rK r0 w := (hAk.1.2.1 w hw2).1
        have hwx : w ≤ rT (a_midL t u (r, C) k).1 := Nat.le_trans hw2 hAk.1.1
        have hZ : AV r0 (a_flat (a_midL t u (r, C) k) w) := hAk.flat hI hw2
        have hPz := PR.flat hAk.2.1 hwx
        have hTz := (a_flat_T (a_midL t u (r, C) k) w).1
        have hle : (a_fans (a_midL t u (r, C) k) w) ≤ rT (a_flat (a_midL t u (r, C) k) w).1 := a_fans_le hAk.1 hI hw2
        have hKz : rK (a_flat (a_midL t u (r, C) k) w).1 u = rK r0 t := (hPz.2.1 u huk).1.trans hKk
        have hMz : rMn (a_flat (a_midL t u (r, C) k) w).1 u = rMn r0 t := (hPz.2.1 u huk).2.trans hMk
        have hMN2 : MN (a_midL t u (r, C) k).1 (a_flat (a_midL t u (r, C) k) w).1 := hPz.1
        have huz : u ≤ rT (a_flat (a_midL t u (r, C) k) w).1 := Nat.le_trans huk hMN2.1
        have hMNf : MN (a_flat (a_midL t u (r, C) k) w).1 (a_midL t u (r, C) (rMn r0 t)).1 := (by have q9 := midL_mono t u (r, C) (show k + 1 ≤ rMn r0 t by omega); rw [hst9] at q9; exact q9)
        have hab : (a_fans (a_midL t u (r, C) k) w) < 2 ^ 31 := (by omega)
        refine lv_astore (lv' := [(5, .ref (gA gk (3 * w))), (3, .int (nI k)), (0, .ref (gA gk 0)), (1, .ref (gA gk (3 * u))), (2, .int 1)]) hx hb dX5_renewRows_17 hl (by decide) rfl (fun ls hl => ?_)
        refine lv_aload hx hb dX5_renewRows_19 (lv_at hl 0 rfl) ?_
        refine c_iTt F hK hR (t := w) (by omega) (show w ≤ rT ((a_midL t u (r, C) k).1) by omega) kw_classLink_RX5_9 dX5_renewRows_21 ?_
        refine lv_if_eq (tgt := 47) hx hb dX5_renewRows_24 (by decide) (fun h => absurd h (by decide)) (fun _ => ?_)
        refine lv_aload hx hb dX5_renewRows_27 (lv_at hl 0 rfl) ?_
        refine c_cT F hK hR (t := w) (by omega) (show w ≤ rT ((a_midL t u (r, C) k).1) by omega) kw_classLink_RX5_9 dX5_renewRows_29 ?_
        refine lv_astore (lv' := [(4, .ref (gA gk (3 * w))), (5, .ref (gA gk (3 * w))), (3, .int (nI k)), (0, .ref (gA gk 0)), (1, .ref (gA gk (3 * u))), (2, .int 1)]) hx hb dX5_renewRows_32 hl (by decide) rfl (fun ls hl => ?_)
        refine lv_aload_n hx hb dX5_renewRows_34 rfl (lv_at hl 4 rfl) ?_
        refine c_gitems F hK hR (t := u) (by omega) (show u ≤ rT ((a_midL t u (r, C) k).1) by omega) (show 8 ≤ rK ((a_midL t u (r, C) k).1) u by omega) kw_fieldLink_RX5_179 dX5_renewRows_35 ?_
        refine lv_iload_n hx hb dX5_renewRows_38 rfl (lv_at hl 2 rfl) ?_
        refine lv_aload_n hx hb dX5_renewRows_39 rfl (lv_at hl 3 rfl) ?_
        refine lv_aload hx hb dX5_renewRows_40 (lv_at hl 0 rfl) ?_
        refine lv_iload_n hx hb dX5_renewRows_42 rfl (lv_at hl 5 rfl) ?_
        have h9 := c_X5_twinOf1 l D cy A (a_midL t u (r, C) k).1 gk H.size w (.ref (gA gk (3 * w))) r0 kk (a_midL t u (r, C) k).2 (col_t hw1) hwx (fun q9 h9 => hA9 q9 (Nat.le_trans hS.1 h9)) hI hAk hW2 hw2 (fun _ => by have := hrk.1; have := hrk.2; omega) (show rT (a_midL t u (r, C) k).1 < _ by omega) (show rM (a_midL t u (r, C) k).1 < 100000 by rw [hPk.2.2.2]; exact hMb)
        rw [show ((a_midL t u (r, C) k).1, (a_midL t u (r, C) k).2) = (a_midL t u (r, C) k) from rfl] at h9
        refine px_goCa (c2 := cC r (a_flat (a_midL t u (r, C) k) w).1) (s2 := cS r (a_flat (a_midL t u (r, C) k) w).1) (px_callV F hK (h9) kc_X5_twinOf kw_methodLink_RX5_53 rfl hR (c_recv hK hR) rfl ⟨rfl, rfl⟩ ⟨Nat.le_of_ble_eq_true rfl, Nat.le_of_ble_eq_true rfl⟩ hl.1 rfl (Nat.le_of_ble_eq_true rfl) dX5_renewRows_43 ⟨Nat.le_trans (cC_add hMN1 hMN2) (cC_le hMNf), Nat.le_trans (cS_add hMN1 hMN2) (cS_le hMNf)⟩) hS (cC_add hMN1 hMN2) (cS_add hMN1 hMN2) (fun H locs ga hY2 hW2 hR hS => ?_)
        have hY := hY.tr hY2
        have hl : lv_has ls 6 [(4, .ref (gA ga (3 * w))), (5, .ref (gA ga (3 * w))), (3, .int (nI k)), (0, .ref (gA ga 0)), (1, .ref (gA ga (3 * u))), (2, .int 1)] := (by rw [(hY2.t (show w ≤ rT ((a_midL t u (r, C) k).1) by omega))]; rw [hY2.x]; rw [(hY2.t (show u ≤ rT ((a_midL t u (r, C) k).1) by omega))]; exact hl)
        refine W.eq (g2 := F0 m 46 ls [va_rf (c_col (gA ga) (a_fans (a_midL t u (r, C) k) w)), .int (nI k), .ref (gA ga (3 * u + 1))]) (by rw [(hY2.2.2.1 _ (dm_a (show u ≤ rT ((a_midL t u (r, C) k).1) by omega)))]; rfl) ?_
        refine c_stitem F hK hR hS hZ.2.1.1 (t := u) (by omega) huz (by omega) (by omega) k (lN (a_fans (a_midL t u (r, C) k) w)) rfl (congrArg va_rf (col_ref (kd := rK (a_flat (a_midL t u (r, C) k) w).1 u) (by omega) hab)) (by rw [← col_ref (kd := rK (a_flat (a_midL t u (r, C) k) w).1 u) (by omega) hab]; exact col_any hK hR hle) (by omega) dX5_renewRows_46 (fun H locs hR hS => ?_)
        refine lv_iinc (v := nI (k + 1)) (lv' := [(3, .int (nI (k + 1))), (4, .ref (gA ga (3 * w))), (5, .ref (gA ga (3 * w))), (0, .ref (gA ga 0)), (1, .ref (gA ga (3 * u))), (2, .int 1)]) hx hb dX5_renewRows_47 hl (k := 2) rfl (by show nI k + 1 = nI (k + 1); exact nI_1 _) (by decide) rfl (fun ls hl => ?_)
        refine lv_goto (tgt := 2) hx hb dX5_renewRows_50 (by decide) ?_
        exact W.widen (by rw [hst9]; exact Nat.le_refl _) (by rw [hst9]; exact Nat.le_refl _) (ih_loop (k + 1) (by omega) _ _ _ _ (by rw [hst9]; exact hY) (by rw [hst9]; exact hW2) (by rw [hst9]; exact hR) hS (lv_sub hl [0, 3, 4, 5] rfl))
  exact W.widen (Nat.zero_le _) (Nat.zero_le _) (loop (rMn r0 t) 0 (by omega) _ _ _ _ (GY.rf rfl rfl) hTW hR hS (lv_sub hl [0, 1, 2, 3] rfl))
set_option maxHeartbeats 400000 in
set_option maxRecDepth 100000 in
theorem c_X5_twinOf2 (l : Launch) (D : va_G) (cy : Nat → ClassId) (A : Nat → Prop) (r : RS) (g : CG) (sz : Nat) (t : Nat) (vt : Value) (r0 : RS) (kk : Nat) (C : Nat → Nat) (hvt : vt = va_rf (c_col (gA g) t)) (ht_t : t ≤ rT r) (hA : ∀ q, sz ≤ q → A q) (hI : Inv kk r0) (hAV : AV r0 (r, C)) (hTW : TW r0 (r, C) g) (htr : t ≤ rT r0) (hK10 : t ≠ 0 → rK r t < 13) (hTb : rT r < 70000) (hMb : rM r < 100000) : Met l yX5_twinOf (px_w yX5_twinOf cX5_twinOf 5 (some (.object "PlanCopies$Table"))) (rmd 9 (cC r (a_mid (r, C) t).1) (cS r (a_mid (r, C) t).1)) (px_P D cy [.ref (gA g 0), vt, .int 2] sz (CR D cy A r g)) (px_Q (px_Ca D cy A r0 r g (fun g2 => some (va_rf (c_col (gA g2) (a_mans (r, C) t)))) ((a_mid (r, C) t))) A) (cC r (a_mid (r, C) t).1) (cS r (a_mid (r, C) t).1) A := by
  by_cases h0_t : t = 0
  · have e_vt : vt = .null := (hvt.trans (col_0 h0_t).symm)
    subst e_vt
    refine px_met (by decide) (Nat.le_of_ble_eq_true rfl) ?_
    intro p e s m below meth c F hr hlocks hnm hK hsz hR ls hl
    have hx := F.1
    have hb := F.2.1
    have hS : va_S A s.heap s.heap [] := va_S.rf
    have hA9 : ∀ q, s.heap.size ≤ q → A q := fun q h => hA q (by omega)
    have hl : lv_has ls 5 [(0, .ref (gA g 0)), (1, .null), (2, .int 2)] := hl
    refine lv_aload_nN hx hb dX5_twinOf_0 rfl (lv_at hl 1 rfl) ?_
    refine lv_ifnullN (tgt := 8) hx hb dX5_twinOf_1 (by decide) ?_
    refine lv_null hx hb dX5_twinOf_8 ?_
    have eA : (a_mid (r, C) t) = (r, C) := a_mid_0 h0_t
    have eN : (a_mans (r, C) t) = 0 := a_mans_0 h0_t
    refine W.widen (k := cC r (a_mid (r, C) t).1) (n := cS r (a_mid (r, C) t).1) (Nat.zero_le _) (Nat.zero_le _) ?_
    exact px_aret (r := none) F hr hlocks hS ⟨g, (by rw [eN]; rfl), (by rw [eA]; exact GY.rf rfl rfl), (by rw [eA]; exact hTW), (by rw [eA]; exact hR)⟩ dX5_twinOf_9
  · have e_vt : vt = .ref (gA g (3 * t)) := (hvt.trans (col_t h0_t).symm)
    subst e_vt
    refine px_met (by decide) (Nat.le_of_ble_eq_true rfl) ?_
    intro p e s m below meth c F hr hlocks hnm hK hsz hR ls hl
    have hx := F.1
    have hb := F.2.1
    have hS : va_S A s.heap s.heap [] := va_S.rf
    have hA9 : ∀ q, s.heap.size ≤ q → A q := fun q h => hA q (by omega)
    have hl : lv_has ls 5 [(0, .ref (gA g 0)), (1, .ref (gA g (3 * t))), (2, .int 2)] := hl
    refine lv_aload_n hx hb dX5_twinOf_0 rfl (lv_at hl 1 rfl) ?_
    refine lv_ifnull hx hb dX5_twinOf_1 ?_
    refine lv_iload_n hx hb dX5_twinOf_4 rfl (lv_at hl 2 rfl) ?_
    refine lv_if_ne (tgt := 10) hx hb dX5_twinOf_5 (by decide) (fun _ => ?_) (fun h => absurd h (by decide))
    refine lv_aload_n hx hb dX5_twinOf_10 rfl (lv_at hl 1 rfl) ?_
    refine c_gt F hK hR (t := t) (by omega) (show t ≤ rT r by omega) 1 (by decide) rfl kw_fieldLink_RX5_168 (fun _ h => h) dX5_twinOf_11 ?_
    refine lv_aload_n hx hb dX5_twinOf_14 rfl (lv_at hl 0 rfl) ?_
    refine c_gx F hK hR 4 (by decide) rfl kw_fieldLink_RX5_49 dX5_twinOf_15 ?_
    refine lv_icmp_ne (tgt := 26) hx hb dX5_twinOf_18 (by decide) (fun h_18 => ?_) (fun h_18 => ?_)
    · have h_18 : ¬ (gB g t) = (gN g) := h_18
      have hC0 : C t = 0 := (by rcases hTW t h0_t htr with ⟨hq, _⟩ | ⟨_, hq, _⟩; exact hq; exact absurd hq h_18)
      have efl := a_flat_new (x := (r, C)) h0_t hC0
      have eN : (a_mans (r, C) t) = rT r + 1 := mans_new (x := (r, C)) h0_t hC0
      have hMA : MN (f_table r (rK r t) (rMn r t)) (a_mid (r, C) t).1 := (by have q9 := flat_mid_MN (x := (r, C)) h0_t hC0; rw [efl] at q9; exact q9)
      have hm30 : rMn r t ≤ 30 := (hAV.2.2 t).2
      have hk13 : rK r t ≤ 13 := (hAV.2.2 t).1
      have hK1 : VK (f_table r (rK r t) (rMn r t)) := hAV.2.2.table hk13 hm30
      have hV1 : VR (f_table r (rK r t) (rMn r t)) := hAV.2.1.table hk13 hm30
      have hcc2 : cC r (f_table r (rK r t) (rMn r t)) ≤ cC r (a_mid (r, C) t).1 := cC_le hMA
      have hcs2 : cS r (f_table r (rK r t) (rMn r t)) ≤ cS r (a_mid (r, C) t).1 := cS_le hMA
      refine lv_aload_n hx hb dX5_twinOf_26 rfl (lv_at hl 0 rfl) ?_
      refine lv_aload_n hx hb dX5_twinOf_27 rfl (lv_at hl 1 rfl) ?_
      refine c_gt F hK hR (t := t) (by omega) (show t ≤ rT r by omega) 0 (by decide) rfl kw_fieldLink_RX5_57 (fun _ h => h) dX5_twinOf_28 ?_
      refine lv_aload_n hx hb dX5_twinOf_31 rfl (lv_at hl 1 rfl) ?_
      refine c_cnt F hK hR (t := t) (by omega) (show t ≤ rT r by omega) ⟨Nat.le_of_ble_eq_true rfl, Nat.le_of_ble_eq_true rfl⟩ hl.1 (Nat.le_of_ble_eq_true rfl) ⟨Nat.zero_le _, Nat.zero_le _⟩ dX5_twinOf_32 ?_
      refine px_goCw (c2 := cC r (f_table r (rK r t) (rMn r t))) (s2 := cS r (f_table r (rK r t) (rMn r t))) (px_callV F hK (c_X5_newTable l D cy A r g _ (rK r t) (rMn r t) (fun q9 h9 => hA9 q9 (Nat.le_trans hS.1 h9)) hAV.2.1 (by omega) (by omega)) kc_X5_newTable kw_methodLink_RX5_38 rfl hR (c_recv hK hR) rfl ⟨rfl, rfl⟩ ⟨Nat.le_of_ble_eq_true rfl, Nat.le_of_ble_eq_true rfl⟩ hl.1 rfl (Nat.le_of_ble_eq_true rfl) dX5_twinOf_35 ⟨Nat.le_trans (by rw [← cC_0 r]; exact cC_t MN.rf _ _) hcc2, Nat.le_trans (by rw [← cS_0 r]; exact cS_t MN.rf _ _) hcs2⟩) hS (by rw [← cC_0 r]; exact cC_t MN.rf _ _) (by rw [← cS_0 r]; exact cS_t MN.rf _ _) (fun H locs ga hE2 hM2 hR hS => ?_)
      have hE : GX r g (f_table r (rK r t) (rMn r t)) ga := (GX.rf rfl rfl : GX r g (r) g).tr hE2
      have hM9 := hM2
      have hl : lv_has ls 5 [(0, .ref (gA ga 0)), (1, .ref (gA ga (3 * t))), (2, .int 2)] := (by rw [hE2.x]; rw [(hE2.t (show t ≤ rT r by omega))]; exact hl)
      refine W.eq (g2 := F0 m 38 ls [.ref (gA ga (3 * (rT r + 1)))]) (by rfl) ?_
      refine lv_astore_n (lv' := [(3, .ref (gA ga (3 * (rT r + 1)))), (0, .ref (gA ga 0)), (1, .ref (gA ga (3 * t))), (2, .int 2)]) hx hb dX5_twinOf_38 rfl hl (by decide) rfl (fun ls hl => ?_)
      refine lv_aload_n hx hb dX5_twinOf_39 rfl (lv_at hl 2 rfl) ?_
      refine lv_aload_n hx hb dX5_twinOf_40 rfl (lv_at hl 1 rfl) ?_
      refine c_gx F hK hR 4 (by decide) rfl kw_fieldLink_RX5_49 dX5_twinOf_41 ?_
      refine c_ptw F hK hR hS (t := t) h0_t (show t ≤ rT r + 1 by omega) 1 (by decide) rfl (g_b ga t (gN ga)) rfl rfl rfl (fun u hu => ⟨va_up_ne _ _ hu, rfl⟩) (by show [_, _, _, _] = t_fs _ (g_b ga t (gN ga)) t; unfold t_fs; rw [show gB (g_b ga t (gN ga)) t = gN ga from va_up_self _ _ _]) kw_fieldLink_RX5_168 (ty := .int) (by decide +kernel) rfl rfl dX5_twinOf_44 (fun H locs hR hS => ?_)
      refine lv_aload_n hx hb dX5_twinOf_47 rfl (lv_at hl 2 rfl) ?_
      refine lv_aload_n hx hb dX5_twinOf_48 rfl (lv_at hl 0 rfl) ?_
      refine c_ptw (g := g_b ga t (gN ga)) F hK hR hS (t := t) h0_t (show t ≤ rT r + 1 by omega) 2 (by decide) rfl (g_w (g_b ga t (gN ga)) t (some (gA ga (3 * (rT r + 1))))) rfl rfl rfl (fun u hu => ⟨rfl, va_up_ne _ _ hu⟩) (by show [_, _, _, _] = t_fs _ (g_w (g_b ga t (gN ga)) t (some (gA ga (3 * (rT r + 1))))) t; unfold t_fs; rw [show gW (g_w (g_b ga t (gN ga)) t (some (gA ga (3 * (rT r + 1))))) t = some (gA ga (3 * (rT r + 1))) from va_up_self _ _ _]; rfl) kw_fieldLink_RX5_171 (ty := .object "PlanCopies$Table") (by decide +kernel) rfl rfl dX5_twinOf_49 (fun H locs hR hS => ?_)
      have hW9 : TW r0 (f_cpy (f_table r (rK r t) (rMn r t)) t (rT r + 1) (rMn r t), va_up C t (rT r + 1)) (g_w (g_b ga t (gN ga)) t (some (gA ga (3 * (rT r + 1))))) := TW.fl (hTW.ext hAV.1.2.2.2.2.2.1 hAV.1.1 hE (f_table r (rK r t) (rMn r t))) (Nat.succ_ne_zero _) _
      have hY9 : GY r g (f_table r (rK r t) (rMn r t)) (g_w (g_b ga t (gN ga)) t (some (gA ga (3 * (rT r + 1))))) := (hE.gy hM9).tr (GY.bw t _)
      obtain ⟨gz, hgz⟩ : ∃ z, z = g_w (g_b ga t (gN ga)) t (some (gA ga (3 * (rT r + 1)))) := ⟨_, rfl⟩
      rw [← hgz] at hR hW9 hY9
      have hl : lv_has ls 5 [(3, .ref (gA gz (3 * (rT r + 1)))), (0, .ref (gA gz 0)), (1, .ref (gA gz (3 * t))), (2, .int 2)] := (by rw [hgz]; exact hl)
      refine lv_aload_n hx hb dX5_twinOf_52 rfl (lv_at hl 2 rfl) ?_
      refine lv_iconst (v := 0) hx hb dX5_twinOf_53 (by decide) ?_
      refine lv_aload_n hx hb dX5_twinOf_54 rfl (lv_at hl 0 rfl) ?_
      refine lv_iconst (v := 0) hx hb dX5_twinOf_55 (by decide) ?_
      refine lv_aload_n hx hb dX5_twinOf_56 rfl (lv_at hl 2 rfl) ?_
      refine c_cnt F hK hR (t := t) (by omega) (show t ≤ rT r + 1 by omega) ⟨Nat.le_of_ble_eq_true rfl, Nat.le_of_ble_eq_true rfl⟩ hl.1 (Nat.le_of_ble_eq_true rfl) ⟨hcc2, hcs2⟩ dX5_twinOf_57 ?_
      refine px_topi (y := nI (rMn r t)) (by rw [show rMn (f_table r (rK r t) (rMn r t)) t = rMn r t from va_up_ne _ _ (by omega)]) ?_
      have hcn : ∀ q, q < rMn r t → f_canStand r t (f_at r t q) t = true := (fun q hq => by have a1 := hAV.1.2.1 t htr; have a2 : rMn r0 t = rMn r t := a1.2.1.symm; have a3 := hAV.1.at hI htr (show q < rMn r0 t by omega); have a4 : f_at r t q = f_at r0 t q := a3; rw [a4, can_congr (r := r0) (b := t) a1.1 a1.1 hAV.1.2.2.2.2.2.2.2.2.2.1 (fun h9 => (hAV.1.2.1 _ (((hI.it h0_t htr (show q < rMn r0 t by omega) (by omega)).2.2.2.2 h9).1)).1)]; exact can_inv hI h0_t htr (by omega))
      have h9 := c_X5_transfer l D cy A (f_table r (rK r t) (rMn r t)) gz H.size t (rT r + 1) 0 0 (nI (rMn r t)) h0_t (show t ≤ rT r + 1 by omega) (Nat.succ_ne_zero _) (Nat.le_refl _) (by rw [show rK (f_table r (rK r t) (rMn r t)) t = rK r t from va_up_ne _ _ (by omega), show rK (f_table r (rK r t) (rMn r t)) (rT r + 1) = rK r t from va_up_self _ _ _]) hV1 hK1.k (hK1 0).2 (show rT r + 1 < 100000 by omega) hMb (fun q => by omega)
      rw [tr_flat hAV.2.1 h0_t ht_t (Nat.le_refl _) (Nat.le_refl _) hm30 hcn] at h9
      refine px_goCx (st1 := [.int (nI (rMn r t))]) (px_callS F hK (h9) kc_X5_transfer kw_methodLink_RX5_121 rfl hR rfl ⟨rfl, rfl⟩ ⟨Nat.le_of_ble_eq_true rfl, Nat.le_of_ble_eq_true rfl⟩ hl.1 rfl (Nat.le_of_ble_eq_true rfl) dX5_twinOf_60 ⟨hcc2, hcs2⟩) hS rfl (fun H locs hR hS => ?_)
      refine lv_pop hx hb dX5_twinOf_63 rfl ?_
      have eT : rT (a_flat (r, C) t).1 = rT r + 1 := (by rw [efl]; rfl)
      have eK : rK (a_flat (r, C) t).1 (rT r + 1) = rK r t := (by rw [efl]; exact va_up_self _ _ _)
      have eM : rMn (a_flat (r, C) t).1 (rT r + 1) = rMn r t := (by rw [efl]; exact va_up_self _ _ _)
      have hR : CR D cy A (a_flat (r, C) t).1 gz H := (by rw [efl]; exact hR)
      have hW2 : TW r0 (a_flat (r, C) t) gz := (by rw [efl]; exact hW9)
      have hY : GY r g (a_flat (r, C) t).1 gz := (by rw [efl]; exact hY9)
      have hA1 : AV r0 (a_flat (r, C) t) := hAV.flat hI htr
      have hY0 := hAV.1.1
      refine lv_aload_n hx hb dX5_twinOf_64 rfl (lv_at hl 0 rfl) ?_
      refine c_iH F hK hR (t := (rT r + 1)) (by omega) (show (rT r + 1) ≤ rT ((a_flat (r, C) t).1) by omega) kw_classLink_RX5_158 dX5_twinOf_65 ?_
      refine x_ifeq_b (tgt := 86) hx hb dX5_twinOf_68 (by decide) (fun h_68 => ?_) (fun h_68 => ?_)
      · have h_68 : ¬ (8 ≤ rK ((a_flat (r, C) t).1) (rT r + 1)) := of_decide_eq_false h_68
        refine lv_aload_n hx hb dX5_twinOf_86 rfl (lv_at hl 0 rfl) ?_
        have eA : (a_mid (r, C) t) = (a_flat (r, C) t) := a_mid_F (Or.inr (show rK r t < 10 by omega))
        refine W.widen (k := cC r (a_mid (r, C) t).1) (n := cS r (a_mid (r, C) t).1) (by rw [eA, efl]; exact Nat.le_refl _) (by rw [eA, efl]; exact Nat.le_refl _) ?_
        exact px_aret (r := some (gA gz (3 * (rT r + 1)))) F hr hlocks hS ⟨gz, (by rw [eN]; exact congrArg some (col_t (Nat.succ_ne_zero _))), (by rw [eA]; exact hY), (by rw [eA]; exact hW2), (by rw [eA]; exact hR)⟩ dX5_twinOf_87
      · have h_68 : 8 ≤ rK ((a_flat (r, C) t).1) (rT r + 1) := of_decide_eq_true h_68
        refine lv_aload_n hx hb dX5_twinOf_71 rfl (lv_at hl 0 rfl) ?_
        refine c_cH F hK hR (t := (rT r + 1)) (by omega) (show (rT r + 1) ≤ rT ((a_flat (r, C) t).1) by omega) (show 8 ≤ rK ((a_flat (r, C) t).1) (rT r + 1) by omega) kw_classLink_RX5_158 dX5_twinOf_72 ?_
        refine lv_astore (lv' := [(4, .ref (gA gz (3 * (rT r + 1)))), (3, .ref (gA gz (3 * (rT r + 1)))), (0, .ref (gA gz 0)), (1, .ref (gA gz (3 * t))), (2, .int 2)]) hx hb dX5_twinOf_75 hl (by decide) rfl (fun ls hl => ?_)
        refine lv_aload_n hx hb dX5_twinOf_77 rfl (lv_at hl 2 rfl) ?_
        refine lv_aload hx hb dX5_twinOf_78 (lv_at hl 0 rfl) ?_
        refine lv_iload_n hx hb dX5_twinOf_80 rfl (lv_at hl 4 rfl) ?_
        refine lv_iconst (v := 1) hx hb dX5_twinOf_81 (by decide) ?_
        refine lv_isub hx hb dX5_twinOf_82 ?_
        refine px_topi (y := 1) (by decide) ?_
        by_cases h10 : rK r t < 10
        · refine px_goV (st1 := []) (px_callV F hK (c_X5_renewRows0 l D cy A (a_flat (r, C) t).1 gz _ (rT r + 1) 1 (Nat.succ_ne_zero _) (show rT r + 1 ≤ rT (a_flat (r, C) t).1 by omega) (by omega) (by omega) (show rMn (a_flat (r, C) t).1 (rT r + 1) ≤ 30 by omega) (hA1.2.1.2.1 _ (Nat.succ_ne_zero _) (by omega)).2.2) kc_X5_renewRows kw_methodLink_RX5_175 rfl hR (c_recv hK hR) rfl ⟨rfl, rfl⟩ ⟨Nat.le_of_ble_eq_true rfl, Nat.le_of_ble_eq_true rfl⟩ hl.1 rfl (Nat.le_of_ble_eq_true rfl) dX5_twinOf_83 ⟨hcc2, hcs2⟩) rfl ?_
          refine lv_aload_n hx hb dX5_twinOf_86 rfl (lv_at hl 1 rfl) ?_
          have eA : (a_mid (r, C) t) = (a_flat (r, C) t) := a_mid_F (Or.inr (show rK r t < 10 by omega))
          refine W.widen (k := cC r (a_mid (r, C) t).1) (n := cS r (a_mid (r, C) t).1) (by rw [eA, efl]; exact Nat.le_refl _) (by rw [eA, efl]; exact Nat.le_refl _) ?_
          exact px_aret (r := some (gA gz (3 * (rT r + 1)))) F hr hlocks hS ⟨gz, (by rw [eN]; exact congrArg some (col_t (Nat.succ_ne_zero _))), (by rw [eA]; exact hY), (by rw [eA]; exact hW2), (by rw [eA]; exact hR)⟩ dX5_twinOf_87
        · have h10 : 10 ≤ rK r t := (by omega)
          have hk0 : rK r0 t = rK r t := (hAV.1.2.1 t htr).1.symm
          have hm0 : rMn r0 t = rMn r t := (hAV.1.2.1 t htr).2.1.symm
          have eA : (a_mid (r, C) t) = (a_midL t (rT r + 1) (a_flat (r, C) t) (rMn r0 t)) := (by have q9 := a_mid_L (x := (r, C)) h0_t (show ¬ rK r t < 10 by omega) hC0; rw [q9, hm0])
          have hMN1 : MN r (a_flat (r, C) t).1 := a_flat_MN (r, C) t
          have hMN2 : MN (a_flat (r, C) t).1 (a_midL t (rT r + 1) (a_flat (r, C) t) (rMn r0 t)).1 := midL_mono t (rT r + 1) (a_flat (r, C) t) (Nat.zero_le _)
          have hcm : cC r (f_table r (rK r t) (rMn r t)) = cC r (a_flat (r, C) t).1 ∧ cS r (f_table r (rK r t) (rMn r t)) = cS r (a_flat (r, C) t).1 := (by rw [efl]; exact ⟨rfl, rfl⟩)
          have hsame : ∀ q, q < rMn r0 t → f_at (a_flat (r, C) t).1 (rT r + 1) q = f_at r0 t q := (fun q hq => by rw [efl]; show f_at (f_cpy (f_table r (rK r t) (rMn r t)) t (rT r + 1) (rMn r t)) (rT r + 1) q = _; rw [flat_new (r := r) (n := rMn r t) (c := rMn r t) hAV.2.1.1 h0_t ht_t (Nat.le_refl _) (Nat.le_refl _) hm30 (show q < rMn r t by omega), if_pos (show q < rMn r t by omega)]; exact hAV.1.at hI htr hq)
          refine px_goCa (c2 := cC r (a_midL t (rT r + 1) (a_flat (r, C) t) (rMn r0 t)).1) (s2 := cS r (a_midL t (rT r + 1) (a_flat (r, C) t) (rMn r0 t)).1) (px_callV F hK (c_X5_renewRows1 l D cy A (a_flat (r, C) t).1 gz _ r0 kk (a_flat (r, C) t).2 t (rT r + 1) (fun q9 h9 => hA9 q9 (Nat.le_trans hS.1 h9)) hI hA1 hW2 h0_t htr (by omega) (by omega) (show rT r0 < rT r + 1 by have q9 : rT r0 ≤ rT r := hY0; omega) (by omega) (by omega) (by omega) hsame (show rT (a_flat (r, C) t).1 < 80000 by omega) (show rM (a_flat (r, C) t).1 < 100000 by rw [efl]; exact hMb)) kc_X5_renewRows kw_methodLink_RX5_175 rfl hR (c_recv hK hR) rfl ⟨rfl, rfl⟩ ⟨Nat.le_of_ble_eq_true rfl, Nat.le_of_ble_eq_true rfl⟩ hl.1 rfl (Nat.le_of_ble_eq_true rfl) dX5_twinOf_83 (by rw [eA, hcm.1, hcm.2]; exact ⟨cC_add hMN1 hMN2, cS_add hMN1 hMN2⟩)) hS (by rw [hcm.1]; exact cC_add hMN1 hMN2) (by rw [hcm.2]; exact cS_add hMN1 hMN2) (fun H locs gb hY2 hW2 hR hS => ?_)
          have hY := hY.tr hY2
          have hl : lv_has ls 5 [(4, .ref (gA gb (3 * (rT r + 1)))), (3, .ref (gA gb (3 * (rT r + 1)))), (0, .ref (gA gb 0)), (1, .ref (gA gb (3 * t))), (2, .int 2)] := (by rw [(hY2.t (show (rT r + 1) ≤ rT ((a_flat (r, C) t).1) by omega))]; rw [hY2.x]; rw [(hY2.t (show t ≤ rT ((a_flat (r, C) t).1) by omega))]; exact hl)
          refine W.eq (g2 := F0 m 86 ls []) (by rfl) ?_
          refine lv_aload_n hx hb dX5_twinOf_86 rfl (lv_at hl 1 rfl) ?_
          refine W.widen (k := cC r (a_mid (r, C) t).1) (n := cS r (a_mid (r, C) t).1) (by rw [eA]; exact Nat.le_refl _) (by rw [eA]; exact Nat.le_refl _) ?_
          exact px_aret (r := some (gA gb (3 * (rT r + 1)))) F hr hlocks hS ⟨gb, (by rw [eN]; exact congrArg some (col_t (Nat.succ_ne_zero _))), (by rw [eA]; exact hY), (by rw [eA]; exact hW2), (by rw [eA]; exact hR)⟩ dX5_twinOf_87
    · have h_18 : (gB g t) = (gN g) := h_18
      refine lv_aload_n hx hb dX5_twinOf_21 rfl (lv_at hl 1 rfl) ?_
      refine c_gt F hK hR (t := t) (by omega) (show t ≤ rT r by omega) 2 (by decide) rfl kw_fieldLink_RX5_171 (fun _ h => h) dX5_twinOf_22 ?_
      rcases hTW t h0_t htr with ⟨_, hq1⟩ | ⟨hq0, _, hq2⟩
      · exact absurd h_18 hq1
      · obtain ⟨eA, eN⟩ := mans_old (x := (r, C)) h0_t hq0
        refine W.widen (k := cC r (a_mid (r, C) t).1) (n := cS r (a_mid (r, C) t).1) (Nat.zero_le _) (Nat.zero_le _) ?_
        exact px_aret (r := gW g t) F hr hlocks hS ⟨g, (by rw [eN]; exact congrArg (fun z => some (va_rf z)) (hq2.trans (if_neg hq0).symm)), (by rw [eA]; exact GY.rf rfl rfl), (by rw [eA]; exact hTW), (by rw [eA]; exact hR)⟩ dX5_twinOf_25
