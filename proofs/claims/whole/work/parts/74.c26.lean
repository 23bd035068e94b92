/-! the class: the public methods, 9: aside -/
def CI (k : Nat) (r : RS) (g : CG) : Prop := gM g = rM r ∧ ∃ a, a ≤ k ∧ gN g = nI a ∧ ∀ t, t ≤ rT r → ∃ b, b ≤ a ∧ gB g t = nI b
def px_Cp (D : va_G) (cy : Nat → ClassId) (A : Nat → Prop) (kk : Nat) (g : CG) (v : Option Value) (r' : RS) : Option Value → Heap → Prop := fun v' H => ∃ g' : CG, v' = v ∧ gA g' 0 = gA g 0 ∧ CI kk r' g' ∧ CR D cy A r' g' H
def g_n1 (g : CG) : CG := (gA g, gN g + 1, gB g, gW g, gM g)
theorem CI.up {k k' : Nat} {r r' : RS} {g : CG} (h : CI k r g) (hk : k ≤ k') (h1 : rT r' = rT r) (h2 : rM r' = rM r) : CI k' r' g := by
  obtain ⟨a, b, c, d, e⟩ := h
  exact ⟨by rw [h2]; exact a, b, by omega, d, by rw [h1]; exact e⟩
theorem CI.gx {k k' : Nat} {r r' : RS} {g g' : CG} (h : CI k r g) (hk : k ≤ k') (hE : GX r g r' g') (hM : gM g' = rM r') : CI k' r' g' := by
  obtain ⟨a, b, c, d, e⟩ := h
  refine ⟨hM, b, by omega, hE.2.2.2.1.trans d, fun t ht => ?_⟩
  by_cases q : t ≤ rT r
  · rw [(hE.2.2.2.2.1 t q).1]; exact e t q
  · exact ⟨0, Nat.zero_le _, hE.2.2.2.2.2 t (by omega) ht⟩
theorem CI.gy {k : Nat} {r r' : RS} {g g' : CG} (h : CI k r g) (hE : GY r (g_n1 g) r' g') (hM : rM r' = rM r) : CI (k + 1) r' g' := by
  obtain ⟨a, b, c, d, e⟩ := h
  have hN : gN g' = nI (b + 1) := hE.2.2.2.1.trans (by show gN g + 1 = _; rw [d]; exact nI_1 _)
  refine ⟨hE.2.2.2.2.1.trans (a.trans hM.symm), b + 1, by omega, hN, fun t ht => ?_⟩
  rcases hE.2.2.2.2.2 t ht with ⟨q1, q2⟩ | q | q
  · obtain ⟨z, z1, z2⟩ := e t q1
    exact ⟨z, by omega, q2.trans z2⟩
  · exact ⟨b + 1, Nat.le_refl _, q.trans (hE.2.2.2.1.symm.trans hN)⟩
  · exact ⟨0, Nat.zero_le _, q⟩
theorem CI.tw {k : Nat} {r : RS} {g : CG} (h : CI k r g) (hk : k ≤ 1000) (C : Nat → Nat) : TW r (r, clrH C (rT r + 1)) (g_n1 g) := by
  obtain ⟨-, b, c, d, e⟩ := h
  intro t h0 ht
  refine Or.inl ⟨by show clrH C (rT r + 1) t = 0; unfold clrH; rw [if_pos (by omega)], ?_⟩
  obtain ⟨z, z1, z2⟩ := e t ht
  show gB g t ≠ gN g + 1
  rw [z2, d, nI_1]
  intro q
  have := nIeq q (by omega) (by omega)
  omega
theorem top_av {r : RS} {kk t : Nat} (C : Nat → Nat) (hI : Inv kk r) (hV : VR r) (hK : VK r) (ht : t ≤ rT r) : AV r (a_top (r, clrH C (rT r + 1)) t) ∧ MN r (a_top (r, clrH C (rT r + 1)) t).1 ∧ a_tans (r, clrH C (rT r + 1)) t ≤ rT (a_top (r, clrH C (rT r + 1)) t).1 := by
  have hb := hI.bd
  have hA : AV r (r, clrH C (rT r + 1)) := ⟨AI.init hI C, hV, hK⟩
  have hC : clrH C (rT r + 1) t = 0 := by unfold clrH; rw [if_pos (by omega)]
  by_cases h0 : t = 0
  · have e1 : a_top (r, clrH C (rT r + 1)) t = (r, clrH C (rT r + 1)) := (if_neg (fun q => q.1 h0)).trans (a_mid_0 h0)
    have e2 : a_tans (r, clrH C (rT r + 1)) t = 0 := (if_neg (fun q => q.1 h0)).trans (a_mans_0 h0)
    rw [e1, e2]
    exact ⟨hA, MN.rf, Nat.zero_le _⟩
  · have hM := flat_top_MN (x := (r, clrH C (rT r + 1))) h0 hC
    have hf := a_flat_new (x := (r, clrH C (rT r + 1))) h0 hC
    have hT : rT (a_flat (r, clrH C (rT r + 1)) t).1 = rT r + 1 := by rw [hf]; rfl
    refine ⟨?_, (a_flat_MN (r, clrH C (rT r + 1)) t).tr hM, ?_⟩
    · unfold a_top
      by_cases h13 : rK r t = 13
      · rw [if_pos ⟨h0, h13⟩]
        have hF := hA.flat hI ht
        rw [fans_new (x := (r, clrH C (rT r + 1))) h0 hC]
        refine (topL_f (x := a_flat (r, clrH C (rT r + 1)) t) (u := rT r + 1) hF hI h0 ht (by omega) (by omega) (Nat.le_of_eq hT.symm) ?_ ?_ (by omega) _ (Nat.le_refl _)).1
        · rw [hf]; exact va_up_self _ _ _
        · rw [hf]; exact va_up_self _ _ _
      · rw [if_neg (fun q => h13 q.2)]
        exact (mid_f hA hI ht (by show rT r < 80000; omega)).1
    · rw [tans_new (x := (r, clrH C (rT r + 1))) h0 hC]
      exact Nat.le_trans (Nat.le_of_eq hT.symm) hM.1
set_option maxHeartbeats 400000 in
set_option maxRecDepth 100000 in
theorem c_X5_aside (l : Launch) (D : va_G) (cy : Nat → ClassId) (A : Nat → Prop) (r : RS) (g : CG) (sz : Nat)  (C : Nat → Nat) (cl f : Int32)  {kk : Nat} (hI : Inv kk r) (hV : VR r) (hK9 : VK r) (hA : ∀ q, sz ≤ q → A q) (hCI : CI kk r g) : Met l yX5_aside (px_w yX5_aside cX5_aside 3 (some .int)) (rmd 14 (cC r (f_aside r C cl f).1) (cS r (f_aside r C cl f).1)) (px_P D cy [.ref (gA g 0), .int cl, .int f] sz (CR D cy A r g)) (px_Q (px_Cp D cy A (kk + 1) g (some (.int (f_aside r C cl f).2)) ((f_aside r C cl f).1)) A) (cC r (f_aside r C cl f).1) (cS r (f_aside r C cl f).1) A := by
  refine px_met (by decide) (Nat.le_of_ble_eq_true rfl) ?_
  intro p e s m below meth c F hr hlocks hnm hK hsz hR ls hl
  have hx := F.1
  have hb := F.2.1
  have hS : va_S A s.heap s.heap [] := va_S.rf
  have hbd := hI.bd
  have hkb := hK9.k
  have hM0 := (hK9 0).2
  have hK0 := hkb 0
  have hA9 : ∀ q, s.heap.size ≤ q → A q := fun q h => hA q (by omega)
  have hkk := hI.1
  have hl : lv_has ls 3 [(0, .ref (gA g 0)), (1, .int cl), (2, .int f)] := hl
  refine lv_iload_n hx hb dX5_aside_0 rfl (lv_at hl 1 rfl) ?_
  refine px_goV (st1 := [.int (b2i (f_in cl 0 15))]) (px_callS F hK (c_X5_isColumn l D cy _ cl) kc_X5_isColumn kw_methodLink_RX5_22 rfl trivial rfl ⟨rfl, rfl⟩ ⟨Nat.le_of_ble_eq_true rfl, Nat.le_of_ble_eq_true rfl⟩ hl.1 rfl (Nat.le_of_ble_eq_true rfl) dX5_aside_1 ⟨Nat.zero_le _, Nat.zero_le _⟩) rfl ?_
  refine x_ifeq_b (tgt := 14) hx hb dX5_aside_4 (by decide) (fun h_4 => ?_) (fun h_4 => ?_)
  · refine lv_bipush (v := -2) hx hb dX5_aside_14 (by decide) ?_
    have efm : (f_aside r C cl f) = (r, (-2)) := (by simp [f_aside, h_4])
    refine W.widen (k := cC r (f_aside r C cl f).1) (n := cS r (f_aside r C cl f).1) (Nat.zero_le _) (Nat.zero_le _) ?_
    exact px_iret F hr hlocks hS ⟨g, (by rw [efm]), rfl, (by rw [efm]; exact hCI.up (Nat.le_succ _) rfl rfl), (by rw [efm]; exact hR)⟩ dX5_aside_16
  · refine lv_iload_n hx hb dX5_aside_7 rfl (lv_at hl 2 rfl) ?_
    refine px_goV (st1 := [.int (b2i (f_in f 0 15))]) (px_callS F hK (c_X5_isColumn l D cy _ f) kc_X5_isColumn kw_methodLink_RX5_22 rfl trivial rfl ⟨rfl, rfl⟩ ⟨Nat.le_of_ble_eq_true rfl, Nat.le_of_ble_eq_true rfl⟩ hl.1 rfl (Nat.le_of_ble_eq_true rfl) dX5_aside_8 ⟨Nat.zero_le _, Nat.zero_le _⟩) rfl ?_
    refine x_ifne_b (tgt := 17) hx hb dX5_aside_11 (by decide) (fun h_11 => ?_) (fun h_11 => ?_)
    · obtain ⟨cn, hl_cn, hh_cn, rfl⟩ := f_in_nat h_4 0 15 (by decide) (by decide) (by decide) (by decide)
      obtain ⟨fn, hl_fn, hh_fn, rfl⟩ := f_in_nat h_11 0 15 (by decide) (by decide) (by decide) (by decide)
      have hd0 := hI.hd fn (by omega)
      have hd1 := hI.tb _ hd0
      refine lv_aload_n hx hb dX5_aside_17 rfl (lv_at hl 0 rfl) ?_
      refine px_goV (st1 := [.int (b2i (decide (6000 ≤ rN r)))]) (px_callV F hK (c_X5_isFull l D cy A r g _ (by omega)) kc_X5_isFull kw_methodLink_RX5_30 rfl hR (c_recv hK hR) rfl ⟨rfl, rfl⟩ ⟨Nat.le_of_ble_eq_true rfl, Nat.le_of_ble_eq_true rfl⟩ hl.1 rfl (Nat.le_of_ble_eq_true rfl) dX5_aside_18 ⟨Nat.zero_le _, Nat.zero_le _⟩) rfl ?_
      refine x_ifeq_b (tgt := 27) hx hb dX5_aside_21 (by decide) (fun h_21 => ?_) (fun h_21 => ?_)
      · have h_21 : ¬ (6000 ≤ rN r) := of_decide_eq_false h_21
        refine lv_aload_n hx hb dX5_aside_27 rfl (lv_at hl 0 rfl) ?_
        refine lv_dup hx hb dX5_aside_28 rfl ?_
        refine c_gx F hK hR 4 (by decide) rfl kw_fieldLink_RX5_49 dX5_aside_29 ?_
        refine lv_iconst (v := 1) hx hb dX5_aside_32 (by decide) ?_
        refine lv_iadd hx hb dX5_aside_33 ?_
        have hTW0 := hCI.tw (by omega) C
        obtain ⟨hAV9, hMN9, hle9⟩ := top_av C hI hV hK9 hd0
        have hHd9 : rHd (a_top (r, clrH C (rT r + 1)) (rHd r fn)).1 = rHd r := hAV9.1.2.2.2.2.2.2.2.1
        have hrM9 : rM (a_top (r, clrH C (rT r + 1)) (rHd r fn)).1 = rM r := hAV9.1.2.2.2.2.2.2.2.2.1
        have efm : (f_aside r C (nI cn) (nI fn)) = (sHd (a_top (r, clrH C (rT r + 1)) (rHd r fn)).1 (va_up (rHd (a_top (r, clrH C (rT r + 1)) (rHd r fn)).1) cn (a_tans (r, clrH C (rT r + 1)) (rHd r fn))), 1) := (by rw [hHd9]; simp [f_aside, h_4, h_11, h_21, ix_nI (show cn < 2 ^ 31 by omega), ix_nI (show fn < 2 ^ 31 by omega)])
        have hcc : cC r (f_aside r C (nI cn) (nI fn)).1 = cC r (a_top (r, clrH C (rT r + 1)) (rHd r fn)).1 := (by rw [efm]; exact cC_hd r _ _)
        have hcs : cS r (f_aside r C (nI cn) (nI fn)).1 = cS r (a_top (r, clrH C (rT r + 1)) (rHd r fn)).1 := (by rw [efm]; exact cS_hd r _ _)
        refine c_px F hK hR hS 4 (by decide) (v := gN g + 1) rfl r (g_n1 g) rfl rfl (fun _ => Iff.rfl) (fun z hz => by unfold c_en; rw [if_neg hz, if_neg hz]; rfl) kw_fieldLink_RX5_49 rfl rfl dX5_aside_34 (fun H locs hR hS => ?_)
        have hl : lv_has ls 3 [(0, .ref (gA (g_n1 g) 0)), (1, .int (nI cn)), (2, .int (nI fn))] := hl
        have hY : GY r (g_n1 g) r (g_n1 g) := GY.rf rfl rfl
        refine lv_aload_n hx hb dX5_aside_37 rfl (lv_at hl 0 rfl) ?_
        refine c_gx F hK hR 0 (by decide) rfl kw_fieldLink_RX5_11 dX5_aside_38 ?_
        refine lv_iload_n hx hb dX5_aside_41 rfl (lv_at hl 1 rfl) ?_
        refine lv_aload_n hx hb dX5_aside_42 rfl (lv_at hl 0 rfl) ?_
        refine lv_aload_n hx hb dX5_aside_43 rfl (lv_at hl 0 rfl) ?_
        refine c_gx F hK hR 0 (by decide) rfl kw_fieldLink_RX5_11 dX5_aside_44 ?_
        refine lv_iload_n hx hb dX5_aside_47 rfl (lv_at hl 2 rfl) ?_
        refine c_ldcol F hK hR fn rfl (by omega) dX5_aside_48 ?_
        refine lv_iconst (v := 3) hx hb dX5_aside_49 (by decide) ?_
        refine px_goCa (c2 := cC r (a_top (r, clrH C (rT r + 1)) (rHd r fn)).1) (s2 := cS r (a_top (r, clrH C (rT r + 1)) (rHd r fn)).1) (px_callV F hK (c_X5_twinOf3 l D cy A r (g_n1 g) _ (rHd r fn) (va_rf (c_col (gA (g_n1 g)) (rHd r fn))) r kk (clrH C (rT r + 1)) rfl hd0 (fun q9 h9 => hA9 q9 (Nat.le_trans hS.1 h9)) hI ⟨AI.init hI C, hV, hK9⟩ hTW0 hd0 (by unfold clrH; rw [if_pos (by omega)]) (by omega) (by omega)) kc_X5_twinOf kw_methodLink_RX5_53 rfl hR (c_recv hK hR) rfl ⟨rfl, rfl⟩ ⟨Nat.le_of_ble_eq_true rfl, Nat.le_of_ble_eq_true rfl⟩ hl.1 rfl (Nat.le_of_ble_eq_true rfl) dX5_aside_50 ⟨(by rw [hcc, Nat.zero_add]; exact Nat.le_refl _), (by rw [hcs, Nat.zero_add]; exact Nat.le_refl _)⟩) hS (Nat.le_of_eq (Nat.zero_add _)) (Nat.le_of_eq (Nat.zero_add _)) (fun H locs ga hY2 hW2 hR hS => ?_)
        have hY := hY.tr hY2
        have hl : lv_has ls 3 [(0, .ref (gA ga 0)), (1, .int (nI cn)), (2, .int (nI fn))] := (by rw [hY2.x]; exact hl)
        refine W.eq (g2 := F0 m 53 ls [va_rf (c_col (gA ga) (a_tans (r, clrH C (rT r + 1)) (rHd r fn))), .int (nI cn), .ref (gA ga 1)]) (by rw [(hY2.2.2.1 _ (dm_1 _))]; rfl) ?_
        refine c_stcol F hK hR hS cn (a_tans (r, clrH C (rT r + 1)) (rHd r fn)) rfl rfl (show (a_tans (r, clrH C (rT r + 1)) (rHd r fn)) ≤ rT ((a_top (r, clrH C (rT r + 1)) (rHd r fn)).1) by omega) (by omega) dX5_aside_53 (fun H locs hR hS => ?_)
        refine lv_iconst (v := 1) hx hb dX5_aside_54 (by decide) ?_
        refine W.widen (k := cC r (f_aside r C (nI cn) (nI fn)).1) (n := cS r (f_aside r C (nI cn) (nI fn)).1) (Nat.le_of_eq hcc.symm) (Nat.le_of_eq hcs.symm) ?_
        have hY9 : GY r (g_n1 g) (f_aside r C (nI cn) (nI fn)).1 ga := (by rw [efm]; exact hY.st rfl rfl)
        exact px_iret F hr hlocks hS ⟨ga, (by rw [efm]), hY9.x, hCI.gy hY9 (by rw [efm]; exact hrM9), (by rw [efm]; exact hR)⟩ dX5_aside_55
      · have h_21 : 6000 ≤ rN r := of_decide_eq_true h_21
        refine lv_bipush (v := -3) hx hb dX5_aside_24 (by decide) ?_
        have efm : (f_aside r C (nI cn) (nI fn)) = (r, (-3)) := (by simp [f_aside, h_4, h_11, h_21])
        refine W.widen (k := cC r (f_aside r C (nI cn) (nI fn)).1) (n := cS r (f_aside r C (nI cn) (nI fn)).1) (Nat.zero_le _) (Nat.zero_le _) ?_
        exact px_iret F hr hlocks hS ⟨g, (by rw [efm]), rfl, (by rw [efm]; exact hCI.up (Nat.le_succ _) rfl rfl), (by rw [efm]; exact hR)⟩ dX5_aside_26
    · refine lv_bipush (v := -2) hx hb dX5_aside_14 (by decide) ?_
      have efm : (f_aside r C cl f) = (r, (-2)) := (by simp [f_aside, h_4, h_11])
      refine W.widen (k := cC r (f_aside r C cl f).1) (n := cS r (f_aside r C cl f).1) (Nat.zero_le _) (Nat.zero_le _) ?_
      exact px_iret F hr hlocks hS ⟨g, (by rw [efm]), rfl, (by rw [efm]; exact hCI.up (Nat.le_succ _) rfl rfl), (by rw [efm]; exact hR)⟩ dX5_aside_16
