/-! the class: the public methods, 6: make, deep, grow, thing -/
theorem GX.hd {r r1 : RS} {g g1 : CG} (h : GX r g r1 g1) (f : Nat → Nat) : GX r g (sHd r1 f) g1 := h
theorem GX.si {r r1 : RS} {g g1 : CG} (h : GX r g r1 g1) (f : Nat → Int64) : GX r g (sI r1 f) g1 := h
theorem cC_hd (r r1 : RS) (f : Nat → Nat) : cC r (sHd r1 f) = cC r r1 := rfl
theorem cS_hd (r r1 : RS) (f : Nat → Nat) : cS r (sHd r1 f) = cS r r1 := rfl
theorem cC_si (r r1 : RS) (f : Nat → Int64) : cC r (sI r1 f) = cC r r1 := rfl
theorem cS_si (r r1 : RS) (f : Nat → Int64) : cS r (sI r1 f) = cS r r1 := rfl
set_option maxHeartbeats 400000 in
set_option maxRecDepth 100000 in
theorem c_X5_make (l : Launch) (D : va_G) (cy : Nat → ClassId) (A : Nat → Prop) (r : RS) (g : CG) (sz : Nat)  (cl k n : Int32)  {kk : Nat} (hI : Inv kk r) (hV : VR r) (hK9 : VK r) (hA : ∀ q, sz ≤ q → A q) : Met l yX5_make (px_w yX5_make cX5_make 4 (some .int)) (rmd 14 (cC r (f_make r cl k n).1) (cS r (f_make r cl k n).1)) (px_P D cy [.ref (gA g 0), .int cl, .int k, .int n] sz (CR D cy A r g)) (px_Q (px_Cw D cy A r g (fun _ => some (.int (f_make r cl k n).2)) ((f_make r cl k n).1) (gM g)) A) (cC r (f_make r cl k n).1) (cS r (f_make r cl k n).1) A := by
  refine px_met (by decide) (Nat.le_of_ble_eq_true rfl) ?_
  intro p e s m below meth c F hr hlocks hnm hK hsz hR ls hl
  have hx := F.1
  have hb := F.2.1
  have hS : va_S A s.heap s.heap [] := va_S.rf
  have hbd := hI.bd
  have hkb := hK9.k
  have hM0 := (hK9 0).2
  have hK0 := hkb 0
  have hA9 : ∀ q, s.heap.size ≤ q → A q := fun q h => hA q (by omega)
  have hl : lv_has ls 4 [(0, .ref (gA g 0)), (1, .int cl), (2, .int k), (3, .int n)] := hl
  refine lv_iload_n hx hb dX5_make_0 rfl (lv_at hl 1 rfl) ?_
  refine px_goV (st1 := [.int (b2i (f_in cl 0 15))]) (px_callS F hK (c_X5_isColumn l D cy _ cl) kc_X5_isColumn kw_methodLink_RX5_22 rfl trivial rfl ⟨rfl, rfl⟩ ⟨Nat.le_of_ble_eq_true rfl, Nat.le_of_ble_eq_true rfl⟩ hl.1 rfl (Nat.le_of_ble_eq_true rfl) dX5_make_1 ⟨Nat.zero_le _, Nat.zero_le _⟩) rfl ?_
  refine x_ifeq_b (tgt := 23) hx hb dX5_make_4 (by decide) (fun h_4 => ?_) (fun h_4 => ?_)
  · refine lv_bipush (v := -2) hx hb dX5_make_23 (by decide) ?_
    have efm : (f_make r cl k n) = (r, (-2)) := (by simp [f_make, h_4] <;> rfl)
    refine W.widen (k := cC r (f_make r cl k n).1) (n := cS r (f_make r cl k n).1) (Nat.zero_le _) (Nat.zero_le _) ?_
    exact px_iret F hr hlocks hS ⟨g, (by rw [efm]), (by rw [efm]; exact GX.rf rfl rfl), rfl, (by rw [efm]; exact hR)⟩ dX5_make_25
  · refine lv_iload_n hx hb dX5_make_7 rfl (lv_at hl 2 rfl) ?_
    refine lv_iconst (v := 0) hx hb dX5_make_8 (by decide) ?_
    refine lv_bipush (v := 13) hx hb dX5_make_9 (by decide) ?_
    refine px_goV (st1 := [.int (b2i (f_in k 0 13))]) (px_callS F hK (c_X5_isKind l D cy _ k 0 13) kc_X5_isKind kw_methodLink_RX5_26 rfl trivial rfl ⟨rfl, rfl⟩ ⟨Nat.le_of_ble_eq_true rfl, Nat.le_of_ble_eq_true rfl⟩ hl.1 rfl (Nat.le_of_ble_eq_true rfl) dX5_make_11 ⟨Nat.zero_le _, Nat.zero_le _⟩) rfl ?_
    refine x_ifeq_b (tgt := 23) hx hb dX5_make_14 (by decide) (fun h_14 => ?_) (fun h_14 => ?_)
    · refine lv_bipush (v := -2) hx hb dX5_make_23 (by decide) ?_
      have efm : (f_make r cl k n) = (r, (-2)) := (by simp [f_make, h_4, h_14] <;> rfl)
      refine W.widen (k := cC r (f_make r cl k n).1) (n := cS r (f_make r cl k n).1) (Nat.zero_le _) (Nat.zero_le _) ?_
      exact px_iret F hr hlocks hS ⟨g, (by rw [efm]), (by rw [efm]; exact GX.rf rfl rfl), rfl, (by rw [efm]; exact hR)⟩ dX5_make_25
    · refine lv_iload_n hx hb dX5_make_17 rfl (lv_at hl 3 rfl) ?_
      refine lv_bipush (v := 30) hx hb dX5_make_18 (by decide) ?_
      refine lv_icmp_le (tgt := 26) hx hb dX5_make_20 (by decide) (fun h_20 => ?_) (fun h_20 => ?_)
      · have h_20 : ¬ 30 < n := Int32.not_lt.mpr h_20
        obtain ⟨cn, hl_cn, hh_cn, rfl⟩ := f_in_nat h_4 0 15 (by decide) (by decide) (by decide) (by decide)
        obtain ⟨kn, hl_kn, hh_kn, rfl⟩ := f_in_nat h_14 0 13 (by decide) (by decide) (by decide) (by decide)
        refine lv_aload_n hx hb dX5_make_26 rfl (lv_at hl 0 rfl) ?_
        refine px_goV (st1 := [.int (b2i (decide (6000 ≤ rN r)))]) (px_callV F hK (c_X5_isFull l D cy A r g _ (by omega)) kc_X5_isFull kw_methodLink_RX5_30 rfl hR (c_recv hK hR) rfl ⟨rfl, rfl⟩ ⟨Nat.le_of_ble_eq_true rfl, Nat.le_of_ble_eq_true rfl⟩ hl.1 rfl (Nat.le_of_ble_eq_true rfl) dX5_make_27 ⟨Nat.zero_le _, Nat.zero_le _⟩) rfl ?_
        refine x_ifeq_b (tgt := 36) hx hb dX5_make_30 (by decide) (fun h_30 => ?_) (fun h_30 => ?_)
        · have h_30 : ¬ (6000 ≤ rN r) := of_decide_eq_false h_30
          refine lv_iload_n hx hb dX5_make_36 rfl (lv_at hl 3 rfl) ?_
          refine lv_if_ge (tgt := 45) hx hb dX5_make_37 (by decide) (fun h_37 => ?_) (fun h_37 => ?_)
          · have h_37 : ¬ n < 0 := Int32.not_lt.mpr h_37
            obtain ⟨nn, hh_nn, rfl⟩ := le_nat 30 h_37 h_20 (by decide) (by decide)
            refine lv_aload_n hx hb dX5_make_45 rfl (lv_at hl 0 rfl) ?_
            refine c_gx F hK hR 0 (by decide) rfl kw_fieldLink_RX5_11 dX5_make_46 ?_
            refine lv_iload_n hx hb dX5_make_49 rfl (lv_at hl 1 rfl) ?_
            refine lv_aload_n hx hb dX5_make_50 rfl (lv_at hl 0 rfl) ?_
            refine lv_iload_n hx hb dX5_make_51 rfl (lv_at hl 2 rfl) ?_
            refine lv_iload_n hx hb dX5_make_52 rfl (lv_at hl 3 rfl) ?_
            have efm : (f_make r (nI cn) (nI kn) (nI nn)) = (sHd (f_table r kn nn) (va_up (rHd r) cn (rT r + 1)), 1) := (by simp [f_make, h_4, h_14, h_20, h_30, h_37, ix_nI (show cn < 2 ^ 31 by omega), ix_nI (show kn < 2 ^ 31 by omega), ix_nI (show nn < 2 ^ 31 by omega)])
            have hcc : cC r (f_make r (nI cn) (nI kn) (nI nn)).1 = cC r (f_table r kn nn) := (by rw [efm]; rfl)
            have hcs : cS r (f_make r (nI cn) (nI kn) (nI nn)).1 = cS r (f_table r kn nn) := (by rw [efm]; rfl)
            have hc2 : 0 + 2 ≤ cC r (f_table r kn nn) := (by rw [← cC_0 r]; exact cC_t MN.rf kn nn)
            have hs2 : 0 + (4 + nn) ≤ cS r (f_table r kn nn) := (by rw [← cS_0 r]; exact cS_t MN.rf kn nn)
            refine px_goCw (c2 := cC r (f_table r kn nn)) (s2 := cS r (f_table r kn nn)) (px_callV F hK (c_X5_newTable l D cy A r g _ kn nn (fun q9 h9 => hA9 q9 (Nat.le_trans hS.1 h9)) hV (by omega) (by omega)) kc_X5_newTable kw_methodLink_RX5_38 rfl hR (c_recv hK hR) rfl ⟨rfl, rfl⟩ ⟨Nat.le_of_ble_eq_true rfl, Nat.le_of_ble_eq_true rfl⟩ hl.1 rfl (Nat.le_of_ble_eq_true rfl) dX5_make_53 ⟨Nat.le_trans hc2 (Nat.le_of_eq hcc.symm), Nat.le_trans hs2 (Nat.le_of_eq hcs.symm)⟩) hS hc2 hs2 (fun H locs ga hE2 hM2 hR hS => ?_)
            have hE : GX r g (f_table r kn nn) ga := (GX.rf rfl rfl : GX r g (r) g).tr hE2
            have hM9 := hM2
            have hl : lv_has ls 4 [(0, .ref (gA ga 0)), (1, .int (nI cn)), (2, .int (nI kn)), (3, .int (nI nn))] := (by rw [hE2.x]; exact hl)
            refine W.eq (g2 := F0 m 56 ls [.ref (gA ga (3 * (rT r + 1))), .int (nI cn), .ref (gA ga 1)]) (by rw [(hE2.2.2.1 _ (dm_1 _))]; rfl) ?_
            refine c_stcol F hK hR hS cn (rT r + 1) rfl (col_t (by omega)) (show (rT r + 1) ≤ rT r + 1 by omega) (by omega) dX5_make_56 (fun H locs hR hS => ?_)
            refine lv_iconst (v := 1) hx hb dX5_make_57 (by decide) ?_
            refine W.widen (k := cC r (f_make r (nI cn) (nI kn) (nI nn)).1) (n := cS r (f_make r (nI cn) (nI kn) (nI nn)).1) (Nat.le_of_eq hcc.symm) (Nat.le_of_eq hcs.symm) ?_
            exact px_iret F hr hlocks hS ⟨ga, (by rw [efm]), (by rw [efm]; exact hE), hM9, (by rw [efm]; exact hR)⟩ dX5_make_58
          · have h_37 : n < 0 := Int32.not_le.mp h_37
            refine lv_iconst (v := 4) hx hb dX5_make_40 (by decide) ?_
            refine px_goV (st1 := [.int (-14)]) (px_callS F hK (c_X5_against l D cy _ 4) kc_X5_against kw_methodLink_RX5_34 rfl trivial rfl ⟨rfl, rfl⟩ ⟨Nat.le_of_ble_eq_true rfl, Nat.le_of_ble_eq_true rfl⟩ hl.1 rfl (Nat.le_of_ble_eq_true rfl) dX5_make_41 ⟨Nat.zero_le _, Nat.zero_le _⟩) rfl ?_
            have efm : (f_make r (nI cn) (nI kn) n) = (r, (-14)) := (by simp [f_make, h_4, h_14, h_20, h_30, h_37, ix_nI (show cn < 2 ^ 31 by omega), ix_nI (show kn < 2 ^ 31 by omega)] <;> rfl)
            refine W.widen (k := cC r (f_make r (nI cn) (nI kn) n).1) (n := cS r (f_make r (nI cn) (nI kn) n).1) (Nat.zero_le _) (Nat.zero_le _) ?_
            exact px_iret F hr hlocks hS ⟨g, (by rw [efm]), (by rw [efm]; exact GX.rf rfl rfl), rfl, (by rw [efm]; exact hR)⟩ dX5_make_44
        · have h_30 : 6000 ≤ rN r := of_decide_eq_true h_30
          refine lv_bipush (v := -3) hx hb dX5_make_33 (by decide) ?_
          have efm : (f_make r (nI cn) (nI kn) n) = (r, (-3)) := (by simp [f_make, h_4, h_14, h_20, h_30, ix_nI (show cn < 2 ^ 31 by omega), ix_nI (show kn < 2 ^ 31 by omega)] <;> rfl)
          refine W.widen (k := cC r (f_make r (nI cn) (nI kn) n).1) (n := cS r (f_make r (nI cn) (nI kn) n).1) (Nat.zero_le _) (Nat.zero_le _) ?_
          exact px_iret F hr hlocks hS ⟨g, (by rw [efm]), (by rw [efm]; exact GX.rf rfl rfl), rfl, (by rw [efm]; exact hR)⟩ dX5_make_35
      · have h_20 : 30 < n := Int32.not_le.mp h_20
        refine lv_bipush (v := -2) hx hb dX5_make_23 (by decide) ?_
        have efm : (f_make r cl k n) = (r, (-2)) := (by simp [f_make, h_4, h_14, h_20] <;> rfl)
        refine W.widen (k := cC r (f_make r cl k n).1) (n := cS r (f_make r cl k n).1) (Nat.zero_le _) (Nat.zero_le _) ?_
        exact px_iret F hr hlocks hS ⟨g, (by rw [efm]), (by rw [efm]; exact GX.rf rfl rfl), rfl, (by rw [efm]; exact hR)⟩ dX5_make_25
