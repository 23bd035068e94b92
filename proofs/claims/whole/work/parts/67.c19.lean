/-! the class: the public methods, 2 -/
theorem no_0 {r : RS} {t k : Nat} {i : Int32} (h : f_no r t k i = 0) : f_isOf r t k = true ∧ f_looked r t i = 0 := by
  unfold f_no at h
  by_cases q : f_isOf r t k = true
  · rw [if_pos q] at h; exact ⟨q, h⟩
  · rw [if_neg q] at h; cases h
theorem no_le {r : RS} {t k : Nat} {i : Int32} : f_no r t k i ≤ 3 := by
  unfold f_no
  split
  · exact looked_le r t i
  · omega
theorem no_row {r : RS} {t k : Nat} {i : Int32} (h : f_no r t k i = 0) (h10 : 10 ≤ k) : t ≠ 0 ∧ rK r t = k ∧ f_rowAt r t i = iv (f_at r t (ix i)) := by
  obtain ⟨h1, h2⟩ := no_0 h
  have h0 : t ≠ 0 := fun q => by rw [q] at h2; cases h2
  rcases isOf_k h1 h0 with q | ⟨q, -⟩
  · exact ⟨h0, q, if_neg (fun z => z.elim h0 (fun z => z.elim (by omega) (fun z => z h2)))⟩
  · omega
theorem fin_k {k : Int32} {a b : Nat} (h1 : f_in k (nI a) (nI b) = true) (ha : a < 2 ^ 31) (hb : b < 2 ^ 31) : ∃ n : Nat, a ≤ n ∧ n ≤ b ∧ k = nI n := f_in_nat h1 a b rfl rfl ha hb
theorem told_4 (w : Int32) : w = 0 ∨ w = 1 ∨ w = 2 ∨ (¬ w = 0 ∧ ¬ w = 1 ∧ ¬ w = 2 ∧ (w.toInt < 0 ∨ 2 < w.toInt)) := by
  by_cases h0 : w = 0
  · exact Or.inl h0
  by_cases h1 : w = 1
  · exact Or.inr (Or.inl h1)
  by_cases h2 : w = 2
  · exact Or.inr (Or.inr (Or.inl h2))
  · refine Or.inr (Or.inr (Or.inr ⟨h0, h1, h2, ?_⟩))
    have e0 : w.toInt ≠ 0 := fun q => h0 (Int32.toInt_inj.mp (by rw [q]; rfl))
    have e1 : w.toInt ≠ 1 := fun q => h1 (Int32.toInt_inj.mp (by rw [q]; rfl))
    have e2 : w.toInt ≠ 2 := fun q => h2 (Int32.toInt_inj.mp (by rw [q]; rfl))
    omega
set_option maxHeartbeats 400000 in
set_option maxRecDepth 100000 in
theorem c_X5_told (l : Launch) (D : va_G) (cy : Nat → ClassId) (A : Nat → Prop) (r : RS) (g : CG) (sz : Nat)  (w : Int32)  (hgM : gM g = rM r) : Met l yX5_told (px_w yX5_told cX5_told 2 (some .int)) (rmd 9 0 0) (px_P D cy [.ref (gA g 0), .int w] sz (CR D cy A r g)) (px_V (some (.int (f_told r w)))) 0 0 (fun _ => False) := by
  refine px_met (by decide) (Nat.le_of_ble_eq_true rfl) ?_
  intro p e s m below meth c F hr hlocks hnm hK hsz hR ls hl
  have hx := F.1
  have hb := F.2.1
  have hl : lv_has ls 2 [(0, .ref (gA g 0)), (1, .int w)] := hl
  refine lv_iload_n hx hb dX5_told_0 rfl (lv_at hl 1 rfl) ?_
  rcases told_4 w with rfl | rfl | rfl | ⟨hw0, hw1, hw2, hw⟩
  · refine lv_tableIn (off := 27) (tgt := 28) hx hb dX5_told_1 (by decide) (by decide) (by decide +kernel) (by decide) ?_
    refine lv_aload_n hx hb dX5_told_28 rfl (lv_at hl 0 rfl) ?_
    refine px_goV (st1 := [.int (nI (f_held r))]) (px_callV F hK (c_X5_heldColumns l D cy A r g _) kc_X5_heldColumns kw_methodLink_RX5_146 rfl hR (c_recv hK hR) rfl ⟨rfl, rfl⟩ ⟨Nat.le_of_ble_eq_true rfl, Nat.le_of_ble_eq_true rfl⟩ hl.1 rfl (Nat.le_of_ble_eq_true rfl) dX5_told_29 ⟨Nat.zero_le _, Nat.zero_le _⟩) rfl ?_
    exact pv_iret F hr hlocks (by rfl) dX5_told_32
  · refine lv_tableIn (off := 32) (tgt := 33) hx hb dX5_told_1 (by decide) (by decide) (by decide +kernel) (by decide) ?_
    refine lv_aload_n hx hb dX5_told_33 rfl (lv_at hl 0 rfl) ?_
    refine c_gx F hK hR 2 (by decide) rfl kw_fieldLink_RX5_149 dX5_told_34 ?_
    exact pv_iret F hr hlocks (by rfl) dX5_told_37
  · refine lv_tableIn (off := 37) (tgt := 38) hx hb dX5_told_1 (by decide) (by decide) (by decide +kernel) (by decide) ?_
    refine lv_aload_n hx hb dX5_told_38 rfl (lv_at hl 0 rfl) ?_
    refine c_gx F hK hR 3 (by decide) rfl kw_fieldLink_RX5_80 dX5_told_39 ?_
    exact pv_iret F hr hlocks (by rw [hgM]; rfl) dX5_told_42
  · refine lv_tableOut (tgt := 43) hx hb dX5_told_1 hw (by decide) ?_
    refine lv_bipush (v := -2) hx hb dX5_told_43 (by decide) ?_
    exact pv_iret F hr hlocks (by simp [f_told, hw0, hw1, hw2]) dX5_told_45
theorem f_in_18 {f : Int32} (h1 : ¬ f < 1) (h2 : ¬ 8 < f) : f_in f 1 8 = true := by simp [f_in, h1, h2]
theorem f_in_18a {f : Int32} (h1 : f < 1) : f_in f 1 8 = false := by simp [f_in, h1]
theorem f_in_18b {f : Int32} (h2 : 8 < f) : f_in f 1 8 = false := by simp [f_in, h2]
set_option maxHeartbeats 400000 in
set_option maxRecDepth 100000 in
theorem c_X5_raise (l : Launch) (D : va_G) (cy : Nat → ClassId) (A : Nat → Prop) (r : RS) (g : CG) (sz : Nat)  (t f : Int32)  {kk : Nat} (hI : Inv kk r) (hV : VR r) (hK9 : VK r) : Met l yX5_raise (px_w yX5_raise cX5_raise 4 (some .int)) (rmd 9 0 0) (px_P D cy [.ref (gA g 0), .int t, .int f] sz (CR D cy A r g)) (px_Q (px_Cx D cy A g (some (.int (f_raise r t f).2)) ((f_raise r t f).1)) A) 0 0 A := by
  refine px_met (by decide) (Nat.le_of_ble_eq_true rfl) ?_
  intro p e s m below meth c F hr hlocks hnm hK hsz hR ls hl
  have hx := F.1
  have hb := F.2.1
  have hS : va_S A s.heap s.heap [] := va_S.rf
  have hbd := hI.bd
  have hkb := hK9.k
  have hM0 := (hK9 0).2
  have hK0 := hkb 0
  have hl : lv_has ls 4 [(0, .ref (gA g 0)), (1, .int t), (2, .int f)] := hl
  refine lv_iload_n hx hb dX5_raise_0 rfl (lv_at hl 1 rfl) ?_
  refine px_goV (st1 := [.int (b2i (f_in t 0 7))]) (px_callS F hK (c_X5_isTrouble l D cy _ t) kc_X5_isTrouble kw_methodLink_RX5_134 rfl trivial rfl ⟨rfl, rfl⟩ ⟨Nat.le_of_ble_eq_true rfl, Nat.le_of_ble_eq_true rfl⟩ hl.1 rfl (Nat.le_of_ble_eq_true rfl) dX5_raise_1 ⟨Nat.zero_le _, Nat.zero_le _⟩) rfl ?_
  refine x_ifeq_b (tgt := 18) hx hb dX5_raise_4 (by decide) (fun h_4 => ?_) (fun h_4 => ?_)
  · refine lv_bipush (v := -2) hx hb dX5_raise_18 (by decide) ?_
    exact px_iret F hr hlocks hS (by have e : f_raise r t f = (r, -2) := (by simp [f_raise, h_4]); rw [e]; exact ⟨rfl, hR⟩) dX5_raise_20
  · refine lv_iload_n hx hb dX5_raise_7 rfl (lv_at hl 2 rfl) ?_
    refine lv_iconst (v := 1) hx hb dX5_raise_8 (by decide) ?_
    refine lv_icmp_lt (tgt := 18) hx hb dX5_raise_9 (by decide) (fun h_9 => ?_) (fun h_9 => ?_)
    · refine lv_bipush (v := -2) hx hb dX5_raise_18 (by decide) ?_
      exact px_iret F hr hlocks hS (by have e : f_raise r t f = (r, -2) := (by simp [f_raise, f_in_18a h_9]); rw [e]; exact ⟨rfl, hR⟩) dX5_raise_20
    · refine lv_iload_n hx hb dX5_raise_12 rfl (lv_at hl 2 rfl) ?_
      refine lv_bipush (v := 8) hx hb dX5_raise_13 (by decide) ?_
      refine lv_icmp_le (tgt := 21) hx hb dX5_raise_15 (by decide) (fun h_15 => ?_) (fun h_15 => ?_)
      · have h_15 : ¬ 8 < f := Int32.not_lt.mpr h_15
        have hf9 := f_in_18 h_9 h_15
        obtain ⟨tn, hl_tn, hh_tn, rfl⟩ := f_in_nat h_4 0 7 (by decide) (by decide) (by decide) (by decide)
        obtain ⟨fn, hl_fn, hh_fn, rfl⟩ := f_in_nat hf9 1 8 (by decide) (by decide) (by decide) (by decide)
        refine lv_aload_n hx hb dX5_raise_21 rfl (lv_at hl 0 rfl) ?_
        refine lv_iconst (v := 0) hx hb dX5_raise_22 (by decide) ?_
        refine c_pPa F hK hR hS (v := 0) rfl kw_fieldLink_RX5_137 dX5_raise_23 (fun H locs hR hS => ?_)
        refine lv_iload_n hx hb dX5_raise_26 rfl (lv_at hl 2 rfl) ?_
        refine lv_istore_n (lv' := [(3, .int (nI fn)), (0, .ref (gA g 0)), (1, .int (nI tn)), (2, .int (nI fn))]) hx hb dX5_raise_27 rfl hl (by decide) rfl (fun ls hl => ?_)
        have loop : ∀ (d k : Nat), k + d = fn → ∀ (H : Heap) (locs : List Loc) (ls : Array Slot), CR D cy A (sPa r (f_figs fn k)) g H → va_S A s.heap H locs → lv_has ls 4 [(3, .int (nI (fn - k))), (0, .ref (gA g 0)), (1, .int (nI tn)), (2, .int (nI fn))] → W p l e (rmd 9 0 0) s m ([.ref (gA g 0), .int (nI tn), .int (nI fn)] : List Value).toArray below meth c H locs (0) (0) (MQ below (px_Q (px_Cx D cy A g (some (.int (f_raise r (nI tn) (nI fn)).2)) ((f_raise r (nI tn) (nI fn)).1)) A) ([.ref (gA g 0), .int (nI tn), .int (nI fn)] : List Value).toArray s (0) (0) A) (F0 m 28 ls []) := by
          intro d
          induction d with
          | zero =>
            intro k hk H locs ls hR hS hl
            refine lv_iload_n hx hb dX5_raise_28 rfl (lv_at hl 0 rfl) ?_
            refine lv_iconst (v := 1) hx hb dX5_raise_29 (by decide) ?_
            refine lv_icmp_lt (tgt := 52) hx hb dX5_raise_30 (by decide) (fun h_30 => ?_) (fun h_30 => by exfalso; have h_30 : 1 ≤ (fn - k) := nInlt (show ¬ nI (fn - k) < nI 1 from h_30) (by omega) (by omega); omega)
            have h_30 : (fn - k) < 1 := nIlt (show nI (fn - k) < nI 1 from h_30) (by omega) (by omega)
            have hkf : k = fn := (by omega)
            refine lv_aload_n hx hb dX5_raise_52 rfl (lv_at hl 1 rfl) ?_
            refine lv_aload_n hx hb dX5_raise_53 rfl (lv_at hl 1 rfl) ?_
            refine c_gx F hK hR 1 (by decide) rfl kw_fieldLink_RX5_15 dX5_raise_54 ?_
            refine lv_iload_n hx hb dX5_raise_57 rfl (lv_at hl 2 rfl) ?_
            refine c_ldtr F hK hR tn rfl (by omega) dX5_raise_58 ?_
            refine c_pNu F hK hR hS (v := rTr r tn) rfl kw_fieldLink_RX5_140 dX5_raise_59 (fun H locs hR hS => ?_)
            refine lv_aload_n hx hb dX5_raise_62 rfl (lv_at hl 1 rfl) ?_
            refine c_gx F hK hR 6 (by decide) rfl kw_fieldLink_RX5_140 dX5_raise_63 ?_
            refine lv_iconst (v := -1) hx hb dX5_raise_66 (by decide) ?_
            refine lv_icmp_eq (tgt := 75) hx hb dX5_raise_67 (by decide) (fun h_67 => ?_) (fun h_67 => ?_)
            · have h_67 : (rTr r tn) = (-1) := h_67
              refine lv_iconst (v := 1) hx hb dX5_raise_75 (by decide) ?_
              refine px_goV (st1 := [.int (-11)]) (px_callS F hK (c_X5_against l D cy _ 1) kc_X5_against kw_methodLink_RX5_34 rfl trivial rfl ⟨rfl, rfl⟩ ⟨Nat.le_of_ble_eq_true rfl, Nat.le_of_ble_eq_true rfl⟩ hl.1 rfl (Nat.le_of_ble_eq_true rfl) dX5_raise_76 ⟨Nat.zero_le _, Nat.zero_le _⟩) rfl ?_
              exact px_iret F hr hlocks hS (by have e : f_raise r (nI tn) (nI fn) = (sNu (sPa r (f_figs fn fn)) (rTr r tn), (-11)) := (by simp [f_raise, h_4, hf9, ix_nI (show tn < 2 ^ 31 by omega), ix_nI (show fn < 2 ^ 31 by omega), h_67]); rw [e]; rw [hkf] at hR; exact ⟨rfl, hR⟩) dX5_raise_79
            · have h_67 : ¬ (rTr r tn) = (-1) := h_67
              refine lv_bipush (v := 6) hx hb dX5_raise_70 (by decide) ?_
              refine lv_goto (tgt := 76) hx hb dX5_raise_72 (by decide) ?_
              refine px_goV (st1 := [.int (-16)]) (px_callS F hK (c_X5_against l D cy _ 6) kc_X5_against kw_methodLink_RX5_34 rfl trivial rfl ⟨rfl, rfl⟩ ⟨Nat.le_of_ble_eq_true rfl, Nat.le_of_ble_eq_true rfl⟩ hl.1 rfl (Nat.le_of_ble_eq_true rfl) dX5_raise_76 ⟨Nat.zero_le _, Nat.zero_le _⟩) rfl ?_
              exact px_iret F hr hlocks hS (by have e : f_raise r (nI tn) (nI fn) = (sNu (sPa r (f_figs fn fn)) (rTr r tn), (-16)) := (by simp [f_raise, h_4, hf9, ix_nI (show tn < 2 ^ 31 by omega), ix_nI (show fn < 2 ^ 31 by omega), h_67]); rw [e]; rw [hkf] at hR; exact ⟨rfl, hR⟩) dX5_raise_79
          | succ d ih_loop =>
            intro k hk H locs ls hR hS hl
            refine lv_iload_n hx hb dX5_raise_28 rfl (lv_at hl 0 rfl) ?_
            refine lv_iconst (v := 1) hx hb dX5_raise_29 (by decide) ?_
            refine lv_icmp_lt (tgt := 52) hx hb dX5_raise_30 (by decide) (fun h_30 => by exfalso; have h_30 : (fn - k) < 1 := nIlt (show nI (fn - k) < nI 1 from h_30) (by omega) (by omega); omega) (fun h_30 => ?_)
            have h_30 : 1 ≤ (fn - k) := nInlt (show ¬ nI (fn - k) < nI 1 from h_30) (by omega) (by omega)
            refine lv_aload_n hx hb dX5_raise_33 rfl (lv_at hl 1 rfl) ?_
            refine lv_aload_n hx hb dX5_raise_34 rfl (lv_at hl 1 rfl) ?_
            refine c_gx F hK hR 5 (by decide) rfl kw_fieldLink_RX5_137 dX5_raise_35 ?_
            refine lv_bipush (v := 10) hx hb dX5_raise_38 (by decide) ?_
            refine lv_imul hx hb dX5_raise_40 ?_
            refine lv_iload_n hx hb dX5_raise_41 rfl (lv_at hl 0 rfl) ?_
            refine lv_iadd hx hb dX5_raise_42 ?_
            refine px_topi (y := f_figs fn (k + 1)) (by rw [Int32.mul_comm]; rfl) ?_
            refine c_pPa F hK hR hS (v := f_figs fn (k + 1)) rfl kw_fieldLink_RX5_137 dX5_raise_43 (fun H locs hR hS => ?_)
            have hl : lv_has ls 4 [(3, .int (nI ((fn - (k + 1)) + 1))), (0, .ref (gA g 0)), (1, .int (nI tn)), (2, .int (nI fn))] := (by rw [show (fn - (k + 1)) + 1 = fn - k by omega]; exact hl)
            refine lv_iinc (v := nI (fn - (k + 1))) (lv' := [(3, .int (nI (fn - (k + 1)))), (0, .ref (gA g 0)), (1, .int (nI tn)), (2, .int (nI fn))]) hx hb dX5_raise_46 hl (k := 0) rfl (pk_m1 _) (by decide) rfl (fun ls hl => ?_)
            refine lv_goto (tgt := 28) hx hb dX5_raise_49 (by decide) ?_
            exact ih_loop (k + 1) (by omega) _ _ _ (by exact hR) hS (lv_sub hl [0, 1, 2, 3] rfl)
        have e_3 : (nI (fn - 0) : Int32) = nI fn := (by rfl)
        exact loop fn 0 (by omega) _ _ _ hR hS (by rw [e_3]; exact lv_sub hl [0, 1, 2, 3] rfl)
      · have h_15 : 8 < f := Int32.not_le.mp h_15
        refine lv_bipush (v := -2) hx hb dX5_raise_18 (by decide) ?_
        exact px_iret F hr hlocks hS (by have e : f_raise r t f = (r, -2) := (by simp [f_raise, f_in_18b h_15]); rw [e]; exact ⟨rfl, hR⟩) dX5_raise_20
