theorem LW.nx {D : va_G} {cy : Nat → ClassId} {s : State} {b z0 z1 o1 : Nat} {G : Nat → Nat} {k i : Nat} {r : RS} {H : Heap} {locs : List Loc} {ls : Array Slot} (h : LW D cy s b z0 z1 o1 G k i r H locs ls) (hk : k + 1 ≤ 512) : LW D cy s b z0 z1 o1 G (k + 1) i r H locs ls := by
  obtain ⟨g, C, E, h1, h2, h3, h4⟩ := h
  exact ⟨g, C, E, h1.same hk h1.2.2.2.2 (SM.rf r), h2.up (Nat.le_succ _) rfl rfl, h3, h4⟩
theorem sw_28 (x : Int32) : (x.toInt < 0 ∨ 27 < x.toInt) ∨ ∃ j : Nat, j ≤ 27 ∧ x = nI j := by
  by_cases h0 : x < 0
  · exact Or.inl (Or.inl (by rw [Int32.lt_iff_toInt_lt] at h0; exact h0))
  · obtain ⟨j, hj, rfl⟩ := nI_of h0
    by_cases h : j ≤ 27
    · exact Or.inr ⟨j, h, rfl⟩
    · exact Or.inl (Or.inr (by rw [nI_toInt hj]; omega))
theorem gt_7 {i L : Nat} (hi : i < 100000) (hL : L ≤ 3584) : nI L - 7 < nI i ↔ L < i + 7 := by
  rw [Int32.lt_iff_toInt_lt, show (nI L - 7 : Int32).toInt = (L : Int) - 7 from pk_sub_toInt (a := L) (b := 7) (by omega) (by omega), nI_toInt (by omega)]
  omega
set_option maxHeartbeats 1000000 in
set_option maxRecDepth 100000 in
theorem lw_loop {p : Program} {l : Launch} {e : Env} {s : State} {m : MethodId} {below : List Frame} {meth : Method} {c : Code} {b L z0 z1 o1 : Nat} {xs : Nat → Int32} {D : va_G} {cy : Nat → ClassId} {G : Nat → Nat} (F : px_F p m c cL_law 4 s #[Value.ref b] RL) (hK : KK D cy s) (hX : va_X b L xs s s.heap) (hbl : b < s.heap.size) (hL : L ≤ 3584) (hr : meth.sig.returnType = ret) (hlocks : meth.locks = false) : ∀ (d k : Nat), k + d = 513 → ∀ (r : RS) (H : Heap) (locs : List Loc) (ls : Array Slot), LW D cy s b z0 z1 o1 G k (7 * k) r H locs ls → W p l e room_1 s m #[Value.ref b] below meth c H locs (lC r) (lS r) (lw_Z below #[Value.ref b] s) (F0 m 18 ls []) := by
  intro d
  induction d with
  | zero =>
    intro k hk r H locs ls hW
    obtain ⟨g, C, E, h1, -⟩ := hW
    have := h1.1
    omega
  | succ d ih =>
    intro k hkd r H locs ls hW
    have hW0 := hW
    obtain ⟨g, C, E, hLV, hCI, ho1, hR, hM, hS, hz, hl⟩ := hW0
    have hx := F.1
    have hb := F.2.1
    have hk5 := hLV.1
    have hbA : ¬ aL s.heap.size b := fun q => absurd (show s.heap.size ≤ b from q) (by omega)
    refine lv_iload_n hx hb dL_law_18 rfl (lv_at hl 3 rfl) ?_
    refine lv_aload_n hx hb dL_law_19 rfl (lv_at hl 0 rfl) ?_
    refine va_slen hx hb hX hbl hbA hS dL_law_20 ?_
    refine lv_bipush (v := 7) hx hb dL_law_21 (by decide) ?_
    refine lv_isub hx hb dL_law_23 ?_
    refine lv_icmp_gt (tgt := 1305) hx hb dL_law_24 (by decide) (fun h_24 => ?_) (fun h_24 => ?_)
    · refine va_forget (fun q hq => hS.2.2 q hq) ?_
      refine W.widen (k := 600000) (n := 7302250) (lC_room hLV) (lS_room hLV) ?_
      refine lv_iconst (v := 1) hx hb dL_law_1305 (by decide) ?_
      exact lw_ret hx hb hr hlocks dL_law_1306
    · have hi : 7 * k + 7 ≤ L := by
        have q : ¬ nI L - 7 < nI (7 * k) := h_24
        rw [gt_7 (by omega) hL] at q
        omega
      have hk1 : k + 1 ≤ 512 := by omega
      have hkk : ∀ (r' : RS) (H' : Heap) (locs' : List Loc) (ls' : Array Slot), LW D cy s b z0 z1 o1 G (k + 1) (7 * k) r' H' locs' ls' → W p l e room_1 s m #[Value.ref b] below meth c H' locs' (lC r') (lS r') (lw_Z below #[Value.ref b] s) (F0 m 1299 ls' []) := fun r' H' locs' ls' hW' => by
        obtain ⟨g, C, E, q1, q2, q3, q4, q5, q6, q7, hl⟩ := hW'
        refine lv_iinc (v := nI (7 * (k + 1))) (lv' := [(3, .int (nI (7 * (k + 1)))), (0, .ref b), (1, .ref o1), (2, .ref (G 0))]) hx hb dL_law_1299 hl (k := 3) rfl (by show nI (7 * k) + nI 7 = nI (7 * (k + 1)); rw [nI_add, Nat.mul_add]) (by decide) rfl (fun ls hl => ?_)
        refine lv_goto (tgt := 18) hx hb dL_law_1302 (by decide) ?_
        exact ih (k + 1) (by omega) r' H' locs' ls ⟨g, C, E, q1, q2, q3, q4, q5, q6, q7, lv_sub hl [1, 2, 3, 0] rfl⟩
      refine lv_aload_n hx hb dL_law_27 rfl (lv_at hl 0 rfl) ?_
      refine lv_iload_n hx hb dL_law_28 rfl (lv_at hl 3 rfl) ?_
      refine va_sld hx hb hX hbl hbA hS (vp_in_nI (show 7 * k < L by omega) (by omega)) dL_law_29 ?_
      refine lv_bipush (v := 31) hx hb dL_law_30 (by decide) ?_
      refine lv_iand hx hb dL_law_32 ?_
      rcases sw_28 (xs (nI (7 * k)).toNatClampNeg &&& 31) with hout | ⟨j, hj, hj2⟩
      · refine lv_tableOut (tgt := 1299) hx hb dL_law_33 hout (by decide) ?_
        exact hkk r H locs ls (hW.nx hk1)
      · refine px_topi hj2 ?_
        rcases (show j = 0 ∨ j = 1 ∨ j = 2 ∨ j = 3 ∨ j = 4 ∨ j = 5 ∨ j = 6 ∨ j = 7 ∨ j = 8 ∨ j = 9 ∨ j = 10 ∨ j = 11 ∨ j = 12 ∨ j = 13 ∨ j = 14 ∨ j = 15 ∨ j = 16 ∨ j = 17 ∨ j = 18 ∨ j = 19 ∨ j = 20 ∨ j = 21 ∨ j = 22 ∨ j = 23 ∨ j = 24 ∨ j = 25 ∨ j = 26 ∨ j = 27 by omega) with rfl | rfl | rfl | rfl | rfl | rfl | rfl | rfl | rfl | rfl | rfl | rfl | rfl | rfl | rfl | rfl | rfl | rfl | rfl | rfl | rfl | rfl | rfl | rfl | rfl | rfl | rfl | rfl
        · refine lv_tableIn (off := 127) (tgt := 160) hx hb dL_law_33 (by decide) (by decide) (by decide +kernel) (by decide) ?_
          exact lw_make F hK hX hbl hL hW hk1 hi hkk
        · refine lv_tableIn (off := 170) (tgt := 203) hx hb dL_law_33 (by decide) (by decide) (by decide +kernel) (by decide) ?_
          exact lw_deep F hK hX hbl hL hW hk1 hi hkk
        · refine lv_tableIn (off := 233) (tgt := 266) hx hb dL_law_33 (by decide) (by decide) (by decide +kernel) (by decide) ?_
          exact lw_share F hK hX hbl hL hW hk1 hi hkk
        · refine lv_tableIn (off := 266) (tgt := 299) hx hb dL_law_33 (by decide) (by decide) (by decide +kernel) (by decide) ?_
          exact lw_aside F hK hX hbl hL hW hk1 hi hkk
        · refine lv_tableIn (off := 299) (tgt := 332) hx hb dL_law_33 (by decide) (by decide) (by decide +kernel) (by decide) ?_
          exact lw_drop F hK hX hbl hL hW hk1 hi hkk
        · refine lv_tableIn (off := 322) (tgt := 355) hx hb dL_law_33 (by decide) (by decide) (by decide +kernel) (by decide) ?_
          exact lw_kind F hK hX hbl hL hW hk1 hi hkk
        · refine lv_tableIn (off := 345) (tgt := 378) hx hb dL_law_33 (by decide) (by decide) (by decide +kernel) (by decide) ?_
          exact lw_length F hK hX hbl hL hW hk1 hi hkk
        · refine lv_tableIn (off := 378) (tgt := 411) hx hb dL_law_33 (by decide) (by decide) (by decide +kernel) (by decide) ?_
          exact lw_read F hK hX hbl hL hW hk1 hi hkk
        · refine lv_tableIn (off := 422) (tgt := 455) hx hb dL_law_33 (by decide) (by decide) (by decide +kernel) (by decide) ?_
          exact lw_write F hK hX hbl hL hW hk1 hi hkk
        · refine lv_tableIn (off := 505) (tgt := 538) hx hb dL_law_33 (by decide) (by decide) (by decide +kernel) (by decide) ?_
          exact lw_thing F hK hX hbl hL hW hk1 hi hkk
        · refine lv_tableIn (off := 558) (tgt := 591) hx hb dL_law_33 (by decide) (by decide) (by decide +kernel) (by decide) ?_
          exact lw_marked F hK hX hbl hL hW hk1 hi hkk
        · refine lv_tableIn (off := 591) (tgt := 624) hx hb dL_law_33 (by decide) (by decide) (by decide +kernel) (by decide) ?_
          exact lw_cell F hK hX hbl hL hW hk1 hi hkk
        · refine lv_tableIn (off := 645) (tgt := 678) hx hb dL_law_33 (by decide) (by decide) (by decide +kernel) (by decide) ?_
          exact lw_set F hK hX hbl hL hW hk1 hi hkk
        · refine lv_tableIn (off := 740) (tgt := 773) hx hb dL_law_33 (by decide) (by decide) (by decide +kernel) (by decide) ?_
          exact lw_deepest F hK hX hbl hL hW hk1 hi hkk
        · refine lv_tableIn (off := 794) (tgt := 827) hx hb dL_law_33 (by decide) (by decide) (by decide +kernel) (by decide) ?_
          exact lw_row F hK hX hbl hL hW hk1 hi hkk
        · refine lv_tableIn (off := 847) (tgt := 880) hx hb dL_law_33 (by decide) (by decide) (by decide +kernel) (by decide) ?_
          exact lw_take F hK hX hbl hL hW hk1 hi hkk
        · refine lv_tableIn (off := 900) (tgt := 933) hx hb dL_law_33 (by decide) (by decide) (by decide +kernel) (by decide) ?_
          exact lw_grow F hK hX hbl hL hW hk1 hi hkk
        · refine lv_tableIn (off := 933) (tgt := 966) hx hb dL_law_33 (by decide) (by decide) (by decide +kernel) (by decide) ?_
          exact lw_copy F hK hX hbl hL hW hk1 hi hkk
        · refine lv_tableIn (off := 996) (tgt := 1029) hx hb dL_law_33 (by decide) (by decide) (by decide +kernel) (by decide) ?_
          exact lw_fill F hK hX hbl hL hW hk1 hi hkk
        · refine lv_tableIn (off := 1069) (tgt := 1102) hx hb dL_law_33 (by decide) (by decide) (by decide +kernel) (by decide) ?_
          exact lw_size F hK hX hbl hL hW hk1 hi hkk
        · refine lv_tableIn (off := 1092) (tgt := 1125) hx hb dL_law_33 (by decide) (by decide) (by decide +kernel) (by decide) ?_
          exact lw_alike F hK hX hbl hL hW hk1 hi hkk
        · refine lv_tableIn (off := 1125) (tgt := 1158) hx hb dL_law_33 (by decide) (by decide) (by decide +kernel) (by decide) ?_
          exact lw_trouble F hK hX hbl hL hW hk1 hi hkk
        · refine lv_tableIn (off := 1158) (tgt := 1191) hx hb dL_law_33 (by decide) (by decide) (by decide +kernel) (by decide) ?_
          exact lw_raise F hK hX hbl hL hW hk1 hi hkk
        · refine lv_tableIn (off := 1191) (tgt := 1224) hx hb dL_law_33 (by decide) (by decide) (by decide +kernel) (by decide) ?_
          exact lw_passed F hK hX hbl hL hW hk1 hi hkk
        · refine lv_tableIn (off := 1204) (tgt := 1237) hx hb dL_law_33 (by decide) (by decide) (by decide +kernel) (by decide) ?_
          exact lw_number F hK hX hbl hL hW hk1 hi hkk
        · refine lv_tableIn (off := 1217) (tgt := 1250) hx hb dL_law_33 (by decide) (by decide) (by decide +kernel) (by decide) ?_
          exact lw_fault F hK hX hbl hL hW hk1 hi hkk
        · refine lv_tableIn (off := 1230) (tgt := 1263) hx hb dL_law_33 (by decide) (by decide) (by decide +kernel) (by decide) ?_
          exact lw_clear F hK hX hbl hL hW hk1 hi hkk
        · refine lv_tableIn (off := 1243) (tgt := 1276) hx hb dL_law_33 (by decide) (by decide) (by decide +kernel) (by decide) ?_
          exact lw_told F hK hX hbl hL hW hk1 hi hkk
set_option maxHeartbeats 1000000 in
set_option maxRecDepth 100000 in
/-- from the entry, for every script of at most 3584 ints, the law comes to its end with true -/
theorem whole_start {p : Program} {e : Env} {s : State} {m : MethodId} {below : List Frame} {meth : Method} {c : Code} (l : Launch) {b L : Nat} {xs : Nat → Int32} (hL : L ≤ 3584) (C0 : lw_At p s m meth c b L xs) : W p l e room_1 s m #[Value.ref b] below meth c s.heap [] 0 0 (lw_Z below #[Value.ref b] s) (entryFrame m ([Value.ref b] : List Value).toArray 4) := by
  obtain ⟨hx, hb, hr, hml, hown, hts, hX, hbl, hlocks, hgv⟩ := id C0
  obtain ⟨D, cy, hK⟩ := kk_start hts hgv
  have F : px_F p m c cL_law 4 s #[Value.ref b] RL := ⟨hx, hb, hml, hown, fun w hw => hts w (bigW_in w hw)⟩
  have hl := lv_entry ([.ref b]) (n := 4) (Nat.le_of_ble_eq_true rfl)
  rw [lg_entry_eq]
  generalize (lg_sl ([.ref b]) ++ List.replicate (4 - (lg_sl ([.ref b])).length) Slot.unset).toArray = ls at hl ⊢
  have hl : lv_has ls 4 [(0, .ref b)] := hl
  have hS : va_S (aL s.heap.size) s.heap s.heap [] := va_S.rf
  have hP : va_P D vwCl [] s.heap := fun k q h => by simp at h
  have hD : va_D (aL s.heap.size) [] := ⟨fun i j p q h => by simp at h, fun k q h => by simp at h⟩
  refine va_new (D := D) (ci := 3) (C := RX5) (T := TX5) (N := 8) (fs := x_new) hx hb F.2.2.2.2 inlX5 tyX5 tyX5_ok hown (F.2.2.2.2 _ kw_classLink_RL_7) (F.2.2.2.2 _ kw_instantiable_RX5_8) (F.2.2.2.2 _ kw_initialized_RX5) hK.1 hP hD hS (fun _ h => h) rfl (by intro j hj; rcases (show j = 0 ∨ j = 1 ∨ j = 2 ∨ j = 3 ∨ j = 4 ∨ j = 5 ∨ j = 6 ∨ j = 7 by omega) with rfl | rfl | rfl | rfl | rfl | rfl | rfl | rfl <;> rfl) (Nat.le_of_ble_eq_true rfl) (Nat.le_of_ble_eq_true rfl) dL_law_0 (fun o1 H hP hD hS => ?_)
  have hP : va_P D vwCl [(o1, .inr (3, x_new))] H := hP
  have hD : va_D (aL s.heap.size) [(o1, .inr (3, x_new))] := hD
  refine lv_dup hx hb dL_law_3 rfl ?_
  refine px_goQ2 (px_callI F hK (c_X5_init l D cy (aL s.heap.size) o1 H.size (fun q h => Nat.le_trans hS.1 h)) kc_X5_init kw_methodLink_RL_9 rfl ⟨hP, hD⟩ rfl ⟨rfl, rfl⟩ ⟨Nat.le_of_ble_eq_true rfl, Nat.le_of_ble_eq_true rfl⟩ hl.1 rfl (Nat.le_of_ble_eq_true rfl) dL_law_4 ⟨Nat.le_of_ble_eq_true rfl, Nat.le_of_ble_eq_true rfl⟩) (fun _ h => h) hS (fun v H1 locs1 hp _ _ hS1 => ?_)
  obtain ⟨rfl, g, rfl, hCI, hR⟩ := hp
  have hR := hR.setA (A' := fun q => s.heap.size ≤ q ∧ q < H1.size) (fun q h1 h2 => ⟨h1, h2⟩)
  refine va_forget (fun q hq => hS1.2.2 q hq) ?_
  refine W.eq (g2 := F0 m 7 ls [.ref (gA g 0)]) rfl ?_
  refine lv_astore_n (lv' := [(1, .ref (gA g 0)), (0, .ref b)]) hx hb dL_law_7 rfl hl (by decide) rfl (fun ls hl => ?_)
  have hS : va_S (aL H1.size) H1 H1 [] := va_S.rf
  have hP : va_P D vwCl [] H1 := fun k q h => by simp at h
  have hD : va_D (aL H1.size) [] := ⟨fun i j p q h => by simp at h, fun k q h => by simp at h⟩
  refine va_new (D := D) (ci := 4) (C := RX6) (T := TX6) (N := 16) (fs := m_new) hx hb F.2.2.2.2 inlX6 tyX6 tyX6_ok hown (F.2.2.2.2 _ kw_classLink_RL_10) (F.2.2.2.2 _ kw_instantiable_RX6_16) (F.2.2.2.2 _ kw_initialized_RX6) hK.1 hP hD hS (fun _ h => h) rfl (by intro j hj; rcases (show j = 0 ∨ j = 1 ∨ j = 2 ∨ j = 3 ∨ j = 4 ∨ j = 5 ∨ j = 6 ∨ j = 7 ∨ j = 8 ∨ j = 9 ∨ j = 10 ∨ j = 11 ∨ j = 12 ∨ j = 13 ∨ j = 14 ∨ j = 15 by omega) with rfl | rfl | rfl | rfl | rfl | rfl | rfl | rfl | rfl | rfl | rfl | rfl | rfl | rfl | rfl | rfl <;> rfl) (Nat.le_of_ble_eq_true rfl) (Nat.le_of_ble_eq_true rfl) dL_law_8 (fun o2 H2 hP hD hS => ?_)
  have hP : va_P D vwCl [(o2, .inr (4, m_new))] H2 := hP
  have hD : va_D (aL H1.size) [(o2, .inr (4, m_new))] := hD
  refine lv_dup hx hb dL_law_11 rfl ?_
  refine px_goQ2 (px_callI F hK (c_X6_init l D cy (aL H1.size) o2 H2.size (fun q h => Nat.le_trans hS.1 h)) kc_X6_init kw_methodLink_RL_12 rfl ⟨hP, hD⟩ rfl ⟨rfl, rfl⟩ ⟨Nat.le_of_ble_eq_true rfl, Nat.le_of_ble_eq_true rfl⟩ hl.1 rfl (Nat.le_of_ble_eq_true rfl) dL_law_12 ⟨Nat.le_of_ble_eq_true rfl, Nat.le_of_ble_eq_true rfl⟩) (fun _ h => h) hS (fun v H3 locs3 hp _ _ hS3 => ?_)
  obtain ⟨rfl, G, rfl, hM⟩ := hp
  refine W.eq (g2 := F0 m 15 ls [.ref (G 0)]) rfl ?_
  refine lv_astore_n (lv' := [(2, .ref (G 0)), (1, .ref (gA g 0)), (0, .ref b)]) hx hb dL_law_15 rfl hl (by decide) rfl (fun ls hl => ?_)
  refine lv_iconst (v := 0) hx hb dL_law_16 (by decide) ?_
  refine lv_istore_n (lv' := [(3, .int 0), (2, .ref (G 0)), (1, .ref (gA g 0)), (0, .ref b)]) hx hb dL_law_17 rfl hl (by decide) rfl (fun ls hl => ?_)
  refine W.widen (k := lC r_init) (n := lS r_init) (Nat.le_of_ble_eq_true rfl) (Nat.le_of_ble_eq_true rfl) ?_
  have hR := (hR.keep (A' := aL H1.size) hS3.2.1 (fun q h1 h2 => absurd (show H1.size ≤ q from h2) (by omega))).setA (A' := aC s.heap.size H1.size H3.size) (fun q h1 _ => Or.inl h1)
  have hM := hM.setA (A' := aM H1.size H3.size) (fun q h1 h2 => ⟨h1, h2⟩)
  have hS9 : va_S (aL s.heap.size) s.heap H3 locs3 := ⟨Nat.le_trans hS1.1 hS3.1, fun q h1 h2 => (hS3.2.1 q (Nat.lt_of_lt_of_le h1 hS1.1) (fun z => absurd (show H1.size ≤ q from z) (by have := hS1.1; omega))).trans (hS1.2.1 q h1 h2), fun q hq => Nat.le_trans hS1.1 (hS3.2.2 q hq)⟩
  exact lw_loop F hK hX hbl hL hr hlocks 513 0 (by omega) r_init H3 locs3 ls ⟨g, fun _ => 0, fun _ => 0, lv_init, hCI, rfl, hR, hM, hS9, ⟨⟨hS1.1, hS3.1⟩, Nat.le_refl _⟩, lv_sub hl [3, 2, 1, 0] rfl⟩
