/-! the law: its cases -/
set_option maxHeartbeats 400000 in
set_option maxRecDepth 100000 in
theorem lw_make {p : Program} {l : Launch} {e : Env} {s : State} {m : MethodId} {below : List Frame} {meth : Method} {c : Code} {Q : State → Prop} {b L z0 z1 o1 : Nat} {xs : Nat → Int32} {D : va_G} {cy : Nat → ClassId} {G : Nat → Nat} (F : px_F p m c cL_law 4 s #[Value.ref b] RL) (hK : KK D cy s) (hX : va_X b L xs s s.heap) (hbl : b < s.heap.size) (hL : L ≤ 3584) {k i : Nat} {r : RS} {H : Heap} {locs : List Loc} {ls : Array Slot} (hW : LW D cy s b z0 z1 o1 G k i r H locs ls) (hk : k + 1 ≤ 512) (hi : i + 7 ≤ L) (kk : ∀ (r' : RS) (H' : Heap) (locs' : List Loc) (ls' : Array Slot), LW D cy s b z0 z1 o1 G (k + 1) i r' H' locs' ls' → W p l e room_1 s m #[Value.ref b] below meth c H' locs' (lC r') (lS r') Q (F0 m 1299 ls' [])) : W p l e room_1 s m #[Value.ref b] below meth c H locs (lC r) (lS r) Q (F0 m 160 ls []) := by
  obtain ⟨g, C, E, hLV, hCI, rfl, hR, hM, hS, hz, hl⟩ := hW
  have hx := F.1
  have hb := F.2.1
  have hI := hLV.inv
  have hV := hLV.2.2.2.2.1
  have hK9 := hLV.2.2.2.2.2.1
  have hbd := hLV.b
  refine lv_aload_n hx hb dL_law_160 rfl (lv_at hl 1 rfl) ?_
  refine lw_arg hx hb hX hbl hS hl (j := 1) (by omega) hL (by decide) dL_law_161 dL_law_162 dL_law_163 dL_law_164 dL_law_165 ?_
  refine lw_arg hx hb hX hbl hS hl (j := 2) (by omega) hL (by decide) dL_law_166 dL_law_167 dL_law_168 dL_law_169 dL_law_170 ?_
  refine lw_arg hx hb hX hbl hS hl (j := 3) (by omega) hL (by decide) dL_law_171 dL_law_172 dL_law_173 dL_law_174 dL_law_175 ?_
  obtain ⟨hLV1, hMN⟩ := lv_make hLV hk (xs (i + 1)) (xs (i + 2)) (xs (i + 3))
  have rC := lC_room hLV1
  have rS9 := lS_room hLV1
  refine px_goQ2 (px_callV F hK (c_X5_make l D cy _ r g _ (xs (i + 1)) (xs (i + 2)) (xs (i + 3)) hI hV hK9 (fun q h => Or.inr (Nat.le_trans hz.2 h))) kc_X5_make kw_methodLink_RL_13 rfl hR (c_recv hK hR) rfl ⟨rfl, rfl⟩ ⟨Nat.le_of_ble_eq_true rfl, Nat.le_of_ble_eq_true rfl⟩ hl.1 rfl (Nat.le_of_ble_eq_true rfl) dL_law_176 ⟨Nat.le_trans (lC_add hMN) rC, Nat.le_trans (lS_add hMN) rS9⟩) (aC_aL hz.1) hS (fun v H1 locs1 hp hz1 ho hS => ?_)
  obtain ⟨g1, rfl, hE, hM9, hR⟩ := hp
  have hM := MR.keep hM ho aM_aC
  refine W.widen (k := lC (f_make r (xs (i + 1)) (xs (i + 2)) (xs (i + 3))).1) (n := lS (f_make r (xs (i + 1)) (xs (i + 2)) (xs (i + 3))).1) (lC_add hMN) (lS_add hMN) ?_
  refine W.eq (g2 := F0 m 179 ls [.int (f_make r (xs (i + 1)) (xs (i + 2)) (xs (i + 3))).2]) rfl ?_
  refine lv_aload_n hx hb dL_law_179 rfl (lv_at hl 2 rfl) ?_
  refine lw_arg hx hb hX hbl hS hl (j := 1) (by omega) hL (by decide) dL_law_180 dL_law_181 dL_law_182 dL_law_183 dL_law_184 ?_
  refine lw_arg hx hb hX hbl hS hl (j := 2) (by omega) hL (by decide) dL_law_185 dL_law_186 dL_law_187 dL_law_188 dL_law_189 ?_
  refine lw_arg hx hb hX hbl hS hl (j := 3) (by omega) hL (by decide) dL_law_190 dL_law_191 dL_law_192 dL_law_193 dL_law_194 ?_
  refine px_goQ2 (px_callV F hK (c_X6_make l D cy _ G r C E _ (xs (i + 1)) (xs (i + 2)) (xs (i + 3)) hI) kc_X6_make kw_methodLink_RL_17 rfl hM (m_recv hK hM) rfl ⟨rfl, rfl⟩ ⟨Nat.le_of_ble_eq_true rfl, Nat.le_of_ble_eq_true rfl⟩ hl.1 rfl (Nat.le_of_ble_eq_true rfl) dL_law_195 ⟨rC, rS9⟩) (aM_aL hz.1.1) hS (fun v H2 locs2 hp hz2 ho hS => ?_)
  obtain ⟨rfl, C2, E2, hM⟩ := hp
  have hR := CR.keep hR ho aC_aM
  refine W.eq (g2 := F0 m 198 ls [.int (f_make r (xs (i + 1)) (xs (i + 2)) (xs (i + 3))).2, .int (f_make r (xs (i + 1)) (xs (i + 2)) (xs (i + 3))).2]) rfl ?_
  refine lv_icmp_eq (tgt := 1299) hx hb dL_law_198 (by decide) (fun _ => ?_) (fun h => absurd rfl h)
  exact kk ((f_make r (xs (i + 1)) (xs (i + 2)) (xs (i + 3))).1) _ _ _ ⟨g1, C2, E2, hLV1, hCI.gx (Nat.le_succ _) hE (hM9.trans (hCI.1.trans (m_make r (xs (i + 1)) (xs (i + 2)) (xs (i + 3))).symm)), hE.x, hR, hM, hS, ⟨hz.1, Nat.le_trans hz.2 (Nat.le_trans hz1 hz2)⟩, hl⟩
set_option maxHeartbeats 400000 in
set_option maxRecDepth 100000 in
theorem lw_share {p : Program} {l : Launch} {e : Env} {s : State} {m : MethodId} {below : List Frame} {meth : Method} {c : Code} {Q : State → Prop} {b L z0 z1 o1 : Nat} {xs : Nat → Int32} {D : va_G} {cy : Nat → ClassId} {G : Nat → Nat} (F : px_F p m c cL_law 4 s #[Value.ref b] RL) (hK : KK D cy s) (hX : va_X b L xs s s.heap) (hbl : b < s.heap.size) (hL : L ≤ 3584) {k i : Nat} {r : RS} {H : Heap} {locs : List Loc} {ls : Array Slot} (hW : LW D cy s b z0 z1 o1 G k i r H locs ls) (hk : k + 1 ≤ 512) (hi : i + 7 ≤ L) (kk : ∀ (r' : RS) (H' : Heap) (locs' : List Loc) (ls' : Array Slot), LW D cy s b z0 z1 o1 G (k + 1) i r' H' locs' ls' → W p l e room_1 s m #[Value.ref b] below meth c H' locs' (lC r') (lS r') Q (F0 m 1299 ls' [])) : W p l e room_1 s m #[Value.ref b] below meth c H locs (lC r) (lS r) Q (F0 m 266 ls []) := by
  obtain ⟨g, C, E, hLV, hCI, rfl, hR, hM, hS, hz, hl⟩ := hW
  have hx := F.1
  have hb := F.2.1
  have hI := hLV.inv
  have hV := hLV.2.2.2.2.1
  have hK9 := hLV.2.2.2.2.2.1
  have hbd := hLV.b
  refine lv_aload_n hx hb dL_law_266 rfl (lv_at hl 1 rfl) ?_
  refine lw_arg hx hb hX hbl hS hl (j := 1) (by omega) hL (by decide) dL_law_267 dL_law_268 dL_law_269 dL_law_270 dL_law_271 ?_
  refine lw_arg hx hb hX hbl hS hl (j := 2) (by omega) hL (by decide) dL_law_272 dL_law_273 dL_law_274 dL_law_275 dL_law_276 ?_
  have hsm := s_share hLV (xs (i + 1)) (xs (i + 2))
  have hLV1 : LV (k + 1) (f_share r (xs (i + 1)) (xs (i + 2))).1 := hLV.same hk hsm.1 hsm.2
  have hMN : MN r (f_share r (xs (i + 1)) (xs (i + 2))).1 := hsm.2.mn
  have rC := lC_room hLV1
  have rS9 := lS_room hLV1
  refine px_goQ2 (px_callV F hK (c_X5_share l D cy _ r g _ (xs (i + 1)) (xs (i + 2)) hI hV hK9) kc_X5_share kw_methodLink_RL_23 rfl hR (c_recv hK hR) rfl ⟨rfl, rfl⟩ ⟨Nat.le_of_ble_eq_true rfl, Nat.le_of_ble_eq_true rfl⟩ hl.1 rfl (Nat.le_of_ble_eq_true rfl) dL_law_277 ⟨lC_room hLV, lS_room hLV⟩) (aC_aL hz.1) hS (fun v H1 locs1 hp hz1 ho hS => ?_)
  obtain ⟨rfl, hR⟩ := hp
  have hM := MR.keep hM ho aM_aC
  refine W.widen (k := lC (f_share r (xs (i + 1)) (xs (i + 2))).1) (n := lS (f_share r (xs (i + 1)) (xs (i + 2))).1) (lC_le hMN) (lS_le hMN) ?_
  refine W.eq (g2 := F0 m 280 ls [.int (f_share r (xs (i + 1)) (xs (i + 2))).2]) rfl ?_
  refine lv_aload_n hx hb dL_law_280 rfl (lv_at hl 2 rfl) ?_
  refine lw_arg hx hb hX hbl hS hl (j := 1) (by omega) hL (by decide) dL_law_281 dL_law_282 dL_law_283 dL_law_284 dL_law_285 ?_
  refine lw_arg hx hb hX hbl hS hl (j := 2) (by omega) hL (by decide) dL_law_286 dL_law_287 dL_law_288 dL_law_289 dL_law_290 ?_
  refine px_goQ2 (px_callV F hK (c_X6_share l D cy _ G r C E _ (xs (i + 1)) (xs (i + 2)) hI) kc_X6_share kw_methodLink_RL_27 rfl hM (m_recv hK hM) rfl ⟨rfl, rfl⟩ ⟨Nat.le_of_ble_eq_true rfl, Nat.le_of_ble_eq_true rfl⟩ hl.1 rfl (Nat.le_of_ble_eq_true rfl) dL_law_291 ⟨rC, rS9⟩) (aM_aL hz.1.1) hS (fun v H2 locs2 hp hz2 ho hS => ?_)
  obtain ⟨rfl, C2, E2, hM⟩ := hp
  have hR := CR.keep hR ho aC_aM
  refine W.eq (g2 := F0 m 294 ls [.int (f_share r (xs (i + 1)) (xs (i + 2))).2, .int (f_share r (xs (i + 1)) (xs (i + 2))).2]) rfl ?_
  refine lv_icmp_eq (tgt := 1299) hx hb dL_law_294 (by decide) (fun _ => ?_) (fun h => absurd rfl h)
  exact kk ((f_share r (xs (i + 1)) (xs (i + 2))).1) _ _ _ ⟨g, C2, E2, hLV1, hCI.up (Nat.le_succ _) hsm.2.1 hsm.2.2.2, rfl, hR, hM, hS, ⟨hz.1, Nat.le_trans hz.2 (Nat.le_trans hz1 hz2)⟩, hl⟩
set_option maxHeartbeats 400000 in
set_option maxRecDepth 100000 in
theorem lw_aside {p : Program} {l : Launch} {e : Env} {s : State} {m : MethodId} {below : List Frame} {meth : Method} {c : Code} {Q : State → Prop} {b L z0 z1 o1 : Nat} {xs : Nat → Int32} {D : va_G} {cy : Nat → ClassId} {G : Nat → Nat} (F : px_F p m c cL_law 4 s #[Value.ref b] RL) (hK : KK D cy s) (hX : va_X b L xs s s.heap) (hbl : b < s.heap.size) (hL : L ≤ 3584) {k i : Nat} {r : RS} {H : Heap} {locs : List Loc} {ls : Array Slot} (hW : LW D cy s b z0 z1 o1 G k i r H locs ls) (hk : k + 1 ≤ 512) (hi : i + 7 ≤ L) (kk : ∀ (r' : RS) (H' : Heap) (locs' : List Loc) (ls' : Array Slot), LW D cy s b z0 z1 o1 G (k + 1) i r' H' locs' ls' → W p l e room_1 s m #[Value.ref b] below meth c H' locs' (lC r') (lS r') Q (F0 m 1299 ls' [])) : W p l e room_1 s m #[Value.ref b] below meth c H locs (lC r) (lS r) Q (F0 m 299 ls []) := by
  obtain ⟨g, C, E, hLV, hCI, rfl, hR, hM, hS, hz, hl⟩ := hW
  have hx := F.1
  have hb := F.2.1
  have hI := hLV.inv
  have hV := hLV.2.2.2.2.1
  have hK9 := hLV.2.2.2.2.2.1
  have hbd := hLV.b
  refine lv_aload_n hx hb dL_law_299 rfl (lv_at hl 1 rfl) ?_
  refine lw_arg hx hb hX hbl hS hl (j := 1) (by omega) hL (by decide) dL_law_300 dL_law_301 dL_law_302 dL_law_303 dL_law_304 ?_
  refine lw_arg hx hb hX hbl hS hl (j := 2) (by omega) hL (by decide) dL_law_305 dL_law_306 dL_law_307 dL_law_308 dL_law_309 ?_
  obtain ⟨hLV1, hMN⟩ := lv_aside hLV hk C (xs (i + 1)) (xs (i + 2))
  have rC := lC_room hLV1
  have rS9 := lS_room hLV1
  refine px_goQ2 (px_callV F hK (c_X5_aside l D cy _ r g _ C (xs (i + 1)) (xs (i + 2)) hI hV hK9 (fun q h => Or.inr (Nat.le_trans hz.2 h)) hCI) kc_X5_aside kw_methodLink_RL_28 rfl hR (c_recv hK hR) rfl ⟨rfl, rfl⟩ ⟨Nat.le_of_ble_eq_true rfl, Nat.le_of_ble_eq_true rfl⟩ hl.1 rfl (Nat.le_of_ble_eq_true rfl) dL_law_310 ⟨Nat.le_trans (lC_add hMN) rC, Nat.le_trans (lS_add hMN) rS9⟩) (aC_aL hz.1) hS (fun v H1 locs1 hp hz1 ho hS => ?_)
  obtain ⟨g1, rfl, hg1, hCI1, hR⟩ := hp
  have hM := MR.keep hM ho aM_aC
  refine W.widen (k := lC (f_aside r C (xs (i + 1)) (xs (i + 2))).1) (n := lS (f_aside r C (xs (i + 1)) (xs (i + 2))).1) (lC_add hMN) (lS_add hMN) ?_
  refine W.eq (g2 := F0 m 313 ls [.int (f_aside r C (xs (i + 1)) (xs (i + 2))).2]) rfl ?_
  refine lv_aload_n hx hb dL_law_313 rfl (lv_at hl 2 rfl) ?_
  refine lw_arg hx hb hX hbl hS hl (j := 1) (by omega) hL (by decide) dL_law_314 dL_law_315 dL_law_316 dL_law_317 dL_law_318 ?_
  refine lw_arg hx hb hX hbl hS hl (j := 2) (by omega) hL (by decide) dL_law_319 dL_law_320 dL_law_321 dL_law_322 dL_law_323 ?_
  refine px_goQ2 (px_callV F hK (c_X6_aside l D cy _ G r C E _ (xs (i + 1)) (xs (i + 2)) hI) kc_X6_aside kw_methodLink_RL_31 rfl hM (m_recv hK hM) rfl ⟨rfl, rfl⟩ ⟨Nat.le_of_ble_eq_true rfl, Nat.le_of_ble_eq_true rfl⟩ hl.1 rfl (Nat.le_of_ble_eq_true rfl) dL_law_324 ⟨rC, rS9⟩) (aM_aL hz.1.1) hS (fun v H2 locs2 hp hz2 ho hS => ?_)
  obtain ⟨rfl, C2, E2, hM⟩ := hp
  have hR := CR.keep hR ho aC_aM
  refine W.eq (g2 := F0 m 327 ls [.int (f_aside r C (xs (i + 1)) (xs (i + 2))).2, .int (f_aside r C (xs (i + 1)) (xs (i + 2))).2]) rfl ?_
  refine lv_icmp_eq (tgt := 1299) hx hb dL_law_327 (by decide) (fun _ => ?_) (fun h => absurd rfl h)
  exact kk ((f_aside r C (xs (i + 1)) (xs (i + 2))).1) _ _ _ ⟨g1, C2, E2, hLV1, hCI1, hg1, hR, hM, hS, ⟨hz.1, Nat.le_trans hz.2 (Nat.le_trans hz1 hz2)⟩, hl⟩
set_option maxHeartbeats 400000 in
set_option maxRecDepth 100000 in
theorem lw_kind {p : Program} {l : Launch} {e : Env} {s : State} {m : MethodId} {below : List Frame} {meth : Method} {c : Code} {Q : State → Prop} {b L z0 z1 o1 : Nat} {xs : Nat → Int32} {D : va_G} {cy : Nat → ClassId} {G : Nat → Nat} (F : px_F p m c cL_law 4 s #[Value.ref b] RL) (hK : KK D cy s) (hX : va_X b L xs s s.heap) (hbl : b < s.heap.size) (hL : L ≤ 3584) {k i : Nat} {r : RS} {H : Heap} {locs : List Loc} {ls : Array Slot} (hW : LW D cy s b z0 z1 o1 G k i r H locs ls) (hk : k + 1 ≤ 512) (hi : i + 7 ≤ L) (kk : ∀ (r' : RS) (H' : Heap) (locs' : List Loc) (ls' : Array Slot), LW D cy s b z0 z1 o1 G (k + 1) i r' H' locs' ls' → W p l e room_1 s m #[Value.ref b] below meth c H' locs' (lC r') (lS r') Q (F0 m 1299 ls' [])) : W p l e room_1 s m #[Value.ref b] below meth c H locs (lC r) (lS r) Q (F0 m 355 ls []) := by
  obtain ⟨g, C, E, hLV, hCI, rfl, hR, hM, hS, hz, hl⟩ := hW
  have hx := F.1
  have hb := F.2.1
  have hI := hLV.inv
  have hV := hLV.2.2.2.2.1
  have hK9 := hLV.2.2.2.2.2.1
  have hbd := hLV.b
  refine lv_aload_n hx hb dL_law_355 rfl (lv_at hl 1 rfl) ?_
  refine lw_arg hx hb hX hbl hS hl (j := 1) (by omega) hL (by decide) dL_law_356 dL_law_357 dL_law_358 dL_law_359 dL_law_360 ?_
  obtain ⟨hLV1, hMN⟩ : LV (k + 1) r ∧ MN r r := ⟨hLV.same hk hLV.2.2.2.2 (SM.rf r), MN.rf⟩
  have rC := lC_room hLV1
  have rS9 := lS_room hLV1
  refine px_goV (st1 := [.int (f_kind r (xs (i + 1)))]) (px_callV F hK (c_X5_kind l D cy _ r g _ (xs (i + 1)) hI hV hK9) kc_X5_kind kw_methodLink_RL_37 rfl hR (c_recv hK hR) rfl ⟨rfl, rfl⟩ ⟨Nat.le_of_ble_eq_true rfl, Nat.le_of_ble_eq_true rfl⟩ hl.1 rfl (Nat.le_of_ble_eq_true rfl) dL_law_361 ⟨lC_room hLV, lS_room hLV⟩) rfl ?_
  refine lv_aload_n hx hb dL_law_364 rfl (lv_at hl 2 rfl) ?_
  refine lw_arg hx hb hX hbl hS hl (j := 1) (by omega) hL (by decide) dL_law_365 dL_law_366 dL_law_367 dL_law_368 dL_law_369 ?_
  refine px_goV (st1 := [.int (f_kind r (xs (i + 1))), .int (f_kind r (xs (i + 1)))]) (px_callV F hK (c_X6_kind l D cy _ G r C E _ (xs (i + 1)) hI) kc_X6_kind kw_methodLink_RL_40 rfl hM (m_recv hK hM) rfl ⟨rfl, rfl⟩ ⟨Nat.le_of_ble_eq_true rfl, Nat.le_of_ble_eq_true rfl⟩ hl.1 rfl (Nat.le_of_ble_eq_true rfl) dL_law_370 ⟨rC, rS9⟩) rfl ?_
  refine lv_icmp_eq (tgt := 1299) hx hb dL_law_373 (by decide) (fun _ => ?_) (fun h => absurd rfl h)
  exact kk r _ _ _ ⟨g, C, E, hLV1, hCI.up (Nat.le_succ _) rfl rfl, rfl, hR, hM, hS, hz, hl⟩
set_option maxHeartbeats 400000 in
set_option maxRecDepth 100000 in
theorem lw_read {p : Program} {l : Launch} {e : Env} {s : State} {m : MethodId} {below : List Frame} {meth : Method} {c : Code} {Q : State → Prop} {b L z0 z1 o1 : Nat} {xs : Nat → Int32} {D : va_G} {cy : Nat → ClassId} {G : Nat → Nat} (F : px_F p m c cL_law 4 s #[Value.ref b] RL) (hK : KK D cy s) (hX : va_X b L xs s s.heap) (hbl : b < s.heap.size) (hL : L ≤ 3584) {k i : Nat} {r : RS} {H : Heap} {locs : List Loc} {ls : Array Slot} (hW : LW D cy s b z0 z1 o1 G k i r H locs ls) (hk : k + 1 ≤ 512) (hi : i + 7 ≤ L) (kk : ∀ (r' : RS) (H' : Heap) (locs' : List Loc) (ls' : Array Slot), LW D cy s b z0 z1 o1 G (k + 1) i r' H' locs' ls' → W p l e room_1 s m #[Value.ref b] below meth c H' locs' (lC r') (lS r') Q (F0 m 1299 ls' [])) : W p l e room_1 s m #[Value.ref b] below meth c H locs (lC r) (lS r) Q (F0 m 411 ls []) := by
  obtain ⟨g, C, E, hLV, hCI, rfl, hR, hM, hS, hz, hl⟩ := hW
  have hx := F.1
  have hb := F.2.1
  have hI := hLV.inv
  have hV := hLV.2.2.2.2.1
  have hK9 := hLV.2.2.2.2.2.1
  have hbd := hLV.b
  refine lv_aload_n hx hb dL_law_411 rfl (lv_at hl 1 rfl) ?_
  refine lw_arg hx hb hX hbl hS hl (j := 1) (by omega) hL (by decide) dL_law_412 dL_law_413 dL_law_414 dL_law_415 dL_law_416 ?_
  refine lw_arg hx hb hX hbl hS hl (j := 2) (by omega) hL (by decide) dL_law_417 dL_law_418 dL_law_419 dL_law_420 dL_law_421 ?_
  refine lw_arg hx hb hX hbl hS hl (j := 3) (by omega) hL (by decide) dL_law_422 dL_law_423 dL_law_424 dL_law_425 dL_law_426 ?_
  have hsm := s_read hLV (xs (i + 1)) (xs (i + 2)) (xs (i + 3))
  have hLV1 : LV (k + 1) (f_read r (xs (i + 1)) (xs (i + 2)) (xs (i + 3))).1 := hLV.same hk hsm.1 hsm.2
  have hMN : MN r (f_read r (xs (i + 1)) (xs (i + 2)) (xs (i + 3))).1 := hsm.2.mn
  have rC := lC_room hLV1
  have rS9 := lS_room hLV1
  refine px_goQ2 (px_callV F hK (c_X5_read l D cy _ r g _ (xs (i + 1)) (xs (i + 2)) (xs (i + 3)) hI hV hK9) kc_X5_read kw_methodLink_RL_45 rfl hR (c_recv hK hR) rfl ⟨rfl, rfl⟩ ⟨Nat.le_of_ble_eq_true rfl, Nat.le_of_ble_eq_true rfl⟩ hl.1 rfl (Nat.le_of_ble_eq_true rfl) dL_law_427 ⟨lC_room hLV, lS_room hLV⟩) (aC_aL hz.1) hS (fun v H1 locs1 hp hz1 ho hS => ?_)
  obtain ⟨rfl, hR⟩ := hp
  have hM := MR.keep hM ho aM_aC
  refine W.widen (k := lC (f_read r (xs (i + 1)) (xs (i + 2)) (xs (i + 3))).1) (n := lS (f_read r (xs (i + 1)) (xs (i + 2)) (xs (i + 3))).1) (lC_le hMN) (lS_le hMN) ?_
  refine W.eq (g2 := F0 m 430 ls [.long (f_read r (xs (i + 1)) (xs (i + 2)) (xs (i + 3))).2]) rfl ?_
  refine lv_aload_n hx hb dL_law_430 rfl (lv_at hl 2 rfl) ?_
  refine lw_arg hx hb hX hbl hS hl (j := 1) (by omega) hL (by decide) dL_law_431 dL_law_432 dL_law_433 dL_law_434 dL_law_435 ?_
  refine lw_arg hx hb hX hbl hS hl (j := 2) (by omega) hL (by decide) dL_law_436 dL_law_437 dL_law_438 dL_law_439 dL_law_440 ?_
  refine lw_arg hx hb hX hbl hS hl (j := 3) (by omega) hL (by decide) dL_law_441 dL_law_442 dL_law_443 dL_law_444 dL_law_445 ?_
  refine px_goQ2 (px_callV F hK (c_X6_read l D cy _ G r C E _ (xs (i + 1)) (xs (i + 2)) (xs (i + 3)) hI) kc_X6_read kw_methodLink_RL_49 rfl hM (m_recv hK hM) rfl ⟨rfl, rfl⟩ ⟨Nat.le_of_ble_eq_true rfl, Nat.le_of_ble_eq_true rfl⟩ hl.1 rfl (Nat.le_of_ble_eq_true rfl) dL_law_446 ⟨rC, rS9⟩) (aM_aL hz.1.1) hS (fun v H2 locs2 hp hz2 ho hS => ?_)
  obtain ⟨rfl, C2, E2, hM⟩ := hp
  have hR := CR.keep hR ho aC_aM
  refine W.eq (g2 := F0 m 449 ls [.long (f_read r (xs (i + 1)) (xs (i + 2)) (xs (i + 3))).2, .long (f_read r (xs (i + 1)) (xs (i + 2)) (xs (i + 3))).2]) rfl ?_
  refine W.lcmp hx hb dL_law_449 ?_
  refine x_cmp_eq (tgt := 1299) hx hb dL_law_450 (by decide) (fun _ => ?_) (fun h => absurd rfl h)
  exact kk ((f_read r (xs (i + 1)) (xs (i + 2)) (xs (i + 3))).1) _ _ _ ⟨g, C2, E2, hLV1, hCI.up (Nat.le_succ _) hsm.2.1 hsm.2.2.2, rfl, hR, hM, hS, ⟨hz.1, Nat.le_trans hz.2 (Nat.le_trans hz1 hz2)⟩, hl⟩
set_option maxHeartbeats 400000 in
set_option maxRecDepth 100000 in
theorem lw_write {p : Program} {l : Launch} {e : Env} {s : State} {m : MethodId} {below : List Frame} {meth : Method} {c : Code} {Q : State → Prop} {b L z0 z1 o1 : Nat} {xs : Nat → Int32} {D : va_G} {cy : Nat → ClassId} {G : Nat → Nat} (F : px_F p m c cL_law 4 s #[Value.ref b] RL) (hK : KK D cy s) (hX : va_X b L xs s s.heap) (hbl : b < s.heap.size) (hL : L ≤ 3584) {k i : Nat} {r : RS} {H : Heap} {locs : List Loc} {ls : Array Slot} (hW : LW D cy s b z0 z1 o1 G k i r H locs ls) (hk : k + 1 ≤ 512) (hi : i + 7 ≤ L) (kk : ∀ (r' : RS) (H' : Heap) (locs' : List Loc) (ls' : Array Slot), LW D cy s b z0 z1 o1 G (k + 1) i r' H' locs' ls' → W p l e room_1 s m #[Value.ref b] below meth c H' locs' (lC r') (lS r') Q (F0 m 1299 ls' [])) : W p l e room_1 s m #[Value.ref b] below meth c H locs (lC r) (lS r) Q (F0 m 455 ls []) := by
  obtain ⟨g, C, E, hLV, hCI, rfl, hR, hM, hS, hz, hl⟩ := hW
  have hx := F.1
  have hb := F.2.1
  have hI := hLV.inv
  have hV := hLV.2.2.2.2.1
  have hK9 := hLV.2.2.2.2.2.1
  have hbd := hLV.b
  refine lv_aload_n hx hb dL_law_455 rfl (lv_at hl 1 rfl) ?_
  refine lw_arg hx hb hX hbl hS hl (j := 1) (by omega) hL (by decide) dL_law_456 dL_law_457 dL_law_458 dL_law_459 dL_law_460 ?_
  refine lw_arg hx hb hX hbl hS hl (j := 2) (by omega) hL (by decide) dL_law_461 dL_law_462 dL_law_463 dL_law_464 dL_law_465 ?_
  refine lw_arg hx hb hX hbl hS hl (j := 3) (by omega) hL (by decide) dL_law_466 dL_law_467 dL_law_468 dL_law_469 dL_law_470 ?_
  refine lw_arg hx hb hX hbl hS hl (j := 4) (by omega) hL (by decide) dL_law_471 dL_law_472 dL_law_473 dL_law_474 dL_law_475 ?_
  refine lv_i2l hx hb dL_law_476 rfl ?_
  refine lv_bipush (v := 32) hx hb dL_law_477 (by decide) ?_
  refine lv_lshl hx hb dL_law_479 rfl ?_
  refine lw_arg hx hb hX hbl hS hl (j := 5) (by omega) hL (by decide) dL_law_480 dL_law_481 dL_law_482 dL_law_483 dL_law_484 ?_
  refine lv_i2l hx hb dL_law_485 rfl ?_
  refine lv_ldc2 hx hb F.2.2.2.1 (F.2.2.2.2 _ kw_constantLong_RL_50) dL_law_486 ?_
  refine lv_land hx hb dL_law_489 ?_
  refine lv_lor hx hb dL_law_490 ?_
  have hsm := s_write hLV (xs (i + 1)) (xs (i + 2)) (xs (i + 3)) (lw_L (xs (i + 4)) (xs (i + 5)))
  have hLV1 : LV (k + 1) (f_write r (xs (i + 1)) (xs (i + 2)) (xs (i + 3)) (lw_L (xs (i + 4)) (xs (i + 5)))).1 := hLV.same hk hsm.1 hsm.2
  have hMN : MN r (f_write r (xs (i + 1)) (xs (i + 2)) (xs (i + 3)) (lw_L (xs (i + 4)) (xs (i + 5)))).1 := hsm.2.mn
  have rC := lC_room hLV1
  have rS9 := lS_room hLV1
  refine px_goQ2 (px_callV F hK (c_X5_write l D cy _ r g _ (xs (i + 1)) (xs (i + 2)) (xs (i + 3)) (lw_L (xs (i + 4)) (xs (i + 5))) hI hV hK9) kc_X5_write kw_methodLink_RL_52 rfl hR (c_recv hK hR) rfl ⟨rfl, rfl⟩ ⟨Nat.le_of_ble_eq_true rfl, Nat.le_of_ble_eq_true rfl⟩ hl.1 rfl (Nat.le_of_ble_eq_true rfl) dL_law_491 ⟨lC_room hLV, lS_room hLV⟩) (aC_aL hz.1) hS (fun v H1 locs1 hp hz1 ho hS => ?_)
  obtain ⟨rfl, hR⟩ := hp
  have hM := MR.keep hM ho aM_aC
  refine W.widen (k := lC (f_write r (xs (i + 1)) (xs (i + 2)) (xs (i + 3)) (lw_L (xs (i + 4)) (xs (i + 5)))).1) (n := lS (f_write r (xs (i + 1)) (xs (i + 2)) (xs (i + 3)) (lw_L (xs (i + 4)) (xs (i + 5)))).1) (lC_le hMN) (lS_le hMN) ?_
  refine W.eq (g2 := F0 m 494 ls [.int (f_write r (xs (i + 1)) (xs (i + 2)) (xs (i + 3)) (lw_L (xs (i + 4)) (xs (i + 5)))).2]) rfl ?_
  refine lv_aload_n hx hb dL_law_494 rfl (lv_at hl 2 rfl) ?_
  refine lw_arg hx hb hX hbl hS hl (j := 1) (by omega) hL (by decide) dL_law_495 dL_law_496 dL_law_497 dL_law_498 dL_law_499 ?_
  refine lw_arg hx hb hX hbl hS hl (j := 2) (by omega) hL (by decide) dL_law_500 dL_law_501 dL_law_502 dL_law_503 dL_law_504 ?_
  refine lw_arg hx hb hX hbl hS hl (j := 3) (by omega) hL (by decide) dL_law_505 dL_law_506 dL_law_507 dL_law_508 dL_law_509 ?_
  refine lw_arg hx hb hX hbl hS hl (j := 4) (by omega) hL (by decide) dL_law_510 dL_law_511 dL_law_512 dL_law_513 dL_law_514 ?_
  refine lv_i2l hx hb dL_law_515 rfl ?_
  refine lv_bipush (v := 32) hx hb dL_law_516 (by decide) ?_
  refine lv_lshl hx hb dL_law_518 rfl ?_
  refine lw_arg hx hb hX hbl hS hl (j := 5) (by omega) hL (by decide) dL_law_519 dL_law_520 dL_law_521 dL_law_522 dL_law_523 ?_
  refine lv_i2l hx hb dL_law_524 rfl ?_
  refine lv_ldc2 hx hb F.2.2.2.1 (F.2.2.2.2 _ kw_constantLong_RL_50) dL_law_525 ?_
  refine lv_land hx hb dL_law_528 ?_
  refine lv_lor hx hb dL_law_529 ?_
  refine px_goQ2 (px_callV F hK (c_X6_write l D cy _ G r C E _ (xs (i + 1)) (xs (i + 2)) (xs (i + 3)) (lw_L (xs (i + 4)) (xs (i + 5))) hI) kc_X6_write kw_methodLink_RL_56 rfl hM (m_recv hK hM) rfl ⟨rfl, rfl⟩ ⟨Nat.le_of_ble_eq_true rfl, Nat.le_of_ble_eq_true rfl⟩ hl.1 rfl (Nat.le_of_ble_eq_true rfl) dL_law_530 ⟨rC, rS9⟩) (aM_aL hz.1.1) hS (fun v H2 locs2 hp hz2 ho hS => ?_)
  obtain ⟨rfl, C2, E2, hM⟩ := hp
  have hR := CR.keep hR ho aC_aM
  refine W.eq (g2 := F0 m 533 ls [.int (f_write r (xs (i + 1)) (xs (i + 2)) (xs (i + 3)) (lw_L (xs (i + 4)) (xs (i + 5)))).2, .int (f_write r (xs (i + 1)) (xs (i + 2)) (xs (i + 3)) (lw_L (xs (i + 4)) (xs (i + 5)))).2]) rfl ?_
  refine lv_icmp_eq (tgt := 1299) hx hb dL_law_533 (by decide) (fun _ => ?_) (fun h => absurd rfl h)
  exact kk ((f_write r (xs (i + 1)) (xs (i + 2)) (xs (i + 3)) (lw_L (xs (i + 4)) (xs (i + 5)))).1) _ _ _ ⟨g, C2, E2, hLV1, hCI.up (Nat.le_succ _) hsm.2.1 hsm.2.2.2, rfl, hR, hM, hS, ⟨hz.1, Nat.le_trans hz.2 (Nat.le_trans hz1 hz2)⟩, hl⟩
set_option maxHeartbeats 400000 in
set_option maxRecDepth 100000 in
theorem lw_thing {p : Program} {l : Launch} {e : Env} {s : State} {m : MethodId} {below : List Frame} {meth : Method} {c : Code} {Q : State → Prop} {b L z0 z1 o1 : Nat} {xs : Nat → Int32} {D : va_G} {cy : Nat → ClassId} {G : Nat → Nat} (F : px_F p m c cL_law 4 s #[Value.ref b] RL) (hK : KK D cy s) (hX : va_X b L xs s s.heap) (hbl : b < s.heap.size) (hL : L ≤ 3584) {k i : Nat} {r : RS} {H : Heap} {locs : List Loc} {ls : Array Slot} (hW : LW D cy s b z0 z1 o1 G k i r H locs ls) (hk : k + 1 ≤ 512) (hi : i + 7 ≤ L) (kk : ∀ (r' : RS) (H' : Heap) (locs' : List Loc) (ls' : Array Slot), LW D cy s b z0 z1 o1 G (k + 1) i r' H' locs' ls' → W p l e room_1 s m #[Value.ref b] below meth c H' locs' (lC r') (lS r') Q (F0 m 1299 ls' [])) : W p l e room_1 s m #[Value.ref b] below meth c H locs (lC r) (lS r) Q (F0 m 538 ls []) := by
  obtain ⟨g, C, E, hLV, hCI, rfl, hR, hM, hS, hz, hl⟩ := hW
  have hx := F.1
  have hb := F.2.1
  have hI := hLV.inv
  have hV := hLV.2.2.2.2.1
  have hK9 := hLV.2.2.2.2.2.1
  have hbd := hLV.b
  refine lv_aload_n hx hb dL_law_538 rfl (lv_at hl 1 rfl) ?_
  refine lw_arg hx hb hX hbl hS hl (j := 1) (by omega) hL (by decide) dL_law_539 dL_law_540 dL_law_541 dL_law_542 dL_law_543 ?_
  refine lw_arg hx hb hX hbl hS hl (j := 2) (by omega) hL (by decide) dL_law_544 dL_law_545 dL_law_546 dL_law_547 dL_law_548 ?_
  refine lw_arg hx hb hX hbl hS hl (j := 3) (by omega) hL (by decide) dL_law_549 dL_law_550 dL_law_551 dL_law_552 dL_law_553 ?_
  refine lw_arg hx hb hX hbl hS hl (j := 4) (by omega) hL (by decide) dL_law_554 dL_law_555 dL_law_556 dL_law_557 dL_law_558 ?_
  obtain ⟨hLV1, hMN⟩ := lv_thing hLV hk (xs (i + 1)) (xs (i + 2)) (xs (i + 3)) (xs (i + 4))
  have rC := lC_room hLV1
  have rS9 := lS_room hLV1
  refine px_goQ2 (px_callV F hK (c_X5_thing l D cy _ r g _ (xs (i + 1)) (xs (i + 2)) (xs (i + 3)) (xs (i + 4)) hI hV hK9 (fun q h => Or.inr (Nat.le_trans hz.2 h)) hCI.1) kc_X5_thing kw_methodLink_RL_57 rfl hR (c_recv hK hR) rfl ⟨rfl, rfl⟩ ⟨Nat.le_of_ble_eq_true rfl, Nat.le_of_ble_eq_true rfl⟩ hl.1 rfl (Nat.le_of_ble_eq_true rfl) dL_law_559 ⟨Nat.le_trans (lC_add hMN) rC, Nat.le_trans (lS_add hMN) rS9⟩) (aC_aL hz.1) hS (fun v H1 locs1 hp hz1 ho hS => ?_)
  obtain ⟨g1, rfl, hE, hM9, hR⟩ := hp
  have hM := MR.keep hM ho aM_aC
  refine W.widen (k := lC (f_thing r (xs (i + 1)) (xs (i + 2)) (xs (i + 3)) (xs (i + 4))).1) (n := lS (f_thing r (xs (i + 1)) (xs (i + 2)) (xs (i + 3)) (xs (i + 4))).1) (lC_add hMN) (lS_add hMN) ?_
  refine W.eq (g2 := F0 m 562 ls [.int (f_thing r (xs (i + 1)) (xs (i + 2)) (xs (i + 3)) (xs (i + 4))).2]) rfl ?_
  refine lv_aload_n hx hb dL_law_562 rfl (lv_at hl 2 rfl) ?_
  refine lw_arg hx hb hX hbl hS hl (j := 1) (by omega) hL (by decide) dL_law_563 dL_law_564 dL_law_565 dL_law_566 dL_law_567 ?_
  refine lw_arg hx hb hX hbl hS hl (j := 2) (by omega) hL (by decide) dL_law_568 dL_law_569 dL_law_570 dL_law_571 dL_law_572 ?_
  refine lw_arg hx hb hX hbl hS hl (j := 3) (by omega) hL (by decide) dL_law_573 dL_law_574 dL_law_575 dL_law_576 dL_law_577 ?_
  refine lw_arg hx hb hX hbl hS hl (j := 4) (by omega) hL (by decide) dL_law_578 dL_law_579 dL_law_580 dL_law_581 dL_law_582 ?_
  refine px_goQ2 (px_callV F hK (c_X6_thing l D cy _ G r C E _ (xs (i + 1)) (xs (i + 2)) (xs (i + 3)) (xs (i + 4)) hI) kc_X6_thing kw_methodLink_RL_61 rfl hM (m_recv hK hM) rfl ⟨rfl, rfl⟩ ⟨Nat.le_of_ble_eq_true rfl, Nat.le_of_ble_eq_true rfl⟩ hl.1 rfl (Nat.le_of_ble_eq_true rfl) dL_law_583 ⟨rC, rS9⟩) (aM_aL hz.1.1) hS (fun v H2 locs2 hp hz2 ho hS => ?_)
  obtain ⟨rfl, C2, E2, hM⟩ := hp
  have hR := CR.keep hR ho aC_aM
  refine W.eq (g2 := F0 m 586 ls [.int (f_thing r (xs (i + 1)) (xs (i + 2)) (xs (i + 3)) (xs (i + 4))).2, .int (f_thing r (xs (i + 1)) (xs (i + 2)) (xs (i + 3)) (xs (i + 4))).2]) rfl ?_
  refine lv_icmp_eq (tgt := 1299) hx hb dL_law_586 (by decide) (fun _ => ?_) (fun h => absurd rfl h)
  exact kk ((f_thing r (xs (i + 1)) (xs (i + 2)) (xs (i + 3)) (xs (i + 4))).1) _ _ _ ⟨g1, C2, E2, hLV1, hCI.gx (Nat.le_succ _) hE hM9, hE.x, hR, hM, hS, ⟨hz.1, Nat.le_trans hz.2 (Nat.le_trans hz1 hz2)⟩, hl⟩
set_option maxHeartbeats 400000 in
set_option maxRecDepth 100000 in
theorem lw_passed {p : Program} {l : Launch} {e : Env} {s : State} {m : MethodId} {below : List Frame} {meth : Method} {c : Code} {Q : State → Prop} {b L z0 z1 o1 : Nat} {xs : Nat → Int32} {D : va_G} {cy : Nat → ClassId} {G : Nat → Nat} (F : px_F p m c cL_law 4 s #[Value.ref b] RL) (hK : KK D cy s) (hX : va_X b L xs s s.heap) (hbl : b < s.heap.size) (hL : L ≤ 3584) {k i : Nat} {r : RS} {H : Heap} {locs : List Loc} {ls : Array Slot} (hW : LW D cy s b z0 z1 o1 G k i r H locs ls) (hk : k + 1 ≤ 512) (hi : i + 7 ≤ L) (kk : ∀ (r' : RS) (H' : Heap) (locs' : List Loc) (ls' : Array Slot), LW D cy s b z0 z1 o1 G (k + 1) i r' H' locs' ls' → W p l e room_1 s m #[Value.ref b] below meth c H' locs' (lC r') (lS r') Q (F0 m 1299 ls' [])) : W p l e room_1 s m #[Value.ref b] below meth c H locs (lC r) (lS r) Q (F0 m 1224 ls []) := by
  obtain ⟨g, C, E, hLV, hCI, rfl, hR, hM, hS, hz, hl⟩ := hW
  have hx := F.1
  have hb := F.2.1
  have hI := hLV.inv
  have hV := hLV.2.2.2.2.1
  have hK9 := hLV.2.2.2.2.2.1
  have hbd := hLV.b
  refine lv_aload_n hx hb dL_law_1224 rfl (lv_at hl 1 rfl) ?_
  obtain ⟨hLV1, hMN⟩ : LV (k + 1) r ∧ MN r r := ⟨hLV.same hk hLV.2.2.2.2 (SM.rf r), MN.rf⟩
  have rC := lC_room hLV1
  have rS9 := lS_room hLV1
  refine px_goV (st1 := [.int (rPa r)]) (px_callV F hK (c_X5_passed l D cy _ r g _) kc_X5_passed kw_methodLink_RL_117 rfl hR (c_recv hK hR) rfl ⟨rfl, rfl⟩ ⟨Nat.le_of_ble_eq_true rfl, Nat.le_of_ble_eq_true rfl⟩ hl.1 rfl (Nat.le_of_ble_eq_true rfl) dL_law_1225 ⟨lC_room hLV, lS_room hLV⟩) rfl ?_
  refine lv_aload_n hx hb dL_law_1228 rfl (lv_at hl 2 rfl) ?_
  refine px_goV (st1 := [.int (rPa r), .int (rPa r)]) (px_callV F hK (c_X6_passed l D cy _ G r C E _) kc_X6_passed kw_methodLink_RL_121 rfl hM (m_recv hK hM) rfl ⟨rfl, rfl⟩ ⟨Nat.le_of_ble_eq_true rfl, Nat.le_of_ble_eq_true rfl⟩ hl.1 rfl (Nat.le_of_ble_eq_true rfl) dL_law_1229 ⟨rC, rS9⟩) rfl ?_
  refine lv_icmp_eq (tgt := 1299) hx hb dL_law_1232 (by decide) (fun _ => ?_) (fun h => absurd rfl h)
  exact kk r _ _ _ ⟨g, C, E, hLV1, hCI.up (Nat.le_succ _) rfl rfl, rfl, hR, hM, hS, hz, hl⟩
