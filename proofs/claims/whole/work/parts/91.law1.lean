/-! the law: its cases -/
set_option maxHeartbeats 400000 in
set_option maxRecDepth 100000 in
theorem lw_make {p : Program} {l : Launch} {e : Env} {s : State} {m : MethodId} {below : List Frame} {meth : Method} {c : Code} {Q : State → Prop} {b L z0 z1 o1 : Nat} {xs : Nat → Int32} {D : va_G} {cy : Nat → ClassId} {G : Nat → Nat} (F : px_F p m c cL_law 4 s #[Value.ref b] RL) (hK : KK D cy s) (hX : va_X b L xs s s.heap) (hbl : b < s.heap.size) (hL : L ≤ 3584) {k i : Nat} {r : RS} {H : Heap} {locs : List Loc} {ls : Array Slot} (hW : LW D cy s b z0 z1 o1 G k i r H locs ls) (hk : k + 1 ≤ 512) (hi : i + 7 ≤ L) (kk : ∀ (r' : RS) (H' : Heap) (locs' : List Loc) (ls' : Array Slot), LW D cy s b z0 z1 o1 G (k + 1) i r' H' locs' ls' → W p l e room_1 s m #[Value.ref b] below meth c H' locs' (lC r') (lS r') Q (F0 m 1299 ls' [])) : W p l e room_1 s m #[Value.ref b] below meth c H locs (lC r) (lS r) Q (F0 m 160 ls []) := by
  obtain ⟨g, C, E, hLV, hCI, rfl, hR, hM, hS, hz, hl⟩ := hW
  have hx := F.1
  have hb := F.2.1
  have hI := hLV.inv
  have hV := hLV.2.2.2.2.1
  have hK9 := hLV.2.2.2.2.2.1
  have hbd := hLV.b
  refine lv_aload_n hx hb dL_law_160 rfl (lv_at hl 1 rfl) ?_
  refine lw_arg hx hb hX hbl hS hl (j := 1) (by omega) hL (by decide) dL_law_161 dL_law_162 dL_law_163 dL_law_164 dL_law_165 ?_
  refine lw_arg hx hb hX hbl hS hl (j := 2) (by omega) hL (by decide) dL_law_166 dL_law_167 dL_law_168 dL_law_169 dL_law_170 ?_
  refine lw_arg hx hb hX hbl hS hl (j := 3) (by omega) hL (by decide) dL_law_171 dL_law_172 dL_law_173 dL_law_174 dL_law_175 ?_
  obtain ⟨hLV1, hMN⟩ := lv_make hLV hk (xs (i + 1)) (xs (i + 2)) (xs (i + 3))
  have rC := lC_room hLV1
  have rS9 := lS_room hLV1
  refine px_goQ2 (px_callV F hK (c_X5_make l D cy _ r g _ (xs (i + 1)) (xs (i + 2)) (xs (i + 3)) hI hV hK9 (fun q h => Or.inr (Nat.le_trans hz.2 h))) kc_X5_make kw_methodLink_RL_13 rfl hR (c_recv hK hR) rfl ⟨rfl, rfl⟩ ⟨Nat.le_of_ble_eq_true rfl, Nat.le_of_ble_eq_true rfl⟩ hl.1 rfl (Nat.le_of_ble_eq_true rfl) dL_law_176 ⟨Nat.le_trans (lC_add hMN) rC, Nat.le_trans (lS_add hMN) rS9⟩) (aC_aL hz.1) hS (fun v H1 locs1 hp hz1 ho hS => ?_)
  obtain ⟨g1, rfl, hE, hM9, hR⟩ := hp
  have hM := MR.keep hM ho aM_aC
  refine W.widen (k := lC (f_make r (xs (i + 1)) (xs (i + 2)) (xs (i + 3))).1) (n := lS (f_make r (xs (i + 1)) (xs (i + 2)) (xs (i + 3))).1) (lC_add hMN) (lS_add hMN) ?_
  refine W.eq (g2 := F0 m 179 ls [.int (f_make r (xs (i + 1)) (xs (i + 2)) (xs (i + 3))).2]) rfl ?_
  refine lv_aload_n hx hb dL_law_179 rfl (lv_at hl 2 rfl) ?_
  refine lw_arg hx hb hX hbl hS hl (j := 1) (by omega) hL (by decide) dL_law_180 dL_law_181 dL_law_182 dL_law_183 dL_law_184 ?_
  refine lw_arg hx hb hX hbl hS hl (j := 2) (by omega) hL (by decide) dL_law_185 dL_law_186 dL_law_187 dL_law_188 dL_law_189 ?_
  refine lw_arg hx hb hX hbl hS hl (j := 3) (by omega) hL (by decide) dL_law_190 dL_law_191 dL_law_192 dL_law_193 dL_law_194 ?_
  refine px_goQ2 (px_callV F hK (c_X6_make l D cy _ G r C E _ (xs (i + 1)) (xs (i + 2)) (xs (i + 3)) hI) kc_X6_make kw_methodLink_RL_17 rfl hM (m_recv hK hM) rfl ⟨rfl, rfl⟩ ⟨Nat.le_of_ble_eq_true rfl, Nat.le_of_ble_eq_true rfl⟩ hl.1 rfl (Nat.le_of_ble_eq_true rfl) dL_law_195 ⟨rC, rS9⟩) (aM_aL hz.1.1) hS (fun v H2 locs2 hp hz2 ho hS => ?_)
  obtain ⟨rfl, C2, E2, hM⟩ := hp
  have hR := CR.keep hR ho aC_aM
  refine W.eq (g2 := F0 m 198 ls [.int (f_make r (xs (i + 1)) (xs (i + 2)) (xs (i + 3))).2, .int (f_make r (xs (i + 1)) (xs (i + 2)) (xs (i + 3))).2]) rfl ?_
  refine lv_icmp_eq (tgt := 1299) hx hb dL_law_198 (by decide) (fun _ => ?_) (fun h => absurd rfl h)
  exact kk ((f_make r (xs (i + 1)) (xs (i + 2)) (xs (i + 3))).1) _ _ _ ⟨g1, C2, E2, hLV1, hCI.gx (Nat.le_succ _) hE (hM9.trans (hCI.1.trans (m_make r (xs (i + 1)) (xs (i + 2)) (xs (i + 3))).symm)), hE.x, hR, hM, hS, ⟨hz.1, Nat.le_trans hz.2 (Nat.le_trans hz1 hz2)⟩, hl⟩
set_option maxHeartbeats 400000 in
set_option maxRecDepth 100000 in
theorem lw_deep {p : Program} {l : Launch} {e : Env} {s : State} {m : MethodId} {below : List Frame} {meth : Method} {c : Code} {Q : State → Prop} {b L z0 z1 o1 : Nat} {xs : Nat → Int32} {D : va_G} {cy : Nat → ClassId} {G : Nat → Nat} (F : px_F p m c cL_law 4 s #[Value.ref b] RL) (hK : KK D cy s) (hX : va_X b L xs s s.heap) (hbl : b < s.heap.size) (hL : L ≤ 3584) {k i : Nat} {r : RS} {H : Heap} {locs : List Loc} {ls : Array Slot} (hW : LW D cy s b z0 z1 o1 G k i r H locs ls) (hk : k + 1 ≤ 512) (hi : i + 7 ≤ L) (kk : ∀ (r' : RS) (H' : Heap) (locs' : List Loc) (ls' : Array Slot), LW D cy s b z0 z1 o1 G (k + 1) i r' H' locs' ls' → W p l e room_1 s m #[Value.ref b] below meth c H' locs' (lC r') (lS r') Q (F0 m 1299 ls' [])) : W p l e room_1 s m #[Value.ref b] below meth c H locs (lC r) (lS r) Q (F0 m 203 ls []) := by
  obtain ⟨g, C, E, hLV, hCI, rfl, hR, hM, hS, hz, hl⟩ := hW
  have hx := F.1
  have hb := F.2.1
  have hI := hLV.inv
  have hV := hLV.2.2.2.2.1
  have hK9 := hLV.2.2.2.2.2.1
  have hbd := hLV.b
  refine lv_aload_n hx hb dL_law_203 rfl (lv_at hl 1 rfl) ?_
  refine lw_arg hx hb hX hbl hS hl (j := 1) (by omega) hL (by decide) dL_law_204 dL_law_205 dL_law_206 dL_law_207 dL_law_208 ?_
  refine lw_arg hx hb hX hbl hS hl (j := 2) (by omega) hL (by decide) dL_law_209 dL_law_210 dL_law_211 dL_law_212 dL_law_213 ?_
  refine lw_arg hx hb hX hbl hS hl (j := 3) (by omega) hL (by decide) dL_law_214 dL_law_215 dL_law_216 dL_law_217 dL_law_218 ?_
  refine lw_arg hx hb hX hbl hS hl (j := 4) (by omega) hL (by decide) dL_law_219 dL_law_220 dL_law_221 dL_law_222 dL_law_223 ?_
  refine lw_arg hx hb hX hbl hS hl (j := 5) (by omega) hL (by decide) dL_law_224 dL_law_225 dL_law_226 dL_law_227 dL_law_228 ?_
  obtain ⟨hLV1, hMN⟩ := lv_deep hLV hk (xs (i + 1)) (xs (i + 2)) (xs (i + 3)) (xs (i + 4)) (xs (i + 5))
  have rC := lC_room hLV1
  have rS9 := lS_room hLV1
  refine px_goQ2 (px_callV F hK (c_X5_deep l D cy _ r g _ (xs (i + 1)) (xs (i + 2)) (xs (i + 3)) (xs (i + 4)) (xs (i + 5)) hI hV hK9 (fun q h => Or.inr (Nat.le_trans hz.2 h))) kc_X5_deep kw_methodLink_RL_18 rfl hR (c_recv hK hR) rfl ⟨rfl, rfl⟩ ⟨Nat.le_of_ble_eq_true rfl, Nat.le_of_ble_eq_true rfl⟩ hl.1 rfl (Nat.le_of_ble_eq_true rfl) dL_law_229 ⟨Nat.le_trans (lC_add hMN) rC, Nat.le_trans (lS_add hMN) rS9⟩) (aC_aL hz.1) hS (fun v H1 locs1 hp hz1 ho hS => ?_)
  obtain ⟨g1, rfl, hE, hM9, hR⟩ := hp
  have hM := MR.keep hM ho aM_aC
  refine W.widen (k := lC (f_deep r (xs (i + 1)) (xs (i + 2)) (xs (i + 3)) (xs (i + 4)) (xs (i + 5))).1) (n := lS (f_deep r (xs (i + 1)) (xs (i + 2)) (xs (i + 3)) (xs (i + 4)) (xs (i + 5))).1) (lC_add hMN) (lS_add hMN) ?_
  refine W.eq (g2 := F0 m 232 ls [.int (f_deep r (xs (i + 1)) (xs (i + 2)) (xs (i + 3)) (xs (i + 4)) (xs (i + 5))).2]) rfl ?_
  refine lv_aload_n hx hb dL_law_232 rfl (lv_at hl 2 rfl) ?_
  refine lw_arg hx hb hX hbl hS hl (j := 1) (by omega) hL (by decide) dL_law_233 dL_law_234 dL_law_235 dL_law_236 dL_law_237 ?_
  refine lw_arg hx hb hX hbl hS hl (j := 2) (by omega) hL (by decide) dL_law_238 dL_law_239 dL_law_240 dL_law_241 dL_law_242 ?_
  refine lw_arg hx hb hX hbl hS hl (j := 3) (by omega) hL (by decide) dL_law_243 dL_law_244 dL_law_245 dL_law_246 dL_law_247 ?_
  refine lw_arg hx hb hX hbl hS hl (j := 4) (by omega) hL (by decide) dL_law_248 dL_law_249 dL_law_250 dL_law_251 dL_law_252 ?_
  refine lw_arg hx hb hX hbl hS hl (j := 5) (by omega) hL (by decide) dL_law_253 dL_law_254 dL_law_255 dL_law_256 dL_law_257 ?_
  refine px_goQ2 (px_callV F hK (c_X6_deep l D cy _ G r C E _ (xs (i + 1)) (xs (i + 2)) (xs (i + 3)) (xs (i + 4)) (xs (i + 5)) hI) kc_X6_deep kw_methodLink_RL_22 rfl hM (m_recv hK hM) rfl ⟨rfl, rfl⟩ ⟨Nat.le_of_ble_eq_true rfl, Nat.le_of_ble_eq_true rfl⟩ hl.1 rfl (Nat.le_of_ble_eq_true rfl) dL_law_258 ⟨rC, rS9⟩) (aM_aL hz.1.1) hS (fun v H2 locs2 hp hz2 ho hS => ?_)
  obtain ⟨rfl, C2, E2, hM⟩ := hp
  have hR := CR.keep hR ho aC_aM
  refine W.eq (g2 := F0 m 261 ls [.int (f_deep r (xs (i + 1)) (xs (i + 2)) (xs (i + 3)) (xs (i + 4)) (xs (i + 5))).2, .int (f_deep r (xs (i + 1)) (xs (i + 2)) (xs (i + 3)) (xs (i + 4)) (xs (i + 5))).2]) rfl ?_
  refine lv_icmp_eq (tgt := 1299) hx hb dL_law_261 (by decide) (fun _ => ?_) (fun h => absurd rfl h)
  exact kk ((f_deep r (xs (i + 1)) (xs (i + 2)) (xs (i + 3)) (xs (i + 4)) (xs (i + 5))).1) _ _ _ ⟨g1, C2, E2, hLV1, hCI.gx (Nat.le_succ _) hE (hM9.trans (hCI.1.trans (m_deep r (xs (i + 1)) (xs (i + 2)) (xs (i + 3)) (xs (i + 4)) (xs (i + 5))).symm)), hE.x, hR, hM, hS, ⟨hz.1, Nat.le_trans hz.2 (Nat.le_trans hz1 hz2)⟩, hl⟩
set_option maxHeartbeats 400000 in
set_option maxRecDepth 100000 in
theorem lw_share {p : Program} {l : Launch} {e : Env} {s : State} {m : MethodId} {below : List Frame} {meth : Method} {c : Code} {Q : State → Prop} {b L z0 z1 o1 : Nat} {xs : Nat → Int32} {D : va_G} {cy : Nat → ClassId} {G : Nat → Nat} (F : px_F p m c cL_law 4 s #[Value.ref b] RL) (hK : KK D cy s) (hX : va_X b L xs s s.heap) (hbl : b < s.heap.size) (hL : L ≤ 3584) {k i : Nat} {r : RS} {H : Heap} {locs : List Loc} {ls : Array Slot} (hW : LW D cy s b z0 z1 o1 G k i r H locs ls) (hk : k + 1 ≤ 512) (hi : i + 7 ≤ L) (kk : ∀ (r' : RS) (H' : Heap) (locs' : List Loc) (ls' : Array Slot), LW D cy s b z0 z1 o1 G (k + 1) i r' H' locs' ls' → W p l e room_1 s m #[Value.ref b] below meth c H' locs' (lC r') (lS r') Q (F0 m 1299 ls' [])) : W p l e room_1 s m #[Value.ref b] below meth c H locs (lC r) (lS r) Q (F0 m 266 ls []) := by
  obtain ⟨g, C, E, hLV, hCI, rfl, hR, hM, hS, hz, hl⟩ := hW
  have hx := F.1
  have hb := F.2.1
  have hI := hLV.inv
  have hV := hLV.2.2.2.2.1
  have hK9 := hLV.2.2.2.2.2.1
  have hbd := hLV.b
  refine lv_aload_n hx hb dL_law_266 rfl (lv_at hl 1 rfl) ?_
  refine lw_arg hx hb hX hbl hS hl (j := 1) (by omega) hL (by decide) dL_law_267 dL_law_268 dL_law_269 dL_law_270 dL_law_271 ?_
  refine lw_arg hx hb hX hbl hS hl (j := 2) (by omega) hL (by decide) dL_law_272 dL_law_273 dL_law_274 dL_law_275 dL_law_276 ?_
  have hsm := s_share hLV (xs (i + 1)) (xs (i + 2))
  have hLV1 : LV (k + 1) (f_share r (xs (i + 1)) (xs (i + 2))).1 := hLV.same hk hsm.1 hsm.2
  have hMN : MN r (f_share r (xs (i + 1)) (xs (i + 2))).1 := hsm.2.mn
  have rC := lC_room hLV1
  have rS9 := lS_room hLV1
  refine px_goQ2 (px_callV F hK (c_X5_share l D cy _ r g _ (xs (i + 1)) (xs (i + 2)) hI hV hK9) kc_X5_share kw_methodLink_RL_23 rfl hR (c_recv hK hR) rfl ⟨rfl, rfl⟩ ⟨Nat.le_of_ble_eq_true rfl, Nat.le_of_ble_eq_true rfl⟩ hl.1 rfl (Nat.le_of_ble_eq_true rfl) dL_law_277 ⟨lC_room hLV, lS_room hLV⟩) (aC_aL hz.1) hS (fun v H1 locs1 hp hz1 ho hS => ?_)
  obtain ⟨rfl, hR⟩ := hp
  have hM := MR.keep hM ho aM_aC
  refine W.widen (k := lC (f_share r (xs (i + 1)) (xs (i + 2))).1) (n := lS (f_share r (xs (i + 1)) (xs (i + 2))).1) (lC_le hMN) (lS_le hMN) ?_
  refine W.eq (g2 := F0 m 280 ls [.int (f_share r (xs (i + 1)) (xs (i + 2))).2]) rfl ?_
  refine lv_aload_n hx hb dL_law_280 rfl (lv_at hl 2 rfl) ?_
  refine lw_arg hx hb hX hbl hS hl (j := 1) (by omega) hL (by decide) dL_law_281 dL_law_282 dL_law_283 dL_law_284 dL_law_285 ?_
  refine lw_arg hx hb hX hbl hS hl (j := 2) (by omega) hL (by decide) dL_law_286 dL_law_287 dL_law_288 dL_law_289 dL_law_290 ?_
  refine px_goQ2 (px_callV F hK (c_X6_share l D cy _ G r C E _ (xs (i + 1)) (xs (i + 2)) hI) kc_X6_share kw_methodLink_RL_27 rfl hM (m_recv hK hM) rfl ⟨rfl, rfl⟩ ⟨Nat.le_of_ble_eq_true rfl, Nat.le_of_ble_eq_true rfl⟩ hl.1 rfl (Nat.le_of_ble_eq_true rfl) dL_law_291 ⟨rC, rS9⟩) (aM_aL hz.1.1) hS (fun v H2 locs2 hp hz2 ho hS => ?_)
  obtain ⟨rfl, C2, E2, hM⟩ := hp
  have hR := CR.keep hR ho aC_aM
  refine W.eq (g2 := F0 m 294 ls [.int (f_share r (xs (i + 1)) (xs (i + 2))).2, .int (f_share r (xs (i + 1)) (xs (i + 2))).2]) rfl ?_
  refine lv_icmp_eq (tgt := 1299) hx hb dL_law_294 (by decide) (fun _ => ?_) (fun h => absurd rfl h)
  exact kk ((f_share r (xs (i + 1)) (xs (i + 2))).1) _ _ _ ⟨g, C2, E2, hLV1, hCI.up (Nat.le_succ _) hsm.2.1 hsm.2.2.2, rfl, hR, hM, hS, ⟨hz.1, Nat.le_trans hz.2 (Nat.le_trans hz1 hz2)⟩, hl⟩
set_option maxHeartbeats 400000 in
set_option maxRecDepth 100000 in
theorem lw_aside {p : Program} {l : Launch} {e : Env} {s : State} {m : MethodId} {below : List Frame} {meth : Method} {c : Code} {Q : State → Prop} {b L z0 z1 o1 : Nat} {xs : Nat → Int32} {D : va_G} {cy : Nat → ClassId} {G : Nat → Nat} (F : px_F p m c cL_law 4 s #[Value.ref b] RL) (hK : KK D cy s) (hX : va_X b L xs s s.heap) (hbl : b < s.heap.size) (hL : L ≤ 3584) {k i : Nat} {r : RS} {H : Heap} {locs : List Loc} {ls : Array Slot} (hW : LW D cy s b z0 z1 o1 G k i r H locs ls) (hk : k + 1 ≤ 512) (hi : i + 7 ≤ L) (kk : ∀ (r' : RS) (H' : Heap) (locs' : List Loc) (ls' : Array Slot), LW D cy s b z0 z1 o1 G (k + 1) i r' H' locs' ls' → W p l e room_1 s m #[Value.ref b] below meth c H' locs' (lC r') (lS r') Q (F0 m 1299 ls' [])) : W p l e room_1 s m #[Value.ref b] below meth c H locs (lC r) (lS r) Q (F0 m 299 ls []) := by
  obtain ⟨g, C, E, hLV, hCI, rfl, hR, hM, hS, hz, hl⟩ := hW
  have hx := F.1
  have hb := F.2.1
  have hI := hLV.inv
  have hV := hLV.2.2.2.2.1
  have hK9 := hLV.2.2.2.2.2.1
  have hbd := hLV.b
  refine lv_aload_n hx hb dL_law_299 rfl (lv_at hl 1 rfl) ?_
  refine lw_arg hx hb hX hbl hS hl (j := 1) (by omega) hL (by decide) dL_law_300 dL_law_301 dL_law_302 dL_law_303 dL_law_304 ?_
  refine lw_arg hx hb hX hbl hS hl (j := 2) (by omega) hL (by decide) dL_law_305 dL_law_306 dL_law_307 dL_law_308 dL_law_309 ?_
  obtain ⟨hLV1, hMN⟩ := lv_aside hLV hk C (xs (i + 1)) (xs (i + 2))
  have rC := lC_room hLV1
  have rS9 := lS_room hLV1
  refine px_goQ2 (px_callV F hK (c_X5_aside l D cy _ r g _ C (xs (i + 1)) (xs (i + 2)) hI hV hK9 (fun q h => Or.inr (Nat.le_trans hz.2 h)) hCI) kc_X5_aside kw_methodLink_RL_28 rfl hR (c_recv hK hR) rfl ⟨rfl, rfl⟩ ⟨Nat.le_of_ble_eq_true rfl, Nat.le_of_ble_eq_true rfl⟩ hl.1 rfl (Nat.le_of_ble_eq_true rfl) dL_law_310 ⟨Nat.le_trans (lC_add hMN) rC, Nat.le_trans (lS_add hMN) rS9⟩) (aC_aL hz.1) hS (fun v H1 locs1 hp hz1 ho hS => ?_)
  obtain ⟨g1, rfl, hg1, hCI1, hR⟩ := hp
  have hM := MR.keep hM ho aM_aC
  refine W.widen (k := lC (f_aside r C (xs (i + 1)) (xs (i + 2))).1) (n := lS (f_aside r C (xs (i + 1)) (xs (i + 2))).1) (lC_add hMN) (lS_add hMN) ?_
  refine W.eq (g2 := F0 m 313 ls [.int (f_aside r C (xs (i + 1)) (xs (i + 2))).2]) rfl ?_
  refine lv_aload_n hx hb dL_law_313 rfl (lv_at hl 2 rfl) ?_
  refine lw_arg hx hb hX hbl hS hl (j := 1) (by omega) hL (by decide) dL_law_314 dL_law_315 dL_law_316 dL_law_317 dL_law_318 ?_
  refine lw_arg hx hb hX hbl hS hl (j := 2) (by omega) hL (by decide) dL_law_319 dL_law_320 dL_law_321 dL_law_322 dL_law_323 ?_
  refine px_goQ2 (px_callV F hK (c_X6_aside l D cy _ G r C E _ (xs (i + 1)) (xs (i + 2)) hI) kc_X6_aside kw_methodLink_RL_31 rfl hM (m_recv hK hM) rfl ⟨rfl, rfl⟩ ⟨Nat.le_of_ble_eq_true rfl, Nat.le_of_ble_eq_true rfl⟩ hl.1 rfl (Nat.le_of_ble_eq_true rfl) dL_law_324 ⟨rC, rS9⟩) (aM_aL hz.1.1) hS (fun v H2 locs2 hp hz2 ho hS => ?_)
  obtain ⟨rfl, C2, E2, hM⟩ := hp
  have hR := CR.keep hR ho aC_aM
  refine W.eq (g2 := F0 m 327 ls [.int (f_aside r C (xs (i + 1)) (xs (i + 2))).2, .int (f_aside r C (xs (i + 1)) (xs (i + 2))).2]) rfl ?_
  refine lv_icmp_eq (tgt := 1299) hx hb dL_law_327 (by decide) (fun _ => ?_) (fun h => absurd rfl h)
  exact kk ((f_aside r C (xs (i + 1)) (xs (i + 2))).1) _ _ _ ⟨g1, C2, E2, hLV1, hCI1, hg1, hR, hM, hS, ⟨hz.1, Nat.le_trans hz.2 (Nat.le_trans hz1 hz2)⟩, hl⟩
set_option maxHeartbeats 400000 in
set_option maxRecDepth 100000 in
theorem lw_drop {p : Program} {l : Launch} {e : Env} {s : State} {m : MethodId} {below : List Frame} {meth : Method} {c : Code} {Q : State → Prop} {b L z0 z1 o1 : Nat} {xs : Nat → Int32} {D : va_G} {cy : Nat → ClassId} {G : Nat → Nat} (F : px_F p m c cL_law 4 s #[Value.ref b] RL) (hK : KK D cy s) (hX : va_X b L xs s s.heap) (hbl : b < s.heap.size) (hL : L ≤ 3584) {k i : Nat} {r : RS} {H : Heap} {locs : List Loc} {ls : Array Slot} (hW : LW D cy s b z0 z1 o1 G k i r H locs ls) (hk : k + 1 ≤ 512) (hi : i + 7 ≤ L) (kk : ∀ (r' : RS) (H' : Heap) (locs' : List Loc) (ls' : Array Slot), LW D cy s b z0 z1 o1 G (k + 1) i r' H' locs' ls' → W p l e room_1 s m #[Value.ref b] below meth c H' locs' (lC r') (lS r') Q (F0 m 1299 ls' [])) : W p l e room_1 s m #[Value.ref b] below meth c H locs (lC r) (lS r) Q (F0 m 332 ls []) := by
  obtain ⟨g, C, E, hLV, hCI, rfl, hR, hM, hS, hz, hl⟩ := hW
  have hx := F.1
  have hb := F.2.1
  have hI := hLV.inv
  have hV := hLV.2.2.2.2.1
  have hK9 := hLV.2.2.2.2.2.1
  have hbd := hLV.b
  refine lv_aload_n hx hb dL_law_332 rfl (lv_at hl 1 rfl) ?_
  refine lw_arg hx hb hX hbl hS hl (j := 1) (by omega) hL (by decide) dL_law_333 dL_law_334 dL_law_335 dL_law_336 dL_law_337 ?_
  have hsm := s_drop hLV (xs (i + 1))
  have hLV1 : LV (k + 1) (f_drop r (xs (i + 1))).1 := hLV.same hk hsm.1 hsm.2
  have hMN : MN r (f_drop r (xs (i + 1))).1 := hsm.2.mn
  have rC := lC_room hLV1
  have rS9 := lS_room hLV1
  refine px_goQ2 (px_callV F hK (c_X5_drop l D cy _ r g _ (xs (i + 1)) hI hV hK9) kc_X5_drop kw_methodLink_RL_32 rfl hR (c_recv hK hR) rfl ⟨rfl, rfl⟩ ⟨Nat.le_of_ble_eq_true rfl, Nat.le_of_ble_eq_true rfl⟩ hl.1 rfl (Nat.le_of_ble_eq_true rfl) dL_law_338 ⟨lC_room hLV, lS_room hLV⟩) (aC_aL hz.1) hS (fun v H1 locs1 hp hz1 ho hS => ?_)
  obtain ⟨rfl, hR⟩ := hp
  have hM := MR.keep hM ho aM_aC
  refine W.widen (k := lC (f_drop r (xs (i + 1))).1) (n := lS (f_drop r (xs (i + 1))).1) (lC_le hMN) (lS_le hMN) ?_
  refine W.eq (g2 := F0 m 341 ls [.int (f_drop r (xs (i + 1))).2]) rfl ?_
  refine lv_aload_n hx hb dL_law_341 rfl (lv_at hl 2 rfl) ?_
  refine lw_arg hx hb hX hbl hS hl (j := 1) (by omega) hL (by decide) dL_law_342 dL_law_343 dL_law_344 dL_law_345 dL_law_346 ?_
  refine px_goQ2 (px_callV F hK (c_X6_drop l D cy _ G r C E _ (xs (i + 1)) hI) kc_X6_drop kw_methodLink_RL_36 rfl hM (m_recv hK hM) rfl ⟨rfl, rfl⟩ ⟨Nat.le_of_ble_eq_true rfl, Nat.le_of_ble_eq_true rfl⟩ hl.1 rfl (Nat.le_of_ble_eq_true rfl) dL_law_347 ⟨rC, rS9⟩) (aM_aL hz.1.1) hS (fun v H2 locs2 hp hz2 ho hS => ?_)
  obtain ⟨rfl, C2, E2, hM⟩ := hp
  have hR := CR.keep hR ho aC_aM
  refine W.eq (g2 := F0 m 350 ls [.int (f_drop r (xs (i + 1))).2, .int (f_drop r (xs (i + 1))).2]) rfl ?_
  refine lv_icmp_eq (tgt := 1299) hx hb dL_law_350 (by decide) (fun _ => ?_) (fun h => absurd rfl h)
  exact kk ((f_drop r (xs (i + 1))).1) _ _ _ ⟨g, C2, E2, hLV1, hCI.up (Nat.le_succ _) hsm.2.1 hsm.2.2.2, rfl, hR, hM, hS, ⟨hz.1, Nat.le_trans hz.2 (Nat.le_trans hz1 hz2)⟩, hl⟩
set_option maxHeartbeats 400000 in
set_option maxRecDepth 100000 in
theorem lw_kind {p : Program} {l : Launch} {e : Env} {s : State} {m : MethodId} {below : List Frame} {meth : Method} {c : Code} {Q : State → Prop} {b L z0 z1 o1 : Nat} {xs : Nat → Int32} {D : va_G} {cy : Nat → ClassId} {G : Nat → Nat} (F : px_F p m c cL_law 4 s #[Value.ref b] RL) (hK : KK D cy s) (hX : va_X b L xs s s.heap) (hbl : b < s.heap.size) (hL : L ≤ 3584) {k i : Nat} {r : RS} {H : Heap} {locs : List Loc} {ls : Array Slot} (hW : LW D cy s b z0 z1 o1 G k i r H locs ls) (hk : k + 1 ≤ 512) (hi : i + 7 ≤ L) (kk : ∀ (r' : RS) (H' : Heap) (locs' : List Loc) (ls' : Array Slot), LW D cy s b z0 z1 o1 G (k + 1) i r' H' locs' ls' → W p l e room_1 s m #[Value.ref b] below meth c H' locs' (lC r') (lS r') Q (F0 m 1299 ls' [])) : W p l e room_1 s m #[Value.ref b] below meth c H locs (lC r) (lS r) Q (F0 m 355 ls []) := by
  obtain ⟨g, C, E, hLV, hCI, rfl, hR, hM, hS, hz, hl⟩ := hW
  have hx := F.1
  have hb := F.2.1
  have hI := hLV.inv
  have hV := hLV.2.2.2.2.1
  have hK9 := hLV.2.2.2.2.2.1
  have hbd := hLV.b
  refine lv_aload_n hx hb dL_law_355 rfl (lv_at hl 1 rfl) ?_
  refine lw_arg hx hb hX hbl hS hl (j := 1) (by omega) hL (by decide) dL_law_356 dL_law_357 dL_law_358 dL_law_359 dL_law_360 ?_
  obtain ⟨hLV1, hMN⟩ : LV (k + 1) r ∧ MN r r := ⟨hLV.same hk hLV.2.2.2.2 (SM.rf r), MN.rf⟩
  have rC := lC_room hLV1
  have rS9 := lS_room hLV1
  refine px_goV (st1 := [.int (f_kind r (xs (i + 1)))]) (px_callV F hK (c_X5_kind l D cy _ r g _ (xs (i + 1)) hI hV hK9) kc_X5_kind kw_methodLink_RL_37 rfl hR (c_recv hK hR) rfl ⟨rfl, rfl⟩ ⟨Nat.le_of_ble_eq_true rfl, Nat.le_of_ble_eq_true rfl⟩ hl.1 rfl (Nat.le_of_ble_eq_true rfl) dL_law_361 ⟨lC_room hLV, lS_room hLV⟩) rfl ?_
  refine lv_aload_n hx hb dL_law_364 rfl (lv_at hl 2 rfl) ?_
  refine lw_arg hx hb hX hbl hS hl (j := 1) (by omega) hL (by decide) dL_law_365 dL_law_366 dL_law_367 dL_law_368 dL_law_369 ?_
  refine px_goV (st1 := [.int (f_kind r (xs (i + 1))), .int (f_kind r (xs (i + 1)))]) (px_callV F hK (c_X6_kind l D cy _ G r C E _ (xs (i + 1)) hI) kc_X6_kind kw_methodLink_RL_40 rfl hM (m_recv hK hM) rfl ⟨rfl, rfl⟩ ⟨Nat.le_of_ble_eq_true rfl, Nat.le_of_ble_eq_true rfl⟩ hl.1 rfl (Nat.le_of_ble_eq_true rfl) dL_law_370 ⟨rC, rS9⟩) rfl ?_
  refine lv_icmp_eq (tgt := 1299) hx hb dL_law_373 (by decide) (fun _ => ?_) (fun h => absurd rfl h)
  exact kk r _ _ _ ⟨g, C, E, hLV1, hCI.up (Nat.le_succ _) rfl rfl, rfl, hR, hM, hS, hz, hl⟩
set_option maxHeartbeats 400000 in
set_option maxRecDepth 100000 in
theorem lw_length {p : Program} {l : Launch} {e : Env} {s : State} {m : MethodId} {below : List Frame} {meth : Method} {c : Code} {Q : State → Prop} {b L z0 z1 o1 : Nat} {xs : Nat → Int32} {D : va_G} {cy : Nat → ClassId} {G : Nat → Nat} (F : px_F p m c cL_law 4 s #[Value.ref b] RL) (hK : KK D cy s) (hX : va_X b L xs s s.heap) (hbl : b < s.heap.size) (hL : L ≤ 3584) {k i : Nat} {r : RS} {H : Heap} {locs : List Loc} {ls : Array Slot} (hW : LW D cy s b z0 z1 o1 G k i r H locs ls) (hk : k + 1 ≤ 512) (hi : i + 7 ≤ L) (kk : ∀ (r' : RS) (H' : Heap) (locs' : List Loc) (ls' : Array Slot), LW D cy s b z0 z1 o1 G (k + 1) i r' H' locs' ls' → W p l e room_1 s m #[Value.ref b] below meth c H' locs' (lC r') (lS r') Q (F0 m 1299 ls' [])) : W p l e room_1 s m #[Value.ref b] below meth c H locs (lC r) (lS r) Q (F0 m 378 ls []) := by
  obtain ⟨g, C, E, hLV, hCI, rfl, hR, hM, hS, hz, hl⟩ := hW
  have hx := F.1
  have hb := F.2.1
  have hI := hLV.inv
  have hV := hLV.2.2.2.2.1
  have hK9 := hLV.2.2.2.2.2.1
  have hbd := hLV.b
  refine lv_aload_n hx hb dL_law_378 rfl (lv_at hl 1 rfl) ?_
  refine lw_arg hx hb hX hbl hS hl (j := 1) (by omega) hL (by decide) dL_law_379 dL_law_380 dL_law_381 dL_law_382 dL_law_383 ?_
  refine lw_arg hx hb hX hbl hS hl (j := 2) (by omega) hL (by decide) dL_law_384 dL_law_385 dL_law_386 dL_law_387 dL_law_388 ?_
  obtain ⟨hLV1, hMN⟩ : LV (k + 1) r ∧ MN r r := ⟨hLV.same hk hLV.2.2.2.2 (SM.rf r), MN.rf⟩
  have rC := lC_room hLV1
  have rS9 := lS_room hLV1
  refine px_goV (st1 := [.int (f_length r (xs (i + 1)) (xs (i + 2)))]) (px_callV F hK (c_X5_length l D cy _ r g _ (xs (i + 1)) (xs (i + 2)) hI hV hK9) kc_X5_length kw_methodLink_RL_41 rfl hR (c_recv hK hR) rfl ⟨rfl, rfl⟩ ⟨Nat.le_of_ble_eq_true rfl, Nat.le_of_ble_eq_true rfl⟩ hl.1 rfl (Nat.le_of_ble_eq_true rfl) dL_law_389 ⟨lC_room hLV, lS_room hLV⟩) rfl ?_
  refine lv_aload_n hx hb dL_law_392 rfl (lv_at hl 2 rfl) ?_
  refine lw_arg hx hb hX hbl hS hl (j := 1) (by omega) hL (by decide) dL_law_393 dL_law_394 dL_law_395 dL_law_396 dL_law_397 ?_
  refine lw_arg hx hb hX hbl hS hl (j := 2) (by omega) hL (by decide) dL_law_398 dL_law_399 dL_law_400 dL_law_401 dL_law_402 ?_
  refine px_goV (st1 := [.int (f_length r (xs (i + 1)) (xs (i + 2))), .int (f_length r (xs (i + 1)) (xs (i + 2)))]) (px_callV F hK (c_X6_length l D cy _ G r C E _ (xs (i + 1)) (xs (i + 2)) hI) kc_X6_length kw_methodLink_RL_44 rfl hM (m_recv hK hM) rfl ⟨rfl, rfl⟩ ⟨Nat.le_of_ble_eq_true rfl, Nat.le_of_ble_eq_true rfl⟩ hl.1 rfl (Nat.le_of_ble_eq_true rfl) dL_law_403 ⟨rC, rS9⟩) rfl ?_
  refine lv_icmp_eq (tgt := 1299) hx hb dL_law_406 (by decide) (fun _ => ?_) (fun h => absurd rfl h)
  exact kk r _ _ _ ⟨g, C, E, hLV1, hCI.up (Nat.le_succ _) rfl rfl, rfl, hR, hM, hS, hz, hl⟩
set_option maxHeartbeats 400000 in
set_option maxRecDepth 100000 in
theorem lw_read {p : Program} {l : Launch} {e : Env} {s : State} {m : MethodId} {below : List Frame} {meth : Method} {c : Code} {Q : State → Prop} {b L z0 z1 o1 : Nat} {xs : Nat → Int32} {D : va_G} {cy : Nat → ClassId} {G : Nat → Nat} (F : px_F p m c cL_law 4 s #[Value.ref b] RL) (hK : KK D cy s) (hX : va_X b L xs s s.heap) (hbl : b < s.heap.size) (hL : L ≤ 3584) {k i : Nat} {r : RS} {H : Heap} {locs : List Loc} {ls : Array Slot} (hW : LW D cy s b z0 z1 o1 G k i r H locs ls) (hk : k + 1 ≤ 512) (hi : i + 7 ≤ L) (kk : ∀ (r' : RS) (H' : Heap) (locs' : List Loc) (ls' : Array Slot), LW D cy s b z0 z1 o1 G (k + 1) i r' H' locs' ls' → W p l e room_1 s m #[Value.ref b] below meth c H' locs' (lC r') (lS r') Q (F0 m 1299 ls' [])) : W p l e room_1 s m #[Value.ref b] below meth c H locs (lC r) (lS r) Q (F0 m 411 ls []) := by
  obtain ⟨g, C, E, hLV, hCI, rfl, hR, hM, hS, hz, hl⟩ := hW
  have hx := F.1
  have hb := F.2.1
  have hI := hLV.inv
  have hV := hLV.2.2.2.2.1
  have hK9 := hLV.2.2.2.2.2.1
  have hbd := hLV.b
  refine lv_aload_n hx hb dL_law_411 rfl (lv_at hl 1 rfl) ?_
  refine lw_arg hx hb hX hbl hS hl (j := 1) (by omega) hL (by decide) dL_law_412 dL_law_413 dL_law_414 dL_law_415 dL_law_416 ?_
  refine lw_arg hx hb hX hbl hS hl (j := 2) (by omega) hL (by decide) dL_law_417 dL_law_418 dL_law_419 dL_law_420 dL_law_421 ?_
  refine lw_arg hx hb hX hbl hS hl (j := 3) (by omega) hL (by decide) dL_law_422 dL_law_423 dL_law_424 dL_law_425 dL_law_426 ?_
  have hsm := s_read hLV (xs (i + 1)) (xs (i + 2)) (xs (i + 3))
  have hLV1 : LV (k + 1) (f_read r (xs (i + 1)) (xs (i + 2)) (xs (i + 3))).1 := hLV.same hk hsm.1 hsm.2
  have hMN : MN r (f_read r (xs (i + 1)) (xs (i + 2)) (xs (i + 3))).1 := hsm.2.mn
  have rC := lC_room hLV1
  have rS9 := lS_room hLV1
  refine px_goQ2 (px_callV F hK (c_X5_read l D cy _ r g _ (xs (i + 1)) (xs (i + 2)) (xs (i + 3)) hI hV hK9) kc_X5_read kw_methodLink_RL_45 rfl hR (c_recv hK hR) rfl ⟨rfl, rfl⟩ ⟨Nat.le_of_ble_eq_true rfl, Nat.le_of_ble_eq_true rfl⟩ hl.1 rfl (Nat.le_of_ble_eq_true rfl) dL_law_427 ⟨lC_room hLV, lS_room hLV⟩) (aC_aL hz.1) hS (fun v H1 locs1 hp hz1 ho hS => ?_)
  obtain ⟨rfl, hR⟩ := hp
  have hM := MR.keep hM ho aM_aC
  refine W.widen (k := lC (f_read r (xs (i + 1)) (xs (i + 2)) (xs (i + 3))).1) (n := lS (f_read r (xs (i + 1)) (xs (i + 2)) (xs (i + 3))).1) (lC_le hMN) (lS_le hMN) ?_
  refine W.eq (g2 := F0 m 430 ls [.long (f_read r (xs (i + 1)) (xs (i + 2)) (xs (i + 3))).2]) rfl ?_
  refine lv_aload_n hx hb dL_law_430 rfl (lv_at hl 2 rfl) ?_
  refine lw_arg hx hb hX hbl hS hl (j := 1) (by omega) hL (by decide) dL_law_431 dL_law_432 dL_law_433 dL_law_434 dL_law_435 ?_
  refine lw_arg hx hb hX hbl hS hl (j := 2) (by omega) hL (by decide) dL_law_436 dL_law_437 dL_law_438 dL_law_439 dL_law_440 ?_
  refine lw_arg hx hb hX hbl hS hl (j := 3) (by omega) hL (by decide) dL_law_441 dL_law_442 dL_law_443 dL_law_444 dL_law_445 ?_
  refine px_goQ2 (px_callV F hK (c_X6_read l D cy _ G r C E _ (xs (i + 1)) (xs (i + 2)) (xs (i + 3)) hI) kc_X6_read kw_methodLink_RL_49 rfl hM (m_recv hK hM) rfl ⟨rfl, rfl⟩ ⟨Nat.le_of_ble_eq_true rfl, Nat.le_of_ble_eq_true rfl⟩ hl.1 rfl (Nat.le_of_ble_eq_true rfl) dL_law_446 ⟨rC, rS9⟩) (aM_aL hz.1.1) hS (fun v H2 locs2 hp hz2 ho hS => ?_)
  obtain ⟨rfl, C2, E2, hM⟩ := hp
  have hR := CR.keep hR ho aC_aM
  refine W.eq (g2 := F0 m 449 ls [.long (f_read r (xs (i + 1)) (xs (i + 2)) (xs (i + 3))).2, .long (f_read r (xs (i + 1)) (xs (i + 2)) (xs (i + 3))).2]) rfl ?_
  refine W.lcmp hx hb dL_law_449 ?_
  refine x_cmp_eq (tgt := 1299) hx hb dL_law_450 (by decide) (fun _ => ?_) (fun h => absurd rfl h)
  exact kk ((f_read r (xs (i + 1)) (xs (i + 2)) (xs (i + 3))).1) _ _ _ ⟨g, C2, E2, hLV1, hCI.up (Nat.le_succ _) hsm.2.1 hsm.2.2.2, rfl, hR, hM, hS, ⟨hz.1, Nat.le_trans hz.2 (Nat.le_trans hz1 hz2)⟩, hl⟩
set_option maxHeartbeats 400000 in
set_option maxRecDepth 100000 in
theorem lw_write {p : Program} {l : Launch} {e : Env} {s : State} {m : MethodId} {below : List Frame} {meth : Method} {c : Code} {Q : State → Prop} {b L z0 z1 o1 : Nat} {xs : Nat → Int32} {D : va_G} {cy : Nat → ClassId} {G : Nat → Nat} (F : px_F p m c cL_law 4 s #[Value.ref b] RL) (hK : KK D cy s) (hX : va_X b L xs s s.heap) (hbl : b < s.heap.size) (hL : L ≤ 3584) {k i : Nat} {r : RS} {H : Heap} {locs : List Loc} {ls : Array Slot} (hW : LW D cy s b z0 z1 o1 G k i r H locs ls) (hk : k + 1 ≤ 512) (hi : i + 7 ≤ L) (kk : ∀ (r' : RS) (H' : Heap) (locs' : List Loc) (ls' : Array Slot), LW D cy s b z0 z1 o1 G (k + 1) i r' H' locs' ls' → W p l e room_1 s m #[Value.ref b] below meth c H' locs' (lC r') (lS r') Q (F0 m 1299 ls' [])) : W p l e room_1 s m #[Value.ref b] below meth c H locs (lC r) (lS r) Q (F0 m 455 ls []) := by
  obtain ⟨g, C, E, hLV, hCI, rfl, hR, hM, hS, hz, hl⟩ := hW
  have hx := F.1
  have hb := F.2.1
  have hI := hLV.inv
  have hV := hLV.2.2.2.2.1
  have hK9 := hLV.2.2.2.2.2.1
  have hbd := hLV.b
  refine lv_aload_n hx hb dL_law_455 rfl (lv_at hl 1 rfl) ?_
  refine lw_arg hx hb hX hbl hS hl (j := 1) (by omega) hL (by decide) dL_law_456 dL_law_457 dL_law_458 dL_law_459 dL_law_460 ?_
  refine lw_arg hx hb hX hbl hS hl (j := 2) (by omega) hL (by decide) dL_law_461 dL_law_462 dL_law_463 dL_law_464 dL_law_465 ?_
  refine lw_arg hx hb hX hbl hS hl (j := 3) (by omega) hL (by decide) dL_law_466 dL_law_467 dL_law_468 dL_law_469 dL_law_470 ?_
  refine lw_arg hx hb hX hbl hS hl (j := 4) (by omega) hL (by decide) dL_law_471 dL_law_472 dL_law_473 dL_law_474 dL_law_475 ?_
  refine lv_i2l hx hb dL_law_476 rfl ?_
  refine lv_bipush (v := 32) hx hb dL_law_477 (by decide) ?_
  refine lv_lshl hx hb dL_law_479 rfl ?_
  refine lw_arg hx hb hX hbl hS hl (j := 5) (by omega) hL (by decide) dL_law_480 dL_law_481 dL_law_482 dL_law_483 dL_law_484 ?_
  refine lv_i2l hx hb dL_law_485 rfl ?_
  refine lv_ldc2 hx hb F.2.2.2.1 (F.2.2.2.2 _ kw_constantLong_RL_50) dL_law_486 ?_
  refine lv_land hx hb dL_law_489 ?_
  refine lv_lor hx hb dL_law_490 ?_
  have hsm := s_write hLV (xs (i + 1)) (xs (i + 2)) (xs (i + 3)) (lw_L (xs (i + 4)) (xs (i + 5)))
  have hLV1 : LV (k + 1) (f_write r (xs (i + 1)) (xs (i + 2)) (xs (i + 3)) (lw_L (xs (i + 4)) (xs (i + 5)))).1 := hLV.same hk hsm.1 hsm.2
  have hMN : MN r (f_write r (xs (i + 1)) (xs (i + 2)) (xs (i + 3)) (lw_L (xs (i + 4)) (xs (i + 5)))).1 := hsm.2.mn
  have rC := lC_room hLV1
  have rS9 := lS_room hLV1
  refine px_goQ2 (px_callV F hK (c_X5_write l D cy _ r g _ (xs (i + 1)) (xs (i + 2)) (xs (i + 3)) (lw_L (xs (i + 4)) (xs (i + 5))) hI hV hK9) kc_X5_write kw_methodLink_RL_52 rfl hR (c_recv hK hR) rfl ⟨rfl, rfl⟩ ⟨Nat.le_of_ble_eq_true rfl, Nat.le_of_ble_eq_true rfl⟩ hl.1 rfl (Nat.le_of_ble_eq_true rfl) dL_law_491 ⟨lC_room hLV, lS_room hLV⟩) (aC_aL hz.1) hS (fun v H1 locs1 hp hz1 ho hS => ?_)
  obtain ⟨rfl, hR⟩ := hp
  have hM := MR.keep hM ho aM_aC
  refine W.widen (k := lC (f_write r (xs (i + 1)) (xs (i + 2)) (xs (i + 3)) (lw_L (xs (i + 4)) (xs (i + 5)))).1) (n := lS (f_write r (xs (i + 1)) (xs (i + 2)) (xs (i + 3)) (lw_L (xs (i + 4)) (xs (i + 5)))).1) (lC_le hMN) (lS_le hMN) ?_
  refine W.eq (g2 := F0 m 494 ls [.int (f_write r (xs (i + 1)) (xs (i + 2)) (xs (i + 3)) (lw_L (xs (i + 4)) (xs (i + 5)))).2]) rfl ?_
  refine lv_aload_n hx hb dL_law_494 rfl (lv_at hl 2 rfl) ?_
  refine lw_arg hx hb hX hbl hS hl (j := 1) (by omega) hL (by decide) dL_law_495 dL_law_496 dL_law_497 dL_law_498 dL_law_499 ?_
  refine lw_arg hx hb hX hbl hS hl (j := 2) (by omega) hL (by decide) dL_law_500 dL_law_501 dL_law_502 dL_law_503 dL_law_504 ?_
  refine lw_arg hx hb hX hbl hS hl (j := 3) (by omega) hL (by decide) dL_law_505 dL_law_506 dL_law_507 dL_law_508 dL_law_509 ?_
  refine lw_arg hx hb hX hbl hS hl (j := 4) (by omega) hL (by decide) dL_law_510 dL_law_511 dL_law_512 dL_law_513 dL_law_514 ?_
  refine lv_i2l hx hb dL_law_515 rfl ?_
  refine lv_bipush (v := 32) hx hb dL_law_516 (by decide) ?_
  refine lv_lshl hx hb dL_law_518 rfl ?_
  refine lw_arg hx hb hX hbl hS hl (j := 5) (by omega) hL (by decide) dL_law_519 dL_law_520 dL_law_521 dL_law_522 dL_law_523 ?_
  refine lv_i2l hx hb dL_law_524 rfl ?_
  refine lv_ldc2 hx hb F.2.2.2.1 (F.2.2.2.2 _ kw_constantLong_RL_50) dL_law_525 ?_
  refine lv_land hx hb dL_law_528 ?_
  refine lv_lor hx hb dL_law_529 ?_
  refine px_goQ2 (px_callV F hK (c_X6_write l D cy _ G r C E _ (xs (i + 1)) (xs (i + 2)) (xs (i + 3)) (lw_L (xs (i + 4)) (xs (i + 5))) hI) kc_X6_write kw_methodLink_RL_56 rfl hM (m_recv hK hM) rfl ⟨rfl, rfl⟩ ⟨Nat.le_of_ble_eq_true rfl, Nat.le_of_ble_eq_true rfl⟩ hl.1 rfl (Nat.le_of_ble_eq_true rfl) dL_law_530 ⟨rC, rS9⟩) (aM_aL hz.1.1) hS (fun v H2 locs2 hp hz2 ho hS => ?_)
  obtain ⟨rfl, C2, E2, hM⟩ := hp
  have hR := CR.keep hR ho aC_aM
  refine W.eq (g2 := F0 m 533 ls [.int (f_write r (xs (i + 1)) (xs (i + 2)) (xs (i + 3)) (lw_L (xs (i + 4)) (xs (i + 5)))).2, .int (f_write r (xs (i + 1)) (xs (i + 2)) (xs (i + 3)) (lw_L (xs (i + 4)) (xs (i + 5)))).2]) rfl ?_
  refine lv_icmp_eq (tgt := 1299) hx hb dL_law_533 (by decide) (fun _ => ?_) (fun h => absurd rfl h)
  exact kk ((f_write r (xs (i + 1)) (xs (i + 2)) (xs (i + 3)) (lw_L (xs (i + 4)) (xs (i + 5)))).1) _ _ _ ⟨g, C2, E2, hLV1, hCI.up (Nat.le_succ _) hsm.2.1 hsm.2.2.2, rfl, hR, hM, hS, ⟨hz.1, Nat.le_trans hz.2 (Nat.le_trans hz1 hz2)⟩, hl⟩
set_option maxHeartbeats 400000 in
set_option maxRecDepth 100000 in
theorem lw_thing {p : Program} {l : Launch} {e : Env} {s : State} {m : MethodId} {below : List Frame} {meth : Method} {c : Code} {Q : State → Prop} {b L z0 z1 o1 : Nat} {xs : Nat → Int32} {D : va_G} {cy : Nat → ClassId} {G : Nat → Nat} (F : px_F p m c cL_law 4 s #[Value.ref b] RL) (hK : KK D cy s) (hX : va_X b L xs s s.heap) (hbl : b < s.heap.size) (hL : L ≤ 3584) {k i : Nat} {r : RS} {H : Heap} {locs : List Loc} {ls : Array Slot} (hW : LW D cy s b z0 z1 o1 G k i r H locs ls) (hk : k + 1 ≤ 512) (hi : i + 7 ≤ L) (kk : ∀ (r' : RS) (H' : Heap) (locs' : List Loc) (ls' : Array Slot), LW D cy s b z0 z1 o1 G (k + 1) i r' H' locs' ls' → W p l e room_1 s m #[Value.ref b] below meth c H' locs' (lC r') (lS r') Q (F0 m 1299 ls' [])) : W p l e room_1 s m #[Value.ref b] below meth c H locs (lC r) (lS r) Q (F0 m 538 ls []) := by
  obtain ⟨g, C, E, hLV, hCI, rfl, hR, hM, hS, hz, hl⟩ := hW
  have hx := F.1
  have hb := F.2.1
  have hI := hLV.inv
  have hV := hLV.2.2.2.2.1
  have hK9 := hLV.2.2.2.2.2.1
  have hbd := hLV.b
  refine lv_aload_n hx hb dL_law_538 rfl (lv_at hl 1 rfl) ?_
  refine lw_arg hx hb hX hbl hS hl (j := 1) (by omega) hL (by decide) dL_law_539 dL_law_540 dL_law_541 dL_law_542 dL_law_543 ?_
  refine lw_arg hx hb hX hbl hS hl (j := 2) (by omega) hL (by decide) dL_law_544 dL_law_545 dL_law_546 dL_law_547 dL_law_548 ?_
  refine lw_arg hx hb hX hbl hS hl (j := 3) (by omega) hL (by decide) dL_law_549 dL_law_550 dL_law_551 dL_law_552 dL_law_553 ?_
  refine lw_arg hx hb hX hbl hS hl (j := 4) (by omega) hL (by decide) dL_law_554 dL_law_555 dL_law_556 dL_law_557 dL_law_558 ?_
  obtain ⟨hLV1, hMN⟩ := lv_thing hLV hk (xs (i + 1)) (xs (i + 2)) (xs (i + 3)) (xs (i + 4))
  have rC := lC_room hLV1
  have rS9 := lS_room hLV1
  refine px_goQ2 (px_callV F hK (c_X5_thing l D cy _ r g _ (xs (i + 1)) (xs (i + 2)) (xs (i + 3)) (xs (i + 4)) hI hV hK9 (fun q h => Or.inr (Nat.le_trans hz.2 h)) hCI.1) kc_X5_thing kw_methodLink_RL_57 rfl hR (c_recv hK hR) rfl ⟨rfl, rfl⟩ ⟨Nat.le_of_ble_eq_true rfl, Nat.le_of_ble_eq_true rfl⟩ hl.1 rfl (Nat.le_of_ble_eq_true rfl) dL_law_559 ⟨Nat.le_trans (lC_add hMN) rC, Nat.le_trans (lS_add hMN) rS9⟩) (aC_aL hz.1) hS (fun v H1 locs1 hp hz1 ho hS => ?_)
  obtain ⟨g1, rfl, hE, hM9, hR⟩ := hp
  have hM := MR.keep hM ho aM_aC
  refine W.widen (k := lC (f_thing r (xs (i + 1)) (xs (i + 2)) (xs (i + 3)) (xs (i + 4))).1) (n := lS (f_thing r (xs (i + 1)) (xs (i + 2)) (xs (i + 3)) (xs (i + 4))).1) (lC_add hMN) (lS_add hMN) ?_
  refine W.eq (g2 := F0 m 562 ls [.int (f_thing r (xs (i + 1)) (xs (i + 2)) (xs (i + 3)) (xs (i + 4))).2]) rfl ?_
  refine lv_aload_n hx hb dL_law_562 rfl (lv_at hl 2 rfl) ?_
  refine lw_arg hx hb hX hbl hS hl (j := 1) (by omega) hL (by decide) dL_law_563 dL_law_564 dL_law_565 dL_law_566 dL_law_567 ?_
  refine lw_arg hx hb hX hbl hS hl (j := 2) (by omega) hL (by decide) dL_law_568 dL_law_569 dL_law_570 dL_law_571 dL_law_572 ?_
  refine lw_arg hx hb hX hbl hS hl (j := 3) (by omega) hL (by decide) dL_law_573 dL_law_574 dL_law_575 dL_law_576 dL_law_577 ?_
  refine lw_arg hx hb hX hbl hS hl (j := 4) (by omega) hL (by decide) dL_law_578 dL_law_579 dL_law_580 dL_law_581 dL_law_582 ?_
  refine px_goQ2 (px_callV F hK (c_X6_thing l D cy _ G r C E _ (xs (i + 1)) (xs (i + 2)) (xs (i + 3)) (xs (i + 4)) hI) kc_X6_thing kw_methodLink_RL_61 rfl hM (m_recv hK hM) rfl ⟨rfl, rfl⟩ ⟨Nat.le_of_ble_eq_true rfl, Nat.le_of_ble_eq_true rfl⟩ hl.1 rfl (Nat.le_of_ble_eq_true rfl) dL_law_583 ⟨rC, rS9⟩) (aM_aL hz.1.1) hS (fun v H2 locs2 hp hz2 ho hS => ?_)
  obtain ⟨rfl, C2, E2, hM⟩ := hp
  have hR := CR.keep hR ho aC_aM
  refine W.eq (g2 := F0 m 586 ls [.int (f_thing r (xs (i + 1)) (xs (i + 2)) (xs (i + 3)) (xs (i + 4))).2, .int (f_thing r (xs (i + 1)) (xs (i + 2)) (xs (i + 3)) (xs (i + 4))).2]) rfl ?_
  refine lv_icmp_eq (tgt := 1299) hx hb dL_law_586 (by decide) (fun _ => ?_) (fun h => absurd rfl h)
  exact kk ((f_thing r (xs (i + 1)) (xs (i + 2)) (xs (i + 3)) (xs (i + 4))).1) _ _ _ ⟨g1, C2, E2, hLV1, hCI.gx (Nat.le_succ _) hE hM9, hE.x, hR, hM, hS, ⟨hz.1, Nat.le_trans hz.2 (Nat.le_trans hz1 hz2)⟩, hl⟩
set_option maxHeartbeats 400000 in
set_option maxRecDepth 100000 in
theorem lw_marked {p : Program} {l : Launch} {e : Env} {s : State} {m : MethodId} {below : List Frame} {meth : Method} {c : Code} {Q : State → Prop} {b L z0 z1 o1 : Nat} {xs : Nat → Int32} {D : va_G} {cy : Nat → ClassId} {G : Nat → Nat} (F : px_F p m c cL_law 4 s #[Value.ref b] RL) (hK : KK D cy s) (hX : va_X b L xs s s.heap) (hbl : b < s.heap.size) (hL : L ≤ 3584) {k i : Nat} {r : RS} {H : Heap} {locs : List Loc} {ls : Array Slot} (hW : LW D cy s b z0 z1 o1 G k i r H locs ls) (hk : k + 1 ≤ 512) (hi : i + 7 ≤ L) (kk : ∀ (r' : RS) (H' : Heap) (locs' : List Loc) (ls' : Array Slot), LW D cy s b z0 z1 o1 G (k + 1) i r' H' locs' ls' → W p l e room_1 s m #[Value.ref b] below meth c H' locs' (lC r') (lS r') Q (F0 m 1299 ls' [])) : W p l e room_1 s m #[Value.ref b] below meth c H locs (lC r) (lS r) Q (F0 m 591 ls []) := by
  obtain ⟨g, C, E, hLV, hCI, rfl, hR, hM, hS, hz, hl⟩ := hW
  have hx := F.1
  have hb := F.2.1
  have hI := hLV.inv
  have hV := hLV.2.2.2.2.1
  have hK9 := hLV.2.2.2.2.2.1
  have hbd := hLV.b
  refine lv_aload_n hx hb dL_law_591 rfl (lv_at hl 1 rfl) ?_
  refine lw_arg hx hb hX hbl hS hl (j := 1) (by omega) hL (by decide) dL_law_592 dL_law_593 dL_law_594 dL_law_595 dL_law_596 ?_
  refine lw_arg hx hb hX hbl hS hl (j := 2) (by omega) hL (by decide) dL_law_597 dL_law_598 dL_law_599 dL_law_600 dL_law_601 ?_
  obtain ⟨hLV1, hMN⟩ : LV (k + 1) r ∧ MN r r := ⟨hLV.same hk hLV.2.2.2.2 (SM.rf r), MN.rf⟩
  have rC := lC_room hLV1
  have rS9 := lS_room hLV1
  refine px_goV (st1 := [.int (f_marked r (xs (i + 1)) (xs (i + 2)))]) (px_callV F hK (c_X5_marked l D cy _ r g _ (xs (i + 1)) (xs (i + 2)) hI hV hK9) kc_X5_marked kw_methodLink_RL_62 rfl hR (c_recv hK hR) rfl ⟨rfl, rfl⟩ ⟨Nat.le_of_ble_eq_true rfl, Nat.le_of_ble_eq_true rfl⟩ hl.1 rfl (Nat.le_of_ble_eq_true rfl) dL_law_602 ⟨lC_room hLV, lS_room hLV⟩) rfl ?_
  refine lv_aload_n hx hb dL_law_605 rfl (lv_at hl 2 rfl) ?_
  refine lw_arg hx hb hX hbl hS hl (j := 1) (by omega) hL (by decide) dL_law_606 dL_law_607 dL_law_608 dL_law_609 dL_law_610 ?_
  refine lw_arg hx hb hX hbl hS hl (j := 2) (by omega) hL (by decide) dL_law_611 dL_law_612 dL_law_613 dL_law_614 dL_law_615 ?_
  refine px_goV (st1 := [.int (f_marked r (xs (i + 1)) (xs (i + 2))), .int (f_marked r (xs (i + 1)) (xs (i + 2)))]) (px_callV F hK (c_X6_marked l D cy _ G r C E _ (xs (i + 1)) (xs (i + 2)) hI) kc_X6_marked kw_methodLink_RL_65 rfl hM (m_recv hK hM) rfl ⟨rfl, rfl⟩ ⟨Nat.le_of_ble_eq_true rfl, Nat.le_of_ble_eq_true rfl⟩ hl.1 rfl (Nat.le_of_ble_eq_true rfl) dL_law_616 ⟨rC, rS9⟩) rfl ?_
  refine lv_icmp_eq (tgt := 1299) hx hb dL_law_619 (by decide) (fun _ => ?_) (fun h => absurd rfl h)
  exact kk r _ _ _ ⟨g, C, E, hLV1, hCI.up (Nat.le_succ _) rfl rfl, rfl, hR, hM, hS, hz, hl⟩
set_option maxHeartbeats 400000 in
set_option maxRecDepth 100000 in
theorem lw_cell {p : Program} {l : Launch} {e : Env} {s : State} {m : MethodId} {below : List Frame} {meth : Method} {c : Code} {Q : State → Prop} {b L z0 z1 o1 : Nat} {xs : Nat → Int32} {D : va_G} {cy : Nat → ClassId} {G : Nat → Nat} (F : px_F p m c cL_law 4 s #[Value.ref b] RL) (hK : KK D cy s) (hX : va_X b L xs s s.heap) (hbl : b < s.heap.size) (hL : L ≤ 3584) {k i : Nat} {r : RS} {H : Heap} {locs : List Loc} {ls : Array Slot} (hW : LW D cy s b z0 z1 o1 G k i r H locs ls) (hk : k + 1 ≤ 512) (hi : i + 7 ≤ L) (kk : ∀ (r' : RS) (H' : Heap) (locs' : List Loc) (ls' : Array Slot), LW D cy s b z0 z1 o1 G (k + 1) i r' H' locs' ls' → W p l e room_1 s m #[Value.ref b] below meth c H' locs' (lC r') (lS r') Q (F0 m 1299 ls' [])) : W p l e room_1 s m #[Value.ref b] below meth c H locs (lC r) (lS r) Q (F0 m 624 ls []) := by
  obtain ⟨g, C, E, hLV, hCI, rfl, hR, hM, hS, hz, hl⟩ := hW
  have hx := F.1
  have hb := F.2.1
  have hI := hLV.inv
  have hV := hLV.2.2.2.2.1
  have hK9 := hLV.2.2.2.2.2.1
  have hbd := hLV.b
  refine lv_aload_n hx hb dL_law_624 rfl (lv_at hl 1 rfl) ?_
  refine lw_arg hx hb hX hbl hS hl (j := 1) (by omega) hL (by decide) dL_law_625 dL_law_626 dL_law_627 dL_law_628 dL_law_629 ?_
  refine lw_arg hx hb hX hbl hS hl (j := 2) (by omega) hL (by decide) dL_law_630 dL_law_631 dL_law_632 dL_law_633 dL_law_634 ?_
  refine lw_arg hx hb hX hbl hS hl (j := 3) (by omega) hL (by decide) dL_law_635 dL_law_636 dL_law_637 dL_law_638 dL_law_639 ?_
  refine lw_arg hx hb hX hbl hS hl (j := 4) (by omega) hL (by decide) dL_law_640 dL_law_641 dL_law_642 dL_law_643 dL_law_644 ?_
  have hsm := s_cell hLV (xs (i + 1)) (xs (i + 2)) (xs (i + 3)) (xs (i + 4))
  have hLV1 : LV (k + 1) (f_cell r (xs (i + 1)) (xs (i + 2)) (xs (i + 3)) (xs (i + 4))).1 := hLV.same hk hsm.1 hsm.2
  have hMN : MN r (f_cell r (xs (i + 1)) (xs (i + 2)) (xs (i + 3)) (xs (i + 4))).1 := hsm.2.mn
  have rC := lC_room hLV1
  have rS9 := lS_room hLV1
  refine px_goQ2 (px_callV F hK (c_X5_cell l D cy _ r g _ (xs (i + 1)) (xs (i + 2)) (xs (i + 3)) (xs (i + 4)) hI hV hK9) kc_X5_cell kw_methodLink_RL_66 rfl hR (c_recv hK hR) rfl ⟨rfl, rfl⟩ ⟨Nat.le_of_ble_eq_true rfl, Nat.le_of_ble_eq_true rfl⟩ hl.1 rfl (Nat.le_of_ble_eq_true rfl) dL_law_645 ⟨lC_room hLV, lS_room hLV⟩) (aC_aL hz.1) hS (fun v H1 locs1 hp hz1 ho hS => ?_)
  obtain ⟨rfl, hR⟩ := hp
  have hM := MR.keep hM ho aM_aC
  refine W.widen (k := lC (f_cell r (xs (i + 1)) (xs (i + 2)) (xs (i + 3)) (xs (i + 4))).1) (n := lS (f_cell r (xs (i + 1)) (xs (i + 2)) (xs (i + 3)) (xs (i + 4))).1) (lC_le hMN) (lS_le hMN) ?_
  refine W.eq (g2 := F0 m 648 ls [.long (f_cell r (xs (i + 1)) (xs (i + 2)) (xs (i + 3)) (xs (i + 4))).2]) rfl ?_
  refine lv_aload_n hx hb dL_law_648 rfl (lv_at hl 2 rfl) ?_
  refine lw_arg hx hb hX hbl hS hl (j := 1) (by omega) hL (by decide) dL_law_649 dL_law_650 dL_law_651 dL_law_652 dL_law_653 ?_
  refine lw_arg hx hb hX hbl hS hl (j := 2) (by omega) hL (by decide) dL_law_654 dL_law_655 dL_law_656 dL_law_657 dL_law_658 ?_
  refine lw_arg hx hb hX hbl hS hl (j := 3) (by omega) hL (by decide) dL_law_659 dL_law_660 dL_law_661 dL_law_662 dL_law_663 ?_
  refine lw_arg hx hb hX hbl hS hl (j := 4) (by omega) hL (by decide) dL_law_664 dL_law_665 dL_law_666 dL_law_667 dL_law_668 ?_
  refine px_goQ2 (px_callV F hK (c_X6_cell l D cy _ G r C E _ (xs (i + 1)) (xs (i + 2)) (xs (i + 3)) (xs (i + 4)) hI) kc_X6_cell kw_methodLink_RL_70 rfl hM (m_recv hK hM) rfl ⟨rfl, rfl⟩ ⟨Nat.le_of_ble_eq_true rfl, Nat.le_of_ble_eq_true rfl⟩ hl.1 rfl (Nat.le_of_ble_eq_true rfl) dL_law_669 ⟨rC, rS9⟩) (aM_aL hz.1.1) hS (fun v H2 locs2 hp hz2 ho hS => ?_)
  obtain ⟨rfl, C2, E2, hM⟩ := hp
  have hR := CR.keep hR ho aC_aM
  refine W.eq (g2 := F0 m 672 ls [.long (f_cell r (xs (i + 1)) (xs (i + 2)) (xs (i + 3)) (xs (i + 4))).2, .long (f_cell r (xs (i + 1)) (xs (i + 2)) (xs (i + 3)) (xs (i + 4))).2]) rfl ?_
  refine W.lcmp hx hb dL_law_672 ?_
  refine x_cmp_eq (tgt := 1299) hx hb dL_law_673 (by decide) (fun _ => ?_) (fun h => absurd rfl h)
  exact kk ((f_cell r (xs (i + 1)) (xs (i + 2)) (xs (i + 3)) (xs (i + 4))).1) _ _ _ ⟨g, C2, E2, hLV1, hCI.up (Nat.le_succ _) hsm.2.1 hsm.2.2.2, rfl, hR, hM, hS, ⟨hz.1, Nat.le_trans hz.2 (Nat.le_trans hz1 hz2)⟩, hl⟩
set_option maxHeartbeats 400000 in
set_option maxRecDepth 100000 in
theorem lw_set {p : Program} {l : Launch} {e : Env} {s : State} {m : MethodId} {below : List Frame} {meth : Method} {c : Code} {Q : State → Prop} {b L z0 z1 o1 : Nat} {xs : Nat → Int32} {D : va_G} {cy : Nat → ClassId} {G : Nat → Nat} (F : px_F p m c cL_law 4 s #[Value.ref b] RL) (hK : KK D cy s) (hX : va_X b L xs s s.heap) (hbl : b < s.heap.size) (hL : L ≤ 3584) {k i : Nat} {r : RS} {H : Heap} {locs : List Loc} {ls : Array Slot} (hW : LW D cy s b z0 z1 o1 G k i r H locs ls) (hk : k + 1 ≤ 512) (hi : i + 7 ≤ L) (kk : ∀ (r' : RS) (H' : Heap) (locs' : List Loc) (ls' : Array Slot), LW D cy s b z0 z1 o1 G (k + 1) i r' H' locs' ls' → W p l e room_1 s m #[Value.ref b] below meth c H' locs' (lC r') (lS r') Q (F0 m 1299 ls' [])) : W p l e room_1 s m #[Value.ref b] below meth c H locs (lC r) (lS r) Q (F0 m 678 ls []) := by
  obtain ⟨g, C, E, hLV, hCI, rfl, hR, hM, hS, hz, hl⟩ := hW
  have hx := F.1
  have hb := F.2.1
  have hI := hLV.inv
  have hV := hLV.2.2.2.2.1
  have hK9 := hLV.2.2.2.2.2.1
  have hbd := hLV.b
  refine lv_aload_n hx hb dL_law_678 rfl (lv_at hl 1 rfl) ?_
  refine lw_arg hx hb hX hbl hS hl (j := 1) (by omega) hL (by decide) dL_law_679 dL_law_680 dL_law_681 dL_law_682 dL_law_683 ?_
  refine lw_arg hx hb hX hbl hS hl (j := 2) (by omega) hL (by decide) dL_law_684 dL_law_685 dL_law_686 dL_law_687 dL_law_688 ?_
  refine lw_arg hx hb hX hbl hS hl (j := 3) (by omega) hL (by decide) dL_law_689 dL_law_690 dL_law_691 dL_law_692 dL_law_693 ?_
  refine lw_arg hx hb hX hbl hS hl (j := 4) (by omega) hL (by decide) dL_law_694 dL_law_695 dL_law_696 dL_law_697 dL_law_698 ?_
  refine lw_arg hx hb hX hbl hS hl (j := 5) (by omega) hL (by decide) dL_law_699 dL_law_700 dL_law_701 dL_law_702 dL_law_703 ?_
  refine lv_i2l hx hb dL_law_704 rfl ?_
  refine lv_bipush (v := 32) hx hb dL_law_705 (by decide) ?_
  refine lv_lshl hx hb dL_law_707 rfl ?_
  refine lw_arg6 hx hb hX hbl hS hl (j := 6) (by omega) hL (by decide) dL_law_708 dL_law_709 dL_law_710 dL_law_712 dL_law_713 ?_
  refine lv_i2l hx hb dL_law_714 rfl ?_
  refine lv_ldc2 hx hb F.2.2.2.1 (F.2.2.2.2 _ kw_constantLong_RL_50) dL_law_715 ?_
  refine lv_land hx hb dL_law_718 ?_
  refine lv_lor hx hb dL_law_719 ?_
  have hsm := s_set hLV (xs (i + 1)) (xs (i + 2)) (xs (i + 3)) (xs (i + 4)) (lw_L (xs (i + 5)) (xs (i + 6)))
  have hLV1 : LV (k + 1) (f_set r (xs (i + 1)) (xs (i + 2)) (xs (i + 3)) (xs (i + 4)) (lw_L (xs (i + 5)) (xs (i + 6)))).1 := hLV.same hk hsm.1 hsm.2
  have hMN : MN r (f_set r (xs (i + 1)) (xs (i + 2)) (xs (i + 3)) (xs (i + 4)) (lw_L (xs (i + 5)) (xs (i + 6)))).1 := hsm.2.mn
  have rC := lC_room hLV1
  have rS9 := lS_room hLV1
  refine px_goQ2 (px_callV F hK (c_X5_set l D cy _ r g _ (xs (i + 1)) (xs (i + 2)) (xs (i + 3)) (xs (i + 4)) (lw_L (xs (i + 5)) (xs (i + 6))) hI hV hK9) kc_X5_set kw_methodLink_RL_71 rfl hR (c_recv hK hR) rfl ⟨rfl, rfl⟩ ⟨Nat.le_of_ble_eq_true rfl, Nat.le_of_ble_eq_true rfl⟩ hl.1 rfl (Nat.le_of_ble_eq_true rfl) dL_law_720 ⟨lC_room hLV, lS_room hLV⟩) (aC_aL hz.1) hS (fun v H1 locs1 hp hz1 ho hS => ?_)
  obtain ⟨rfl, hR⟩ := hp
  have hM := MR.keep hM ho aM_aC
  refine W.widen (k := lC (f_set r (xs (i + 1)) (xs (i + 2)) (xs (i + 3)) (xs (i + 4)) (lw_L (xs (i + 5)) (xs (i + 6)))).1) (n := lS (f_set r (xs (i + 1)) (xs (i + 2)) (xs (i + 3)) (xs (i + 4)) (lw_L (xs (i + 5)) (xs (i + 6)))).1) (lC_le hMN) (lS_le hMN) ?_
  refine W.eq (g2 := F0 m 723 ls [.int (f_set r (xs (i + 1)) (xs (i + 2)) (xs (i + 3)) (xs (i + 4)) (lw_L (xs (i + 5)) (xs (i + 6)))).2]) rfl ?_
  refine lv_aload_n hx hb dL_law_723 rfl (lv_at hl 2 rfl) ?_
  refine lw_arg hx hb hX hbl hS hl (j := 1) (by omega) hL (by decide) dL_law_724 dL_law_725 dL_law_726 dL_law_727 dL_law_728 ?_
  refine lw_arg hx hb hX hbl hS hl (j := 2) (by omega) hL (by decide) dL_law_729 dL_law_730 dL_law_731 dL_law_732 dL_law_733 ?_
  refine lw_arg hx hb hX hbl hS hl (j := 3) (by omega) hL (by decide) dL_law_734 dL_law_735 dL_law_736 dL_law_737 dL_law_738 ?_
  refine lw_arg hx hb hX hbl hS hl (j := 4) (by omega) hL (by decide) dL_law_739 dL_law_740 dL_law_741 dL_law_742 dL_law_743 ?_
  refine lw_arg hx hb hX hbl hS hl (j := 5) (by omega) hL (by decide) dL_law_744 dL_law_745 dL_law_746 dL_law_747 dL_law_748 ?_
  refine lv_i2l hx hb dL_law_749 rfl ?_
  refine lv_bipush (v := 32) hx hb dL_law_750 (by decide) ?_
  refine lv_lshl hx hb dL_law_752 rfl ?_
  refine lw_arg6 hx hb hX hbl hS hl (j := 6) (by omega) hL (by decide) dL_law_753 dL_law_754 dL_law_755 dL_law_757 dL_law_758 ?_
  refine lv_i2l hx hb dL_law_759 rfl ?_
  refine lv_ldc2 hx hb F.2.2.2.1 (F.2.2.2.2 _ kw_constantLong_RL_50) dL_law_760 ?_
  refine lv_land hx hb dL_law_763 ?_
  refine lv_lor hx hb dL_law_764 ?_
  refine px_goQ2 (px_callV F hK (c_X6_set l D cy _ G r C E _ (xs (i + 1)) (xs (i + 2)) (xs (i + 3)) (xs (i + 4)) (lw_L (xs (i + 5)) (xs (i + 6))) hI) kc_X6_set kw_methodLink_RL_75 rfl hM (m_recv hK hM) rfl ⟨rfl, rfl⟩ ⟨Nat.le_of_ble_eq_true rfl, Nat.le_of_ble_eq_true rfl⟩ hl.1 rfl (Nat.le_of_ble_eq_true rfl) dL_law_765 ⟨rC, rS9⟩) (aM_aL hz.1.1) hS (fun v H2 locs2 hp hz2 ho hS => ?_)
  obtain ⟨rfl, C2, E2, hM⟩ := hp
  have hR := CR.keep hR ho aC_aM
  refine W.eq (g2 := F0 m 768 ls [.int (f_set r (xs (i + 1)) (xs (i + 2)) (xs (i + 3)) (xs (i + 4)) (lw_L (xs (i + 5)) (xs (i + 6)))).2, .int (f_set r (xs (i + 1)) (xs (i + 2)) (xs (i + 3)) (xs (i + 4)) (lw_L (xs (i + 5)) (xs (i + 6)))).2]) rfl ?_
  refine lv_icmp_eq (tgt := 1299) hx hb dL_law_768 (by decide) (fun _ => ?_) (fun h => absurd rfl h)
  exact kk ((f_set r (xs (i + 1)) (xs (i + 2)) (xs (i + 3)) (xs (i + 4)) (lw_L (xs (i + 5)) (xs (i + 6)))).1) _ _ _ ⟨g, C2, E2, hLV1, hCI.up (Nat.le_succ _) hsm.2.1 hsm.2.2.2, rfl, hR, hM, hS, ⟨hz.1, Nat.le_trans hz.2 (Nat.le_trans hz1 hz2)⟩, hl⟩
set_option maxHeartbeats 400000 in
set_option maxRecDepth 100000 in
theorem lw_deepest {p : Program} {l : Launch} {e : Env} {s : State} {m : MethodId} {below : List Frame} {meth : Method} {c : Code} {Q : State → Prop} {b L z0 z1 o1 : Nat} {xs : Nat → Int32} {D : va_G} {cy : Nat → ClassId} {G : Nat → Nat} (F : px_F p m c cL_law 4 s #[Value.ref b] RL) (hK : KK D cy s) (hX : va_X b L xs s s.heap) (hbl : b < s.heap.size) (hL : L ≤ 3584) {k i : Nat} {r : RS} {H : Heap} {locs : List Loc} {ls : Array Slot} (hW : LW D cy s b z0 z1 o1 G k i r H locs ls) (hk : k + 1 ≤ 512) (hi : i + 7 ≤ L) (kk : ∀ (r' : RS) (H' : Heap) (locs' : List Loc) (ls' : Array Slot), LW D cy s b z0 z1 o1 G (k + 1) i r' H' locs' ls' → W p l e room_1 s m #[Value.ref b] below meth c H' locs' (lC r') (lS r') Q (F0 m 1299 ls' [])) : W p l e room_1 s m #[Value.ref b] below meth c H locs (lC r) (lS r) Q (F0 m 773 ls []) := by
  obtain ⟨g, C, E, hLV, hCI, rfl, hR, hM, hS, hz, hl⟩ := hW
  have hx := F.1
  have hb := F.2.1
  have hI := hLV.inv
  have hV := hLV.2.2.2.2.1
  have hK9 := hLV.2.2.2.2.2.1
  have hbd := hLV.b
  refine lv_aload_n hx hb dL_law_773 rfl (lv_at hl 1 rfl) ?_
  refine lw_arg hx hb hX hbl hS hl (j := 1) (by omega) hL (by decide) dL_law_774 dL_law_775 dL_law_776 dL_law_777 dL_law_778 ?_
  refine lw_arg hx hb hX hbl hS hl (j := 2) (by omega) hL (by decide) dL_law_779 dL_law_780 dL_law_781 dL_law_782 dL_law_783 ?_
  refine lw_arg hx hb hX hbl hS hl (j := 3) (by omega) hL (by decide) dL_law_784 dL_law_785 dL_law_786 dL_law_787 dL_law_788 ?_
  refine lw_arg hx hb hX hbl hS hl (j := 4) (by omega) hL (by decide) dL_law_789 dL_law_790 dL_law_791 dL_law_792 dL_law_793 ?_
  have hsm := s_deepest hLV (xs (i + 1)) (xs (i + 2)) (xs (i + 3)) (xs (i + 4))
  have hLV1 : LV (k + 1) (f_deepest r (xs (i + 1)) (xs (i + 2)) (xs (i + 3)) (xs (i + 4))).1 := hLV.same hk hsm.1 hsm.2
  have hMN : MN r (f_deepest r (xs (i + 1)) (xs (i + 2)) (xs (i + 3)) (xs (i + 4))).1 := hsm.2.mn
  have rC := lC_room hLV1
  have rS9 := lS_room hLV1
  refine px_goQ2 (px_callV F hK (c_X5_deepest l D cy _ r g _ (xs (i + 1)) (xs (i + 2)) (xs (i + 3)) (xs (i + 4)) hI hV hK9) kc_X5_deepest kw_methodLink_RL_76 rfl hR (c_recv hK hR) rfl ⟨rfl, rfl⟩ ⟨Nat.le_of_ble_eq_true rfl, Nat.le_of_ble_eq_true rfl⟩ hl.1 rfl (Nat.le_of_ble_eq_true rfl) dL_law_794 ⟨lC_room hLV, lS_room hLV⟩) (aC_aL hz.1) hS (fun v H1 locs1 hp hz1 ho hS => ?_)
  obtain ⟨rfl, hR⟩ := hp
  have hM := MR.keep hM ho aM_aC
  refine W.widen (k := lC (f_deepest r (xs (i + 1)) (xs (i + 2)) (xs (i + 3)) (xs (i + 4))).1) (n := lS (f_deepest r (xs (i + 1)) (xs (i + 2)) (xs (i + 3)) (xs (i + 4))).1) (lC_le hMN) (lS_le hMN) ?_
  refine W.eq (g2 := F0 m 797 ls [.long (f_deepest r (xs (i + 1)) (xs (i + 2)) (xs (i + 3)) (xs (i + 4))).2]) rfl ?_
  refine lv_aload_n hx hb dL_law_797 rfl (lv_at hl 2 rfl) ?_
  refine lw_arg hx hb hX hbl hS hl (j := 1) (by omega) hL (by decide) dL_law_798 dL_law_799 dL_law_800 dL_law_801 dL_law_802 ?_
  refine lw_arg hx hb hX hbl hS hl (j := 2) (by omega) hL (by decide) dL_law_803 dL_law_804 dL_law_805 dL_law_806 dL_law_807 ?_
  refine lw_arg hx hb hX hbl hS hl (j := 3) (by omega) hL (by decide) dL_law_808 dL_law_809 dL_law_810 dL_law_811 dL_law_812 ?_
  refine lw_arg hx hb hX hbl hS hl (j := 4) (by omega) hL (by decide) dL_law_813 dL_law_814 dL_law_815 dL_law_816 dL_law_817 ?_
  refine px_goQ2 (px_callV F hK (c_X6_deepest l D cy _ G r C E _ (xs (i + 1)) (xs (i + 2)) (xs (i + 3)) (xs (i + 4)) hI) kc_X6_deepest kw_methodLink_RL_79 rfl hM (m_recv hK hM) rfl ⟨rfl, rfl⟩ ⟨Nat.le_of_ble_eq_true rfl, Nat.le_of_ble_eq_true rfl⟩ hl.1 rfl (Nat.le_of_ble_eq_true rfl) dL_law_818 ⟨rC, rS9⟩) (aM_aL hz.1.1) hS (fun v H2 locs2 hp hz2 ho hS => ?_)
  obtain ⟨rfl, C2, E2, hM⟩ := hp
  have hR := CR.keep hR ho aC_aM
  refine W.eq (g2 := F0 m 821 ls [.long (f_deepest r (xs (i + 1)) (xs (i + 2)) (xs (i + 3)) (xs (i + 4))).2, .long (f_deepest r (xs (i + 1)) (xs (i + 2)) (xs (i + 3)) (xs (i + 4))).2]) rfl ?_
  refine W.lcmp hx hb dL_law_821 ?_
  refine x_cmp_eq (tgt := 1299) hx hb dL_law_822 (by decide) (fun _ => ?_) (fun h => absurd rfl h)
  exact kk ((f_deepest r (xs (i + 1)) (xs (i + 2)) (xs (i + 3)) (xs (i + 4))).1) _ _ _ ⟨g, C2, E2, hLV1, hCI.up (Nat.le_succ _) hsm.2.1 hsm.2.2.2, rfl, hR, hM, hS, ⟨hz.1, Nat.le_trans hz.2 (Nat.le_trans hz1 hz2)⟩, hl⟩
set_option maxHeartbeats 400000 in
set_option maxRecDepth 100000 in
theorem lw_row {p : Program} {l : Launch} {e : Env} {s : State} {m : MethodId} {below : List Frame} {meth : Method} {c : Code} {Q : State → Prop} {b L z0 z1 o1 : Nat} {xs : Nat → Int32} {D : va_G} {cy : Nat → ClassId} {G : Nat → Nat} (F : px_F p m c cL_law 4 s #[Value.ref b] RL) (hK : KK D cy s) (hX : va_X b L xs s s.heap) (hbl : b < s.heap.size) (hL : L ≤ 3584) {k i : Nat} {r : RS} {H : Heap} {locs : List Loc} {ls : Array Slot} (hW : LW D cy s b z0 z1 o1 G k i r H locs ls) (hk : k + 1 ≤ 512) (hi : i + 7 ≤ L) (kk : ∀ (r' : RS) (H' : Heap) (locs' : List Loc) (ls' : Array Slot), LW D cy s b z0 z1 o1 G (k + 1) i r' H' locs' ls' → W p l e room_1 s m #[Value.ref b] below meth c H' locs' (lC r') (lS r') Q (F0 m 1299 ls' [])) : W p l e room_1 s m #[Value.ref b] below meth c H locs (lC r) (lS r) Q (F0 m 827 ls []) := by
  obtain ⟨g, C, E, hLV, hCI, rfl, hR, hM, hS, hz, hl⟩ := hW
  have hx := F.1
  have hb := F.2.1
  have hI := hLV.inv
  have hV := hLV.2.2.2.2.1
  have hK9 := hLV.2.2.2.2.2.1
  have hbd := hLV.b
  refine lv_aload_n hx hb dL_law_827 rfl (lv_at hl 1 rfl) ?_
  refine lw_arg hx hb hX hbl hS hl (j := 1) (by omega) hL (by decide) dL_law_828 dL_law_829 dL_law_830 dL_law_831 dL_law_832 ?_
  refine lw_arg hx hb hX hbl hS hl (j := 2) (by omega) hL (by decide) dL_law_833 dL_law_834 dL_law_835 dL_law_836 dL_law_837 ?_
  refine lw_arg hx hb hX hbl hS hl (j := 3) (by omega) hL (by decide) dL_law_838 dL_law_839 dL_law_840 dL_law_841 dL_law_842 ?_
  refine lw_arg hx hb hX hbl hS hl (j := 4) (by omega) hL (by decide) dL_law_843 dL_law_844 dL_law_845 dL_law_846 dL_law_847 ?_
  have hsm := s_row hLV (xs (i + 1)) (xs (i + 2)) (xs (i + 3)) (xs (i + 4))
  have hLV1 : LV (k + 1) (f_row r (xs (i + 1)) (xs (i + 2)) (xs (i + 3)) (xs (i + 4))).1 := hLV.same hk hsm.1 hsm.2
  have hMN : MN r (f_row r (xs (i + 1)) (xs (i + 2)) (xs (i + 3)) (xs (i + 4))).1 := hsm.2.mn
  have rC := lC_room hLV1
  have rS9 := lS_room hLV1
  refine px_goQ2 (px_callV F hK (c_X5_row l D cy _ r g _ (xs (i + 1)) (xs (i + 2)) (xs (i + 3)) (xs (i + 4)) hI hV hK9) kc_X5_row kw_methodLink_RL_80 rfl hR (c_recv hK hR) rfl ⟨rfl, rfl⟩ ⟨Nat.le_of_ble_eq_true rfl, Nat.le_of_ble_eq_true rfl⟩ hl.1 rfl (Nat.le_of_ble_eq_true rfl) dL_law_848 ⟨lC_room hLV, lS_room hLV⟩) (aC_aL hz.1) hS (fun v H1 locs1 hp hz1 ho hS => ?_)
  obtain ⟨rfl, hR⟩ := hp
  have hM := MR.keep hM ho aM_aC
  refine W.widen (k := lC (f_row r (xs (i + 1)) (xs (i + 2)) (xs (i + 3)) (xs (i + 4))).1) (n := lS (f_row r (xs (i + 1)) (xs (i + 2)) (xs (i + 3)) (xs (i + 4))).1) (lC_le hMN) (lS_le hMN) ?_
  refine W.eq (g2 := F0 m 851 ls [.int (f_row r (xs (i + 1)) (xs (i + 2)) (xs (i + 3)) (xs (i + 4))).2]) rfl ?_
  refine lv_aload_n hx hb dL_law_851 rfl (lv_at hl 2 rfl) ?_
  refine lw_arg hx hb hX hbl hS hl (j := 1) (by omega) hL (by decide) dL_law_852 dL_law_853 dL_law_854 dL_law_855 dL_law_856 ?_
  refine lw_arg hx hb hX hbl hS hl (j := 2) (by omega) hL (by decide) dL_law_857 dL_law_858 dL_law_859 dL_law_860 dL_law_861 ?_
  refine lw_arg hx hb hX hbl hS hl (j := 3) (by omega) hL (by decide) dL_law_862 dL_law_863 dL_law_864 dL_law_865 dL_law_866 ?_
  refine lw_arg hx hb hX hbl hS hl (j := 4) (by omega) hL (by decide) dL_law_867 dL_law_868 dL_law_869 dL_law_870 dL_law_871 ?_
  refine px_goQ2 (px_callV F hK (c_X6_row l D cy _ G r C E _ (xs (i + 1)) (xs (i + 2)) (xs (i + 3)) (xs (i + 4)) hI) kc_X6_row kw_methodLink_RL_83 rfl hM (m_recv hK hM) rfl ⟨rfl, rfl⟩ ⟨Nat.le_of_ble_eq_true rfl, Nat.le_of_ble_eq_true rfl⟩ hl.1 rfl (Nat.le_of_ble_eq_true rfl) dL_law_872 ⟨rC, rS9⟩) (aM_aL hz.1.1) hS (fun v H2 locs2 hp hz2 ho hS => ?_)
  obtain ⟨rfl, C2, E2, hM⟩ := hp
  have hR := CR.keep hR ho aC_aM
  refine W.eq (g2 := F0 m 875 ls [.int (f_row r (xs (i + 1)) (xs (i + 2)) (xs (i + 3)) (xs (i + 4))).2, .int (f_row r (xs (i + 1)) (xs (i + 2)) (xs (i + 3)) (xs (i + 4))).2]) rfl ?_
  refine lv_icmp_eq (tgt := 1299) hx hb dL_law_875 (by decide) (fun _ => ?_) (fun h => absurd rfl h)
  exact kk ((f_row r (xs (i + 1)) (xs (i + 2)) (xs (i + 3)) (xs (i + 4))).1) _ _ _ ⟨g, C2, E2, hLV1, hCI.up (Nat.le_succ _) hsm.2.1 hsm.2.2.2, rfl, hR, hM, hS, ⟨hz.1, Nat.le_trans hz.2 (Nat.le_trans hz1 hz2)⟩, hl⟩
set_option maxHeartbeats 400000 in
set_option maxRecDepth 100000 in
theorem lw_take {p : Program} {l : Launch} {e : Env} {s : State} {m : MethodId} {below : List Frame} {meth : Method} {c : Code} {Q : State → Prop} {b L z0 z1 o1 : Nat} {xs : Nat → Int32} {D : va_G} {cy : Nat → ClassId} {G : Nat → Nat} (F : px_F p m c cL_law 4 s #[Value.ref b] RL) (hK : KK D cy s) (hX : va_X b L xs s s.heap) (hbl : b < s.heap.size) (hL : L ≤ 3584) {k i : Nat} {r : RS} {H : Heap} {locs : List Loc} {ls : Array Slot} (hW : LW D cy s b z0 z1 o1 G k i r H locs ls) (hk : k + 1 ≤ 512) (hi : i + 7 ≤ L) (kk : ∀ (r' : RS) (H' : Heap) (locs' : List Loc) (ls' : Array Slot), LW D cy s b z0 z1 o1 G (k + 1) i r' H' locs' ls' → W p l e room_1 s m #[Value.ref b] below meth c H' locs' (lC r') (lS r') Q (F0 m 1299 ls' [])) : W p l e room_1 s m #[Value.ref b] below meth c H locs (lC r) (lS r) Q (F0 m 880 ls []) := by
  obtain ⟨g, C, E, hLV, hCI, rfl, hR, hM, hS, hz, hl⟩ := hW
  have hx := F.1
  have hb := F.2.1
  have hI := hLV.inv
  have hV := hLV.2.2.2.2.1
  have hK9 := hLV.2.2.2.2.2.1
  have hbd := hLV.b
  refine lv_aload_n hx hb dL_law_880 rfl (lv_at hl 1 rfl) ?_
  refine lw_arg hx hb hX hbl hS hl (j := 1) (by omega) hL (by decide) dL_law_881 dL_law_882 dL_law_883 dL_law_884 dL_law_885 ?_
  refine lw_arg hx hb hX hbl hS hl (j := 2) (by omega) hL (by decide) dL_law_886 dL_law_887 dL_law_888 dL_law_889 dL_law_890 ?_
  refine lw_arg hx hb hX hbl hS hl (j := 3) (by omega) hL (by decide) dL_law_891 dL_law_892 dL_law_893 dL_law_894 dL_law_895 ?_
  refine lw_arg hx hb hX hbl hS hl (j := 4) (by omega) hL (by decide) dL_law_896 dL_law_897 dL_law_898 dL_law_899 dL_law_900 ?_
  have hsm := s_take hLV (xs (i + 1)) (xs (i + 2)) (xs (i + 3)) (xs (i + 4))
  have hLV1 : LV (k + 1) (f_take r (xs (i + 1)) (xs (i + 2)) (xs (i + 3)) (xs (i + 4))).1 := hLV.same hk hsm.1 hsm.2
  have hMN : MN r (f_take r (xs (i + 1)) (xs (i + 2)) (xs (i + 3)) (xs (i + 4))).1 := hsm.2.mn
  have rC := lC_room hLV1
  have rS9 := lS_room hLV1
  refine px_goQ2 (px_callV F hK (c_X5_take l D cy _ r g _ (xs (i + 1)) (xs (i + 2)) (xs (i + 3)) (xs (i + 4)) hI hV hK9) kc_X5_take kw_methodLink_RL_84 rfl hR (c_recv hK hR) rfl ⟨rfl, rfl⟩ ⟨Nat.le_of_ble_eq_true rfl, Nat.le_of_ble_eq_true rfl⟩ hl.1 rfl (Nat.le_of_ble_eq_true rfl) dL_law_901 ⟨lC_room hLV, lS_room hLV⟩) (aC_aL hz.1) hS (fun v H1 locs1 hp hz1 ho hS => ?_)
  obtain ⟨rfl, hR⟩ := hp
  have hM := MR.keep hM ho aM_aC
  refine W.widen (k := lC (f_take r (xs (i + 1)) (xs (i + 2)) (xs (i + 3)) (xs (i + 4))).1) (n := lS (f_take r (xs (i + 1)) (xs (i + 2)) (xs (i + 3)) (xs (i + 4))).1) (lC_le hMN) (lS_le hMN) ?_
  refine W.eq (g2 := F0 m 904 ls [.int (f_take r (xs (i + 1)) (xs (i + 2)) (xs (i + 3)) (xs (i + 4))).2]) rfl ?_
  refine lv_aload_n hx hb dL_law_904 rfl (lv_at hl 2 rfl) ?_
  refine lw_arg hx hb hX hbl hS hl (j := 1) (by omega) hL (by decide) dL_law_905 dL_law_906 dL_law_907 dL_law_908 dL_law_909 ?_
  refine lw_arg hx hb hX hbl hS hl (j := 2) (by omega) hL (by decide) dL_law_910 dL_law_911 dL_law_912 dL_law_913 dL_law_914 ?_
  refine lw_arg hx hb hX hbl hS hl (j := 3) (by omega) hL (by decide) dL_law_915 dL_law_916 dL_law_917 dL_law_918 dL_law_919 ?_
  refine lw_arg hx hb hX hbl hS hl (j := 4) (by omega) hL (by decide) dL_law_920 dL_law_921 dL_law_922 dL_law_923 dL_law_924 ?_
  refine px_goQ2 (px_callV F hK (c_X6_take l D cy _ G r C E _ (xs (i + 1)) (xs (i + 2)) (xs (i + 3)) (xs (i + 4)) hI) kc_X6_take kw_methodLink_RL_87 rfl hM (m_recv hK hM) rfl ⟨rfl, rfl⟩ ⟨Nat.le_of_ble_eq_true rfl, Nat.le_of_ble_eq_true rfl⟩ hl.1 rfl (Nat.le_of_ble_eq_true rfl) dL_law_925 ⟨rC, rS9⟩) (aM_aL hz.1.1) hS (fun v H2 locs2 hp hz2 ho hS => ?_)
  obtain ⟨rfl, C2, E2, hM⟩ := hp
  have hR := CR.keep hR ho aC_aM
  refine W.eq (g2 := F0 m 928 ls [.int (f_take r (xs (i + 1)) (xs (i + 2)) (xs (i + 3)) (xs (i + 4))).2, .int (f_take r (xs (i + 1)) (xs (i + 2)) (xs (i + 3)) (xs (i + 4))).2]) rfl ?_
  refine lv_icmp_eq (tgt := 1299) hx hb dL_law_928 (by decide) (fun _ => ?_) (fun h => absurd rfl h)
  exact kk ((f_take r (xs (i + 1)) (xs (i + 2)) (xs (i + 3)) (xs (i + 4))).1) _ _ _ ⟨g, C2, E2, hLV1, hCI.up (Nat.le_succ _) hsm.2.1 hsm.2.2.2, rfl, hR, hM, hS, ⟨hz.1, Nat.le_trans hz.2 (Nat.le_trans hz1 hz2)⟩, hl⟩
set_option maxHeartbeats 400000 in
set_option maxRecDepth 100000 in
theorem lw_grow {p : Program} {l : Launch} {e : Env} {s : State} {m : MethodId} {below : List Frame} {meth : Method} {c : Code} {Q : State → Prop} {b L z0 z1 o1 : Nat} {xs : Nat → Int32} {D : va_G} {cy : Nat → ClassId} {G : Nat → Nat} (F : px_F p m c cL_law 4 s #[Value.ref b] RL) (hK : KK D cy s) (hX : va_X b L xs s s.heap) (hbl : b < s.heap.size) (hL : L ≤ 3584) {k i : Nat} {r : RS} {H : Heap} {locs : List Loc} {ls : Array Slot} (hW : LW D cy s b z0 z1 o1 G k i r H locs ls) (hk : k + 1 ≤ 512) (hi : i + 7 ≤ L) (kk : ∀ (r' : RS) (H' : Heap) (locs' : List Loc) (ls' : Array Slot), LW D cy s b z0 z1 o1 G (k + 1) i r' H' locs' ls' → W p l e room_1 s m #[Value.ref b] below meth c H' locs' (lC r') (lS r') Q (F0 m 1299 ls' [])) : W p l e room_1 s m #[Value.ref b] below meth c H locs (lC r) (lS r) Q (F0 m 933 ls []) := by
  obtain ⟨g, C, E, hLV, hCI, rfl, hR, hM, hS, hz, hl⟩ := hW
  have hx := F.1
  have hb := F.2.1
  have hI := hLV.inv
  have hV := hLV.2.2.2.2.1
  have hK9 := hLV.2.2.2.2.2.1
  have hbd := hLV.b
  refine lv_aload_n hx hb dL_law_933 rfl (lv_at hl 1 rfl) ?_
  refine lw_arg hx hb hX hbl hS hl (j := 1) (by omega) hL (by decide) dL_law_934 dL_law_935 dL_law_936 dL_law_937 dL_law_938 ?_
  refine lw_arg hx hb hX hbl hS hl (j := 2) (by omega) hL (by decide) dL_law_939 dL_law_940 dL_law_941 dL_law_942 dL_law_943 ?_
  obtain ⟨hLV1, hMN⟩ := lv_grow hLV hk (xs (i + 1)) (xs (i + 2))
  have rC := lC_room hLV1
  have rS9 := lS_room hLV1
  refine px_goQ2 (px_callV F hK (c_X5_grow l D cy _ r g _ (xs (i + 1)) (xs (i + 2)) hI hV hK9 (fun q h => Or.inr (Nat.le_trans hz.2 h))) kc_X5_grow kw_methodLink_RL_88 rfl hR (c_recv hK hR) rfl ⟨rfl, rfl⟩ ⟨Nat.le_of_ble_eq_true rfl, Nat.le_of_ble_eq_true rfl⟩ hl.1 rfl (Nat.le_of_ble_eq_true rfl) dL_law_944 ⟨Nat.le_trans (lC_add hMN) rC, Nat.le_trans (lS_add hMN) rS9⟩) (aC_aL hz.1) hS (fun v H1 locs1 hp hz1 ho hS => ?_)
  obtain ⟨g1, rfl, hE, hM9, hR⟩ := hp
  have hM := MR.keep hM ho aM_aC
  refine W.widen (k := lC (f_grow r (xs (i + 1)) (xs (i + 2))).1) (n := lS (f_grow r (xs (i + 1)) (xs (i + 2))).1) (lC_add hMN) (lS_add hMN) ?_
  refine W.eq (g2 := F0 m 947 ls [.int (f_grow r (xs (i + 1)) (xs (i + 2))).2]) rfl ?_
  refine lv_aload_n hx hb dL_law_947 rfl (lv_at hl 2 rfl) ?_
  refine lw_arg hx hb hX hbl hS hl (j := 1) (by omega) hL (by decide) dL_law_948 dL_law_949 dL_law_950 dL_law_951 dL_law_952 ?_
  refine lw_arg hx hb hX hbl hS hl (j := 2) (by omega) hL (by decide) dL_law_953 dL_law_954 dL_law_955 dL_law_956 dL_law_957 ?_
  refine px_goQ2 (px_callV F hK (c_X6_grow l D cy _ G r C E _ (xs (i + 1)) (xs (i + 2)) hI) kc_X6_grow kw_methodLink_RL_91 rfl hM (m_recv hK hM) rfl ⟨rfl, rfl⟩ ⟨Nat.le_of_ble_eq_true rfl, Nat.le_of_ble_eq_true rfl⟩ hl.1 rfl (Nat.le_of_ble_eq_true rfl) dL_law_958 ⟨rC, rS9⟩) (aM_aL hz.1.1) hS (fun v H2 locs2 hp hz2 ho hS => ?_)
  obtain ⟨rfl, C2, E2, hM⟩ := hp
  have hR := CR.keep hR ho aC_aM
  refine W.eq (g2 := F0 m 961 ls [.int (f_grow r (xs (i + 1)) (xs (i + 2))).2, .int (f_grow r (xs (i + 1)) (xs (i + 2))).2]) rfl ?_
  refine lv_icmp_eq (tgt := 1299) hx hb dL_law_961 (by decide) (fun _ => ?_) (fun h => absurd rfl h)
  exact kk ((f_grow r (xs (i + 1)) (xs (i + 2))).1) _ _ _ ⟨g1, C2, E2, hLV1, hCI.gx (Nat.le_succ _) hE (hM9.trans (hCI.1.trans (m_grow r (xs (i + 1)) (xs (i + 2))).symm)), hE.x, hR, hM, hS, ⟨hz.1, Nat.le_trans hz.2 (Nat.le_trans hz1 hz2)⟩, hl⟩
set_option maxHeartbeats 400000 in
set_option maxRecDepth 100000 in
theorem lw_copy {p : Program} {l : Launch} {e : Env} {s : State} {m : MethodId} {below : List Frame} {meth : Method} {c : Code} {Q : State → Prop} {b L z0 z1 o1 : Nat} {xs : Nat → Int32} {D : va_G} {cy : Nat → ClassId} {G : Nat → Nat} (F : px_F p m c cL_law 4 s #[Value.ref b] RL) (hK : KK D cy s) (hX : va_X b L xs s s.heap) (hbl : b < s.heap.size) (hL : L ≤ 3584) {k i : Nat} {r : RS} {H : Heap} {locs : List Loc} {ls : Array Slot} (hW : LW D cy s b z0 z1 o1 G k i r H locs ls) (hk : k + 1 ≤ 512) (hi : i + 7 ≤ L) (kk : ∀ (r' : RS) (H' : Heap) (locs' : List Loc) (ls' : Array Slot), LW D cy s b z0 z1 o1 G (k + 1) i r' H' locs' ls' → W p l e room_1 s m #[Value.ref b] below meth c H' locs' (lC r') (lS r') Q (F0 m 1299 ls' [])) : W p l e room_1 s m #[Value.ref b] below meth c H locs (lC r) (lS r) Q (F0 m 966 ls []) := by
  obtain ⟨g, C, E, hLV, hCI, rfl, hR, hM, hS, hz, hl⟩ := hW
  have hx := F.1
  have hb := F.2.1
  have hI := hLV.inv
  have hV := hLV.2.2.2.2.1
  have hK9 := hLV.2.2.2.2.2.1
  have hbd := hLV.b
  refine lv_aload_n hx hb dL_law_966 rfl (lv_at hl 1 rfl) ?_
  refine lw_arg hx hb hX hbl hS hl (j := 1) (by omega) hL (by decide) dL_law_967 dL_law_968 dL_law_969 dL_law_970 dL_law_971 ?_
  refine lw_arg hx hb hX hbl hS hl (j := 2) (by omega) hL (by decide) dL_law_972 dL_law_973 dL_law_974 dL_law_975 dL_law_976 ?_
  refine lw_arg hx hb hX hbl hS hl (j := 3) (by omega) hL (by decide) dL_law_977 dL_law_978 dL_law_979 dL_law_980 dL_law_981 ?_
  refine lw_arg hx hb hX hbl hS hl (j := 4) (by omega) hL (by decide) dL_law_982 dL_law_983 dL_law_984 dL_law_985 dL_law_986 ?_
  refine lw_arg hx hb hX hbl hS hl (j := 5) (by omega) hL (by decide) dL_law_987 dL_law_988 dL_law_989 dL_law_990 dL_law_991 ?_
  have hsm := s_copy hLV (xs (i + 1)) (xs (i + 2)) (xs (i + 3)) (xs (i + 4)) (xs (i + 5))
  have hLV1 : LV (k + 1) (f_copy r (xs (i + 1)) (xs (i + 2)) (xs (i + 3)) (xs (i + 4)) (xs (i + 5))).1 := hLV.same hk hsm.1 hsm.2
  have hMN : MN r (f_copy r (xs (i + 1)) (xs (i + 2)) (xs (i + 3)) (xs (i + 4)) (xs (i + 5))).1 := hsm.2.mn
  have rC := lC_room hLV1
  have rS9 := lS_room hLV1
  refine px_goQ2 (px_callV F hK (c_X5_copy l D cy _ r g _ (xs (i + 1)) (xs (i + 2)) (xs (i + 3)) (xs (i + 4)) (xs (i + 5)) hI hV hK9) kc_X5_copy kw_methodLink_RL_92 rfl hR (c_recv hK hR) rfl ⟨rfl, rfl⟩ ⟨Nat.le_of_ble_eq_true rfl, Nat.le_of_ble_eq_true rfl⟩ hl.1 rfl (Nat.le_of_ble_eq_true rfl) dL_law_992 ⟨lC_room hLV, lS_room hLV⟩) (aC_aL hz.1) hS (fun v H1 locs1 hp hz1 ho hS => ?_)
  obtain ⟨rfl, hR⟩ := hp
  have hM := MR.keep hM ho aM_aC
  refine W.widen (k := lC (f_copy r (xs (i + 1)) (xs (i + 2)) (xs (i + 3)) (xs (i + 4)) (xs (i + 5))).1) (n := lS (f_copy r (xs (i + 1)) (xs (i + 2)) (xs (i + 3)) (xs (i + 4)) (xs (i + 5))).1) (lC_le hMN) (lS_le hMN) ?_
  refine W.eq (g2 := F0 m 995 ls [.int (f_copy r (xs (i + 1)) (xs (i + 2)) (xs (i + 3)) (xs (i + 4)) (xs (i + 5))).2]) rfl ?_
  refine lv_aload_n hx hb dL_law_995 rfl (lv_at hl 2 rfl) ?_
  refine lw_arg hx hb hX hbl hS hl (j := 1) (by omega) hL (by decide) dL_law_996 dL_law_997 dL_law_998 dL_law_999 dL_law_1000 ?_
  refine lw_arg hx hb hX hbl hS hl (j := 2) (by omega) hL (by decide) dL_law_1001 dL_law_1002 dL_law_1003 dL_law_1004 dL_law_1005 ?_
  refine lw_arg hx hb hX hbl hS hl (j := 3) (by omega) hL (by decide) dL_law_1006 dL_law_1007 dL_law_1008 dL_law_1009 dL_law_1010 ?_
  refine lw_arg hx hb hX hbl hS hl (j := 4) (by omega) hL (by decide) dL_law_1011 dL_law_1012 dL_law_1013 dL_law_1014 dL_law_1015 ?_
  refine lw_arg hx hb hX hbl hS hl (j := 5) (by omega) hL (by decide) dL_law_1016 dL_law_1017 dL_law_1018 dL_law_1019 dL_law_1020 ?_
  refine px_goQ2 (px_callV F hK (c_X6_copy l D cy _ G r C E _ (xs (i + 1)) (xs (i + 2)) (xs (i + 3)) (xs (i + 4)) (xs (i + 5)) hI) kc_X6_copy kw_methodLink_RL_95 rfl hM (m_recv hK hM) rfl ⟨rfl, rfl⟩ ⟨Nat.le_of_ble_eq_true rfl, Nat.le_of_ble_eq_true rfl⟩ hl.1 rfl (Nat.le_of_ble_eq_true rfl) dL_law_1021 ⟨rC, rS9⟩) (aM_aL hz.1.1) hS (fun v H2 locs2 hp hz2 ho hS => ?_)
  obtain ⟨rfl, C2, E2, hM⟩ := hp
  have hR := CR.keep hR ho aC_aM
  refine W.eq (g2 := F0 m 1024 ls [.int (f_copy r (xs (i + 1)) (xs (i + 2)) (xs (i + 3)) (xs (i + 4)) (xs (i + 5))).2, .int (f_copy r (xs (i + 1)) (xs (i + 2)) (xs (i + 3)) (xs (i + 4)) (xs (i + 5))).2]) rfl ?_
  refine lv_icmp_eq (tgt := 1299) hx hb dL_law_1024 (by decide) (fun _ => ?_) (fun h => absurd rfl h)
  exact kk ((f_copy r (xs (i + 1)) (xs (i + 2)) (xs (i + 3)) (xs (i + 4)) (xs (i + 5))).1) _ _ _ ⟨g, C2, E2, hLV1, hCI.up (Nat.le_succ _) hsm.2.1 hsm.2.2.2, rfl, hR, hM, hS, ⟨hz.1, Nat.le_trans hz.2 (Nat.le_trans hz1 hz2)⟩, hl⟩
set_option maxHeartbeats 400000 in
set_option maxRecDepth 100000 in
theorem lw_fill {p : Program} {l : Launch} {e : Env} {s : State} {m : MethodId} {below : List Frame} {meth : Method} {c : Code} {Q : State → Prop} {b L z0 z1 o1 : Nat} {xs : Nat → Int32} {D : va_G} {cy : Nat → ClassId} {G : Nat → Nat} (F : px_F p m c cL_law 4 s #[Value.ref b] RL) (hK : KK D cy s) (hX : va_X b L xs s s.heap) (hbl : b < s.heap.size) (hL : L ≤ 3584) {k i : Nat} {r : RS} {H : Heap} {locs : List Loc} {ls : Array Slot} (hW : LW D cy s b z0 z1 o1 G k i r H locs ls) (hk : k + 1 ≤ 512) (hi : i + 7 ≤ L) (kk : ∀ (r' : RS) (H' : Heap) (locs' : List Loc) (ls' : Array Slot), LW D cy s b z0 z1 o1 G (k + 1) i r' H' locs' ls' → W p l e room_1 s m #[Value.ref b] below meth c H' locs' (lC r') (lS r') Q (F0 m 1299 ls' [])) : W p l e room_1 s m #[Value.ref b] below meth c H locs (lC r) (lS r) Q (F0 m 1029 ls []) := by
  obtain ⟨g, C, E, hLV, hCI, rfl, hR, hM, hS, hz, hl⟩ := hW
  have hx := F.1
  have hb := F.2.1
  have hI := hLV.inv
  have hV := hLV.2.2.2.2.1
  have hK9 := hLV.2.2.2.2.2.1
  have hbd := hLV.b
  refine lv_aload_n hx hb dL_law_1029 rfl (lv_at hl 1 rfl) ?_
  refine lw_arg hx hb hX hbl hS hl (j := 1) (by omega) hL (by decide) dL_law_1030 dL_law_1031 dL_law_1032 dL_law_1033 dL_law_1034 ?_
  refine lw_arg hx hb hX hbl hS hl (j := 2) (by omega) hL (by decide) dL_law_1035 dL_law_1036 dL_law_1037 dL_law_1038 dL_law_1039 ?_
  refine lw_arg hx hb hX hbl hS hl (j := 3) (by omega) hL (by decide) dL_law_1040 dL_law_1041 dL_law_1042 dL_law_1043 dL_law_1044 ?_
  refine lv_i2l hx hb dL_law_1045 rfl ?_
  refine lv_bipush (v := 32) hx hb dL_law_1046 (by decide) ?_
  refine lv_lshl hx hb dL_law_1048 rfl ?_
  refine lw_arg hx hb hX hbl hS hl (j := 4) (by omega) hL (by decide) dL_law_1049 dL_law_1050 dL_law_1051 dL_law_1052 dL_law_1053 ?_
  refine lv_i2l hx hb dL_law_1054 rfl ?_
  refine lv_ldc2 hx hb F.2.2.2.1 (F.2.2.2.2 _ kw_constantLong_RL_50) dL_law_1055 ?_
  refine lv_land hx hb dL_law_1058 ?_
  refine lv_lor hx hb dL_law_1059 ?_
  have hsm := s_fill hLV (xs (i + 1)) (xs (i + 2)) (lw_L (xs (i + 3)) (xs (i + 4)))
  have hLV1 : LV (k + 1) (f_fill r (xs (i + 1)) (xs (i + 2)) (lw_L (xs (i + 3)) (xs (i + 4)))).1 := hLV.same hk hsm.1 hsm.2
  have hMN : MN r (f_fill r (xs (i + 1)) (xs (i + 2)) (lw_L (xs (i + 3)) (xs (i + 4)))).1 := hsm.2.mn
  have rC := lC_room hLV1
  have rS9 := lS_room hLV1
  refine px_goQ2 (px_callV F hK (c_X5_fill l D cy _ r g _ (xs (i + 1)) (xs (i + 2)) (lw_L (xs (i + 3)) (xs (i + 4))) hI hV hK9) kc_X5_fill kw_methodLink_RL_96 rfl hR (c_recv hK hR) rfl ⟨rfl, rfl⟩ ⟨Nat.le_of_ble_eq_true rfl, Nat.le_of_ble_eq_true rfl⟩ hl.1 rfl (Nat.le_of_ble_eq_true rfl) dL_law_1060 ⟨lC_room hLV, lS_room hLV⟩) (aC_aL hz.1) hS (fun v H1 locs1 hp hz1 ho hS => ?_)
  obtain ⟨rfl, hR⟩ := hp
  have hM := MR.keep hM ho aM_aC
  refine W.widen (k := lC (f_fill r (xs (i + 1)) (xs (i + 2)) (lw_L (xs (i + 3)) (xs (i + 4)))).1) (n := lS (f_fill r (xs (i + 1)) (xs (i + 2)) (lw_L (xs (i + 3)) (xs (i + 4)))).1) (lC_le hMN) (lS_le hMN) ?_
  refine W.eq (g2 := F0 m 1063 ls [.int (f_fill r (xs (i + 1)) (xs (i + 2)) (lw_L (xs (i + 3)) (xs (i + 4)))).2]) rfl ?_
  refine lv_aload_n hx hb dL_law_1063 rfl (lv_at hl 2 rfl) ?_
  refine lw_arg hx hb hX hbl hS hl (j := 1) (by omega) hL (by decide) dL_law_1064 dL_law_1065 dL_law_1066 dL_law_1067 dL_law_1068 ?_
  refine lw_arg hx hb hX hbl hS hl (j := 2) (by omega) hL (by decide) dL_law_1069 dL_law_1070 dL_law_1071 dL_law_1072 dL_law_1073 ?_
  refine lw_arg hx hb hX hbl hS hl (j := 3) (by omega) hL (by decide) dL_law_1074 dL_law_1075 dL_law_1076 dL_law_1077 dL_law_1078 ?_
  refine lv_i2l hx hb dL_law_1079 rfl ?_
  refine lv_bipush (v := 32) hx hb dL_law_1080 (by decide) ?_
  refine lv_lshl hx hb dL_law_1082 rfl ?_
  refine lw_arg hx hb hX hbl hS hl (j := 4) (by omega) hL (by decide) dL_law_1083 dL_law_1084 dL_law_1085 dL_law_1086 dL_law_1087 ?_
  refine lv_i2l hx hb dL_law_1088 rfl ?_
  refine lv_ldc2 hx hb F.2.2.2.1 (F.2.2.2.2 _ kw_constantLong_RL_50) dL_law_1089 ?_
  refine lv_land hx hb dL_law_1092 ?_
  refine lv_lor hx hb dL_law_1093 ?_
  refine px_goQ2 (px_callV F hK (c_X6_fill l D cy _ G r C E _ (xs (i + 1)) (xs (i + 2)) (lw_L (xs (i + 3)) (xs (i + 4))) hI) kc_X6_fill kw_methodLink_RL_100 rfl hM (m_recv hK hM) rfl ⟨rfl, rfl⟩ ⟨Nat.le_of_ble_eq_true rfl, Nat.le_of_ble_eq_true rfl⟩ hl.1 rfl (Nat.le_of_ble_eq_true rfl) dL_law_1094 ⟨rC, rS9⟩) (aM_aL hz.1.1) hS (fun v H2 locs2 hp hz2 ho hS => ?_)
  obtain ⟨rfl, C2, E2, hM⟩ := hp
  have hR := CR.keep hR ho aC_aM
  refine W.eq (g2 := F0 m 1097 ls [.int (f_fill r (xs (i + 1)) (xs (i + 2)) (lw_L (xs (i + 3)) (xs (i + 4)))).2, .int (f_fill r (xs (i + 1)) (xs (i + 2)) (lw_L (xs (i + 3)) (xs (i + 4)))).2]) rfl ?_
  refine lv_icmp_eq (tgt := 1299) hx hb dL_law_1097 (by decide) (fun _ => ?_) (fun h => absurd rfl h)
  exact kk ((f_fill r (xs (i + 1)) (xs (i + 2)) (lw_L (xs (i + 3)) (xs (i + 4)))).1) _ _ _ ⟨g, C2, E2, hLV1, hCI.up (Nat.le_succ _) hsm.2.1 hsm.2.2.2, rfl, hR, hM, hS, ⟨hz.1, Nat.le_trans hz.2 (Nat.le_trans hz1 hz2)⟩, hl⟩
set_option maxHeartbeats 400000 in
set_option maxRecDepth 100000 in
theorem lw_size {p : Program} {l : Launch} {e : Env} {s : State} {m : MethodId} {below : List Frame} {meth : Method} {c : Code} {Q : State → Prop} {b L z0 z1 o1 : Nat} {xs : Nat → Int32} {D : va_G} {cy : Nat → ClassId} {G : Nat → Nat} (F : px_F p m c cL_law 4 s #[Value.ref b] RL) (hK : KK D cy s) (hX : va_X b L xs s s.heap) (hbl : b < s.heap.size) (hL : L ≤ 3584) {k i : Nat} {r : RS} {H : Heap} {locs : List Loc} {ls : Array Slot} (hW : LW D cy s b z0 z1 o1 G k i r H locs ls) (hk : k + 1 ≤ 512) (hi : i + 7 ≤ L) (kk : ∀ (r' : RS) (H' : Heap) (locs' : List Loc) (ls' : Array Slot), LW D cy s b z0 z1 o1 G (k + 1) i r' H' locs' ls' → W p l e room_1 s m #[Value.ref b] below meth c H' locs' (lC r') (lS r') Q (F0 m 1299 ls' [])) : W p l e room_1 s m #[Value.ref b] below meth c H locs (lC r) (lS r) Q (F0 m 1102 ls []) := by
  obtain ⟨g, C, E, hLV, hCI, rfl, hR, hM, hS, hz, hl⟩ := hW
  have hx := F.1
  have hb := F.2.1
  have hI := hLV.inv
  have hV := hLV.2.2.2.2.1
  have hK9 := hLV.2.2.2.2.2.1
  have hbd := hLV.b
  refine lv_aload_n hx hb dL_law_1102 rfl (lv_at hl 1 rfl) ?_
  refine lw_arg hx hb hX hbl hS hl (j := 1) (by omega) hL (by decide) dL_law_1103 dL_law_1104 dL_law_1105 dL_law_1106 dL_law_1107 ?_
  obtain ⟨hLV1, hMN⟩ : LV (k + 1) r ∧ MN r r := ⟨hLV.same hk hLV.2.2.2.2 (SM.rf r), MN.rf⟩
  have rC := lC_room hLV1
  have rS9 := lS_room hLV1
  refine px_goV (st1 := [.int (f_size r (xs (i + 1)))]) (px_callV F hK (c_X5_size l D cy _ r g _ (xs (i + 1)) hI hV hK9) kc_X5_size kw_methodLink_RL_101 rfl hR (c_recv hK hR) rfl ⟨rfl, rfl⟩ ⟨Nat.le_of_ble_eq_true rfl, Nat.le_of_ble_eq_true rfl⟩ hl.1 rfl (Nat.le_of_ble_eq_true rfl) dL_law_1108 ⟨lC_room hLV, lS_room hLV⟩) rfl ?_
  refine lv_aload_n hx hb dL_law_1111 rfl (lv_at hl 2 rfl) ?_
  refine lw_arg hx hb hX hbl hS hl (j := 1) (by omega) hL (by decide) dL_law_1112 dL_law_1113 dL_law_1114 dL_law_1115 dL_law_1116 ?_
  refine px_goV (st1 := [.int (f_size r (xs (i + 1))), .int (f_size r (xs (i + 1)))]) (px_callV F hK (c_X6_size l D cy _ G r C E _ (xs (i + 1)) hI) kc_X6_size kw_methodLink_RL_104 rfl hM (m_recv hK hM) rfl ⟨rfl, rfl⟩ ⟨Nat.le_of_ble_eq_true rfl, Nat.le_of_ble_eq_true rfl⟩ hl.1 rfl (Nat.le_of_ble_eq_true rfl) dL_law_1117 ⟨rC, rS9⟩) rfl ?_
  refine lv_icmp_eq (tgt := 1299) hx hb dL_law_1120 (by decide) (fun _ => ?_) (fun h => absurd rfl h)
  exact kk r _ _ _ ⟨g, C, E, hLV1, hCI.up (Nat.le_succ _) rfl rfl, rfl, hR, hM, hS, hz, hl⟩
set_option maxHeartbeats 400000 in
set_option maxRecDepth 100000 in
theorem lw_alike {p : Program} {l : Launch} {e : Env} {s : State} {m : MethodId} {below : List Frame} {meth : Method} {c : Code} {Q : State → Prop} {b L z0 z1 o1 : Nat} {xs : Nat → Int32} {D : va_G} {cy : Nat → ClassId} {G : Nat → Nat} (F : px_F p m c cL_law 4 s #[Value.ref b] RL) (hK : KK D cy s) (hX : va_X b L xs s s.heap) (hbl : b < s.heap.size) (hL : L ≤ 3584) {k i : Nat} {r : RS} {H : Heap} {locs : List Loc} {ls : Array Slot} (hW : LW D cy s b z0 z1 o1 G k i r H locs ls) (hk : k + 1 ≤ 512) (hi : i + 7 ≤ L) (kk : ∀ (r' : RS) (H' : Heap) (locs' : List Loc) (ls' : Array Slot), LW D cy s b z0 z1 o1 G (k + 1) i r' H' locs' ls' → W p l e room_1 s m #[Value.ref b] below meth c H' locs' (lC r') (lS r') Q (F0 m 1299 ls' [])) : W p l e room_1 s m #[Value.ref b] below meth c H locs (lC r) (lS r) Q (F0 m 1125 ls []) := by
  obtain ⟨g, C, E, hLV, hCI, rfl, hR, hM, hS, hz, hl⟩ := hW
  have hx := F.1
  have hb := F.2.1
  have hI := hLV.inv
  have hV := hLV.2.2.2.2.1
  have hK9 := hLV.2.2.2.2.2.1
  have hbd := hLV.b
  refine lv_aload_n hx hb dL_law_1125 rfl (lv_at hl 1 rfl) ?_
  refine lw_arg hx hb hX hbl hS hl (j := 1) (by omega) hL (by decide) dL_law_1126 dL_law_1127 dL_law_1128 dL_law_1129 dL_law_1130 ?_
  refine lw_arg hx hb hX hbl hS hl (j := 2) (by omega) hL (by decide) dL_law_1131 dL_law_1132 dL_law_1133 dL_law_1134 dL_law_1135 ?_
  obtain ⟨hLV1, hMN⟩ : LV (k + 1) r ∧ MN r r := ⟨hLV.same hk hLV.2.2.2.2 (SM.rf r), MN.rf⟩
  have rC := lC_room hLV1
  have rS9 := lS_room hLV1
  refine px_goV (st1 := [.int (f_alike r (xs (i + 1)) (xs (i + 2)))]) (px_callV F hK (c_X5_alike l D cy _ r g _ (xs (i + 1)) (xs (i + 2)) hI hV hK9) kc_X5_alike kw_methodLink_RL_105 rfl hR (c_recv hK hR) rfl ⟨rfl, rfl⟩ ⟨Nat.le_of_ble_eq_true rfl, Nat.le_of_ble_eq_true rfl⟩ hl.1 rfl (Nat.le_of_ble_eq_true rfl) dL_law_1136 ⟨lC_room hLV, lS_room hLV⟩) rfl ?_
  refine lv_aload_n hx hb dL_law_1139 rfl (lv_at hl 2 rfl) ?_
  refine lw_arg hx hb hX hbl hS hl (j := 1) (by omega) hL (by decide) dL_law_1140 dL_law_1141 dL_law_1142 dL_law_1143 dL_law_1144 ?_
  refine lw_arg hx hb hX hbl hS hl (j := 2) (by omega) hL (by decide) dL_law_1145 dL_law_1146 dL_law_1147 dL_law_1148 dL_law_1149 ?_
  refine px_goV (st1 := [.int (f_alike r (xs (i + 1)) (xs (i + 2))), .int (f_alike r (xs (i + 1)) (xs (i + 2)))]) (px_callV F hK (c_X6_alike l D cy _ G r C E _ (xs (i + 1)) (xs (i + 2)) hI) kc_X6_alike kw_methodLink_RL_108 rfl hM (m_recv hK hM) rfl ⟨rfl, rfl⟩ ⟨Nat.le_of_ble_eq_true rfl, Nat.le_of_ble_eq_true rfl⟩ hl.1 rfl (Nat.le_of_ble_eq_true rfl) dL_law_1150 ⟨rC, rS9⟩) rfl ?_
  refine lv_icmp_eq (tgt := 1299) hx hb dL_law_1153 (by decide) (fun _ => ?_) (fun h => absurd rfl h)
  exact kk r _ _ _ ⟨g, C, E, hLV1, hCI.up (Nat.le_succ _) rfl rfl, rfl, hR, hM, hS, hz, hl⟩
set_option maxHeartbeats 400000 in
set_option maxRecDepth 100000 in
theorem lw_trouble {p : Program} {l : Launch} {e : Env} {s : State} {m : MethodId} {below : List Frame} {meth : Method} {c : Code} {Q : State → Prop} {b L z0 z1 o1 : Nat} {xs : Nat → Int32} {D : va_G} {cy : Nat → ClassId} {G : Nat → Nat} (F : px_F p m c cL_law 4 s #[Value.ref b] RL) (hK : KK D cy s) (hX : va_X b L xs s s.heap) (hbl : b < s.heap.size) (hL : L ≤ 3584) {k i : Nat} {r : RS} {H : Heap} {locs : List Loc} {ls : Array Slot} (hW : LW D cy s b z0 z1 o1 G k i r H locs ls) (hk : k + 1 ≤ 512) (hi : i + 7 ≤ L) (kk : ∀ (r' : RS) (H' : Heap) (locs' : List Loc) (ls' : Array Slot), LW D cy s b z0 z1 o1 G (k + 1) i r' H' locs' ls' → W p l e room_1 s m #[Value.ref b] below meth c H' locs' (lC r') (lS r') Q (F0 m 1299 ls' [])) : W p l e room_1 s m #[Value.ref b] below meth c H locs (lC r) (lS r) Q (F0 m 1158 ls []) := by
  obtain ⟨g, C, E, hLV, hCI, rfl, hR, hM, hS, hz, hl⟩ := hW
  have hx := F.1
  have hb := F.2.1
  have hI := hLV.inv
  have hV := hLV.2.2.2.2.1
  have hK9 := hLV.2.2.2.2.2.1
  have hbd := hLV.b
  refine lv_aload_n hx hb dL_law_1158 rfl (lv_at hl 1 rfl) ?_
  refine lw_arg hx hb hX hbl hS hl (j := 1) (by omega) hL (by decide) dL_law_1159 dL_law_1160 dL_law_1161 dL_law_1162 dL_law_1163 ?_
  refine lw_arg hx hb hX hbl hS hl (j := 2) (by omega) hL (by decide) dL_law_1164 dL_law_1165 dL_law_1166 dL_law_1167 dL_law_1168 ?_
  have hsm := s_trouble hLV (xs (i + 1)) (xs (i + 2))
  have hLV1 : LV (k + 1) (f_trouble r (xs (i + 1)) (xs (i + 2))).1 := hLV.same hk hsm.1 hsm.2
  have hMN : MN r (f_trouble r (xs (i + 1)) (xs (i + 2))).1 := hsm.2.mn
  have rC := lC_room hLV1
  have rS9 := lS_room hLV1
  refine px_goQ2 (px_callV F hK (c_X5_trouble l D cy _ r g _ (xs (i + 1)) (xs (i + 2)) hI hV hK9) kc_X5_trouble kw_methodLink_RL_109 rfl hR (c_recv hK hR) rfl ⟨rfl, rfl⟩ ⟨Nat.le_of_ble_eq_true rfl, Nat.le_of_ble_eq_true rfl⟩ hl.1 rfl (Nat.le_of_ble_eq_true rfl) dL_law_1169 ⟨lC_room hLV, lS_room hLV⟩) (aC_aL hz.1) hS (fun v H1 locs1 hp hz1 ho hS => ?_)
  obtain ⟨rfl, hR⟩ := hp
  have hM := MR.keep hM ho aM_aC
  refine W.widen (k := lC (f_trouble r (xs (i + 1)) (xs (i + 2))).1) (n := lS (f_trouble r (xs (i + 1)) (xs (i + 2))).1) (lC_le hMN) (lS_le hMN) ?_
  refine W.eq (g2 := F0 m 1172 ls [.int (f_trouble r (xs (i + 1)) (xs (i + 2))).2]) rfl ?_
  refine lv_aload_n hx hb dL_law_1172 rfl (lv_at hl 2 rfl) ?_
  refine lw_arg hx hb hX hbl hS hl (j := 1) (by omega) hL (by decide) dL_law_1173 dL_law_1174 dL_law_1175 dL_law_1176 dL_law_1177 ?_
  refine lw_arg hx hb hX hbl hS hl (j := 2) (by omega) hL (by decide) dL_law_1178 dL_law_1179 dL_law_1180 dL_law_1181 dL_law_1182 ?_
  refine px_goQ2 (px_callV F hK (c_X6_trouble l D cy _ G r C E _ (xs (i + 1)) (xs (i + 2)) hI) kc_X6_trouble kw_methodLink_RL_112 rfl hM (m_recv hK hM) rfl ⟨rfl, rfl⟩ ⟨Nat.le_of_ble_eq_true rfl, Nat.le_of_ble_eq_true rfl⟩ hl.1 rfl (Nat.le_of_ble_eq_true rfl) dL_law_1183 ⟨rC, rS9⟩) (aM_aL hz.1.1) hS (fun v H2 locs2 hp hz2 ho hS => ?_)
  obtain ⟨rfl, C2, E2, hM⟩ := hp
  have hR := CR.keep hR ho aC_aM
  refine W.eq (g2 := F0 m 1186 ls [.int (f_trouble r (xs (i + 1)) (xs (i + 2))).2, .int (f_trouble r (xs (i + 1)) (xs (i + 2))).2]) rfl ?_
  refine lv_icmp_eq (tgt := 1299) hx hb dL_law_1186 (by decide) (fun _ => ?_) (fun h => absurd rfl h)
  exact kk ((f_trouble r (xs (i + 1)) (xs (i + 2))).1) _ _ _ ⟨g, C2, E2, hLV1, hCI.up (Nat.le_succ _) hsm.2.1 hsm.2.2.2, rfl, hR, hM, hS, ⟨hz.1, Nat.le_trans hz.2 (Nat.le_trans hz1 hz2)⟩, hl⟩
set_option maxHeartbeats 400000 in
set_option maxRecDepth 100000 in
theorem lw_raise {p : Program} {l : Launch} {e : Env} {s : State} {m : MethodId} {below : List Frame} {meth : Method} {c : Code} {Q : State → Prop} {b L z0 z1 o1 : Nat} {xs : Nat → Int32} {D : va_G} {cy : Nat → ClassId} {G : Nat → Nat} (F : px_F p m c cL_law 4 s #[Value.ref b] RL) (hK : KK D cy s) (hX : va_X b L xs s s.heap) (hbl : b < s.heap.size) (hL : L ≤ 3584) {k i : Nat} {r : RS} {H : Heap} {locs : List Loc} {ls : Array Slot} (hW : LW D cy s b z0 z1 o1 G k i r H locs ls) (hk : k + 1 ≤ 512) (hi : i + 7 ≤ L) (kk : ∀ (r' : RS) (H' : Heap) (locs' : List Loc) (ls' : Array Slot), LW D cy s b z0 z1 o1 G (k + 1) i r' H' locs' ls' → W p l e room_1 s m #[Value.ref b] below meth c H' locs' (lC r') (lS r') Q (F0 m 1299 ls' [])) : W p l e room_1 s m #[Value.ref b] below meth c H locs (lC r) (lS r) Q (F0 m 1191 ls []) := by
  obtain ⟨g, C, E, hLV, hCI, rfl, hR, hM, hS, hz, hl⟩ := hW
  have hx := F.1
  have hb := F.2.1
  have hI := hLV.inv
  have hV := hLV.2.2.2.2.1
  have hK9 := hLV.2.2.2.2.2.1
  have hbd := hLV.b
  refine lv_aload_n hx hb dL_law_1191 rfl (lv_at hl 1 rfl) ?_
  refine lw_arg hx hb hX hbl hS hl (j := 1) (by omega) hL (by decide) dL_law_1192 dL_law_1193 dL_law_1194 dL_law_1195 dL_law_1196 ?_
  refine lw_arg hx hb hX hbl hS hl (j := 2) (by omega) hL (by decide) dL_law_1197 dL_law_1198 dL_law_1199 dL_law_1200 dL_law_1201 ?_
  have hsm := s_raise hLV (xs (i + 1)) (xs (i + 2))
  have hLV1 : LV (k + 1) (f_raise r (xs (i + 1)) (xs (i + 2))).1 := hLV.same hk hsm.1 hsm.2
  have hMN : MN r (f_raise r (xs (i + 1)) (xs (i + 2))).1 := hsm.2.mn
  have rC := lC_room hLV1
  have rS9 := lS_room hLV1
  refine px_goQ2 (px_callV F hK (c_X5_raise l D cy _ r g _ (xs (i + 1)) (xs (i + 2)) hI hV hK9) kc_X5_raise kw_methodLink_RL_113 rfl hR (c_recv hK hR) rfl ⟨rfl, rfl⟩ ⟨Nat.le_of_ble_eq_true rfl, Nat.le_of_ble_eq_true rfl⟩ hl.1 rfl (Nat.le_of_ble_eq_true rfl) dL_law_1202 ⟨lC_room hLV, lS_room hLV⟩) (aC_aL hz.1) hS (fun v H1 locs1 hp hz1 ho hS => ?_)
  obtain ⟨rfl, hR⟩ := hp
  have hM := MR.keep hM ho aM_aC
  refine W.widen (k := lC (f_raise r (xs (i + 1)) (xs (i + 2))).1) (n := lS (f_raise r (xs (i + 1)) (xs (i + 2))).1) (lC_le hMN) (lS_le hMN) ?_
  refine W.eq (g2 := F0 m 1205 ls [.int (f_raise r (xs (i + 1)) (xs (i + 2))).2]) rfl ?_
  refine lv_aload_n hx hb dL_law_1205 rfl (lv_at hl 2 rfl) ?_
  refine lw_arg hx hb hX hbl hS hl (j := 1) (by omega) hL (by decide) dL_law_1206 dL_law_1207 dL_law_1208 dL_law_1209 dL_law_1210 ?_
  refine lw_arg hx hb hX hbl hS hl (j := 2) (by omega) hL (by decide) dL_law_1211 dL_law_1212 dL_law_1213 dL_law_1214 dL_law_1215 ?_
  refine px_goQ2 (px_callV F hK (c_X6_raise l D cy _ G r C E _ (xs (i + 1)) (xs (i + 2)) hI) kc_X6_raise kw_methodLink_RL_116 rfl hM (m_recv hK hM) rfl ⟨rfl, rfl⟩ ⟨Nat.le_of_ble_eq_true rfl, Nat.le_of_ble_eq_true rfl⟩ hl.1 rfl (Nat.le_of_ble_eq_true rfl) dL_law_1216 ⟨rC, rS9⟩) (aM_aL hz.1.1) hS (fun v H2 locs2 hp hz2 ho hS => ?_)
  obtain ⟨rfl, C2, E2, hM⟩ := hp
  have hR := CR.keep hR ho aC_aM
  refine W.eq (g2 := F0 m 1219 ls [.int (f_raise r (xs (i + 1)) (xs (i + 2))).2, .int (f_raise r (xs (i + 1)) (xs (i + 2))).2]) rfl ?_
  refine lv_icmp_eq (tgt := 1299) hx hb dL_law_1219 (by decide) (fun _ => ?_) (fun h => absurd rfl h)
  exact kk ((f_raise r (xs (i + 1)) (xs (i + 2))).1) _ _ _ ⟨g, C2, E2, hLV1, hCI.up (Nat.le_succ _) hsm.2.1 hsm.2.2.2, rfl, hR, hM, hS, ⟨hz.1, Nat.le_trans hz.2 (Nat.le_trans hz1 hz2)⟩, hl⟩
set_option maxHeartbeats 400000 in
set_option maxRecDepth 100000 in
theorem lw_passed {p : Program} {l : Launch} {e : Env} {s : State} {m : MethodId} {below : List Frame} {meth : Method} {c : Code} {Q : State → Prop} {b L z0 z1 o1 : Nat} {xs : Nat → Int32} {D : va_G} {cy : Nat → ClassId} {G : Nat → Nat} (F : px_F p m c cL_law 4 s #[Value.ref b] RL) (hK : KK D cy s) (hX : va_X b L xs s s.heap) (hbl : b < s.heap.size) (hL : L ≤ 3584) {k i : Nat} {r : RS} {H : Heap} {locs : List Loc} {ls : Array Slot} (hW : LW D cy s b z0 z1 o1 G k i r H locs ls) (hk : k + 1 ≤ 512) (hi : i + 7 ≤ L) (kk : ∀ (r' : RS) (H' : Heap) (locs' : List Loc) (ls' : Array Slot), LW D cy s b z0 z1 o1 G (k + 1) i r' H' locs' ls' → W p l e room_1 s m #[Value.ref b] below meth c H' locs' (lC r') (lS r') Q (F0 m 1299 ls' [])) : W p l e room_1 s m #[Value.ref b] below meth c H locs (lC r) (lS r) Q (F0 m 1224 ls []) := by
  obtain ⟨g, C, E, hLV, hCI, rfl, hR, hM, hS, hz, hl⟩ := hW
  have hx := F.1
  have hb := F.2.1
  have hI := hLV.inv
  have hV := hLV.2.2.2.2.1
  have hK9 := hLV.2.2.2.2.2.1
  have hbd := hLV.b
  refine lv_aload_n hx hb dL_law_1224 rfl (lv_at hl 1 rfl) ?_
  obtain ⟨hLV1, hMN⟩ : LV (k + 1) r ∧ MN r r := ⟨hLV.same hk hLV.2.2.2.2 (SM.rf r), MN.rf⟩
  have rC := lC_room hLV1
  have rS9 := lS_room hLV1
  refine px_goV (st1 := [.int (rPa r)]) (px_callV F hK (c_X5_passed l D cy _ r g _) kc_X5_passed kw_methodLink_RL_117 rfl hR (c_recv hK hR) rfl ⟨rfl, rfl⟩ ⟨Nat.le_of_ble_eq_true rfl, Nat.le_of_ble_eq_true rfl⟩ hl.1 rfl (Nat.le_of_ble_eq_true rfl) dL_law_1225 ⟨lC_room hLV, lS_room hLV⟩) rfl ?_
  refine lv_aload_n hx hb dL_law_1228 rfl (lv_at hl 2 rfl) ?_
  refine px_goV (st1 := [.int (rPa r), .int (rPa r)]) (px_callV F hK (c_X6_passed l D cy _ G r C E _) kc_X6_passed kw_methodLink_RL_121 rfl hM (m_recv hK hM) rfl ⟨rfl, rfl⟩ ⟨Nat.le_of_ble_eq_true rfl, Nat.le_of_ble_eq_true rfl⟩ hl.1 rfl (Nat.le_of_ble_eq_true rfl) dL_law_1229 ⟨rC, rS9⟩) rfl ?_
  refine lv_icmp_eq (tgt := 1299) hx hb dL_law_1232 (by decide) (fun _ => ?_) (fun h => absurd rfl h)
  exact kk r _ _ _ ⟨g, C, E, hLV1, hCI.up (Nat.le_succ _) rfl rfl, rfl, hR, hM, hS, hz, hl⟩
set_option maxHeartbeats 400000 in
set_option maxRecDepth 100000 in
theorem lw_number {p : Program} {l : Launch} {e : Env} {s : State} {m : MethodId} {below : List Frame} {meth : Method} {c : Code} {Q : State → Prop} {b L z0 z1 o1 : Nat} {xs : Nat → Int32} {D : va_G} {cy : Nat → ClassId} {G : Nat → Nat} (F : px_F p m c cL_law 4 s #[Value.ref b] RL) (hK : KK D cy s) (hX : va_X b L xs s s.heap) (hbl : b < s.heap.size) (hL : L ≤ 3584) {k i : Nat} {r : RS} {H : Heap} {locs : List Loc} {ls : Array Slot} (hW : LW D cy s b z0 z1 o1 G k i r H locs ls) (hk : k + 1 ≤ 512) (hi : i + 7 ≤ L) (kk : ∀ (r' : RS) (H' : Heap) (locs' : List Loc) (ls' : Array Slot), LW D cy s b z0 z1 o1 G (k + 1) i r' H' locs' ls' → W p l e room_1 s m #[Value.ref b] below meth c H' locs' (lC r') (lS r') Q (F0 m 1299 ls' [])) : W p l e room_1 s m #[Value.ref b] below meth c H locs (lC r) (lS r) Q (F0 m 1237 ls []) := by
  obtain ⟨g, C, E, hLV, hCI, rfl, hR, hM, hS, hz, hl⟩ := hW
  have hx := F.1
  have hb := F.2.1
  have hI := hLV.inv
  have hV := hLV.2.2.2.2.1
  have hK9 := hLV.2.2.2.2.2.1
  have hbd := hLV.b
  refine lv_aload_n hx hb dL_law_1237 rfl (lv_at hl 1 rfl) ?_
  obtain ⟨hLV1, hMN⟩ : LV (k + 1) r ∧ MN r r := ⟨hLV.same hk hLV.2.2.2.2 (SM.rf r), MN.rf⟩
  have rC := lC_room hLV1
  have rS9 := lS_room hLV1
  refine px_goV (st1 := [.int (rNu r)]) (px_callV F hK (c_X5_number l D cy _ r g _) kc_X5_number kw_methodLink_RL_122 rfl hR (c_recv hK hR) rfl ⟨rfl, rfl⟩ ⟨Nat.le_of_ble_eq_true rfl, Nat.le_of_ble_eq_true rfl⟩ hl.1 rfl (Nat.le_of_ble_eq_true rfl) dL_law_1238 ⟨lC_room hLV, lS_room hLV⟩) rfl ?_
  refine lv_aload_n hx hb dL_law_1241 rfl (lv_at hl 2 rfl) ?_
  refine px_goV (st1 := [.int (rNu r), .int (rNu r)]) (px_callV F hK (c_X6_number l D cy _ G r C E _) kc_X6_number kw_methodLink_RL_125 rfl hM (m_recv hK hM) rfl ⟨rfl, rfl⟩ ⟨Nat.le_of_ble_eq_true rfl, Nat.le_of_ble_eq_true rfl⟩ hl.1 rfl (Nat.le_of_ble_eq_true rfl) dL_law_1242 ⟨rC, rS9⟩) rfl ?_
  refine lv_icmp_eq (tgt := 1299) hx hb dL_law_1245 (by decide) (fun _ => ?_) (fun h => absurd rfl h)
  exact kk r _ _ _ ⟨g, C, E, hLV1, hCI.up (Nat.le_succ _) rfl rfl, rfl, hR, hM, hS, hz, hl⟩
set_option maxHeartbeats 400000 in
set_option maxRecDepth 100000 in
theorem lw_fault {p : Program} {l : Launch} {e : Env} {s : State} {m : MethodId} {below : List Frame} {meth : Method} {c : Code} {Q : State → Prop} {b L z0 z1 o1 : Nat} {xs : Nat → Int32} {D : va_G} {cy : Nat → ClassId} {G : Nat → Nat} (F : px_F p m c cL_law 4 s #[Value.ref b] RL) (hK : KK D cy s) (hX : va_X b L xs s s.heap) (hbl : b < s.heap.size) (hL : L ≤ 3584) {k i : Nat} {r : RS} {H : Heap} {locs : List Loc} {ls : Array Slot} (hW : LW D cy s b z0 z1 o1 G k i r H locs ls) (hk : k + 1 ≤ 512) (hi : i + 7 ≤ L) (kk : ∀ (r' : RS) (H' : Heap) (locs' : List Loc) (ls' : Array Slot), LW D cy s b z0 z1 o1 G (k + 1) i r' H' locs' ls' → W p l e room_1 s m #[Value.ref b] below meth c H' locs' (lC r') (lS r') Q (F0 m 1299 ls' [])) : W p l e room_1 s m #[Value.ref b] below meth c H locs (lC r) (lS r) Q (F0 m 1250 ls []) := by
  obtain ⟨g, C, E, hLV, hCI, rfl, hR, hM, hS, hz, hl⟩ := hW
  have hx := F.1
  have hb := F.2.1
  have hI := hLV.inv
  have hV := hLV.2.2.2.2.1
  have hK9 := hLV.2.2.2.2.2.1
  have hbd := hLV.b
  refine lv_aload_n hx hb dL_law_1250 rfl (lv_at hl 1 rfl) ?_
  obtain ⟨hLV1, hMN⟩ : LV (k + 1) r ∧ MN r r := ⟨hLV.same hk hLV.2.2.2.2 (SM.rf r), MN.rf⟩
  have rC := lC_room hLV1
  have rS9 := lS_room hLV1
  refine px_goV (st1 := [.int (rFa r)]) (px_callV F hK (c_X5_fault l D cy _ r g _) kc_X5_fault kw_methodLink_RL_126 rfl hR (c_recv hK hR) rfl ⟨rfl, rfl⟩ ⟨Nat.le_of_ble_eq_true rfl, Nat.le_of_ble_eq_true rfl⟩ hl.1 rfl (Nat.le_of_ble_eq_true rfl) dL_law_1251 ⟨lC_room hLV, lS_room hLV⟩) rfl ?_
  refine lv_aload_n hx hb dL_law_1254 rfl (lv_at hl 2 rfl) ?_
  refine px_goV (st1 := [.int (rFa r), .int (rFa r)]) (px_callV F hK (c_X6_fault l D cy _ G r C E _) kc_X6_fault kw_methodLink_RL_129 rfl hM (m_recv hK hM) rfl ⟨rfl, rfl⟩ ⟨Nat.le_of_ble_eq_true rfl, Nat.le_of_ble_eq_true rfl⟩ hl.1 rfl (Nat.le_of_ble_eq_true rfl) dL_law_1255 ⟨rC, rS9⟩) rfl ?_
  refine lv_icmp_eq (tgt := 1299) hx hb dL_law_1258 (by decide) (fun _ => ?_) (fun h => absurd rfl h)
  exact kk r _ _ _ ⟨g, C, E, hLV1, hCI.up (Nat.le_succ _) rfl rfl, rfl, hR, hM, hS, hz, hl⟩
set_option maxHeartbeats 400000 in
set_option maxRecDepth 100000 in
theorem lw_clear {p : Program} {l : Launch} {e : Env} {s : State} {m : MethodId} {below : List Frame} {meth : Method} {c : Code} {Q : State → Prop} {b L z0 z1 o1 : Nat} {xs : Nat → Int32} {D : va_G} {cy : Nat → ClassId} {G : Nat → Nat} (F : px_F p m c cL_law 4 s #[Value.ref b] RL) (hK : KK D cy s) (hX : va_X b L xs s s.heap) (hbl : b < s.heap.size) (hL : L ≤ 3584) {k i : Nat} {r : RS} {H : Heap} {locs : List Loc} {ls : Array Slot} (hW : LW D cy s b z0 z1 o1 G k i r H locs ls) (hk : k + 1 ≤ 512) (hi : i + 7 ≤ L) (kk : ∀ (r' : RS) (H' : Heap) (locs' : List Loc) (ls' : Array Slot), LW D cy s b z0 z1 o1 G (k + 1) i r' H' locs' ls' → W p l e room_1 s m #[Value.ref b] below meth c H' locs' (lC r') (lS r') Q (F0 m 1299 ls' [])) : W p l e room_1 s m #[Value.ref b] below meth c H locs (lC r) (lS r) Q (F0 m 1263 ls []) := by
  obtain ⟨g, C, E, hLV, hCI, rfl, hR, hM, hS, hz, hl⟩ := hW
  have hx := F.1
  have hb := F.2.1
  have hI := hLV.inv
  have hV := hLV.2.2.2.2.1
  have hK9 := hLV.2.2.2.2.2.1
  have hbd := hLV.b
  refine lv_aload_n hx hb dL_law_1263 rfl (lv_at hl 1 rfl) ?_
  have hsm := s_clear hLV 
  have hLV1 : LV (k + 1) (f_clear r).1 := hLV.same hk hsm.1 hsm.2
  have hMN : MN r (f_clear r).1 := hsm.2.mn
  have rC := lC_room hLV1
  have rS9 := lS_room hLV1
  refine px_goQ2 (px_callV F hK (c_X5_clear l D cy _ r g _  hI hV hK9) kc_X5_clear kw_methodLink_RL_130 rfl hR (c_recv hK hR) rfl ⟨rfl, rfl⟩ ⟨Nat.le_of_ble_eq_true rfl, Nat.le_of_ble_eq_true rfl⟩ hl.1 rfl (Nat.le_of_ble_eq_true rfl) dL_law_1264 ⟨lC_room hLV, lS_room hLV⟩) (aC_aL hz.1) hS (fun v H1 locs1 hp hz1 ho hS => ?_)
  obtain ⟨rfl, hR⟩ := hp
  have hM := MR.keep hM ho aM_aC
  refine W.widen (k := lC (f_clear r).1) (n := lS (f_clear r).1) (lC_le hMN) (lS_le hMN) ?_
  refine W.eq (g2 := F0 m 1267 ls [.int (f_clear r).2]) rfl ?_
  refine lv_aload_n hx hb dL_law_1267 rfl (lv_at hl 2 rfl) ?_
  refine px_goQ2 (px_callV F hK (c_X6_clear l D cy _ G r C E _  hI) kc_X6_clear kw_methodLink_RL_133 rfl hM (m_recv hK hM) rfl ⟨rfl, rfl⟩ ⟨Nat.le_of_ble_eq_true rfl, Nat.le_of_ble_eq_true rfl⟩ hl.1 rfl (Nat.le_of_ble_eq_true rfl) dL_law_1268 ⟨rC, rS9⟩) (aM_aL hz.1.1) hS (fun v H2 locs2 hp hz2 ho hS => ?_)
  obtain ⟨rfl, C2, E2, hM⟩ := hp
  have hR := CR.keep hR ho aC_aM
  refine W.eq (g2 := F0 m 1271 ls [.int (f_clear r).2, .int (f_clear r).2]) rfl ?_
  refine lv_icmp_eq (tgt := 1299) hx hb dL_law_1271 (by decide) (fun _ => ?_) (fun h => absurd rfl h)
  exact kk ((f_clear r).1) _ _ _ ⟨g, C2, E2, hLV1, hCI.up (Nat.le_succ _) hsm.2.1 hsm.2.2.2, rfl, hR, hM, hS, ⟨hz.1, Nat.le_trans hz.2 (Nat.le_trans hz1 hz2)⟩, hl⟩
set_option maxHeartbeats 400000 in
set_option maxRecDepth 100000 in
theorem lw_told {p : Program} {l : Launch} {e : Env} {s : State} {m : MethodId} {below : List Frame} {meth : Method} {c : Code} {Q : State → Prop} {b L z0 z1 o1 : Nat} {xs : Nat → Int32} {D : va_G} {cy : Nat → ClassId} {G : Nat → Nat} (F : px_F p m c cL_law 4 s #[Value.ref b] RL) (hK : KK D cy s) (hX : va_X b L xs s s.heap) (hbl : b < s.heap.size) (hL : L ≤ 3584) {k i : Nat} {r : RS} {H : Heap} {locs : List Loc} {ls : Array Slot} (hW : LW D cy s b z0 z1 o1 G k i r H locs ls) (hk : k + 1 ≤ 512) (hi : i + 7 ≤ L) (kk : ∀ (r' : RS) (H' : Heap) (locs' : List Loc) (ls' : Array Slot), LW D cy s b z0 z1 o1 G (k + 1) i r' H' locs' ls' → W p l e room_1 s m #[Value.ref b] below meth c H' locs' (lC r') (lS r') Q (F0 m 1299 ls' [])) : W p l e room_1 s m #[Value.ref b] below meth c H locs (lC r) (lS r) Q (F0 m 1276 ls []) := by
  obtain ⟨g, C, E, hLV, hCI, rfl, hR, hM, hS, hz, hl⟩ := hW
  have hx := F.1
  have hb := F.2.1
  have hI := hLV.inv
  have hV := hLV.2.2.2.2.1
  have hK9 := hLV.2.2.2.2.2.1
  have hbd := hLV.b
  refine lv_aload_n hx hb dL_law_1276 rfl (lv_at hl 1 rfl) ?_
  refine lw_arg hx hb hX hbl hS hl (j := 1) (by omega) hL (by decide) dL_law_1277 dL_law_1278 dL_law_1279 dL_law_1280 dL_law_1281 ?_
  obtain ⟨hLV1, hMN⟩ : LV (k + 1) r ∧ MN r r := ⟨hLV.same hk hLV.2.2.2.2 (SM.rf r), MN.rf⟩
  have rC := lC_room hLV1
  have rS9 := lS_room hLV1
  refine px_goV (st1 := [.int (f_told r (xs (i + 1)))]) (px_callV F hK (c_X5_told l D cy _ r g _ (xs (i + 1)) hCI.1) kc_X5_told kw_methodLink_RL_134 rfl hR (c_recv hK hR) rfl ⟨rfl, rfl⟩ ⟨Nat.le_of_ble_eq_true rfl, Nat.le_of_ble_eq_true rfl⟩ hl.1 rfl (Nat.le_of_ble_eq_true rfl) dL_law_1282 ⟨lC_room hLV, lS_room hLV⟩) rfl ?_
  refine lv_aload_n hx hb dL_law_1285 rfl (lv_at hl 2 rfl) ?_
  refine lw_arg hx hb hX hbl hS hl (j := 1) (by omega) hL (by decide) dL_law_1286 dL_law_1287 dL_law_1288 dL_law_1289 dL_law_1290 ?_
  refine px_goV (st1 := [.int (f_told r (xs (i + 1))), .int (f_told r (xs (i + 1)))]) (px_callV F hK (c_X6_told l D cy _ G r C E _ (xs (i + 1)) hI) kc_X6_told kw_methodLink_RL_137 rfl hM (m_recv hK hM) rfl ⟨rfl, rfl⟩ ⟨Nat.le_of_ble_eq_true rfl, Nat.le_of_ble_eq_true rfl⟩ hl.1 rfl (Nat.le_of_ble_eq_true rfl) dL_law_1291 ⟨rC, rS9⟩) rfl ?_
  refine lv_icmp_eq (tgt := 1299) hx hb dL_law_1294 (by decide) (fun _ => ?_) (fun h => absurd rfl h)
  exact kk r _ _ _ ⟨g, C, E, hLV1, hCI.up (Nat.le_succ _) rfl rfl, rfl, hR, hM, hS, hz, hl⟩
