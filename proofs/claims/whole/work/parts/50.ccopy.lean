theorem enc_mv {cy : Nat → ClassId} {r : RS} {g : CG} (hs : SI r) {b y c : Nat} (v : Nat → Int64) (h1 : b ≠ 0) (h2 : b ≤ rT r) (hc : c_dm r c) (hne : c ≠ 3 * b + 1) : ∀ z, y + z ≤ rMn r b → c_en cy (sI r (mvF (rI r) (rS r b + y) v z)) g c = c_en cy r g c := by
  intro z
  induction z with
  | zero => intro _; rfl
  | succ z ih =>
    intro hz
    have e : sI r (mvF (rI r) (rS r b + y) v (z + 1)) = f_put (sI r (mvF (rI r) (rS r b + y) v z)) b (y + z) (v z) := by
      show sI r (va_up (mvF (rI r) (rS r b + y) v z) (rS r b + y + z) (v z)) = sI r (va_up (mvF (rI r) (rS r b + y) v z) (rS r b + (y + z)) (v z))
      rw [Nat.add_assoc]
    rw [e, enc_put (r := sI r (mvF (rI r) (rS r b + y) v z)) (show SI (sI r (mvF (rI r) (rS r b + y) v z)) from hs) (v z) h1 h2 (show y + z < rMn r b by omega) (show c_dm (sI r (mvF (rI r) (rS r b + y) v z)) c from hc) hne]
    exact ih (by omega)
theorem bits_cpy {r : RS} {a b x y z : Nat} (hx : x + z ≤ rMn r a) (hy : y + z ≤ rMn r b) : c_bits (sI r (mvF (rI r) (rS r b + y) (fun q => f_at r a (x + q)) z)) b = va_cpy (c_bits r a) (c_bits r b) x y z := by
  funext q
  show (if q < rMn r b then mvF (rI r) (rS r b + y) (fun q => f_at r a (x + q)) z (rS r b + q) else 0) = if y ≤ q ∧ q < y + z then c_bits r a (x + (q - y)) else c_bits r b q
  rw [mvF_eq]
  by_cases h : y ≤ q ∧ q < y + z
  · rw [if_pos h, if_pos (by omega), if_pos (by omega), show rS r b + q - (rS r b + y) = q - y by omega]
    show f_at r a (x + (q - y)) = if x + (q - y) < rMn r a then rI r (rS r a + (x + (q - y))) else 0
    rw [if_pos (by omega)]; rfl
  · rw [if_neg h, if_neg (show ¬ (rS r b + y ≤ rS r b + q ∧ rS r b + q < rS r b + y + z) by omega)]
theorem c_copy {p : Program} {l : Launch} {e : Env} {R : Room} {s : State} {m : MethodId} {args : Array Value} {below : List Frame} {meth : Method} {c : Code} {H : Heap} {locs : List Loc} {cells slots : Nat} {Q : State → Prop} {cc : ByteArray} {pc nL : Nat} {ls : Array Slot} {D : va_G} {cy : Nat → ClassId} {A : Nat → Prop} {H0 : Heap} {r : RS} {g : CG} (F : px_F p m c cc nL s args RX5) (hK : KK D cy s) (hC : CR D cy A r g H) (hS : va_S A H0 H locs) (hs : SI r) {a b x y z : Nat} (ha : a ≠ 0) (ha2 : a ≤ rT r) (hb : b ≠ 0) (hb2 : b ≤ rT r) (ka : rK r a < 8) (kb : rK r b < 8) (hx : x + z ≤ rMn r a) (hy : y + z ≤ rMn r b) (hma : rMn r a ≤ 30) (hmb : rMn r b ≤ 30) (hl : ls.size = nL) (hfr : 1 ≤ R.frames) (hlo : nativeFrameWords "java/lang/System" "arraycopy" 5 + 11 ≤ R.locals) (hdg : decode cc pc = .ok (.invokestatic 204, 3))
    (kk : ∀ (H : Heap) (locs : List Loc), CR D cy A (sI r (mvF (rI r) (rS r b + y) (fun q => f_at r a (x + q)) z)) g H → va_S A H0 H locs → W p l e R s m args below meth c H locs cells slots Q (F0 m (pc + 3) ls [])) : W p l e R s m args below meth c H locs cells slots Q (F0 m pc ls [.int (nI z), .int (nI y), .ref (gA g (3 * b + 1)), .int (nI x), .ref (gA g (3 * a + 1))]) := by
  obtain ⟨cs, h1, hP, hD⟩ := hC
  obtain ⟨i, hi⟩ := List.getElem?_of_mem ((h1 (3 * b + 1)).mpr (dm_a hb2))
  obtain ⟨j, hj⟩ := List.getElem?_of_mem ((h1 (3 * a + 1)).mpr (dm_a ha2))
  have qi := wl_at (ad := gA g) (en := c_en cy r g) hi
  have qj := wl_at (ad := gA g) (en := c_en cy r g) hj
  rw [en_arr _ _ _ hb, show c_arr cy r g b = .inl (cy 2, rMn r b, .inr (.inl (c_bits r b))) from if_pos kb] at qi
  rw [en_arr _ _ _ ha, show c_arr cy r g a = .inl (cy 2, rMn r a, .inr (.inl (c_bits r a))) from if_pos ka] at qj
  have cx := nI_clamp (show x < 2 ^ 31 by omega)
  have cy' := nI_clamp (show y < 2 ^ 31 by omega)
  have cz := nI_clamp (show z < 2 ^ 31 by omega)
  refine va_copyl (rest := []) F.1 F.2.1 (by rw [F.2.2.1]; exact hl.symm) F.2.2.2.1 (F.2.2.2.2 _ kw_methodLink_RX5_204) (F.2.2.2.2 _ kw_native_arraycopyName) (F.2.2.2.2 _ kw_static_arraycopyName) (F.2.2.2.2 _ kw_initialized_java_lang_System) hK.1 hP hD hS j i 2 2 qj qi rfl rfl rfl (nI_pos (by omega)) (nI_pos (by omega)) (nI_pos (by omega)) (by rw [cx, cz]; exact hx) (by rw [cy', cz]; exact hy) (fun _ _ => rfl) hfr (by simpa using hlo) hdg (fun H1 locs1 hP' hD' hS => ?_)
  rw [cx, cy', cz] at hP' hD'
  refine kk H1 locs1 (CR.close h1 hi hD hP' hD' rfl (fun _ => Iff.rfl) ?_ (fun c hc hne => enc_mv hs _ hb hb2 hc hne z hy)) hS
  rw [en_arr _ _ _ hb, show c_arr cy (sI r (mvF (rI r) (rS r b + y) (fun q => f_at r a (x + q)) z)) g b = .inl (cy 2, rMn r b, .inr (.inl (c_bits (sI r (mvF (rI r) (rS r b + y) (fun q => f_at r a (x + q)) z)) b))) from if_pos kb, bits_cpy hx hy]
theorem tr_in {r : RS} {a b : Nat} {x y z : Nat} (ha : rMn r a ≤ 30) (hb : rMn r b ≤ 30) (h : f_cpo r a b (nI x) (nI y) (nI z) = false) (hx : x < 2 ^ 31) (hy : y < 2 ^ 31) (hz : z < 2 ^ 31) : f_tr r a b (nI x) (nI y) (nI z) = f_come r a b y z (fun q => f_at r a (x + q)) := by
  unfold f_tr
  rw [h, ix_nI hx, ix_nI hy, ix_nI hz]; rfl
theorem tr_out {r : RS} {a b : Nat} {i j n : Int32} (h : f_cpo r a b i j n = true) : f_tr r a b i j n = (r, -13) := by
  unfold f_tr
  rw [if_pos h]
theorem tr_plain {r : RS} {a b x y z : Nat} (kb : rK r b < 8) : f_come r a b y z (fun q => f_at r a (x + q)) = (sI r (mvF (rI r) (rS r b + y) (fun q => f_at r a (x + q)) z), nI z) := come_all (fun q _ => by unfold f_canStand; rw [if_pos (Or.inl kb)])
