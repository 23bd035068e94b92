/-! the class: twins: rows, pure facts -/
theorem en_bw {cy : Nat → ClassId} {r : RS} {g g' : CG} {t : Nat} (hA : gA g' = gA g) (hN : gN g' = gN g) (hM : gM g' = gM g) (hB : ∀ u, u ≠ t → gB g' u = gB g u ∧ gW g' u = gW g u) {c : Nat} (hc : c ≠ 3 * t) : c_en cy r g' c = c_en cy r g c := by
  by_cases a : c = 0
  · subst a; rw [en_x, en_x]; unfold x_fs; rw [hA, hN, hM]
  by_cases b : c = 1
  · subst b; rw [en_col, en_col, hA]
  by_cases d : c = 2
  · subst d; rfl
  rcases (show c % 3 = 0 ∨ c % 3 = 1 ∨ c % 3 = 2 by omega) with q | q | q
  · obtain ⟨u, rfl⟩ : ∃ u, c = 3 * u := ⟨c / 3, by omega⟩
    have hu := hB u (by omega)
    rw [en_tab _ _ _ (by omega), en_tab _ _ _ (by omega)]
    unfold c_tab t_fs
    rw [hu.1, hu.2, hA]
  · obtain ⟨u, rfl⟩ : ∃ u, c = 3 * u + 1 := ⟨c / 3, by omega⟩
    rw [en_arr _ _ _ (by omega), en_arr _ _ _ (by omega)]
    unfold c_arr c_items
    rw [hA]
  · obtain ⟨u, rfl⟩ : ∃ u, c = 3 * u + 2 := ⟨c / 3, by omega⟩
    rw [en_th _ _ _ (by omega), en_th _ _ _ (by omega)]
theorem c_ptw {p : Program} {l : Launch} {e : Env} {R : Room} {s : State} {m : MethodId} {args : Array Value} {below : List Frame} {meth : Method} {c : Code} {H : Heap} {locs : List Loc} {cells slots : Nat} {Q : State → Prop} {cc : ByteArray} {pc nL : Nat} {ls : Array Slot} {rest : List Value} {D : va_G} {cy : Nat → ClassId} {A : Nat → Prop} {H0 : Heap} {r : RS} {g : CG} (F : px_F p m c cc nL s args RX5) (hK : KK D cy s) (hC : CR D cy A r g H) (hS : va_S A H0 H locs) {t : Nat} (h0 : t ≠ 0) (ht : t ≤ rT r) (k : Nat) (hk : k < 3) (hfin : (TX2 k).2.2.2 = false) {v : Value} (g' : CG) (hA : gA g' = gA g) (hN : gN g' = gN g) (hM : gM g' = gM g) (hB : ∀ u, u ≠ t → gB g' u = gB g u ∧ gW g' u = gW g u) (hfs : (t_fs r g t).set k v = t_fs r g' t) {idx : Nat} (hw : Cond.fieldLink RX5 idx RX3 (TX2 k).2.1 (TX2 k).2.2.1 ∈ bigW) {ty : FieldType} (hd : parseFieldDescriptor (TX2 k).2.2.1 = some ty) (hn : narrow ty v = v) (hfit : fits ty v = true) (hdg : decode cc pc = .ok (.putfield idx, 3)) (kk : ∀ (H : Heap) (locs : List Loc), CR D cy A r g' H → va_S A H0 H locs → W p l e R s m args below meth c H locs cells slots Q (F0 m (pc + 3) ls rest)) : W p l e R s m args below meth c H locs cells slots Q (F0 m pc ls (v :: .ref (gA g (3 * t)) :: rest)) := by
  obtain ⟨cs, i, h1, hi, hP, hD, hq⟩ := hC.opn (dm_t ht)
  have hq' := hq
  rw [en_tab _ _ _ h0] at hq'
  by_cases hk8 : rK r t < 8
  · rw [show c_tab r g t = .inr (1, t_fs r g t) from if_pos hk8] at hq'
    refine va_put (D := D) (ci := 1) (v := v) (ty := ty) (C := RX2) (T := TX2) (N := 4) F.1 F.2.1 F.2.2.2.2 inlX2 tyX2 tyX2_ok nmX2 F.2.2.2.1 hK.1 hP hD hS i hq' rfl k (by omega) (F.2.2.2.2 _ hw) (fun x h => by rw [TX2_own hk] at h; exact h) hfin hd hn hfit (show k < 4 by omega) hdg (fun H1 locs1 hP' hD' hS => ?_)
    exact kk H1 locs1 (CR.close h1 hi hD hP' hD' hA (fun _ => Iff.rfl) (by rw [en_tab _ _ _ h0, show c_tab r g' t = .inr (1, t_fs r g' t) from if_pos hk8, hfs]) (fun c _ hne => en_bw hA hN hM hB hne)) hS
  · rw [show c_tab r g t = .inr (0, t_fs r g t) from if_neg hk8] at hq'
    refine va_put (D := D) (ci := 0) (v := v) (ty := ty) (C := RX0) (T := TX0) (N := 4) F.1 F.2.1 F.2.2.2.2 inlX0 tyX0 tyX0_ok nmX0 F.2.2.2.1 hK.1 hP hD hS i hq' rfl k (by omega) (by rw [TX02 hk]; exact F.2.2.2.2 _ hw) (fun x h => by rw [TX02 hk] at h ⊢; rw [TX2_own hk] at h; exact h) (by rw [TX02 hk]; exact hfin) (by rw [TX02 hk]; exact hd) hn hfit (show k < 4 by omega) hdg (fun H1 locs1 hP' hD' hS => ?_)
    exact kk H1 locs1 (CR.close h1 hi hD hP' hD' hA (fun _ => Iff.rfl) (by rw [en_tab _ _ _ h0, show c_tab r g' t = .inr (0, t_fs r g' t) from if_neg hk8, hfs]) (fun c _ hne => en_bw hA hN hM hB hne)) hS
abbrev g_b (g : CG) (t : Nat) (v : Int32) : CG := (gA g, gN g, va_up (gB g) t v, gW g, gM g)
abbrev g_w (g : CG) (t : Nat) (w : Option Nat) : CG := (gA g, gN g, gB g, va_up (gW g) t w, gM g)
/-- worlds while an aside goes on -/
def GY (r : RS) (g : CG) (r' : RS) (g' : CG) : Prop := rT r ≤ rT r' ∧ rM r ≤ rM r' ∧ (∀ c, c_dm r c → gA g' c = gA g c) ∧ gN g' = gN g ∧ gM g' = gM g ∧ ∀ t, t ≤ rT r' → (t ≤ rT r ∧ gB g' t = gB g t) ∨ gB g' t = gN g ∨ gB g' t = 0
theorem GY.rf {r r' : RS} {g : CG} (h1 : rT r' = rT r) (h2 : rM r' = rM r) : GY r g r' g := ⟨by omega, by omega, fun _ _ => rfl, rfl, rfl, fun t ht => Or.inl ⟨by omega, rfl⟩⟩
theorem GY.tr {r r1 r2 : RS} {g g1 g2 : CG} (h : GY r g r1 g1) (k : GY r1 g1 r2 g2) : GY r g r2 g2 := by
  obtain ⟨a1, a2, a3, a4, a5, a6⟩ := h
  obtain ⟨b1, b2, b3, b4, b5, b6⟩ := k
  refine ⟨by omega, by omega, fun c hc => (b3 c (dm_mono a1 a2 hc)).trans (a3 c hc), b4.trans a4, b5.trans a5, fun t ht => ?_⟩
  rcases b6 t ht with ⟨q1, q2⟩ | q | q
  · rcases a6 t q1 with ⟨z1, z2⟩ | z | z
    · exact Or.inl ⟨z1, q2.trans z2⟩
    · exact Or.inr (Or.inl (q2.trans z))
    · exact Or.inr (Or.inr (q2.trans z))
  · exact Or.inr (Or.inl (q.trans a4))
  · exact Or.inr (Or.inr q)
theorem GX.gy {r r' : RS} {g g' : CG} (h : GX r g r' g') (hm : gM g' = gM g) : GY r g r' g' := ⟨h.1, h.2.1, h.2.2.1, h.2.2.2.1, hm, fun t ht => by
  by_cases q : t ≤ rT r
  · exact Or.inl ⟨q, (h.2.2.2.2.1 t q).1⟩
  · exact Or.inr (Or.inr (h.2.2.2.2.2 t (by omega) ht))⟩
theorem GY.t {r r' : RS} {g g' : CG} (h : GY r g r' g') {t : Nat} (ht : t ≤ rT r) : gA g' (3 * t) = gA g (3 * t) := h.2.2.1 _ (dm_t ht)
theorem GY.x {r r' : RS} {g g' : CG} (h : GY r g r' g') : gA g' 0 = gA g 0 := h.2.2.1 _ (dm_0 r)
theorem GY.bw {r : RS} {g : CG} (t : Nat) (w : Option Nat) : GY r g r (g_w (g_b g t (gN g)) t w) := ⟨Nat.le_refl _, Nat.le_refl _, fun _ _ => rfl, rfl, rfl, fun u hu => by
  by_cases q : u = t
  · subst q; exact Or.inr (Or.inl (va_up_self _ _ _))
  · exact Or.inl ⟨hu, va_up_ne _ _ q⟩⟩
def TW (r0 : RS) (x : AS) (g : CG) : Prop := ∀ t, t ≠ 0 → t ≤ rT r0 → (x.2 t = 0 ∧ gB g t ≠ gN g) ∨ (x.2 t ≠ 0 ∧ gB g t = gN g ∧ gW g t = some (gA g (3 * x.2 t)))
def AV (r0 : RS) (x : AS) : Prop := AI r0 x ∧ VR x.1 ∧ VK x.1
theorem mv_cpy (I : Nat → Int64) (a b : Nat) : ∀ k, a + k ≤ b → cpyI I a b k = mvF I b (fun q => I (a + q)) k := by
  intro k
  induction k with
  | zero => intro _; rfl
  | succ k ih =>
    intro h
    show va_up (cpyI I a b k) (b + k) (cpyI I a b k (a + k)) = va_up (mvF I b (fun q => I (a + q)) k) (b + k) (I (a + k))
    rw [ih (by omega), mvF_eq, if_neg (by omega)]
theorem can_congr {r r' : RS} {a b b' : Nat} {v : Int64} (h1 : rK r' a = rK r a) (h2 : rK r' b' = rK r b) (h3 : rIM r' = rIM r) (h4 : 10 ≤ rK r a → rK r' (iv v) = rK r (iv v)) : f_canStand r' a v b' = f_canStand r a v b := by
  unfold f_canStand f_isOf
  rw [h1, h2, h3]
  by_cases q : 10 ≤ rK r a
  · rw [h4 q]
  · by_cases z : rK r b < 8 ∨ v = 0
    · rw [if_pos z, if_pos z]
    · rw [if_neg z, if_neg z, if_pos (by omega), if_pos (by omega)]
theorem can_inv {k : Nat} {r : RS} (h : Inv k r) {t q : Nat} (h0 : t ≠ 0) (ht : t ≤ rT r) (hq : q < rMn r t) : f_canStand r t (f_at r t q) t = true := by
  unfold f_canStand
  by_cases h8 : rK r t < 8
  · rw [if_pos (Or.inl h8)]
  · obtain ⟨e1, e2, e3, e4, e5⟩ := h.it h0 ht hq (by omega)
    by_cases hz : f_at r t q = 0
    · rw [if_pos (Or.inr hz)]
    · rw [if_neg (fun z => z.elim h8 hz)]
      have hz2 : iv (f_at r t q) ≠ 0 := fun z => hz (by rw [e1, z]; rfl)
      by_cases h10 : rK r t < 10
      · rw [if_pos h10]
        by_cases h9 : rK r t = 8
        · rw [decide_eq_true h9, Bool.true_or]
        · rw [decide_eq_true (show rK r t = 9 by omega), e4 (by omega) hz2, Bool.true_and, Bool.or_true]
      · rw [if_neg h10, decide_eq_true (show 10 ≤ rK r t by omega), (e5 (by omega)).2 hz2, Bool.true_and]
theorem f_put_same (r : RS) (t j : Nat) {v : Int64} (h : f_at r t j = v) : f_put r t j v = r := by
  have e : va_up (rI r) (rS r t + j) v = rI r := by
    funext q
    by_cases z : q = rS r t + j
    · subst z; rw [va_up_self]; exact h.symm
    · exact va_up_ne _ _ z
  show sI r (va_up (rI r) (rS r t + j) v) = r
  rw [e]
theorem si_end {r : RS} (hs : SI r) {t : Nat} (h0 : t ≠ 0) (ht : t ≤ rT r) : rS r t + rMn r t ≤ rN r := by
  rw [hs.1 t (by omega) ht, hs.2]
  have e : psum (rMn r) (t - 1) + rMn r t = psum (rMn r) t := by
    obtain ⟨u, rfl⟩ : ∃ u, t = u + 1 := ⟨t - 1, by omega⟩
    rfl
  rw [e]
  exact psum_mono _ ht
/-- a table made and filled from t -/
theorem flat_eq {r : RS} (hs : SI r) {t n : Nat} (k : Nat) (h0 : t ≠ 0) (ht : t ≤ rT r) {c : Nat} (hc : c ≤ rMn r t) (hn : n ≤ 30) : f_cpy (f_table r k n) t (rT r + 1) c = sI (f_table r k n) (mvF (rI (f_table r k n)) (rS (f_table r k n) (rT r + 1)) (fun q => f_at (f_table r k n) t q) c) := by
  show sI (f_table r k n) (cpyI (rI (f_table r k n)) (rS (f_table r k n) t) (rS (f_table r k n) (rT r + 1)) c) = _
  have e1 : rS (f_table r k n) t = rS r t := va_up_ne _ _ (by omega)
  have e2 : rS (f_table r k n) (rT r + 1) = rN r := va_up_self _ _ _
  have := si_end hs h0 ht
  rw [mv_cpy _ _ _ _ (by rw [e1, e2]; omega)]
  rfl
theorem flat_old {r : RS} (hs : SI r) {t n k c : Nat} (h0 : t ≠ 0) (ht : t ≤ rT r) (hc : c ≤ rMn r t) (hcn : c ≤ n) (hn : n ≤ 30) {u q : Nat} (u0 : u ≠ 0) (hu : u ≤ rT r) (hq : q < rMn r u) : f_at (f_cpy (f_table r k n) t (rT r + 1) c) u q = f_at r u q := by
  rw [flat_eq hs k h0 ht hc hn]
  show mvF _ _ _ c (rS (f_table r k n) u + q) = _
  have e1 : rS (f_table r k n) u = rS r u := va_up_ne _ _ (by omega)
  have e2 : rS (f_table r k n) (rT r + 1) = rN r := va_up_self _ _ _
  have := si_end hs u0 hu
  rw [mvF_eq, e1, e2, if_neg (by omega)]
  have h := at_table hs (k := k) (n := n) u0 hu hq
  show rI (f_table r k n) (rS r u + q) = _
  rw [← e1]; exact h
theorem flat_new {r : RS} (hs : SI r) {t n k c : Nat} (h0 : t ≠ 0) (ht : t ≤ rT r) (hc : c ≤ rMn r t) (hcn : c ≤ n) (hn : n ≤ 30) {q : Nat} (hq : q < n) : f_at (f_cpy (f_table r k n) t (rT r + 1) c) (rT r + 1) q = if q < c then f_at r t q else 0 := by
  rw [flat_eq hs k h0 ht hc hn]
  show mvF _ _ _ c (rS (f_table r k n) (rT r + 1) + q) = _
  rw [mvF_eq]
  have e2 : rS (f_table r k n) (rT r + 1) = rN r := va_up_self _ _ _
  by_cases z : q < c
  · rw [if_pos (by omega), if_pos z, show rS (f_table r k n) (rT r + 1) + q - rS (f_table r k n) (rT r + 1) = q by omega]
    exact at_table hs h0 ht (by omega)
  · rw [if_neg (by omega), if_neg z, e2]
    show f_zero (rI r) (rN r) n (rN r + q) = 0
    simp only [f_zero]
    rw [if_pos (by omega)]
theorem VR.flat {r : RS} (hV : VR r) {t n c : Nat} (h0 : t ≠ 0) (ht : t ≤ rT r) (hc : c ≤ rMn r t) (hcn : c ≤ n) (hn : n ≤ 30) : VR (f_cpy (f_table r (rK r t) n) t (rT r + 1) c) := by
  have hk := (hV.2.1 t h0 ht).1
  have hT := hV.table (k := rK r t) (n := n) hk hn
  refine ⟨hT.1, fun u u0 hu => ⟨(hT.2.1 u u0 hu).1, (hT.2.1 u u0 hu).2.1, fun q hq h8 => ?_⟩, hT.2.2⟩
  have hu' : u ≤ rT r + 1 := hu
  have hq' : q < va_up (rMn r) (rT r + 1) n u := hq
  have h8' : 8 ≤ va_up (rK r) (rT r + 1) (rK r t) u := h8
  have eK : rK (f_cpy (f_table r (rK r t) n) t (rT r + 1) c) u = va_up (rK r) (rT r + 1) (rK r t) u := rfl
  have eT : rT (f_cpy (f_table r (rK r t) n) t (rT r + 1) c) = rT r + 1 := rfl
  have eM : rM (f_cpy (f_table r (rK r t) n) t (rT r + 1) c) = rM r := rfl
  rw [eK, eT, eM]
  by_cases e : u = rT r + 1
  · subst e
    rw [va_up_self] at hq' h8' ⊢
    rw [flat_new hV.1 h0 ht hc hcn hn hq']
    by_cases z : q < c
    · rw [if_pos z]
      obtain ⟨z1, z2, z3⟩ := (hV.2.1 t h0 ht).2.2 q (by omega) h8'
      exact ⟨z1, z2, fun w => Nat.le_succ_of_le (z3 w)⟩
    · rw [if_neg z]
      exact ⟨rfl, fun _ => Nat.zero_le _, fun _ => Nat.zero_le _⟩
  · rw [va_up_ne _ _ e] at hq' h8' ⊢
    rw [flat_old hV.1 h0 ht hc hcn hn u0 (by omega) hq']
    obtain ⟨z1, z2, z3⟩ := (hV.2.1 u u0 (by omega)).2.2 q hq' h8'
    exact ⟨z1, z2, fun w => Nat.le_succ_of_le (z3 w)⟩
