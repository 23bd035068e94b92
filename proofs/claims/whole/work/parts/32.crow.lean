/-! the class: tables, their items, things -/
def SI (r : RS) : Prop := (∀ t, 1 ≤ t → t ≤ rT r → rS r t = psum (rMn r) (t - 1)) ∧ rN r = psum (rMn r) (rT r)
theorem Inv.si {k : Nat} {r : RS} (h : Inv k r) : SI r := ⟨h.2.2.2.2.2.1, h.2.2.2.2.2.2.1⟩
theorem SI.lt {r : RS} (h : SI r) {t t' : Nat} (h1 : 1 ≤ t) (h2 : t < t') (h3 : t' ≤ rT r) : rS r t + rMn r t ≤ rS r t' := by
  rw [h.1 t h1 (by omega), h.1 t' (by omega) h3]
  have e : psum (rMn r) (t - 1) + rMn r t = psum (rMn r) t := by
    obtain ⟨u, rfl⟩ : ∃ u, t = u + 1 := ⟨t - 1, by omega⟩
    rfl
  rw [e]
  exact psum_mono _ (by omega)
theorem SI.dis {r : RS} (h : SI r) {t t' q j : Nat} (h1 : t ≠ 0) (h2 : t ≤ rT r) (h1' : t' ≠ 0) (h2' : t' ≤ rT r) (hne : t' ≠ t) (hq : q < rMn r t') (hj : j < rMn r t) : rS r t' + q ≠ rS r t + j := by
  rcases Nat.lt_or_gt_of_ne hne with hl | hl
  · have := h.lt (by omega) hl h2; omega
  · have := h.lt (by omega) hl h2'; omega
theorem bits_put (r : RS) {t j : Nat} (v : Int64) (hj : j < rMn r t) : c_bits (f_put r t j v) t = va_up (c_bits r t) j v := by
  funext q
  show (if q < rMn r t then va_up (rI r) (rS r t + j) v (rS r t + q) else 0) = _
  by_cases h : q = j
  · subst h; rw [if_pos hj, va_up_self, va_up_self]
  · rw [va_up_ne _ _ (show rS r t + q ≠ rS r t + j by omega), va_up_ne _ _ h]
theorem items_put (r : RS) (g : CG) {t j : Nat} (v : Int64) (hj : j < rMn r t) : c_items (f_put r t j v) g t = va_up (c_items r g t) j (c_ref (gA g) (rK r t) v) := by
  funext q
  show (if q < rMn r t then c_ref (gA g) (rK r t) (va_up (rI r) (rS r t + j) v (rS r t + q)) else none) = _
  by_cases h : q = j
  · subst h; rw [if_pos hj, va_up_self, va_up_self]
  · rw [va_up_ne _ _ (show rS r t + q ≠ rS r t + j by omega), va_up_ne _ _ h]
theorem arr_put {cy : Nat → ClassId} {r : RS} {g : CG} (hs : SI r) {t t' j : Nat} (v : Int64) (h1 : t ≠ 0) (h2 : t ≤ rT r) (hj : j < rMn r t) (h1' : t' ≠ 0) (h2' : t' ≤ rT r) (hne : t' ≠ t) : c_arr cy (f_put r t j v) g t' = c_arr cy r g t' := by
  have e1 : c_bits (f_put r t j v) t' = c_bits r t' := by
    funext q
    show (if q < rMn r t' then va_up (rI r) (rS r t + j) v (rS r t' + q) else 0) = _
    by_cases hq : q < rMn r t'
    · rw [if_pos hq, va_up_ne _ _ (hs.dis h1 h2 h1' h2' hne hq hj)]; simp [hq]
    · simp [hq]
  have e2 : c_items (f_put r t j v) g t' = c_items r g t' := by
    funext q
    show (if q < rMn r t' then c_ref (gA g) (rK r t') (va_up (rI r) (rS r t + j) v (rS r t' + q)) else none) = _
    by_cases hq : q < rMn r t'
    · rw [if_pos hq, va_up_ne _ _ (hs.dis h1 h2 h1' h2' hne hq hj)]; simp [hq]
    · simp [hq]
  unfold c_arr
  rw [e1, e2]
  rfl
theorem enc_put {cy : Nat → ClassId} {r : RS} {g : CG} (hs : SI r) {t j c : Nat} (v : Int64) (h1 : t ≠ 0) (h2 : t ≤ rT r) (hj : j < rMn r t) (hc : c_dm r c) (hne : c ≠ 3 * t + 1) : c_en cy (f_put r t j v) g c = c_en cy r g c := by
  by_cases h3 : c % 3 = 1 ∧ c / 3 ≠ 0
  · obtain ⟨u, hu⟩ : ∃ u, c = 3 * u + 1 := ⟨c / 3, by omega⟩
    subst hu
    have hu0 : u ≠ 0 := by omega
    have hu2 : u ≤ rT r := by have := hc.1 (by omega); omega
    rw [en_arr _ _ _ hu0, en_arr _ _ _ hu0, arr_put hs v h1 h2 hj hu0 hu2 (by omega)]
  · by_cases a : c = 0
    · subst a; rw [en_x, en_x]; rfl
    · by_cases b : c = 1
      · subst b; rw [en_col, en_col]; rfl
      · by_cases d : c = 2
        · subst d; rw [en_tr, en_tr]; rfl
        · have e1 : ∀ r' : RS, c_en cy r' g c = if c % 3 = 0 then c_tab r' g (c / 3) else .inr (2, [.int (rTN r' (c / 3)), .int (b2i (rIM r' (c / 3)))]) := fun r' => by
            unfold c_en
            rw [if_neg a, if_neg b, if_neg d]
            by_cases h : c % 3 = 0
            · rw [if_pos h, if_pos h]
            · rw [if_neg h, if_neg h, if_neg (by omega)]
          rw [e1, e1]
          rfl
section CY
variable {p : Program} {l : Launch} {e : Env} {R : Room} {s : State} {m : MethodId} {args : Array Value} {below : List Frame} {meth : Method} {c : Code} {H : Heap} {locs : List Loc} {cells slots : Nat} {Q : State → Prop} {cc : ByteArray} {pc nL : Nat} {ls : Array Slot} {rest : List Value} {D : va_G} {cy : Nat → ClassId} {A : Nat → Prop} {H0 : Heap} {r : RS} {g : CG} {own : String}
theorem CR.tabP (hC : CR D cy A r g H) {t : Nat} (h0 : t ≠ 0) (ht : t ≤ rT r) (hk : rK r t < 8) : va_P D vwCl [(gA g (3 * t), .inr (1, t_fs r g t))] H := by
  have h1 := (hC.at (dm_t ht)).1
  rw [en_tab _ _ _ h0] at h1
  unfold c_tab at h1
  rw [if_pos hk] at h1; exact h1
theorem CR.tabH (hC : CR D cy A r g H) {t : Nat} (h0 : t ≠ 0) (ht : t ≤ rT r) (hk : 8 ≤ rK r t) : va_P D vwCl [(gA g (3 * t), .inr (0, t_fs r g t))] H := by
  have h1 := (hC.at (dm_t ht)).1
  rw [en_tab _ _ _ h0] at h1
  unfold c_tab at h1
  rw [if_neg (by omega)] at h1; exact h1
theorem CR.arrP (hC : CR D cy A r g H) {t : Nat} (h0 : t ≠ 0) (ht : t ≤ rT r) (hk : rK r t < 8) : va_P D vwCl [(gA g (3 * t + 1), .inl (cy 2, rMn r t, .inr (.inl (c_bits r t))))] H := by
  have h1 := (hC.at (dm_a ht)).1
  rw [en_arr _ _ _ h0] at h1
  unfold c_arr at h1
  rw [if_pos hk] at h1; exact h1
theorem CR.arrH (hC : CR D cy A r g H) {t : Nat} (h0 : t ≠ 0) (ht : t ≤ rT r) (hk : 8 ≤ rK r t) : va_P D vwCl [(gA g (3 * t + 1), .inl (cy 5, rMn r t, .inr (.inr (.inr (.inr (c_items r g t))))))] H := by
  have h1 := (hC.at (dm_a ht)).1
  rw [en_arr _ _ _ h0] at h1
  unfold c_arr at h1
  rw [if_neg (by omega)] at h1; exact h1
theorem CR.thg (hC : CR D cy A r g H) {v : Nat} (h0 : v ≠ 0) (hv : v ≤ rM r) : va_P D vwCl [(gA g (3 * v + 2), .inr (2, [.int (rTN r v), .int (b2i (rIM r v))]))] H := by
  have h1 := (hC.at (dm_v hv)).1
  rw [en_th _ _ _ h0] at h1; exact h1
theorem TX02 {k : Nat} (hk : k < 3) : TX0 k = TX2 k := by
  rcases (show k = 0 ∨ k = 1 ∨ k = 2 by omega) with rfl | rfl | rfl <;> rfl
theorem TX2_own {k : Nat} (hk : k < 3) : (TX2 k).1 = RX3 := by
  rcases (show k = 0 ∨ k = 1 ∨ k = 2 by omega) with rfl | rfl | rfl <;> rfl
theorem c_gt (F : px_F p m c cc nL s args own) (hK : KK D cy s) (hC : CR D cy A r g H) {t : Nat} (h0 : t ≠ 0) (ht : t ≤ rT r) (k : Nat) (hk : k < 3) {v : Value} (hv : (t_fs r g t)[k]? = some v) {idx : Nat} {ref : String} (hw : Cond.fieldLink own idx ref (TX2 k).2.1 (TX2 k).2.2.1 ∈ bigW) (hsame : ∀ x, s.fieldFound? RX3 (TX2 k).2.1 (TX2 k).2.2.1 = some x → s.fieldFound? ref (TX2 k).2.1 (TX2 k).2.2.1 = some x) (hdg : decode cc pc = .ok (.getfield idx, 3)) (kk : W p l e R s m args below meth c H locs cells slots Q (F0 m (pc + 3) ls (v :: rest))) : W p l e R s m args below meth c H locs cells slots Q (F0 m pc ls (.ref (gA g (3 * t)) :: rest)) := by
  by_cases hk8 : rK r t < 8
  · exact va_get (D := D) (ci := 1) (C := RX2) (T := TX2) (N := 4) F.1 F.2.1 F.2.2.2.2 inlX2 F.2.2.2.1 hK.1 (hC.tabP h0 ht hk8) 0 rfl rfl k (by omega) (F.2.2.2.2 _ hw) (fun x h => hsame x (by rw [TX2_own hk] at h; exact h)) hv hdg kk
  · exact va_get (D := D) (ci := 0) (C := RX0) (T := TX0) (N := 4) F.1 F.2.1 F.2.2.2.2 inlX0 F.2.2.2.1 hK.1 (hC.tabH h0 ht (by omega)) 0 rfl rfl k (by omega) (by rw [TX02 hk]; exact F.2.2.2.2 _ hw) (fun x h => by rw [TX02 hk] at h ⊢; exact hsame x (by rw [TX2_own hk] at h; exact h)) hv hdg kk
theorem c_gbits (F : px_F p m c cc nL s args own) (hK : KK D cy s) (hC : CR D cy A r g H) {t : Nat} (h0 : t ≠ 0) (ht : t ≤ rT r) (hk8 : rK r t < 8) {idx : Nat} (hw : Cond.fieldLink own idx RX2 "bits" "[J" ∈ bigW) (hdg : decode cc pc = .ok (.getfield idx, 3)) (kk : W p l e R s m args below meth c H locs cells slots Q (F0 m (pc + 3) ls (.ref (gA g (3 * t + 1)) :: rest))) : W p l e R s m args below meth c H locs cells slots Q (F0 m pc ls (.ref (gA g (3 * t)) :: rest)) :=
  va_get (D := D) (ci := 1) (C := RX2) (T := TX2) (N := 4) F.1 F.2.1 F.2.2.2.2 inlX2 F.2.2.2.1 hK.1 (hC.tabP h0 ht hk8) 0 rfl rfl 3 (by decide) (F.2.2.2.2 _ hw) (fun _ h => h) rfl hdg kk
theorem c_gitems (F : px_F p m c cc nL s args own) (hK : KK D cy s) (hC : CR D cy A r g H) {t : Nat} (h0 : t ≠ 0) (ht : t ≤ rT r) (hk8 : 8 ≤ rK r t) {idx : Nat} (hw : Cond.fieldLink own idx RX0 "items" "[LPlanCopies$Item;" ∈ bigW) (hdg : decode cc pc = .ok (.getfield idx, 3)) (kk : W p l e R s m args below meth c H locs cells slots Q (F0 m (pc + 3) ls (.ref (gA g (3 * t + 1)) :: rest))) : W p l e R s m args below meth c H locs cells slots Q (F0 m pc ls (.ref (gA g (3 * t)) :: rest)) :=
  va_get (D := D) (ci := 0) (C := RX0) (T := TX0) (N := 4) F.1 F.2.1 F.2.2.2.2 inlX0 F.2.2.2.1 hK.1 (hC.tabH h0 ht hk8) 0 rfl rfl 3 (by decide) (F.2.2.2.2 _ hw) (fun _ h => h) rfl hdg kk
theorem c_gth (F : px_F p m c cc nL s args own) (hK : KK D cy s) (hC : CR D cy A r g H) {v : Nat} (h0 : v ≠ 0) (hv : v ≤ rM r) (k : Nat) (hk : k < 2) {x : Value} (hx : ([.int (rTN r v), .int (b2i (rIM r v))] : List Value)[k]? = some x) {idx : Nat} (hw : Cond.fieldLink own idx RX4 (TX4 k).2.1 (TX4 k).2.2.1 ∈ bigW) (hdg : decode cc pc = .ok (.getfield idx, 3)) (kk : W p l e R s m args below meth c H locs cells slots Q (F0 m (pc + 3) ls (x :: rest))) : W p l e R s m args below meth c H locs cells slots Q (F0 m pc ls (.ref (gA g (3 * v + 2)) :: rest)) :=
  va_get (D := D) (ci := 2) (C := RX4) (T := TX4) (N := 2) F.1 F.2.1 F.2.2.2.2 inlX4 F.2.2.2.1 hK.1 (hC.thg h0 hv) 0 rfl rfl k hk (F.2.2.2.2 _ hw) (fun _ h => by rcases (show k = 0 ∨ k = 1 by omega) with rfl | rfl <;> exact h) hx hdg kk
theorem c_lenb (F : px_F p m c cc nL s args own) (hK : KK D cy s) (hC : CR D cy A r g H) {t : Nat} (h0 : t ≠ 0) (ht : t ≤ rT r) (hdg : decode cc pc = .ok (.arraylength, 1)) (kk : W p l e R s m args below meth c H locs cells slots Q (F0 m (pc + 1) ls (.int (nI (rMn r t)) :: rest))) : W p l e R s m args below meth c H locs cells slots Q (F0 m pc ls (.ref (gA g (3 * t + 1)) :: rest)) := by
  by_cases hk8 : rK r t < 8
  · exact va_alen F.1 F.2.1 hK.1 (hC.arrP h0 ht hk8) 0 2 rfl rfl rfl hdg kk
  · exact va_alen F.1 F.2.1 hK.1 (hC.arrH h0 ht (by omega)) 0 5 rfl rfl rfl hdg kk
theorem c_ldbit (F : px_F p m c cc nL s args own) (hK : KK D cy s) (hC : CR D cy A r g H) {t : Nat} (h0 : t ≠ 0) (ht : t ≤ rT r) (hk8 : rK r t < 8) (hm : rMn r t < 2 ^ 31) {x : Int32} (j : Nat) (hxi : x = nI j) (hj : j < rMn r t) (hdg : decode cc pc = .ok (.laload, 1)) (kk : W p l e R s m args below meth c H locs cells slots Q (F0 m (pc + 1) ls (.long (f_at r t j) :: rest))) : W p l e R s m args below meth c H locs cells slots Q (F0 m pc ls (.int x :: .ref (gA g (3 * t + 1)) :: rest)) := by
  subst hxi
  refine va_lald F.1 F.2.1 hK.1 (hC.arrP h0 ht hk8) 0 2 rfl rfl (vp_in_nI hj hm) hdg ?_
  rw [nI_clamp (show j < 2 ^ 31 by omega), show c_bits r t j = f_at r t j from if_pos hj]
  exact kk
theorem c_lditem (F : px_F p m c cc nL s args own) (hK : KK D cy s) (hC : CR D cy A r g H) {t : Nat} (h0 : t ≠ 0) (ht : t ≤ rT r) (hk8 : 8 ≤ rK r t) (hm : rMn r t < 2 ^ 31) {x : Int32} (j : Nat) (hxi : x = nI j) (hj : j < rMn r t) (hdg : decode cc pc = .ok (.aaload, 1)) (kk : W p l e R s m args below meth c H locs cells slots Q (F0 m (pc + 1) ls (va_rf (c_ref (gA g) (rK r t) (f_at r t j)) :: rest))) : W p l e R s m args below meth c H locs cells slots Q (F0 m pc ls (.int x :: .ref (gA g (3 * t + 1)) :: rest)) := by
  subst hxi
  refine va_aldq F.1 F.2.1 hK.1 (hC.arrH h0 ht hk8) 0 5 rfl rfl (vp_in_nI hj hm) hdg ?_
  rw [nI_clamp (show j < 2 ^ 31 by omega), show c_items r g t j = c_ref (gA g) (rK r t) (f_at r t j) from if_pos hj]
  exact kk
theorem c_stbit (F : px_F p m c cc nL s args own) (hK : KK D cy s) (hC : CR D cy A r g H) (hS : va_S A H0 H locs) (hs : SI r) {t : Nat} (h0 : t ≠ 0) (ht : t ≤ rT r) (hk8 : rK r t < 8) (hm : rMn r t < 2 ^ 31) {x : Int32} {y : Int64} (j : Nat) (v : Int64) (hxi : x = nI j) (hv : y = v) (hj : j < rMn r t) (hdg : decode cc pc = .ok (.lastore, 1)) (kk : ∀ (H : Heap) (locs : List Loc), CR D cy A (f_put r t j v) g H → va_S A H0 H locs → W p l e R s m args below meth c H locs cells slots Q (F0 m (pc + 1) ls rest)) : W p l e R s m args below meth c H locs cells slots Q (F0 m pc ls (.long y :: .int x :: .ref (gA g (3 * t + 1)) :: rest)) := by
  subst hxi; subst hv
  obtain ⟨cs, i, h1, hi, hP, hD, hq⟩ := hC.opn (dm_a ht)
  have hq' := hq
  rw [en_arr _ _ _ h0, show c_arr cy r g t = .inl (cy 2, rMn r t, .inr (.inl (c_bits r t))) from if_pos hk8] at hq'
  refine va_last F.1 F.2.1 hK.1 hP hD hS i 2 hq' rfl (vp_in_nI hj hm) hdg (fun H1 locs1 hP' hD' hS => ?_)
  rw [nI_clamp (show j < 2 ^ 31 by omega), updL_up] at hP' hD'
  exact kk H1 locs1 (CR.close h1 hi hD hP' hD' rfl (fun _ => Iff.rfl) (by rw [en_arr _ _ _ h0, show c_arr cy (f_put r t j y) g t = .inl (cy 2, rMn r t, .inr (.inl (c_bits (f_put r t j y) t))) from if_pos hk8, bits_put r y hj]) (fun c hc hne => enc_put hs y h0 ht hj hc hne)) hS
/-- what may be stored: nothing, or an object of a class below Item -/
theorem c_stitem (F : px_F p m c cc nL s args own) (hK : KK D cy s) (hC : CR D cy A r g H) (hS : va_S A H0 H locs) (hs : SI r) {t : Nat} (h0 : t ≠ 0) (ht : t ≤ rT r) (hk8 : 8 ≤ rK r t) (hm : rMn r t < 2 ^ 31) {x : Int32} {y : Value} (j : Nat) (v : Int64) (hxi : x = nI j) (hv : y = va_rf (c_ref (gA g) (rK r t) v)) (hany : ∀ a, c_ref (gA g) (rK r t) v = some a → va_Any RX1 s H a) (hj : j < rMn r t) (hdg : decode cc pc = .ok (.aastore, 1)) (kk : ∀ (H : Heap) (locs : List Loc), CR D cy A (f_put r t j v) g H → va_S A H0 H locs → W p l e R s m args below meth c H locs cells slots Q (F0 m (pc + 1) ls rest)) : W p l e R s m args below meth c H locs cells slots Q (F0 m pc ls (y :: .int x :: .ref (gA g (3 * t + 1)) :: rest)) := by
  subst hxi; subst hv
  obtain ⟨cs, i, h1, hi, hP, hD, hq⟩ := hC.opn (dm_a ht)
  have hq' := hq
  have hk8' : ¬ rK r t < 8 := by omega
  rw [en_arr _ _ _ h0, show c_arr cy r g t = .inl (cy 5, rMn r t, .inr (.inr (.inr (.inr (c_items r g t))))) from if_neg hk8'] at hq'
  have efin : c_en cy (f_put r t j v) g (3 * t + 1) = .inl (cy 5, rMn r t, .inr (.inr (.inr (.inr (va_up (c_items r g t) j (c_ref (gA g) (rK r t) v)))))) := by
    rw [en_arr _ _ _ h0, show c_arr cy (f_put r t j v) g t = .inl (cy 5, rMn r t, .inr (.inr (.inr (.inr (c_items (f_put r t j v) g t))))) from if_neg hk8', items_put r g v hj]
  cases hz : c_ref (gA g) (rK r t) v with
  | none =>
    rw [hz] at efin
    refine va_astqN F.1 F.2.1 hK.1 hP hD hS i 5 hq' rfl (vp_in_nI hj hm) hdg (fun H1 locs1 hP' hD' hS => ?_)
    rw [nI_clamp (show j < 2 ^ 31 by omega)] at hP' hD'
    exact kk H1 locs1 (CR.close h1 hi hD hP' hD' rfl (fun _ => Iff.rfl) efin (fun c hc hne => enc_put hs v h0 ht hj hc hne)) hS
  | some a =>
    rw [hz] at efin
    refine va_astqM F.1 F.2.1 hK.1 hP hD hS i 5 hq' rfl (hany a hz) (vp_in_nI hj hm) hdg (fun H1 locs1 hP' hD' hS => ?_)
    rw [nI_clamp (show j < 2 ^ 31 by omega)] at hP' hD'
    exact kk H1 locs1 (CR.close h1 hi hD hP' hD' rfl (fun _ => Iff.rfl) efin (fun c hc hne => enc_put hs v h0 ht hj hc hne)) hS
end CY
