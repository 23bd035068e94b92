/-! the class: alike, size: pure -/
def f_alp (al : Nat → Nat → Bool) (r : RS) (a b k : Nat) : Bool := if rK r a < 8 then decide (f_at r a k = f_at r b k) else if rK r a < 10 then f_thl r (iv (f_at r a k)) (iv (f_at r b k)) else al (iv (f_at r a k)) (iv (f_at r b k))
def f_al (r : RS) : Nat → Nat → Nat → Bool
  | 0 => fun a b => decide (a = b)
  | L + 1 => fun a b => decide (a = b) || (f_shaped r a b && f_all (f_alp (f_al r L) r a b) (rMn r a))
def f_ial (al : Nat → Nat → Bool) (r : RS) (ty1 w1 ty2 w2 : Nat) : Bool := if ty1 = 1 ∧ ty2 = 1 then decide (rTN r w1 = rTN r w2) && decide (rIM r w1 = rIM r w2) else if ty1 = 2 ∧ ty2 = 2 then al w1 w2 else decide (ty1 = 0) && decide (ty2 = 0)
theorem al_r0 {r : RS} : ∀ (L : Nat) {w : Nat}, w ≠ 0 → f_al r L w 0 = false
  | 0, w, h => by simp [f_al, h]
  | L + 1, w, h => by simp [f_al, h, f_shaped]
theorem al_0r {r : RS} : ∀ (L : Nat) {w : Nat}, w ≠ 0 → f_al r L 0 w = false
  | 0, w, h => by simp [f_al, h, Ne.symm h]
  | L + 1, w, h => by simp [f_al, h, f_shaped, Ne.symm h]
theorem al_rr {r : RS} : ∀ (L w : Nat), f_al r L w w = true
  | 0, w => by simp [f_al]
  | L + 1, w => by simp [f_al]
def i_ok (r : RS) (a k ty w : Nat) : Prop := (ty = 0 ∧ f_at r a k = 0) ∨ (ty = 1 ∧ f_at r a k = lN w ∧ w ≠ 0 ∧ w ≤ rM r ∧ rK r a < 10) ∨ (ty = 2 ∧ f_at r a k = lN w ∧ w ≠ 0 ∧ w ≤ rT r ∧ 10 ≤ rK r a)
theorem ial_alp {r : RS} (L : Nat) {a b k ty1 w1 ty2 w2 : Nat} (hT : rT r < 100000) (hM : rM r < 100000) (h8 : 8 ≤ rK r a) (hk : rK r a = rK r b) (h1 : i_ok r a k ty1 w1) (h2 : i_ok r b k ty2 w2) : f_ial (f_al r L) r ty1 w1 ty2 w2 = f_alp (f_al r L) r a b k := by
  unfold f_alp
  rw [if_neg (by omega)]
  rcases h1 with ⟨rfl, e1⟩ | ⟨rfl, e1, n1, l1, q1⟩ | ⟨rfl, e1, n1, l1, q1⟩ <;> rcases h2 with ⟨rfl, e2⟩ | ⟨rfl, e2, n2, l2, q2⟩ | ⟨rfl, e2, n2, l2, q2⟩ <;> rw [e1, e2]
  · by_cases h : rK r a < 10
    · rw [if_pos h]; rfl
    · rw [if_neg h]; exact (al_rr L 0).symm
  · rw [if_pos (by omega), iv_lN (by omega)]
    have : ¬ 0 = w2 := Ne.symm n2
    simp [f_ial, f_thl, iv, n2, this]
  · rw [if_neg (by omega), iv_lN (by omega)]
    exact (al_0r L n2).symm
  · rw [if_pos (by omega), iv_lN (by omega)]
    simp [f_ial, f_thl, iv, n1]
  · rw [if_pos (by omega), iv_lN (by omega), iv_lN (by omega)]
    simp only [f_ial, f_thl, n1, n2, and_self, if_true, decide_false, Bool.not_false, Bool.true_and]
    by_cases h : w1 = w2
    · subst h; simp
    · simp [h]
  · omega
  · rw [if_neg (by omega), iv_lN (by omega)]
    exact (al_r0 L n1).symm
  · omega
  · rw [if_neg (by omega), iv_lN (by omega), iv_lN (by omega)]
    rfl
theorem item_is {r : RS} {t j : Nat} (ad : Nat → Nat) (hV : VR r) (h0 : t ≠ 0) (ht : t ≤ rT r) (h8 : 8 ≤ rK r t) (hj : j < rMn r t) : ∃ ty w, i_ok r t j ty w ∧ o_ok r ty w ∧ c_item ad r t (nI j) = c_obj ad ty w := by
  have hv := (hV.2.1 t h0 ht).2.2 j hj h8
  rcases c_item_4 ad h0 h8 (hV.2.1 t h0 ht).2.1 hj rfl hv.1 hv.2.1 hv.2.2 with ⟨a1, a2⟩ | ⟨w, a1, a2, a3, a4, a5⟩ | ⟨w, a1, a2, a3, a4, a5⟩
  · exact ⟨0, 0, Or.inl ⟨rfl, a1⟩, Or.inl rfl, a2⟩
  · exact ⟨1, w, Or.inr (Or.inl ⟨rfl, a1, a2, a3, a4⟩), Or.inr (Or.inl ⟨rfl, a2, a3⟩), a5⟩
  · exact ⟨2, w, Or.inr (Or.inr ⟨rfl, a1, a2, a3, a4⟩), Or.inr (Or.inr ⟨rfl, a2, a3⟩), a5⟩
theorem f_all_t {q : Nat → Bool} {k n : Nat} (h : f_all q k = true) (hq : q k = false) (hn : k < n) : f_all q n = false := f_all_le q (k := k + 1) (by simp [f_all, h, hq]) n hn
theorem f_all_c {q q' : Nat → Bool} : ∀ n, (∀ k, k < n → q k = q' k) → f_all q n = f_all q' n
  | 0, _ => rfl
  | n + 1, h => by rw [f_all, f_all, f_all_c n (fun k hk => h k (by omega)), h n (by omega)]
theorem f_cnt_c {q q' : Nat → Nat} : ∀ n, (∀ k, k < n → q k = q' k) → f_cnt q n = f_cnt q' n
  | 0, _ => rfl
  | n + 1, h => by rw [f_cnt, f_cnt, f_cnt_c n (fun k hk => h k (by omega)), h n (by omega)]
theorem al_fla {r : RS} (L : Nat) {a b : Nat} (h : a = 0 ∨ b = 0 ∨ rK r a < 10) : f_al r (L + 1) a b = f_fla r a b := by
  unfold f_fla
  show (decide (a = b) || (f_shaped r a b && f_all (f_alp (f_al r L) r a b) (rMn r a))) = _
  rcases h with rfl | rfl | h
  · simp [f_shaped]
  · simp [f_shaped]
  · rw [f_all_c (q' := fun k => if rK r a < 8 then decide (f_at r a k = f_at r b k) else f_thl r (iv (f_at r a k)) (iv (f_at r b k))) _ (fun k _ => by unfold f_alp; rw [if_pos h])]
theorem row_lt {kk : Nat} {r : RS} (hI : Inv kk r) {a k : Nat} (h0 : a ≠ 0) (ha : a ≤ rT r) (hk : k < rMn r a) (h10 : 10 ≤ rK r a) : iv (f_at r a k) = 0 ∨ (iv (f_at r a k) ≤ rT r ∧ (rK r (iv (f_at r a k)) = rkN (rK r a) ∨ (rkN (rK r a) = 8 ∧ rK r (iv (f_at r a k)) = 9))) := by
  by_cases hz : iv (f_at r a k) = 0
  · exact Or.inl hz
  · refine Or.inr ?_
    have h := (hI.it h0 ha hk (by omega)).2.2.2.2 h10
    refine ⟨h.1, ?_⟩
    have h2 := h.2 hz
    simp only [f_isOf, hz, decide_false, Bool.false_or, Bool.or_eq_true, decide_eq_true_eq, Bool.and_eq_true] at h2
    exact h2
theorem al_mla {kk : Nat} {r : RS} (hI : Inv kk r) (L : Nat) {a b : Nat} (ha : a ≤ rT r) (h13 : rK r a < 13) : f_al r (L + 2) a b = f_mla r a b := by
  by_cases h : a = 0 ∨ b = 0 ∨ rK r a < 10
  · rw [al_fla _ h]
    unfold f_mla f_fla
    rw [if_pos h]
    cases decide (a = b) <;> simp [f_fla]
  · unfold f_mla
    rw [if_neg h]
    show (decide (a = b) || (f_shaped r a b && f_all (f_alp (f_al r (L + 1)) r a b) (rMn r a))) = _
    rw [f_all_c (q' := fun k => f_fla r (iv (f_at r a k)) (iv (f_at r b k))) _ (fun k hk => ?_)]
    unfold f_alp
    rw [if_neg (by omega), if_neg (by omega)]
    apply al_fla
    rcases row_lt hI (by omega) ha hk (by omega) with q | ⟨q1, q2⟩
    · exact Or.inl q
    · have := rkN_lt h13 (by omega)
      omega
theorem al_tla {kk : Nat} {r : RS} (hI : Inv kk r) {a b : Nat} (ha : a ≤ rT r) (hab : a ≠ b) : f_al r 3 a b = f_tla r a b := by
  by_cases h : a = 0 ∨ b = 0 ∨ rK r a < 13
  · unfold f_tla
    rw [if_pos h]
    rcases h with h | h | h
    · rw [al_fla 2 (Or.inl h)]; unfold f_mla f_fla; rw [if_pos (Or.inl h)]; cases decide (a = b) <;> simp [f_fla]
    · rw [al_fla 2 (Or.inr (Or.inl h))]; unfold f_mla f_fla; rw [if_pos (Or.inr (Or.inl h))]; cases decide (a = b) <;> simp [f_fla]
    · exact al_mla hI 1 ha h
  · unfold f_tla
    rw [if_neg h]
    show (decide (a = b) || (f_shaped r a b && f_all (f_alp (f_al r 2) r a b) (rMn r a))) = _
    rw [f_all_c (q' := fun k => f_mla r (iv (f_at r a k)) (iv (f_at r b k))) _ (fun k hk => ?_)]
    · simp [hab]
    · unfold f_alp
      have hk13 : rK r a = 13 := by have := (hI.tb a ha).1; omega
      rw [if_neg (by omega), if_neg (by omega)]
      rcases row_lt hI (by omega) ha hk (by omega) with q | ⟨q1, q2⟩
      · rw [q, al_fla 1 (Or.inl rfl)]; unfold f_mla f_fla; rw [if_pos (Or.inl rfl)]; cases decide (0 = iv (f_at r b k)) <;> simp [f_fla]
      · apply al_mla hI 0 q1
        rw [hk13] at q2
        have : rkN 13 = 10 := rfl
        omega
/-- the single items of a table -/
def f_sp (si : Nat → Nat) (r : RS) (t k : Nat) : Nat := if rK r t < 10 then (if f_at r t k = 0 then 0 else 1) else si (iv (f_at r t k))
def f_si (r : RS) : Nat → Nat → Nat
  | 0 => fun t => if t = 0 then 0 else if rK r t < 8 then rMn r t else 0
  | L + 1 => fun t => if t = 0 then 0 else if rK r t < 8 then rMn r t else f_cnt (f_sp (f_si r L) r t) (rMn r t)
theorem si_0 (r : RS) : ∀ L, f_si r L 0 = 0
  | 0 => rfl
  | L + 1 => rfl
theorem si_fsz {r : RS} (L : Nat) {t : Nat} (h : t = 0 ∨ rK r t < 10) : f_si r (L + 1) t = f_fsz r t := by
  unfold f_fsz
  show (if t = 0 then 0 else if rK r t < 8 then rMn r t else f_cnt (f_sp (f_si r L) r t) (rMn r t)) = _
  by_cases h0 : t = 0
  · rw [if_pos h0, if_pos h0]
  · rw [if_neg h0, if_neg h0]
    by_cases h8 : rK r t < 8
    · rw [if_pos h8, if_pos h8]
    · rw [if_neg h8, if_neg h8]
      exact f_cnt_c _ (fun k _ => by unfold f_sp; rw [if_pos (by omega)])
theorem si_msz {kk : Nat} {r : RS} (hI : Inv kk r) (L : Nat) {t : Nat} (ht : t ≤ rT r) (h13 : rK r t < 13) : f_si r (L + 2) t = f_msz r t := by
  unfold f_msz
  by_cases h : t = 0 ∨ rK r t < 10
  · rw [if_pos h]; exact si_fsz _ h
  · rw [if_neg h]
    show (if t = 0 then 0 else if rK r t < 8 then rMn r t else f_cnt (f_sp (f_si r (L + 1)) r t) (rMn r t)) = _
    rw [if_neg (by omega), if_neg (by omega)]
    refine f_cnt_c _ (fun k hk => ?_)
    unfold f_sp
    rw [if_neg (by omega)]
    apply si_fsz
    rcases row_lt hI (by omega) ht hk (by omega) with q | ⟨q1, q2⟩
    · exact Or.inl q
    · have := rkN_lt h13 (by omega)
      omega
theorem si_tsz {kk : Nat} {r : RS} (hI : Inv kk r) {t : Nat} (ht : t ≤ rT r) : f_si r 3 t = f_tsz r t := by
  unfold f_tsz
  by_cases h : t = 0 ∨ rK r t < 13
  · rw [if_pos h]
    rcases h with h | h
    · subst h; rfl
    · exact si_msz hI 1 ht h
  · rw [if_neg h]
    show (if t = 0 then 0 else if rK r t < 8 then rMn r t else f_cnt (f_sp (f_si r 2) r t) (rMn r t)) = _
    rw [if_neg (by omega), if_neg (by omega)]
    refine f_cnt_c _ (fun k hk => ?_)
    unfold f_sp
    rw [if_neg (by omega)]
    have hk13 : rK r t = 13 := by have := (hI.tb t ht).1; omega
    rcases row_lt hI (by omega) ht hk (by omega) with q | ⟨q1, q2⟩
    · rw [q]; rfl
    · apply si_msz hI 0 q1
      rw [hk13] at q2
      have : rkN 13 = 10 := rfl
      omega
theorem c_ref_3 {r : RS} {kd : Nat} {v : Int64} (ad : Nat → Nat) (h1 : v = lN (iv v)) (h2 : kd < 10 → iv v ≤ rM r) (h3 : 10 ≤ kd → iv v ≤ rT r) : (v = 0 ∧ c_ref ad kd v = none) ∨ (∃ w, v = lN w ∧ w ≠ 0 ∧ w ≤ rM r ∧ kd < 10 ∧ c_ref ad kd v = some (ad (3 * w + 2))) ∨ (∃ w, v = lN w ∧ w ≠ 0 ∧ w ≤ rT r ∧ 10 ≤ kd ∧ c_ref ad kd v = some (ad (3 * w))) := by
  by_cases hz : v = 0
  · exact Or.inl ⟨hz, if_pos hz⟩
  · have hz2 : iv v ≠ 0 := fun q => hz (by rw [h1, q]; rfl)
    by_cases h10 : kd < 10
    · refine Or.inr (Or.inl ⟨iv v, h1, hz2, h2 h10, h10, ?_⟩)
      unfold c_ref; rw [if_neg hz, if_pos h10]
    · refine Or.inr (Or.inr ⟨iv v, h1, hz2, h3 (by omega), by omega, ?_⟩)
      unfold c_ref; rw [if_neg hz, if_neg h10]
theorem rowAt_in {r : RS} {t k : Nat} (hV : VR r) (h0 : t ≠ 0) (ht : t ≤ rT r) (hk : k < rMn r t) (h10 : 10 ≤ rK r t) : f_rowAt r t (nI k) = iv (f_at r t k) := by
  have hm := (hV.2.1 t h0 ht).2.1
  have hl : f_looked r t (nI k) = 0 := looked_in h0 hm (nI_pos (by omega)) (nI_lt hk (by omega))
  unfold f_rowAt
  rw [if_neg (fun q => q.elim h0 (fun q => q.elim (by omega) (fun q => q hl))), ix_nI (show k < 2 ^ 31 by omega)]
theorem rowAt_le {r : RS} {t : Nat} {i : Int32} (hV : VR r) (ht : t ≤ rT r) : f_rowAt r t i ≤ rT r := by
  unfold f_rowAt
  by_cases h : t = 0 ∨ rK r t < 10 ∨ ¬ f_looked r t i = 0
  · rw [if_pos h]; omega
  · rw [if_neg h]
    have h0 : t ≠ 0 := fun q => h (Or.inl q)
    have h2 : f_looked r t i = 0 := Classical.byContradiction fun q => h (Or.inr (Or.inr q))
    obtain ⟨-, j, hj, rfl⟩ := looked_0 h2 (hV.2.1 t h0 ht).2.1
    have := (hV.2.1 t h0 ht).2.1
    rw [ix_nI (show j < 2 ^ 31 by omega)]
    exact ((hV.2.1 t h0 ht).2.2 j hj (by omega)).2.2 (by omega)
def f_mx (x : Int32) : Int32 := if x < 0 then 0 else x
def f_td (n m l : Int32) : Bool := decide (30 < n) || decide (30 < m) || decide (30 < l) || decide (400 < f_mx n * f_mx m * f_mx l)
theorem cat1 {x : Option Nat} : ([va_rf x].map fun v => v.category).sum ≤ 8 := by cases x <;> exact Nat.le_of_ble_eq_true rfl
section CPX
variable {p : Program} {l : Launch} {e : Env} {R : Room} {s : State} {m : MethodId} {args : Array Value} {below : List Frame} {meth : Method} {c : Code} {H : Heap} {locs : List Loc} {cells slots : Nat} {Q : State → Prop} {cc : ByteArray} {pc nL : Nat} {ls : Array Slot} {rest : List Value} {D : va_G} {cy : Nat → ClassId} {A : Nat → Prop} {H0 : Heap} {r : RS} {g : CG}
theorem c_pPa (F : px_F p m c cc nL s args RX5) (hK : KK D cy s) (hC : CR D cy A r g H) (hS : va_S A H0 H locs) {x v : Int32} (hx : x = v) {idx : Nat} (hw : Cond.fieldLink RX5 idx RX5 (TX5 5).2.1 (TX5 5).2.2.1 ∈ bigW) (hdg : decode cc pc = .ok (.putfield idx, 3)) (kk : ∀ (H : Heap) (locs : List Loc), CR D cy A (sPa r v) g H → va_S A H0 H locs → W p l e R s m args below meth c H locs cells slots Q (F0 m (pc + 3) ls rest)) : W p l e R s m args below meth c H locs cells slots Q (F0 m pc ls (.int x :: .ref (gA g 0) :: rest)) :=
  c_px F hK hC hS 5 (by decide) hx (sPa r v) g rfl rfl (fun _ => Iff.rfl) (fun z hz => en_sPa cy _ g _ hz) hw rfl rfl hdg kk
theorem c_pNu (F : px_F p m c cc nL s args RX5) (hK : KK D cy s) (hC : CR D cy A r g H) (hS : va_S A H0 H locs) {x v : Int32} (hx : x = v) {idx : Nat} (hw : Cond.fieldLink RX5 idx RX5 (TX5 6).2.1 (TX5 6).2.2.1 ∈ bigW) (hdg : decode cc pc = .ok (.putfield idx, 3)) (kk : ∀ (H : Heap) (locs : List Loc), CR D cy A (sNu r v) g H → va_S A H0 H locs → W p l e R s m args below meth c H locs cells slots Q (F0 m (pc + 3) ls rest)) : W p l e R s m args below meth c H locs cells slots Q (F0 m pc ls (.int x :: .ref (gA g 0) :: rest)) :=
  c_px F hK hC hS 6 (by decide) hx (sNu r v) g rfl rfl (fun _ => Iff.rfl) (fun z hz => en_sNu cy _ g _ hz) hw rfl rfl hdg kk
theorem c_pFa (F : px_F p m c cc nL s args RX5) (hK : KK D cy s) (hC : CR D cy A r g H) (hS : va_S A H0 H locs) {x v : Int32} (hx : x = v) {idx : Nat} (hw : Cond.fieldLink RX5 idx RX5 (TX5 7).2.1 (TX5 7).2.2.1 ∈ bigW) (hdg : decode cc pc = .ok (.putfield idx, 3)) (kk : ∀ (H : Heap) (locs : List Loc), CR D cy A (sFa r v) g H → va_S A H0 H locs → W p l e R s m args below meth c H locs cells slots Q (F0 m (pc + 3) ls rest)) : W p l e R s m args below meth c H locs cells slots Q (F0 m pc ls (.int x :: .ref (gA g 0) :: rest)) :=
  c_px F hK hC hS 7 (by decide) hx (sFa r v) g rfl rfl (fun _ => Iff.rfl) (fun z hz => en_sFa cy _ g _ hz) hw rfl rfl hdg kk
end CPX
