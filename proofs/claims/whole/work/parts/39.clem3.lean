theorem en_sFa (cy : Nat → ClassId) (r : RS) (g : CG) (f : Int32) {c : Nat} (h : c ≠ 0) : c_en cy (sFa r f) g c = c_en cy r g c := by unfold c_en; rw [if_neg h, if_neg h]; rfl
theorem en_sNu (cy : Nat → ClassId) (r : RS) (g : CG) (f : Int32) {c : Nat} (h : c ≠ 0) : c_en cy (sNu r f) g c = c_en cy r g c := by unfold c_en; rw [if_neg h, if_neg h]; rfl
theorem en_sPa (cy : Nat → ClassId) (r : RS) (g : CG) (f : Int32) {c : Nat} (h : c ≠ 0) : c_en cy (sPa r f) g c = c_en cy r g c := by unfold c_en; rw [if_neg h, if_neg h]; rfl
theorem en_sN (cy : Nat → ClassId) (r : RS) (g : CG) (f : Nat) {c : Nat} (h : c ≠ 0) : c_en cy (sN r f) g c = c_en cy r g c := by unfold c_en; rw [if_neg h, if_neg h]; rfl
def px_Cx (D : va_G) (cy : Nat → ClassId) (A : Nat → Prop) (g : CG) (v : Option Value) (r' : RS) : Option Value → Heap → Prop := fun v' H => v' = v ∧ CR D cy A r' g H
theorem px_goCx {p : Program} {l : Launch} {e : Env} {R : Room} {s : State} {m : MethodId} {args : Array Value} {below : List Frame} {meth : Method} {c : Code} {H : Heap} {locs : List Loc} {cells slots : Nat} {Q : State → Prop} {pc : Nat} {ls : Array Slot} {rest st0 st1 : List Value} {D : va_G} {cy : Nat → ClassId} {A : Nat → Prop} {H0 : Heap} {g : CG} {v : Option Value} {r' : RS} {a : Array Value} (hr : va_Run p l e R s m args below meth c H locs cells slots 0 0 (F0 m pc ls st0) rest (px_Q (px_Cx D cy A g v r') A a) A) (hS : va_S A H0 H locs) (h1 : v.toList ++ rest = st1)
    (kk : ∀ (H : Heap) (locs : List Loc), CR D cy A r' g H → va_S A H0 H locs → W p l e R s m args below meth c H locs cells slots Q (F0 m (pc + 3) ls st1)) : W p l e R s m args below meth c H locs cells slots Q (F0 m pc ls st0) := by
  refine px_goQ hr hS (fun v' H1 locs1 hp _ _ hS => ?_)
  obtain ⟨rfl, hR⟩ := hp
  subst h1
  exact kk H1 locs1 hR hS
def c_obj (ad : Nat → Nat) (ty w : Nat) : Option Nat := if ty = 0 then none else if ty = 1 then some (ad (3 * w + 2)) else some (ad (3 * w))
def o_ok (r : RS) (ty w : Nat) : Prop := ty = 0 ∨ (ty = 1 ∧ w ≠ 0 ∧ w ≤ rM r) ∨ (ty = 2 ∧ w ≠ 0 ∧ w ≤ rT r)
def f_cs (r : RS) (ty w k : Nat) : Bool := if ty = 0 then true else if ty = 1 then (decide (k = 8) || (decide (k = 9) && rIM r w)) else f_fit r w (f_kor k)
def o_v (ty w : Nat) : Int64 := if ty = 0 then 0 else lN w
def f_place (r : RS) (t : Nat) (i : Int32) (ty w : Nat) : RS × Int32 := if ¬ f_looked r t i = 0 then (r, -10 - nI (f_looked r t i)) else if 8 ≤ rK r t ∧ f_cs r ty w (rK r t) = true then (f_put r t (ix i) (o_v ty w), 1) else (r, -15)
def f_pb (r : RS) (t : Nat) (i : Int32) (b : Int64) : RS × Int32 := if ¬ f_looked r t i = 0 then (r, -10 - nI (f_looked r t i)) else (f_put r t (ix i) (f_cut (rK r t) b), 1)
theorem kor_big {k : Nat} (h : ¬ f_kor k = -1) : 10 ≤ k := by
  apply Decidable.byContradiction
  intro q
  apply h
  unfold f_kor
  rw [if_neg (by omega), if_neg (by omega), if_neg (by omega), if_neg (by omega)]
theorem cs_ref {r : RS} {ty w k : Nat} (ad : Nat → Nat) (ho : o_ok r ty w) (hw : w < 2 ^ 31) (hkw : rK r w < 100) (h8 : 8 ≤ k) (h : f_cs r ty w k = true) : c_ref ad k (o_v ty w) = c_obj ad ty w := by
  rcases ho with rfl | ⟨rfl, h1, h2⟩ | ⟨rfl, h1, h2⟩
  · rfl
  · have h' : k = 8 ∨ k = 9 := by
      simp only [f_cs, Nat.one_ne_zero, if_false, if_true, Bool.or_eq_true, Bool.and_eq_true, decide_eq_true_eq] at h
      omega
    have hv : ¬ o_v 1 w = 0 := fun q => h1 (by have := congrArg iv q; rw [show o_v 1 w = lN w from rfl, iv_lN hw] at this; exact this)
    unfold c_ref
    rw [if_neg hv, if_pos (by omega), show o_v 1 w = lN w from rfl, iv_lN hw]; rfl
  · have hk : 10 ≤ k := by
      apply kor_big
      intro q
      have h2' : f_fit r w (f_kor k) = true := h
      rw [q] at h2'
      simp only [f_fit, Bool.or_eq_true, Bool.and_eq_true, decide_eq_true_eq] at h2'
      rcases h2' with h3 | h3 | h3
      · exact h1 h3
      · have := congrArg Int32.toInt h3
        rw [nI_toInt (by omega)] at this
        have e : (-1 : Int32).toInt = -1 := rfl
        omega
      · exact absurd h3.1 (by decide)
    have hv : ¬ o_v 2 w = 0 := fun q => h1 (by have := congrArg iv q; rw [show o_v 2 w = lN w from rfl, iv_lN hw] at this; exact this)
    unfold c_ref
    rw [if_neg hv, if_neg (by omega), show o_v 2 w = lN w from rfl, iv_lN hw]; rfl
theorem obj_any {s : State} {H : Heap} {D : va_G} {cy : Nat → ClassId} {A : Nat → Prop} {r : RS} {g : CG} {ty w : Nat} (hK : KK D cy s) (hC : CR D cy A r g H) (ho : o_ok r ty w) : ∀ a, c_obj (gA g) ty w = some a → va_Any RX1 s H a := by
  intro a ha
  rcases ho with rfl | ⟨rfl, h1, h2⟩ | ⟨rfl, h1, h2⟩
  · cases ha
  · cases ha; exact c_anyIv hK hC h1 h2
  · cases ha; exact c_anyIt hK hC h1 h2
theorem rowAt_0 {r : RS} {t : Nat} {i : Int32} (h : rK r t < 10) : f_rowAt r t i = 0 := if_pos (Or.inr (Or.inl h))
theorem thAt_e {r : RS} {t j : Nat} (h0 : t ≠ 0) (h8 : 8 ≤ rK r t) (h10 : rK r t < 10) (hl : f_looked r t (nI j) = 0) (hj : j < 2 ^ 31) : f_thAt r t (nI j) = iv (f_at r t j) := by
  unfold f_thAt
  rw [if_neg (fun q => q.elim h0 (fun q => q.elim (by omega) (fun q => q.elim (by omega) (fun q => q hl)))), ix_nI hj]
theorem thAt_0 {r : RS} {t j : Nat} (h0 : t ≠ 0) (h8 : 8 ≤ rK r t) (h10 : rK r t < 10) (hl : f_looked r t (nI j) = 0) (hb : j < 2 ^ 31) (hv : IV r t) (hj : j < rMn r t) (hq : f_thAt r t (nI j) = 0) : f_at r t j = 0 := by
  rw [thAt_e h0 h8 h10 hl hb] at hq
  rw [(hv j hj h8).1, hq]; rfl
theorem thAt_1 {r : RS} {t j w : Nat} (h0 : t ≠ 0) (h8 : 8 ≤ rK r t) (h10 : rK r t < 10) (hl : f_looked r t (nI j) = 0) (hb : j < 2 ^ 31) (hw : w = f_thAt r t (nI j)) (h : w ≠ 0) : ¬ f_at r t j = 0 := by
  intro q
  rw [thAt_e h0 h8 h10 hl hb, q] at hw
  exact h hw
theorem thAt_2 {r : RS} {t j w : Nat} (h0 : t ≠ 0) (h8 : 8 ≤ rK r t) (h10 : rK r t < 10) (hl : f_looked r t (nI j) = 0) (hb : j < 2 ^ 31) (hw : w = f_thAt r t (nI j)) : w = iv (f_at r t j) := by
  rw [hw, thAt_e h0 h8 h10 hl hb]
theorem kb6c (b : Int64) : (if 2139095040 < b.toInt32 &&& 2147483647 then (2143289344 : Int32) else b.toInt32).toInt64 = f_cut 6 b := by
  rw [show f_cut 6 b = (if 2139095040 < b &&& 2147483647 then 2143289344 else b.toInt32.toInt64) from rfl]
  by_cases q : (2139095040 : Int64) < b &&& 2147483647
  · rw [if_pos q, if_pos ((kb6 b).mpr q)]; rfl
  · rw [if_neg q, if_neg (fun z => q ((kb6 b).mp z))]
