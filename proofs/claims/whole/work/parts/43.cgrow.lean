/-! the class: its world grows -/
def VR (r : RS) : Prop := SI r ∧ (∀ t, t ≠ 0 → t ≤ rT r → rK r t ≤ 13 ∧ rMn r t ≤ 30 ∧ IV r t) ∧ ∀ j, rHd r j ≤ rT r
def GX (r : RS) (g : CG) (r' : RS) (g' : CG) : Prop := rT r ≤ rT r' ∧ rM r ≤ rM r' ∧ (∀ c, c_dm r c → gA g' c = gA g c) ∧ gN g' = gN g ∧ (∀ t, t ≤ rT r → gB g' t = gB g t ∧ gW g' t = gW g t) ∧ ∀ t, rT r < t → t ≤ rT r' → gB g' t = 0
theorem dm_mono {r r' : RS} (h1 : rT r ≤ rT r') (h2 : rM r ≤ rM r') {c : Nat} (h : c_dm r c) : c_dm r' c := ⟨fun q => Nat.le_trans (h.1 q) h1, fun q => Nat.le_trans (h.2 q) h2⟩
theorem GX.rf {r r' : RS} {g : CG} (h1 : rT r' = rT r) (h2 : rM r' = rM r) : GX r g r' g := ⟨by omega, by omega, fun _ _ => rfl, rfl, fun _ _ => ⟨rfl, rfl⟩, fun t a b => by omega⟩
theorem GX.tr {r r1 r2 : RS} {g g1 g2 : CG} (h : GX r g r1 g1) (k : GX r1 g1 r2 g2) : GX r g r2 g2 := by
  obtain ⟨a1, a2, a3, a4, a5, a6⟩ := h
  obtain ⟨b1, b2, b3, b4, b5, b6⟩ := k
  refine ⟨by omega, by omega, fun c hc => (b3 c (dm_mono a1 a2 hc)).trans (a3 c hc), b4.trans a4, fun t ht => ⟨(b5 t (by omega)).1.trans (a5 t ht).1, (b5 t (by omega)).2.trans (a5 t ht).2⟩, fun t h1 h2 => ?_⟩
  by_cases q : t ≤ rT r1
  · rw [(b5 t q).1]; exact a6 t h1 q
  · exact b6 t (by omega) h2
theorem GX.t {r r' : RS} {g g' : CG} (h : GX r g r' g') {t : Nat} (ht : t ≤ rT r) : gA g' (3 * t) = gA g (3 * t) := h.2.2.1 _ (dm_t ht)
theorem GX.x {r r' : RS} {g g' : CG} (h : GX r g r' g') : gA g' 0 = gA g 0 := h.2.2.1 _ (dm_0 r)
theorem ref_ext {r : RS} {ad ad' : Nat → Nat} (hg : ∀ c, c_dm r c → ad' c = ad c) {kd : Nat} {v : Int64} (h1 : kd < 10 → iv v ≤ rM r) (h2 : 10 ≤ kd → iv v ≤ rT r) : c_ref ad' kd v = c_ref ad kd v := by
  unfold c_ref
  by_cases hv : v = 0
  · rw [if_pos hv, if_pos hv]
  · rw [if_neg hv, if_neg hv]
    by_cases hk : kd < 10
    · rw [if_pos hk, if_pos hk, hg _ (dm_v (h1 hk))]
    · rw [if_neg hk, if_neg hk, hg _ (dm_t (h2 (by omega)))]
theorem en_ext {cy : Nat → ClassId} {r r' : RS} {g g' : CG} (hI : ∀ t, t ≠ 0 → t ≤ rT r → IV r t) (hH : ∀ j, rHd r j ≤ rT r) (hT : ∀ t, t ≠ 0 → t ≤ rT r → rK r' t = rK r t ∧ rMn r' t = rMn r t ∧ ∀ j, j < rMn r t → f_at r' t j = f_at r t j) (hM : ∀ v, v ≤ rM r → rTN r' v = rTN r v ∧ rIM r' v = rIM r v) (h0 : rHd r' = rHd r) (h1 : rTr r' = rTr r) (hX : x_fs r' g' = x_fs r g) (hg : ∀ c, c_dm r c → gA g' c = gA g c) (hB : ∀ t, t ≤ rT r → gB g' t = gB g t ∧ gW g' t = gW g t) {c : Nat} (hc : c_dm r c) : c_en cy r' g' c = c_en cy r g c := by
  by_cases a : c = 0
  · subst a; rw [en_x, en_x, hX]
  by_cases b : c = 1
  · subst b; rw [en_col, en_col, h0]
    have : (fun j => c_col (gA g') (rHd r j)) = fun j => c_col (gA g) (rHd r j) := by
      funext j
      unfold c_col
      split
      · rfl
      · rw [hg _ (dm_t (hH j))]
    rw [this]
  by_cases d : c = 2
  · subst d; rw [en_tr, en_tr, h1]
  rcases (show c % 3 = 0 ∨ c % 3 = 1 ∨ c % 3 = 2 by omega) with q | q | q
  · obtain ⟨t, rfl⟩ : ∃ t, c = 3 * t := ⟨c / 3, by omega⟩
    have t0 : t ≠ 0 := by omega
    have t1 : t ≤ rT r := by have := hc.1 (by omega); omega
    rw [en_tab _ _ _ t0, en_tab _ _ _ t0]
    unfold c_tab t_fs
    rw [(hT t t0 t1).1, (hB t t1).1, (hB t t1).2, hg _ (dm_a t1)]
  · obtain ⟨t, rfl⟩ : ∃ t, c = 3 * t + 1 := ⟨c / 3, by omega⟩
    have t0 : t ≠ 0 := by omega
    have t1 : t ≤ rT r := by have := hc.1 (by omega); omega
    rw [en_arr _ _ _ t0, en_arr _ _ _ t0]
    obtain ⟨e1, e2, e3⟩ := hT t t0 t1
    have hi := hI t t0 t1
    have w1 : c_bits r' t = c_bits r t := by
      funext j
      show (if j < rMn r' t then f_at r' t j else 0) = if j < rMn r t then f_at r t j else 0
      rw [e2]
      split
      · rename_i hj; exact e3 j hj
      · rfl
    unfold c_arr
    rw [e1, e2, w1]
    by_cases h8 : rK r t < 8
    · rw [if_pos h8, if_pos h8]
    · rw [if_neg h8, if_neg h8]
      have w2 : c_items r' g' t = c_items r g t := by
        funext j
        show (if j < rMn r' t then c_ref (gA g') (rK r' t) (f_at r' t j) else none) = if j < rMn r t then c_ref (gA g) (rK r t) (f_at r t j) else none
        rw [e1, e2]
        split
        · rename_i hj
          rw [e3 j hj]
          exact ref_ext hg (hi j hj (by omega)).2.1 (hi j hj (by omega)).2.2
        · rfl
      rw [w2]
  · obtain ⟨v, rfl⟩ : ∃ v, c = 3 * v + 2 := ⟨c / 3, by omega⟩
    have v0 : v ≠ 0 := by omega
    have v1 : v ≤ rM r := by have := hc.2 (by omega); omega
    rw [en_th _ _ _ v0, en_th _ _ _ v0, (hM v v1).1, (hM v v1).2]
theorem wl_app (cs xs : List Nat) (ad : Nat → Nat) (en : Nat → va_E) : wl (cs ++ xs) ad en = wl cs ad en ++ wl xs ad en := List.map_append
theorem wl_congr {cs : List Nat} {ad ad' : Nat → Nat} {en en' : Nat → va_E} (h : ∀ c, c ∈ cs → ad' c = ad c ∧ en' c = en c) : wl cs ad' en' = wl cs ad en := List.map_congr_left (fun c hc => by rw [(h c hc).1, (h c hc).2])
theorem wl_mem {cs : List Nat} {ad : Nat → Nat} {en : Nat → va_E} {i : Nat} {q : Nat × va_E} (h : (wl cs ad en)[i]? = some q) : ∃ c, c ∈ cs ∧ q = (ad c, en c) := by
  obtain ⟨c, h1, h2⟩ := wl_inv h
  exact ⟨c, List.mem_of_getElem? h1, h2⟩
theorem CR.add {D : va_G} {cy : Nat → ClassId} {A : Nat → Prop} {r r' : RS} {g g' : CG} {H : Heap} {cs : List Nat} (h1 : ∀ c, c ∈ cs ↔ c_dm r c) (hP : va_P D vwCl (wl cs (gA g) (c_en cy r g)) H) (hD : va_D A (wl cs (gA g) (c_en cy r g))) (xs : List Nat) (hP2 : va_P D vwCl (wl xs (gA g') (c_en cy r' g')) H) (hD2 : va_D A (wl xs (gA g') (c_en cy r' g'))) (hfr : ∀ c, c ∈ cs → ∀ x, x ∈ xs → gA g c ≠ gA g' x) (hg : ∀ c, c ∈ cs → gA g' c = gA g c ∧ c_en cy r' g' c = c_en cy r g c) (hdm : ∀ c, c_dm r' c ↔ c_dm r c ∨ c ∈ xs) : CR D cy A r' g' H := by
  have e : wl (cs ++ xs) (gA g') (c_en cy r' g') = wl cs (gA g) (c_en cy r g) ++ wl xs (gA g') (c_en cy r' g') := by
    rw [wl_app, wl_congr hg]
  refine ⟨cs ++ xs, fun c => ?_, ?_, ?_⟩
  · rw [List.mem_append, h1 c, hdm c]
  · rw [e]; exact hP.app hP2
  · rw [e]
    refine hD.app hD2 (fun i j p q hi hj => ?_)
    obtain ⟨c, hc, rfl⟩ := wl_mem hi
    obtain ⟨x, hx, rfl⟩ := wl_mem hj
    exact hfr c hc x hx
theorem psum_up (f : Nat → Nat) (t v : Nat) : ∀ n, n < t → psum (va_up f t v) n = psum f n := by
  intro n
  induction n with
  | zero => intro _; rfl
  | succ n ih => intro h; simp only [psum]; rw [ih (by omega), va_up_ne _ _ (by omega)]
theorem at_table {r : RS} (hs : SI r) {k n t j : Nat} (h0 : t ≠ 0) (ht : t ≤ rT r) (hj : j < rMn r t) : f_at (f_table r k n) t j = f_at r t j := by
  show f_zero (rI r) (rN r) n (va_up (rS r) (rT r + 1) (rN r) t + j) = _
  rw [va_up_ne _ _ (by omega)]
  have h1 : rS r t + rMn r t ≤ rN r := by
    rw [hs.1 t (by omega) ht, hs.2]
    have e : psum (rMn r) (t - 1) + rMn r t = psum (rMn r) t := by
      obtain ⟨u, rfl⟩ : ∃ u, t = u + 1 := ⟨t - 1, by omega⟩
      rfl
    rw [e]
    exact psum_mono _ ht
  simp only [f_zero]
  rw [if_neg (by omega)]
  rfl
theorem VR.table {r : RS} (h : VR r) {k n : Nat} (hk : k ≤ 13) (hn : n ≤ 30) : VR (f_table r k n) := by
  obtain ⟨⟨s1, s2⟩, h2, h3⟩ := h
  refine ⟨⟨fun t a b => ?_, ?_⟩, fun t t0 ht => ?_, fun j => ?_⟩
  · have b' : t ≤ rT r + 1 := b
    show va_up (rS r) (rT r + 1) (rN r) t = psum (va_up (rMn r) (rT r + 1) n) (t - 1)
    rw [psum_up _ _ _ _ (by omega)]
    by_cases q : t = rT r + 1
    · rw [q, va_up_self, s2]; rfl
    · rw [va_up_ne _ _ q]; exact s1 t a (by omega)
  · show rN r + n = psum (va_up (rMn r) (rT r + 1) n) (rT r + 1)
    simp only [psum]
    rw [psum_up _ _ _ _ (by omega), va_up_self, ← s2]
  · have ht' : t ≤ rT r + 1 := ht
    by_cases q : t = rT r + 1
    · subst q
      refine ⟨?_, ?_, fun j hj h8 => ?_⟩
      · show va_up (rK r) (rT r + 1) k (rT r + 1) ≤ 13
        rw [va_up_self]; exact hk
      · show va_up (rMn r) (rT r + 1) n (rT r + 1) ≤ 30
        rw [va_up_self]; exact hn
      · have e : f_at (f_table r k n) (rT r + 1) j = 0 := by
          have hj' : j < va_up (rMn r) (rT r + 1) n (rT r + 1) := hj
          rw [va_up_self] at hj'
          show f_zero (rI r) (rN r) n (va_up (rS r) (rT r + 1) (rN r) (rT r + 1) + j) = 0
          rw [va_up_self]
          simp only [f_zero]
          rw [if_pos (by omega)]
        rw [e]
        exact ⟨rfl, fun _ => Nat.zero_le _, fun _ => Nat.zero_le _⟩
    · obtain ⟨q1, q2, q3⟩ := h2 t t0 (by omega)
      have e1 : rK (f_table r k n) t = rK r t := va_up_ne _ _ q
      have e2 : rMn (f_table r k n) t = rMn r t := va_up_ne _ _ q
      rw [e1, e2]
      refine ⟨q1, q2, fun j hj h8 => ?_⟩
      rw [e2] at hj
      rw [e1] at h8 ⊢
      rw [at_table ⟨s1, s2⟩ t0 (by omega) hj]
      obtain ⟨z1, z2, z3⟩ := q3 j hj h8
      exact ⟨z1, z2, fun q => Nat.le_trans (z3 q) (Nat.le_succ _)⟩
  · exact Nat.le_trans (h3 j) (Nat.le_succ _)
abbrev g_new (r : RS) (g : CG) (q1 q2 : Nat) : CG := (va_up (va_up (gA g) (3 * (rT r + 1)) q1) (3 * (rT r + 1) + 1) q2, gN g, va_up (gB g) (rT r + 1) 0, va_up (gW g) (rT r + 1) none, gM g)
theorem g_new_old {r : RS} {g : CG} {q1 q2 c : Nat} (h : c_dm r c) : gA (g_new r g q1 q2) c = gA g c := by
  have h1 : c ≠ 3 * (rT r + 1) + 1 := fun q => by have := h.1 (by omega); omega
  have h2 : c ≠ 3 * (rT r + 1) := fun q => by have := h.1 (by omega); omega
  show va_up (va_up (gA g) (3 * (rT r + 1)) q1) (3 * (rT r + 1) + 1) q2 c = _
  rw [va_up_ne _ _ h1, va_up_ne _ _ h2]
theorem g_new_1 {r : RS} {g : CG} {q1 q2 : Nat} : gA (g_new r g q1 q2) (3 * (rT r + 1)) = q1 := by
  show va_up (va_up (gA g) (3 * (rT r + 1)) q1) (3 * (rT r + 1) + 1) q2 _ = _
  rw [va_up_ne _ _ (by omega), va_up_self]
theorem g_new_2 {r : RS} {g : CG} {q1 q2 : Nat} : gA (g_new r g q1 q2) (3 * (rT r + 1) + 1) = q2 := va_up_self _ _ _
theorem en_new1 {cy : Nat → ClassId} {r : RS} {g : CG} {k n q1 q2 : Nat} : c_en cy (f_table r k n) (g_new r g q1 q2) (3 * (rT r + 1)) = .inr (if k < 8 then 1 else 0, [.int (nI k), .int 0, .null, .ref q2]) := by
  rw [en_tab _ _ _ (by omega)]
  have e1 : rK (f_table r k n) (rT r + 1) = k := va_up_self _ _ _
  have e2 : gB (g_new r g q1 q2) (rT r + 1) = 0 := va_up_self _ _ _
  have e3 : gW (g_new r g q1 q2) (rT r + 1) = none := va_up_self _ _ _
  unfold c_tab t_fs
  rw [e1, e2, e3, g_new_2]
  split <;> rfl
theorem en_new2 {cy : Nat → ClassId} {r : RS} {g : CG} {k n q1 q2 : Nat} : c_en cy (f_table r k n) (g_new r g q1 q2) (3 * (rT r + 1) + 1) = if k < 8 then .inl (cy 2, n, .inr (.inl (fun _ => 0))) else .inl (cy 5, n, .inr (.inr (.inr (.inr (fun _ => none))))) := by
  rw [en_arr _ _ _ (by omega)]
  have e1 : rK (f_table r k n) (rT r + 1) = k := va_up_self _ _ _
  have e2 : rMn (f_table r k n) (rT r + 1) = n := va_up_self _ _ _
  have e3 : ∀ j, j < n → f_at (f_table r k n) (rT r + 1) j = 0 := fun j hj => by
    show f_zero (rI r) (rN r) n (va_up (rS r) (rT r + 1) (rN r) (rT r + 1) + j) = 0
    rw [va_up_self]
    simp only [f_zero]
    rw [if_pos (by omega)]
  have w1 : c_bits (f_table r k n) (rT r + 1) = fun _ => 0 := by
    funext j
    show (if j < rMn (f_table r k n) (rT r + 1) then f_at (f_table r k n) (rT r + 1) j else 0) = 0
    rw [e2]
    split
    · rename_i hj; exact e3 j hj
    · rfl
  have w2 : c_items (f_table r k n) (g_new r g q1 q2) (rT r + 1) = fun _ => none := by
    funext j
    show (if j < rMn (f_table r k n) (rT r + 1) then c_ref (gA (g_new r g q1 q2)) (rK (f_table r k n) (rT r + 1)) (f_at (f_table r k n) (rT r + 1) j) else none) = none
    rw [e2]
    split
    · rename_i hj; rw [e3 j hj]; rfl
    · rfl
  unfold c_arr
  rw [e1, e2, w1, w2]
theorem dm_new {r : RS} {k n c : Nat} : c_dm (f_table r k n) c ↔ c_dm r c ∨ c ∈ [3 * (rT r + 1), 3 * (rT r + 1) + 1] := by
  have e : ∀ c, c_dm (f_table r k n) c ↔ ((c % 3 < 2 → c / 3 ≤ rT r + 1) ∧ (c % 3 = 2 → c / 3 ≤ rM r)) := fun _ => Iff.rfl
  rw [e, List.mem_cons, List.mem_cons]
  constructor
  · intro h
    by_cases q : c_dm r c
    · exact Or.inl q
    · right
      have h3 : ¬ ((c % 3 < 2 → c / 3 ≤ rT r) ∧ (c % 3 = 2 → c / 3 ≤ rM r)) := q
      by_cases a : c % 3 = 2
      · exact absurd ⟨fun z => by omega, h.2⟩ h3
      · have h4 := h.1 (by omega)
        have h5 : ¬ c / 3 ≤ rT r := fun z => h3 ⟨fun _ => z, fun z => absurd z a⟩
        by_cases b : c % 3 = 0
        · left; omega
        · right; left; omega
  · rintro (h | h | h | h)
    · exact ⟨fun z => Nat.le_succ_of_le (h.1 z), h.2⟩
    · exact ⟨fun _ => by omega, fun _ => by omega⟩
    · exact ⟨fun _ => by omega, fun _ => by omega⟩
    · cases h
theorem gx_new (r : RS) (g : CG) (k n q1 q2 : Nat) : GX r g (f_table r k n) (g_new r g q1 q2) := by
  refine ⟨Nat.le_succ _, Nat.le_refl _, fun c hc => g_new_old hc, rfl, fun t ht => ⟨va_up_ne _ _ (by omega), va_up_ne _ _ (by omega)⟩, fun t h1 h2 => ?_⟩
  have h2' : t ≤ rT r + 1 := h2
  have e : t = rT r + 1 := by omega
  subst e
  exact va_up_self _ _ _
/-- a table is made: from a world that holds the old cells and the two new ones -/
theorem CR.made {D : va_G} {cy : Nat → ClassId} {A : Nat → Prop} {r : RS} {g : CG} {H : Heap} {cs : List Nat} {k n q1 q2 : Nat} (hV : VR r) (h1 : ∀ c, c ∈ cs ↔ c_dm r c) (hP : va_P D vwCl (wl cs (gA g) (c_en cy (sN r (rN r + n)) g)) H) (hD : va_D A (wl cs (gA g) (c_en cy (sN r (rN r + n)) g))) (hP2 : va_P D vwCl [(q1, .inr (if k < 8 then 1 else 0, [.int (nI k), .int 0, .null, .ref q2])), (q2, if k < 8 then .inl (cy 2, n, .inr (.inl (fun _ => 0))) else .inl (cy 5, n, .inr (.inr (.inr (.inr (fun _ => none))))))] H) (hD2 : va_D A [(q1, (.inr (if k < 8 then 1 else 0, [.int (nI k), .int 0, .null, .ref q2]) : va_E)), (q2, if k < 8 then .inl (cy 2, n, .inr (.inl (fun _ => 0))) else .inl (cy 5, n, .inr (.inr (.inr (.inr (fun _ => none))))))]) (hf : ∀ c, c ∈ cs → gA g c ≠ q1 ∧ gA g c ≠ q2) : CR D cy A (f_table r k n) (g_new r g q1 q2) H := by
  have e : wl [3 * (rT r + 1), 3 * (rT r + 1) + 1] (gA (g_new r g q1 q2)) (c_en cy (f_table r k n) (g_new r g q1 q2)) = [(q1, (.inr (if k < 8 then 1 else 0, [.int (nI k), .int 0, .null, .ref q2]) : va_E)), (q2, if k < 8 then .inl (cy 2, n, .inr (.inl (fun _ => 0))) else .inl (cy 5, n, .inr (.inr (.inr (.inr (fun _ => none))))))] := by
    show [(gA (g_new r g q1 q2) (3 * (rT r + 1)), c_en cy (f_table r k n) (g_new r g q1 q2) (3 * (rT r + 1))), (gA (g_new r g q1 q2) (3 * (rT r + 1) + 1), c_en cy (f_table r k n) (g_new r g q1 q2) (3 * (rT r + 1) + 1))] = _
    rw [en_new1, en_new2, g_new_1, g_new_2]
  refine CR.add (r := sN r (rN r + n)) (g := g) h1 hP hD [3 * (rT r + 1), 3 * (rT r + 1) + 1] (by rw [e]; exact hP2) (by rw [e]; exact hD2) (fun c hc x hx => ?_) (fun c hc => ⟨g_new_old ((h1 c).mp hc), ?_⟩) (fun c => dm_new)
  · rcases List.mem_cons.mp hx with rfl | hx
    · rw [g_new_1]; exact (hf c hc).1
    · rcases List.mem_cons.mp hx with rfl | hx
      · rw [g_new_2]; exact (hf c hc).2
      · cases hx
  · refine en_ext (r := sN r (rN r + n)) (fun t t0 ht => (hV.2.1 t t0 ht).2.2) hV.2.2 (fun t t0 ht => ⟨va_up_ne _ _ (by have : t ≤ rT r := ht; omega), va_up_ne _ _ (by have : t ≤ rT r := ht; omega), fun j hj => at_table hV.1 t0 ht hj⟩) (fun _ _ => ⟨rfl, rfl⟩) rfl rfl ?_ (fun c hc => g_new_old hc) (fun t ht => ⟨va_up_ne _ _ (by have : t ≤ rT r := ht; omega), va_up_ne _ _ (by have : t ≤ rT r := ht; omega)⟩) ((h1 c).mp hc)
    unfold x_fs
    rw [g_new_old (dm_1 r), g_new_old (dm_2 r)]
    rfl
def px_Cw (D : va_G) (cy : Nat → ClassId) (A : Nat → Prop) (r : RS) (g : CG) (vf : CG → Option Value) (r' : RS) (gm : Nat) : Option Value → Heap → Prop := fun v' H => ∃ g' : CG, v' = vf g' ∧ GX r g r' g' ∧ gM g' = gm ∧ CR D cy A r' g' H
theorem px_goCw {p : Program} {l : Launch} {e : Env} {R : Room} {s : State} {m : MethodId} {args : Array Value} {below : List Frame} {meth : Method} {c : Code} {H : Heap} {locs : List Loc} {cells slots : Nat} {Q : State → Prop} {pc : Nat} {ls : Array Slot} {rest st0 : List Value} {D : va_G} {cy : Nat → ClassId} {A : Nat → Prop} {H0 : Heap} {g : CG} {vf : CG → Option Value} {r r' : RS} {gm mc ms : Nat} {a : Array Value} (hr : va_Run p l e R s m args below meth c H locs cells slots mc ms (F0 m pc ls st0) rest (px_Q (px_Cw D cy A r g vf r' gm) A a) A) (hS : va_S A H0 H locs) {c2 s2 : Nat} (hc : cells + mc ≤ c2) (hs : slots + ms ≤ s2)
    (kk : ∀ (H : Heap) (locs : List Loc) (g' : CG), GX r g r' g' → gM g' = gm → CR D cy A r' g' H → va_S A H0 H locs → W p l e R s m args below meth c H locs c2 s2 Q (F0 m (pc + 3) ls ((vf g').toList ++ rest))) : W p l e R s m args below meth c H locs cells slots Q (F0 m pc ls st0) := by
  refine px_goQ hr hS (fun v' H1 locs1 hp _ _ hS => ?_)
  obtain ⟨g', rfl, hx, hm, hR⟩ := hp
  exact W.widen hc hs (kk H1 locs1 g' hx hm hR hS)
theorem va_P_l {D : va_G} {ws ws' : va_W} {H : Heap} (h : va_P D vwCl (ws ++ ws') H) : va_P D vwCl ws H := fun k q hk => h k q (by rw [List.getElem?_append_left (List.getElem?_eq_some_iff.mp hk).1]; exact hk)
theorem va_P_r {D : va_G} {ws ws' : va_W} {H : Heap} (h : va_P D vwCl (ws ++ ws') H) : va_P D vwCl ws' H := fun k q hk => h (ws.length + k) q (by rw [List.getElem?_append_right (by omega)]; simpa using hk)
theorem va_D_l {A : Nat → Prop} {ws ws' : va_W} (h : va_D A (ws ++ ws')) : va_D A ws := by
  have e : ∀ (k : Nat) (q : Nat × va_E), ws[k]? = some q → (ws ++ ws')[k]? = some q := fun k q hk => by rw [List.getElem?_append_left (List.getElem?_eq_some_iff.mp hk).1]; exact hk
  exact ⟨fun i j p q hi hj => h.1 i j p q (e i p hi) (e j q hj), fun k q hk => h.2 k q (e k q hk)⟩
theorem va_D_x {A : Nat → Prop} {ws : va_W} {a : Nat} {e0 : va_E} (h : va_D A (ws ++ [(a, e0)])) : A a ∧ ∀ (k : Nat) (q : Nat × va_E), ws[k]? = some q → q.1 ≠ a := by
  have hl : (ws ++ [(a, e0)])[ws.length]? = some (a, e0) := by rw [List.getElem?_append_right (Nat.le_refl _)]; simp
  refine ⟨h.2 _ _ hl, fun k q hk e => ?_⟩
  have hk' := (List.getElem?_eq_some_iff.mp hk).1
  have := h.1 k ws.length q (a, e0) (by rw [List.getElem?_append_left hk']; exact hk) hl e
  omega
theorem CR.made2 {D : va_G} {cy : Nat → ClassId} {A : Nat → Prop} {r : RS} {g : CG} {H H2 : Heap} {cs : List Nat} {k n q1 q2 : Nat} {e0 e1 e2 : va_E} (hV : VR r) (h1 : ∀ c, c ∈ cs ↔ c_dm r c) (hP : va_P D vwCl (wl cs (gA g) (c_en cy (sN r (rN r + n)) g) ++ [(q1, e0)]) H) (hD : va_D A (wl cs (gA g) (c_en cy (sN r (rN r + n)) g) ++ [(q1, e0)])) (hA : ∀ q, H.size ≤ q → A q) (ho : ∀ q : Nat, q < H.size → ¬ (q = q1 ∨ H.size ≤ q) → H2[q]? = H[q]?) (hP2 : va_P D vwCl [(q1, e1), (q2, e2)] H2) (hD2 : va_D (fun q => q = q1 ∨ H.size ≤ q) [(q1, e1), (q2, e2)]) (he1 : e1 = .inr (if k < 8 then 1 else 0, [.int (nI k), .int 0, .null, .ref q2])) (he2 : e2 = if k < 8 then .inl (cy 2, n, .inr (.inl (fun _ => 0))) else .inl (cy 5, n, .inr (.inr (.inr (.inr (fun _ => none)))))) : CR D cy A (f_table r k n) (g_new r g q1 q2) H2 := by
  subst he1; subst he2
  obtain ⟨x1, x2⟩ := va_D_x hD
  have hP' := va_P_l hP
  have hq2 : q2 ≠ q1 := fun q => by
    have := hD2.1 1 0 _ _ rfl rfl q
    omega
  have hq2' : H.size ≤ q2 := (hD2.2 1 _ rfl).resolve_left hq2
  refine CR.made hV h1 (hP'.kept (fun i q hi => ho _ (hP' i q hi).lt (fun z => ?_))) (va_D_l hD) hP2 (hD2.weaken (fun i q _ z => z.elim (fun z => by rw [z]; exact x1) (fun z => hA _ z))) (fun c hc => ?_)
  · rcases z with z | z
    · exact x2 i q hi z
    · have := (hP' i q hi).lt; omega
  · obtain ⟨i, hi⟩ := List.getElem?_of_mem hc
    have hw := wl_at (ad := gA g) (en := c_en cy (sN r (rN r + n)) g) hi
    refine ⟨x2 i _ hw, fun z => ?_⟩
    have := (hP' i _ hw).lt
    have z' : gA g c = q2 := z
    have t' : gA g c < H.size := this
    omega
