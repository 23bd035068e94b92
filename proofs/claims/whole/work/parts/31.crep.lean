/-! the class: its cells -/
abbrev CG : Type := (Nat → Nat) × Int32 × (Nat → Int32) × (Nat → Option Nat) × Nat
abbrev gA (g : CG) : Nat → Nat := g.1
abbrev gN (g : CG) : Int32 := g.2.1
abbrev gB (g : CG) : Nat → Int32 := g.2.2.1
abbrev gW (g : CG) : Nat → Option Nat := g.2.2.2.1
abbrev gM (g : CG) : Nat := g.2.2.2.2
def c_ref (ad : Nat → Nat) (kd : Nat) (v : Int64) : Option Nat := if v = 0 then none else if kd < 10 then some (ad (3 * iv v + 2)) else some (ad (3 * iv v))
def c_col (ad : Nat → Nat) (t : Nat) : Option Nat := if t = 0 then none else some (ad (3 * t))
def c_dm (r : RS) (c : Nat) : Prop := (c % 3 < 2 → c / 3 ≤ rT r) ∧ (c % 3 = 2 → c / 3 ≤ rM r)
abbrev x_fs (r : RS) (g : CG) : List Value := [.ref (gA g 1), .ref (gA g 2), .int (nI (rN r)), .int (nI (gM g)), .int (gN g), .int (rPa r), .int (rNu r), .int (rFa r)]
abbrev t_fs (r : RS) (g : CG) (t : Nat) : List Value := [.int (nI (rK r t)), .int (gB g t), va_rf (gW g t), .ref (gA g (3 * t + 1))]
def c_tab (r : RS) (g : CG) (t : Nat) : va_E := if rK r t < 8 then .inr (1, t_fs r g t) else .inr (0, t_fs r g t)
abbrev c_bits (r : RS) (t : Nat) : Nat → Int64 := fun j => if j < rMn r t then rI r (rS r t + j) else 0
abbrev c_items (r : RS) (g : CG) (t : Nat) : Nat → Option Nat := fun j => if j < rMn r t then c_ref (gA g) (rK r t) (rI r (rS r t + j)) else none
def c_arr (cy : Nat → ClassId) (r : RS) (g : CG) (t : Nat) : va_E := if rK r t < 8 then .inl (cy 2, rMn r t, .inr (.inl (c_bits r t))) else .inl (cy 5, rMn r t, .inr (.inr (.inr (.inr (c_items r g t)))))
def c_en (cy : Nat → ClassId) (r : RS) (g : CG) (c : Nat) : va_E := if c = 0 then .inr (3, x_fs r g) else if c = 1 then .inl (cy 4, 16, .inr (.inr (.inr (.inr (fun j => c_col (gA g) (rHd r j)))))) else if c = 2 then .inl (cy 1, 8, .inl (rTr r)) else if c % 3 = 0 then c_tab r g (c / 3) else if c % 3 = 1 then c_arr cy r g (c / 3) else .inr (2, [.int (rTN r (c / 3)), .int (b2i (rIM r (c / 3)))])
theorem en_x (cy : Nat → ClassId) (r : RS) (g : CG) : c_en cy r g 0 = .inr (3, x_fs r g) := rfl
theorem en_col (cy : Nat → ClassId) (r : RS) (g : CG) : c_en cy r g 1 = .inl (cy 4, 16, .inr (.inr (.inr (.inr (fun j => c_col (gA g) (rHd r j)))))) := rfl
theorem en_tr (cy : Nat → ClassId) (r : RS) (g : CG) : c_en cy r g 2 = .inl (cy 1, 8, .inl (rTr r)) := rfl
theorem en_tab (cy : Nat → ClassId) (r : RS) (g : CG) {t : Nat} (h : t ≠ 0) : c_en cy r g (3 * t) = c_tab r g t := by
  unfold c_en
  rw [if_neg (by omega), if_neg (by omega), if_neg (by omega), if_pos (by omega), show 3 * t / 3 = t by omega]
theorem en_arr (cy : Nat → ClassId) (r : RS) (g : CG) {t : Nat} (h : t ≠ 0) : c_en cy r g (3 * t + 1) = c_arr cy r g t := by
  unfold c_en
  rw [if_neg (by omega), if_neg (by omega), if_neg (by omega), if_neg (by omega), if_pos (by omega), show (3 * t + 1) / 3 = t by omega]
theorem en_th (cy : Nat → ClassId) (r : RS) (g : CG) {v : Nat} (h : v ≠ 0) : c_en cy r g (3 * v + 2) = .inr (2, [.int (rTN r v), .int (b2i (rIM r v))]) := by
  unfold c_en
  rw [if_neg (by omega), if_neg (by omega), if_neg (by omega), if_neg (by omega), if_neg (by omega), show (3 * v + 2) / 3 = v by omega]
theorem dm_t {r : RS} {t : Nat} (h : t ≤ rT r) : c_dm r (3 * t) := ⟨fun _ => by omega, fun q => by omega⟩
theorem dm_a {r : RS} {t : Nat} (h : t ≤ rT r) : c_dm r (3 * t + 1) := ⟨fun _ => by omega, fun q => by omega⟩
theorem dm_v {r : RS} {v : Nat} (h : v ≤ rM r) : c_dm r (3 * v + 2) := ⟨fun q => by omega, fun _ => by omega⟩
theorem dm_0 (r : RS) : c_dm r 0 := ⟨fun _ => by omega, fun q => by omega⟩
theorem dm_1 (r : RS) : c_dm r 1 := ⟨fun _ => by omega, fun q => by omega⟩
theorem dm_2 (r : RS) : c_dm r 2 := ⟨fun q => by omega, fun _ => by omega⟩
def wl (cs : List Nat) (ad : Nat → Nat) (en : Nat → va_E) : va_W := cs.map (fun c => (ad c, en c))
def CR (D : va_G) (cy : Nat → ClassId) (A : Nat → Prop) (r : RS) (g : CG) (H : Heap) : Prop := ∃ cs : List Nat, (∀ c, c ∈ cs ↔ c_dm r c) ∧ va_P D vwCl (wl cs (gA g) (c_en cy r g)) H ∧ va_D A (wl cs (gA g) (c_en cy r g))
theorem wl_at {cs : List Nat} {ad : Nat → Nat} {en : Nat → va_E} {i c : Nat} (h : cs[i]? = some c) : (wl cs ad en)[i]? = some (ad c, en c) := by
  unfold wl
  rw [List.getElem?_map, h]; rfl
theorem wl_inv {cs : List Nat} {ad : Nat → Nat} {en : Nat → va_E} {i : Nat} {q : Nat × va_E} (h : (wl cs ad en)[i]? = some q) : ∃ c, cs[i]? = some c ∧ q = (ad c, en c) := by
  unfold wl at h
  rw [List.getElem?_map] at h
  cases hc : cs[i]? with
  | none => rw [hc] at h; cases h
  | some c => rw [hc] at h; exact ⟨c, rfl, (Option.some.inj h).symm⟩
theorem wl_set {A : Nat → Prop} {cs : List Nat} {ad : Nat → Nat} {en en' : Nat → va_E} {i c0 : Nat} {e : va_E} (hD : va_D A (wl cs ad en)) (hi : cs[i]? = some c0) (he : en' c0 = e) (hen : ∀ c, c ∈ cs → c ≠ c0 → en' c = en c) : (wl cs ad en).set i (ad c0, e) = wl cs ad en' := by
  have hl : i < (wl cs ad en).length := (List.getElem?_eq_some_iff.mp (wl_at (ad := ad) (en := en) hi)).1
  apply List.ext_getElem?
  intro j
  by_cases hj : j = i
  · subst hj
    rw [List.getElem?_set_self hl, wl_at hi, he]
  · rw [List.getElem?_set_ne (Ne.symm hj)]
    cases hc : cs[j]? with
    | none =>
      unfold wl
      rw [List.getElem?_map, List.getElem?_map, hc]; rfl
    | some c =>
      rw [wl_at hc, wl_at hc]
      have hne : c ≠ c0 := fun q => by
        subst q
        exact hj (hD.1 j i _ _ (wl_at hc) (wl_at hi) rfl)
      rw [hen c (List.mem_of_getElem? hc) hne]
theorem CR.opn {D : va_G} {cy : Nat → ClassId} {A : Nat → Prop} {r : RS} {g : CG} {H : Heap} (h : CR D cy A r g H) {c0 : Nat} (hd : c_dm r c0) : ∃ (cs : List Nat) (i : Nat), (∀ c, c ∈ cs ↔ c_dm r c) ∧ cs[i]? = some c0 ∧ va_P D vwCl (wl cs (gA g) (c_en cy r g)) H ∧ va_D A (wl cs (gA g) (c_en cy r g)) ∧ (wl cs (gA g) (c_en cy r g))[i]? = some (gA g c0, c_en cy r g c0) := by
  obtain ⟨cs, h1, hP, hD⟩ := h
  obtain ⟨i, hi⟩ := List.getElem?_of_mem ((h1 c0).mpr hd)
  exact ⟨cs, i, h1, hi, hP, hD, wl_at hi⟩
theorem CR.close {D : va_G} {cy : Nat → ClassId} {A : Nat → Prop} {r r' : RS} {g g' : CG} {H1 : Heap} {cs : List Nat} {i c0 : Nat} {e : va_E} (h1 : ∀ c, c ∈ cs ↔ c_dm r c) (hi : cs[i]? = some c0) (hD : va_D A (wl cs (gA g) (c_en cy r g))) (hP' : va_P D vwCl ((wl cs (gA g) (c_en cy r g)).set i (gA g c0, e)) H1) (hD' : va_D A ((wl cs (gA g) (c_en cy r g)).set i (gA g c0, e))) (had : gA g' = gA g) (hdm : ∀ c, c_dm r' c ↔ c_dm r c) (he : c_en cy r' g' c0 = e) (hen : ∀ c, c_dm r c → c ≠ c0 → c_en cy r' g' c = c_en cy r g c) : CR D cy A r' g' H1 := by
  have e1 := wl_set (en' := c_en cy r' g') hD hi he (fun c hc hne => hen c ((h1 c).mp hc) hne)
  rw [e1] at hP' hD'
  exact ⟨cs, fun c => (h1 c).trans (hdm c).symm, by rw [had]; exact hP', by rw [had]; exact hD'⟩
theorem CR.at {D : va_G} {cy : Nat → ClassId} {A : Nat → Prop} {r : RS} {g : CG} {H : Heap} (h : CR D cy A r g H) {c0 : Nat} (hd : c_dm r c0) : va_P D vwCl [(gA g c0, c_en cy r g c0)] H ∧ A (gA g c0) ∧ gA g c0 < H.size := by
  obtain ⟨cs, i, h1, hi, hP, hD, hq⟩ := h.opn hd
  refine ⟨fun k q hk => ?_, hD.2 _ _ hq, (hP _ _ hq).lt⟩
  have hz : k < 1 := (List.getElem?_eq_some_iff.mp hk).1
  rw [show k = 0 by omega] at hk
  cases hk
  exact hP _ _ hq
theorem CR.inj {D : va_G} {cy : Nat → ClassId} {A : Nat → Prop} {r : RS} {g : CG} {H : Heap} (h : CR D cy A r g H) {a b : Nat} (ha : c_dm r a) (hb : c_dm r b) (e : gA g a = gA g b) : a = b := by
  obtain ⟨cs, h1, hP, hD⟩ := h
  obtain ⟨i, hi⟩ := List.getElem?_of_mem ((h1 a).mpr ha)
  obtain ⟨j, hj⟩ := List.getElem?_of_mem ((h1 b).mpr hb)
  have := hD.1 i j _ _ (wl_at hi) (wl_at hj) e
  subst this
  exact Option.some.inj (hi.symm.trans hj)
section CX
variable {p : Program} {l : Launch} {e : Env} {R : Room} {s : State} {m : MethodId} {args : Array Value} {below : List Frame} {meth : Method} {c : Code} {H : Heap} {locs : List Loc} {cells slots : Nat} {Q : State → Prop} {cc : ByteArray} {pc nL : Nat} {ls : Array Slot} {rest : List Value} {D : va_G} {cy : Nat → ClassId} {A : Nat → Prop} {H0 : Heap} {r : RS} {g : CG}
theorem TX5_own (k : Nat) : (TX5 k).1 = RX5 := by
  unfold TX5
  split <;> rfl
theorem c_recv (hK : KK D cy s) (hC : CR D cy A r g H) : ∃ cell : Cell, H[gA g 0]? = some cell ∧ cell.vm.isStatics = false ∧ s.vm.findClass RX5 = some cell.cls := va_recv hK.1 (hC.at (dm_0 r)).1 (ci := 3) (q0 := 0) rfl rfl
theorem c_gx (F : px_F p m c cc nL s args RX5) (hK : KK D cy s) (hC : CR D cy A r g H) (k : Nat) (hk : k < 8) {v : Value} (hv : (x_fs r g)[k]? = some v) {idx : Nat} (hw : Cond.fieldLink RX5 idx RX5 (TX5 k).2.1 (TX5 k).2.2.1 ∈ bigW) (hdg : decode cc pc = .ok (.getfield idx, 3)) (kk : W p l e R s m args below meth c H locs cells slots Q (F0 m (pc + 3) ls (v :: rest))) : W p l e R s m args below meth c H locs cells slots Q (F0 m pc ls (.ref (gA g 0) :: rest)) :=
  va_get (D := D) (ci := 3) (C := RX5) (T := TX5) (N := 8) F.1 F.2.1 F.2.2.2.2 inlX5 F.2.2.2.1 hK.1 (hC.at (dm_0 r)).1 0 rfl rfl k hk (F.2.2.2.2 _ hw) (fun _ h => by rw [TX5_own k] at h; exact h) hv hdg kk
theorem c_px (F : px_F p m c cc nL s args RX5) (hK : KK D cy s) (hC : CR D cy A r g H) (hS : va_S A H0 H locs) (k : Nat) (hk : k < 8) {x v : Int32} (hx : x = v) (r' : RS) (g' : CG) (hr : (x_fs r g).set k (.int v) = x_fs r' g') (had : gA g' = gA g) (hdm : ∀ c, c_dm r' c ↔ c_dm r c) (hen : ∀ c, c ≠ 0 → c_en cy r' g' c = c_en cy r g c) {idx : Nat} (hw : Cond.fieldLink RX5 idx RX5 (TX5 k).2.1 (TX5 k).2.2.1 ∈ bigW) (hfin : (TX5 k).2.2.2 = false) (hd : parseFieldDescriptor (TX5 k).2.2.1 = some .int) (hdg : decode cc pc = .ok (.putfield idx, 3)) (kk : ∀ (H : Heap) (locs : List Loc), CR D cy A r' g' H → va_S A H0 H locs → W p l e R s m args below meth c H locs cells slots Q (F0 m (pc + 3) ls rest)) : W p l e R s m args below meth c H locs cells slots Q (F0 m pc ls (.int x :: .ref (gA g 0) :: rest)) := by
  subst hx
  obtain ⟨cs, i, h1, hi, hP, hD, hq⟩ := hC.opn (dm_0 r)
  refine va_put (D := D) (ci := 3) (v := .int x) (ty := .int) (C := RX5) (T := TX5) (N := 8) F.1 F.2.1 F.2.2.2.2 inlX5 tyX5 tyX5_ok nmX5 F.2.2.2.1 hK.1 hP hD hS i hq rfl k hk (F.2.2.2.2 _ hw) (fun _ h => by rw [TX5_own k] at h; exact h) hfin hd rfl rfl hk hdg (fun H1 locs1 hP' hD' hS => ?_)
  exact kk H1 locs1 (CR.close h1 hi hD hP' hD' had hdm (by rw [en_x, hr]) (fun c _ hne => hen c hne)) hS
theorem rf_inj {a b : Option Nat} (h : a = b) : va_rf a = va_rf b := by rw [h]
/-- columns: a load, a store -/
theorem c_ldcol (F : px_F p m c cc nL s args RX5) (hK : KK D cy s) (hC : CR D cy A r g H) {x : Int32} (i : Nat) (hxi : x = nI i) (hi : i < 16) (hdg : decode cc pc = .ok (.aaload, 1)) (kk : W p l e R s m args below meth c H locs cells slots Q (F0 m (pc + 1) ls (va_rf (c_col (gA g) (rHd r i)) :: rest))) : W p l e R s m args below meth c H locs cells slots Q (F0 m pc ls (.int x :: .ref (gA g 1) :: rest)) := by
  subst hxi
  refine va_aldq F.1 F.2.1 hK.1 (hC.at (dm_1 r)).1 0 4 rfl rfl (vp_in_nI hi (by decide)) hdg ?_
  rw [nI_clamp (show i < 2 ^ 31 by omega)]
  exact kk
theorem c_ldtr (F : px_F p m c cc nL s args RX5) (hK : KK D cy s) (hC : CR D cy A r g H) {x : Int32} (i : Nat) (hxi : x = nI i) (hi : i < 8) (hdg : decode cc pc = .ok (.iaload, 1)) (kk : W p l e R s m args below meth c H locs cells slots Q (F0 m (pc + 1) ls (.int (rTr r i) :: rest))) : W p l e R s m args below meth c H locs cells slots Q (F0 m pc ls (.int x :: .ref (gA g 2) :: rest)) := by
  subst hxi
  refine va_iald F.1 F.2.1 hK.1 (hC.at (dm_2 r)).1 0 1 rfl rfl (vp_in_nI hi (by decide)) hdg ?_
  rw [nI_clamp (show i < 2 ^ 31 by omega)]
  exact kk
theorem en_sTr (cy : Nat → ClassId) (r : RS) (g : CG) (f : Nat → Int32) {c : Nat} (h : c ≠ 2) : c_en cy (sTr r f) g c = c_en cy r g c := by
  unfold c_en
  split
  · rfl
  · split
    · rfl
    · first | rfl | (simp only [if_neg h]; rfl) | (rw [if_neg h]; rfl)
theorem en_sHd (cy : Nat → ClassId) (r : RS) (g : CG) (f : Nat → Nat) {c : Nat} (h : c ≠ 1) : c_en cy (sHd r f) g c = c_en cy r g c := by
  unfold c_en
  split
  · rfl
  · first | rfl | (simp only [if_neg h]; rfl) | (rw [if_neg h]; rfl)
theorem c_sttr (F : px_F p m c cc nL s args RX5) (hK : KK D cy s) (hC : CR D cy A r g H) (hS : va_S A H0 H locs) {x y : Int32} (i : Nat) (v : Int32) (hxi : x = nI i) (hv : y = v) (hi : i < 8) (hdg : decode cc pc = .ok (.iastore, 1)) (kk : ∀ (H : Heap) (locs : List Loc), CR D cy A (sTr r (va_up (rTr r) i v)) g H → va_S A H0 H locs → W p l e R s m args below meth c H locs cells slots Q (F0 m (pc + 1) ls rest)) : W p l e R s m args below meth c H locs cells slots Q (F0 m pc ls (.int y :: .int x :: .ref (gA g 2) :: rest)) := by
  subst hxi; subst hv
  obtain ⟨cs, j, h1, hj, hP, hD, hq⟩ := hC.opn (dm_2 r)
  refine va_iast F.1 F.2.1 hK.1 hP hD hS j 1 hq rfl (vp_in_nI hi (by decide)) hdg (fun H1 locs1 hP' hD' hS => ?_)
  rw [nI_clamp (show i < 2 ^ 31 by omega), upd_up] at hP' hD'
  exact kk H1 locs1 (CR.close h1 hj hD hP' hD' rfl (fun _ => Iff.rfl) rfl (fun c _ hne => en_sTr cy r g _ hne)) hS
theorem col_up (ad : Nat → Nat) (f : Nat → Nat) (i t : Nat) : (fun j => c_col ad (va_up f i t j)) = va_up (fun j => c_col ad (f j)) i (c_col ad t) := by
  funext j
  by_cases h : j = i
  · subst h; rw [va_up_self, va_up_self]
  · rw [va_up_ne _ _ h, va_up_ne _ _ h]
/-- a table is assignable to Table -/
theorem c_anyT (hK : KK D cy s) (hC : CR D cy A r g H) {t : Nat} (h0 : t ≠ 0) (ht : t ≤ rT r) : va_Any RX3 s H (gA g (3 * t)) := by
  have h1 := (hC.at (dm_t ht)).1
  rw [en_tab _ _ _ h0] at h1
  unfold c_tab at h1
  by_cases hk : rK r t < 8
  · rw [if_pos hk] at h1
    refine va_rAny hK.1 h1 (ci := 1) (q0 := 0) (r := (RX2, TX2, 4)) rfl rfl (fun comp c0 hc h0 => ?_)
    obtain ⟨a, b, q1, q2, q3⟩ := hK.2.1 (RX2, RX3, true) (List.mem_of_getElem? (i := 3) rfl)
    rw [show comp = b from Option.some.inj (hc.symm.trans q2), show c0 = a from Option.some.inj (h0.symm.trans q1)]
    exact q3
  · rw [if_neg hk] at h1
    refine va_rAny hK.1 h1 (ci := 0) (q0 := 0) (r := (RX0, TX0, 4)) rfl rfl (fun comp c0 hc h0 => ?_)
    obtain ⟨a, b, q1, q2, q3⟩ := hK.2.1 (RX0, RX3, true) (List.mem_of_getElem? (i := 4) rfl)
    rw [show comp = b from Option.some.inj (hc.symm.trans q2), show c0 = a from Option.some.inj (h0.symm.trans q1)]
    exact q3
theorem c_stcol (F : px_F p m c cc nL s args RX5) (hK : KK D cy s) (hC : CR D cy A r g H) (hS : va_S A H0 H locs) {x : Int32} {y : Value} (i t : Nat) (hxi : x = nI i) (hy : y = va_rf (c_col (gA g) t)) (ht : t ≤ rT r) (hi : i < 16) (hdg : decode cc pc = .ok (.aastore, 1)) (kk : ∀ (H : Heap) (locs : List Loc), CR D cy A (sHd r (va_up (rHd r) i t)) g H → va_S A H0 H locs → W p l e R s m args below meth c H locs cells slots Q (F0 m (pc + 1) ls rest)) : W p l e R s m args below meth c H locs cells slots Q (F0 m pc ls (y :: .int x :: .ref (gA g 1) :: rest)) := by
  subst hxi; subst hy
  obtain ⟨cs, j, h1, hj, hP, hD, hq⟩ := hC.opn (dm_1 r)
  by_cases h0 : t = 0
  · rw [show c_col (gA g) t = none from if_pos h0]
    refine va_astqN F.1 F.2.1 hK.1 hP hD hS j 4 hq rfl (vp_in_nI hi (by decide)) hdg (fun H1 locs1 hP' hD' hS => ?_)
    rw [nI_clamp (show i < 2 ^ 31 by omega)] at hP' hD'
    exact kk H1 locs1 (CR.close h1 hj hD hP' hD' rfl (fun _ => Iff.rfl) (by rw [en_col]; show Sum.inl (cy 4, 16, Sum.inr (Sum.inr (Sum.inr (Sum.inr (fun j => c_col (gA g) (va_up (rHd r) i t j)))))) = _; rw [col_up, show c_col (gA g) t = none from if_pos h0]) (fun c _ hne => en_sHd cy r g _ hne)) hS
  · rw [show c_col (gA g) t = some (gA g (3 * t)) from if_neg h0]
    refine va_astqM F.1 F.2.1 hK.1 hP hD hS j 4 hq rfl (c_anyT hK hC h0 ht) (vp_in_nI hi (by decide)) hdg (fun H1 locs1 hP' hD' hS => ?_)
    rw [nI_clamp (show i < 2 ^ 31 by omega)] at hP' hD'
    exact kk H1 locs1 (CR.close h1 hj hD hP' hD' rfl (fun _ => Iff.rfl) (by rw [en_col]; show Sum.inl (cy 4, 16, Sum.inr (Sum.inr (Sum.inr (Sum.inr (fun j => c_col (gA g) (va_up (rHd r) i t j)))))) = _; rw [col_up, show c_col (gA g) t = some (gA g (3 * t)) from if_neg h0]) (fun c _ hne => en_sHd cy r g _ hne)) hS
end CX
