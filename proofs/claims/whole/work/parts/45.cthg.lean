/-! the class: a thing is made -/
abbrev g_nv (r : RS) (g : CG) (q1 : Nat) : CG := (va_up (gA g) (3 * (rM r + 1) + 2) q1, gN g, gB g, gW g, gM g + 1)
abbrev g_m1 (g : CG) : CG := (gA g, gN g, gB g, gW g, gM g + 1)
theorem g_nv_old {r : RS} {g : CG} {q1 c : Nat} (h : c_dm r c) : gA (g_nv r g q1) c = gA g c := va_up_ne _ _ (fun q => by have := h.2 (by omega); omega)
theorem g_nv_1 {r : RS} {g : CG} {q1 : Nat} : gA (g_nv r g q1) (3 * (rM r + 1) + 2) = q1 := va_up_self _ _ _
theorem en_nv {cy : Nat → ClassId} {r : RS} {g : CG} {mk : Bool} {nu : Int32} : c_en cy (f_newT r mk nu) g (3 * (rM r + 1) + 2) = .inr (2, [.int nu, .int (b2i mk)]) := by
  rw [en_th _ _ _ (by omega)]
  have e1 : rTN (f_newT r mk nu) (rM r + 1) = nu := va_up_self _ _ _
  have e2 : rIM (f_newT r mk nu) (rM r + 1) = mk := va_up_self _ _ _
  rw [e1, e2]
theorem dm_nv {r : RS} {mk : Bool} {nu : Int32} {c : Nat} : c_dm (f_newT r mk nu) c ↔ c_dm r c ∨ c ∈ [3 * (rM r + 1) + 2] := by
  have e : ∀ c, c_dm (f_newT r mk nu) c ↔ ((c % 3 < 2 → c / 3 ≤ rT r) ∧ (c % 3 = 2 → c / 3 ≤ rM r + 1)) := fun _ => Iff.rfl
  rw [e, List.mem_singleton]
  constructor
  · intro h
    by_cases q : c = 3 * (rM r + 1) + 2
    · exact Or.inr q
    · exact Or.inl ⟨h.1, fun z => by have := h.2 z; omega⟩
  · rintro (h | h)
    · exact ⟨h.1, fun z => Nat.le_succ_of_le (h.2 z)⟩
    · exact ⟨fun _ => by omega, fun _ => by omega⟩
theorem gx_nv (r : RS) (g : CG) (mk : Bool) (nu : Int32) (q1 : Nat) : GX r g (f_newT r mk nu) (g_nv r g q1) := ⟨Nat.le_refl _, Nat.le_succ _, fun c hc => g_nv_old hc, rfl, fun _ _ => ⟨rfl, rfl⟩, fun t h1 h2 => by have h2' : t ≤ rT r := h2; omega⟩
theorem CR.madeV {D : va_G} {cy : Nat → ClassId} {A : Nat → Prop} {r : RS} {g : CG} {H H2 : Heap} {cs : List Nat} {mk : Bool} {nu : Int32} {q1 : Nat} {e0 : va_E} (hV : VR r) (h1 : ∀ c, c ∈ cs ↔ c_dm r c) (hP : va_P D vwCl (wl cs (gA g) (c_en cy r (g_m1 g)) ++ [(q1, e0)]) H) (hD : va_D A (wl cs (gA g) (c_en cy r (g_m1 g)) ++ [(q1, e0)])) (ho : ∀ q : Nat, q < H.size → ¬ q = q1 → H2[q]? = H[q]?) (hP2 : va_P D vwCl [(q1, .inr (2, [.int nu, .int (b2i mk)]))] H2) : CR D cy A (f_newT r mk nu) (g_nv r g q1) H2 := by
  obtain ⟨x1, x2⟩ := va_D_x hD
  have hP' := va_P_l hP
  have e : wl [3 * (rM r + 1) + 2] (gA (g_nv r g q1)) (c_en cy (f_newT r mk nu) (g_nv r g q1)) = [(q1, (.inr (2, [.int nu, .int (b2i mk)]) : va_E))] := by
    show [(gA (g_nv r g q1) (3 * (rM r + 1) + 2), c_en cy (f_newT r mk nu) (g_nv r g q1) (3 * (rM r + 1) + 2))] = _
    rw [en_nv, g_nv_1]
  refine CR.add (r := r) (g := g_m1 g) h1 (hP'.kept (fun i q hi => ho _ (hP' i q hi).lt (x2 i q hi))) (va_D_l hD) [3 * (rM r + 1) + 2] (by rw [e]; exact hP2) (by rw [e]; exact va_D1 x1) (fun c hc x hx => ?_) (fun c hc => ⟨g_nv_old ((h1 c).mp hc), ?_⟩) (fun c => dm_nv)
  · rw [List.mem_singleton.mp hx, g_nv_1]
    obtain ⟨i, hi⟩ := List.getElem?_of_mem hc
    exact x2 i _ (wl_at (ad := gA g) (en := c_en cy r (g_m1 g)) hi)
  · refine en_ext (r := r) (r' := f_newT r mk nu) (g := g_m1 g) (g' := g_nv r g q1) (fun t t0 ht => (hV.2.1 t t0 ht).2.2) hV.2.2 (fun t t0 ht => ⟨rfl, rfl, fun _ _ => rfl⟩) (fun v hv => ⟨va_up_ne _ _ (by omega), va_up_ne _ _ (by omega)⟩) rfl rfl ?_ (fun c hc => g_nv_old hc) (fun _ _ => ⟨rfl, rfl⟩) ((h1 c).mp hc)
    unfold x_fs
    rw [g_nv_old (dm_1 r), g_nv_old (dm_2 r)]
    rfl
theorem VR.newT {r : RS} (h : VR r) (mk : Bool) (nu : Int32) : VR (f_newT r mk nu) := ⟨h.1, fun t t0 ht => ⟨(h.2.1 t t0 ht).1, (h.2.1 t t0 ht).2.1, fun j hj h8 => ⟨((h.2.1 t t0 ht).2.2 j hj h8).1, fun q => Nat.le_succ_of_le (((h.2.1 t t0 ht).2.2 j hj h8).2.1 q), ((h.2.1 t t0 ht).2.2 j hj h8).2.2⟩⟩, h.2.2⟩
