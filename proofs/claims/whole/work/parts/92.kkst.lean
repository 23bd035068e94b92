/-! the law: what the tables say at its start -/
set_option maxHeartbeats 1000000 in
theorem kk_start {s : State} {b : Nat} (hts : ∀ w ∈ lw_tbl, w.before #[Value.ref b] s = true) (hgv : (Jvm.Cond.and given_1 narrow_1).before #[Value.ref b] s = true) : ∃ (D : va_G) (cy : Nat → ClassId), KK D cy s := by
  have hfl := flat_of_before _ hgv
  obtain ⟨c0, iS0, hKn0⟩ := u_known (C := RX0) (T := TX0) (N := 4) (n := 4) hts in_wsX00 (hts (Cond.instantiable RX0 4) (mt1 104 rfl))
  obtain ⟨c1, iS1, hKn1⟩ := u_known (C := RX2) (T := TX2) (N := 4) (n := 4) hts in_wsX20 (hts (Cond.instantiable RX2 4) (mt1 72 rfl))
  obtain ⟨c2, iS2, hKn2⟩ := u_known (C := RX4) (T := TX4) (N := 2) (n := 2) hts in_wsX40 (hts (Cond.instantiable RX4 2) (mt2 7 rfl))
  obtain ⟨c3, iS3, hKn3⟩ := u_known (C := RX5) (T := TX5) (N := 8) (n := 8) hts in_wsX50 (hts (Cond.instantiable RX5 8) (mt1 11 rfl))
  obtain ⟨c4, iS4, hKn4⟩ := u_known (C := RX6) (T := TX6) (N := 16) (n := 16) hts in_wsX60 (hts (Cond.instantiable RX6 16) (mt2 122 rfl))
  obtain ⟨dC, dI, hKc⟩ : ∃ (dC : Nat → ClassId) (dI : Nat → Nat → Nat), ∀ (k : Nat) (q : vw_C), vwCl[k]? = some q → u_Kn s q.1 q.2.1 q.2.2 (dC k) (dI k) := by
    refine ⟨fun k => match k with | 0 => c0 | 1 => c1 | 2 => c2 | 3 => c3 | _ => c4, fun k => match k with | 0 => iS0 | 1 => iS1 | 2 => iS2 | 3 => iS3 | _ => iS4, ?_⟩
    intro k q hq
    match k, hq with
    | 0, hq => cases hq; exact hKn0
    | 1, hq => cases hq; exact hKn1
    | 2, hq => cases hq; exact hKn2
    | 3, hq => cases hq; exact hKn3
    | 4, hq => cases hq; exact hKn4
    | k + 5, hq => cases hq
  obtain ⟨a0, k0, p0, f0, g0, h0⟩ := Cond.arrayClass_spec (hts (Cond.arrayClass .byte) (mt2 176 rfl))
  obtain ⟨a1, k1, p1, f1, g1, h1⟩ := Cond.arrayClass_spec (hts (Cond.arrayClass .int) (mt1 49 rfl))
  obtain ⟨a2, k2, p2, f2, g2, h2⟩ := Cond.arrayClass_spec (hts (Cond.arrayClass .long) (mt1 102 rfl))
  obtain ⟨a3, k3, p3, f3, g3, h3⟩ := Cond.arrayClass_spec (hts (Cond.arrayClass .boolean) (mt2 177 rfl))
  obtain ⟨p4, a4, k4, f4, i4, g4, h4, j4⟩ := Cond.arrayOver_spec (hts (Cond.arrayOver (.object RX3)) (mt1 19 rfl))
  obtain ⟨p5, a5, k5, f5, i5, g5, h5, j5⟩ := Cond.arrayOver_spec (hts (Cond.arrayOver (.object RX1)) (mt1 110 rfl))
  refine ⟨(dC, dI), (fun k => match k with | 0 => a0 | 1 => a1 | 2 => a2 | 3 => a3 | 4 => a4 | _ => a5), ⟨hKc, ?_⟩, ?_, va_AO.of (hts (Cond.arrayOver (.object RX3)) (mt1 19 rfl)), va_AO.of (hts (Cond.arrayOver (.object RX1)) (mt1 110 rfl)), va_Nw.of rfl (hts (Cond.declares ⟨RX3, "count", "()I"⟩) (mt1 143 rfl)), va_Nw.of rfl (hts (Cond.methodLinkNest RX3 1 yX1_init "PlanCopies") (mt1 79 rfl)), va_Nw.of rfl (hts (Cond.methodLinkNest RX4 1 yX1_init "PlanCopies") (mt2 11 rfl))⟩
  · intro k q hq
    match k, hq with
    | 0, hq => cases hq; exact ⟨fun n z => ⟨fun _ h => (by cases h), k0, g0, p0, h0⟩, f0⟩
    | 1, hq => cases hq; exact ⟨fun n z => ⟨fun _ h => (by cases h), k1, g1, p1, h1⟩, f1⟩
    | 2, hq => cases hq; exact ⟨fun n z => ⟨fun _ h => (by cases h), k2, g2, p2, h2⟩, f2⟩
    | 3, hq => cases hq; exact ⟨fun n z => ⟨fun _ h => (by cases h), k3, g3, p3, h3⟩, f3⟩
    | 4, hq => cases hq; exact ⟨fun n z => ⟨fun _ h => (by cases h), k4, g4, p4, h4⟩, k4, p4, g4, h4, f4, j4⟩
    | 5, hq => cases hq; exact ⟨fun n z => ⟨fun _ h => (by cases h), k5, g5, p5, h5⟩, k5, p5, g5, h5, f5, j5⟩
    | k + 6, hq => cases hq
  · show ∀ q ∈ px_prs, px_As q.1 q.2.1 q.2.2 s
    exact List.forall_mem_cons.mpr ⟨(Cond.castable_spec (hts (Cond.castable RX4 RX1) (mt3 148 rfl)) : px_As RX4 RX1 true s), List.forall_mem_cons.mpr ⟨(Cond.castable_spec (hts (Cond.castable RX2 RX1) (mt3 147 rfl)) : px_As RX2 RX1 true s), List.forall_mem_cons.mpr ⟨(Cond.castable_spec (hts (Cond.castable RX0 RX1) (mt3 146 rfl)) : px_As RX0 RX1 true s), List.forall_mem_cons.mpr ⟨(Cond.castable_spec (hts (Cond.castable RX2 RX3) (mt3 144 rfl)) : px_As RX2 RX3 true s), List.forall_mem_cons.mpr ⟨(Cond.castable_spec (hts (Cond.castable RX0 RX3) (mt3 143 rfl)) : px_As RX0 RX3 true s), List.forall_mem_cons.mpr ⟨(va_Nc.of (hfl (Cond.not (Cond.castable RX4 RX3)) (by decide +kernel)) : px_As RX4 RX3 false s), List.forall_mem_cons.mpr ⟨(Cond.castable_spec (hts (Cond.castable RX4 RX4) (mt3 142 rfl)) : px_As RX4 RX4 true s), List.forall_mem_cons.mpr ⟨(va_Nc.of (hfl (Cond.not (Cond.castable RX2 RX4)) (by decide +kernel)) : px_As RX2 RX4 false s), List.forall_mem_cons.mpr ⟨(va_Nc.of (hfl (Cond.not (Cond.castable RX0 RX4)) (by decide +kernel)) : px_As RX0 RX4 false s), List.forall_mem_cons.mpr ⟨(Cond.castable_spec (hts (Cond.castable RX2 RX2) (mt3 145 rfl)) : px_As RX2 RX2 true s), List.forall_mem_cons.mpr ⟨(va_Nc.of (hfl (Cond.not (Cond.castable RX0 RX2)) (by decide +kernel)) : px_As RX0 RX2 false s), List.forall_mem_cons.mpr ⟨(va_Nc.of (hfl (Cond.not (Cond.castable RX2 RX0)) (by decide +kernel)) : px_As RX2 RX0 false s), List.forall_mem_cons.mpr ⟨(Cond.castable_spec (hts (Cond.castable RX0 RX0) (mt3 141 rfl)) : px_As RX0 RX0 true s), fun _ h => absurd h List.not_mem_nil⟩⟩⟩⟩⟩⟩⟩⟩⟩⟩⟩⟩⟩
