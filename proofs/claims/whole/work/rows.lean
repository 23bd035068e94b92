section
-- ===== PART A: goes FIRST, ahead of the names: the tables' words, and 'selects' of the private methods out of them =====
/-- a private method of a class that the tables say can be made, by its rows of tables_1 -/
def lw_okq (q : MethodName × Nat) : Prop := (q.1.cls ≠ "java/lang/invoke/MethodHandle" ∧ q.1.cls ≠ "java/lang/invoke/VarHandle") ∧ Cond.instantiable q.1.cls q.2 ∈ tables_1 ∧ Cond.privateMethod q.1 ∈ tables_1 ∧ Cond.instanceMethod q.1 ∈ tables_1
theorem lw_p0 : lw_okq (⟨"PlanCopies", "begin", "()V"⟩, 8) := ⟨⟨by decide +kernel, by decide +kernel⟩, List.mem_of_getElem? (i := 11) (by decide +kernel), List.mem_of_getElem? (i := 21) (by decide +kernel), List.mem_of_getElem? (i := 22) (by decide +kernel)⟩
theorem lw_p1 : lw_okq (⟨"PlanCopies", "isFull", "()Z"⟩, 8) := ⟨⟨by decide +kernel, by decide +kernel⟩, List.mem_of_getElem? (i := 11) (by decide +kernel), List.mem_of_getElem? (i := 61) (by decide +kernel), List.mem_of_getElem? (i := 62) (by decide +kernel)⟩
theorem lw_p2 : lw_okq (⟨"PlanCopies", "newTable", "(II)LPlanCopies$Table;"⟩, 8) := ⟨⟨by decide +kernel, by decide +kernel⟩, List.mem_of_getElem? (i := 11) (by decide +kernel), List.mem_of_getElem? (i := 68) (by decide +kernel), List.mem_of_getElem? (i := 69) (by decide +kernel)⟩
theorem lw_p3 : lw_okq (⟨"PlanCopies", "newDeepTable", "(IIII)LPlanCopies$Table;"⟩, 8) := ⟨⟨by decide +kernel, by decide +kernel⟩, List.mem_of_getElem? (i := 11) (by decide +kernel), List.mem_of_getElem? (i := 130) (by decide +kernel), List.mem_of_getElem? (i := 131) (by decide +kernel)⟩
theorem lw_p4 : lw_okq (⟨"PlanCopies", "placeNewRows", "(LPlanCopies$Table;I)V"⟩, 8) := ⟨⟨by decide +kernel, by decide +kernel⟩, List.mem_of_getElem? (i := 11) (by decide +kernel), List.mem_of_getElem? (i := 159) (by decide +kernel), List.mem_of_getElem? (i := 160) (by decide +kernel)⟩
theorem lw_p5 : lw_okq (⟨"PlanCopies", "twinOf", "(LPlanCopies$Table;I)LPlanCopies$Table;"⟩, 8) := ⟨⟨by decide +kernel, by decide +kernel⟩, List.mem_of_getElem? (i := 11) (by decide +kernel), List.mem_of_getElem? (i := 171) (by decide +kernel), List.mem_of_getElem? (i := 172) (by decide +kernel)⟩
theorem lw_p6 : lw_okq (⟨"PlanCopies", "renewRows", "(LPlanCopies$Holder;I)V"⟩, 8) := ⟨⟨by decide +kernel, by decide +kernel⟩, List.mem_of_getElem? (i := 11) (by decide +kernel), List.mem_of_getElem? (i := 190) (by decide +kernel), List.mem_of_getElem? (i := 191) (by decide +kernel)⟩
theorem lw_p7 : lw_okq (⟨"PlanCopies", "noBits", "(I)J"⟩, 8) := ⟨⟨by decide +kernel, by decide +kernel⟩, List.mem_of_getElem? (i := 11) (by decide +kernel), List.mem_of_getElem? (i := 210) (by decide +kernel), List.mem_of_getElem? (i := 211) (by decide +kernel)⟩
theorem lw_p8 : lw_okq (⟨"PlanCopies", "bitsAt", "(LPlanCopies$Table;I)J"⟩, 8) := ⟨⟨by decide +kernel, by decide +kernel⟩, List.mem_of_getElem? (i := 11) (by decide +kernel), List.mem_of_getElem? (i := 214) (by decide +kernel), List.mem_of_getElem? (i := 215) (by decide +kernel)⟩
theorem lw_p9 : lw_okq (⟨"PlanCopies", "newThing", "(IZ)LPlanCopies$Thing;"⟩, 8) := ⟨⟨by decide +kernel, by decide +kernel⟩, List.mem_of_getElem? (i := 11) (by decide +kernel), List.mem_of_getElem? (i := 244) (by decide +kernel), List.mem_of_getElem? (i := 245) (by decide +kernel)⟩
theorem lw_p10 : lw_okq (⟨"PlanCopies", "heldColumns", "()I"⟩, 8) := ⟨⟨by decide +kernel, by decide +kernel⟩, List.mem_of_getElem? (i := 11) (by decide +kernel), List.mem_of_getElem? (i := 354) (by decide +kernel), List.mem_of_getElem? (i := 355) (by decide +kernel)⟩
theorem lw_p11 : lw_okq (⟨"PlanCopiesModel", "isFull", "()Z"⟩, 16) := ⟨⟨by decide +kernel, by decide +kernel⟩, List.mem_of_getElem? (i := 362) (by decide +kernel), List.mem_of_getElem? (i := 429) (by decide +kernel), List.mem_of_getElem? (i := 430) (by decide +kernel)⟩
theorem lw_p12 : lw_okq (⟨"PlanCopiesModel", "table", "(II)I"⟩, 16) := ⟨⟨by decide +kernel, by decide +kernel⟩, List.mem_of_getElem? (i := 362) (by decide +kernel), List.mem_of_getElem? (i := 436) (by decide +kernel), List.mem_of_getElem? (i := 437) (by decide +kernel)⟩
theorem lw_p13 : lw_okq (⟨"PlanCopiesModel", "put", "(IIJ)V"⟩, 16) := ⟨⟨by decide +kernel, by decide +kernel⟩, List.mem_of_getElem? (i := 362) (by decide +kernel), List.mem_of_getElem? (i := 447) (by decide +kernel), List.mem_of_getElem? (i := 448) (by decide +kernel)⟩
theorem lw_p14 : lw_okq (⟨"PlanCopiesModel", "flat", "(I)I"⟩, 16) := ⟨⟨by decide +kernel, by decide +kernel⟩, List.mem_of_getElem? (i := 362) (by decide +kernel), List.mem_of_getElem? (i := 459) (by decide +kernel), List.mem_of_getElem? (i := 460) (by decide +kernel)⟩
theorem lw_p15 : lw_okq (⟨"PlanCopiesModel", "at", "(II)J"⟩, 16) := ⟨⟨by decide +kernel, by decide +kernel⟩, List.mem_of_getElem? (i := 362) (by decide +kernel), List.mem_of_getElem? (i := 463) (by decide +kernel), List.mem_of_getElem? (i := 464) (by decide +kernel)⟩
def lw_privs_1 : List (MethodName × Nat) := [(⟨"PlanCopies", "begin", "()V"⟩, 8), (⟨"PlanCopies", "isFull", "()Z"⟩, 8), (⟨"PlanCopies", "newTable", "(II)LPlanCopies$Table;"⟩, 8), (⟨"PlanCopies", "newDeepTable", "(IIII)LPlanCopies$Table;"⟩, 8), (⟨"PlanCopies", "placeNewRows", "(LPlanCopies$Table;I)V"⟩, 8), (⟨"PlanCopies", "twinOf", "(LPlanCopies$Table;I)LPlanCopies$Table;"⟩, 8), (⟨"PlanCopies", "renewRows", "(LPlanCopies$Holder;I)V"⟩, 8), (⟨"PlanCopies", "noBits", "(I)J"⟩, 8), (⟨"PlanCopies", "bitsAt", "(LPlanCopies$Table;I)J"⟩, 8), (⟨"PlanCopies", "newThing", "(IZ)LPlanCopies$Thing;"⟩, 8), (⟨"PlanCopies", "heldColumns", "()I"⟩, 8), (⟨"PlanCopiesModel", "isFull", "()Z"⟩, 16), (⟨"PlanCopiesModel", "table", "(II)I"⟩, 16), (⟨"PlanCopiesModel", "put", "(IIJ)V"⟩, 16), (⟨"PlanCopiesModel", "flat", "(I)I"⟩, 16), (⟨"PlanCopiesModel", "at", "(II)J"⟩, 16)]
theorem lw_r1 : ∀ q ∈ lw_privs_1, lw_okq q := List.forall_mem_cons.mpr ⟨lw_p0, List.forall_mem_cons.mpr ⟨lw_p1, List.forall_mem_cons.mpr ⟨lw_p2, List.forall_mem_cons.mpr ⟨lw_p3, List.forall_mem_cons.mpr ⟨lw_p4, List.forall_mem_cons.mpr ⟨lw_p5, List.forall_mem_cons.mpr ⟨lw_p6, List.forall_mem_cons.mpr ⟨lw_p7, List.forall_mem_cons.mpr ⟨lw_p8, List.forall_mem_cons.mpr ⟨lw_p9, List.forall_mem_cons.mpr ⟨lw_p10, List.forall_mem_cons.mpr ⟨lw_p11, List.forall_mem_cons.mpr ⟨lw_p12, List.forall_mem_cons.mpr ⟨lw_p13, List.forall_mem_cons.mpr ⟨lw_p14, List.forall_mem_cons.mpr ⟨lw_p15, fun _ h => absurd h List.not_mem_nil⟩⟩⟩⟩⟩⟩⟩⟩⟩⟩⟩⟩⟩⟩⟩⟩
theorem lw_p16 : lw_okq (⟨"PlanCopiesModel", "middle", "(I)I"⟩, 16) := ⟨⟨by decide +kernel, by decide +kernel⟩, List.mem_of_getElem? (i := 362) (by decide +kernel), List.mem_of_getElem? (i := 467) (by decide +kernel), List.mem_of_getElem? (i := 468) (by decide +kernel)⟩
theorem lw_p17 : lw_okq (⟨"PlanCopiesModel", "isOf", "(II)Z"⟩, 16) := ⟨⟨by decide +kernel, by decide +kernel⟩, List.mem_of_getElem? (i := 362) (by decide +kernel), List.mem_of_getElem? (i := 483) (by decide +kernel), List.mem_of_getElem? (i := 484) (by decide +kernel)⟩
theorem lw_p18 : lw_okq (⟨"PlanCopiesModel", "itemOf", "(III)J"⟩, 16) := ⟨⟨by decide +kernel, by decide +kernel⟩, List.mem_of_getElem? (i := 362) (by decide +kernel), List.mem_of_getElem? (i := 491) (by decide +kernel), List.mem_of_getElem? (i := 492) (by decide +kernel)⟩
theorem lw_p19 : lw_okq (⟨"PlanCopiesModel", "looked", "(II)I"⟩, 16) := ⟨⟨by decide +kernel, by decide +kernel⟩, List.mem_of_getElem? (i := 362) (by decide +kernel), List.mem_of_getElem? (i := 495) (by decide +kernel), List.mem_of_getElem? (i := 496) (by decide +kernel)⟩
theorem lw_p20 : lw_okq (⟨"PlanCopiesModel", "areUnlike", "(II)Z"⟩, 16) := ⟨⟨by decide +kernel, by decide +kernel⟩, List.mem_of_getElem? (i := 362) (by decide +kernel), List.mem_of_getElem? (i := 549) (by decide +kernel), List.mem_of_getElem? (i := 550) (by decide +kernel)⟩
theorem lw_p21 : lw_okq (⟨"PlanCopiesModel", "canStand", "(IJI)Z"⟩, 16) := ⟨⟨by decide +kernel, by decide +kernel⟩, List.mem_of_getElem? (i := 362) (by decide +kernel), List.mem_of_getElem? (i := 553) (by decide +kernel), List.mem_of_getElem? (i := 554) (by decide +kernel)⟩
theorem lw_p22 : lw_okq (⟨"PlanCopiesModel", "middleSize", "(I)I"⟩, 16) := ⟨⟨by decide +kernel, by decide +kernel⟩, List.mem_of_getElem? (i := 362) (by decide +kernel), List.mem_of_getElem? (i := 565) (by decide +kernel), List.mem_of_getElem? (i := 566) (by decide +kernel)⟩
theorem lw_p23 : lw_okq (⟨"PlanCopiesModel", "flatSize", "(I)I"⟩, 16) := ⟨⟨by decide +kernel, by decide +kernel⟩, List.mem_of_getElem? (i := 362) (by decide +kernel), List.mem_of_getElem? (i := 569) (by decide +kernel), List.mem_of_getElem? (i := 570) (by decide +kernel)⟩
theorem lw_p24 : lw_okq (⟨"PlanCopiesModel", "areMiddleLike", "(II)Z"⟩, 16) := ⟨⟨by decide +kernel, by decide +kernel⟩, List.mem_of_getElem? (i := 362) (by decide +kernel), List.mem_of_getElem? (i := 577) (by decide +kernel), List.mem_of_getElem? (i := 578) (by decide +kernel)⟩
theorem lw_p25 : lw_okq (⟨"PlanCopiesModel", "areFlatLike", "(II)Z"⟩, 16) := ⟨⟨by decide +kernel, by decide +kernel⟩, List.mem_of_getElem? (i := 362) (by decide +kernel), List.mem_of_getElem? (i := 581) (by decide +kernel), List.mem_of_getElem? (i := 582) (by decide +kernel)⟩
theorem lw_p26 : lw_okq (⟨"PlanCopiesModel", "areShaped", "(II)Z"⟩, 16) := ⟨⟨by decide +kernel, by decide +kernel⟩, List.mem_of_getElem? (i := 362) (by decide +kernel), List.mem_of_getElem? (i := 585) (by decide +kernel), List.mem_of_getElem? (i := 586) (by decide +kernel)⟩
theorem lw_p27 : lw_okq (⟨"PlanCopiesModel", "areThingsLike", "(II)Z"⟩, 16) := ⟨⟨by decide +kernel, by decide +kernel⟩, List.mem_of_getElem? (i := 362) (by decide +kernel), List.mem_of_getElem? (i := 589) (by decide +kernel), List.mem_of_getElem? (i := 590) (by decide +kernel)⟩
def lw_privs_2 : List (MethodName × Nat) := [(⟨"PlanCopiesModel", "middle", "(I)I"⟩, 16), (⟨"PlanCopiesModel", "isOf", "(II)Z"⟩, 16), (⟨"PlanCopiesModel", "itemOf", "(III)J"⟩, 16), (⟨"PlanCopiesModel", "looked", "(II)I"⟩, 16), (⟨"PlanCopiesModel", "areUnlike", "(II)Z"⟩, 16), (⟨"PlanCopiesModel", "canStand", "(IJI)Z"⟩, 16), (⟨"PlanCopiesModel", "middleSize", "(I)I"⟩, 16), (⟨"PlanCopiesModel", "flatSize", "(I)I"⟩, 16), (⟨"PlanCopiesModel", "areMiddleLike", "(II)Z"⟩, 16), (⟨"PlanCopiesModel", "areFlatLike", "(II)Z"⟩, 16), (⟨"PlanCopiesModel", "areShaped", "(II)Z"⟩, 16), (⟨"PlanCopiesModel", "areThingsLike", "(II)Z"⟩, 16)]
theorem lw_r2 : ∀ q ∈ lw_privs_2, lw_okq q := List.forall_mem_cons.mpr ⟨lw_p16, List.forall_mem_cons.mpr ⟨lw_p17, List.forall_mem_cons.mpr ⟨lw_p18, List.forall_mem_cons.mpr ⟨lw_p19, List.forall_mem_cons.mpr ⟨lw_p20, List.forall_mem_cons.mpr ⟨lw_p21, List.forall_mem_cons.mpr ⟨lw_p22, List.forall_mem_cons.mpr ⟨lw_p23, List.forall_mem_cons.mpr ⟨lw_p24, List.forall_mem_cons.mpr ⟨lw_p25, List.forall_mem_cons.mpr ⟨lw_p26, List.forall_mem_cons.mpr ⟨lw_p27, fun _ h => absurd h List.not_mem_nil⟩⟩⟩⟩⟩⟩⟩⟩⟩⟩⟩⟩
def lw_privs : List (MethodName × Nat) := lw_privs_1 ++ (lw_privs_2)
def lw_tbl : List Cond := k2_sels lw_privs ++ tables_1
theorem lw_privs_ok : ∀ q ∈ lw_privs, lw_okq q := by
  show ∀ q ∈ lw_privs_1 ++ (lw_privs_2), lw_okq q
  exact List.forall_mem_append.mpr ⟨lw_r1, lw_r2⟩

/-! ===== BEGIN words of one list among another's, by their places ===== -/
theorem goodIn_r {big : List Cond} (ws : List Cond) (ps : List Nat) (hp : ws = ps.filterMap (fun i => big[i]?)) (h : ws.all goodWord = true) : GoodIn big ws := by
  intro w hw
  have h1 := List.all_eq_true.mp h w hw
  rw [hp] at hw
  obtain ⟨i, -, hi⟩ := List.mem_filterMap.mp hw
  have hm : w ∈ big := by first | exact List.mem_of_getElem? hi | exact List.getElem?_mem hi
  exact ⟨hm, good_of_word h1⟩
theorem goodIn_app {big a b : List Cond} (ha : GoodIn big a) (hb : GoodIn big b) : GoodIn big (a ++ b) := fun w h => (List.mem_append.mp h).elim (ha w) (hb w)
theorem goodIn_ca {big a b : List Cond} {c : Cond} (ha : GoodIn big (c :: a)) (hb : GoodIn big b) : GoodIn big (c :: (a ++ b)) := fun w h => (List.mem_cons.mp h).elim (fun e => ha w (List.mem_cons.mpr (Or.inl e))) (fun h => (List.mem_append.mp h).elim (fun h => ha w (List.mem_cons.mpr (Or.inr h))) (hb w))
theorem goodIn_sub {big ws : List Cond} (hm : ∀ w ∈ ws, w ∈ big) (h : ws.all goodWord = true) : GoodIn big ws := fun w hw => ⟨hm w hw, good_of_word (List.all_eq_true.mp h w hw)⟩
/-! ===== END ===== -/

/-! ===== BEGIN printed: names, fields, word lists, decode rows ===== -/
def RX0 : String := "PlanCopies$Holder"
def TX0 : u_T := fun k => match k with
  | 0 => ("PlanCopies$Table", "kind", "I", true)
  | 1 => ("PlanCopies$Table", "twinMadeBy", "I", false)
  | 2 => ("PlanCopies$Table", "twin", "LPlanCopies$Table;", false)
  | _ => ("PlanCopies$Holder", "items", "[LPlanCopies$Item;", true)
def tyX0 : Nat → FieldType := fun k => match k with
  | 0 => .int
  | 1 => .int
  | 2 => .object "PlanCopies$Table"
  | _ => .array (.object "PlanCopies$Item")
abbrev wsX00 : List Cond := u_ws RX0 TX0 4
theorem nmX0 : ∀ a, a < 4 → ∀ b, b < 4 → a ≠ b → (TX0 a).2.1 ≠ (TX0 b).2.1 := by decide +kernel
theorem tyX0_ok : ∀ k, k < 4 → parseFieldDescriptor (TX0 k).2.2.1 = some (tyX0 k) := by decide +kernel
abbrev cX0_init : ByteArray := prog_2_method_1_code
def yX0_init : MethodName := ⟨RX0, "<init>", "(II)V"⟩
abbrev cX0_count : ByteArray := prog_2_method_2_code
def yX0_count : MethodName := ⟨RX0, "count", "()I"⟩
def RX1 : String := "PlanCopies$Item"
def TX1 : u_T := fun k => match k with
  | _ => ("", "", "", false)
def tyX1 : Nat → FieldType := fun k => match k with
  | _ => .int
abbrev wsX10 : List Cond := u_ws RX1 TX1 0
theorem nmX1 : ∀ a, a < 0 → ∀ b, b < 0 → a ≠ b → (TX1 a).2.1 ≠ (TX1 b).2.1 := by decide +kernel
theorem tyX1_ok : ∀ k, k < 0 → parseFieldDescriptor (TX1 k).2.2.1 = some (tyX1 k) := by decide +kernel
abbrev cX1_init : ByteArray := prog_3_method_1_code
def yX1_init : MethodName := ⟨RX1, "<init>", "()V"⟩
def RX2 : String := "PlanCopies$Plain"
def TX2 : u_T := fun k => match k with
  | 0 => ("PlanCopies$Table", "kind", "I", true)
  | 1 => ("PlanCopies$Table", "twinMadeBy", "I", false)
  | 2 => ("PlanCopies$Table", "twin", "LPlanCopies$Table;", false)
  | _ => ("PlanCopies$Plain", "bits", "[J", true)
def tyX2 : Nat → FieldType := fun k => match k with
  | 0 => .int
  | 1 => .int
  | 2 => .object "PlanCopies$Table"
  | _ => .array .long
abbrev wsX20 : List Cond := u_ws RX2 TX2 4
theorem nmX2 : ∀ a, a < 4 → ∀ b, b < 4 → a ≠ b → (TX2 a).2.1 ≠ (TX2 b).2.1 := by decide +kernel
theorem tyX2_ok : ∀ k, k < 4 → parseFieldDescriptor (TX2 k).2.2.1 = some (tyX2 k) := by decide +kernel
abbrev cX2_init : ByteArray := prog_4_method_1_code
def yX2_init : MethodName := ⟨RX2, "<init>", "(II)V"⟩
abbrev cX2_count : ByteArray := prog_4_method_2_code
def yX2_count : MethodName := ⟨RX2, "count", "()I"⟩
def RX3 : String := "PlanCopies$Table"
def TX3 : u_T := fun k => match k with
  | _ => ("", "", "", false)
def tyX3 : Nat → FieldType := fun k => match k with
  | _ => .int
abbrev wsX30 : List Cond := u_ws RX3 TX3 0
theorem nmX3 : ∀ a, a < 0 → ∀ b, b < 0 → a ≠ b → (TX3 a).2.1 ≠ (TX3 b).2.1 := by decide +kernel
theorem tyX3_ok : ∀ k, k < 0 → parseFieldDescriptor (TX3 k).2.2.1 = some (tyX3 k) := by decide +kernel
abbrev cX3_init : ByteArray := prog_5_method_1_code
def yX3_init : MethodName := ⟨RX3, "<init>", "(I)V"⟩
def RX4 : String := "PlanCopies$Thing"
def TX4 : u_T := fun k => match k with
  | 0 => ("PlanCopies$Thing", "number", "I", true)
  | _ => ("PlanCopies$Thing", "marked", "Z", true)
def tyX4 : Nat → FieldType := fun k => match k with
  | 0 => .int
  | _ => .boolean
abbrev wsX40 : List Cond := u_ws RX4 TX4 2
theorem nmX4 : ∀ a, a < 2 → ∀ b, b < 2 → a ≠ b → (TX4 a).2.1 ≠ (TX4 b).2.1 := by decide +kernel
theorem tyX4_ok : ∀ k, k < 2 → parseFieldDescriptor (TX4 k).2.2.1 = some (tyX4 k) := by decide +kernel
abbrev cX4_init : ByteArray := prog_6_method_1_code
def yX4_init : MethodName := ⟨RX4, "<init>", "(IZ)V"⟩
def RX5 : String := "PlanCopies"
def TX5 : u_T := fun k => match k with
  | 0 => ("PlanCopies", "columns", "[LPlanCopies$Table;", true)
  | 1 => ("PlanCopies", "troubles", "[I", true)
  | 2 => ("PlanCopies", "itemsMade", "I", false)
  | 3 => ("PlanCopies", "thingsMade", "I", false)
  | 4 => ("PlanCopies", "asidesMade", "I", false)
  | 5 => ("PlanCopies", "latestPassed", "I", false)
  | 6 => ("PlanCopies", "latestNumber", "I", false)
  | _ => ("PlanCopies", "latestFault", "I", false)
def tyX5 : Nat → FieldType := fun k => match k with
  | 0 => .array (.object "PlanCopies$Table")
  | 1 => .array .int
  | 2 => .int
  | 3 => .int
  | 4 => .int
  | 5 => .int
  | 6 => .int
  | _ => .int
abbrev wsX50 : List Cond := u_ws RX5 TX5 8
theorem nmX5 : ∀ a, a < 8 → ∀ b, b < 8 → a ≠ b → (TX5 a).2.1 ≠ (TX5 b).2.1 := by decide +kernel
theorem tyX5_ok : ∀ k, k < 8 → parseFieldDescriptor (TX5 k).2.2.1 = some (tyX5 k) := by decide +kernel
abbrev cX5_init : ByteArray := prog_1_method_1_code
def yX5_init : MethodName := ⟨RX5, "<init>", "()V"⟩
abbrev cX5_make : ByteArray := prog_1_method_2_code
def yX5_make : MethodName := ⟨RX5, "make", "(III)I"⟩
abbrev cX5_deep : ByteArray := prog_1_method_3_code
def yX5_deep : MethodName := ⟨RX5, "deep", "(IIIII)I"⟩
abbrev cX5_share : ByteArray := prog_1_method_4_code
def yX5_share : MethodName := ⟨RX5, "share", "(II)I"⟩
abbrev cX5_aside : ByteArray := prog_1_method_5_code
def yX5_aside : MethodName := ⟨RX5, "aside", "(II)I"⟩
abbrev cX5_drop : ByteArray := prog_1_method_6_code
def yX5_drop : MethodName := ⟨RX5, "drop", "(I)I"⟩
abbrev cX5_kind : ByteArray := prog_1_method_7_code
def yX5_kind : MethodName := ⟨RX5, "kind", "(I)I"⟩
abbrev cX5_length : ByteArray := prog_1_method_8_code
def yX5_length : MethodName := ⟨RX5, "length", "(II)I"⟩
abbrev cX5_read : ByteArray := prog_1_method_9_code
def yX5_read : MethodName := ⟨RX5, "read", "(III)J"⟩
abbrev cX5_write : ByteArray := prog_1_method_10_code
def yX5_write : MethodName := ⟨RX5, "write", "(IIIJ)I"⟩
abbrev cX5_thing : ByteArray := prog_1_method_11_code
def yX5_thing : MethodName := ⟨RX5, "thing", "(IIII)I"⟩
abbrev cX5_marked : ByteArray := prog_1_method_12_code
def yX5_marked : MethodName := ⟨RX5, "marked", "(II)I"⟩
abbrev cX5_cell : ByteArray := prog_1_method_13_code
def yX5_cell : MethodName := ⟨RX5, "cell", "(IIII)J"⟩
abbrev cX5_set : ByteArray := prog_1_method_14_code
def yX5_set : MethodName := ⟨RX5, "set", "(IIIIJ)I"⟩
abbrev cX5_deepest : ByteArray := prog_1_method_15_code
def yX5_deepest : MethodName := ⟨RX5, "deepest", "(IIII)J"⟩
abbrev cX5_row : ByteArray := prog_1_method_16_code
def yX5_row : MethodName := ⟨RX5, "row", "(IIII)I"⟩
abbrev cX5_take : ByteArray := prog_1_method_17_code
def yX5_take : MethodName := ⟨RX5, "take", "(IIII)I"⟩
abbrev cX5_grow : ByteArray := prog_1_method_18_code
def yX5_grow : MethodName := ⟨RX5, "grow", "(II)I"⟩
abbrev cX5_copy : ByteArray := prog_1_method_19_code
def yX5_copy : MethodName := ⟨RX5, "copy", "(IIIII)I"⟩
abbrev cX5_fill : ByteArray := prog_1_method_20_code
def yX5_fill : MethodName := ⟨RX5, "fill", "(IIJ)I"⟩
abbrev cX5_size : ByteArray := prog_1_method_21_code
def yX5_size : MethodName := ⟨RX5, "size", "(I)I"⟩
abbrev cX5_alike : ByteArray := prog_1_method_22_code
def yX5_alike : MethodName := ⟨RX5, "alike", "(II)I"⟩
abbrev cX5_trouble : ByteArray := prog_1_method_23_code
def yX5_trouble : MethodName := ⟨RX5, "trouble", "(II)I"⟩
abbrev cX5_raise : ByteArray := prog_1_method_24_code
def yX5_raise : MethodName := ⟨RX5, "raise", "(II)I"⟩
abbrev cX5_passed : ByteArray := prog_1_method_25_code
def yX5_passed : MethodName := ⟨RX5, "passed", "()I"⟩
abbrev cX5_number : ByteArray := prog_1_method_26_code
def yX5_number : MethodName := ⟨RX5, "number", "()I"⟩
abbrev cX5_fault : ByteArray := prog_1_method_27_code
def yX5_fault : MethodName := ⟨RX5, "fault", "()I"⟩
abbrev cX5_clear : ByteArray := prog_1_method_28_code
def yX5_clear : MethodName := ⟨RX5, "clear", "()I"⟩
abbrev cX5_told : ByteArray := prog_1_method_29_code
def yX5_told : MethodName := ⟨RX5, "told", "(I)I"⟩
abbrev cX5_begin : ByteArray := prog_1_method_30_code
def yX5_begin : MethodName := ⟨RX5, "begin", "()V"⟩
abbrev cX5_heldColumns : ByteArray := prog_1_method_31_code
def yX5_heldColumns : MethodName := ⟨RX5, "heldColumns", "()I"⟩
abbrev cX5_isFull : ByteArray := prog_1_method_32_code
def yX5_isFull : MethodName := ⟨RX5, "isFull", "()Z"⟩
abbrev cX5_isColumn : ByteArray := prog_1_method_33_code
def yX5_isColumn : MethodName := ⟨RX5, "isColumn", "(I)Z"⟩
abbrev cX5_isTrouble : ByteArray := prog_1_method_34_code
def yX5_isTrouble : MethodName := ⟨RX5, "isTrouble", "(I)Z"⟩
abbrev cX5_isKind : ByteArray := prog_1_method_35_code
def yX5_isKind : MethodName := ⟨RX5, "isKind", "(III)Z"⟩
abbrev cX5_isTooDeep : ByteArray := prog_1_method_36_code
def yX5_isTooDeep : MethodName := ⟨RX5, "isTooDeep", "(III)Z"⟩
abbrev cX5_against : ByteArray := prog_1_method_37_code
def yX5_against : MethodName := ⟨RX5, "against", "(I)I"⟩
abbrev cX5_noBits : ByteArray := prog_1_method_38_code
def yX5_noBits : MethodName := ⟨RX5, "noBits", "(I)J"⟩
abbrev cX5_newTable : ByteArray := prog_1_method_39_code
def yX5_newTable : MethodName := ⟨RX5, "newTable", "(II)LPlanCopies$Table;"⟩
abbrev cX5_newDeepTable : ByteArray := prog_1_method_40_code
def yX5_newDeepTable : MethodName := ⟨RX5, "newDeepTable", "(IIII)LPlanCopies$Table;"⟩
abbrev cX5_placeNewRows : ByteArray := prog_1_method_41_code
def yX5_placeNewRows : MethodName := ⟨RX5, "placeNewRows", "(LPlanCopies$Table;I)V"⟩
abbrev cX5_newThing : ByteArray := prog_1_method_42_code
def yX5_newThing : MethodName := ⟨RX5, "newThing", "(IZ)LPlanCopies$Thing;"⟩
abbrev cX5_twinOf : ByteArray := prog_1_method_43_code
def yX5_twinOf : MethodName := ⟨RX5, "twinOf", "(LPlanCopies$Table;I)LPlanCopies$Table;"⟩
abbrev cX5_renewRows : ByteArray := prog_1_method_44_code
def yX5_renewRows : MethodName := ⟨RX5, "renewRows", "(LPlanCopies$Holder;I)V"⟩
abbrev cX5_kindOfRows : ByteArray := prog_1_method_45_code
def yX5_kindOfRows : MethodName := ⟨RX5, "kindOfRows", "(I)I"⟩
abbrev cX5_fits : ByteArray := prog_1_method_46_code
def yX5_fits : MethodName := ⟨RX5, "fits", "(LPlanCopies$Table;I)Z"⟩
abbrev cX5_canStand : ByteArray := prog_1_method_47_code
def yX5_canStand : MethodName := ⟨RX5, "canStand", "(LPlanCopies$Item;I)Z"⟩
abbrev cX5_faultAt : ByteArray := prog_1_method_48_code
def yX5_faultAt : MethodName := ⟨RX5, "faultAt", "(LPlanCopies$Table;I)I"⟩
abbrev cX5_faultTaken : ByteArray := prog_1_method_49_code
def yX5_faultTaken : MethodName := ⟨RX5, "faultTaken", "(LPlanCopies$Table;II)I"⟩
abbrev cX5_itemAt : ByteArray := prog_1_method_50_code
def yX5_itemAt : MethodName := ⟨RX5, "itemAt", "(LPlanCopies$Table;I)LPlanCopies$Item;"⟩
abbrev cX5_rowAt : ByteArray := prog_1_method_51_code
def yX5_rowAt : MethodName := ⟨RX5, "rowAt", "(LPlanCopies$Table;I)LPlanCopies$Table;"⟩
abbrev cX5_bitsAt : ByteArray := prog_1_method_52_code
def yX5_bitsAt : MethodName := ⟨RX5, "bitsAt", "(LPlanCopies$Table;I)J"⟩
abbrev cX5_putBits : ByteArray := prog_1_method_53_code
def yX5_putBits : MethodName := ⟨RX5, "putBits", "(LPlanCopies$Table;IJ)I"⟩
abbrev cX5_place : ByteArray := prog_1_method_54_code
def yX5_place : MethodName := ⟨RX5, "place", "(LPlanCopies$Table;ILPlanCopies$Item;)I"⟩
abbrev cX5_transfer : ByteArray := prog_1_method_55_code
def yX5_transfer : MethodName := ⟨RX5, "transfer", "(LPlanCopies$Table;ILPlanCopies$Table;II)I"⟩
abbrev cX5_transferItems : ByteArray := prog_1_method_56_code
def yX5_transferItems : MethodName := ⟨RX5, "transferItems", "(LPlanCopies$Table;ILPlanCopies$Table;II)I"⟩
abbrev cX5_hasStretch : ByteArray := prog_1_method_57_code
def yX5_hasStretch : MethodName := ⟨RX5, "hasStretch", "(LPlanCopies$Table;II)Z"⟩
abbrev cX5_keptBits : ByteArray := prog_1_method_58_code
def yX5_keptBits : MethodName := ⟨RX5, "keptBits", "(IJ)J"⟩
abbrev cX5_keptFloat : ByteArray := prog_1_method_59_code
def yX5_keptFloat : MethodName := ⟨RX5, "keptFloat", "(I)I"⟩
abbrev cX5_keptDouble : ByteArray := prog_1_method_60_code
def yX5_keptDouble : MethodName := ⟨RX5, "keptDouble", "(J)J"⟩
abbrev cX5_singleItems : ByteArray := prog_1_method_61_code
def yX5_singleItems : MethodName := ⟨RX5, "singleItems", "(LPlanCopies$Table;I)I"⟩
abbrev cX5_areAlike : ByteArray := prog_1_method_62_code
def yX5_areAlike : MethodName := ⟨RX5, "areAlike", "(LPlanCopies$Table;LPlanCopies$Table;I)Z"⟩
abbrev cX5_haveSameBits : ByteArray := prog_1_method_63_code
def yX5_haveSameBits : MethodName := ⟨RX5, "haveSameBits", "(LPlanCopies$Plain;LPlanCopies$Plain;)Z"⟩
abbrev cX5_areItemsAlike : ByteArray := prog_1_method_64_code
def yX5_areItemsAlike : MethodName := ⟨RX5, "areItemsAlike", "(LPlanCopies$Item;LPlanCopies$Item;I)Z"⟩
def RX6 : String := "PlanCopiesModel"
def TX6 : u_T := fun k => match k with
  | 0 => ("PlanCopiesModel", "tables", "I", false)
  | 1 => ("PlanCopiesModel", "kindOf", "[B", true)
  | 2 => ("PlanCopiesModel", "many", "[B", true)
  | 3 => ("PlanCopiesModel", "start", "[I", true)
  | 4 => ("PlanCopiesModel", "items", "I", false)
  | 5 => ("PlanCopiesModel", "item", "[J", true)
  | 6 => ("PlanCopiesModel", "things", "I", false)
  | 7 => ("PlanCopiesModel", "thingNumber", "[I", true)
  | 8 => ("PlanCopiesModel", "isMarked", "[Z", true)
  | 9 => ("PlanCopiesModel", "held", "[I", true)
  | 10 => ("PlanCopiesModel", "troubleNumber", "[I", true)
  | 11 => ("PlanCopiesModel", "passed", "I", false)
  | 12 => ("PlanCopiesModel", "number", "I", false)
  | 13 => ("PlanCopiesModel", "fault", "I", false)
  | 14 => ("PlanCopiesModel", "copyOf", "[I", true)
  | _ => ("PlanCopiesModel", "kept", "[J", true)
def tyX6 : Nat → FieldType := fun k => match k with
  | 0 => .int
  | 1 => .array .byte
  | 2 => .array .byte
  | 3 => .array .int
  | 4 => .int
  | 5 => .array .long
  | 6 => .int
  | 7 => .array .int
  | 8 => .array .boolean
  | 9 => .array .int
  | 10 => .array .int
  | 11 => .int
  | 12 => .int
  | 13 => .int
  | 14 => .array .int
  | _ => .array .long
abbrev wsX60 : List Cond := u_ws RX6 TX6 16
theorem nmX6 : ∀ a, a < 16 → ∀ b, b < 16 → a ≠ b → (TX6 a).2.1 ≠ (TX6 b).2.1 := by decide +kernel
theorem tyX6_ok : ∀ k, k < 16 → parseFieldDescriptor (TX6 k).2.2.1 = some (tyX6 k) := by decide +kernel
abbrev cX6_init : ByteArray := prog_8_method_1_code
def yX6_init : MethodName := ⟨RX6, "<init>", "()V"⟩
abbrev cX6_in : ByteArray := prog_8_method_2_code
def yX6_in : MethodName := ⟨RX6, "in", "(III)Z"⟩
abbrev cX6_isColumn : ByteArray := prog_8_method_3_code
def yX6_isColumn : MethodName := ⟨RX6, "isColumn", "(I)Z"⟩
abbrev cX6_answer : ByteArray := prog_8_method_4_code
def yX6_answer : MethodName := ⟨RX6, "answer", "(I)I"⟩
abbrev cX6_table : ByteArray := prog_8_method_5_code
def yX6_table : MethodName := ⟨RX6, "table", "(II)I"⟩
abbrev cX6_at : ByteArray := prog_8_method_6_code
def yX6_at : MethodName := ⟨RX6, "at", "(II)J"⟩
abbrev cX6_put : ByteArray := prog_8_method_7_code
def yX6_put : MethodName := ⟨RX6, "put", "(IIJ)V"⟩
abbrev cX6_rowKind : ByteArray := prog_8_method_8_code
def yX6_rowKind : MethodName := ⟨RX6, "rowKind", "(I)I"⟩
abbrev cX6_isOf : ByteArray := prog_8_method_9_code
def yX6_isOf : MethodName := ⟨RX6, "isOf", "(II)Z"⟩
abbrev cX6_isFull : ByteArray := prog_8_method_10_code
def yX6_isFull : MethodName := ⟨RX6, "isFull", "()Z"⟩
abbrev cX6_make : ByteArray := prog_8_method_11_code
def yX6_make : MethodName := ⟨RX6, "make", "(III)I"⟩
abbrev cX6_deep : ByteArray := prog_8_method_12_code
def yX6_deep : MethodName := ⟨RX6, "deep", "(IIIII)I"⟩
abbrev cX6_share : ByteArray := prog_8_method_13_code
def yX6_share : MethodName := ⟨RX6, "share", "(II)I"⟩
abbrev cX6_flat : ByteArray := prog_8_method_14_code
def yX6_flat : MethodName := ⟨RX6, "flat", "(I)I"⟩
abbrev cX6_middle : ByteArray := prog_8_method_15_code
def yX6_middle : MethodName := ⟨RX6, "middle", "(I)I"⟩
abbrev cX6_aside : ByteArray := prog_8_method_16_code
def yX6_aside : MethodName := ⟨RX6, "aside", "(II)I"⟩
abbrev cX6_drop : ByteArray := prog_8_method_17_code
def yX6_drop : MethodName := ⟨RX6, "drop", "(I)I"⟩
abbrev cX6_kind : ByteArray := prog_8_method_18_code
def yX6_kind : MethodName := ⟨RX6, "kind", "(I)I"⟩
abbrev cX6_length : ByteArray := prog_8_method_19_code
def yX6_length : MethodName := ⟨RX6, "length", "(II)I"⟩
abbrev cX6_looked : ByteArray := prog_8_method_20_code
def yX6_looked : MethodName := ⟨RX6, "looked", "(II)I"⟩
abbrev cX6_cut : ByteArray := prog_8_method_21_code
def yX6_cut : MethodName := ⟨RX6, "cut", "(IJ)J"⟩
abbrev cX6_itemOf : ByteArray := prog_8_method_22_code
def yX6_itemOf : MethodName := ⟨RX6, "itemOf", "(III)J"⟩
abbrev cX6_read : ByteArray := prog_8_method_23_code
def yX6_read : MethodName := ⟨RX6, "read", "(III)J"⟩
abbrev cX6_write : ByteArray := prog_8_method_24_code
def yX6_write : MethodName := ⟨RX6, "write", "(IIIJ)I"⟩
abbrev cX6_thing : ByteArray := prog_8_method_25_code
def yX6_thing : MethodName := ⟨RX6, "thing", "(IIII)I"⟩
abbrev cX6_marked : ByteArray := prog_8_method_26_code
def yX6_marked : MethodName := ⟨RX6, "marked", "(II)I"⟩
abbrev cX6_cell : ByteArray := prog_8_method_27_code
def yX6_cell : MethodName := ⟨RX6, "cell", "(IIII)J"⟩
abbrev cX6_set : ByteArray := prog_8_method_28_code
def yX6_set : MethodName := ⟨RX6, "set", "(IIIIJ)I"⟩
abbrev cX6_deepest : ByteArray := prog_8_method_29_code
def yX6_deepest : MethodName := ⟨RX6, "deepest", "(IIII)J"⟩
abbrev cX6_row : ByteArray := prog_8_method_30_code
def yX6_row : MethodName := ⟨RX6, "row", "(IIII)I"⟩
abbrev cX6_take : ByteArray := prog_8_method_31_code
def yX6_take : MethodName := ⟨RX6, "take", "(IIII)I"⟩
abbrev cX6_grow : ByteArray := prog_8_method_32_code
def yX6_grow : MethodName := ⟨RX6, "grow", "(II)I"⟩
abbrev cX6_areUnlike : ByteArray := prog_8_method_33_code
def yX6_areUnlike : MethodName := ⟨RX6, "areUnlike", "(II)Z"⟩
abbrev cX6_canStand : ByteArray := prog_8_method_34_code
def yX6_canStand : MethodName := ⟨RX6, "canStand", "(IJI)Z"⟩
abbrev cX6_copy : ByteArray := prog_8_method_35_code
def yX6_copy : MethodName := ⟨RX6, "copy", "(IIIII)I"⟩
abbrev cX6_fill : ByteArray := prog_8_method_36_code
def yX6_fill : MethodName := ⟨RX6, "fill", "(IIJ)I"⟩
abbrev cX6_flatSize : ByteArray := prog_8_method_37_code
def yX6_flatSize : MethodName := ⟨RX6, "flatSize", "(I)I"⟩
abbrev cX6_middleSize : ByteArray := prog_8_method_38_code
def yX6_middleSize : MethodName := ⟨RX6, "middleSize", "(I)I"⟩
abbrev cX6_size : ByteArray := prog_8_method_39_code
def yX6_size : MethodName := ⟨RX6, "size", "(I)I"⟩
abbrev cX6_areShaped : ByteArray := prog_8_method_40_code
def yX6_areShaped : MethodName := ⟨RX6, "areShaped", "(II)Z"⟩
abbrev cX6_areThingsLike : ByteArray := prog_8_method_41_code
def yX6_areThingsLike : MethodName := ⟨RX6, "areThingsLike", "(II)Z"⟩
abbrev cX6_areFlatLike : ByteArray := prog_8_method_42_code
def yX6_areFlatLike : MethodName := ⟨RX6, "areFlatLike", "(II)Z"⟩
abbrev cX6_areMiddleLike : ByteArray := prog_8_method_43_code
def yX6_areMiddleLike : MethodName := ⟨RX6, "areMiddleLike", "(II)Z"⟩
abbrev cX6_alike : ByteArray := prog_8_method_44_code
def yX6_alike : MethodName := ⟨RX6, "alike", "(II)I"⟩
abbrev cX6_trouble : ByteArray := prog_8_method_45_code
def yX6_trouble : MethodName := ⟨RX6, "trouble", "(II)I"⟩
abbrev cX6_raise : ByteArray := prog_8_method_46_code
def yX6_raise : MethodName := ⟨RX6, "raise", "(II)I"⟩
abbrev cX6_passed : ByteArray := prog_8_method_47_code
def yX6_passed : MethodName := ⟨RX6, "passed", "()I"⟩
abbrev cX6_number : ByteArray := prog_8_method_48_code
def yX6_number : MethodName := ⟨RX6, "number", "()I"⟩
abbrev cX6_fault : ByteArray := prog_8_method_49_code
def yX6_fault : MethodName := ⟨RX6, "fault", "()I"⟩
abbrev cX6_clear : ByteArray := prog_8_method_50_code
def yX6_clear : MethodName := ⟨RX6, "clear", "()I"⟩
abbrev cX6_told : ByteArray := prog_8_method_51_code
def yX6_told : MethodName := ⟨RX6, "told", "(I)I"⟩
def RJ9 : String := "java/lang/Math"
def TJ9 : u_T := fun k => match k with
  | _ => ("", "", "", false)
def tyJ9 : Nat → FieldType := fun k => match k with
  | _ => .int
abbrev wsJ90 : List Cond := u_ws RJ9 TJ9 0
theorem nmJ9 : ∀ a, a < 0 → ∀ b, b < 0 → a ≠ b → (TJ9 a).2.1 ≠ (TJ9 b).2.1 := by decide +kernel
theorem tyJ9_ok : ∀ k, k < 0 → parseFieldDescriptor (TJ9 k).2.2.1 = some (tyJ9 k) := by decide +kernel
abbrev cJ9_max_7cf53 : ByteArray := prog_9_method_65_code
def yJ9_max_7cf53 : MethodName := ⟨RJ9, "max", "(II)I"⟩
abbrev cJ9_min_7cf53 : ByteArray := prog_9_method_69_code
def yJ9_min_7cf53 : MethodName := ⟨RJ9, "min", "(II)I"⟩
def RJ10 : String := "java/lang/System"
def TJ10 : u_T := fun k => match k with
  | _ => ("", "", "", false)
def tyJ10 : Nat → FieldType := fun k => match k with
  | _ => .int
abbrev wsJ100 : List Cond := u_ws RJ10 TJ10 0
theorem nmJ10 : ∀ a, a < 0 → ∀ b, b < 0 → a ≠ b → (TJ10 a).2.1 ≠ (TJ10 b).2.1 := by decide +kernel
theorem tyJ10_ok : ∀ k, k < 0 → parseFieldDescriptor (TJ10 k).2.2.1 = some (tyJ10 k) := by decide +kernel
def RL : String := "PlanCopiesLaw"
abbrev cL_law : ByteArray := code
def yL_law : MethodName := ⟨RL, "law", "([I)Z"⟩
def wsL_law_r1 : List Cond := [Cond.classLink RL 7 RX5, Cond.instantiable RX5 8, Cond.initialized RX5, Cond.classLink RL 10 RX6, Cond.instantiable RX6 16, Cond.initialized RX6, Cond.constantLong RL 50 (4294967295), Cond.methodLink RL 9 yX5_init, Cond.instanceMethod yX5_init, Cond.code yX5_init cX5_init 1 none, Cond.methodLink RX5 1 objectInit, Cond.instanceMethod objectInit, Cond.code objectInit ⟨#[0xb1]⟩ 1 none, Cond.classLink RX5 9 RX3, Cond.fieldLink RX5 11 "PlanCopies" "columns" "[LPlanCopies$Table;", Cond.arrayClass .int, Cond.fieldLink RX5 15 "PlanCopies" "troubles" "[I", Cond.methodLink RX5 19 yX5_begin, Cond.instanceMethod yX5_begin, Cond.selects RX5 yX5_begin yX5_begin, Cond.code yX5_begin cX5_begin 2 none, Cond.fieldLink RX5 137 "PlanCopies" "latestPassed" "I", Cond.fieldLink RX5 140 "PlanCopies" "latestNumber" "I", Cond.fieldLink RX5 143 "PlanCopies" "latestFault" "I"]
def wsL_law_r2 : List Cond := [Cond.methodLink RL 12 yX6_init, Cond.instanceMethod yX6_init, Cond.code yX6_init cX6_init 1 none, Cond.methodLink RX6 1 objectInit, Cond.arrayClass .byte, Cond.fieldLink RX6 7 "PlanCopiesModel" "kindOf" "[B", Cond.fieldLink RX6 13 "PlanCopiesModel" "many" "[B", Cond.fieldLink RX6 16 "PlanCopiesModel" "start" "[I", Cond.arrayClass .long, Cond.fieldLink RX6 20 "PlanCopiesModel" "item" "[J", Cond.fieldLink RX6 24 "PlanCopiesModel" "thingNumber" "[I", Cond.arrayClass .boolean, Cond.fieldLink RX6 27 "PlanCopiesModel" "isMarked" "[Z", Cond.fieldLink RX6 31 "PlanCopiesModel" "held" "[I", Cond.fieldLink RX6 34 "PlanCopiesModel" "troubleNumber" "[I", Cond.fieldLink RX6 37 "PlanCopiesModel" "number" "I", Cond.fieldLink RX6 41 "PlanCopiesModel" "copyOf" "[I", Cond.fieldLink RX6 44 "PlanCopiesModel" "kept" "[J", Cond.methodLink RL 13 yX5_make, Cond.instanceMethod yX5_make, Cond.selects RX5 yX5_make yX5_make, Cond.code yX5_make cX5_make 4 (some .int), Cond.methodLink RX5 22 yX5_isColumn, Cond.static yX5_isColumn]
def wsL_law_r3 : List Cond := [Cond.code yX5_isColumn cX5_isColumn 1 (some .boolean), Cond.methodLink RX5 26 yX5_isKind, Cond.static yX5_isKind, Cond.code yX5_isKind cX5_isKind 3 (some .boolean), Cond.methodLink RX5 30 yX5_isFull, Cond.instanceMethod yX5_isFull, Cond.selects RX5 yX5_isFull yX5_isFull, Cond.code yX5_isFull cX5_isFull 1 (some .boolean), Cond.fieldLink RX5 149 "PlanCopies" "itemsMade" "I", Cond.methodLink RX5 34 yX5_against, Cond.static yX5_against, Cond.code yX5_against cX5_against 1 (some .int), Cond.methodLink RX5 38 yX5_newTable, Cond.instanceMethod yX5_newTable, Cond.selects RX5 yX5_newTable yX5_newTable, Cond.code yX5_newTable cX5_newTable 3 (some (.object "PlanCopies$Table")), Cond.classLink RX5 125 RX2, Cond.instantiable RX2 4, Cond.initialized RX2, Cond.classLink RX5 158 RX0, Cond.instantiable RX0 4, Cond.initialized RX0, Cond.methodLink RX5 155 yX2_init, Cond.instanceMethod yX2_init]
def wsL_law_r4 : List Cond := [Cond.code yX2_init cX2_init 3 none, Cond.fieldLink RX2 7 "PlanCopies$Plain" "bits" "[J", Cond.methodLink RX2 1 yX3_init, Cond.instanceMethod yX3_init, Cond.initialized RX3, Cond.code yX3_init cX3_init 2 none, Cond.fieldLink RX3 7 "PlanCopies$Table" "kind" "I", Cond.instanceMethod yX1_init, Cond.initialized RX1, Cond.code yX1_init cX1_init 1 none, Cond.methodLink RX1 1 objectInit, Cond.methodLink RX5 160 yX0_init, Cond.instanceMethod yX0_init, Cond.code yX0_init cX0_init 3 none, Cond.classLink RX0 7 RX1, Cond.fieldLink RX0 9 "PlanCopies$Holder" "items" "[LPlanCopies$Item;", Cond.methodLink RX0 1 yX3_init, Cond.methodLink RL 17 yX6_make, Cond.instanceMethod yX6_make, Cond.selects RX6 yX6_make yX6_make, Cond.code yX6_make cX6_make 4 (some .int), Cond.methodLink RX6 53 yX6_isColumn, Cond.static yX6_isColumn, Cond.code yX6_isColumn cX6_isColumn 1 (some .boolean)]
def wsL_law_r5 : List Cond := [Cond.methodLink RX6 57 yX6_in, Cond.static yX6_in, Cond.code yX6_in cX6_in 3 (some .boolean), Cond.methodLink RX6 61 yX6_isFull, Cond.instanceMethod yX6_isFull, Cond.selects RX6 yX6_isFull yX6_isFull, Cond.code yX6_isFull cX6_isFull 1 (some .boolean), Cond.fieldLink RX6 50 "PlanCopiesModel" "items" "I", Cond.methodLink RX6 65 yX6_answer, Cond.static yX6_answer, Cond.code yX6_answer cX6_answer 1 (some .int), Cond.methodLink RX6 69 yX6_table, Cond.instanceMethod yX6_table, Cond.selects RX6 yX6_table yX6_table, Cond.code yX6_table cX6_table 4 (some .int), Cond.fieldLink RX6 47 "PlanCopiesModel" "tables" "I", Cond.methodLink RL 18 yX5_deep, Cond.instanceMethod yX5_deep, Cond.selects RX5 yX5_deep yX5_deep, Cond.code yX5_deep cX5_deep 7 (some .int), Cond.methodLink RX5 42 yX5_isTooDeep, Cond.static yX5_isTooDeep, Cond.code yX5_isTooDeep cX5_isTooDeep 3 (some .boolean), Cond.methodLink RX5 152 Lib.Math.max.name]
def wsL_law_r6 : List Cond := [Cond.static Lib.Math.max.name, Cond.initialized "java/lang/Math", Cond.code Lib.Math.max.name Lib.Math.max.code 2 (some .int), Cond.methodLink RX5 45 yX5_newDeepTable, Cond.instanceMethod yX5_newDeepTable, Cond.selects RX5 yX5_newDeepTable yX5_newDeepTable, Cond.code yX5_newDeepTable cX5_newDeepTable 8 (some (.object "PlanCopies$Table")), Cond.methodLink RX5 112 yX5_kindOfRows, Cond.static yX5_kindOfRows, Cond.code yX5_kindOfRows cX5_kindOfRows 1 (some .int), Cond.methodLink RX5 87 yX5_place, Cond.static yX5_place, Cond.code yX5_place cX5_place 5 (some .int), Cond.classLink RX5 158 "PlanCopies$Holder", Cond.fieldLink RX5 195 "PlanCopies$Holder" "kind" "I", Cond.sameField "PlanCopies$Holder" "PlanCopies$Table" "kind" "I", Cond.fieldLink RX5 179 "PlanCopies$Holder" "items" "[LPlanCopies$Item;", Cond.methodLink RX5 108 yX5_faultAt, Cond.static yX5_faultAt, Cond.code yX5_faultAt cX5_faultAt 2 (some .int), Cond.methodLink RX5 64 ⟨"PlanCopies$Table", "count", "()I"⟩, Cond.sameMethod "PlanCopies$Table" "PlanCopies$Table" "count" "()I", Cond.selects RX0 ⟨"PlanCopies$Table", "count", "()I"⟩ yX0_count, Cond.instanceMethod yX0_count]
def wsL_law_r7 : List Cond := [Cond.code yX0_count cX0_count 1 (some .int), Cond.selects RX2 ⟨"PlanCopies$Table", "count", "()I"⟩ yX2_count, Cond.instanceMethod yX2_count, Cond.code yX2_count cX2_count 1 (some .int), Cond.methodLink RX5 196 yX5_canStand, Cond.static yX5_canStand, Cond.code yX5_canStand cX5_canStand 3 (some .boolean), Cond.classLink RX5 99 "PlanCopies$Thing", Cond.fieldLink RX5 101 "PlanCopies$Thing" "marked" "Z", Cond.classLink RX5 9 "PlanCopies$Table", Cond.methodLink RX5 60 yX5_fits, Cond.static yX5_fits, Cond.code yX5_fits cX5_fits 2 (some .boolean), Cond.fieldLink RX5 57 "PlanCopies$Table" "kind" "I", Cond.methodLink RX5 161 yX5_placeNewRows, Cond.instanceMethod yX5_placeNewRows, Cond.selects RX5 yX5_placeNewRows yX5_placeNewRows, Cond.code yX5_placeNewRows cX5_placeNewRows 4 none, Cond.methodLink RL 22 yX6_deep, Cond.instanceMethod yX6_deep, Cond.selects RX6 yX6_deep yX6_deep, Cond.code yX6_deep cX6_deep 13 (some .int), Cond.methodLink RX6 73 yX6_rowKind, Cond.static yX6_rowKind]
def wsL_law_r8 : List Cond := [Cond.code yX6_rowKind cX6_rowKind 1 (some .int), Cond.methodLink RX6 76 yX6_put, Cond.instanceMethod yX6_put, Cond.selects RX6 yX6_put yX6_put, Cond.code yX6_put cX6_put 5 none, Cond.methodLink RL 23 yX5_share, Cond.instanceMethod yX5_share, Cond.selects RX5 yX5_share yX5_share, Cond.code yX5_share cX5_share 3 (some .int), Cond.methodLink RL 27 yX6_share, Cond.instanceMethod yX6_share, Cond.selects RX6 yX6_share yX6_share, Cond.code yX6_share cX6_share 3 (some .int), Cond.methodLink RL 28 yX5_aside, Cond.instanceMethod yX5_aside, Cond.selects RX5 yX5_aside yX5_aside, Cond.code yX5_aside cX5_aside 3 (some .int), Cond.fieldLink RX5 49 "PlanCopies" "asidesMade" "I", Cond.methodLink RX5 53 yX5_twinOf, Cond.instanceMethod yX5_twinOf, Cond.selects RX5 yX5_twinOf yX5_twinOf, Cond.code yX5_twinOf cX5_twinOf 5 (some (.object "PlanCopies$Table")), Cond.fieldLink RX5 168 "PlanCopies$Table" "twinMadeBy" "I", Cond.fieldLink RX5 171 "PlanCopies$Table" "twin" "LPlanCopies$Table;"]
def wsL_law_r9 : List Cond := [Cond.methodLink RX5 121 yX5_transfer, Cond.static yX5_transfer, Cond.code yX5_transfer cX5_transfer 7 (some .int), Cond.classLink RX5 125 "PlanCopies$Plain", Cond.fieldLink RX5 183 "PlanCopies$Plain" "bits" "[J", Cond.methodLink RX5 204 arraycopyName, Cond.native arraycopyName, Cond.static arraycopyName, Cond.initialized "java/lang/System", Cond.methodLink RX5 200 yX5_hasStretch, Cond.static yX5_hasStretch, Cond.code yX5_hasStretch cX5_hasStretch 3 (some .boolean), Cond.methodLink RX5 210 yX5_transferItems, Cond.static yX5_transferItems, Cond.code yX5_transferItems cX5_transferItems 9 (some .int), Cond.methodLink RX5 95 yX5_itemAt, Cond.static yX5_itemAt, Cond.code yX5_itemAt cX5_itemAt 3 (some (.object "PlanCopies$Item")), Cond.methodLink RX5 175 yX5_renewRows, Cond.instanceMethod yX5_renewRows, Cond.selects RX5 yX5_renewRows yX5_renewRows, Cond.code yX5_renewRows cX5_renewRows 6 none, Cond.methodLink RL 31 yX6_aside, Cond.instanceMethod yX6_aside]
def wsL_law_r10 : List Cond := [Cond.selects RX6 yX6_aside yX6_aside, Cond.code yX6_aside cX6_aside 6 (some .int), Cond.methodLink RX6 84 yX6_flat, Cond.instanceMethod yX6_flat, Cond.selects RX6 yX6_flat yX6_flat, Cond.code yX6_flat cX6_flat 4 (some .int), Cond.methodLink RX6 80 yX6_at, Cond.instanceMethod yX6_at, Cond.selects RX6 yX6_at yX6_at, Cond.code yX6_at cX6_at 3 (some .long), Cond.methodLink RX6 87 yX6_middle, Cond.instanceMethod yX6_middle, Cond.selects RX6 yX6_middle yX6_middle, Cond.code yX6_middle cX6_middle 4 (some .int), Cond.methodLink RL 32 yX5_drop, Cond.instanceMethod yX5_drop, Cond.selects RX5 yX5_drop yX5_drop, Cond.code yX5_drop cX5_drop 3 (some .int), Cond.methodLink RL 36 yX6_drop, Cond.instanceMethod yX6_drop, Cond.selects RX6 yX6_drop yX6_drop, Cond.code yX6_drop cX6_drop 3 (some .int), Cond.methodLink RL 37 yX5_kind, Cond.instanceMethod yX5_kind]
def wsL_law_r11 : List Cond := [Cond.selects RX5 yX5_kind yX5_kind, Cond.code yX5_kind cX5_kind 3 (some .int), Cond.methodLink RL 40 yX6_kind, Cond.instanceMethod yX6_kind, Cond.selects RX6 yX6_kind yX6_kind, Cond.code yX6_kind cX6_kind 2 (some .int), Cond.methodLink RL 41 yX5_length, Cond.instanceMethod yX5_length, Cond.selects RX5 yX5_length yX5_length, Cond.code yX5_length cX5_length 4 (some .int), Cond.methodLink RL 44 yX6_length, Cond.instanceMethod yX6_length, Cond.selects RX6 yX6_length yX6_length, Cond.code yX6_length cX6_length 4 (some .int), Cond.methodLink RX6 90 yX6_isOf, Cond.instanceMethod yX6_isOf, Cond.selects RX6 yX6_isOf yX6_isOf, Cond.code yX6_isOf cX6_isOf 3 (some .boolean), Cond.methodLink RL 45 yX5_read, Cond.instanceMethod yX5_read, Cond.selects RX5 yX5_read yX5_read, Cond.code yX5_read cX5_read 5 (some .long), Cond.methodLink RX5 68 yX5_noBits, Cond.instanceMethod yX5_noBits]
def wsL_law_r12 : List Cond := [Cond.selects RX5 yX5_noBits yX5_noBits, Cond.code yX5_noBits cX5_noBits 2 (some .long), Cond.methodLink RX5 72 yX5_bitsAt, Cond.instanceMethod yX5_bitsAt, Cond.selects RX5 yX5_bitsAt yX5_bitsAt, Cond.code yX5_bitsAt cX5_bitsAt 5 (some .long), Cond.fieldLink RX5 187 "PlanCopies$Thing" "number" "I", Cond.methodLink RL 49 yX6_read, Cond.instanceMethod yX6_read, Cond.selects RX6 yX6_read yX6_read, Cond.code yX6_read cX6_read 5 (some .long), Cond.fieldLink RX6 111 "PlanCopiesModel" "fault" "I", Cond.methodLink RX6 114 yX6_itemOf, Cond.instanceMethod yX6_itemOf, Cond.selects RX6 yX6_itemOf yX6_itemOf, Cond.code yX6_itemOf cX6_itemOf 6 (some .long), Cond.methodLink RX6 108 yX6_looked, Cond.instanceMethod yX6_looked, Cond.selects RX6 yX6_looked yX6_looked, Cond.code yX6_looked cX6_looked 3 (some .int), Cond.methodLink RL 52 yX5_write, Cond.instanceMethod yX5_write, Cond.selects RX5 yX5_write yX5_write, Cond.code yX5_write cX5_write 7 (some .int)]
def wsL_law_r13 : List Cond := [Cond.methodLink RX5 76 yX5_putBits, Cond.static yX5_putBits, Cond.code yX5_putBits cX5_putBits 6 (some .int), Cond.fieldLink RX5 190 "PlanCopies$Plain" "kind" "I", Cond.sameField "PlanCopies$Plain" "PlanCopies$Table" "kind" "I", Cond.methodLink RX5 191 yX5_keptBits, Cond.static yX5_keptBits, Cond.code yX5_keptBits cX5_keptBits 3 (some .long), Cond.methodLink RX5 213 yX5_keptFloat, Cond.static yX5_keptFloat, Cond.code yX5_keptFloat cX5_keptFloat 1 (some .int), Cond.constant RX5 222 (2147483647), Cond.constant RX5 223 (2139095040), Cond.constant RX5 224 (2143289344), Cond.methodLink RX5 216 yX5_keptDouble, Cond.static yX5_keptDouble, Cond.code yX5_keptDouble cX5_keptDouble 2 (some .long), Cond.constantLong RX5 227 (9223372036854775807), Cond.constantLong RX5 229 (9218868437227405312), Cond.constantLong RX5 231 (9221120237041090560), Cond.methodLink RL 56 yX6_write, Cond.instanceMethod yX6_write, Cond.selects RX6 yX6_write yX6_write, Cond.code yX6_write cX6_write 8 (some .int)]
def wsL_law_r14 : List Cond := [Cond.methodLink RX6 118 yX6_cut, Cond.static yX6_cut, Cond.code yX6_cut cX6_cut 3 (some .long), Cond.constantLong RX6 94 (65535), Cond.constantLong RX6 96 (2147483647), Cond.constantLong RX6 98 (2139095040), Cond.constantLong RX6 100 (2143289344), Cond.constantLong RX6 102 (9223372036854775807), Cond.constantLong RX6 104 (9218868437227405312), Cond.constantLong RX6 106 (9221120237041090560), Cond.methodLink RL 57 yX5_thing, Cond.instanceMethod yX5_thing, Cond.selects RX5 yX5_thing yX5_thing, Cond.code yX5_thing cX5_thing 7 (some .int), Cond.fieldLink RX5 80 "PlanCopies" "thingsMade" "I", Cond.methodLink RX5 83 yX5_newThing, Cond.instanceMethod yX5_newThing, Cond.selects RX5 yX5_newThing yX5_newThing, Cond.code yX5_newThing cX5_newThing 3 (some (.object "PlanCopies$Thing")), Cond.classLink RX5 99 RX4, Cond.instantiable RX4 2, Cond.initialized RX4, Cond.methodLink RX5 165 yX4_init, Cond.instanceMethod yX4_init]
def wsL_law_r15 : List Cond := [Cond.code yX4_init cX4_init 3 none, Cond.fieldLink RX4 7 "PlanCopies$Thing" "number" "I", Cond.fieldLink RX4 13 "PlanCopies$Thing" "marked" "Z", Cond.methodLink RL 61 yX6_thing, Cond.instanceMethod yX6_thing, Cond.selects RX6 yX6_thing yX6_thing, Cond.code yX6_thing cX6_thing 7 (some .int), Cond.fieldLink RX6 122 "PlanCopiesModel" "things" "I", Cond.methodLink RL 62 yX5_marked, Cond.instanceMethod yX5_marked, Cond.selects RX5 yX5_marked yX5_marked, Cond.code yX5_marked cX5_marked 7 (some .int), Cond.methodLink RX5 91 yX5_faultTaken, Cond.static yX5_faultTaken, Cond.code yX5_faultTaken cX5_faultTaken 3 (some .int), Cond.methodLink RL 65 yX6_marked, Cond.instanceMethod yX6_marked, Cond.selects RX6 yX6_marked yX6_marked, Cond.code yX6_marked cX6_marked 5 (some .int), Cond.methodLink RL 66 yX5_cell, Cond.instanceMethod yX5_cell, Cond.selects RX5 yX5_cell yX5_cell, Cond.code yX5_cell cX5_cell 7 (some .long), Cond.methodLink RX5 105 yX5_rowAt]
def wsL_law_r16 : List Cond := [Cond.static yX5_rowAt, Cond.code yX5_rowAt cX5_rowAt 4 (some (.object "PlanCopies$Table")), Cond.methodLink RL 70 yX6_cell, Cond.instanceMethod yX6_cell, Cond.selects RX6 yX6_cell yX6_cell, Cond.code yX6_cell cX6_cell 7 (some .long), Cond.methodLink RL 71 yX5_set, Cond.instanceMethod yX5_set, Cond.selects RX5 yX5_set yX5_set, Cond.code yX5_set cX5_set 9 (some .int), Cond.methodLink RL 75 yX6_set, Cond.instanceMethod yX6_set, Cond.selects RX6 yX6_set yX6_set, Cond.code yX6_set cX6_set 10 (some .int), Cond.methodLink RL 76 yX5_deepest, Cond.instanceMethod yX5_deepest, Cond.selects RX5 yX5_deepest yX5_deepest, Cond.code yX5_deepest cX5_deepest 8 (some .long), Cond.methodLink RL 79 yX6_deepest, Cond.instanceMethod yX6_deepest, Cond.selects RX6 yX6_deepest yX6_deepest, Cond.code yX6_deepest cX6_deepest 8 (some .long), Cond.methodLink RL 80 yX5_row, Cond.instanceMethod yX5_row]
def wsL_law_r17 : List Cond := [Cond.selects RX5 yX5_row yX5_row, Cond.code yX5_row cX5_row 7 (some .int), Cond.methodLink RL 83 yX6_row, Cond.instanceMethod yX6_row, Cond.selects RX6 yX6_row yX6_row, Cond.code yX6_row cX6_row 7 (some .int), Cond.methodLink RL 84 yX5_take, Cond.instanceMethod yX5_take, Cond.selects RX5 yX5_take yX5_take, Cond.code yX5_take cX5_take 7 (some .int), Cond.methodLink RL 87 yX6_take, Cond.instanceMethod yX6_take, Cond.selects RX6 yX6_take yX6_take, Cond.code yX6_take cX6_take 7 (some .int), Cond.methodLink RL 88 yX5_grow, Cond.instanceMethod yX5_grow, Cond.selects RX5 yX5_grow yX5_grow, Cond.code yX5_grow cX5_grow 5 (some .int), Cond.methodLink RX5 115 Lib.Math.min.name, Cond.static Lib.Math.min.name, Cond.code Lib.Math.min.name Lib.Math.min.code 2 (some .int), Cond.methodLink RL 91 yX6_grow, Cond.instanceMethod yX6_grow, Cond.selects RX6 yX6_grow yX6_grow]
def wsL_law_r18 : List Cond := [Cond.code yX6_grow cX6_grow 6 (some .int), Cond.methodLink RL 92 yX5_copy, Cond.instanceMethod yX5_copy, Cond.selects RX5 yX5_copy yX5_copy, Cond.code yX5_copy cX5_copy 8 (some .int), Cond.methodLink RL 95 yX6_copy, Cond.instanceMethod yX6_copy, Cond.selects RX6 yX6_copy yX6_copy, Cond.code yX6_copy cX6_copy 9 (some .int), Cond.methodLink RX6 125 yX6_areUnlike, Cond.instanceMethod yX6_areUnlike, Cond.selects RX6 yX6_areUnlike yX6_areUnlike, Cond.code yX6_areUnlike cX6_areUnlike 3 (some .boolean), Cond.methodLink RX6 128 yX6_canStand, Cond.instanceMethod yX6_canStand, Cond.selects RX6 yX6_canStand yX6_canStand, Cond.code yX6_canStand cX6_canStand 6 (some .boolean), Cond.methodLink RL 96 yX5_fill, Cond.instanceMethod yX5_fill, Cond.selects RX5 yX5_fill yX5_fill, Cond.code yX5_fill cX5_fill 7 (some .int), Cond.methodLink RL 100 yX6_fill, Cond.instanceMethod yX6_fill, Cond.selects RX6 yX6_fill yX6_fill]
def wsL_law_r19 : List Cond := [Cond.code yX6_fill cX6_fill 7 (some .int), Cond.methodLink RL 101 yX5_size, Cond.instanceMethod yX5_size, Cond.selects RX5 yX5_size yX5_size, Cond.code yX5_size cX5_size 2 (some .int), Cond.methodLink RX5 127 yX5_singleItems, Cond.static yX5_singleItems, Cond.code yX5_singleItems cX5_singleItems 5 (some .int), Cond.methodLink RL 104 yX6_size, Cond.instanceMethod yX6_size, Cond.selects RX6 yX6_size yX6_size, Cond.code yX6_size cX6_size 5 (some .int), Cond.methodLink RX6 135 yX6_middleSize, Cond.instanceMethod yX6_middleSize, Cond.selects RX6 yX6_middleSize yX6_middleSize, Cond.code yX6_middleSize cX6_middleSize 4 (some .int), Cond.methodLink RX6 132 yX6_flatSize, Cond.instanceMethod yX6_flatSize, Cond.selects RX6 yX6_flatSize yX6_flatSize, Cond.code yX6_flatSize cX6_flatSize 4 (some .int), Cond.methodLink RL 105 yX5_alike, Cond.instanceMethod yX5_alike, Cond.selects RX5 yX5_alike yX5_alike, Cond.code yX5_alike cX5_alike 5 (some .int)]
def wsL_law_r20 : List Cond := [Cond.methodLink RX5 130 yX5_areAlike, Cond.static yX5_areAlike, Cond.code yX5_areAlike cX5_areAlike 5 (some .boolean), Cond.methodLink RX5 233 yX5_haveSameBits, Cond.static yX5_haveSameBits, Cond.code yX5_haveSameBits cX5_haveSameBits 3 (some .boolean), Cond.methodLink RX5 237 yX5_areItemsAlike, Cond.static yX5_areItemsAlike, Cond.code yX5_areItemsAlike cX5_areItemsAlike 5 (some .boolean), Cond.methodLink RL 108 yX6_alike, Cond.instanceMethod yX6_alike, Cond.selects RX6 yX6_alike yX6_alike, Cond.code yX6_alike cX6_alike 7 (some .int), Cond.methodLink RX6 147 yX6_areMiddleLike, Cond.instanceMethod yX6_areMiddleLike, Cond.selects RX6 yX6_areMiddleLike yX6_areMiddleLike, Cond.code yX6_areMiddleLike cX6_areMiddleLike 5 (some .boolean), Cond.methodLink RX6 144 yX6_areFlatLike, Cond.instanceMethod yX6_areFlatLike, Cond.selects RX6 yX6_areFlatLike yX6_areFlatLike, Cond.code yX6_areFlatLike cX6_areFlatLike 5 (some .boolean), Cond.methodLink RX6 138 yX6_areShaped, Cond.instanceMethod yX6_areShaped, Cond.selects RX6 yX6_areShaped yX6_areShaped]
def wsL_law_r21 : List Cond := [Cond.code yX6_areShaped cX6_areShaped 3 (some .boolean), Cond.methodLink RX6 141 yX6_areThingsLike, Cond.instanceMethod yX6_areThingsLike, Cond.selects RX6 yX6_areThingsLike yX6_areThingsLike, Cond.code yX6_areThingsLike cX6_areThingsLike 3 (some .boolean), Cond.methodLink RL 109 yX5_trouble, Cond.instanceMethod yX5_trouble, Cond.selects RX5 yX5_trouble yX5_trouble, Cond.code yX5_trouble cX5_trouble 4 (some .int), Cond.methodLink RX5 134 yX5_isTrouble, Cond.static yX5_isTrouble, Cond.code yX5_isTrouble cX5_isTrouble 1 (some .boolean), Cond.methodLink RL 112 yX6_trouble, Cond.instanceMethod yX6_trouble, Cond.selects RX6 yX6_trouble yX6_trouble, Cond.code yX6_trouble cX6_trouble 4 (some .int), Cond.methodLink RL 113 yX5_raise, Cond.instanceMethod yX5_raise, Cond.selects RX5 yX5_raise yX5_raise, Cond.code yX5_raise cX5_raise 4 (some .int), Cond.methodLink RL 116 yX6_raise, Cond.instanceMethod yX6_raise, Cond.selects RX6 yX6_raise yX6_raise, Cond.code yX6_raise cX6_raise 4 (some .int)]
def wsL_law_r22 : List Cond := [Cond.fieldLink RX6 150 "PlanCopiesModel" "passed" "I", Cond.methodLink RL 117 yX5_passed, Cond.instanceMethod yX5_passed, Cond.selects RX5 yX5_passed yX5_passed, Cond.code yX5_passed cX5_passed 1 (some .int), Cond.methodLink RL 121 yX6_passed, Cond.instanceMethod yX6_passed, Cond.selects RX6 yX6_passed yX6_passed, Cond.code yX6_passed cX6_passed 1 (some .int), Cond.methodLink RL 122 yX5_number, Cond.instanceMethod yX5_number, Cond.selects RX5 yX5_number yX5_number, Cond.code yX5_number cX5_number 1 (some .int), Cond.methodLink RL 125 yX6_number, Cond.instanceMethod yX6_number, Cond.selects RX6 yX6_number yX6_number, Cond.code yX6_number cX6_number 1 (some .int), Cond.methodLink RL 126 yX5_fault, Cond.instanceMethod yX5_fault, Cond.selects RX5 yX5_fault yX5_fault, Cond.code yX5_fault cX5_fault 1 (some .int), Cond.methodLink RL 129 yX6_fault, Cond.instanceMethod yX6_fault, Cond.selects RX6 yX6_fault yX6_fault]
def wsL_law_r23 : List Cond := [Cond.code yX6_fault cX6_fault 1 (some .int), Cond.methodLink RL 130 yX5_clear, Cond.instanceMethod yX5_clear, Cond.selects RX5 yX5_clear yX5_clear, Cond.code yX5_clear cX5_clear 2 (some .int), Cond.methodLink RX5 146 yX5_heldColumns, Cond.instanceMethod yX5_heldColumns, Cond.selects RX5 yX5_heldColumns yX5_heldColumns, Cond.code yX5_heldColumns cX5_heldColumns 3 (some .int), Cond.methodLink RL 133 yX6_clear, Cond.instanceMethod yX6_clear, Cond.selects RX6 yX6_clear yX6_clear, Cond.code yX6_clear cX6_clear 3 (some .int), Cond.methodLink RL 134 yX5_told, Cond.instanceMethod yX5_told, Cond.selects RX5 yX5_told yX5_told, Cond.code yX5_told cX5_told 2 (some .int), Cond.methodLink RL 137 yX6_told, Cond.instanceMethod yX6_told, Cond.selects RX6 yX6_told yX6_told, Cond.code yX6_told cX6_told 4 (some .int)]
def wsL_law : List Cond := (wsL_law_r1 ++ (wsL_law_r2 ++ (wsL_law_r3 ++ (wsL_law_r4 ++ (wsL_law_r5 ++ (wsL_law_r6 ++ (wsL_law_r7 ++ (wsL_law_r8 ++ (wsL_law_r9 ++ (wsL_law_r10 ++ (wsL_law_r11 ++ (wsL_law_r12 ++ (wsL_law_r13 ++ (wsL_law_r14 ++ (wsL_law_r15 ++ (wsL_law_r16 ++ (wsL_law_r17 ++ (wsL_law_r18 ++ (wsL_law_r19 ++ (wsL_law_r20 ++ (wsL_law_r21 ++ (wsL_law_r22 ++ wsL_law_r23)))))))))))))))))))))) ++ wsX50 ++ wsX60 ++ wsX20 ++ wsX00 ++ wsX40 ++ ([] : List Cond)
set_option maxRecDepth 20000 in
theorem inlX0 : ∀ w ∈ wsX00, w ∈ wsL_law := fun _ h => List.mem_append_left _ (List.mem_append_left _ (List.mem_append_right _ h))
theorem inlX2 : ∀ w ∈ wsX20, w ∈ wsL_law := fun _ h => List.mem_append_left _ (List.mem_append_left _ (List.mem_append_left _ (List.mem_append_right _ h)))
theorem inlX4 : ∀ w ∈ wsX40, w ∈ wsL_law := fun _ h => List.mem_append_left _ (List.mem_append_right _ h)
theorem inlX5 : ∀ w ∈ wsX50, w ∈ wsL_law := fun _ h => List.mem_append_left _ (List.mem_append_left _ (List.mem_append_left _ (List.mem_append_left _ (List.mem_append_left _ (List.mem_append_right _ h)))))
theorem inlX6 : ∀ w ∈ wsX60, w ∈ wsL_law := fun _ h => List.mem_append_left _ (List.mem_append_left _ (List.mem_append_left _ (List.mem_append_left _ (List.mem_append_right _ h))))
abbrev vwCl : List vw_C := [(RX0, TX0, 4), (RX2, TX2, 4), (RX4, TX4, 2), (RX5, TX5, 8), (RX6, TX6, 16)]
end
section
theorem dX0_init_0 : decode cX0_init 0 = .ok (.aload_n 0, 1) := by decide +kernel
theorem dX0_init_1 : decode cX0_init 1 = .ok (.iload_n 1, 1) := by decide +kernel
theorem dX0_init_2 : decode cX0_init 2 = .ok (.invokespecial 1, 3) := by decide +kernel
theorem dX0_init_5 : decode cX0_init 5 = .ok (.aload_n 0, 1) := by decide +kernel
theorem dX0_init_6 : decode cX0_init 6 = .ok (.iload_n 2, 1) := by decide +kernel
theorem dX0_init_7 : decode cX0_init 7 = .ok (.anewarray 7, 3) := by decide +kernel
theorem dX0_init_10 : decode cX0_init 10 = .ok (.putfield 9, 3) := by decide +kernel
theorem dX0_init_13 : decode cX0_init 13 = .ok (.return_, 1) := by decide +kernel
theorem dX0_count_0 : decode cX0_count 0 = .ok (.aload_n 0, 1) := by decide +kernel
theorem dX0_count_1 : decode cX0_count 1 = .ok (.getfield 9, 3) := by decide +kernel
theorem dX0_count_4 : decode cX0_count 4 = .ok (.arraylength, 1) := by decide +kernel
theorem dX0_count_5 : decode cX0_count 5 = .ok (.ireturn, 1) := by decide +kernel
theorem dX1_init_0 : decode cX1_init 0 = .ok (.aload_n 0, 1) := by decide +kernel
theorem dX1_init_1 : decode cX1_init 1 = .ok (.invokespecial 1, 3) := by decide +kernel
theorem dX1_init_4 : decode cX1_init 4 = .ok (.return_, 1) := by decide +kernel
theorem dX2_init_0 : decode cX2_init 0 = .ok (.aload_n 0, 1) := by decide +kernel
theorem dX2_init_1 : decode cX2_init 1 = .ok (.iload_n 1, 1) := by decide +kernel
theorem dX2_init_2 : decode cX2_init 2 = .ok (.invokespecial 1, 3) := by decide +kernel
theorem dX2_init_5 : decode cX2_init 5 = .ok (.aload_n 0, 1) := by decide +kernel
theorem dX2_init_6 : decode cX2_init 6 = .ok (.iload_n 2, 1) := by decide +kernel
theorem dX2_init_7 : decode cX2_init 7 = .ok (.newarray .long, 2) := by decide +kernel
theorem dX2_init_9 : decode cX2_init 9 = .ok (.putfield 7, 3) := by decide +kernel
theorem dX2_init_12 : decode cX2_init 12 = .ok (.return_, 1) := by decide +kernel
theorem dX2_count_0 : decode cX2_count 0 = .ok (.aload_n 0, 1) := by decide +kernel
theorem dX2_count_1 : decode cX2_count 1 = .ok (.getfield 7, 3) := by decide +kernel
theorem dX2_count_4 : decode cX2_count 4 = .ok (.arraylength, 1) := by decide +kernel
theorem dX2_count_5 : decode cX2_count 5 = .ok (.ireturn, 1) := by decide +kernel
theorem dX3_init_0 : decode cX3_init 0 = .ok (.aload_n 0, 1) := by decide +kernel
theorem dX3_init_1 : decode cX3_init 1 = .ok (.invokespecial 1, 3) := by decide +kernel
theorem dX3_init_4 : decode cX3_init 4 = .ok (.aload_n 0, 1) := by decide +kernel
theorem dX3_init_5 : decode cX3_init 5 = .ok (.iload_n 1, 1) := by decide +kernel
theorem dX3_init_6 : decode cX3_init 6 = .ok (.putfield 7, 3) := by decide +kernel
theorem dX3_init_9 : decode cX3_init 9 = .ok (.return_, 1) := by decide +kernel
theorem dX4_init_0 : decode cX4_init 0 = .ok (.aload_n 0, 1) := by decide +kernel
theorem dX4_init_1 : decode cX4_init 1 = .ok (.invokespecial 1, 3) := by decide +kernel
theorem dX4_init_4 : decode cX4_init 4 = .ok (.aload_n 0, 1) := by decide +kernel
theorem dX4_init_5 : decode cX4_init 5 = .ok (.iload_n 1, 1) := by decide +kernel
theorem dX4_init_6 : decode cX4_init 6 = .ok (.putfield 7, 3) := by decide +kernel
theorem dX4_init_9 : decode cX4_init 9 = .ok (.aload_n 0, 1) := by decide +kernel
theorem dX4_init_10 : decode cX4_init 10 = .ok (.iload_n 2, 1) := by decide +kernel
theorem dX4_init_11 : decode cX4_init 11 = .ok (.putfield 13, 3) := by decide +kernel
theorem dX4_init_14 : decode cX4_init 14 = .ok (.return_, 1) := by decide +kernel
theorem dX5_init_0 : decode cX5_init 0 = .ok (.aload_n 0, 1) := by decide +kernel
theorem dX5_init_1 : decode cX5_init 1 = .ok (.invokespecial 1, 3) := by decide +kernel
theorem dX5_init_4 : decode cX5_init 4 = .ok (.aload_n 0, 1) := by decide +kernel
theorem dX5_init_5 : decode cX5_init 5 = .ok (.bipush 16, 2) := by decide +kernel
theorem dX5_init_7 : decode cX5_init 7 = .ok (.anewarray 9, 3) := by decide +kernel
theorem dX5_init_10 : decode cX5_init 10 = .ok (.putfield 11, 3) := by decide +kernel
theorem dX5_init_13 : decode cX5_init 13 = .ok (.aload_n 0, 1) := by decide +kernel
theorem dX5_init_14 : decode cX5_init 14 = .ok (.bipush 8, 2) := by decide +kernel
theorem dX5_init_16 : decode cX5_init 16 = .ok (.newarray .int, 2) := by decide +kernel
theorem dX5_init_18 : decode cX5_init 18 = .ok (.putfield 15, 3) := by decide +kernel
theorem dX5_init_21 : decode cX5_init 21 = .ok (.aload_n 0, 1) := by decide +kernel
theorem dX5_init_22 : decode cX5_init 22 = .ok (.invokevirtual 19, 3) := by decide +kernel
theorem dX5_init_25 : decode cX5_init 25 = .ok (.return_, 1) := by decide +kernel
theorem dX5_make_0 : decode cX5_make 0 = .ok (.iload_n 1, 1) := by decide +kernel
theorem dX5_make_1 : decode cX5_make 1 = .ok (.invokestatic 22, 3) := by decide +kernel
theorem dX5_make_4 : decode cX5_make 4 = .ok (.ifCond .eq 19, 3) := by decide +kernel
theorem dX5_make_7 : decode cX5_make 7 = .ok (.iload_n 2, 1) := by decide +kernel
theorem dX5_make_8 : decode cX5_make 8 = .ok (.iconst 0, 1) := by decide +kernel
theorem dX5_make_9 : decode cX5_make 9 = .ok (.bipush 13, 2) := by decide +kernel
theorem dX5_make_11 : decode cX5_make 11 = .ok (.invokestatic 26, 3) := by decide +kernel
theorem dX5_make_14 : decode cX5_make 14 = .ok (.ifCond .eq 9, 3) := by decide +kernel
theorem dX5_make_17 : decode cX5_make 17 = .ok (.iload_n 3, 1) := by decide +kernel
theorem dX5_make_18 : decode cX5_make 18 = .ok (.bipush 30, 2) := by decide +kernel
theorem dX5_make_20 : decode cX5_make 20 = .ok (.if_icmp .le 6, 3) := by decide +kernel
theorem dX5_make_23 : decode cX5_make 23 = .ok (.bipush (-2), 2) := by decide +kernel
theorem dX5_make_25 : decode cX5_make 25 = .ok (.ireturn, 1) := by decide +kernel
theorem dX5_make_26 : decode cX5_make 26 = .ok (.aload_n 0, 1) := by decide +kernel
theorem dX5_make_27 : decode cX5_make 27 = .ok (.invokevirtual 30, 3) := by decide +kernel
theorem dX5_make_30 : decode cX5_make 30 = .ok (.ifCond .eq 6, 3) := by decide +kernel
theorem dX5_make_33 : decode cX5_make 33 = .ok (.bipush (-3), 2) := by decide +kernel
theorem dX5_make_35 : decode cX5_make 35 = .ok (.ireturn, 1) := by decide +kernel
theorem dX5_make_36 : decode cX5_make 36 = .ok (.iload_n 3, 1) := by decide +kernel
theorem dX5_make_37 : decode cX5_make 37 = .ok (.ifCond .ge 8, 3) := by decide +kernel
theorem dX5_make_40 : decode cX5_make 40 = .ok (.iconst 4, 1) := by decide +kernel
theorem dX5_make_41 : decode cX5_make 41 = .ok (.invokestatic 34, 3) := by decide +kernel
theorem dX5_make_44 : decode cX5_make 44 = .ok (.ireturn, 1) := by decide +kernel
theorem dX5_make_45 : decode cX5_make 45 = .ok (.aload_n 0, 1) := by decide +kernel
theorem dX5_make_46 : decode cX5_make 46 = .ok (.getfield 11, 3) := by decide +kernel
theorem dX5_make_49 : decode cX5_make 49 = .ok (.iload_n 1, 1) := by decide +kernel
theorem dX5_make_50 : decode cX5_make 50 = .ok (.aload_n 0, 1) := by decide +kernel
theorem dX5_make_51 : decode cX5_make 51 = .ok (.iload_n 2, 1) := by decide +kernel
theorem dX5_make_52 : decode cX5_make 52 = .ok (.iload_n 3, 1) := by decide +kernel
theorem dX5_make_53 : decode cX5_make 53 = .ok (.invokevirtual 38, 3) := by decide +kernel
theorem dX5_make_56 : decode cX5_make 56 = .ok (.aastore, 1) := by decide +kernel
theorem dX5_make_57 : decode cX5_make 57 = .ok (.iconst 1, 1) := by decide +kernel
theorem dX5_make_58 : decode cX5_make 58 = .ok (.ireturn, 1) := by decide +kernel
theorem dX5_deep_0 : decode cX5_deep 0 = .ok (.iload_n 1, 1) := by decide +kernel
theorem dX5_deep_1 : decode cX5_deep 1 = .ok (.invokestatic 22, 3) := by decide +kernel
theorem dX5_deep_4 : decode cX5_deep 4 = .ok (.ifCond .eq 14, 3) := by decide +kernel
theorem dX5_deep_7 : decode cX5_deep 7 = .ok (.iload_n 2, 1) := by decide +kernel
theorem dX5_deep_8 : decode cX5_deep 8 = .ok (.bipush 10, 2) := by decide +kernel
theorem dX5_deep_10 : decode cX5_deep 10 = .ok (.bipush 13, 2) := by decide +kernel
theorem dX5_deep_12 : decode cX5_deep 12 = .ok (.invokestatic 26, 3) := by decide +kernel
theorem dX5_deep_15 : decode cX5_deep 15 = .ok (.ifCond .ne 6, 3) := by decide +kernel
theorem dX5_deep_18 : decode cX5_deep 18 = .ok (.bipush (-2), 2) := by decide +kernel
theorem dX5_deep_20 : decode cX5_deep 20 = .ok (.ireturn, 1) := by decide +kernel
theorem dX5_deep_21 : decode cX5_deep 21 = .ok (.iload_n 2, 1) := by decide +kernel
theorem dX5_deep_22 : decode cX5_deep 22 = .ok (.bipush 13, 2) := by decide +kernel
theorem dX5_deep_24 : decode cX5_deep 24 = .ok (.if_icmp .ne 8, 3) := by decide +kernel
theorem dX5_deep_27 : decode cX5_deep 27 = .ok (.iload 5, 2) := by decide +kernel
theorem dX5_deep_29 : decode cX5_deep 29 = .ok (.goto 4, 3) := by decide +kernel
theorem dX5_deep_32 : decode cX5_deep 32 = .ok (.iconst 1, 1) := by decide +kernel
theorem dX5_deep_33 : decode cX5_deep 33 = .ok (.istore 6, 2) := by decide +kernel
theorem dX5_deep_35 : decode cX5_deep 35 = .ok (.iload_n 3, 1) := by decide +kernel
theorem dX5_deep_36 : decode cX5_deep 36 = .ok (.iload 4, 2) := by decide +kernel
theorem dX5_deep_38 : decode cX5_deep 38 = .ok (.iload 6, 2) := by decide +kernel
theorem dX5_deep_40 : decode cX5_deep 40 = .ok (.invokestatic 42, 3) := by decide +kernel
theorem dX5_deep_43 : decode cX5_deep 43 = .ok (.ifCond .eq 6, 3) := by decide +kernel
theorem dX5_deep_46 : decode cX5_deep 46 = .ok (.bipush (-2), 2) := by decide +kernel
theorem dX5_deep_48 : decode cX5_deep 48 = .ok (.ireturn, 1) := by decide +kernel
theorem dX5_deep_49 : decode cX5_deep 49 = .ok (.aload_n 0, 1) := by decide +kernel
theorem dX5_deep_50 : decode cX5_deep 50 = .ok (.invokevirtual 30, 3) := by decide +kernel
theorem dX5_deep_53 : decode cX5_deep 53 = .ok (.ifCond .eq 6, 3) := by decide +kernel
theorem dX5_deep_56 : decode cX5_deep 56 = .ok (.bipush (-3), 2) := by decide +kernel
theorem dX5_deep_58 : decode cX5_deep 58 = .ok (.ireturn, 1) := by decide +kernel
theorem dX5_deep_59 : decode cX5_deep 59 = .ok (.iload_n 3, 1) := by decide +kernel
theorem dX5_deep_60 : decode cX5_deep 60 = .ok (.ifCond .lt 13, 3) := by decide +kernel
theorem dX5_deep_63 : decode cX5_deep 63 = .ok (.iload 4, 2) := by decide +kernel
theorem dX5_deep_65 : decode cX5_deep 65 = .ok (.ifCond .lt 8, 3) := by decide +kernel
theorem dX5_deep_68 : decode cX5_deep 68 = .ok (.iload 6, 2) := by decide +kernel
theorem dX5_deep_70 : decode cX5_deep 70 = .ok (.ifCond .ge 8, 3) := by decide +kernel
theorem dX5_deep_73 : decode cX5_deep 73 = .ok (.iconst 4, 1) := by decide +kernel
theorem dX5_deep_74 : decode cX5_deep 74 = .ok (.invokestatic 34, 3) := by decide +kernel
theorem dX5_deep_77 : decode cX5_deep 77 = .ok (.ireturn, 1) := by decide +kernel
theorem dX5_deep_78 : decode cX5_deep 78 = .ok (.aload_n 0, 1) := by decide +kernel
theorem dX5_deep_79 : decode cX5_deep 79 = .ok (.getfield 11, 3) := by decide +kernel
theorem dX5_deep_82 : decode cX5_deep 82 = .ok (.iload_n 1, 1) := by decide +kernel
theorem dX5_deep_83 : decode cX5_deep 83 = .ok (.aload_n 0, 1) := by decide +kernel
theorem dX5_deep_84 : decode cX5_deep 84 = .ok (.iload_n 2, 1) := by decide +kernel
theorem dX5_deep_85 : decode cX5_deep 85 = .ok (.iload_n 3, 1) := by decide +kernel
theorem dX5_deep_86 : decode cX5_deep 86 = .ok (.iload 4, 2) := by decide +kernel
theorem dX5_deep_88 : decode cX5_deep 88 = .ok (.iload 6, 2) := by decide +kernel
theorem dX5_deep_90 : decode cX5_deep 90 = .ok (.invokevirtual 45, 3) := by decide +kernel
theorem dX5_deep_93 : decode cX5_deep 93 = .ok (.aastore, 1) := by decide +kernel
theorem dX5_deep_94 : decode cX5_deep 94 = .ok (.iconst 1, 1) := by decide +kernel
theorem dX5_deep_95 : decode cX5_deep 95 = .ok (.ireturn, 1) := by decide +kernel
theorem dX5_share_0 : decode cX5_share 0 = .ok (.iload_n 1, 1) := by decide +kernel
theorem dX5_share_1 : decode cX5_share 1 = .ok (.invokestatic 22, 3) := by decide +kernel
theorem dX5_share_4 : decode cX5_share 4 = .ok (.ifCond .eq 10, 3) := by decide +kernel
theorem dX5_share_7 : decode cX5_share 7 = .ok (.iload_n 2, 1) := by decide +kernel
theorem dX5_share_8 : decode cX5_share 8 = .ok (.invokestatic 22, 3) := by decide +kernel
theorem dX5_share_11 : decode cX5_share 11 = .ok (.ifCond .ne 6, 3) := by decide +kernel
theorem dX5_share_14 : decode cX5_share 14 = .ok (.bipush (-2), 2) := by decide +kernel
theorem dX5_share_16 : decode cX5_share 16 = .ok (.ireturn, 1) := by decide +kernel
theorem dX5_share_17 : decode cX5_share 17 = .ok (.aload_n 0, 1) := by decide +kernel
theorem dX5_share_18 : decode cX5_share 18 = .ok (.getfield 11, 3) := by decide +kernel
theorem dX5_share_21 : decode cX5_share 21 = .ok (.iload_n 1, 1) := by decide +kernel
theorem dX5_share_22 : decode cX5_share 22 = .ok (.aload_n 0, 1) := by decide +kernel
theorem dX5_share_23 : decode cX5_share 23 = .ok (.getfield 11, 3) := by decide +kernel
theorem dX5_share_26 : decode cX5_share 26 = .ok (.iload_n 2, 1) := by decide +kernel
theorem dX5_share_27 : decode cX5_share 27 = .ok (.aaload, 1) := by decide +kernel
theorem dX5_share_28 : decode cX5_share 28 = .ok (.aastore, 1) := by decide +kernel
theorem dX5_share_29 : decode cX5_share 29 = .ok (.iconst 1, 1) := by decide +kernel
theorem dX5_share_30 : decode cX5_share 30 = .ok (.ireturn, 1) := by decide +kernel
theorem dX5_aside_0 : decode cX5_aside 0 = .ok (.iload_n 1, 1) := by decide +kernel
theorem dX5_aside_1 : decode cX5_aside 1 = .ok (.invokestatic 22, 3) := by decide +kernel
theorem dX5_aside_4 : decode cX5_aside 4 = .ok (.ifCond .eq 10, 3) := by decide +kernel
theorem dX5_aside_7 : decode cX5_aside 7 = .ok (.iload_n 2, 1) := by decide +kernel
theorem dX5_aside_8 : decode cX5_aside 8 = .ok (.invokestatic 22, 3) := by decide +kernel
theorem dX5_aside_11 : decode cX5_aside 11 = .ok (.ifCond .ne 6, 3) := by decide +kernel
theorem dX5_aside_14 : decode cX5_aside 14 = .ok (.bipush (-2), 2) := by decide +kernel
theorem dX5_aside_16 : decode cX5_aside 16 = .ok (.ireturn, 1) := by decide +kernel
theorem dX5_aside_17 : decode cX5_aside 17 = .ok (.aload_n 0, 1) := by decide +kernel
theorem dX5_aside_18 : decode cX5_aside 18 = .ok (.invokevirtual 30, 3) := by decide +kernel
theorem dX5_aside_21 : decode cX5_aside 21 = .ok (.ifCond .eq 6, 3) := by decide +kernel
theorem dX5_aside_24 : decode cX5_aside 24 = .ok (.bipush (-3), 2) := by decide +kernel
theorem dX5_aside_26 : decode cX5_aside 26 = .ok (.ireturn, 1) := by decide +kernel
theorem dX5_aside_27 : decode cX5_aside 27 = .ok (.aload_n 0, 1) := by decide +kernel
theorem dX5_aside_28 : decode cX5_aside 28 = .ok (.dup, 1) := by decide +kernel
theorem dX5_aside_29 : decode cX5_aside 29 = .ok (.getfield 49, 3) := by decide +kernel
theorem dX5_aside_32 : decode cX5_aside 32 = .ok (.iconst 1, 1) := by decide +kernel
theorem dX5_aside_33 : decode cX5_aside 33 = .ok (.iadd, 1) := by decide +kernel
theorem dX5_aside_34 : decode cX5_aside 34 = .ok (.putfield 49, 3) := by decide +kernel
theorem dX5_aside_37 : decode cX5_aside 37 = .ok (.aload_n 0, 1) := by decide +kernel
theorem dX5_aside_38 : decode cX5_aside 38 = .ok (.getfield 11, 3) := by decide +kernel
theorem dX5_aside_41 : decode cX5_aside 41 = .ok (.iload_n 1, 1) := by decide +kernel
theorem dX5_aside_42 : decode cX5_aside 42 = .ok (.aload_n 0, 1) := by decide +kernel
theorem dX5_aside_43 : decode cX5_aside 43 = .ok (.aload_n 0, 1) := by decide +kernel
theorem dX5_aside_44 : decode cX5_aside 44 = .ok (.getfield 11, 3) := by decide +kernel
theorem dX5_aside_47 : decode cX5_aside 47 = .ok (.iload_n 2, 1) := by decide +kernel
theorem dX5_aside_48 : decode cX5_aside 48 = .ok (.aaload, 1) := by decide +kernel
theorem dX5_aside_49 : decode cX5_aside 49 = .ok (.iconst 3, 1) := by decide +kernel
theorem dX5_aside_50 : decode cX5_aside 50 = .ok (.invokevirtual 53, 3) := by decide +kernel
theorem dX5_aside_53 : decode cX5_aside 53 = .ok (.aastore, 1) := by decide +kernel
theorem dX5_aside_54 : decode cX5_aside 54 = .ok (.iconst 1, 1) := by decide +kernel
theorem dX5_aside_55 : decode cX5_aside 55 = .ok (.ireturn, 1) := by decide +kernel
theorem dX5_drop_0 : decode cX5_drop 0 = .ok (.iload_n 1, 1) := by decide +kernel
theorem dX5_drop_1 : decode cX5_drop 1 = .ok (.invokestatic 22, 3) := by decide +kernel
theorem dX5_drop_4 : decode cX5_drop 4 = .ok (.ifCond .ne 6, 3) := by decide +kernel
theorem dX5_drop_7 : decode cX5_drop 7 = .ok (.bipush (-2), 2) := by decide +kernel
theorem dX5_drop_9 : decode cX5_drop 9 = .ok (.ireturn, 1) := by decide +kernel
theorem dX5_drop_10 : decode cX5_drop 10 = .ok (.aload_n 0, 1) := by decide +kernel
theorem dX5_drop_11 : decode cX5_drop 11 = .ok (.getfield 11, 3) := by decide +kernel
theorem dX5_drop_14 : decode cX5_drop 14 = .ok (.iload_n 1, 1) := by decide +kernel
theorem dX5_drop_15 : decode cX5_drop 15 = .ok (.aaload, 1) := by decide +kernel
theorem dX5_drop_16 : decode cX5_drop 16 = .ok (.ifnull 7, 3) := by decide +kernel
theorem dX5_drop_19 : decode cX5_drop 19 = .ok (.iconst 1, 1) := by decide +kernel
theorem dX5_drop_20 : decode cX5_drop 20 = .ok (.goto 4, 3) := by decide +kernel
theorem dX5_drop_23 : decode cX5_drop 23 = .ok (.iconst 0, 1) := by decide +kernel
theorem dX5_drop_24 : decode cX5_drop 24 = .ok (.istore_n 2, 1) := by decide +kernel
theorem dX5_drop_25 : decode cX5_drop 25 = .ok (.aload_n 0, 1) := by decide +kernel
theorem dX5_drop_26 : decode cX5_drop 26 = .ok (.getfield 11, 3) := by decide +kernel
theorem dX5_drop_29 : decode cX5_drop 29 = .ok (.iload_n 1, 1) := by decide +kernel
theorem dX5_drop_30 : decode cX5_drop 30 = .ok (.aconst_null, 1) := by decide +kernel
theorem dX5_drop_31 : decode cX5_drop 31 = .ok (.aastore, 1) := by decide +kernel
theorem dX5_drop_32 : decode cX5_drop 32 = .ok (.iload_n 2, 1) := by decide +kernel
theorem dX5_drop_33 : decode cX5_drop 33 = .ok (.ireturn, 1) := by decide +kernel
theorem dX5_kind_0 : decode cX5_kind 0 = .ok (.iload_n 1, 1) := by decide +kernel
theorem dX5_kind_1 : decode cX5_kind 1 = .ok (.invokestatic 22, 3) := by decide +kernel
theorem dX5_kind_4 : decode cX5_kind 4 = .ok (.ifCond .ne 6, 3) := by decide +kernel
theorem dX5_kind_7 : decode cX5_kind 7 = .ok (.bipush (-2), 2) := by decide +kernel
theorem dX5_kind_9 : decode cX5_kind 9 = .ok (.ireturn, 1) := by decide +kernel
theorem dX5_kind_10 : decode cX5_kind 10 = .ok (.aload_n 0, 1) := by decide +kernel
theorem dX5_kind_11 : decode cX5_kind 11 = .ok (.getfield 11, 3) := by decide +kernel
theorem dX5_kind_14 : decode cX5_kind 14 = .ok (.iload_n 1, 1) := by decide +kernel
theorem dX5_kind_15 : decode cX5_kind 15 = .ok (.aaload, 1) := by decide +kernel
theorem dX5_kind_16 : decode cX5_kind 16 = .ok (.astore_n 2, 1) := by decide +kernel
theorem dX5_kind_17 : decode cX5_kind 17 = .ok (.aload_n 2, 1) := by decide +kernel
theorem dX5_kind_18 : decode cX5_kind 18 = .ok (.ifnull 10, 3) := by decide +kernel
theorem dX5_kind_21 : decode cX5_kind 21 = .ok (.aload_n 2, 1) := by decide +kernel
theorem dX5_kind_22 : decode cX5_kind 22 = .ok (.getfield 57, 3) := by decide +kernel
theorem dX5_kind_25 : decode cX5_kind 25 = .ok (.goto 4, 3) := by decide +kernel
theorem dX5_kind_28 : decode cX5_kind 28 = .ok (.iconst (-1), 1) := by decide +kernel
theorem dX5_kind_29 : decode cX5_kind 29 = .ok (.ireturn, 1) := by decide +kernel
theorem dX5_length_0 : decode cX5_length 0 = .ok (.iload_n 1, 1) := by decide +kernel
theorem dX5_length_1 : decode cX5_length 1 = .ok (.invokestatic 22, 3) := by decide +kernel
theorem dX5_length_4 : decode cX5_length 4 = .ok (.ifCond .eq 13, 3) := by decide +kernel
theorem dX5_length_7 : decode cX5_length 7 = .ok (.iload_n 2, 1) := by decide +kernel
theorem dX5_length_8 : decode cX5_length 8 = .ok (.iconst 0, 1) := by decide +kernel
theorem dX5_length_9 : decode cX5_length 9 = .ok (.bipush 13, 2) := by decide +kernel
theorem dX5_length_11 : decode cX5_length 11 = .ok (.invokestatic 26, 3) := by decide +kernel
theorem dX5_length_14 : decode cX5_length 14 = .ok (.ifCond .ne 6, 3) := by decide +kernel
theorem dX5_length_17 : decode cX5_length 17 = .ok (.bipush (-2), 2) := by decide +kernel
theorem dX5_length_19 : decode cX5_length 19 = .ok (.ireturn, 1) := by decide +kernel
theorem dX5_length_20 : decode cX5_length 20 = .ok (.aload_n 0, 1) := by decide +kernel
theorem dX5_length_21 : decode cX5_length 21 = .ok (.getfield 11, 3) := by decide +kernel
theorem dX5_length_24 : decode cX5_length 24 = .ok (.iload_n 1, 1) := by decide +kernel
theorem dX5_length_25 : decode cX5_length 25 = .ok (.aaload, 1) := by decide +kernel
theorem dX5_length_26 : decode cX5_length 26 = .ok (.astore_n 3, 1) := by decide +kernel
theorem dX5_length_27 : decode cX5_length 27 = .ok (.aload_n 3, 1) := by decide +kernel
theorem dX5_length_28 : decode cX5_length 28 = .ok (.iload_n 2, 1) := by decide +kernel
theorem dX5_length_29 : decode cX5_length 29 = .ok (.invokestatic 60, 3) := by decide +kernel
theorem dX5_length_32 : decode cX5_length 32 = .ok (.ifCond .ne 8, 3) := by decide +kernel
theorem dX5_length_35 : decode cX5_length 35 = .ok (.iconst 2, 1) := by decide +kernel
theorem dX5_length_36 : decode cX5_length 36 = .ok (.invokestatic 34, 3) := by decide +kernel
theorem dX5_length_39 : decode cX5_length 39 = .ok (.ireturn, 1) := by decide +kernel
theorem dX5_length_40 : decode cX5_length 40 = .ok (.aload_n 3, 1) := by decide +kernel
theorem dX5_length_41 : decode cX5_length 41 = .ok (.ifnull 10, 3) := by decide +kernel
theorem dX5_length_44 : decode cX5_length 44 = .ok (.aload_n 3, 1) := by decide +kernel
theorem dX5_length_45 : decode cX5_length 45 = .ok (.invokevirtual 64, 3) := by decide +kernel
theorem dX5_length_48 : decode cX5_length 48 = .ok (.goto 7, 3) := by decide +kernel
theorem dX5_length_51 : decode cX5_length 51 = .ok (.iconst 1, 1) := by decide +kernel
theorem dX5_length_52 : decode cX5_length 52 = .ok (.invokestatic 34, 3) := by decide +kernel
theorem dX5_length_55 : decode cX5_length 55 = .ok (.ireturn, 1) := by decide +kernel
theorem dX5_read_0 : decode cX5_read 0 = .ok (.iload_n 1, 1) := by decide +kernel
theorem dX5_read_1 : decode cX5_read 1 = .ok (.invokestatic 22, 3) := by decide +kernel
theorem dX5_read_4 : decode cX5_read 4 = .ok (.ifCond .eq 13, 3) := by decide +kernel
theorem dX5_read_7 : decode cX5_read 7 = .ok (.iload_n 2, 1) := by decide +kernel
theorem dX5_read_8 : decode cX5_read 8 = .ok (.iconst 0, 1) := by decide +kernel
theorem dX5_read_9 : decode cX5_read 9 = .ok (.bipush 9, 2) := by decide +kernel
theorem dX5_read_11 : decode cX5_read 11 = .ok (.invokestatic 26, 3) := by decide +kernel
theorem dX5_read_14 : decode cX5_read 14 = .ok (.ifCond .ne 10, 3) := by decide +kernel
theorem dX5_read_17 : decode cX5_read 17 = .ok (.aload_n 0, 1) := by decide +kernel
theorem dX5_read_18 : decode cX5_read 18 = .ok (.bipush (-2), 2) := by decide +kernel
theorem dX5_read_20 : decode cX5_read 20 = .ok (.invokevirtual 68, 3) := by decide +kernel
theorem dX5_read_23 : decode cX5_read 23 = .ok (.lreturn, 1) := by decide +kernel
theorem dX5_read_24 : decode cX5_read 24 = .ok (.aload_n 0, 1) := by decide +kernel
theorem dX5_read_25 : decode cX5_read 25 = .ok (.getfield 11, 3) := by decide +kernel
theorem dX5_read_28 : decode cX5_read 28 = .ok (.iload_n 1, 1) := by decide +kernel
theorem dX5_read_29 : decode cX5_read 29 = .ok (.aaload, 1) := by decide +kernel
theorem dX5_read_30 : decode cX5_read 30 = .ok (.astore 4, 2) := by decide +kernel
theorem dX5_read_32 : decode cX5_read 32 = .ok (.aload 4, 2) := by decide +kernel
theorem dX5_read_34 : decode cX5_read 34 = .ok (.iload_n 2, 1) := by decide +kernel
theorem dX5_read_35 : decode cX5_read 35 = .ok (.invokestatic 60, 3) := by decide +kernel
theorem dX5_read_38 : decode cX5_read 38 = .ok (.ifCond .eq 13, 3) := by decide +kernel
theorem dX5_read_41 : decode cX5_read 41 = .ok (.aload_n 0, 1) := by decide +kernel
theorem dX5_read_42 : decode cX5_read 42 = .ok (.aload 4, 2) := by decide +kernel
theorem dX5_read_44 : decode cX5_read 44 = .ok (.iload_n 3, 1) := by decide +kernel
theorem dX5_read_45 : decode cX5_read 45 = .ok (.invokevirtual 72, 3) := by decide +kernel
theorem dX5_read_48 : decode cX5_read 48 = .ok (.goto 8, 3) := by decide +kernel
theorem dX5_read_51 : decode cX5_read 51 = .ok (.aload_n 0, 1) := by decide +kernel
theorem dX5_read_52 : decode cX5_read 52 = .ok (.iconst 2, 1) := by decide +kernel
theorem dX5_read_53 : decode cX5_read 53 = .ok (.invokevirtual 68, 3) := by decide +kernel
theorem dX5_read_56 : decode cX5_read 56 = .ok (.lreturn, 1) := by decide +kernel
theorem dX5_write_0 : decode cX5_write 0 = .ok (.iload_n 1, 1) := by decide +kernel
theorem dX5_write_1 : decode cX5_write 1 = .ok (.invokestatic 22, 3) := by decide +kernel
theorem dX5_write_4 : decode cX5_write 4 = .ok (.ifCond .eq 13, 3) := by decide +kernel
theorem dX5_write_7 : decode cX5_write 7 = .ok (.iload_n 2, 1) := by decide +kernel
theorem dX5_write_8 : decode cX5_write 8 = .ok (.iconst 0, 1) := by decide +kernel
theorem dX5_write_9 : decode cX5_write 9 = .ok (.bipush 7, 2) := by decide +kernel
theorem dX5_write_11 : decode cX5_write 11 = .ok (.invokestatic 26, 3) := by decide +kernel
theorem dX5_write_14 : decode cX5_write 14 = .ok (.ifCond .ne 6, 3) := by decide +kernel
theorem dX5_write_17 : decode cX5_write 17 = .ok (.bipush (-2), 2) := by decide +kernel
theorem dX5_write_19 : decode cX5_write 19 = .ok (.ireturn, 1) := by decide +kernel
theorem dX5_write_20 : decode cX5_write 20 = .ok (.aload_n 0, 1) := by decide +kernel
theorem dX5_write_21 : decode cX5_write 21 = .ok (.getfield 11, 3) := by decide +kernel
theorem dX5_write_24 : decode cX5_write 24 = .ok (.iload_n 1, 1) := by decide +kernel
theorem dX5_write_25 : decode cX5_write 25 = .ok (.aaload, 1) := by decide +kernel
theorem dX5_write_26 : decode cX5_write 26 = .ok (.astore 6, 2) := by decide +kernel
theorem dX5_write_28 : decode cX5_write 28 = .ok (.aload 6, 2) := by decide +kernel
theorem dX5_write_30 : decode cX5_write 30 = .ok (.iload_n 2, 1) := by decide +kernel
theorem dX5_write_31 : decode cX5_write 31 = .ok (.invokestatic 60, 3) := by decide +kernel
theorem dX5_write_34 : decode cX5_write 34 = .ok (.ifCond .eq 14, 3) := by decide +kernel
theorem dX5_write_37 : decode cX5_write 37 = .ok (.aload 6, 2) := by decide +kernel
theorem dX5_write_39 : decode cX5_write 39 = .ok (.iload_n 3, 1) := by decide +kernel
theorem dX5_write_40 : decode cX5_write 40 = .ok (.lload 4, 2) := by decide +kernel
theorem dX5_write_42 : decode cX5_write 42 = .ok (.invokestatic 76, 3) := by decide +kernel
theorem dX5_write_45 : decode cX5_write 45 = .ok (.goto 7, 3) := by decide +kernel
theorem dX5_write_48 : decode cX5_write 48 = .ok (.iconst 2, 1) := by decide +kernel
theorem dX5_write_49 : decode cX5_write 49 = .ok (.invokestatic 34, 3) := by decide +kernel
theorem dX5_write_52 : decode cX5_write 52 = .ok (.ireturn, 1) := by decide +kernel
theorem dX5_thing_0 : decode cX5_thing 0 = .ok (.iload_n 1, 1) := by decide +kernel
theorem dX5_thing_1 : decode cX5_thing 1 = .ok (.invokestatic 22, 3) := by decide +kernel
theorem dX5_thing_4 : decode cX5_thing 4 = .ok (.ifCond .eq 12, 3) := by decide +kernel
theorem dX5_thing_7 : decode cX5_thing 7 = .ok (.iload_n 3, 1) := by decide +kernel
theorem dX5_thing_8 : decode cX5_thing 8 = .ok (.ifCond .lt 8, 3) := by decide +kernel
theorem dX5_thing_11 : decode cX5_thing 11 = .ok (.iload_n 3, 1) := by decide +kernel
theorem dX5_thing_12 : decode cX5_thing 12 = .ok (.iconst 2, 1) := by decide +kernel
theorem dX5_thing_13 : decode cX5_thing 13 = .ok (.if_icmp .le 6, 3) := by decide +kernel
theorem dX5_thing_16 : decode cX5_thing 16 = .ok (.bipush (-2), 2) := by decide +kernel
theorem dX5_thing_18 : decode cX5_thing 18 = .ok (.ireturn, 1) := by decide +kernel
theorem dX5_thing_19 : decode cX5_thing 19 = .ok (.iload_n 3, 1) := by decide +kernel
theorem dX5_thing_20 : decode cX5_thing 20 = .ok (.iconst 2, 1) := by decide +kernel
theorem dX5_thing_21 : decode cX5_thing 21 = .ok (.if_icmp .eq 16, 3) := by decide +kernel
theorem dX5_thing_24 : decode cX5_thing 24 = .ok (.aload_n 0, 1) := by decide +kernel
theorem dX5_thing_25 : decode cX5_thing 25 = .ok (.getfield 80, 3) := by decide +kernel
theorem dX5_thing_28 : decode cX5_thing 28 = .ok (.sipush 3000, 3) := by decide +kernel
theorem dX5_thing_31 : decode cX5_thing 31 = .ok (.if_icmp .lt 6, 3) := by decide +kernel
theorem dX5_thing_34 : decode cX5_thing 34 = .ok (.bipush (-3), 2) := by decide +kernel
theorem dX5_thing_36 : decode cX5_thing 36 = .ok (.ireturn, 1) := by decide +kernel
theorem dX5_thing_37 : decode cX5_thing 37 = .ok (.iload_n 3, 1) := by decide +kernel
theorem dX5_thing_38 : decode cX5_thing 38 = .ok (.iconst 2, 1) := by decide +kernel
theorem dX5_thing_39 : decode cX5_thing 39 = .ok (.if_icmp .eq 22, 3) := by decide +kernel
theorem dX5_thing_42 : decode cX5_thing 42 = .ok (.aload_n 0, 1) := by decide +kernel
theorem dX5_thing_43 : decode cX5_thing 43 = .ok (.iload 4, 2) := by decide +kernel
theorem dX5_thing_45 : decode cX5_thing 45 = .ok (.iload_n 3, 1) := by decide +kernel
theorem dX5_thing_46 : decode cX5_thing 46 = .ok (.iconst 1, 1) := by decide +kernel
theorem dX5_thing_47 : decode cX5_thing 47 = .ok (.if_icmp .ne 7, 3) := by decide +kernel
theorem dX5_thing_50 : decode cX5_thing 50 = .ok (.iconst 1, 1) := by decide +kernel
theorem dX5_thing_51 : decode cX5_thing 51 = .ok (.goto 4, 3) := by decide +kernel
theorem dX5_thing_54 : decode cX5_thing 54 = .ok (.iconst 0, 1) := by decide +kernel
theorem dX5_thing_55 : decode cX5_thing 55 = .ok (.invokevirtual 83, 3) := by decide +kernel
theorem dX5_thing_58 : decode cX5_thing 58 = .ok (.goto 4, 3) := by decide +kernel
theorem dX5_thing_61 : decode cX5_thing 61 = .ok (.aconst_null, 1) := by decide +kernel
theorem dX5_thing_62 : decode cX5_thing 62 = .ok (.astore 5, 2) := by decide +kernel
theorem dX5_thing_64 : decode cX5_thing 64 = .ok (.aload_n 0, 1) := by decide +kernel
theorem dX5_thing_65 : decode cX5_thing 65 = .ok (.getfield 11, 3) := by decide +kernel
theorem dX5_thing_68 : decode cX5_thing 68 = .ok (.iload_n 1, 1) := by decide +kernel
theorem dX5_thing_69 : decode cX5_thing 69 = .ok (.aaload, 1) := by decide +kernel
theorem dX5_thing_70 : decode cX5_thing 70 = .ok (.astore 6, 2) := by decide +kernel
theorem dX5_thing_72 : decode cX5_thing 72 = .ok (.aload 6, 2) := by decide +kernel
theorem dX5_thing_74 : decode cX5_thing 74 = .ok (.bipush 8, 2) := by decide +kernel
theorem dX5_thing_76 : decode cX5_thing 76 = .ok (.invokestatic 60, 3) := by decide +kernel
theorem dX5_thing_79 : decode cX5_thing 79 = .ok (.ifCond .eq 14, 3) := by decide +kernel
theorem dX5_thing_82 : decode cX5_thing 82 = .ok (.aload 6, 2) := by decide +kernel
theorem dX5_thing_84 : decode cX5_thing 84 = .ok (.iload_n 2, 1) := by decide +kernel
theorem dX5_thing_85 : decode cX5_thing 85 = .ok (.aload 5, 2) := by decide +kernel
theorem dX5_thing_87 : decode cX5_thing 87 = .ok (.invokestatic 87, 3) := by decide +kernel
theorem dX5_thing_90 : decode cX5_thing 90 = .ok (.goto 7, 3) := by decide +kernel
theorem dX5_thing_93 : decode cX5_thing 93 = .ok (.iconst 2, 1) := by decide +kernel
theorem dX5_thing_94 : decode cX5_thing 94 = .ok (.invokestatic 34, 3) := by decide +kernel
theorem dX5_thing_97 : decode cX5_thing 97 = .ok (.ireturn, 1) := by decide +kernel
theorem dX5_marked_0 : decode cX5_marked 0 = .ok (.iload_n 1, 1) := by decide +kernel
theorem dX5_marked_1 : decode cX5_marked 1 = .ok (.invokestatic 22, 3) := by decide +kernel
theorem dX5_marked_4 : decode cX5_marked 4 = .ok (.ifCond .ne 6, 3) := by decide +kernel
theorem dX5_marked_7 : decode cX5_marked 7 = .ok (.bipush (-2), 2) := by decide +kernel
theorem dX5_marked_9 : decode cX5_marked 9 = .ok (.ireturn, 1) := by decide +kernel
theorem dX5_marked_10 : decode cX5_marked 10 = .ok (.aload_n 0, 1) := by decide +kernel
theorem dX5_marked_11 : decode cX5_marked 11 = .ok (.getfield 11, 3) := by decide +kernel
theorem dX5_marked_14 : decode cX5_marked 14 = .ok (.iload_n 1, 1) := by decide +kernel
theorem dX5_marked_15 : decode cX5_marked 15 = .ok (.aaload, 1) := by decide +kernel
theorem dX5_marked_16 : decode cX5_marked 16 = .ok (.astore_n 3, 1) := by decide +kernel
theorem dX5_marked_17 : decode cX5_marked 17 = .ok (.aload_n 3, 1) := by decide +kernel
theorem dX5_marked_18 : decode cX5_marked 18 = .ok (.bipush 8, 2) := by decide +kernel
theorem dX5_marked_20 : decode cX5_marked 20 = .ok (.iload_n 2, 1) := by decide +kernel
theorem dX5_marked_21 : decode cX5_marked 21 = .ok (.invokestatic 91, 3) := by decide +kernel
theorem dX5_marked_24 : decode cX5_marked 24 = .ok (.istore 4, 2) := by decide +kernel
theorem dX5_marked_26 : decode cX5_marked 26 = .ok (.iload 4, 2) := by decide +kernel
theorem dX5_marked_28 : decode cX5_marked 28 = .ok (.ifCond .eq 9, 3) := by decide +kernel
theorem dX5_marked_31 : decode cX5_marked 31 = .ok (.iload 4, 2) := by decide +kernel
theorem dX5_marked_33 : decode cX5_marked 33 = .ok (.invokestatic 34, 3) := by decide +kernel
theorem dX5_marked_36 : decode cX5_marked 36 = .ok (.ireturn, 1) := by decide +kernel
theorem dX5_marked_37 : decode cX5_marked 37 = .ok (.aload_n 3, 1) := by decide +kernel
theorem dX5_marked_38 : decode cX5_marked 38 = .ok (.iload_n 2, 1) := by decide +kernel
theorem dX5_marked_39 : decode cX5_marked 39 = .ok (.invokestatic 95, 3) := by decide +kernel
theorem dX5_marked_42 : decode cX5_marked 42 = .ok (.astore 6, 2) := by decide +kernel
theorem dX5_marked_44 : decode cX5_marked 44 = .ok (.aload 6, 2) := by decide +kernel
theorem dX5_marked_46 : decode cX5_marked 46 = .ok (.instanceof 99, 3) := by decide +kernel
theorem dX5_marked_49 : decode cX5_marked 49 = .ok (.ifCond .eq 22, 3) := by decide +kernel
theorem dX5_marked_52 : decode cX5_marked 52 = .ok (.aload 6, 2) := by decide +kernel
theorem dX5_marked_54 : decode cX5_marked 54 = .ok (.checkcast 99, 3) := by decide +kernel
theorem dX5_marked_57 : decode cX5_marked 57 = .ok (.astore 5, 2) := by decide +kernel
theorem dX5_marked_59 : decode cX5_marked 59 = .ok (.aload 5, 2) := by decide +kernel
theorem dX5_marked_61 : decode cX5_marked 61 = .ok (.getfield 101, 3) := by decide +kernel
theorem dX5_marked_64 : decode cX5_marked 64 = .ok (.ifCond .eq 7, 3) := by decide +kernel
theorem dX5_marked_67 : decode cX5_marked 67 = .ok (.iconst 1, 1) := by decide +kernel
theorem dX5_marked_68 : decode cX5_marked 68 = .ok (.goto 4, 3) := by decide +kernel
theorem dX5_marked_71 : decode cX5_marked 71 = .ok (.iconst 0, 1) := by decide +kernel
theorem dX5_marked_72 : decode cX5_marked 72 = .ok (.ireturn, 1) := by decide +kernel
theorem dX5_cell_0 : decode cX5_cell 0 = .ok (.iload_n 1, 1) := by decide +kernel
theorem dX5_cell_1 : decode cX5_cell 1 = .ok (.invokestatic 22, 3) := by decide +kernel
theorem dX5_cell_4 : decode cX5_cell 4 = .ok (.ifCond .eq 14, 3) := by decide +kernel
theorem dX5_cell_7 : decode cX5_cell 7 = .ok (.iload_n 2, 1) := by decide +kernel
theorem dX5_cell_8 : decode cX5_cell 8 = .ok (.bipush 10, 2) := by decide +kernel
theorem dX5_cell_10 : decode cX5_cell 10 = .ok (.bipush 12, 2) := by decide +kernel
theorem dX5_cell_12 : decode cX5_cell 12 = .ok (.invokestatic 26, 3) := by decide +kernel
theorem dX5_cell_15 : decode cX5_cell 15 = .ok (.ifCond .ne 10, 3) := by decide +kernel
theorem dX5_cell_18 : decode cX5_cell 18 = .ok (.aload_n 0, 1) := by decide +kernel
theorem dX5_cell_19 : decode cX5_cell 19 = .ok (.bipush (-2), 2) := by decide +kernel
theorem dX5_cell_21 : decode cX5_cell 21 = .ok (.invokevirtual 68, 3) := by decide +kernel
theorem dX5_cell_24 : decode cX5_cell 24 = .ok (.lreturn, 1) := by decide +kernel
theorem dX5_cell_25 : decode cX5_cell 25 = .ok (.aload_n 0, 1) := by decide +kernel
theorem dX5_cell_26 : decode cX5_cell 26 = .ok (.getfield 11, 3) := by decide +kernel
theorem dX5_cell_29 : decode cX5_cell 29 = .ok (.iload_n 1, 1) := by decide +kernel
theorem dX5_cell_30 : decode cX5_cell 30 = .ok (.aaload, 1) := by decide +kernel
theorem dX5_cell_31 : decode cX5_cell 31 = .ok (.astore 5, 2) := by decide +kernel
theorem dX5_cell_33 : decode cX5_cell 33 = .ok (.aload 5, 2) := by decide +kernel
theorem dX5_cell_35 : decode cX5_cell 35 = .ok (.iload_n 2, 1) := by decide +kernel
theorem dX5_cell_36 : decode cX5_cell 36 = .ok (.iload_n 3, 1) := by decide +kernel
theorem dX5_cell_37 : decode cX5_cell 37 = .ok (.invokestatic 91, 3) := by decide +kernel
theorem dX5_cell_40 : decode cX5_cell 40 = .ok (.istore 6, 2) := by decide +kernel
theorem dX5_cell_42 : decode cX5_cell 42 = .ok (.iload 6, 2) := by decide +kernel
theorem dX5_cell_44 : decode cX5_cell 44 = .ok (.ifCond .ne 18, 3) := by decide +kernel
theorem dX5_cell_47 : decode cX5_cell 47 = .ok (.aload_n 0, 1) := by decide +kernel
theorem dX5_cell_48 : decode cX5_cell 48 = .ok (.aload 5, 2) := by decide +kernel
theorem dX5_cell_50 : decode cX5_cell 50 = .ok (.iload_n 3, 1) := by decide +kernel
theorem dX5_cell_51 : decode cX5_cell 51 = .ok (.invokestatic 105, 3) := by decide +kernel
theorem dX5_cell_54 : decode cX5_cell 54 = .ok (.iload 4, 2) := by decide +kernel
theorem dX5_cell_56 : decode cX5_cell 56 = .ok (.invokevirtual 72, 3) := by decide +kernel
theorem dX5_cell_59 : decode cX5_cell 59 = .ok (.goto 9, 3) := by decide +kernel
theorem dX5_cell_62 : decode cX5_cell 62 = .ok (.aload_n 0, 1) := by decide +kernel
theorem dX5_cell_63 : decode cX5_cell 63 = .ok (.iload 6, 2) := by decide +kernel
theorem dX5_cell_65 : decode cX5_cell 65 = .ok (.invokevirtual 68, 3) := by decide +kernel
theorem dX5_cell_68 : decode cX5_cell 68 = .ok (.lreturn, 1) := by decide +kernel
theorem dX5_set_0 : decode cX5_set 0 = .ok (.iload_n 1, 1) := by decide +kernel
theorem dX5_set_1 : decode cX5_set 1 = .ok (.invokestatic 22, 3) := by decide +kernel
theorem dX5_set_4 : decode cX5_set 4 = .ok (.ifCond .eq 14, 3) := by decide +kernel
theorem dX5_set_7 : decode cX5_set 7 = .ok (.iload_n 2, 1) := by decide +kernel
theorem dX5_set_8 : decode cX5_set 8 = .ok (.bipush 10, 2) := by decide +kernel
theorem dX5_set_10 : decode cX5_set 10 = .ok (.bipush 11, 2) := by decide +kernel
theorem dX5_set_12 : decode cX5_set 12 = .ok (.invokestatic 26, 3) := by decide +kernel
theorem dX5_set_15 : decode cX5_set 15 = .ok (.ifCond .ne 6, 3) := by decide +kernel
theorem dX5_set_18 : decode cX5_set 18 = .ok (.bipush (-2), 2) := by decide +kernel
theorem dX5_set_20 : decode cX5_set 20 = .ok (.ireturn, 1) := by decide +kernel
theorem dX5_set_21 : decode cX5_set 21 = .ok (.aload_n 0, 1) := by decide +kernel
theorem dX5_set_22 : decode cX5_set 22 = .ok (.getfield 11, 3) := by decide +kernel
theorem dX5_set_25 : decode cX5_set 25 = .ok (.iload_n 1, 1) := by decide +kernel
theorem dX5_set_26 : decode cX5_set 26 = .ok (.aaload, 1) := by decide +kernel
theorem dX5_set_27 : decode cX5_set 27 = .ok (.astore 7, 2) := by decide +kernel
theorem dX5_set_29 : decode cX5_set 29 = .ok (.aload 7, 2) := by decide +kernel
theorem dX5_set_31 : decode cX5_set 31 = .ok (.iload_n 2, 1) := by decide +kernel
theorem dX5_set_32 : decode cX5_set 32 = .ok (.iload_n 3, 1) := by decide +kernel
theorem dX5_set_33 : decode cX5_set 33 = .ok (.invokestatic 91, 3) := by decide +kernel
theorem dX5_set_36 : decode cX5_set 36 = .ok (.istore 8, 2) := by decide +kernel
theorem dX5_set_38 : decode cX5_set 38 = .ok (.iload 8, 2) := by decide +kernel
theorem dX5_set_40 : decode cX5_set 40 = .ok (.ifCond .ne 19, 3) := by decide +kernel
theorem dX5_set_43 : decode cX5_set 43 = .ok (.aload 7, 2) := by decide +kernel
theorem dX5_set_45 : decode cX5_set 45 = .ok (.iload_n 3, 1) := by decide +kernel
theorem dX5_set_46 : decode cX5_set 46 = .ok (.invokestatic 105, 3) := by decide +kernel
theorem dX5_set_49 : decode cX5_set 49 = .ok (.iload 4, 2) := by decide +kernel
theorem dX5_set_51 : decode cX5_set 51 = .ok (.lload 5, 2) := by decide +kernel
theorem dX5_set_53 : decode cX5_set 53 = .ok (.invokestatic 76, 3) := by decide +kernel
theorem dX5_set_56 : decode cX5_set 56 = .ok (.goto 8, 3) := by decide +kernel
theorem dX5_set_59 : decode cX5_set 59 = .ok (.iload 8, 2) := by decide +kernel
theorem dX5_set_61 : decode cX5_set 61 = .ok (.invokestatic 34, 3) := by decide +kernel
theorem dX5_set_64 : decode cX5_set 64 = .ok (.ireturn, 1) := by decide +kernel
theorem dX5_deepest_0 : decode cX5_deepest 0 = .ok (.iload_n 1, 1) := by decide +kernel
theorem dX5_deepest_1 : decode cX5_deepest 1 = .ok (.invokestatic 22, 3) := by decide +kernel
theorem dX5_deepest_4 : decode cX5_deepest 4 = .ok (.ifCond .ne 10, 3) := by decide +kernel
theorem dX5_deepest_7 : decode cX5_deepest 7 = .ok (.aload_n 0, 1) := by decide +kernel
theorem dX5_deepest_8 : decode cX5_deepest 8 = .ok (.bipush (-2), 2) := by decide +kernel
theorem dX5_deepest_10 : decode cX5_deepest 10 = .ok (.invokevirtual 68, 3) := by decide +kernel
theorem dX5_deepest_13 : decode cX5_deepest 13 = .ok (.lreturn, 1) := by decide +kernel
theorem dX5_deepest_14 : decode cX5_deepest 14 = .ok (.aload_n 0, 1) := by decide +kernel
theorem dX5_deepest_15 : decode cX5_deepest 15 = .ok (.getfield 11, 3) := by decide +kernel
theorem dX5_deepest_18 : decode cX5_deepest 18 = .ok (.iload_n 1, 1) := by decide +kernel
theorem dX5_deepest_19 : decode cX5_deepest 19 = .ok (.aaload, 1) := by decide +kernel
theorem dX5_deepest_20 : decode cX5_deepest 20 = .ok (.astore 5, 2) := by decide +kernel
theorem dX5_deepest_22 : decode cX5_deepest 22 = .ok (.aload 5, 2) := by decide +kernel
theorem dX5_deepest_24 : decode cX5_deepest 24 = .ok (.bipush 13, 2) := by decide +kernel
theorem dX5_deepest_26 : decode cX5_deepest 26 = .ok (.iload_n 2, 1) := by decide +kernel
theorem dX5_deepest_27 : decode cX5_deepest 27 = .ok (.invokestatic 91, 3) := by decide +kernel
theorem dX5_deepest_30 : decode cX5_deepest 30 = .ok (.istore 6, 2) := by decide +kernel
theorem dX5_deepest_32 : decode cX5_deepest 32 = .ok (.iload 6, 2) := by decide +kernel
theorem dX5_deepest_34 : decode cX5_deepest 34 = .ok (.ifCond .eq 10, 3) := by decide +kernel
theorem dX5_deepest_37 : decode cX5_deepest 37 = .ok (.aload_n 0, 1) := by decide +kernel
theorem dX5_deepest_38 : decode cX5_deepest 38 = .ok (.iload 6, 2) := by decide +kernel
theorem dX5_deepest_40 : decode cX5_deepest 40 = .ok (.invokevirtual 68, 3) := by decide +kernel
theorem dX5_deepest_43 : decode cX5_deepest 43 = .ok (.lreturn, 1) := by decide +kernel
theorem dX5_deepest_44 : decode cX5_deepest 44 = .ok (.aload 5, 2) := by decide +kernel
theorem dX5_deepest_46 : decode cX5_deepest 46 = .ok (.iload_n 2, 1) := by decide +kernel
theorem dX5_deepest_47 : decode cX5_deepest 47 = .ok (.invokestatic 105, 3) := by decide +kernel
theorem dX5_deepest_50 : decode cX5_deepest 50 = .ok (.astore 7, 2) := by decide +kernel
theorem dX5_deepest_52 : decode cX5_deepest 52 = .ok (.aload 7, 2) := by decide +kernel
theorem dX5_deepest_54 : decode cX5_deepest 54 = .ok (.iload_n 3, 1) := by decide +kernel
theorem dX5_deepest_55 : decode cX5_deepest 55 = .ok (.invokestatic 108, 3) := by decide +kernel
theorem dX5_deepest_58 : decode cX5_deepest 58 = .ok (.istore 6, 2) := by decide +kernel
theorem dX5_deepest_60 : decode cX5_deepest 60 = .ok (.iload 6, 2) := by decide +kernel
theorem dX5_deepest_62 : decode cX5_deepest 62 = .ok (.ifCond .ne 18, 3) := by decide +kernel
theorem dX5_deepest_65 : decode cX5_deepest 65 = .ok (.aload_n 0, 1) := by decide +kernel
theorem dX5_deepest_66 : decode cX5_deepest 66 = .ok (.aload 7, 2) := by decide +kernel
theorem dX5_deepest_68 : decode cX5_deepest 68 = .ok (.iload_n 3, 1) := by decide +kernel
theorem dX5_deepest_69 : decode cX5_deepest 69 = .ok (.invokestatic 105, 3) := by decide +kernel
theorem dX5_deepest_72 : decode cX5_deepest 72 = .ok (.iload 4, 2) := by decide +kernel
theorem dX5_deepest_74 : decode cX5_deepest 74 = .ok (.invokevirtual 72, 3) := by decide +kernel
theorem dX5_deepest_77 : decode cX5_deepest 77 = .ok (.goto 9, 3) := by decide +kernel
theorem dX5_deepest_80 : decode cX5_deepest 80 = .ok (.aload_n 0, 1) := by decide +kernel
theorem dX5_deepest_81 : decode cX5_deepest 81 = .ok (.iload 6, 2) := by decide +kernel
theorem dX5_deepest_83 : decode cX5_deepest 83 = .ok (.invokevirtual 68, 3) := by decide +kernel
theorem dX5_deepest_86 : decode cX5_deepest 86 = .ok (.lreturn, 1) := by decide +kernel
theorem dX5_row_0 : decode cX5_row 0 = .ok (.iload_n 1, 1) := by decide +kernel
theorem dX5_row_1 : decode cX5_row 1 = .ok (.invokestatic 22, 3) := by decide +kernel
theorem dX5_row_4 : decode cX5_row 4 = .ok (.ifCond .eq 22, 3) := by decide +kernel
theorem dX5_row_7 : decode cX5_row 7 = .ok (.iload 4, 2) := by decide +kernel
theorem dX5_row_9 : decode cX5_row 9 = .ok (.invokestatic 22, 3) := by decide +kernel
theorem dX5_row_12 : decode cX5_row 12 = .ok (.ifCond .eq 14, 3) := by decide +kernel
theorem dX5_row_15 : decode cX5_row 15 = .ok (.iload_n 2, 1) := by decide +kernel
theorem dX5_row_16 : decode cX5_row 16 = .ok (.bipush 10, 2) := by decide +kernel
theorem dX5_row_18 : decode cX5_row 18 = .ok (.bipush 13, 2) := by decide +kernel
theorem dX5_row_20 : decode cX5_row 20 = .ok (.invokestatic 26, 3) := by decide +kernel
theorem dX5_row_23 : decode cX5_row 23 = .ok (.ifCond .ne 6, 3) := by decide +kernel
theorem dX5_row_26 : decode cX5_row 26 = .ok (.bipush (-2), 2) := by decide +kernel
theorem dX5_row_28 : decode cX5_row 28 = .ok (.ireturn, 1) := by decide +kernel
theorem dX5_row_29 : decode cX5_row 29 = .ok (.aload_n 0, 1) := by decide +kernel
theorem dX5_row_30 : decode cX5_row 30 = .ok (.getfield 11, 3) := by decide +kernel
theorem dX5_row_33 : decode cX5_row 33 = .ok (.iload_n 1, 1) := by decide +kernel
theorem dX5_row_34 : decode cX5_row 34 = .ok (.aaload, 1) := by decide +kernel
theorem dX5_row_35 : decode cX5_row 35 = .ok (.astore 5, 2) := by decide +kernel
theorem dX5_row_37 : decode cX5_row 37 = .ok (.aload_n 0, 1) := by decide +kernel
theorem dX5_row_38 : decode cX5_row 38 = .ok (.getfield 11, 3) := by decide +kernel
theorem dX5_row_41 : decode cX5_row 41 = .ok (.iload 4, 2) := by decide +kernel
theorem dX5_row_43 : decode cX5_row 43 = .ok (.aaload, 1) := by decide +kernel
theorem dX5_row_44 : decode cX5_row 44 = .ok (.astore 6, 2) := by decide +kernel
theorem dX5_row_46 : decode cX5_row 46 = .ok (.aload 5, 2) := by decide +kernel
theorem dX5_row_48 : decode cX5_row 48 = .ok (.iload_n 2, 1) := by decide +kernel
theorem dX5_row_49 : decode cX5_row 49 = .ok (.invokestatic 60, 3) := by decide +kernel
theorem dX5_row_52 : decode cX5_row 52 = .ok (.ifCond .eq 15, 3) := by decide +kernel
theorem dX5_row_55 : decode cX5_row 55 = .ok (.aload 6, 2) := by decide +kernel
theorem dX5_row_57 : decode cX5_row 57 = .ok (.iload_n 2, 1) := by decide +kernel
theorem dX5_row_58 : decode cX5_row 58 = .ok (.invokestatic 112, 3) := by decide +kernel
theorem dX5_row_61 : decode cX5_row 61 = .ok (.invokestatic 60, 3) := by decide +kernel
theorem dX5_row_64 : decode cX5_row 64 = .ok (.ifCond .ne 8, 3) := by decide +kernel
theorem dX5_row_67 : decode cX5_row 67 = .ok (.iconst 2, 1) := by decide +kernel
theorem dX5_row_68 : decode cX5_row 68 = .ok (.invokestatic 34, 3) := by decide +kernel
theorem dX5_row_71 : decode cX5_row 71 = .ok (.ireturn, 1) := by decide +kernel
theorem dX5_row_72 : decode cX5_row 72 = .ok (.aload 5, 2) := by decide +kernel
theorem dX5_row_74 : decode cX5_row 74 = .ok (.iload_n 3, 1) := by decide +kernel
theorem dX5_row_75 : decode cX5_row 75 = .ok (.aload 6, 2) := by decide +kernel
theorem dX5_row_77 : decode cX5_row 77 = .ok (.invokestatic 87, 3) := by decide +kernel
theorem dX5_row_80 : decode cX5_row 80 = .ok (.ireturn, 1) := by decide +kernel
theorem dX5_take_0 : decode cX5_take 0 = .ok (.iload_n 1, 1) := by decide +kernel
theorem dX5_take_1 : decode cX5_take 1 = .ok (.invokestatic 22, 3) := by decide +kernel
theorem dX5_take_4 : decode cX5_take 4 = .ok (.ifCond .eq 21, 3) := by decide +kernel
theorem dX5_take_7 : decode cX5_take 7 = .ok (.iload_n 2, 1) := by decide +kernel
theorem dX5_take_8 : decode cX5_take 8 = .ok (.invokestatic 22, 3) := by decide +kernel
theorem dX5_take_11 : decode cX5_take 11 = .ok (.ifCond .eq 14, 3) := by decide +kernel
theorem dX5_take_14 : decode cX5_take 14 = .ok (.iload_n 3, 1) := by decide +kernel
theorem dX5_take_15 : decode cX5_take 15 = .ok (.bipush 10, 2) := by decide +kernel
theorem dX5_take_17 : decode cX5_take 17 = .ok (.bipush 13, 2) := by decide +kernel
theorem dX5_take_19 : decode cX5_take 19 = .ok (.invokestatic 26, 3) := by decide +kernel
theorem dX5_take_22 : decode cX5_take 22 = .ok (.ifCond .ne 6, 3) := by decide +kernel
theorem dX5_take_25 : decode cX5_take 25 = .ok (.bipush (-2), 2) := by decide +kernel
theorem dX5_take_27 : decode cX5_take 27 = .ok (.ireturn, 1) := by decide +kernel
theorem dX5_take_28 : decode cX5_take 28 = .ok (.aload_n 0, 1) := by decide +kernel
theorem dX5_take_29 : decode cX5_take 29 = .ok (.getfield 11, 3) := by decide +kernel
theorem dX5_take_32 : decode cX5_take 32 = .ok (.iload_n 2, 1) := by decide +kernel
theorem dX5_take_33 : decode cX5_take 33 = .ok (.aaload, 1) := by decide +kernel
theorem dX5_take_34 : decode cX5_take 34 = .ok (.astore 5, 2) := by decide +kernel
theorem dX5_take_36 : decode cX5_take 36 = .ok (.aload 5, 2) := by decide +kernel
theorem dX5_take_38 : decode cX5_take 38 = .ok (.iload_n 3, 1) := by decide +kernel
theorem dX5_take_39 : decode cX5_take 39 = .ok (.iload 4, 2) := by decide +kernel
theorem dX5_take_41 : decode cX5_take 41 = .ok (.invokestatic 91, 3) := by decide +kernel
theorem dX5_take_44 : decode cX5_take 44 = .ok (.istore 6, 2) := by decide +kernel
theorem dX5_take_46 : decode cX5_take 46 = .ok (.iload 6, 2) := by decide +kernel
theorem dX5_take_48 : decode cX5_take 48 = .ok (.ifCond .eq 9, 3) := by decide +kernel
theorem dX5_take_51 : decode cX5_take 51 = .ok (.iload 6, 2) := by decide +kernel
theorem dX5_take_53 : decode cX5_take 53 = .ok (.invokestatic 34, 3) := by decide +kernel
theorem dX5_take_56 : decode cX5_take 56 = .ok (.ireturn, 1) := by decide +kernel
theorem dX5_take_57 : decode cX5_take 57 = .ok (.aload_n 0, 1) := by decide +kernel
theorem dX5_take_58 : decode cX5_take 58 = .ok (.getfield 11, 3) := by decide +kernel
theorem dX5_take_61 : decode cX5_take 61 = .ok (.iload_n 1, 1) := by decide +kernel
theorem dX5_take_62 : decode cX5_take 62 = .ok (.aload 5, 2) := by decide +kernel
theorem dX5_take_64 : decode cX5_take 64 = .ok (.iload 4, 2) := by decide +kernel
theorem dX5_take_66 : decode cX5_take 66 = .ok (.invokestatic 105, 3) := by decide +kernel
theorem dX5_take_69 : decode cX5_take 69 = .ok (.aastore, 1) := by decide +kernel
theorem dX5_take_70 : decode cX5_take 70 = .ok (.iconst 1, 1) := by decide +kernel
theorem dX5_take_71 : decode cX5_take 71 = .ok (.ireturn, 1) := by decide +kernel
theorem dX5_grow_0 : decode cX5_grow 0 = .ok (.iload_n 1, 1) := by decide +kernel
theorem dX5_grow_1 : decode cX5_grow 1 = .ok (.invokestatic 22, 3) := by decide +kernel
theorem dX5_grow_4 : decode cX5_grow 4 = .ok (.ifCond .eq 9, 3) := by decide +kernel
theorem dX5_grow_7 : decode cX5_grow 7 = .ok (.iload_n 2, 1) := by decide +kernel
theorem dX5_grow_8 : decode cX5_grow 8 = .ok (.bipush 30, 2) := by decide +kernel
theorem dX5_grow_10 : decode cX5_grow 10 = .ok (.if_icmp .le 6, 3) := by decide +kernel
theorem dX5_grow_13 : decode cX5_grow 13 = .ok (.bipush (-2), 2) := by decide +kernel
theorem dX5_grow_15 : decode cX5_grow 15 = .ok (.ireturn, 1) := by decide +kernel
theorem dX5_grow_16 : decode cX5_grow 16 = .ok (.aload_n 0, 1) := by decide +kernel
theorem dX5_grow_17 : decode cX5_grow 17 = .ok (.invokevirtual 30, 3) := by decide +kernel
theorem dX5_grow_20 : decode cX5_grow 20 = .ok (.ifCond .eq 6, 3) := by decide +kernel
theorem dX5_grow_23 : decode cX5_grow 23 = .ok (.bipush (-3), 2) := by decide +kernel
theorem dX5_grow_25 : decode cX5_grow 25 = .ok (.ireturn, 1) := by decide +kernel
theorem dX5_grow_26 : decode cX5_grow 26 = .ok (.aload_n 0, 1) := by decide +kernel
theorem dX5_grow_27 : decode cX5_grow 27 = .ok (.getfield 11, 3) := by decide +kernel
theorem dX5_grow_30 : decode cX5_grow 30 = .ok (.iload_n 1, 1) := by decide +kernel
theorem dX5_grow_31 : decode cX5_grow 31 = .ok (.aaload, 1) := by decide +kernel
theorem dX5_grow_32 : decode cX5_grow 32 = .ok (.astore_n 3, 1) := by decide +kernel
theorem dX5_grow_33 : decode cX5_grow 33 = .ok (.aload_n 3, 1) := by decide +kernel
theorem dX5_grow_34 : decode cX5_grow 34 = .ok (.ifnonnull 8, 3) := by decide +kernel
theorem dX5_grow_37 : decode cX5_grow 37 = .ok (.iconst 1, 1) := by decide +kernel
theorem dX5_grow_38 : decode cX5_grow 38 = .ok (.invokestatic 34, 3) := by decide +kernel
theorem dX5_grow_41 : decode cX5_grow 41 = .ok (.ireturn, 1) := by decide +kernel
theorem dX5_grow_42 : decode cX5_grow 42 = .ok (.iload_n 2, 1) := by decide +kernel
theorem dX5_grow_43 : decode cX5_grow 43 = .ok (.ifCond .ge 8, 3) := by decide +kernel
theorem dX5_grow_46 : decode cX5_grow 46 = .ok (.iconst 4, 1) := by decide +kernel
theorem dX5_grow_47 : decode cX5_grow 47 = .ok (.invokestatic 34, 3) := by decide +kernel
theorem dX5_grow_50 : decode cX5_grow 50 = .ok (.ireturn, 1) := by decide +kernel
theorem dX5_grow_51 : decode cX5_grow 51 = .ok (.aload_n 0, 1) := by decide +kernel
theorem dX5_grow_52 : decode cX5_grow 52 = .ok (.aload_n 3, 1) := by decide +kernel
theorem dX5_grow_53 : decode cX5_grow 53 = .ok (.getfield 57, 3) := by decide +kernel
theorem dX5_grow_56 : decode cX5_grow 56 = .ok (.iload_n 2, 1) := by decide +kernel
theorem dX5_grow_57 : decode cX5_grow 57 = .ok (.invokevirtual 38, 3) := by decide +kernel
theorem dX5_grow_60 : decode cX5_grow 60 = .ok (.astore 4, 2) := by decide +kernel
theorem dX5_grow_62 : decode cX5_grow 62 = .ok (.aload_n 3, 1) := by decide +kernel
theorem dX5_grow_63 : decode cX5_grow 63 = .ok (.iconst 0, 1) := by decide +kernel
theorem dX5_grow_64 : decode cX5_grow 64 = .ok (.aload 4, 2) := by decide +kernel
theorem dX5_grow_66 : decode cX5_grow 66 = .ok (.iconst 0, 1) := by decide +kernel
theorem dX5_grow_67 : decode cX5_grow 67 = .ok (.iload_n 2, 1) := by decide +kernel
theorem dX5_grow_68 : decode cX5_grow 68 = .ok (.aload_n 3, 1) := by decide +kernel
theorem dX5_grow_69 : decode cX5_grow 69 = .ok (.invokevirtual 64, 3) := by decide +kernel
theorem dX5_grow_72 : decode cX5_grow 72 = .ok (.invokestatic 115, 3) := by decide +kernel
theorem dX5_grow_75 : decode cX5_grow 75 = .ok (.invokestatic 121, 3) := by decide +kernel
theorem dX5_grow_78 : decode cX5_grow 78 = .ok (.pop, 1) := by decide +kernel
theorem dX5_grow_79 : decode cX5_grow 79 = .ok (.aload_n 0, 1) := by decide +kernel
theorem dX5_grow_80 : decode cX5_grow 80 = .ok (.getfield 11, 3) := by decide +kernel
theorem dX5_grow_83 : decode cX5_grow 83 = .ok (.iload_n 1, 1) := by decide +kernel
theorem dX5_grow_84 : decode cX5_grow 84 = .ok (.aload 4, 2) := by decide +kernel
theorem dX5_grow_86 : decode cX5_grow 86 = .ok (.aastore, 1) := by decide +kernel
theorem dX5_grow_87 : decode cX5_grow 87 = .ok (.iconst 1, 1) := by decide +kernel
theorem dX5_grow_88 : decode cX5_grow 88 = .ok (.ireturn, 1) := by decide +kernel
theorem dX5_copy_0 : decode cX5_copy 0 = .ok (.iload_n 1, 1) := by decide +kernel
theorem dX5_copy_1 : decode cX5_copy 1 = .ok (.invokestatic 22, 3) := by decide +kernel
theorem dX5_copy_4 : decode cX5_copy 4 = .ok (.ifCond .eq 10, 3) := by decide +kernel
theorem dX5_copy_7 : decode cX5_copy 7 = .ok (.iload_n 3, 1) := by decide +kernel
theorem dX5_copy_8 : decode cX5_copy 8 = .ok (.invokestatic 22, 3) := by decide +kernel
theorem dX5_copy_11 : decode cX5_copy 11 = .ok (.ifCond .ne 6, 3) := by decide +kernel
theorem dX5_copy_14 : decode cX5_copy 14 = .ok (.bipush (-2), 2) := by decide +kernel
theorem dX5_copy_16 : decode cX5_copy 16 = .ok (.ireturn, 1) := by decide +kernel
theorem dX5_copy_17 : decode cX5_copy 17 = .ok (.aload_n 0, 1) := by decide +kernel
theorem dX5_copy_18 : decode cX5_copy 18 = .ok (.getfield 11, 3) := by decide +kernel
theorem dX5_copy_21 : decode cX5_copy 21 = .ok (.iload_n 1, 1) := by decide +kernel
theorem dX5_copy_22 : decode cX5_copy 22 = .ok (.aaload, 1) := by decide +kernel
theorem dX5_copy_23 : decode cX5_copy 23 = .ok (.astore 6, 2) := by decide +kernel
theorem dX5_copy_25 : decode cX5_copy 25 = .ok (.aload_n 0, 1) := by decide +kernel
theorem dX5_copy_26 : decode cX5_copy 26 = .ok (.getfield 11, 3) := by decide +kernel
theorem dX5_copy_29 : decode cX5_copy 29 = .ok (.iload_n 3, 1) := by decide +kernel
theorem dX5_copy_30 : decode cX5_copy 30 = .ok (.aaload, 1) := by decide +kernel
theorem dX5_copy_31 : decode cX5_copy 31 = .ok (.astore 7, 2) := by decide +kernel
theorem dX5_copy_33 : decode cX5_copy 33 = .ok (.aload 6, 2) := by decide +kernel
theorem dX5_copy_35 : decode cX5_copy 35 = .ok (.ifnull 8, 3) := by decide +kernel
theorem dX5_copy_38 : decode cX5_copy 38 = .ok (.aload 7, 2) := by decide +kernel
theorem dX5_copy_40 : decode cX5_copy 40 = .ok (.ifnonnull 8, 3) := by decide +kernel
theorem dX5_copy_43 : decode cX5_copy 43 = .ok (.iconst 1, 1) := by decide +kernel
theorem dX5_copy_44 : decode cX5_copy 44 = .ok (.invokestatic 34, 3) := by decide +kernel
theorem dX5_copy_47 : decode cX5_copy 47 = .ok (.ireturn, 1) := by decide +kernel
theorem dX5_copy_48 : decode cX5_copy 48 = .ok (.aload 6, 2) := by decide +kernel
theorem dX5_copy_50 : decode cX5_copy 50 = .ok (.getfield 57, 3) := by decide +kernel
theorem dX5_copy_53 : decode cX5_copy 53 = .ok (.aload 7, 2) := by decide +kernel
theorem dX5_copy_55 : decode cX5_copy 55 = .ok (.getfield 57, 3) := by decide +kernel
theorem dX5_copy_58 : decode cX5_copy 58 = .ok (.if_icmp .eq 24, 3) := by decide +kernel
theorem dX5_copy_61 : decode cX5_copy 61 = .ok (.aload 6, 2) := by decide +kernel
theorem dX5_copy_63 : decode cX5_copy 63 = .ok (.instanceof 125, 3) := by decide +kernel
theorem dX5_copy_66 : decode cX5_copy 66 = .ok (.ifCond .ne 11, 3) := by decide +kernel
theorem dX5_copy_69 : decode cX5_copy 69 = .ok (.aload 7, 2) := by decide +kernel
theorem dX5_copy_71 : decode cX5_copy 71 = .ok (.instanceof 125, 3) := by decide +kernel
theorem dX5_copy_74 : decode cX5_copy 74 = .ok (.ifCond .eq 8, 3) := by decide +kernel
theorem dX5_copy_77 : decode cX5_copy 77 = .ok (.iconst 5, 1) := by decide +kernel
theorem dX5_copy_78 : decode cX5_copy 78 = .ok (.invokestatic 34, 3) := by decide +kernel
theorem dX5_copy_81 : decode cX5_copy 81 = .ok (.ireturn, 1) := by decide +kernel
theorem dX5_copy_82 : decode cX5_copy 82 = .ok (.aload 6, 2) := by decide +kernel
theorem dX5_copy_84 : decode cX5_copy 84 = .ok (.iload_n 2, 1) := by decide +kernel
theorem dX5_copy_85 : decode cX5_copy 85 = .ok (.aload 7, 2) := by decide +kernel
theorem dX5_copy_87 : decode cX5_copy 87 = .ok (.iload 4, 2) := by decide +kernel
theorem dX5_copy_89 : decode cX5_copy 89 = .ok (.iload 5, 2) := by decide +kernel
theorem dX5_copy_91 : decode cX5_copy 91 = .ok (.invokestatic 121, 3) := by decide +kernel
theorem dX5_copy_94 : decode cX5_copy 94 = .ok (.ireturn, 1) := by decide +kernel
theorem dX5_fill_0 : decode cX5_fill 0 = .ok (.iload_n 1, 1) := by decide +kernel
theorem dX5_fill_1 : decode cX5_fill 1 = .ok (.invokestatic 22, 3) := by decide +kernel
theorem dX5_fill_4 : decode cX5_fill 4 = .ok (.ifCond .eq 13, 3) := by decide +kernel
theorem dX5_fill_7 : decode cX5_fill 7 = .ok (.iload_n 2, 1) := by decide +kernel
theorem dX5_fill_8 : decode cX5_fill 8 = .ok (.iconst 0, 1) := by decide +kernel
theorem dX5_fill_9 : decode cX5_fill 9 = .ok (.bipush 7, 2) := by decide +kernel
theorem dX5_fill_11 : decode cX5_fill 11 = .ok (.invokestatic 26, 3) := by decide +kernel
theorem dX5_fill_14 : decode cX5_fill 14 = .ok (.ifCond .ne 6, 3) := by decide +kernel
theorem dX5_fill_17 : decode cX5_fill 17 = .ok (.bipush (-2), 2) := by decide +kernel
theorem dX5_fill_19 : decode cX5_fill 19 = .ok (.ireturn, 1) := by decide +kernel
theorem dX5_fill_20 : decode cX5_fill 20 = .ok (.aload_n 0, 1) := by decide +kernel
theorem dX5_fill_21 : decode cX5_fill 21 = .ok (.getfield 11, 3) := by decide +kernel
theorem dX5_fill_24 : decode cX5_fill 24 = .ok (.iload_n 1, 1) := by decide +kernel
theorem dX5_fill_25 : decode cX5_fill 25 = .ok (.aaload, 1) := by decide +kernel
theorem dX5_fill_26 : decode cX5_fill 26 = .ok (.astore 5, 2) := by decide +kernel
theorem dX5_fill_28 : decode cX5_fill 28 = .ok (.aload 5, 2) := by decide +kernel
theorem dX5_fill_30 : decode cX5_fill 30 = .ok (.iload_n 2, 1) := by decide +kernel
theorem dX5_fill_31 : decode cX5_fill 31 = .ok (.invokestatic 60, 3) := by decide +kernel
theorem dX5_fill_34 : decode cX5_fill 34 = .ok (.ifCond .ne 8, 3) := by decide +kernel
theorem dX5_fill_37 : decode cX5_fill 37 = .ok (.iconst 2, 1) := by decide +kernel
theorem dX5_fill_38 : decode cX5_fill 38 = .ok (.invokestatic 34, 3) := by decide +kernel
theorem dX5_fill_41 : decode cX5_fill 41 = .ok (.ireturn, 1) := by decide +kernel
theorem dX5_fill_42 : decode cX5_fill 42 = .ok (.aload 5, 2) := by decide +kernel
theorem dX5_fill_44 : decode cX5_fill 44 = .ok (.ifnonnull 8, 3) := by decide +kernel
theorem dX5_fill_47 : decode cX5_fill 47 = .ok (.iconst 1, 1) := by decide +kernel
theorem dX5_fill_48 : decode cX5_fill 48 = .ok (.invokestatic 34, 3) := by decide +kernel
theorem dX5_fill_51 : decode cX5_fill 51 = .ok (.ireturn, 1) := by decide +kernel
theorem dX5_fill_52 : decode cX5_fill 52 = .ok (.iconst 0, 1) := by decide +kernel
theorem dX5_fill_53 : decode cX5_fill 53 = .ok (.istore 6, 2) := by decide +kernel
theorem dX5_fill_55 : decode cX5_fill 55 = .ok (.iload 6, 2) := by decide +kernel
theorem dX5_fill_57 : decode cX5_fill 57 = .ok (.aload 5, 2) := by decide +kernel
theorem dX5_fill_59 : decode cX5_fill 59 = .ok (.invokevirtual 64, 3) := by decide +kernel
theorem dX5_fill_62 : decode cX5_fill 62 = .ok (.if_icmp .ge 18, 3) := by decide +kernel
theorem dX5_fill_65 : decode cX5_fill 65 = .ok (.aload 5, 2) := by decide +kernel
theorem dX5_fill_67 : decode cX5_fill 67 = .ok (.iload 6, 2) := by decide +kernel
theorem dX5_fill_69 : decode cX5_fill 69 = .ok (.lload_n 3, 1) := by decide +kernel
theorem dX5_fill_70 : decode cX5_fill 70 = .ok (.invokestatic 76, 3) := by decide +kernel
theorem dX5_fill_73 : decode cX5_fill 73 = .ok (.pop, 1) := by decide +kernel
theorem dX5_fill_74 : decode cX5_fill 74 = .ok (.iinc 6 1, 3) := by decide +kernel
theorem dX5_fill_77 : decode cX5_fill 77 = .ok (.goto (-22), 3) := by decide +kernel
theorem dX5_fill_80 : decode cX5_fill 80 = .ok (.aload 5, 2) := by decide +kernel
theorem dX5_fill_82 : decode cX5_fill 82 = .ok (.invokevirtual 64, 3) := by decide +kernel
theorem dX5_fill_85 : decode cX5_fill 85 = .ok (.ireturn, 1) := by decide +kernel
theorem dX5_size_0 : decode cX5_size 0 = .ok (.iload_n 1, 1) := by decide +kernel
theorem dX5_size_1 : decode cX5_size 1 = .ok (.invokestatic 22, 3) := by decide +kernel
theorem dX5_size_4 : decode cX5_size 4 = .ok (.ifCond .eq 16, 3) := by decide +kernel
theorem dX5_size_7 : decode cX5_size 7 = .ok (.aload_n 0, 1) := by decide +kernel
theorem dX5_size_8 : decode cX5_size 8 = .ok (.getfield 11, 3) := by decide +kernel
theorem dX5_size_11 : decode cX5_size 11 = .ok (.iload_n 1, 1) := by decide +kernel
theorem dX5_size_12 : decode cX5_size 12 = .ok (.aaload, 1) := by decide +kernel
theorem dX5_size_13 : decode cX5_size 13 = .ok (.iconst 3, 1) := by decide +kernel
theorem dX5_size_14 : decode cX5_size 14 = .ok (.invokestatic 127, 3) := by decide +kernel
theorem dX5_size_17 : decode cX5_size 17 = .ok (.goto 5, 3) := by decide +kernel
theorem dX5_size_20 : decode cX5_size 20 = .ok (.bipush (-2), 2) := by decide +kernel
theorem dX5_size_22 : decode cX5_size 22 = .ok (.ireturn, 1) := by decide +kernel
theorem dX5_alike_0 : decode cX5_alike 0 = .ok (.iload_n 1, 1) := by decide +kernel
theorem dX5_alike_1 : decode cX5_alike 1 = .ok (.invokestatic 22, 3) := by decide +kernel
theorem dX5_alike_4 : decode cX5_alike 4 = .ok (.ifCond .eq 10, 3) := by decide +kernel
theorem dX5_alike_7 : decode cX5_alike 7 = .ok (.iload_n 2, 1) := by decide +kernel
theorem dX5_alike_8 : decode cX5_alike 8 = .ok (.invokestatic 22, 3) := by decide +kernel
theorem dX5_alike_11 : decode cX5_alike 11 = .ok (.ifCond .ne 6, 3) := by decide +kernel
theorem dX5_alike_14 : decode cX5_alike 14 = .ok (.bipush (-2), 2) := by decide +kernel
theorem dX5_alike_16 : decode cX5_alike 16 = .ok (.ireturn, 1) := by decide +kernel
theorem dX5_alike_17 : decode cX5_alike 17 = .ok (.aload_n 0, 1) := by decide +kernel
theorem dX5_alike_18 : decode cX5_alike 18 = .ok (.getfield 11, 3) := by decide +kernel
theorem dX5_alike_21 : decode cX5_alike 21 = .ok (.iload_n 1, 1) := by decide +kernel
theorem dX5_alike_22 : decode cX5_alike 22 = .ok (.aaload, 1) := by decide +kernel
theorem dX5_alike_23 : decode cX5_alike 23 = .ok (.astore_n 3, 1) := by decide +kernel
theorem dX5_alike_24 : decode cX5_alike 24 = .ok (.aload_n 0, 1) := by decide +kernel
theorem dX5_alike_25 : decode cX5_alike 25 = .ok (.getfield 11, 3) := by decide +kernel
theorem dX5_alike_28 : decode cX5_alike 28 = .ok (.iload_n 2, 1) := by decide +kernel
theorem dX5_alike_29 : decode cX5_alike 29 = .ok (.aaload, 1) := by decide +kernel
theorem dX5_alike_30 : decode cX5_alike 30 = .ok (.astore 4, 2) := by decide +kernel
theorem dX5_alike_32 : decode cX5_alike 32 = .ok (.aload_n 3, 1) := by decide +kernel
theorem dX5_alike_33 : decode cX5_alike 33 = .ok (.aload 4, 2) := by decide +kernel
theorem dX5_alike_35 : decode cX5_alike 35 = .ok (.if_acmp .ne 5, 3) := by decide +kernel
theorem dX5_alike_38 : decode cX5_alike 38 = .ok (.iconst 2, 1) := by decide +kernel
theorem dX5_alike_39 : decode cX5_alike 39 = .ok (.ireturn, 1) := by decide +kernel
theorem dX5_alike_40 : decode cX5_alike 40 = .ok (.aload_n 3, 1) := by decide +kernel
theorem dX5_alike_41 : decode cX5_alike 41 = .ok (.aload 4, 2) := by decide +kernel
theorem dX5_alike_43 : decode cX5_alike 43 = .ok (.iconst 3, 1) := by decide +kernel
theorem dX5_alike_44 : decode cX5_alike 44 = .ok (.invokestatic 130, 3) := by decide +kernel
theorem dX5_alike_47 : decode cX5_alike 47 = .ok (.ifCond .eq 7, 3) := by decide +kernel
theorem dX5_alike_50 : decode cX5_alike 50 = .ok (.iconst 1, 1) := by decide +kernel
theorem dX5_alike_51 : decode cX5_alike 51 = .ok (.goto 4, 3) := by decide +kernel
theorem dX5_alike_54 : decode cX5_alike 54 = .ok (.iconst 0, 1) := by decide +kernel
theorem dX5_alike_55 : decode cX5_alike 55 = .ok (.ireturn, 1) := by decide +kernel
theorem dX5_trouble_0 : decode cX5_trouble 0 = .ok (.iload_n 1, 1) := by decide +kernel
theorem dX5_trouble_1 : decode cX5_trouble 1 = .ok (.invokestatic 134, 3) := by decide +kernel
theorem dX5_trouble_4 : decode cX5_trouble 4 = .ok (.ifCond .eq 8, 3) := by decide +kernel
theorem dX5_trouble_7 : decode cX5_trouble 7 = .ok (.iload_n 2, 1) := by decide +kernel
theorem dX5_trouble_8 : decode cX5_trouble 8 = .ok (.iconst (-1), 1) := by decide +kernel
theorem dX5_trouble_9 : decode cX5_trouble 9 = .ok (.if_icmp .ge 6, 3) := by decide +kernel
theorem dX5_trouble_12 : decode cX5_trouble 12 = .ok (.bipush (-2), 2) := by decide +kernel
theorem dX5_trouble_14 : decode cX5_trouble 14 = .ok (.ireturn, 1) := by decide +kernel
theorem dX5_trouble_15 : decode cX5_trouble 15 = .ok (.aload_n 0, 1) := by decide +kernel
theorem dX5_trouble_16 : decode cX5_trouble 16 = .ok (.getfield 15, 3) := by decide +kernel
theorem dX5_trouble_19 : decode cX5_trouble 19 = .ok (.iload_n 1, 1) := by decide +kernel
theorem dX5_trouble_20 : decode cX5_trouble 20 = .ok (.iaload, 1) := by decide +kernel
theorem dX5_trouble_21 : decode cX5_trouble 21 = .ok (.istore_n 3, 1) := by decide +kernel
theorem dX5_trouble_22 : decode cX5_trouble 22 = .ok (.aload_n 0, 1) := by decide +kernel
theorem dX5_trouble_23 : decode cX5_trouble 23 = .ok (.getfield 15, 3) := by decide +kernel
theorem dX5_trouble_26 : decode cX5_trouble 26 = .ok (.iload_n 1, 1) := by decide +kernel
theorem dX5_trouble_27 : decode cX5_trouble 27 = .ok (.iload_n 2, 1) := by decide +kernel
theorem dX5_trouble_28 : decode cX5_trouble 28 = .ok (.iastore, 1) := by decide +kernel
theorem dX5_trouble_29 : decode cX5_trouble 29 = .ok (.iload_n 3, 1) := by decide +kernel
theorem dX5_trouble_30 : decode cX5_trouble 30 = .ok (.ireturn, 1) := by decide +kernel
theorem dX5_raise_0 : decode cX5_raise 0 = .ok (.iload_n 1, 1) := by decide +kernel
theorem dX5_raise_1 : decode cX5_raise 1 = .ok (.invokestatic 134, 3) := by decide +kernel
theorem dX5_raise_4 : decode cX5_raise 4 = .ok (.ifCond .eq 14, 3) := by decide +kernel
theorem dX5_raise_7 : decode cX5_raise 7 = .ok (.iload_n 2, 1) := by decide +kernel
theorem dX5_raise_8 : decode cX5_raise 8 = .ok (.iconst 1, 1) := by decide +kernel
theorem dX5_raise_9 : decode cX5_raise 9 = .ok (.if_icmp .lt 9, 3) := by decide +kernel
theorem dX5_raise_12 : decode cX5_raise 12 = .ok (.iload_n 2, 1) := by decide +kernel
theorem dX5_raise_13 : decode cX5_raise 13 = .ok (.bipush 8, 2) := by decide +kernel
theorem dX5_raise_15 : decode cX5_raise 15 = .ok (.if_icmp .le 6, 3) := by decide +kernel
theorem dX5_raise_18 : decode cX5_raise 18 = .ok (.bipush (-2), 2) := by decide +kernel
theorem dX5_raise_20 : decode cX5_raise 20 = .ok (.ireturn, 1) := by decide +kernel
theorem dX5_raise_21 : decode cX5_raise 21 = .ok (.aload_n 0, 1) := by decide +kernel
theorem dX5_raise_22 : decode cX5_raise 22 = .ok (.iconst 0, 1) := by decide +kernel
theorem dX5_raise_23 : decode cX5_raise 23 = .ok (.putfield 137, 3) := by decide +kernel
theorem dX5_raise_26 : decode cX5_raise 26 = .ok (.iload_n 2, 1) := by decide +kernel
theorem dX5_raise_27 : decode cX5_raise 27 = .ok (.istore_n 3, 1) := by decide +kernel
theorem dX5_raise_28 : decode cX5_raise 28 = .ok (.iload_n 3, 1) := by decide +kernel
theorem dX5_raise_29 : decode cX5_raise 29 = .ok (.iconst 1, 1) := by decide +kernel
theorem dX5_raise_30 : decode cX5_raise 30 = .ok (.if_icmp .lt 22, 3) := by decide +kernel
theorem dX5_raise_33 : decode cX5_raise 33 = .ok (.aload_n 0, 1) := by decide +kernel
theorem dX5_raise_34 : decode cX5_raise 34 = .ok (.aload_n 0, 1) := by decide +kernel
theorem dX5_raise_35 : decode cX5_raise 35 = .ok (.getfield 137, 3) := by decide +kernel
theorem dX5_raise_38 : decode cX5_raise 38 = .ok (.bipush 10, 2) := by decide +kernel
theorem dX5_raise_40 : decode cX5_raise 40 = .ok (.imul, 1) := by decide +kernel
theorem dX5_raise_41 : decode cX5_raise 41 = .ok (.iload_n 3, 1) := by decide +kernel
theorem dX5_raise_42 : decode cX5_raise 42 = .ok (.iadd, 1) := by decide +kernel
theorem dX5_raise_43 : decode cX5_raise 43 = .ok (.putfield 137, 3) := by decide +kernel
theorem dX5_raise_46 : decode cX5_raise 46 = .ok (.iinc 3 (-1), 3) := by decide +kernel
theorem dX5_raise_49 : decode cX5_raise 49 = .ok (.goto (-21), 3) := by decide +kernel
theorem dX5_raise_52 : decode cX5_raise 52 = .ok (.aload_n 0, 1) := by decide +kernel
theorem dX5_raise_53 : decode cX5_raise 53 = .ok (.aload_n 0, 1) := by decide +kernel
theorem dX5_raise_54 : decode cX5_raise 54 = .ok (.getfield 15, 3) := by decide +kernel
theorem dX5_raise_57 : decode cX5_raise 57 = .ok (.iload_n 1, 1) := by decide +kernel
theorem dX5_raise_58 : decode cX5_raise 58 = .ok (.iaload, 1) := by decide +kernel
theorem dX5_raise_59 : decode cX5_raise 59 = .ok (.putfield 140, 3) := by decide +kernel
theorem dX5_raise_62 : decode cX5_raise 62 = .ok (.aload_n 0, 1) := by decide +kernel
theorem dX5_raise_63 : decode cX5_raise 63 = .ok (.getfield 140, 3) := by decide +kernel
theorem dX5_raise_66 : decode cX5_raise 66 = .ok (.iconst (-1), 1) := by decide +kernel
theorem dX5_raise_67 : decode cX5_raise 67 = .ok (.if_icmp .eq 8, 3) := by decide +kernel
theorem dX5_raise_70 : decode cX5_raise 70 = .ok (.bipush 6, 2) := by decide +kernel
theorem dX5_raise_72 : decode cX5_raise 72 = .ok (.goto 4, 3) := by decide +kernel
theorem dX5_raise_75 : decode cX5_raise 75 = .ok (.iconst 1, 1) := by decide +kernel
theorem dX5_raise_76 : decode cX5_raise 76 = .ok (.invokestatic 34, 3) := by decide +kernel
theorem dX5_raise_79 : decode cX5_raise 79 = .ok (.ireturn, 1) := by decide +kernel
theorem dX5_passed_0 : decode cX5_passed 0 = .ok (.aload_n 0, 1) := by decide +kernel
theorem dX5_passed_1 : decode cX5_passed 1 = .ok (.getfield 137, 3) := by decide +kernel
theorem dX5_passed_4 : decode cX5_passed 4 = .ok (.ireturn, 1) := by decide +kernel
theorem dX5_number_0 : decode cX5_number 0 = .ok (.aload_n 0, 1) := by decide +kernel
theorem dX5_number_1 : decode cX5_number 1 = .ok (.getfield 140, 3) := by decide +kernel
theorem dX5_number_4 : decode cX5_number 4 = .ok (.ireturn, 1) := by decide +kernel
theorem dX5_fault_0 : decode cX5_fault 0 = .ok (.aload_n 0, 1) := by decide +kernel
theorem dX5_fault_1 : decode cX5_fault 1 = .ok (.getfield 143, 3) := by decide +kernel
theorem dX5_fault_4 : decode cX5_fault 4 = .ok (.ireturn, 1) := by decide +kernel
theorem dX5_clear_0 : decode cX5_clear 0 = .ok (.aload_n 0, 1) := by decide +kernel
theorem dX5_clear_1 : decode cX5_clear 1 = .ok (.invokevirtual 146, 3) := by decide +kernel
theorem dX5_clear_4 : decode cX5_clear 4 = .ok (.istore_n 1, 1) := by decide +kernel
theorem dX5_clear_5 : decode cX5_clear 5 = .ok (.aload_n 0, 1) := by decide +kernel
theorem dX5_clear_6 : decode cX5_clear 6 = .ok (.invokevirtual 19, 3) := by decide +kernel
theorem dX5_clear_9 : decode cX5_clear 9 = .ok (.iload_n 1, 1) := by decide +kernel
theorem dX5_clear_10 : decode cX5_clear 10 = .ok (.ireturn, 1) := by decide +kernel
theorem dX5_told_0 : decode cX5_told 0 = .ok (.iload_n 1, 1) := by decide +kernel
theorem dX5_told_1 : decode cX5_told 1 = .ok (.tableswitch 42 0 2 #[27, 32, 37], 27) := by decide +kernel
theorem dX5_told_28 : decode cX5_told 28 = .ok (.aload_n 0, 1) := by decide +kernel
theorem dX5_told_29 : decode cX5_told 29 = .ok (.invokevirtual 146, 3) := by decide +kernel
theorem dX5_told_32 : decode cX5_told 32 = .ok (.ireturn, 1) := by decide +kernel
theorem dX5_told_33 : decode cX5_told 33 = .ok (.aload_n 0, 1) := by decide +kernel
theorem dX5_told_34 : decode cX5_told 34 = .ok (.getfield 149, 3) := by decide +kernel
theorem dX5_told_37 : decode cX5_told 37 = .ok (.ireturn, 1) := by decide +kernel
theorem dX5_told_38 : decode cX5_told 38 = .ok (.aload_n 0, 1) := by decide +kernel
theorem dX5_told_39 : decode cX5_told 39 = .ok (.getfield 80, 3) := by decide +kernel
theorem dX5_told_42 : decode cX5_told 42 = .ok (.ireturn, 1) := by decide +kernel
theorem dX5_told_43 : decode cX5_told 43 = .ok (.bipush (-2), 2) := by decide +kernel
theorem dX5_told_45 : decode cX5_told 45 = .ok (.ireturn, 1) := by decide +kernel
theorem dX5_begin_0 : decode cX5_begin 0 = .ok (.iconst 0, 1) := by decide +kernel
theorem dX5_begin_1 : decode cX5_begin 1 = .ok (.istore_n 1, 1) := by decide +kernel
theorem dX5_begin_2 : decode cX5_begin 2 = .ok (.iload_n 1, 1) := by decide +kernel
theorem dX5_begin_3 : decode cX5_begin 3 = .ok (.bipush 16, 2) := by decide +kernel
theorem dX5_begin_5 : decode cX5_begin 5 = .ok (.if_icmp .ge 16, 3) := by decide +kernel
theorem dX5_begin_8 : decode cX5_begin 8 = .ok (.aload_n 0, 1) := by decide +kernel
theorem dX5_begin_9 : decode cX5_begin 9 = .ok (.getfield 11, 3) := by decide +kernel
theorem dX5_begin_12 : decode cX5_begin 12 = .ok (.iload_n 1, 1) := by decide +kernel
theorem dX5_begin_13 : decode cX5_begin 13 = .ok (.aconst_null, 1) := by decide +kernel
theorem dX5_begin_14 : decode cX5_begin 14 = .ok (.aastore, 1) := by decide +kernel
theorem dX5_begin_15 : decode cX5_begin 15 = .ok (.iinc 1 1, 3) := by decide +kernel
theorem dX5_begin_18 : decode cX5_begin 18 = .ok (.goto (-16), 3) := by decide +kernel
theorem dX5_begin_21 : decode cX5_begin 21 = .ok (.iconst 0, 1) := by decide +kernel
theorem dX5_begin_22 : decode cX5_begin 22 = .ok (.istore_n 1, 1) := by decide +kernel
theorem dX5_begin_23 : decode cX5_begin 23 = .ok (.iload_n 1, 1) := by decide +kernel
theorem dX5_begin_24 : decode cX5_begin 24 = .ok (.bipush 8, 2) := by decide +kernel
theorem dX5_begin_26 : decode cX5_begin 26 = .ok (.if_icmp .ge 16, 3) := by decide +kernel
theorem dX5_begin_29 : decode cX5_begin 29 = .ok (.aload_n 0, 1) := by decide +kernel
theorem dX5_begin_30 : decode cX5_begin 30 = .ok (.getfield 15, 3) := by decide +kernel
theorem dX5_begin_33 : decode cX5_begin 33 = .ok (.iload_n 1, 1) := by decide +kernel
theorem dX5_begin_34 : decode cX5_begin 34 = .ok (.iconst (-1), 1) := by decide +kernel
theorem dX5_begin_35 : decode cX5_begin 35 = .ok (.iastore, 1) := by decide +kernel
theorem dX5_begin_36 : decode cX5_begin 36 = .ok (.iinc 1 1, 3) := by decide +kernel
theorem dX5_begin_39 : decode cX5_begin 39 = .ok (.goto (-16), 3) := by decide +kernel
theorem dX5_begin_42 : decode cX5_begin 42 = .ok (.aload_n 0, 1) := by decide +kernel
theorem dX5_begin_43 : decode cX5_begin 43 = .ok (.iconst 0, 1) := by decide +kernel
theorem dX5_begin_44 : decode cX5_begin 44 = .ok (.putfield 137, 3) := by decide +kernel
theorem dX5_begin_47 : decode cX5_begin 47 = .ok (.aload_n 0, 1) := by decide +kernel
theorem dX5_begin_48 : decode cX5_begin 48 = .ok (.iconst (-1), 1) := by decide +kernel
theorem dX5_begin_49 : decode cX5_begin 49 = .ok (.putfield 140, 3) := by decide +kernel
theorem dX5_begin_52 : decode cX5_begin 52 = .ok (.aload_n 0, 1) := by decide +kernel
theorem dX5_begin_53 : decode cX5_begin 53 = .ok (.iconst 0, 1) := by decide +kernel
theorem dX5_begin_54 : decode cX5_begin 54 = .ok (.putfield 143, 3) := by decide +kernel
theorem dX5_begin_57 : decode cX5_begin 57 = .ok (.return_, 1) := by decide +kernel
theorem dX5_heldColumns_0 : decode cX5_heldColumns 0 = .ok (.iconst 0, 1) := by decide +kernel
theorem dX5_heldColumns_1 : decode cX5_heldColumns 1 = .ok (.istore_n 1, 1) := by decide +kernel
theorem dX5_heldColumns_2 : decode cX5_heldColumns 2 = .ok (.iconst 0, 1) := by decide +kernel
theorem dX5_heldColumns_3 : decode cX5_heldColumns 3 = .ok (.istore_n 2, 1) := by decide +kernel
theorem dX5_heldColumns_4 : decode cX5_heldColumns 4 = .ok (.iload_n 2, 1) := by decide +kernel
theorem dX5_heldColumns_5 : decode cX5_heldColumns 5 = .ok (.bipush 16, 2) := by decide +kernel
theorem dX5_heldColumns_7 : decode cX5_heldColumns 7 = .ok (.if_icmp .ge 21, 3) := by decide +kernel
theorem dX5_heldColumns_10 : decode cX5_heldColumns 10 = .ok (.aload_n 0, 1) := by decide +kernel
theorem dX5_heldColumns_11 : decode cX5_heldColumns 11 = .ok (.getfield 11, 3) := by decide +kernel
theorem dX5_heldColumns_14 : decode cX5_heldColumns 14 = .ok (.iload_n 2, 1) := by decide +kernel
theorem dX5_heldColumns_15 : decode cX5_heldColumns 15 = .ok (.aaload, 1) := by decide +kernel
theorem dX5_heldColumns_16 : decode cX5_heldColumns 16 = .ok (.ifnull 6, 3) := by decide +kernel
theorem dX5_heldColumns_19 : decode cX5_heldColumns 19 = .ok (.iinc 1 1, 3) := by decide +kernel
theorem dX5_heldColumns_22 : decode cX5_heldColumns 22 = .ok (.iinc 2 1, 3) := by decide +kernel
theorem dX5_heldColumns_25 : decode cX5_heldColumns 25 = .ok (.goto (-21), 3) := by decide +kernel
theorem dX5_heldColumns_28 : decode cX5_heldColumns 28 = .ok (.iload_n 1, 1) := by decide +kernel
theorem dX5_heldColumns_29 : decode cX5_heldColumns 29 = .ok (.ireturn, 1) := by decide +kernel
theorem dX5_isFull_0 : decode cX5_isFull 0 = .ok (.aload_n 0, 1) := by decide +kernel
theorem dX5_isFull_1 : decode cX5_isFull 1 = .ok (.getfield 149, 3) := by decide +kernel
theorem dX5_isFull_4 : decode cX5_isFull 4 = .ok (.sipush 6000, 3) := by decide +kernel
theorem dX5_isFull_7 : decode cX5_isFull 7 = .ok (.if_icmp .lt 7, 3) := by decide +kernel
theorem dX5_isFull_10 : decode cX5_isFull 10 = .ok (.iconst 1, 1) := by decide +kernel
theorem dX5_isFull_11 : decode cX5_isFull 11 = .ok (.goto 4, 3) := by decide +kernel
theorem dX5_isFull_14 : decode cX5_isFull 14 = .ok (.iconst 0, 1) := by decide +kernel
theorem dX5_isFull_15 : decode cX5_isFull 15 = .ok (.ireturn, 1) := by decide +kernel
theorem dX5_isColumn_0 : decode cX5_isColumn 0 = .ok (.iload_n 0, 1) := by decide +kernel
theorem dX5_isColumn_1 : decode cX5_isColumn 1 = .ok (.ifCond .lt 13, 3) := by decide +kernel
theorem dX5_isColumn_4 : decode cX5_isColumn 4 = .ok (.iload_n 0, 1) := by decide +kernel
theorem dX5_isColumn_5 : decode cX5_isColumn 5 = .ok (.bipush 16, 2) := by decide +kernel
theorem dX5_isColumn_7 : decode cX5_isColumn 7 = .ok (.if_icmp .ge 7, 3) := by decide +kernel
theorem dX5_isColumn_10 : decode cX5_isColumn 10 = .ok (.iconst 1, 1) := by decide +kernel
theorem dX5_isColumn_11 : decode cX5_isColumn 11 = .ok (.goto 4, 3) := by decide +kernel
theorem dX5_isColumn_14 : decode cX5_isColumn 14 = .ok (.iconst 0, 1) := by decide +kernel
theorem dX5_isColumn_15 : decode cX5_isColumn 15 = .ok (.ireturn, 1) := by decide +kernel
theorem dX5_isTrouble_0 : decode cX5_isTrouble 0 = .ok (.iload_n 0, 1) := by decide +kernel
theorem dX5_isTrouble_1 : decode cX5_isTrouble 1 = .ok (.ifCond .lt 13, 3) := by decide +kernel
theorem dX5_isTrouble_4 : decode cX5_isTrouble 4 = .ok (.iload_n 0, 1) := by decide +kernel
theorem dX5_isTrouble_5 : decode cX5_isTrouble 5 = .ok (.bipush 8, 2) := by decide +kernel
theorem dX5_isTrouble_7 : decode cX5_isTrouble 7 = .ok (.if_icmp .ge 7, 3) := by decide +kernel
theorem dX5_isTrouble_10 : decode cX5_isTrouble 10 = .ok (.iconst 1, 1) := by decide +kernel
theorem dX5_isTrouble_11 : decode cX5_isTrouble 11 = .ok (.goto 4, 3) := by decide +kernel
theorem dX5_isTrouble_14 : decode cX5_isTrouble 14 = .ok (.iconst 0, 1) := by decide +kernel
theorem dX5_isTrouble_15 : decode cX5_isTrouble 15 = .ok (.ireturn, 1) := by decide +kernel
theorem dX5_isKind_0 : decode cX5_isKind 0 = .ok (.iload_n 0, 1) := by decide +kernel
theorem dX5_isKind_1 : decode cX5_isKind 1 = .ok (.iload_n 1, 1) := by decide +kernel
theorem dX5_isKind_2 : decode cX5_isKind 2 = .ok (.if_icmp .lt 12, 3) := by decide +kernel
theorem dX5_isKind_5 : decode cX5_isKind 5 = .ok (.iload_n 0, 1) := by decide +kernel
theorem dX5_isKind_6 : decode cX5_isKind 6 = .ok (.iload_n 2, 1) := by decide +kernel
theorem dX5_isKind_7 : decode cX5_isKind 7 = .ok (.if_icmp .gt 7, 3) := by decide +kernel
theorem dX5_isKind_10 : decode cX5_isKind 10 = .ok (.iconst 1, 1) := by decide +kernel
theorem dX5_isKind_11 : decode cX5_isKind 11 = .ok (.goto 4, 3) := by decide +kernel
theorem dX5_isKind_14 : decode cX5_isKind 14 = .ok (.iconst 0, 1) := by decide +kernel
theorem dX5_isKind_15 : decode cX5_isKind 15 = .ok (.ireturn, 1) := by decide +kernel
theorem dX5_isTooDeep_0 : decode cX5_isTooDeep 0 = .ok (.iload_n 0, 1) := by decide +kernel
theorem dX5_isTooDeep_1 : decode cX5_isTooDeep 1 = .ok (.bipush 30, 2) := by decide +kernel
theorem dX5_isTooDeep_3 : decode cX5_isTooDeep 3 = .ok (.if_icmp .gt 15, 3) := by decide +kernel
theorem dX5_isTooDeep_6 : decode cX5_isTooDeep 6 = .ok (.iload_n 1, 1) := by decide +kernel
theorem dX5_isTooDeep_7 : decode cX5_isTooDeep 7 = .ok (.bipush 30, 2) := by decide +kernel
theorem dX5_isTooDeep_9 : decode cX5_isTooDeep 9 = .ok (.if_icmp .gt 9, 3) := by decide +kernel
theorem dX5_isTooDeep_12 : decode cX5_isTooDeep 12 = .ok (.iload_n 2, 1) := by decide +kernel
theorem dX5_isTooDeep_13 : decode cX5_isTooDeep 13 = .ok (.bipush 30, 2) := by decide +kernel
theorem dX5_isTooDeep_15 : decode cX5_isTooDeep 15 = .ok (.if_icmp .le 5, 3) := by decide +kernel
theorem dX5_isTooDeep_18 : decode cX5_isTooDeep 18 = .ok (.iconst 1, 1) := by decide +kernel
theorem dX5_isTooDeep_19 : decode cX5_isTooDeep 19 = .ok (.ireturn, 1) := by decide +kernel
theorem dX5_isTooDeep_20 : decode cX5_isTooDeep 20 = .ok (.iload_n 0, 1) := by decide +kernel
theorem dX5_isTooDeep_21 : decode cX5_isTooDeep 21 = .ok (.iconst 0, 1) := by decide +kernel
theorem dX5_isTooDeep_22 : decode cX5_isTooDeep 22 = .ok (.invokestatic 152, 3) := by decide +kernel
theorem dX5_isTooDeep_25 : decode cX5_isTooDeep 25 = .ok (.iload_n 1, 1) := by decide +kernel
theorem dX5_isTooDeep_26 : decode cX5_isTooDeep 26 = .ok (.iconst 0, 1) := by decide +kernel
theorem dX5_isTooDeep_27 : decode cX5_isTooDeep 27 = .ok (.invokestatic 152, 3) := by decide +kernel
theorem dX5_isTooDeep_30 : decode cX5_isTooDeep 30 = .ok (.imul, 1) := by decide +kernel
theorem dX5_isTooDeep_31 : decode cX5_isTooDeep 31 = .ok (.iload_n 2, 1) := by decide +kernel
theorem dX5_isTooDeep_32 : decode cX5_isTooDeep 32 = .ok (.iconst 0, 1) := by decide +kernel
theorem dX5_isTooDeep_33 : decode cX5_isTooDeep 33 = .ok (.invokestatic 152, 3) := by decide +kernel
theorem dX5_isTooDeep_36 : decode cX5_isTooDeep 36 = .ok (.imul, 1) := by decide +kernel
theorem dX5_isTooDeep_37 : decode cX5_isTooDeep 37 = .ok (.sipush 400, 3) := by decide +kernel
theorem dX5_isTooDeep_40 : decode cX5_isTooDeep 40 = .ok (.if_icmp .le 7, 3) := by decide +kernel
theorem dX5_isTooDeep_43 : decode cX5_isTooDeep 43 = .ok (.iconst 1, 1) := by decide +kernel
theorem dX5_isTooDeep_44 : decode cX5_isTooDeep 44 = .ok (.goto 4, 3) := by decide +kernel
theorem dX5_isTooDeep_47 : decode cX5_isTooDeep 47 = .ok (.iconst 0, 1) := by decide +kernel
theorem dX5_isTooDeep_48 : decode cX5_isTooDeep 48 = .ok (.ireturn, 1) := by decide +kernel
theorem dX5_against_0 : decode cX5_against 0 = .ok (.bipush (-10), 2) := by decide +kernel
theorem dX5_against_2 : decode cX5_against 2 = .ok (.iload_n 0, 1) := by decide +kernel
theorem dX5_against_3 : decode cX5_against 3 = .ok (.isub, 1) := by decide +kernel
theorem dX5_against_4 : decode cX5_against 4 = .ok (.ireturn, 1) := by decide +kernel
theorem dX5_noBits_0 : decode cX5_noBits 0 = .ok (.aload_n 0, 1) := by decide +kernel
theorem dX5_noBits_1 : decode cX5_noBits 1 = .ok (.iload_n 1, 1) := by decide +kernel
theorem dX5_noBits_2 : decode cX5_noBits 2 = .ok (.putfield 143, 3) := by decide +kernel
theorem dX5_noBits_5 : decode cX5_noBits 5 = .ok (.lconst 0, 1) := by decide +kernel
theorem dX5_noBits_6 : decode cX5_noBits 6 = .ok (.lreturn, 1) := by decide +kernel
theorem dX5_newTable_0 : decode cX5_newTable 0 = .ok (.aload_n 0, 1) := by decide +kernel
theorem dX5_newTable_1 : decode cX5_newTable 1 = .ok (.dup, 1) := by decide +kernel
theorem dX5_newTable_2 : decode cX5_newTable 2 = .ok (.getfield 149, 3) := by decide +kernel
theorem dX5_newTable_5 : decode cX5_newTable 5 = .ok (.iload_n 2, 1) := by decide +kernel
theorem dX5_newTable_6 : decode cX5_newTable 6 = .ok (.iadd, 1) := by decide +kernel
theorem dX5_newTable_7 : decode cX5_newTable 7 = .ok (.putfield 149, 3) := by decide +kernel
theorem dX5_newTable_10 : decode cX5_newTable 10 = .ok (.iload_n 1, 1) := by decide +kernel
theorem dX5_newTable_11 : decode cX5_newTable 11 = .ok (.iconst 0, 1) := by decide +kernel
theorem dX5_newTable_12 : decode cX5_newTable 12 = .ok (.bipush 7, 2) := by decide +kernel
theorem dX5_newTable_14 : decode cX5_newTable 14 = .ok (.invokestatic 26, 3) := by decide +kernel
theorem dX5_newTable_17 : decode cX5_newTable 17 = .ok (.ifCond .eq 15, 3) := by decide +kernel
theorem dX5_newTable_20 : decode cX5_newTable 20 = .ok (.new 125, 3) := by decide +kernel
theorem dX5_newTable_23 : decode cX5_newTable 23 = .ok (.dup, 1) := by decide +kernel
theorem dX5_newTable_24 : decode cX5_newTable 24 = .ok (.iload_n 1, 1) := by decide +kernel
theorem dX5_newTable_25 : decode cX5_newTable 25 = .ok (.iload_n 2, 1) := by decide +kernel
theorem dX5_newTable_26 : decode cX5_newTable 26 = .ok (.invokespecial 155, 3) := by decide +kernel
theorem dX5_newTable_29 : decode cX5_newTable 29 = .ok (.goto 12, 3) := by decide +kernel
theorem dX5_newTable_32 : decode cX5_newTable 32 = .ok (.new 158, 3) := by decide +kernel
theorem dX5_newTable_35 : decode cX5_newTable 35 = .ok (.dup, 1) := by decide +kernel
theorem dX5_newTable_36 : decode cX5_newTable 36 = .ok (.iload_n 1, 1) := by decide +kernel
theorem dX5_newTable_37 : decode cX5_newTable 37 = .ok (.iload_n 2, 1) := by decide +kernel
theorem dX5_newTable_38 : decode cX5_newTable 38 = .ok (.invokespecial 160, 3) := by decide +kernel
theorem dX5_newTable_41 : decode cX5_newTable 41 = .ok (.areturn, 1) := by decide +kernel
theorem dX5_newDeepTable_0 : decode cX5_newDeepTable 0 = .ok (.aload_n 0, 1) := by decide +kernel
theorem dX5_newDeepTable_1 : decode cX5_newDeepTable 1 = .ok (.iload_n 1, 1) := by decide +kernel
theorem dX5_newDeepTable_2 : decode cX5_newDeepTable 2 = .ok (.iload_n 2, 1) := by decide +kernel
theorem dX5_newDeepTable_3 : decode cX5_newDeepTable 3 = .ok (.invokevirtual 38, 3) := by decide +kernel
theorem dX5_newDeepTable_6 : decode cX5_newDeepTable 6 = .ok (.astore 5, 2) := by decide +kernel
theorem dX5_newDeepTable_8 : decode cX5_newDeepTable 8 = .ok (.iconst 0, 1) := by decide +kernel
theorem dX5_newDeepTable_9 : decode cX5_newDeepTable 9 = .ok (.istore 6, 2) := by decide +kernel
theorem dX5_newDeepTable_11 : decode cX5_newDeepTable 11 = .ok (.iload 6, 2) := by decide +kernel
theorem dX5_newDeepTable_13 : decode cX5_newDeepTable 13 = .ok (.iload_n 2, 1) := by decide +kernel
theorem dX5_newDeepTable_14 : decode cX5_newDeepTable 14 = .ok (.if_icmp .ge 44, 3) := by decide +kernel
theorem dX5_newDeepTable_17 : decode cX5_newDeepTable 17 = .ok (.aload_n 0, 1) := by decide +kernel
theorem dX5_newDeepTable_18 : decode cX5_newDeepTable 18 = .ok (.iload_n 1, 1) := by decide +kernel
theorem dX5_newDeepTable_19 : decode cX5_newDeepTable 19 = .ok (.invokestatic 112, 3) := by decide +kernel
theorem dX5_newDeepTable_22 : decode cX5_newDeepTable 22 = .ok (.iload_n 3, 1) := by decide +kernel
theorem dX5_newDeepTable_23 : decode cX5_newDeepTable 23 = .ok (.invokevirtual 38, 3) := by decide +kernel
theorem dX5_newDeepTable_26 : decode cX5_newDeepTable 26 = .ok (.astore 7, 2) := by decide +kernel
theorem dX5_newDeepTable_28 : decode cX5_newDeepTable 28 = .ok (.aload 5, 2) := by decide +kernel
theorem dX5_newDeepTable_30 : decode cX5_newDeepTable 30 = .ok (.iload 6, 2) := by decide +kernel
theorem dX5_newDeepTable_32 : decode cX5_newDeepTable 32 = .ok (.aload 7, 2) := by decide +kernel
theorem dX5_newDeepTable_34 : decode cX5_newDeepTable 34 = .ok (.invokestatic 87, 3) := by decide +kernel
theorem dX5_newDeepTable_37 : decode cX5_newDeepTable 37 = .ok (.pop, 1) := by decide +kernel
theorem dX5_newDeepTable_38 : decode cX5_newDeepTable 38 = .ok (.iload_n 1, 1) := by decide +kernel
theorem dX5_newDeepTable_39 : decode cX5_newDeepTable 39 = .ok (.bipush 13, 2) := by decide +kernel
theorem dX5_newDeepTable_41 : decode cX5_newDeepTable 41 = .ok (.if_icmp .ne 11, 3) := by decide +kernel
theorem dX5_newDeepTable_44 : decode cX5_newDeepTable 44 = .ok (.aload_n 0, 1) := by decide +kernel
theorem dX5_newDeepTable_45 : decode cX5_newDeepTable 45 = .ok (.aload 7, 2) := by decide +kernel
theorem dX5_newDeepTable_47 : decode cX5_newDeepTable 47 = .ok (.iload 4, 2) := by decide +kernel
theorem dX5_newDeepTable_49 : decode cX5_newDeepTable 49 = .ok (.invokevirtual 161, 3) := by decide +kernel
theorem dX5_newDeepTable_52 : decode cX5_newDeepTable 52 = .ok (.iinc 6 1, 3) := by decide +kernel
theorem dX5_newDeepTable_55 : decode cX5_newDeepTable 55 = .ok (.goto (-44), 3) := by decide +kernel
theorem dX5_newDeepTable_58 : decode cX5_newDeepTable 58 = .ok (.aload 5, 2) := by decide +kernel
theorem dX5_newDeepTable_60 : decode cX5_newDeepTable 60 = .ok (.areturn, 1) := by decide +kernel
theorem dX5_placeNewRows_0 : decode cX5_placeNewRows 0 = .ok (.iconst 0, 1) := by decide +kernel
theorem dX5_placeNewRows_1 : decode cX5_placeNewRows 1 = .ok (.istore_n 3, 1) := by decide +kernel
theorem dX5_placeNewRows_2 : decode cX5_placeNewRows 2 = .ok (.iload_n 3, 1) := by decide +kernel
theorem dX5_placeNewRows_3 : decode cX5_placeNewRows 3 = .ok (.aload_n 1, 1) := by decide +kernel
theorem dX5_placeNewRows_4 : decode cX5_placeNewRows 4 = .ok (.invokevirtual 64, 3) := by decide +kernel
theorem dX5_placeNewRows_7 : decode cX5_placeNewRows 7 = .ok (.if_icmp .ge 21, 3) := by decide +kernel
theorem dX5_placeNewRows_10 : decode cX5_placeNewRows 10 = .ok (.aload_n 1, 1) := by decide +kernel
theorem dX5_placeNewRows_11 : decode cX5_placeNewRows 11 = .ok (.iload_n 3, 1) := by decide +kernel
theorem dX5_placeNewRows_12 : decode cX5_placeNewRows 12 = .ok (.aload_n 0, 1) := by decide +kernel
theorem dX5_placeNewRows_13 : decode cX5_placeNewRows 13 = .ok (.iconst 4, 1) := by decide +kernel
theorem dX5_placeNewRows_14 : decode cX5_placeNewRows 14 = .ok (.iload_n 2, 1) := by decide +kernel
theorem dX5_placeNewRows_15 : decode cX5_placeNewRows 15 = .ok (.invokevirtual 38, 3) := by decide +kernel
theorem dX5_placeNewRows_18 : decode cX5_placeNewRows 18 = .ok (.invokestatic 87, 3) := by decide +kernel
theorem dX5_placeNewRows_21 : decode cX5_placeNewRows 21 = .ok (.pop, 1) := by decide +kernel
theorem dX5_placeNewRows_22 : decode cX5_placeNewRows 22 = .ok (.iinc 3 1, 3) := by decide +kernel
theorem dX5_placeNewRows_25 : decode cX5_placeNewRows 25 = .ok (.goto (-23), 3) := by decide +kernel
theorem dX5_placeNewRows_28 : decode cX5_placeNewRows 28 = .ok (.return_, 1) := by decide +kernel
theorem dX5_newThing_0 : decode cX5_newThing 0 = .ok (.aload_n 0, 1) := by decide +kernel
theorem dX5_newThing_1 : decode cX5_newThing 1 = .ok (.dup, 1) := by decide +kernel
theorem dX5_newThing_2 : decode cX5_newThing 2 = .ok (.getfield 80, 3) := by decide +kernel
theorem dX5_newThing_5 : decode cX5_newThing 5 = .ok (.iconst 1, 1) := by decide +kernel
theorem dX5_newThing_6 : decode cX5_newThing 6 = .ok (.iadd, 1) := by decide +kernel
theorem dX5_newThing_7 : decode cX5_newThing 7 = .ok (.putfield 80, 3) := by decide +kernel
theorem dX5_newThing_10 : decode cX5_newThing 10 = .ok (.new 99, 3) := by decide +kernel
theorem dX5_newThing_13 : decode cX5_newThing 13 = .ok (.dup, 1) := by decide +kernel
theorem dX5_newThing_14 : decode cX5_newThing 14 = .ok (.iload_n 1, 1) := by decide +kernel
theorem dX5_newThing_15 : decode cX5_newThing 15 = .ok (.iload_n 2, 1) := by decide +kernel
theorem dX5_newThing_16 : decode cX5_newThing 16 = .ok (.invokespecial 165, 3) := by decide +kernel
theorem dX5_newThing_19 : decode cX5_newThing 19 = .ok (.areturn, 1) := by decide +kernel
theorem dX5_twinOf_0 : decode cX5_twinOf 0 = .ok (.aload_n 1, 1) := by decide +kernel
theorem dX5_twinOf_1 : decode cX5_twinOf 1 = .ok (.ifnull 7, 3) := by decide +kernel
theorem dX5_twinOf_4 : decode cX5_twinOf 4 = .ok (.iload_n 2, 1) := by decide +kernel
theorem dX5_twinOf_5 : decode cX5_twinOf 5 = .ok (.ifCond .ne 5, 3) := by decide +kernel
theorem dX5_twinOf_8 : decode cX5_twinOf 8 = .ok (.aconst_null, 1) := by decide +kernel
theorem dX5_twinOf_9 : decode cX5_twinOf 9 = .ok (.areturn, 1) := by decide +kernel
theorem dX5_twinOf_10 : decode cX5_twinOf 10 = .ok (.aload_n 1, 1) := by decide +kernel
theorem dX5_twinOf_11 : decode cX5_twinOf 11 = .ok (.getfield 168, 3) := by decide +kernel
theorem dX5_twinOf_14 : decode cX5_twinOf 14 = .ok (.aload_n 0, 1) := by decide +kernel
theorem dX5_twinOf_15 : decode cX5_twinOf 15 = .ok (.getfield 49, 3) := by decide +kernel
theorem dX5_twinOf_18 : decode cX5_twinOf 18 = .ok (.if_icmp .ne 8, 3) := by decide +kernel
theorem dX5_twinOf_21 : decode cX5_twinOf 21 = .ok (.aload_n 1, 1) := by decide +kernel
theorem dX5_twinOf_22 : decode cX5_twinOf 22 = .ok (.getfield 171, 3) := by decide +kernel
theorem dX5_twinOf_25 : decode cX5_twinOf 25 = .ok (.areturn, 1) := by decide +kernel
theorem dX5_twinOf_26 : decode cX5_twinOf 26 = .ok (.aload_n 0, 1) := by decide +kernel
theorem dX5_twinOf_27 : decode cX5_twinOf 27 = .ok (.aload_n 1, 1) := by decide +kernel
theorem dX5_twinOf_28 : decode cX5_twinOf 28 = .ok (.getfield 57, 3) := by decide +kernel
theorem dX5_twinOf_31 : decode cX5_twinOf 31 = .ok (.aload_n 1, 1) := by decide +kernel
theorem dX5_twinOf_32 : decode cX5_twinOf 32 = .ok (.invokevirtual 64, 3) := by decide +kernel
theorem dX5_twinOf_35 : decode cX5_twinOf 35 = .ok (.invokevirtual 38, 3) := by decide +kernel
theorem dX5_twinOf_38 : decode cX5_twinOf 38 = .ok (.astore_n 3, 1) := by decide +kernel
theorem dX5_twinOf_39 : decode cX5_twinOf 39 = .ok (.aload_n 1, 1) := by decide +kernel
theorem dX5_twinOf_40 : decode cX5_twinOf 40 = .ok (.aload_n 0, 1) := by decide +kernel
theorem dX5_twinOf_41 : decode cX5_twinOf 41 = .ok (.getfield 49, 3) := by decide +kernel
theorem dX5_twinOf_44 : decode cX5_twinOf 44 = .ok (.putfield 168, 3) := by decide +kernel
theorem dX5_twinOf_47 : decode cX5_twinOf 47 = .ok (.aload_n 1, 1) := by decide +kernel
theorem dX5_twinOf_48 : decode cX5_twinOf 48 = .ok (.aload_n 3, 1) := by decide +kernel
theorem dX5_twinOf_49 : decode cX5_twinOf 49 = .ok (.putfield 171, 3) := by decide +kernel
theorem dX5_twinOf_52 : decode cX5_twinOf 52 = .ok (.aload_n 1, 1) := by decide +kernel
theorem dX5_twinOf_53 : decode cX5_twinOf 53 = .ok (.iconst 0, 1) := by decide +kernel
theorem dX5_twinOf_54 : decode cX5_twinOf 54 = .ok (.aload_n 3, 1) := by decide +kernel
theorem dX5_twinOf_55 : decode cX5_twinOf 55 = .ok (.iconst 0, 1) := by decide +kernel
theorem dX5_twinOf_56 : decode cX5_twinOf 56 = .ok (.aload_n 1, 1) := by decide +kernel
theorem dX5_twinOf_57 : decode cX5_twinOf 57 = .ok (.invokevirtual 64, 3) := by decide +kernel
theorem dX5_twinOf_60 : decode cX5_twinOf 60 = .ok (.invokestatic 121, 3) := by decide +kernel
theorem dX5_twinOf_63 : decode cX5_twinOf 63 = .ok (.pop, 1) := by decide +kernel
theorem dX5_twinOf_64 : decode cX5_twinOf 64 = .ok (.aload_n 3, 1) := by decide +kernel
theorem dX5_twinOf_65 : decode cX5_twinOf 65 = .ok (.instanceof 158, 3) := by decide +kernel
theorem dX5_twinOf_68 : decode cX5_twinOf 68 = .ok (.ifCond .eq 18, 3) := by decide +kernel
theorem dX5_twinOf_71 : decode cX5_twinOf 71 = .ok (.aload_n 3, 1) := by decide +kernel
theorem dX5_twinOf_72 : decode cX5_twinOf 72 = .ok (.checkcast 158, 3) := by decide +kernel
theorem dX5_twinOf_75 : decode cX5_twinOf 75 = .ok (.astore 4, 2) := by decide +kernel
theorem dX5_twinOf_77 : decode cX5_twinOf 77 = .ok (.aload_n 0, 1) := by decide +kernel
theorem dX5_twinOf_78 : decode cX5_twinOf 78 = .ok (.aload 4, 2) := by decide +kernel
theorem dX5_twinOf_80 : decode cX5_twinOf 80 = .ok (.iload_n 2, 1) := by decide +kernel
theorem dX5_twinOf_81 : decode cX5_twinOf 81 = .ok (.iconst 1, 1) := by decide +kernel
theorem dX5_twinOf_82 : decode cX5_twinOf 82 = .ok (.isub, 1) := by decide +kernel
theorem dX5_twinOf_83 : decode cX5_twinOf 83 = .ok (.invokevirtual 175, 3) := by decide +kernel
theorem dX5_twinOf_86 : decode cX5_twinOf 86 = .ok (.aload_n 3, 1) := by decide +kernel
theorem dX5_twinOf_87 : decode cX5_twinOf 87 = .ok (.areturn, 1) := by decide +kernel
theorem dX5_renewRows_0 : decode cX5_renewRows 0 = .ok (.iconst 0, 1) := by decide +kernel
theorem dX5_renewRows_1 : decode cX5_renewRows 1 = .ok (.istore_n 3, 1) := by decide +kernel
theorem dX5_renewRows_2 : decode cX5_renewRows 2 = .ok (.iload_n 3, 1) := by decide +kernel
theorem dX5_renewRows_3 : decode cX5_renewRows 3 = .ok (.aload_n 1, 1) := by decide +kernel
theorem dX5_renewRows_4 : decode cX5_renewRows 4 = .ok (.getfield 179, 3) := by decide +kernel
theorem dX5_renewRows_7 : decode cX5_renewRows 7 = .ok (.arraylength, 1) := by decide +kernel
theorem dX5_renewRows_8 : decode cX5_renewRows 8 = .ok (.if_icmp .ge 45, 3) := by decide +kernel
theorem dX5_renewRows_11 : decode cX5_renewRows 11 = .ok (.aload_n 1, 1) := by decide +kernel
theorem dX5_renewRows_12 : decode cX5_renewRows 12 = .ok (.getfield 179, 3) := by decide +kernel
theorem dX5_renewRows_15 : decode cX5_renewRows 15 = .ok (.iload_n 3, 1) := by decide +kernel
theorem dX5_renewRows_16 : decode cX5_renewRows 16 = .ok (.aaload, 1) := by decide +kernel
theorem dX5_renewRows_17 : decode cX5_renewRows 17 = .ok (.astore 5, 2) := by decide +kernel
theorem dX5_renewRows_19 : decode cX5_renewRows 19 = .ok (.aload 5, 2) := by decide +kernel
theorem dX5_renewRows_21 : decode cX5_renewRows 21 = .ok (.instanceof 9, 3) := by decide +kernel
theorem dX5_renewRows_24 : decode cX5_renewRows 24 = .ok (.ifCond .eq 23, 3) := by decide +kernel
theorem dX5_renewRows_27 : decode cX5_renewRows 27 = .ok (.aload 5, 2) := by decide +kernel
theorem dX5_renewRows_29 : decode cX5_renewRows 29 = .ok (.checkcast 9, 3) := by decide +kernel
theorem dX5_renewRows_32 : decode cX5_renewRows 32 = .ok (.astore 4, 2) := by decide +kernel
theorem dX5_renewRows_34 : decode cX5_renewRows 34 = .ok (.aload_n 1, 1) := by decide +kernel
theorem dX5_renewRows_35 : decode cX5_renewRows 35 = .ok (.getfield 179, 3) := by decide +kernel
theorem dX5_renewRows_38 : decode cX5_renewRows 38 = .ok (.iload_n 3, 1) := by decide +kernel
theorem dX5_renewRows_39 : decode cX5_renewRows 39 = .ok (.aload_n 0, 1) := by decide +kernel
theorem dX5_renewRows_40 : decode cX5_renewRows 40 = .ok (.aload 4, 2) := by decide +kernel
theorem dX5_renewRows_42 : decode cX5_renewRows 42 = .ok (.iload_n 2, 1) := by decide +kernel
theorem dX5_renewRows_43 : decode cX5_renewRows 43 = .ok (.invokevirtual 53, 3) := by decide +kernel
theorem dX5_renewRows_46 : decode cX5_renewRows 46 = .ok (.aastore, 1) := by decide +kernel
theorem dX5_renewRows_47 : decode cX5_renewRows 47 = .ok (.iinc 3 1, 3) := by decide +kernel
theorem dX5_renewRows_50 : decode cX5_renewRows 50 = .ok (.goto (-48), 3) := by decide +kernel
theorem dX5_renewRows_53 : decode cX5_renewRows 53 = .ok (.return_, 1) := by decide +kernel
theorem dX5_kindOfRows_0 : decode cX5_kindOfRows 0 = .ok (.iload_n 0, 1) := by decide +kernel
theorem dX5_kindOfRows_1 : decode cX5_kindOfRows 1 = .ok (.tableswitch 42 10 13 #[31, 33, 36, 39], 31) := by decide +kernel
theorem dX5_kindOfRows_32 : decode cX5_kindOfRows 32 = .ok (.iconst 4, 1) := by decide +kernel
theorem dX5_kindOfRows_33 : decode cX5_kindOfRows 33 = .ok (.ireturn, 1) := by decide +kernel
theorem dX5_kindOfRows_34 : decode cX5_kindOfRows 34 = .ok (.bipush 7, 2) := by decide +kernel
theorem dX5_kindOfRows_36 : decode cX5_kindOfRows 36 = .ok (.ireturn, 1) := by decide +kernel
theorem dX5_kindOfRows_37 : decode cX5_kindOfRows 37 = .ok (.bipush 8, 2) := by decide +kernel
theorem dX5_kindOfRows_39 : decode cX5_kindOfRows 39 = .ok (.ireturn, 1) := by decide +kernel
theorem dX5_kindOfRows_40 : decode cX5_kindOfRows 40 = .ok (.bipush 10, 2) := by decide +kernel
theorem dX5_kindOfRows_42 : decode cX5_kindOfRows 42 = .ok (.ireturn, 1) := by decide +kernel
theorem dX5_kindOfRows_43 : decode cX5_kindOfRows 43 = .ok (.iconst (-1), 1) := by decide +kernel
theorem dX5_kindOfRows_44 : decode cX5_kindOfRows 44 = .ok (.ireturn, 1) := by decide +kernel
theorem dX5_fits_0 : decode cX5_fits 0 = .ok (.aload_n 0, 1) := by decide +kernel
theorem dX5_fits_1 : decode cX5_fits 1 = .ok (.ifnull 26, 3) := by decide +kernel
theorem dX5_fits_4 : decode cX5_fits 4 = .ok (.aload_n 0, 1) := by decide +kernel
theorem dX5_fits_5 : decode cX5_fits 5 = .ok (.getfield 57, 3) := by decide +kernel
theorem dX5_fits_8 : decode cX5_fits 8 = .ok (.iload_n 1, 1) := by decide +kernel
theorem dX5_fits_9 : decode cX5_fits 9 = .ok (.if_icmp .eq 18, 3) := by decide +kernel
theorem dX5_fits_12 : decode cX5_fits 12 = .ok (.iload_n 1, 1) := by decide +kernel
theorem dX5_fits_13 : decode cX5_fits 13 = .ok (.bipush 8, 2) := by decide +kernel
theorem dX5_fits_15 : decode cX5_fits 15 = .ok (.if_icmp .ne 16, 3) := by decide +kernel
theorem dX5_fits_18 : decode cX5_fits 18 = .ok (.aload_n 0, 1) := by decide +kernel
theorem dX5_fits_19 : decode cX5_fits 19 = .ok (.getfield 57, 3) := by decide +kernel
theorem dX5_fits_22 : decode cX5_fits 22 = .ok (.bipush 9, 2) := by decide +kernel
theorem dX5_fits_24 : decode cX5_fits 24 = .ok (.if_icmp .ne 7, 3) := by decide +kernel
theorem dX5_fits_27 : decode cX5_fits 27 = .ok (.iconst 1, 1) := by decide +kernel
theorem dX5_fits_28 : decode cX5_fits 28 = .ok (.goto 4, 3) := by decide +kernel
theorem dX5_fits_31 : decode cX5_fits 31 = .ok (.iconst 0, 1) := by decide +kernel
theorem dX5_fits_32 : decode cX5_fits 32 = .ok (.ireturn, 1) := by decide +kernel
theorem dX5_canStand_0 : decode cX5_canStand 0 = .ok (.aload_n 0, 1) := by decide +kernel
theorem dX5_canStand_1 : decode cX5_canStand 1 = .ok (.instanceof 99, 3) := by decide +kernel
theorem dX5_canStand_4 : decode cX5_canStand 4 = .ok (.ifCond .eq 33, 3) := by decide +kernel
theorem dX5_canStand_7 : decode cX5_canStand 7 = .ok (.aload_n 0, 1) := by decide +kernel
theorem dX5_canStand_8 : decode cX5_canStand 8 = .ok (.checkcast 99, 3) := by decide +kernel
theorem dX5_canStand_11 : decode cX5_canStand 11 = .ok (.astore_n 2, 1) := by decide +kernel
theorem dX5_canStand_12 : decode cX5_canStand 12 = .ok (.iload_n 1, 1) := by decide +kernel
theorem dX5_canStand_13 : decode cX5_canStand 13 = .ok (.bipush 8, 2) := by decide +kernel
theorem dX5_canStand_15 : decode cX5_canStand 15 = .ok (.if_icmp .eq 16, 3) := by decide +kernel
theorem dX5_canStand_18 : decode cX5_canStand 18 = .ok (.iload_n 1, 1) := by decide +kernel
theorem dX5_canStand_19 : decode cX5_canStand 19 = .ok (.bipush 9, 2) := by decide +kernel
theorem dX5_canStand_21 : decode cX5_canStand 21 = .ok (.if_icmp .ne 14, 3) := by decide +kernel
theorem dX5_canStand_24 : decode cX5_canStand 24 = .ok (.aload_n 2, 1) := by decide +kernel
theorem dX5_canStand_25 : decode cX5_canStand 25 = .ok (.getfield 101, 3) := by decide +kernel
theorem dX5_canStand_28 : decode cX5_canStand 28 = .ok (.ifCond .eq 7, 3) := by decide +kernel
theorem dX5_canStand_31 : decode cX5_canStand 31 = .ok (.iconst 1, 1) := by decide +kernel
theorem dX5_canStand_32 : decode cX5_canStand 32 = .ok (.goto 4, 3) := by decide +kernel
theorem dX5_canStand_35 : decode cX5_canStand 35 = .ok (.iconst 0, 1) := by decide +kernel
theorem dX5_canStand_36 : decode cX5_canStand 36 = .ok (.ireturn, 1) := by decide +kernel
theorem dX5_canStand_37 : decode cX5_canStand 37 = .ok (.aload_n 0, 1) := by decide +kernel
theorem dX5_canStand_38 : decode cX5_canStand 38 = .ok (.instanceof 9, 3) := by decide +kernel
theorem dX5_canStand_41 : decode cX5_canStand 41 = .ok (.ifCond .eq 17, 3) := by decide +kernel
theorem dX5_canStand_44 : decode cX5_canStand 44 = .ok (.aload_n 0, 1) := by decide +kernel
theorem dX5_canStand_45 : decode cX5_canStand 45 = .ok (.checkcast 9, 3) := by decide +kernel
theorem dX5_canStand_48 : decode cX5_canStand 48 = .ok (.astore_n 2, 1) := by decide +kernel
theorem dX5_canStand_49 : decode cX5_canStand 49 = .ok (.aload_n 2, 1) := by decide +kernel
theorem dX5_canStand_50 : decode cX5_canStand 50 = .ok (.iload_n 1, 1) := by decide +kernel
theorem dX5_canStand_51 : decode cX5_canStand 51 = .ok (.invokestatic 112, 3) := by decide +kernel
theorem dX5_canStand_54 : decode cX5_canStand 54 = .ok (.invokestatic 60, 3) := by decide +kernel
theorem dX5_canStand_57 : decode cX5_canStand 57 = .ok (.ireturn, 1) := by decide +kernel
theorem dX5_canStand_58 : decode cX5_canStand 58 = .ok (.iconst 1, 1) := by decide +kernel
theorem dX5_canStand_59 : decode cX5_canStand 59 = .ok (.ireturn, 1) := by decide +kernel
theorem dX5_faultAt_0 : decode cX5_faultAt 0 = .ok (.aload_n 0, 1) := by decide +kernel
theorem dX5_faultAt_1 : decode cX5_faultAt 1 = .ok (.ifnonnull 5, 3) := by decide +kernel
theorem dX5_faultAt_4 : decode cX5_faultAt 4 = .ok (.iconst 1, 1) := by decide +kernel
theorem dX5_faultAt_5 : decode cX5_faultAt 5 = .ok (.ireturn, 1) := by decide +kernel
theorem dX5_faultAt_6 : decode cX5_faultAt 6 = .ok (.iload_n 1, 1) := by decide +kernel
theorem dX5_faultAt_7 : decode cX5_faultAt 7 = .ok (.ifCond .lt 15, 3) := by decide +kernel
theorem dX5_faultAt_10 : decode cX5_faultAt 10 = .ok (.iload_n 1, 1) := by decide +kernel
theorem dX5_faultAt_11 : decode cX5_faultAt 11 = .ok (.aload_n 0, 1) := by decide +kernel
theorem dX5_faultAt_12 : decode cX5_faultAt 12 = .ok (.invokevirtual 64, 3) := by decide +kernel
theorem dX5_faultAt_15 : decode cX5_faultAt 15 = .ok (.if_icmp .ge 7, 3) := by decide +kernel
theorem dX5_faultAt_18 : decode cX5_faultAt 18 = .ok (.iconst 0, 1) := by decide +kernel
theorem dX5_faultAt_19 : decode cX5_faultAt 19 = .ok (.goto 4, 3) := by decide +kernel
theorem dX5_faultAt_22 : decode cX5_faultAt 22 = .ok (.iconst 3, 1) := by decide +kernel
theorem dX5_faultAt_23 : decode cX5_faultAt 23 = .ok (.ireturn, 1) := by decide +kernel
theorem dX5_faultTaken_0 : decode cX5_faultTaken 0 = .ok (.aload_n 0, 1) := by decide +kernel
theorem dX5_faultTaken_1 : decode cX5_faultTaken 1 = .ok (.iload_n 1, 1) := by decide +kernel
theorem dX5_faultTaken_2 : decode cX5_faultTaken 2 = .ok (.invokestatic 60, 3) := by decide +kernel
theorem dX5_faultTaken_5 : decode cX5_faultTaken 5 = .ok (.ifCond .eq 11, 3) := by decide +kernel
theorem dX5_faultTaken_8 : decode cX5_faultTaken 8 = .ok (.aload_n 0, 1) := by decide +kernel
theorem dX5_faultTaken_9 : decode cX5_faultTaken 9 = .ok (.iload_n 2, 1) := by decide +kernel
theorem dX5_faultTaken_10 : decode cX5_faultTaken 10 = .ok (.invokestatic 108, 3) := by decide +kernel
theorem dX5_faultTaken_13 : decode cX5_faultTaken 13 = .ok (.goto 4, 3) := by decide +kernel
theorem dX5_faultTaken_16 : decode cX5_faultTaken 16 = .ok (.iconst 2, 1) := by decide +kernel
theorem dX5_faultTaken_17 : decode cX5_faultTaken 17 = .ok (.ireturn, 1) := by decide +kernel
theorem dX5_itemAt_0 : decode cX5_itemAt 0 = .ok (.aload_n 0, 1) := by decide +kernel
theorem dX5_itemAt_1 : decode cX5_itemAt 1 = .ok (.instanceof 158, 3) := by decide +kernel
theorem dX5_itemAt_4 : decode cX5_itemAt 4 = .ok (.ifCond .eq 28, 3) := by decide +kernel
theorem dX5_itemAt_7 : decode cX5_itemAt 7 = .ok (.aload_n 0, 1) := by decide +kernel
theorem dX5_itemAt_8 : decode cX5_itemAt 8 = .ok (.checkcast 158, 3) := by decide +kernel
theorem dX5_itemAt_11 : decode cX5_itemAt 11 = .ok (.astore_n 2, 1) := by decide +kernel
theorem dX5_itemAt_12 : decode cX5_itemAt 12 = .ok (.iload_n 1, 1) := by decide +kernel
theorem dX5_itemAt_13 : decode cX5_itemAt 13 = .ok (.ifCond .lt 19, 3) := by decide +kernel
theorem dX5_itemAt_16 : decode cX5_itemAt 16 = .ok (.iload_n 1, 1) := by decide +kernel
theorem dX5_itemAt_17 : decode cX5_itemAt 17 = .ok (.aload_n 2, 1) := by decide +kernel
theorem dX5_itemAt_18 : decode cX5_itemAt 18 = .ok (.getfield 179, 3) := by decide +kernel
theorem dX5_itemAt_21 : decode cX5_itemAt 21 = .ok (.arraylength, 1) := by decide +kernel
theorem dX5_itemAt_22 : decode cX5_itemAt 22 = .ok (.if_icmp .ge 10, 3) := by decide +kernel
theorem dX5_itemAt_25 : decode cX5_itemAt 25 = .ok (.aload_n 2, 1) := by decide +kernel
theorem dX5_itemAt_26 : decode cX5_itemAt 26 = .ok (.getfield 179, 3) := by decide +kernel
theorem dX5_itemAt_29 : decode cX5_itemAt 29 = .ok (.iload_n 1, 1) := by decide +kernel
theorem dX5_itemAt_30 : decode cX5_itemAt 30 = .ok (.aaload, 1) := by decide +kernel
theorem dX5_itemAt_31 : decode cX5_itemAt 31 = .ok (.areturn, 1) := by decide +kernel
theorem dX5_itemAt_32 : decode cX5_itemAt 32 = .ok (.aconst_null, 1) := by decide +kernel
theorem dX5_itemAt_33 : decode cX5_itemAt 33 = .ok (.areturn, 1) := by decide +kernel
theorem dX5_rowAt_0 : decode cX5_rowAt 0 = .ok (.aload_n 0, 1) := by decide +kernel
theorem dX5_rowAt_1 : decode cX5_rowAt 1 = .ok (.iload_n 1, 1) := by decide +kernel
theorem dX5_rowAt_2 : decode cX5_rowAt 2 = .ok (.invokestatic 95, 3) := by decide +kernel
theorem dX5_rowAt_5 : decode cX5_rowAt 5 = .ok (.astore_n 3, 1) := by decide +kernel
theorem dX5_rowAt_6 : decode cX5_rowAt 6 = .ok (.aload_n 3, 1) := by decide +kernel
theorem dX5_rowAt_7 : decode cX5_rowAt 7 = .ok (.instanceof 9, 3) := by decide +kernel
theorem dX5_rowAt_10 : decode cX5_rowAt 10 = .ok (.ifCond .eq 12, 3) := by decide +kernel
theorem dX5_rowAt_13 : decode cX5_rowAt 13 = .ok (.aload_n 3, 1) := by decide +kernel
theorem dX5_rowAt_14 : decode cX5_rowAt 14 = .ok (.checkcast 9, 3) := by decide +kernel
theorem dX5_rowAt_17 : decode cX5_rowAt 17 = .ok (.astore_n 2, 1) := by decide +kernel
theorem dX5_rowAt_18 : decode cX5_rowAt 18 = .ok (.aload_n 2, 1) := by decide +kernel
theorem dX5_rowAt_19 : decode cX5_rowAt 19 = .ok (.goto 4, 3) := by decide +kernel
theorem dX5_rowAt_22 : decode cX5_rowAt 22 = .ok (.aconst_null, 1) := by decide +kernel
theorem dX5_rowAt_23 : decode cX5_rowAt 23 = .ok (.areturn, 1) := by decide +kernel
theorem dX5_bitsAt_0 : decode cX5_bitsAt 0 = .ok (.aload_n 0, 1) := by decide +kernel
theorem dX5_bitsAt_1 : decode cX5_bitsAt 1 = .ok (.aload_n 1, 1) := by decide +kernel
theorem dX5_bitsAt_2 : decode cX5_bitsAt 2 = .ok (.iload_n 2, 1) := by decide +kernel
theorem dX5_bitsAt_3 : decode cX5_bitsAt 3 = .ok (.invokestatic 108, 3) := by decide +kernel
theorem dX5_bitsAt_6 : decode cX5_bitsAt 6 = .ok (.putfield 143, 3) := by decide +kernel
theorem dX5_bitsAt_9 : decode cX5_bitsAt 9 = .ok (.aload_n 0, 1) := by decide +kernel
theorem dX5_bitsAt_10 : decode cX5_bitsAt 10 = .ok (.getfield 143, 3) := by decide +kernel
theorem dX5_bitsAt_13 : decode cX5_bitsAt 13 = .ok (.ifCond .eq 5, 3) := by decide +kernel
theorem dX5_bitsAt_16 : decode cX5_bitsAt 16 = .ok (.lconst 0, 1) := by decide +kernel
theorem dX5_bitsAt_17 : decode cX5_bitsAt 17 = .ok (.lreturn, 1) := by decide +kernel
theorem dX5_bitsAt_18 : decode cX5_bitsAt 18 = .ok (.aload_n 1, 1) := by decide +kernel
theorem dX5_bitsAt_19 : decode cX5_bitsAt 19 = .ok (.instanceof 125, 3) := by decide +kernel
theorem dX5_bitsAt_22 : decode cX5_bitsAt 22 = .ok (.ifCond .eq 15, 3) := by decide +kernel
theorem dX5_bitsAt_25 : decode cX5_bitsAt 25 = .ok (.aload_n 1, 1) := by decide +kernel
theorem dX5_bitsAt_26 : decode cX5_bitsAt 26 = .ok (.checkcast 125, 3) := by decide +kernel
theorem dX5_bitsAt_29 : decode cX5_bitsAt 29 = .ok (.astore_n 3, 1) := by decide +kernel
theorem dX5_bitsAt_30 : decode cX5_bitsAt 30 = .ok (.aload_n 3, 1) := by decide +kernel
theorem dX5_bitsAt_31 : decode cX5_bitsAt 31 = .ok (.getfield 183, 3) := by decide +kernel
theorem dX5_bitsAt_34 : decode cX5_bitsAt 34 = .ok (.iload_n 2, 1) := by decide +kernel
theorem dX5_bitsAt_35 : decode cX5_bitsAt 35 = .ok (.laload, 1) := by decide +kernel
theorem dX5_bitsAt_36 : decode cX5_bitsAt 36 = .ok (.lreturn, 1) := by decide +kernel
theorem dX5_bitsAt_37 : decode cX5_bitsAt 37 = .ok (.aload_n 1, 1) := by decide +kernel
theorem dX5_bitsAt_38 : decode cX5_bitsAt 38 = .ok (.iload_n 2, 1) := by decide +kernel
theorem dX5_bitsAt_39 : decode cX5_bitsAt 39 = .ok (.invokestatic 95, 3) := by decide +kernel
theorem dX5_bitsAt_42 : decode cX5_bitsAt 42 = .ok (.astore 4, 2) := by decide +kernel
theorem dX5_bitsAt_44 : decode cX5_bitsAt 44 = .ok (.aload 4, 2) := by decide +kernel
theorem dX5_bitsAt_46 : decode cX5_bitsAt 46 = .ok (.instanceof 99, 3) := by decide +kernel
theorem dX5_bitsAt_49 : decode cX5_bitsAt 49 = .ok (.ifCond .eq 17, 3) := by decide +kernel
theorem dX5_bitsAt_52 : decode cX5_bitsAt 52 = .ok (.aload 4, 2) := by decide +kernel
theorem dX5_bitsAt_54 : decode cX5_bitsAt 54 = .ok (.checkcast 99, 3) := by decide +kernel
theorem dX5_bitsAt_57 : decode cX5_bitsAt 57 = .ok (.astore_n 3, 1) := by decide +kernel
theorem dX5_bitsAt_58 : decode cX5_bitsAt 58 = .ok (.aload_n 3, 1) := by decide +kernel
theorem dX5_bitsAt_59 : decode cX5_bitsAt 59 = .ok (.getfield 187, 3) := by decide +kernel
theorem dX5_bitsAt_62 : decode cX5_bitsAt 62 = .ok (.i2l, 1) := by decide +kernel
theorem dX5_bitsAt_63 : decode cX5_bitsAt 63 = .ok (.goto 8, 3) := by decide +kernel
theorem dX5_bitsAt_66 : decode cX5_bitsAt 66 = .ok (.aload_n 0, 1) := by decide +kernel
theorem dX5_bitsAt_67 : decode cX5_bitsAt 67 = .ok (.iconst 1, 1) := by decide +kernel
theorem dX5_bitsAt_68 : decode cX5_bitsAt 68 = .ok (.invokevirtual 68, 3) := by decide +kernel
theorem dX5_bitsAt_71 : decode cX5_bitsAt 71 = .ok (.lreturn, 1) := by decide +kernel
theorem dX5_putBits_0 : decode cX5_putBits 0 = .ok (.aload_n 0, 1) := by decide +kernel
theorem dX5_putBits_1 : decode cX5_putBits 1 = .ok (.iload_n 1, 1) := by decide +kernel
theorem dX5_putBits_2 : decode cX5_putBits 2 = .ok (.invokestatic 108, 3) := by decide +kernel
theorem dX5_putBits_5 : decode cX5_putBits 5 = .ok (.istore 4, 2) := by decide +kernel
theorem dX5_putBits_7 : decode cX5_putBits 7 = .ok (.iload 4, 2) := by decide +kernel
theorem dX5_putBits_9 : decode cX5_putBits 9 = .ok (.ifCond .eq 9, 3) := by decide +kernel
theorem dX5_putBits_12 : decode cX5_putBits 12 = .ok (.iload 4, 2) := by decide +kernel
theorem dX5_putBits_14 : decode cX5_putBits 14 = .ok (.invokestatic 34, 3) := by decide +kernel
theorem dX5_putBits_17 : decode cX5_putBits 17 = .ok (.ireturn, 1) := by decide +kernel
theorem dX5_putBits_18 : decode cX5_putBits 18 = .ok (.aload_n 0, 1) := by decide +kernel
theorem dX5_putBits_19 : decode cX5_putBits 19 = .ok (.instanceof 125, 3) := by decide +kernel
theorem dX5_putBits_22 : decode cX5_putBits 22 = .ok (.ifCond .eq 25, 3) := by decide +kernel
theorem dX5_putBits_25 : decode cX5_putBits 25 = .ok (.aload_n 0, 1) := by decide +kernel
theorem dX5_putBits_26 : decode cX5_putBits 26 = .ok (.checkcast 125, 3) := by decide +kernel
theorem dX5_putBits_29 : decode cX5_putBits 29 = .ok (.astore 5, 2) := by decide +kernel
theorem dX5_putBits_31 : decode cX5_putBits 31 = .ok (.aload 5, 2) := by decide +kernel
theorem dX5_putBits_33 : decode cX5_putBits 33 = .ok (.getfield 183, 3) := by decide +kernel
theorem dX5_putBits_36 : decode cX5_putBits 36 = .ok (.iload_n 1, 1) := by decide +kernel
theorem dX5_putBits_37 : decode cX5_putBits 37 = .ok (.aload 5, 2) := by decide +kernel
theorem dX5_putBits_39 : decode cX5_putBits 39 = .ok (.getfield 190, 3) := by decide +kernel
theorem dX5_putBits_42 : decode cX5_putBits 42 = .ok (.lload_n 2, 1) := by decide +kernel
theorem dX5_putBits_43 : decode cX5_putBits 43 = .ok (.invokestatic 191, 3) := by decide +kernel
theorem dX5_putBits_46 : decode cX5_putBits 46 = .ok (.lastore, 1) := by decide +kernel
theorem dX5_putBits_47 : decode cX5_putBits 47 = .ok (.iconst 1, 1) := by decide +kernel
theorem dX5_putBits_48 : decode cX5_putBits 48 = .ok (.ireturn, 1) := by decide +kernel
theorem dX5_place_0 : decode cX5_place 0 = .ok (.aload_n 0, 1) := by decide +kernel
theorem dX5_place_1 : decode cX5_place 1 = .ok (.iload_n 1, 1) := by decide +kernel
theorem dX5_place_2 : decode cX5_place 2 = .ok (.invokestatic 108, 3) := by decide +kernel
theorem dX5_place_5 : decode cX5_place 5 = .ok (.istore_n 3, 1) := by decide +kernel
theorem dX5_place_6 : decode cX5_place 6 = .ok (.iload_n 3, 1) := by decide +kernel
theorem dX5_place_7 : decode cX5_place 7 = .ok (.ifCond .eq 8, 3) := by decide +kernel
theorem dX5_place_10 : decode cX5_place 10 = .ok (.iload_n 3, 1) := by decide +kernel
theorem dX5_place_11 : decode cX5_place 11 = .ok (.invokestatic 34, 3) := by decide +kernel
theorem dX5_place_14 : decode cX5_place 14 = .ok (.ireturn, 1) := by decide +kernel
theorem dX5_place_15 : decode cX5_place 15 = .ok (.aload_n 0, 1) := by decide +kernel
theorem dX5_place_16 : decode cX5_place 16 = .ok (.instanceof 158, 3) := by decide +kernel
theorem dX5_place_19 : decode cX5_place 19 = .ok (.ifCond .eq 31, 3) := by decide +kernel
theorem dX5_place_22 : decode cX5_place 22 = .ok (.aload_n 0, 1) := by decide +kernel
theorem dX5_place_23 : decode cX5_place 23 = .ok (.checkcast 158, 3) := by decide +kernel
theorem dX5_place_26 : decode cX5_place 26 = .ok (.astore 4, 2) := by decide +kernel
theorem dX5_place_28 : decode cX5_place 28 = .ok (.aload_n 2, 1) := by decide +kernel
theorem dX5_place_29 : decode cX5_place 29 = .ok (.aload 4, 2) := by decide +kernel
theorem dX5_place_31 : decode cX5_place 31 = .ok (.getfield 195, 3) := by decide +kernel
theorem dX5_place_34 : decode cX5_place 34 = .ok (.invokestatic 196, 3) := by decide +kernel
theorem dX5_place_37 : decode cX5_place 37 = .ok (.ifCond .eq 13, 3) := by decide +kernel
theorem dX5_place_40 : decode cX5_place 40 = .ok (.aload 4, 2) := by decide +kernel
theorem dX5_place_42 : decode cX5_place 42 = .ok (.getfield 179, 3) := by decide +kernel
theorem dX5_place_45 : decode cX5_place 45 = .ok (.iload_n 1, 1) := by decide +kernel
theorem dX5_place_46 : decode cX5_place 46 = .ok (.aload_n 2, 1) := by decide +kernel
theorem dX5_place_47 : decode cX5_place 47 = .ok (.aastore, 1) := by decide +kernel
theorem dX5_place_48 : decode cX5_place 48 = .ok (.iconst 1, 1) := by decide +kernel
theorem dX5_place_49 : decode cX5_place 49 = .ok (.ireturn, 1) := by decide +kernel
theorem dX5_place_50 : decode cX5_place 50 = .ok (.iconst 5, 1) := by decide +kernel
theorem dX5_place_51 : decode cX5_place 51 = .ok (.invokestatic 34, 3) := by decide +kernel
theorem dX5_place_54 : decode cX5_place 54 = .ok (.ireturn, 1) := by decide +kernel
theorem dX5_transfer_0 : decode cX5_transfer 0 = .ok (.aload_n 0, 1) := by decide +kernel
theorem dX5_transfer_1 : decode cX5_transfer 1 = .ok (.iload_n 1, 1) := by decide +kernel
theorem dX5_transfer_2 : decode cX5_transfer 2 = .ok (.iload 4, 2) := by decide +kernel
theorem dX5_transfer_4 : decode cX5_transfer 4 = .ok (.invokestatic 200, 3) := by decide +kernel
theorem dX5_transfer_7 : decode cX5_transfer 7 = .ok (.ifCond .eq 13, 3) := by decide +kernel
theorem dX5_transfer_10 : decode cX5_transfer 10 = .ok (.aload_n 2, 1) := by decide +kernel
theorem dX5_transfer_11 : decode cX5_transfer 11 = .ok (.iload_n 3, 1) := by decide +kernel
theorem dX5_transfer_12 : decode cX5_transfer 12 = .ok (.iload 4, 2) := by decide +kernel
theorem dX5_transfer_14 : decode cX5_transfer 14 = .ok (.invokestatic 200, 3) := by decide +kernel
theorem dX5_transfer_17 : decode cX5_transfer 17 = .ok (.ifCond .ne 8, 3) := by decide +kernel
theorem dX5_transfer_20 : decode cX5_transfer 20 = .ok (.iconst 3, 1) := by decide +kernel
theorem dX5_transfer_21 : decode cX5_transfer 21 = .ok (.invokestatic 34, 3) := by decide +kernel
theorem dX5_transfer_24 : decode cX5_transfer 24 = .ok (.ireturn, 1) := by decide +kernel
theorem dX5_transfer_25 : decode cX5_transfer 25 = .ok (.aload_n 0, 1) := by decide +kernel
theorem dX5_transfer_26 : decode cX5_transfer 26 = .ok (.instanceof 125, 3) := by decide +kernel
theorem dX5_transfer_29 : decode cX5_transfer 29 = .ok (.ifCond .eq 42, 3) := by decide +kernel
theorem dX5_transfer_32 : decode cX5_transfer 32 = .ok (.aload_n 0, 1) := by decide +kernel
theorem dX5_transfer_33 : decode cX5_transfer 33 = .ok (.checkcast 125, 3) := by decide +kernel
theorem dX5_transfer_36 : decode cX5_transfer 36 = .ok (.astore 5, 2) := by decide +kernel
theorem dX5_transfer_38 : decode cX5_transfer 38 = .ok (.aload_n 2, 1) := by decide +kernel
theorem dX5_transfer_39 : decode cX5_transfer 39 = .ok (.instanceof 125, 3) := by decide +kernel
theorem dX5_transfer_42 : decode cX5_transfer 42 = .ok (.ifCond .eq 29, 3) := by decide +kernel
theorem dX5_transfer_45 : decode cX5_transfer 45 = .ok (.aload_n 2, 1) := by decide +kernel
theorem dX5_transfer_46 : decode cX5_transfer 46 = .ok (.checkcast 125, 3) := by decide +kernel
theorem dX5_transfer_49 : decode cX5_transfer 49 = .ok (.astore 6, 2) := by decide +kernel
theorem dX5_transfer_51 : decode cX5_transfer 51 = .ok (.aload 5, 2) := by decide +kernel
theorem dX5_transfer_53 : decode cX5_transfer 53 = .ok (.getfield 183, 3) := by decide +kernel
theorem dX5_transfer_56 : decode cX5_transfer 56 = .ok (.iload_n 1, 1) := by decide +kernel
theorem dX5_transfer_57 : decode cX5_transfer 57 = .ok (.aload 6, 2) := by decide +kernel
theorem dX5_transfer_59 : decode cX5_transfer 59 = .ok (.getfield 183, 3) := by decide +kernel
theorem dX5_transfer_62 : decode cX5_transfer 62 = .ok (.iload_n 3, 1) := by decide +kernel
theorem dX5_transfer_63 : decode cX5_transfer 63 = .ok (.iload 4, 2) := by decide +kernel
theorem dX5_transfer_65 : decode cX5_transfer 65 = .ok (.invokestatic 204, 3) := by decide +kernel
theorem dX5_transfer_68 : decode cX5_transfer 68 = .ok (.iload 4, 2) := by decide +kernel
theorem dX5_transfer_70 : decode cX5_transfer 70 = .ok (.ireturn, 1) := by decide +kernel
theorem dX5_transfer_71 : decode cX5_transfer 71 = .ok (.aload_n 0, 1) := by decide +kernel
theorem dX5_transfer_72 : decode cX5_transfer 72 = .ok (.iload_n 1, 1) := by decide +kernel
theorem dX5_transfer_73 : decode cX5_transfer 73 = .ok (.aload_n 2, 1) := by decide +kernel
theorem dX5_transfer_74 : decode cX5_transfer 74 = .ok (.iload_n 3, 1) := by decide +kernel
theorem dX5_transfer_75 : decode cX5_transfer 75 = .ok (.iload 4, 2) := by decide +kernel
theorem dX5_transfer_77 : decode cX5_transfer 77 = .ok (.invokestatic 210, 3) := by decide +kernel
theorem dX5_transfer_80 : decode cX5_transfer 80 = .ok (.ireturn, 1) := by decide +kernel
theorem dX5_transferItems_0 : decode cX5_transferItems 0 = .ok (.aload_n 0, 1) := by decide +kernel
theorem dX5_transferItems_1 : decode cX5_transferItems 1 = .ok (.aload_n 2, 1) := by decide +kernel
theorem dX5_transferItems_2 : decode cX5_transferItems 2 = .ok (.if_acmp .ne 12, 3) := by decide +kernel
theorem dX5_transferItems_5 : decode cX5_transferItems 5 = .ok (.iload_n 1, 1) := by decide +kernel
theorem dX5_transferItems_6 : decode cX5_transferItems 6 = .ok (.iload_n 3, 1) := by decide +kernel
theorem dX5_transferItems_7 : decode cX5_transferItems 7 = .ok (.if_icmp .ge 7, 3) := by decide +kernel
theorem dX5_transferItems_10 : decode cX5_transferItems 10 = .ok (.iconst 1, 1) := by decide +kernel
theorem dX5_transferItems_11 : decode cX5_transferItems 11 = .ok (.goto 4, 3) := by decide +kernel
theorem dX5_transferItems_14 : decode cX5_transferItems 14 = .ok (.iconst 0, 1) := by decide +kernel
theorem dX5_transferItems_15 : decode cX5_transferItems 15 = .ok (.istore 5, 2) := by decide +kernel
theorem dX5_transferItems_17 : decode cX5_transferItems 17 = .ok (.iconst 0, 1) := by decide +kernel
theorem dX5_transferItems_18 : decode cX5_transferItems 18 = .ok (.istore 6, 2) := by decide +kernel
theorem dX5_transferItems_20 : decode cX5_transferItems 20 = .ok (.iload 6, 2) := by decide +kernel
theorem dX5_transferItems_22 : decode cX5_transferItems 22 = .ok (.iload 4, 2) := by decide +kernel
theorem dX5_transferItems_24 : decode cX5_transferItems 24 = .ok (.if_icmp .ge 55, 3) := by decide +kernel
theorem dX5_transferItems_27 : decode cX5_transferItems 27 = .ok (.iload 5, 2) := by decide +kernel
theorem dX5_transferItems_29 : decode cX5_transferItems 29 = .ok (.ifCond .eq 13, 3) := by decide +kernel
theorem dX5_transferItems_32 : decode cX5_transferItems 32 = .ok (.iload 4, 2) := by decide +kernel
theorem dX5_transferItems_34 : decode cX5_transferItems 34 = .ok (.iconst 1, 1) := by decide +kernel
theorem dX5_transferItems_35 : decode cX5_transferItems 35 = .ok (.isub, 1) := by decide +kernel
theorem dX5_transferItems_36 : decode cX5_transferItems 36 = .ok (.iload 6, 2) := by decide +kernel
theorem dX5_transferItems_38 : decode cX5_transferItems 38 = .ok (.isub, 1) := by decide +kernel
theorem dX5_transferItems_39 : decode cX5_transferItems 39 = .ok (.goto 5, 3) := by decide +kernel
theorem dX5_transferItems_42 : decode cX5_transferItems 42 = .ok (.iload 6, 2) := by decide +kernel
theorem dX5_transferItems_44 : decode cX5_transferItems 44 = .ok (.istore 7, 2) := by decide +kernel
theorem dX5_transferItems_46 : decode cX5_transferItems 46 = .ok (.aload_n 2, 1) := by decide +kernel
theorem dX5_transferItems_47 : decode cX5_transferItems 47 = .ok (.iload_n 3, 1) := by decide +kernel
theorem dX5_transferItems_48 : decode cX5_transferItems 48 = .ok (.iload 7, 2) := by decide +kernel
theorem dX5_transferItems_50 : decode cX5_transferItems 50 = .ok (.iadd, 1) := by decide +kernel
theorem dX5_transferItems_51 : decode cX5_transferItems 51 = .ok (.aload_n 0, 1) := by decide +kernel
theorem dX5_transferItems_52 : decode cX5_transferItems 52 = .ok (.iload_n 1, 1) := by decide +kernel
theorem dX5_transferItems_53 : decode cX5_transferItems 53 = .ok (.iload 7, 2) := by decide +kernel
theorem dX5_transferItems_55 : decode cX5_transferItems 55 = .ok (.iadd, 1) := by decide +kernel
theorem dX5_transferItems_56 : decode cX5_transferItems 56 = .ok (.invokestatic 95, 3) := by decide +kernel
theorem dX5_transferItems_59 : decode cX5_transferItems 59 = .ok (.invokestatic 87, 3) := by decide +kernel
theorem dX5_transferItems_62 : decode cX5_transferItems 62 = .ok (.istore 8, 2) := by decide +kernel
theorem dX5_transferItems_64 : decode cX5_transferItems 64 = .ok (.iload 8, 2) := by decide +kernel
theorem dX5_transferItems_66 : decode cX5_transferItems 66 = .ok (.iconst 1, 1) := by decide +kernel
theorem dX5_transferItems_67 : decode cX5_transferItems 67 = .ok (.if_icmp .eq 6, 3) := by decide +kernel
theorem dX5_transferItems_70 : decode cX5_transferItems 70 = .ok (.iload 8, 2) := by decide +kernel
theorem dX5_transferItems_72 : decode cX5_transferItems 72 = .ok (.ireturn, 1) := by decide +kernel
theorem dX5_transferItems_73 : decode cX5_transferItems 73 = .ok (.iinc 6 1, 3) := by decide +kernel
theorem dX5_transferItems_76 : decode cX5_transferItems 76 = .ok (.goto (-56), 3) := by decide +kernel
theorem dX5_transferItems_79 : decode cX5_transferItems 79 = .ok (.iload 4, 2) := by decide +kernel
theorem dX5_transferItems_81 : decode cX5_transferItems 81 = .ok (.ireturn, 1) := by decide +kernel
theorem dX5_hasStretch_0 : decode cX5_hasStretch 0 = .ok (.iload_n 1, 1) := by decide +kernel
theorem dX5_hasStretch_1 : decode cX5_hasStretch 1 = .ok (.ifCond .lt 21, 3) := by decide +kernel
theorem dX5_hasStretch_4 : decode cX5_hasStretch 4 = .ok (.iload_n 2, 1) := by decide +kernel
theorem dX5_hasStretch_5 : decode cX5_hasStretch 5 = .ok (.ifCond .lt 17, 3) := by decide +kernel
theorem dX5_hasStretch_8 : decode cX5_hasStretch 8 = .ok (.iload_n 1, 1) := by decide +kernel
theorem dX5_hasStretch_9 : decode cX5_hasStretch 9 = .ok (.aload_n 0, 1) := by decide +kernel
theorem dX5_hasStretch_10 : decode cX5_hasStretch 10 = .ok (.invokevirtual 64, 3) := by decide +kernel
theorem dX5_hasStretch_13 : decode cX5_hasStretch 13 = .ok (.iload_n 2, 1) := by decide +kernel
theorem dX5_hasStretch_14 : decode cX5_hasStretch 14 = .ok (.isub, 1) := by decide +kernel
theorem dX5_hasStretch_15 : decode cX5_hasStretch 15 = .ok (.if_icmp .gt 7, 3) := by decide +kernel
theorem dX5_hasStretch_18 : decode cX5_hasStretch 18 = .ok (.iconst 1, 1) := by decide +kernel
theorem dX5_hasStretch_19 : decode cX5_hasStretch 19 = .ok (.goto 4, 3) := by decide +kernel
theorem dX5_hasStretch_22 : decode cX5_hasStretch 22 = .ok (.iconst 0, 1) := by decide +kernel
theorem dX5_hasStretch_23 : decode cX5_hasStretch 23 = .ok (.ireturn, 1) := by decide +kernel
theorem dX5_keptBits_0 : decode cX5_keptBits 0 = .ok (.iload_n 0, 1) := by decide +kernel
theorem dX5_keptBits_1 : decode cX5_keptBits 1 = .ok (.tableswitch 82 0 7 #[47, 51, 56, 61, 66, 82, 70, 77], 47) := by decide +kernel
theorem dX5_keptBits_48 : decode cX5_keptBits 48 = .ok (.lload_n 1, 1) := by decide +kernel
theorem dX5_keptBits_49 : decode cX5_keptBits 49 = .ok (.lconst 1, 1) := by decide +kernel
theorem dX5_keptBits_50 : decode cX5_keptBits 50 = .ok (.land, 1) := by decide +kernel
theorem dX5_keptBits_51 : decode cX5_keptBits 51 = .ok (.lreturn, 1) := by decide +kernel
theorem dX5_keptBits_52 : decode cX5_keptBits 52 = .ok (.lload_n 1, 1) := by decide +kernel
theorem dX5_keptBits_53 : decode cX5_keptBits 53 = .ok (.l2i, 1) := by decide +kernel
theorem dX5_keptBits_54 : decode cX5_keptBits 54 = .ok (.i2b, 1) := by decide +kernel
theorem dX5_keptBits_55 : decode cX5_keptBits 55 = .ok (.i2l, 1) := by decide +kernel
theorem dX5_keptBits_56 : decode cX5_keptBits 56 = .ok (.lreturn, 1) := by decide +kernel
theorem dX5_keptBits_57 : decode cX5_keptBits 57 = .ok (.lload_n 1, 1) := by decide +kernel
theorem dX5_keptBits_58 : decode cX5_keptBits 58 = .ok (.l2i, 1) := by decide +kernel
theorem dX5_keptBits_59 : decode cX5_keptBits 59 = .ok (.i2s, 1) := by decide +kernel
theorem dX5_keptBits_60 : decode cX5_keptBits 60 = .ok (.i2l, 1) := by decide +kernel
theorem dX5_keptBits_61 : decode cX5_keptBits 61 = .ok (.lreturn, 1) := by decide +kernel
theorem dX5_keptBits_62 : decode cX5_keptBits 62 = .ok (.lload_n 1, 1) := by decide +kernel
theorem dX5_keptBits_63 : decode cX5_keptBits 63 = .ok (.l2i, 1) := by decide +kernel
theorem dX5_keptBits_64 : decode cX5_keptBits 64 = .ok (.i2c, 1) := by decide +kernel
theorem dX5_keptBits_65 : decode cX5_keptBits 65 = .ok (.i2l, 1) := by decide +kernel
theorem dX5_keptBits_66 : decode cX5_keptBits 66 = .ok (.lreturn, 1) := by decide +kernel
theorem dX5_keptBits_67 : decode cX5_keptBits 67 = .ok (.lload_n 1, 1) := by decide +kernel
theorem dX5_keptBits_68 : decode cX5_keptBits 68 = .ok (.l2i, 1) := by decide +kernel
theorem dX5_keptBits_69 : decode cX5_keptBits 69 = .ok (.i2l, 1) := by decide +kernel
theorem dX5_keptBits_70 : decode cX5_keptBits 70 = .ok (.lreturn, 1) := by decide +kernel
theorem dX5_keptBits_71 : decode cX5_keptBits 71 = .ok (.lload_n 1, 1) := by decide +kernel
theorem dX5_keptBits_72 : decode cX5_keptBits 72 = .ok (.l2i, 1) := by decide +kernel
theorem dX5_keptBits_73 : decode cX5_keptBits 73 = .ok (.invokestatic 213, 3) := by decide +kernel
theorem dX5_keptBits_76 : decode cX5_keptBits 76 = .ok (.i2l, 1) := by decide +kernel
theorem dX5_keptBits_77 : decode cX5_keptBits 77 = .ok (.lreturn, 1) := by decide +kernel
theorem dX5_keptBits_78 : decode cX5_keptBits 78 = .ok (.lload_n 1, 1) := by decide +kernel
theorem dX5_keptBits_79 : decode cX5_keptBits 79 = .ok (.invokestatic 216, 3) := by decide +kernel
theorem dX5_keptBits_82 : decode cX5_keptBits 82 = .ok (.lreturn, 1) := by decide +kernel
theorem dX5_keptBits_83 : decode cX5_keptBits 83 = .ok (.lload_n 1, 1) := by decide +kernel
theorem dX5_keptBits_84 : decode cX5_keptBits 84 = .ok (.lreturn, 1) := by decide +kernel
theorem dX5_keptFloat_0 : decode cX5_keptFloat 0 = .ok (.iload_n 0, 1) := by decide +kernel
theorem dX5_keptFloat_1 : decode cX5_keptFloat 1 = .ok (.ldc 222, 2) := by decide +kernel
theorem dX5_keptFloat_3 : decode cX5_keptFloat 3 = .ok (.iand, 1) := by decide +kernel
theorem dX5_keptFloat_4 : decode cX5_keptFloat 4 = .ok (.ldc 223, 2) := by decide +kernel
theorem dX5_keptFloat_6 : decode cX5_keptFloat 6 = .ok (.if_icmp .le 8, 3) := by decide +kernel
theorem dX5_keptFloat_9 : decode cX5_keptFloat 9 = .ok (.ldc 224, 2) := by decide +kernel
theorem dX5_keptFloat_11 : decode cX5_keptFloat 11 = .ok (.goto 4, 3) := by decide +kernel
theorem dX5_keptFloat_14 : decode cX5_keptFloat 14 = .ok (.iload_n 0, 1) := by decide +kernel
theorem dX5_keptFloat_15 : decode cX5_keptFloat 15 = .ok (.ireturn, 1) := by decide +kernel
theorem dX5_keptDouble_0 : decode cX5_keptDouble 0 = .ok (.lload_n 0, 1) := by decide +kernel
theorem dX5_keptDouble_1 : decode cX5_keptDouble 1 = .ok (.ldc2_w 227, 3) := by decide +kernel
theorem dX5_keptDouble_4 : decode cX5_keptDouble 4 = .ok (.land, 1) := by decide +kernel
theorem dX5_keptDouble_5 : decode cX5_keptDouble 5 = .ok (.ldc2_w 229, 3) := by decide +kernel
theorem dX5_keptDouble_8 : decode cX5_keptDouble 8 = .ok (.lcmp, 1) := by decide +kernel
theorem dX5_keptDouble_9 : decode cX5_keptDouble 9 = .ok (.ifCond .le 9, 3) := by decide +kernel
theorem dX5_keptDouble_12 : decode cX5_keptDouble 12 = .ok (.ldc2_w 231, 3) := by decide +kernel
theorem dX5_keptDouble_15 : decode cX5_keptDouble 15 = .ok (.goto 4, 3) := by decide +kernel
theorem dX5_keptDouble_18 : decode cX5_keptDouble 18 = .ok (.lload_n 0, 1) := by decide +kernel
theorem dX5_keptDouble_19 : decode cX5_keptDouble 19 = .ok (.lreturn, 1) := by decide +kernel
theorem dX5_singleItems_0 : decode cX5_singleItems 0 = .ok (.aload_n 0, 1) := by decide +kernel
theorem dX5_singleItems_1 : decode cX5_singleItems 1 = .ok (.instanceof 125, 3) := by decide +kernel
theorem dX5_singleItems_4 : decode cX5_singleItems 4 = .ok (.ifCond .eq 14, 3) := by decide +kernel
theorem dX5_singleItems_7 : decode cX5_singleItems 7 = .ok (.aload_n 0, 1) := by decide +kernel
theorem dX5_singleItems_8 : decode cX5_singleItems 8 = .ok (.checkcast 125, 3) := by decide +kernel
theorem dX5_singleItems_11 : decode cX5_singleItems 11 = .ok (.astore_n 2, 1) := by decide +kernel
theorem dX5_singleItems_12 : decode cX5_singleItems 12 = .ok (.aload_n 2, 1) := by decide +kernel
theorem dX5_singleItems_13 : decode cX5_singleItems 13 = .ok (.getfield 183, 3) := by decide +kernel
theorem dX5_singleItems_16 : decode cX5_singleItems 16 = .ok (.arraylength, 1) := by decide +kernel
theorem dX5_singleItems_17 : decode cX5_singleItems 17 = .ok (.ireturn, 1) := by decide +kernel
theorem dX5_singleItems_18 : decode cX5_singleItems 18 = .ok (.iconst 0, 1) := by decide +kernel
theorem dX5_singleItems_19 : decode cX5_singleItems 19 = .ok (.istore_n 2, 1) := by decide +kernel
theorem dX5_singleItems_20 : decode cX5_singleItems 20 = .ok (.aload_n 0, 1) := by decide +kernel
theorem dX5_singleItems_21 : decode cX5_singleItems 21 = .ok (.instanceof 158, 3) := by decide +kernel
theorem dX5_singleItems_24 : decode cX5_singleItems 24 = .ok (.ifCond .eq 63, 3) := by decide +kernel
theorem dX5_singleItems_27 : decode cX5_singleItems 27 = .ok (.aload_n 0, 1) := by decide +kernel
theorem dX5_singleItems_28 : decode cX5_singleItems 28 = .ok (.checkcast 158, 3) := by decide +kernel
theorem dX5_singleItems_31 : decode cX5_singleItems 31 = .ok (.astore_n 3, 1) := by decide +kernel
theorem dX5_singleItems_32 : decode cX5_singleItems 32 = .ok (.iload_n 1, 1) := by decide +kernel
theorem dX5_singleItems_33 : decode cX5_singleItems 33 = .ok (.ifCond .le 54, 3) := by decide +kernel
theorem dX5_singleItems_36 : decode cX5_singleItems 36 = .ok (.iconst 0, 1) := by decide +kernel
theorem dX5_singleItems_37 : decode cX5_singleItems 37 = .ok (.istore 4, 2) := by decide +kernel
theorem dX5_singleItems_39 : decode cX5_singleItems 39 = .ok (.iload 4, 2) := by decide +kernel
theorem dX5_singleItems_41 : decode cX5_singleItems 41 = .ok (.aload_n 3, 1) := by decide +kernel
theorem dX5_singleItems_42 : decode cX5_singleItems 42 = .ok (.getfield 179, 3) := by decide +kernel
theorem dX5_singleItems_45 : decode cX5_singleItems 45 = .ok (.arraylength, 1) := by decide +kernel
theorem dX5_singleItems_46 : decode cX5_singleItems 46 = .ok (.if_icmp .ge 41, 3) := by decide +kernel
theorem dX5_singleItems_49 : decode cX5_singleItems 49 = .ok (.iload_n 2, 1) := by decide +kernel
theorem dX5_singleItems_50 : decode cX5_singleItems 50 = .ok (.aload_n 3, 1) := by decide +kernel
theorem dX5_singleItems_51 : decode cX5_singleItems 51 = .ok (.getfield 179, 3) := by decide +kernel
theorem dX5_singleItems_54 : decode cX5_singleItems 54 = .ok (.iload 4, 2) := by decide +kernel
theorem dX5_singleItems_56 : decode cX5_singleItems 56 = .ok (.aaload, 1) := by decide +kernel
theorem dX5_singleItems_57 : decode cX5_singleItems 57 = .ok (.instanceof 99, 3) := by decide +kernel
theorem dX5_singleItems_60 : decode cX5_singleItems 60 = .ok (.ifCond .eq 7, 3) := by decide +kernel
theorem dX5_singleItems_63 : decode cX5_singleItems 63 = .ok (.iconst 1, 1) := by decide +kernel
theorem dX5_singleItems_64 : decode cX5_singleItems 64 = .ok (.goto 15, 3) := by decide +kernel
theorem dX5_singleItems_67 : decode cX5_singleItems 67 = .ok (.aload_n 3, 1) := by decide +kernel
theorem dX5_singleItems_68 : decode cX5_singleItems 68 = .ok (.iload 4, 2) := by decide +kernel
theorem dX5_singleItems_70 : decode cX5_singleItems 70 = .ok (.invokestatic 105, 3) := by decide +kernel
theorem dX5_singleItems_73 : decode cX5_singleItems 73 = .ok (.iload_n 1, 1) := by decide +kernel
theorem dX5_singleItems_74 : decode cX5_singleItems 74 = .ok (.iconst 1, 1) := by decide +kernel
theorem dX5_singleItems_75 : decode cX5_singleItems 75 = .ok (.isub, 1) := by decide +kernel
theorem dX5_singleItems_76 : decode cX5_singleItems 76 = .ok (.invokestatic 127, 3) := by decide +kernel
theorem dX5_singleItems_79 : decode cX5_singleItems 79 = .ok (.iadd, 1) := by decide +kernel
theorem dX5_singleItems_80 : decode cX5_singleItems 80 = .ok (.istore_n 2, 1) := by decide +kernel
theorem dX5_singleItems_81 : decode cX5_singleItems 81 = .ok (.iinc 4 1, 3) := by decide +kernel
theorem dX5_singleItems_84 : decode cX5_singleItems 84 = .ok (.goto (-45), 3) := by decide +kernel
theorem dX5_singleItems_87 : decode cX5_singleItems 87 = .ok (.iload_n 2, 1) := by decide +kernel
theorem dX5_singleItems_88 : decode cX5_singleItems 88 = .ok (.ireturn, 1) := by decide +kernel
theorem dX5_areAlike_0 : decode cX5_areAlike 0 = .ok (.aload_n 0, 1) := by decide +kernel
theorem dX5_areAlike_1 : decode cX5_areAlike 1 = .ok (.aload_n 1, 1) := by decide +kernel
theorem dX5_areAlike_2 : decode cX5_areAlike 2 = .ok (.if_acmp .ne 5, 3) := by decide +kernel
theorem dX5_areAlike_5 : decode cX5_areAlike 5 = .ok (.iconst 1, 1) := by decide +kernel
theorem dX5_areAlike_6 : decode cX5_areAlike 6 = .ok (.ireturn, 1) := by decide +kernel
theorem dX5_areAlike_7 : decode cX5_areAlike 7 = .ok (.aload_n 0, 1) := by decide +kernel
theorem dX5_areAlike_8 : decode cX5_areAlike 8 = .ok (.ifnull 11, 3) := by decide +kernel
theorem dX5_areAlike_11 : decode cX5_areAlike 11 = .ok (.aload_n 1, 1) := by decide +kernel
theorem dX5_areAlike_12 : decode cX5_areAlike 12 = .ok (.ifnull 7, 3) := by decide +kernel
theorem dX5_areAlike_15 : decode cX5_areAlike 15 = .ok (.iload_n 2, 1) := by decide +kernel
theorem dX5_areAlike_16 : decode cX5_areAlike 16 = .ok (.ifCond .ne 5, 3) := by decide +kernel
theorem dX5_areAlike_19 : decode cX5_areAlike 19 = .ok (.iconst 0, 1) := by decide +kernel
theorem dX5_areAlike_20 : decode cX5_areAlike 20 = .ok (.ireturn, 1) := by decide +kernel
theorem dX5_areAlike_21 : decode cX5_areAlike 21 = .ok (.aload_n 0, 1) := by decide +kernel
theorem dX5_areAlike_22 : decode cX5_areAlike 22 = .ok (.getfield 57, 3) := by decide +kernel
theorem dX5_areAlike_25 : decode cX5_areAlike 25 = .ok (.aload_n 1, 1) := by decide +kernel
theorem dX5_areAlike_26 : decode cX5_areAlike 26 = .ok (.getfield 57, 3) := by decide +kernel
theorem dX5_areAlike_29 : decode cX5_areAlike 29 = .ok (.if_icmp .ne 14, 3) := by decide +kernel
theorem dX5_areAlike_32 : decode cX5_areAlike 32 = .ok (.aload_n 0, 1) := by decide +kernel
theorem dX5_areAlike_33 : decode cX5_areAlike 33 = .ok (.invokevirtual 64, 3) := by decide +kernel
theorem dX5_areAlike_36 : decode cX5_areAlike 36 = .ok (.aload_n 1, 1) := by decide +kernel
theorem dX5_areAlike_37 : decode cX5_areAlike 37 = .ok (.invokevirtual 64, 3) := by decide +kernel
theorem dX5_areAlike_40 : decode cX5_areAlike 40 = .ok (.if_icmp .eq 5, 3) := by decide +kernel
theorem dX5_areAlike_43 : decode cX5_areAlike 43 = .ok (.iconst 0, 1) := by decide +kernel
theorem dX5_areAlike_44 : decode cX5_areAlike 44 = .ok (.ireturn, 1) := by decide +kernel
theorem dX5_areAlike_45 : decode cX5_areAlike 45 = .ok (.aload_n 0, 1) := by decide +kernel
theorem dX5_areAlike_46 : decode cX5_areAlike 46 = .ok (.instanceof 125, 3) := by decide +kernel
theorem dX5_areAlike_49 : decode cX5_areAlike 49 = .ok (.ifCond .eq 28, 3) := by decide +kernel
theorem dX5_areAlike_52 : decode cX5_areAlike 52 = .ok (.aload_n 0, 1) := by decide +kernel
theorem dX5_areAlike_53 : decode cX5_areAlike 53 = .ok (.checkcast 125, 3) := by decide +kernel
theorem dX5_areAlike_56 : decode cX5_areAlike 56 = .ok (.astore_n 3, 1) := by decide +kernel
theorem dX5_areAlike_57 : decode cX5_areAlike 57 = .ok (.aload_n 1, 1) := by decide +kernel
theorem dX5_areAlike_58 : decode cX5_areAlike 58 = .ok (.instanceof 125, 3) := by decide +kernel
theorem dX5_areAlike_61 : decode cX5_areAlike 61 = .ok (.ifCond .eq 16, 3) := by decide +kernel
theorem dX5_areAlike_64 : decode cX5_areAlike 64 = .ok (.aload_n 1, 1) := by decide +kernel
theorem dX5_areAlike_65 : decode cX5_areAlike 65 = .ok (.checkcast 125, 3) := by decide +kernel
theorem dX5_areAlike_68 : decode cX5_areAlike 68 = .ok (.astore 4, 2) := by decide +kernel
theorem dX5_areAlike_70 : decode cX5_areAlike 70 = .ok (.aload_n 3, 1) := by decide +kernel
theorem dX5_areAlike_71 : decode cX5_areAlike 71 = .ok (.aload 4, 2) := by decide +kernel
theorem dX5_areAlike_73 : decode cX5_areAlike 73 = .ok (.invokestatic 233, 3) := by decide +kernel
theorem dX5_areAlike_76 : decode cX5_areAlike 76 = .ok (.ireturn, 1) := by decide +kernel
theorem dX5_areAlike_77 : decode cX5_areAlike 77 = .ok (.iconst 0, 1) := by decide +kernel
theorem dX5_areAlike_78 : decode cX5_areAlike 78 = .ok (.istore_n 3, 1) := by decide +kernel
theorem dX5_areAlike_79 : decode cX5_areAlike 79 = .ok (.iload_n 3, 1) := by decide +kernel
theorem dX5_areAlike_80 : decode cX5_areAlike 80 = .ok (.aload_n 0, 1) := by decide +kernel
theorem dX5_areAlike_81 : decode cX5_areAlike 81 = .ok (.invokevirtual 64, 3) := by decide +kernel
theorem dX5_areAlike_84 : decode cX5_areAlike 84 = .ok (.if_icmp .ge 28, 3) := by decide +kernel
theorem dX5_areAlike_87 : decode cX5_areAlike 87 = .ok (.aload_n 0, 1) := by decide +kernel
theorem dX5_areAlike_88 : decode cX5_areAlike 88 = .ok (.iload_n 3, 1) := by decide +kernel
theorem dX5_areAlike_89 : decode cX5_areAlike 89 = .ok (.invokestatic 95, 3) := by decide +kernel
theorem dX5_areAlike_92 : decode cX5_areAlike 92 = .ok (.aload_n 1, 1) := by decide +kernel
theorem dX5_areAlike_93 : decode cX5_areAlike 93 = .ok (.iload_n 3, 1) := by decide +kernel
theorem dX5_areAlike_94 : decode cX5_areAlike 94 = .ok (.invokestatic 95, 3) := by decide +kernel
theorem dX5_areAlike_97 : decode cX5_areAlike 97 = .ok (.iload_n 2, 1) := by decide +kernel
theorem dX5_areAlike_98 : decode cX5_areAlike 98 = .ok (.invokestatic 237, 3) := by decide +kernel
theorem dX5_areAlike_101 : decode cX5_areAlike 101 = .ok (.ifCond .ne 5, 3) := by decide +kernel
theorem dX5_areAlike_104 : decode cX5_areAlike 104 = .ok (.iconst 0, 1) := by decide +kernel
theorem dX5_areAlike_105 : decode cX5_areAlike 105 = .ok (.ireturn, 1) := by decide +kernel
theorem dX5_areAlike_106 : decode cX5_areAlike 106 = .ok (.iinc 3 1, 3) := by decide +kernel
theorem dX5_areAlike_109 : decode cX5_areAlike 109 = .ok (.goto (-30), 3) := by decide +kernel
theorem dX5_areAlike_112 : decode cX5_areAlike 112 = .ok (.iconst 1, 1) := by decide +kernel
theorem dX5_areAlike_113 : decode cX5_areAlike 113 = .ok (.ireturn, 1) := by decide +kernel
theorem dX5_haveSameBits_0 : decode cX5_haveSameBits 0 = .ok (.iconst 0, 1) := by decide +kernel
theorem dX5_haveSameBits_1 : decode cX5_haveSameBits 1 = .ok (.istore_n 2, 1) := by decide +kernel
theorem dX5_haveSameBits_2 : decode cX5_haveSameBits 2 = .ok (.iload_n 2, 1) := by decide +kernel
theorem dX5_haveSameBits_3 : decode cX5_haveSameBits 3 = .ok (.aload_n 0, 1) := by decide +kernel
theorem dX5_haveSameBits_4 : decode cX5_haveSameBits 4 = .ok (.getfield 183, 3) := by decide +kernel
theorem dX5_haveSameBits_7 : decode cX5_haveSameBits 7 = .ok (.arraylength, 1) := by decide +kernel
theorem dX5_haveSameBits_8 : decode cX5_haveSameBits 8 = .ok (.if_icmp .ge 36, 3) := by decide +kernel
theorem dX5_haveSameBits_11 : decode cX5_haveSameBits 11 = .ok (.iload_n 2, 1) := by decide +kernel
theorem dX5_haveSameBits_12 : decode cX5_haveSameBits 12 = .ok (.aload_n 1, 1) := by decide +kernel
theorem dX5_haveSameBits_13 : decode cX5_haveSameBits 13 = .ok (.getfield 183, 3) := by decide +kernel
theorem dX5_haveSameBits_16 : decode cX5_haveSameBits 16 = .ok (.arraylength, 1) := by decide +kernel
theorem dX5_haveSameBits_17 : decode cX5_haveSameBits 17 = .ok (.if_icmp .ge 27, 3) := by decide +kernel
theorem dX5_haveSameBits_20 : decode cX5_haveSameBits 20 = .ok (.aload_n 0, 1) := by decide +kernel
theorem dX5_haveSameBits_21 : decode cX5_haveSameBits 21 = .ok (.getfield 183, 3) := by decide +kernel
theorem dX5_haveSameBits_24 : decode cX5_haveSameBits 24 = .ok (.iload_n 2, 1) := by decide +kernel
theorem dX5_haveSameBits_25 : decode cX5_haveSameBits 25 = .ok (.laload, 1) := by decide +kernel
theorem dX5_haveSameBits_26 : decode cX5_haveSameBits 26 = .ok (.aload_n 1, 1) := by decide +kernel
theorem dX5_haveSameBits_27 : decode cX5_haveSameBits 27 = .ok (.getfield 183, 3) := by decide +kernel
theorem dX5_haveSameBits_30 : decode cX5_haveSameBits 30 = .ok (.iload_n 2, 1) := by decide +kernel
theorem dX5_haveSameBits_31 : decode cX5_haveSameBits 31 = .ok (.laload, 1) := by decide +kernel
theorem dX5_haveSameBits_32 : decode cX5_haveSameBits 32 = .ok (.lcmp, 1) := by decide +kernel
theorem dX5_haveSameBits_33 : decode cX5_haveSameBits 33 = .ok (.ifCond .eq 5, 3) := by decide +kernel
theorem dX5_haveSameBits_36 : decode cX5_haveSameBits 36 = .ok (.iconst 0, 1) := by decide +kernel
theorem dX5_haveSameBits_37 : decode cX5_haveSameBits 37 = .ok (.ireturn, 1) := by decide +kernel
theorem dX5_haveSameBits_38 : decode cX5_haveSameBits 38 = .ok (.iinc 2 1, 3) := by decide +kernel
theorem dX5_haveSameBits_41 : decode cX5_haveSameBits 41 = .ok (.goto (-39), 3) := by decide +kernel
theorem dX5_haveSameBits_44 : decode cX5_haveSameBits 44 = .ok (.aload_n 0, 1) := by decide +kernel
theorem dX5_haveSameBits_45 : decode cX5_haveSameBits 45 = .ok (.getfield 183, 3) := by decide +kernel
theorem dX5_haveSameBits_48 : decode cX5_haveSameBits 48 = .ok (.arraylength, 1) := by decide +kernel
theorem dX5_haveSameBits_49 : decode cX5_haveSameBits 49 = .ok (.aload_n 1, 1) := by decide +kernel
theorem dX5_haveSameBits_50 : decode cX5_haveSameBits 50 = .ok (.getfield 183, 3) := by decide +kernel
theorem dX5_haveSameBits_53 : decode cX5_haveSameBits 53 = .ok (.arraylength, 1) := by decide +kernel
theorem dX5_haveSameBits_54 : decode cX5_haveSameBits 54 = .ok (.if_icmp .ne 7, 3) := by decide +kernel
theorem dX5_haveSameBits_57 : decode cX5_haveSameBits 57 = .ok (.iconst 1, 1) := by decide +kernel
theorem dX5_haveSameBits_58 : decode cX5_haveSameBits 58 = .ok (.goto 4, 3) := by decide +kernel
theorem dX5_haveSameBits_61 : decode cX5_haveSameBits 61 = .ok (.iconst 0, 1) := by decide +kernel
theorem dX5_haveSameBits_62 : decode cX5_haveSameBits 62 = .ok (.ireturn, 1) := by decide +kernel
theorem dX5_areItemsAlike_0 : decode cX5_areItemsAlike 0 = .ok (.aload_n 0, 1) := by decide +kernel
theorem dX5_areItemsAlike_1 : decode cX5_areItemsAlike 1 = .ok (.instanceof 99, 3) := by decide +kernel
theorem dX5_areItemsAlike_4 : decode cX5_areItemsAlike 4 = .ok (.ifCond .eq 51, 3) := by decide +kernel
theorem dX5_areItemsAlike_7 : decode cX5_areItemsAlike 7 = .ok (.aload_n 0, 1) := by decide +kernel
theorem dX5_areItemsAlike_8 : decode cX5_areItemsAlike 8 = .ok (.checkcast 99, 3) := by decide +kernel
theorem dX5_areItemsAlike_11 : decode cX5_areItemsAlike 11 = .ok (.astore_n 3, 1) := by decide +kernel
theorem dX5_areItemsAlike_12 : decode cX5_areItemsAlike 12 = .ok (.aload_n 1, 1) := by decide +kernel
theorem dX5_areItemsAlike_13 : decode cX5_areItemsAlike 13 = .ok (.instanceof 99, 3) := by decide +kernel
theorem dX5_areItemsAlike_16 : decode cX5_areItemsAlike 16 = .ok (.ifCond .eq 39, 3) := by decide +kernel
theorem dX5_areItemsAlike_19 : decode cX5_areItemsAlike 19 = .ok (.aload_n 1, 1) := by decide +kernel
theorem dX5_areItemsAlike_20 : decode cX5_areItemsAlike 20 = .ok (.checkcast 99, 3) := by decide +kernel
theorem dX5_areItemsAlike_23 : decode cX5_areItemsAlike 23 = .ok (.astore 4, 2) := by decide +kernel
theorem dX5_areItemsAlike_25 : decode cX5_areItemsAlike 25 = .ok (.aload_n 3, 1) := by decide +kernel
theorem dX5_areItemsAlike_26 : decode cX5_areItemsAlike 26 = .ok (.getfield 187, 3) := by decide +kernel
theorem dX5_areItemsAlike_29 : decode cX5_areItemsAlike 29 = .ok (.aload 4, 2) := by decide +kernel
theorem dX5_areItemsAlike_31 : decode cX5_areItemsAlike 31 = .ok (.getfield 187, 3) := by decide +kernel
theorem dX5_areItemsAlike_34 : decode cX5_areItemsAlike 34 = .ok (.if_icmp .ne 19, 3) := by decide +kernel
theorem dX5_areItemsAlike_37 : decode cX5_areItemsAlike 37 = .ok (.aload_n 3, 1) := by decide +kernel
theorem dX5_areItemsAlike_38 : decode cX5_areItemsAlike 38 = .ok (.getfield 101, 3) := by decide +kernel
theorem dX5_areItemsAlike_41 : decode cX5_areItemsAlike 41 = .ok (.aload 4, 2) := by decide +kernel
theorem dX5_areItemsAlike_43 : decode cX5_areItemsAlike 43 = .ok (.getfield 101, 3) := by decide +kernel
theorem dX5_areItemsAlike_46 : decode cX5_areItemsAlike 46 = .ok (.if_icmp .ne 7, 3) := by decide +kernel
theorem dX5_areItemsAlike_49 : decode cX5_areItemsAlike 49 = .ok (.iconst 1, 1) := by decide +kernel
theorem dX5_areItemsAlike_50 : decode cX5_areItemsAlike 50 = .ok (.goto 4, 3) := by decide +kernel
theorem dX5_areItemsAlike_53 : decode cX5_areItemsAlike 53 = .ok (.iconst 0, 1) := by decide +kernel
theorem dX5_areItemsAlike_54 : decode cX5_areItemsAlike 54 = .ok (.ireturn, 1) := by decide +kernel
theorem dX5_areItemsAlike_55 : decode cX5_areItemsAlike 55 = .ok (.aload_n 0, 1) := by decide +kernel
theorem dX5_areItemsAlike_56 : decode cX5_areItemsAlike 56 = .ok (.instanceof 9, 3) := by decide +kernel
theorem dX5_areItemsAlike_59 : decode cX5_areItemsAlike 59 = .ok (.ifCond .eq 31, 3) := by decide +kernel
theorem dX5_areItemsAlike_62 : decode cX5_areItemsAlike 62 = .ok (.aload_n 0, 1) := by decide +kernel
theorem dX5_areItemsAlike_63 : decode cX5_areItemsAlike 63 = .ok (.checkcast 9, 3) := by decide +kernel
theorem dX5_areItemsAlike_66 : decode cX5_areItemsAlike 66 = .ok (.astore_n 3, 1) := by decide +kernel
theorem dX5_areItemsAlike_67 : decode cX5_areItemsAlike 67 = .ok (.aload_n 1, 1) := by decide +kernel
theorem dX5_areItemsAlike_68 : decode cX5_areItemsAlike 68 = .ok (.instanceof 9, 3) := by decide +kernel
theorem dX5_areItemsAlike_71 : decode cX5_areItemsAlike 71 = .ok (.ifCond .eq 19, 3) := by decide +kernel
theorem dX5_areItemsAlike_74 : decode cX5_areItemsAlike 74 = .ok (.aload_n 1, 1) := by decide +kernel
theorem dX5_areItemsAlike_75 : decode cX5_areItemsAlike 75 = .ok (.checkcast 9, 3) := by decide +kernel
theorem dX5_areItemsAlike_78 : decode cX5_areItemsAlike 78 = .ok (.astore 4, 2) := by decide +kernel
theorem dX5_areItemsAlike_80 : decode cX5_areItemsAlike 80 = .ok (.aload_n 3, 1) := by decide +kernel
theorem dX5_areItemsAlike_81 : decode cX5_areItemsAlike 81 = .ok (.aload 4, 2) := by decide +kernel
theorem dX5_areItemsAlike_83 : decode cX5_areItemsAlike 83 = .ok (.iload_n 2, 1) := by decide +kernel
theorem dX5_areItemsAlike_84 : decode cX5_areItemsAlike 84 = .ok (.iconst 1, 1) := by decide +kernel
theorem dX5_areItemsAlike_85 : decode cX5_areItemsAlike 85 = .ok (.isub, 1) := by decide +kernel
theorem dX5_areItemsAlike_86 : decode cX5_areItemsAlike 86 = .ok (.invokestatic 130, 3) := by decide +kernel
theorem dX5_areItemsAlike_89 : decode cX5_areItemsAlike 89 = .ok (.ireturn, 1) := by decide +kernel
theorem dX5_areItemsAlike_90 : decode cX5_areItemsAlike 90 = .ok (.aload_n 0, 1) := by decide +kernel
theorem dX5_areItemsAlike_91 : decode cX5_areItemsAlike 91 = .ok (.ifnonnull 11, 3) := by decide +kernel
theorem dX5_areItemsAlike_94 : decode cX5_areItemsAlike 94 = .ok (.aload_n 1, 1) := by decide +kernel
theorem dX5_areItemsAlike_95 : decode cX5_areItemsAlike 95 = .ok (.ifnonnull 7, 3) := by decide +kernel
theorem dX5_areItemsAlike_98 : decode cX5_areItemsAlike 98 = .ok (.iconst 1, 1) := by decide +kernel
theorem dX5_areItemsAlike_99 : decode cX5_areItemsAlike 99 = .ok (.goto 4, 3) := by decide +kernel
theorem dX5_areItemsAlike_102 : decode cX5_areItemsAlike 102 = .ok (.iconst 0, 1) := by decide +kernel
theorem dX5_areItemsAlike_103 : decode cX5_areItemsAlike 103 = .ok (.ireturn, 1) := by decide +kernel
theorem dJ9_max_7cf53_0 : decode cJ9_max_7cf53 0 = .ok (.iload_n 0, 1) := by decide +kernel
theorem dJ9_max_7cf53_1 : decode cJ9_max_7cf53 1 = .ok (.iload_n 1, 1) := by decide +kernel
theorem dJ9_max_7cf53_2 : decode cJ9_max_7cf53 2 = .ok (.if_icmp .lt 7, 3) := by decide +kernel
theorem dJ9_max_7cf53_5 : decode cJ9_max_7cf53 5 = .ok (.iload_n 0, 1) := by decide +kernel
theorem dJ9_max_7cf53_6 : decode cJ9_max_7cf53 6 = .ok (.goto 4, 3) := by decide +kernel
theorem dJ9_max_7cf53_9 : decode cJ9_max_7cf53 9 = .ok (.iload_n 1, 1) := by decide +kernel
theorem dJ9_max_7cf53_10 : decode cJ9_max_7cf53 10 = .ok (.ireturn, 1) := by decide +kernel
theorem dJ9_min_7cf53_0 : decode cJ9_min_7cf53 0 = .ok (.iload_n 0, 1) := by decide +kernel
theorem dJ9_min_7cf53_1 : decode cJ9_min_7cf53 1 = .ok (.iload_n 1, 1) := by decide +kernel
theorem dJ9_min_7cf53_2 : decode cJ9_min_7cf53 2 = .ok (.if_icmp .gt 7, 3) := by decide +kernel
theorem dJ9_min_7cf53_5 : decode cJ9_min_7cf53 5 = .ok (.iload_n 0, 1) := by decide +kernel
theorem dJ9_min_7cf53_6 : decode cJ9_min_7cf53 6 = .ok (.goto 4, 3) := by decide +kernel
theorem dJ9_min_7cf53_9 : decode cJ9_min_7cf53 9 = .ok (.iload_n 1, 1) := by decide +kernel
theorem dJ9_min_7cf53_10 : decode cJ9_min_7cf53 10 = .ok (.ireturn, 1) := by decide +kernel
end
section
theorem dX6_init_0 : decode cX6_init 0 = .ok (.aload_n 0, 1) := by decide +kernel
theorem dX6_init_1 : decode cX6_init 1 = .ok (.invokespecial 1, 3) := by decide +kernel
theorem dX6_init_4 : decode cX6_init 4 = .ok (.aload_n 0, 1) := by decide +kernel
theorem dX6_init_5 : decode cX6_init 5 = .ok (.sipush 13000, 3) := by decide +kernel
theorem dX6_init_8 : decode cX6_init 8 = .ok (.newarray .byte, 2) := by decide +kernel
theorem dX6_init_10 : decode cX6_init 10 = .ok (.putfield 7, 3) := by decide +kernel
theorem dX6_init_13 : decode cX6_init 13 = .ok (.aload_n 0, 1) := by decide +kernel
theorem dX6_init_14 : decode cX6_init 14 = .ok (.sipush 13000, 3) := by decide +kernel
theorem dX6_init_17 : decode cX6_init 17 = .ok (.newarray .byte, 2) := by decide +kernel
theorem dX6_init_19 : decode cX6_init 19 = .ok (.putfield 13, 3) := by decide +kernel
theorem dX6_init_22 : decode cX6_init 22 = .ok (.aload_n 0, 1) := by decide +kernel
theorem dX6_init_23 : decode cX6_init 23 = .ok (.sipush 13000, 3) := by decide +kernel
theorem dX6_init_26 : decode cX6_init 26 = .ok (.newarray .int, 2) := by decide +kernel
theorem dX6_init_28 : decode cX6_init 28 = .ok (.putfield 16, 3) := by decide +kernel
theorem dX6_init_31 : decode cX6_init 31 = .ok (.aload_n 0, 1) := by decide +kernel
theorem dX6_init_32 : decode cX6_init 32 = .ok (.sipush 12200, 3) := by decide +kernel
theorem dX6_init_35 : decode cX6_init 35 = .ok (.newarray .long, 2) := by decide +kernel
theorem dX6_init_37 : decode cX6_init 37 = .ok (.putfield 20, 3) := by decide +kernel
theorem dX6_init_40 : decode cX6_init 40 = .ok (.aload_n 0, 1) := by decide +kernel
theorem dX6_init_41 : decode cX6_init 41 = .ok (.sipush 3100, 3) := by decide +kernel
theorem dX6_init_44 : decode cX6_init 44 = .ok (.newarray .int, 2) := by decide +kernel
theorem dX6_init_46 : decode cX6_init 46 = .ok (.putfield 24, 3) := by decide +kernel
theorem dX6_init_49 : decode cX6_init 49 = .ok (.aload_n 0, 1) := by decide +kernel
theorem dX6_init_50 : decode cX6_init 50 = .ok (.sipush 3100, 3) := by decide +kernel
theorem dX6_init_53 : decode cX6_init 53 = .ok (.newarray .boolean, 2) := by decide +kernel
theorem dX6_init_55 : decode cX6_init 55 = .ok (.putfield 27, 3) := by decide +kernel
theorem dX6_init_58 : decode cX6_init 58 = .ok (.aload_n 0, 1) := by decide +kernel
theorem dX6_init_59 : decode cX6_init 59 = .ok (.bipush 16, 2) := by decide +kernel
theorem dX6_init_61 : decode cX6_init 61 = .ok (.newarray .int, 2) := by decide +kernel
theorem dX6_init_63 : decode cX6_init 63 = .ok (.putfield 31, 3) := by decide +kernel
theorem dX6_init_66 : decode cX6_init 66 = .ok (.aload_n 0, 1) := by decide +kernel
theorem dX6_init_67 : decode cX6_init 67 = .ok (.bipush 8, 2) := by decide +kernel
theorem dX6_init_69 : decode cX6_init 69 = .ok (.newarray .int, 2) := by decide +kernel
theorem dX6_init_71 : decode cX6_init 71 = .ok (.dup, 1) := by decide +kernel
theorem dX6_init_72 : decode cX6_init 72 = .ok (.iconst 0, 1) := by decide +kernel
theorem dX6_init_73 : decode cX6_init 73 = .ok (.iconst (-1), 1) := by decide +kernel
theorem dX6_init_74 : decode cX6_init 74 = .ok (.iastore, 1) := by decide +kernel
theorem dX6_init_75 : decode cX6_init 75 = .ok (.dup, 1) := by decide +kernel
theorem dX6_init_76 : decode cX6_init 76 = .ok (.iconst 1, 1) := by decide +kernel
theorem dX6_init_77 : decode cX6_init 77 = .ok (.iconst (-1), 1) := by decide +kernel
theorem dX6_init_78 : decode cX6_init 78 = .ok (.iastore, 1) := by decide +kernel
theorem dX6_init_79 : decode cX6_init 79 = .ok (.dup, 1) := by decide +kernel
theorem dX6_init_80 : decode cX6_init 80 = .ok (.iconst 2, 1) := by decide +kernel
theorem dX6_init_81 : decode cX6_init 81 = .ok (.iconst (-1), 1) := by decide +kernel
theorem dX6_init_82 : decode cX6_init 82 = .ok (.iastore, 1) := by decide +kernel
theorem dX6_init_83 : decode cX6_init 83 = .ok (.dup, 1) := by decide +kernel
theorem dX6_init_84 : decode cX6_init 84 = .ok (.iconst 3, 1) := by decide +kernel
theorem dX6_init_85 : decode cX6_init 85 = .ok (.iconst (-1), 1) := by decide +kernel
theorem dX6_init_86 : decode cX6_init 86 = .ok (.iastore, 1) := by decide +kernel
theorem dX6_init_87 : decode cX6_init 87 = .ok (.dup, 1) := by decide +kernel
theorem dX6_init_88 : decode cX6_init 88 = .ok (.iconst 4, 1) := by decide +kernel
theorem dX6_init_89 : decode cX6_init 89 = .ok (.iconst (-1), 1) := by decide +kernel
theorem dX6_init_90 : decode cX6_init 90 = .ok (.iastore, 1) := by decide +kernel
theorem dX6_init_91 : decode cX6_init 91 = .ok (.dup, 1) := by decide +kernel
theorem dX6_init_92 : decode cX6_init 92 = .ok (.iconst 5, 1) := by decide +kernel
theorem dX6_init_93 : decode cX6_init 93 = .ok (.iconst (-1), 1) := by decide +kernel
theorem dX6_init_94 : decode cX6_init 94 = .ok (.iastore, 1) := by decide +kernel
theorem dX6_init_95 : decode cX6_init 95 = .ok (.dup, 1) := by decide +kernel
theorem dX6_init_96 : decode cX6_init 96 = .ok (.bipush 6, 2) := by decide +kernel
theorem dX6_init_98 : decode cX6_init 98 = .ok (.iconst (-1), 1) := by decide +kernel
theorem dX6_init_99 : decode cX6_init 99 = .ok (.iastore, 1) := by decide +kernel
theorem dX6_init_100 : decode cX6_init 100 = .ok (.dup, 1) := by decide +kernel
theorem dX6_init_101 : decode cX6_init 101 = .ok (.bipush 7, 2) := by decide +kernel
theorem dX6_init_103 : decode cX6_init 103 = .ok (.iconst (-1), 1) := by decide +kernel
theorem dX6_init_104 : decode cX6_init 104 = .ok (.iastore, 1) := by decide +kernel
theorem dX6_init_105 : decode cX6_init 105 = .ok (.putfield 34, 3) := by decide +kernel
theorem dX6_init_108 : decode cX6_init 108 = .ok (.aload_n 0, 1) := by decide +kernel
theorem dX6_init_109 : decode cX6_init 109 = .ok (.iconst (-1), 1) := by decide +kernel
theorem dX6_init_110 : decode cX6_init 110 = .ok (.putfield 37, 3) := by decide +kernel
theorem dX6_init_113 : decode cX6_init 113 = .ok (.aload_n 0, 1) := by decide +kernel
theorem dX6_init_114 : decode cX6_init 114 = .ok (.sipush 13000, 3) := by decide +kernel
theorem dX6_init_117 : decode cX6_init 117 = .ok (.newarray .int, 2) := by decide +kernel
theorem dX6_init_119 : decode cX6_init 119 = .ok (.putfield 41, 3) := by decide +kernel
theorem dX6_init_122 : decode cX6_init 122 = .ok (.aload_n 0, 1) := by decide +kernel
theorem dX6_init_123 : decode cX6_init 123 = .ok (.bipush 30, 2) := by decide +kernel
theorem dX6_init_125 : decode cX6_init 125 = .ok (.newarray .long, 2) := by decide +kernel
theorem dX6_init_127 : decode cX6_init 127 = .ok (.putfield 44, 3) := by decide +kernel
theorem dX6_init_130 : decode cX6_init 130 = .ok (.return_, 1) := by decide +kernel
theorem dX6_in_0 : decode cX6_in 0 = .ok (.iload_n 0, 1) := by decide +kernel
theorem dX6_in_1 : decode cX6_in 1 = .ok (.iload_n 1, 1) := by decide +kernel
theorem dX6_in_2 : decode cX6_in 2 = .ok (.if_icmp .lt 12, 3) := by decide +kernel
theorem dX6_in_5 : decode cX6_in 5 = .ok (.iload_n 0, 1) := by decide +kernel
theorem dX6_in_6 : decode cX6_in 6 = .ok (.iload_n 2, 1) := by decide +kernel
theorem dX6_in_7 : decode cX6_in 7 = .ok (.if_icmp .gt 7, 3) := by decide +kernel
theorem dX6_in_10 : decode cX6_in 10 = .ok (.iconst 1, 1) := by decide +kernel
theorem dX6_in_11 : decode cX6_in 11 = .ok (.goto 4, 3) := by decide +kernel
theorem dX6_in_14 : decode cX6_in 14 = .ok (.iconst 0, 1) := by decide +kernel
theorem dX6_in_15 : decode cX6_in 15 = .ok (.ireturn, 1) := by decide +kernel
theorem dX6_isColumn_0 : decode cX6_isColumn 0 = .ok (.iload_n 0, 1) := by decide +kernel
theorem dX6_isColumn_1 : decode cX6_isColumn 1 = .ok (.ifCond .lt 13, 3) := by decide +kernel
theorem dX6_isColumn_4 : decode cX6_isColumn 4 = .ok (.iload_n 0, 1) := by decide +kernel
theorem dX6_isColumn_5 : decode cX6_isColumn 5 = .ok (.bipush 15, 2) := by decide +kernel
theorem dX6_isColumn_7 : decode cX6_isColumn 7 = .ok (.if_icmp .gt 7, 3) := by decide +kernel
theorem dX6_isColumn_10 : decode cX6_isColumn 10 = .ok (.iconst 1, 1) := by decide +kernel
theorem dX6_isColumn_11 : decode cX6_isColumn 11 = .ok (.goto 4, 3) := by decide +kernel
theorem dX6_isColumn_14 : decode cX6_isColumn 14 = .ok (.iconst 0, 1) := by decide +kernel
theorem dX6_isColumn_15 : decode cX6_isColumn 15 = .ok (.ireturn, 1) := by decide +kernel
theorem dX6_answer_0 : decode cX6_answer 0 = .ok (.bipush (-10), 2) := by decide +kernel
theorem dX6_answer_2 : decode cX6_answer 2 = .ok (.iload_n 0, 1) := by decide +kernel
theorem dX6_answer_3 : decode cX6_answer 3 = .ok (.isub, 1) := by decide +kernel
theorem dX6_answer_4 : decode cX6_answer 4 = .ok (.ireturn, 1) := by decide +kernel
theorem dX6_table_0 : decode cX6_table 0 = .ok (.aload_n 0, 1) := by decide +kernel
theorem dX6_table_1 : decode cX6_table 1 = .ok (.dup, 1) := by decide +kernel
theorem dX6_table_2 : decode cX6_table 2 = .ok (.getfield 47, 3) := by decide +kernel
theorem dX6_table_5 : decode cX6_table 5 = .ok (.iconst 1, 1) := by decide +kernel
theorem dX6_table_6 : decode cX6_table 6 = .ok (.iadd, 1) := by decide +kernel
theorem dX6_table_7 : decode cX6_table 7 = .ok (.putfield 47, 3) := by decide +kernel
theorem dX6_table_10 : decode cX6_table 10 = .ok (.aload_n 0, 1) := by decide +kernel
theorem dX6_table_11 : decode cX6_table 11 = .ok (.getfield 7, 3) := by decide +kernel
theorem dX6_table_14 : decode cX6_table 14 = .ok (.aload_n 0, 1) := by decide +kernel
theorem dX6_table_15 : decode cX6_table 15 = .ok (.getfield 47, 3) := by decide +kernel
theorem dX6_table_18 : decode cX6_table 18 = .ok (.iload_n 1, 1) := by decide +kernel
theorem dX6_table_19 : decode cX6_table 19 = .ok (.i2b, 1) := by decide +kernel
theorem dX6_table_20 : decode cX6_table 20 = .ok (.bastore, 1) := by decide +kernel
theorem dX6_table_21 : decode cX6_table 21 = .ok (.aload_n 0, 1) := by decide +kernel
theorem dX6_table_22 : decode cX6_table 22 = .ok (.getfield 13, 3) := by decide +kernel
theorem dX6_table_25 : decode cX6_table 25 = .ok (.aload_n 0, 1) := by decide +kernel
theorem dX6_table_26 : decode cX6_table 26 = .ok (.getfield 47, 3) := by decide +kernel
theorem dX6_table_29 : decode cX6_table 29 = .ok (.iload_n 2, 1) := by decide +kernel
theorem dX6_table_30 : decode cX6_table 30 = .ok (.i2b, 1) := by decide +kernel
theorem dX6_table_31 : decode cX6_table 31 = .ok (.bastore, 1) := by decide +kernel
theorem dX6_table_32 : decode cX6_table 32 = .ok (.aload_n 0, 1) := by decide +kernel
theorem dX6_table_33 : decode cX6_table 33 = .ok (.getfield 16, 3) := by decide +kernel
theorem dX6_table_36 : decode cX6_table 36 = .ok (.aload_n 0, 1) := by decide +kernel
theorem dX6_table_37 : decode cX6_table 37 = .ok (.getfield 47, 3) := by decide +kernel
theorem dX6_table_40 : decode cX6_table 40 = .ok (.aload_n 0, 1) := by decide +kernel
theorem dX6_table_41 : decode cX6_table 41 = .ok (.getfield 50, 3) := by decide +kernel
theorem dX6_table_44 : decode cX6_table 44 = .ok (.iastore, 1) := by decide +kernel
theorem dX6_table_45 : decode cX6_table 45 = .ok (.iconst 0, 1) := by decide +kernel
theorem dX6_table_46 : decode cX6_table 46 = .ok (.istore_n 3, 1) := by decide +kernel
theorem dX6_table_47 : decode cX6_table 47 = .ok (.iload_n 3, 1) := by decide +kernel
theorem dX6_table_48 : decode cX6_table 48 = .ok (.iload_n 2, 1) := by decide +kernel
theorem dX6_table_49 : decode cX6_table 49 = .ok (.if_icmp .ge 29, 3) := by decide +kernel
theorem dX6_table_52 : decode cX6_table 52 = .ok (.aload_n 0, 1) := by decide +kernel
theorem dX6_table_53 : decode cX6_table 53 = .ok (.getfield 20, 3) := by decide +kernel
theorem dX6_table_56 : decode cX6_table 56 = .ok (.aload_n 0, 1) := by decide +kernel
theorem dX6_table_57 : decode cX6_table 57 = .ok (.getfield 50, 3) := by decide +kernel
theorem dX6_table_60 : decode cX6_table 60 = .ok (.lconst 0, 1) := by decide +kernel
theorem dX6_table_61 : decode cX6_table 61 = .ok (.lastore, 1) := by decide +kernel
theorem dX6_table_62 : decode cX6_table 62 = .ok (.aload_n 0, 1) := by decide +kernel
theorem dX6_table_63 : decode cX6_table 63 = .ok (.dup, 1) := by decide +kernel
theorem dX6_table_64 : decode cX6_table 64 = .ok (.getfield 50, 3) := by decide +kernel
theorem dX6_table_67 : decode cX6_table 67 = .ok (.iconst 1, 1) := by decide +kernel
theorem dX6_table_68 : decode cX6_table 68 = .ok (.iadd, 1) := by decide +kernel
theorem dX6_table_69 : decode cX6_table 69 = .ok (.putfield 50, 3) := by decide +kernel
theorem dX6_table_72 : decode cX6_table 72 = .ok (.iinc 3 1, 3) := by decide +kernel
theorem dX6_table_75 : decode cX6_table 75 = .ok (.goto (-28), 3) := by decide +kernel
theorem dX6_table_78 : decode cX6_table 78 = .ok (.aload_n 0, 1) := by decide +kernel
theorem dX6_table_79 : decode cX6_table 79 = .ok (.getfield 47, 3) := by decide +kernel
theorem dX6_table_82 : decode cX6_table 82 = .ok (.ireturn, 1) := by decide +kernel
theorem dX6_at_0 : decode cX6_at 0 = .ok (.aload_n 0, 1) := by decide +kernel
theorem dX6_at_1 : decode cX6_at 1 = .ok (.getfield 20, 3) := by decide +kernel
theorem dX6_at_4 : decode cX6_at 4 = .ok (.aload_n 0, 1) := by decide +kernel
theorem dX6_at_5 : decode cX6_at 5 = .ok (.getfield 16, 3) := by decide +kernel
theorem dX6_at_8 : decode cX6_at 8 = .ok (.iload_n 1, 1) := by decide +kernel
theorem dX6_at_9 : decode cX6_at 9 = .ok (.iaload, 1) := by decide +kernel
theorem dX6_at_10 : decode cX6_at 10 = .ok (.iload_n 2, 1) := by decide +kernel
theorem dX6_at_11 : decode cX6_at 11 = .ok (.iadd, 1) := by decide +kernel
theorem dX6_at_12 : decode cX6_at 12 = .ok (.laload, 1) := by decide +kernel
theorem dX6_at_13 : decode cX6_at 13 = .ok (.lreturn, 1) := by decide +kernel
theorem dX6_put_0 : decode cX6_put 0 = .ok (.aload_n 0, 1) := by decide +kernel
theorem dX6_put_1 : decode cX6_put 1 = .ok (.getfield 20, 3) := by decide +kernel
theorem dX6_put_4 : decode cX6_put 4 = .ok (.aload_n 0, 1) := by decide +kernel
theorem dX6_put_5 : decode cX6_put 5 = .ok (.getfield 16, 3) := by decide +kernel
theorem dX6_put_8 : decode cX6_put 8 = .ok (.iload_n 1, 1) := by decide +kernel
theorem dX6_put_9 : decode cX6_put 9 = .ok (.iaload, 1) := by decide +kernel
theorem dX6_put_10 : decode cX6_put 10 = .ok (.iload_n 2, 1) := by decide +kernel
theorem dX6_put_11 : decode cX6_put 11 = .ok (.iadd, 1) := by decide +kernel
theorem dX6_put_12 : decode cX6_put 12 = .ok (.lload_n 3, 1) := by decide +kernel
theorem dX6_put_13 : decode cX6_put 13 = .ok (.lastore, 1) := by decide +kernel
theorem dX6_put_14 : decode cX6_put 14 = .ok (.return_, 1) := by decide +kernel
theorem dX6_rowKind_0 : decode cX6_rowKind 0 = .ok (.iload_n 0, 1) := by decide +kernel
theorem dX6_rowKind_1 : decode cX6_rowKind 1 = .ok (.bipush 10, 2) := by decide +kernel
theorem dX6_rowKind_3 : decode cX6_rowKind 3 = .ok (.if_icmp .ne 7, 3) := by decide +kernel
theorem dX6_rowKind_6 : decode cX6_rowKind 6 = .ok (.iconst 4, 1) := by decide +kernel
theorem dX6_rowKind_7 : decode cX6_rowKind 7 = .ok (.goto 27, 3) := by decide +kernel
theorem dX6_rowKind_10 : decode cX6_rowKind 10 = .ok (.iload_n 0, 1) := by decide +kernel
theorem dX6_rowKind_11 : decode cX6_rowKind 11 = .ok (.bipush 11, 2) := by decide +kernel
theorem dX6_rowKind_13 : decode cX6_rowKind 13 = .ok (.if_icmp .ne 8, 3) := by decide +kernel
theorem dX6_rowKind_16 : decode cX6_rowKind 16 = .ok (.bipush 7, 2) := by decide +kernel
theorem dX6_rowKind_18 : decode cX6_rowKind 18 = .ok (.goto 16, 3) := by decide +kernel
theorem dX6_rowKind_21 : decode cX6_rowKind 21 = .ok (.iload_n 0, 1) := by decide +kernel
theorem dX6_rowKind_22 : decode cX6_rowKind 22 = .ok (.bipush 12, 2) := by decide +kernel
theorem dX6_rowKind_24 : decode cX6_rowKind 24 = .ok (.if_icmp .ne 8, 3) := by decide +kernel
theorem dX6_rowKind_27 : decode cX6_rowKind 27 = .ok (.bipush 8, 2) := by decide +kernel
theorem dX6_rowKind_29 : decode cX6_rowKind 29 = .ok (.goto 5, 3) := by decide +kernel
theorem dX6_rowKind_32 : decode cX6_rowKind 32 = .ok (.bipush 10, 2) := by decide +kernel
theorem dX6_rowKind_34 : decode cX6_rowKind 34 = .ok (.ireturn, 1) := by decide +kernel
theorem dX6_isOf_0 : decode cX6_isOf 0 = .ok (.iload_n 1, 1) := by decide +kernel
theorem dX6_isOf_1 : decode cX6_isOf 1 = .ok (.ifCond .eq 30, 3) := by decide +kernel
theorem dX6_isOf_4 : decode cX6_isOf 4 = .ok (.aload_n 0, 1) := by decide +kernel
theorem dX6_isOf_5 : decode cX6_isOf 5 = .ok (.getfield 7, 3) := by decide +kernel
theorem dX6_isOf_8 : decode cX6_isOf 8 = .ok (.iload_n 1, 1) := by decide +kernel
theorem dX6_isOf_9 : decode cX6_isOf 9 = .ok (.baload, 1) := by decide +kernel
theorem dX6_isOf_10 : decode cX6_isOf 10 = .ok (.iload_n 2, 1) := by decide +kernel
theorem dX6_isOf_11 : decode cX6_isOf 11 = .ok (.if_icmp .eq 20, 3) := by decide +kernel
theorem dX6_isOf_14 : decode cX6_isOf 14 = .ok (.iload_n 2, 1) := by decide +kernel
theorem dX6_isOf_15 : decode cX6_isOf 15 = .ok (.bipush 8, 2) := by decide +kernel
theorem dX6_isOf_17 : decode cX6_isOf 17 = .ok (.if_icmp .ne 18, 3) := by decide +kernel
theorem dX6_isOf_20 : decode cX6_isOf 20 = .ok (.aload_n 0, 1) := by decide +kernel
theorem dX6_isOf_21 : decode cX6_isOf 21 = .ok (.getfield 7, 3) := by decide +kernel
theorem dX6_isOf_24 : decode cX6_isOf 24 = .ok (.iload_n 1, 1) := by decide +kernel
theorem dX6_isOf_25 : decode cX6_isOf 25 = .ok (.baload, 1) := by decide +kernel
theorem dX6_isOf_26 : decode cX6_isOf 26 = .ok (.bipush 9, 2) := by decide +kernel
theorem dX6_isOf_28 : decode cX6_isOf 28 = .ok (.if_icmp .ne 7, 3) := by decide +kernel
theorem dX6_isOf_31 : decode cX6_isOf 31 = .ok (.iconst 1, 1) := by decide +kernel
theorem dX6_isOf_32 : decode cX6_isOf 32 = .ok (.goto 4, 3) := by decide +kernel
theorem dX6_isOf_35 : decode cX6_isOf 35 = .ok (.iconst 0, 1) := by decide +kernel
theorem dX6_isOf_36 : decode cX6_isOf 36 = .ok (.ireturn, 1) := by decide +kernel
theorem dX6_isFull_0 : decode cX6_isFull 0 = .ok (.aload_n 0, 1) := by decide +kernel
theorem dX6_isFull_1 : decode cX6_isFull 1 = .ok (.getfield 50, 3) := by decide +kernel
theorem dX6_isFull_4 : decode cX6_isFull 4 = .ok (.sipush 6000, 3) := by decide +kernel
theorem dX6_isFull_7 : decode cX6_isFull 7 = .ok (.if_icmp .lt 7, 3) := by decide +kernel
theorem dX6_isFull_10 : decode cX6_isFull 10 = .ok (.iconst 1, 1) := by decide +kernel
theorem dX6_isFull_11 : decode cX6_isFull 11 = .ok (.goto 4, 3) := by decide +kernel
theorem dX6_isFull_14 : decode cX6_isFull 14 = .ok (.iconst 0, 1) := by decide +kernel
theorem dX6_isFull_15 : decode cX6_isFull 15 = .ok (.ireturn, 1) := by decide +kernel
theorem dX6_make_0 : decode cX6_make 0 = .ok (.iload_n 1, 1) := by decide +kernel
theorem dX6_make_1 : decode cX6_make 1 = .ok (.invokestatic 53, 3) := by decide +kernel
theorem dX6_make_4 : decode cX6_make 4 = .ok (.ifCond .eq 19, 3) := by decide +kernel
theorem dX6_make_7 : decode cX6_make 7 = .ok (.iload_n 2, 1) := by decide +kernel
theorem dX6_make_8 : decode cX6_make 8 = .ok (.iconst 0, 1) := by decide +kernel
theorem dX6_make_9 : decode cX6_make 9 = .ok (.bipush 13, 2) := by decide +kernel
theorem dX6_make_11 : decode cX6_make 11 = .ok (.invokestatic 57, 3) := by decide +kernel
theorem dX6_make_14 : decode cX6_make 14 = .ok (.ifCond .eq 9, 3) := by decide +kernel
theorem dX6_make_17 : decode cX6_make 17 = .ok (.iload_n 3, 1) := by decide +kernel
theorem dX6_make_18 : decode cX6_make 18 = .ok (.bipush 30, 2) := by decide +kernel
theorem dX6_make_20 : decode cX6_make 20 = .ok (.if_icmp .le 6, 3) := by decide +kernel
theorem dX6_make_23 : decode cX6_make 23 = .ok (.bipush (-2), 2) := by decide +kernel
theorem dX6_make_25 : decode cX6_make 25 = .ok (.ireturn, 1) := by decide +kernel
theorem dX6_make_26 : decode cX6_make 26 = .ok (.aload_n 0, 1) := by decide +kernel
theorem dX6_make_27 : decode cX6_make 27 = .ok (.invokevirtual 61, 3) := by decide +kernel
theorem dX6_make_30 : decode cX6_make 30 = .ok (.ifCond .eq 6, 3) := by decide +kernel
theorem dX6_make_33 : decode cX6_make 33 = .ok (.bipush (-3), 2) := by decide +kernel
theorem dX6_make_35 : decode cX6_make 35 = .ok (.ireturn, 1) := by decide +kernel
theorem dX6_make_36 : decode cX6_make 36 = .ok (.iload_n 3, 1) := by decide +kernel
theorem dX6_make_37 : decode cX6_make 37 = .ok (.ifCond .ge 8, 3) := by decide +kernel
theorem dX6_make_40 : decode cX6_make 40 = .ok (.iconst 4, 1) := by decide +kernel
theorem dX6_make_41 : decode cX6_make 41 = .ok (.invokestatic 65, 3) := by decide +kernel
theorem dX6_make_44 : decode cX6_make 44 = .ok (.ireturn, 1) := by decide +kernel
theorem dX6_make_45 : decode cX6_make 45 = .ok (.aload_n 0, 1) := by decide +kernel
theorem dX6_make_46 : decode cX6_make 46 = .ok (.getfield 31, 3) := by decide +kernel
theorem dX6_make_49 : decode cX6_make 49 = .ok (.iload_n 1, 1) := by decide +kernel
theorem dX6_make_50 : decode cX6_make 50 = .ok (.aload_n 0, 1) := by decide +kernel
theorem dX6_make_51 : decode cX6_make 51 = .ok (.iload_n 2, 1) := by decide +kernel
theorem dX6_make_52 : decode cX6_make 52 = .ok (.iload_n 3, 1) := by decide +kernel
theorem dX6_make_53 : decode cX6_make 53 = .ok (.invokevirtual 69, 3) := by decide +kernel
theorem dX6_make_56 : decode cX6_make 56 = .ok (.iastore, 1) := by decide +kernel
theorem dX6_make_57 : decode cX6_make 57 = .ok (.iconst 1, 1) := by decide +kernel
theorem dX6_make_58 : decode cX6_make 58 = .ok (.ireturn, 1) := by decide +kernel
theorem dX6_deep_0 : decode cX6_deep 0 = .ok (.iload_n 1, 1) := by decide +kernel
theorem dX6_deep_1 : decode cX6_deep 1 = .ok (.invokestatic 53, 3) := by decide +kernel
theorem dX6_deep_4 : decode cX6_deep 4 = .ok (.ifCond .eq 40, 3) := by decide +kernel
theorem dX6_deep_7 : decode cX6_deep 7 = .ok (.iload_n 2, 1) := by decide +kernel
theorem dX6_deep_8 : decode cX6_deep 8 = .ok (.bipush 10, 2) := by decide +kernel
theorem dX6_deep_10 : decode cX6_deep 10 = .ok (.bipush 13, 2) := by decide +kernel
theorem dX6_deep_12 : decode cX6_deep 12 = .ok (.invokestatic 57, 3) := by decide +kernel
theorem dX6_deep_15 : decode cX6_deep 15 = .ok (.ifCond .eq 29, 3) := by decide +kernel
theorem dX6_deep_18 : decode cX6_deep 18 = .ok (.iload_n 3, 1) := by decide +kernel
theorem dX6_deep_19 : decode cX6_deep 19 = .ok (.bipush 30, 2) := by decide +kernel
theorem dX6_deep_21 : decode cX6_deep 21 = .ok (.if_icmp .gt 23, 3) := by decide +kernel
theorem dX6_deep_24 : decode cX6_deep 24 = .ok (.iload 4, 2) := by decide +kernel
theorem dX6_deep_26 : decode cX6_deep 26 = .ok (.bipush 30, 2) := by decide +kernel
theorem dX6_deep_28 : decode cX6_deep 28 = .ok (.if_icmp .gt 16, 3) := by decide +kernel
theorem dX6_deep_31 : decode cX6_deep 31 = .ok (.iload_n 2, 1) := by decide +kernel
theorem dX6_deep_32 : decode cX6_deep 32 = .ok (.bipush 13, 2) := by decide +kernel
theorem dX6_deep_34 : decode cX6_deep 34 = .ok (.if_icmp .ne 13, 3) := by decide +kernel
theorem dX6_deep_37 : decode cX6_deep 37 = .ok (.iload 5, 2) := by decide +kernel
theorem dX6_deep_39 : decode cX6_deep 39 = .ok (.bipush 30, 2) := by decide +kernel
theorem dX6_deep_41 : decode cX6_deep 41 = .ok (.if_icmp .le 6, 3) := by decide +kernel
theorem dX6_deep_44 : decode cX6_deep 44 = .ok (.bipush (-2), 2) := by decide +kernel
theorem dX6_deep_46 : decode cX6_deep 46 = .ok (.ireturn, 1) := by decide +kernel
theorem dX6_deep_47 : decode cX6_deep 47 = .ok (.iload_n 3, 1) := by decide +kernel
theorem dX6_deep_48 : decode cX6_deep 48 = .ok (.ifCond .lt 19, 3) := by decide +kernel
theorem dX6_deep_51 : decode cX6_deep 51 = .ok (.iload 4, 2) := by decide +kernel
theorem dX6_deep_53 : decode cX6_deep 53 = .ok (.ifCond .lt 14, 3) := by decide +kernel
theorem dX6_deep_56 : decode cX6_deep 56 = .ok (.iload_n 2, 1) := by decide +kernel
theorem dX6_deep_57 : decode cX6_deep 57 = .ok (.bipush 13, 2) := by decide +kernel
theorem dX6_deep_59 : decode cX6_deep 59 = .ok (.if_icmp .ne 12, 3) := by decide +kernel
theorem dX6_deep_62 : decode cX6_deep 62 = .ok (.iload 5, 2) := by decide +kernel
theorem dX6_deep_64 : decode cX6_deep 64 = .ok (.ifCond .ge 7, 3) := by decide +kernel
theorem dX6_deep_67 : decode cX6_deep 67 = .ok (.iconst 1, 1) := by decide +kernel
theorem dX6_deep_68 : decode cX6_deep 68 = .ok (.goto 4, 3) := by decide +kernel
theorem dX6_deep_71 : decode cX6_deep 71 = .ok (.iconst 0, 1) := by decide +kernel
theorem dX6_deep_72 : decode cX6_deep 72 = .ok (.istore 6, 2) := by decide +kernel
theorem dX6_deep_74 : decode cX6_deep 74 = .ok (.iload 6, 2) := by decide +kernel
theorem dX6_deep_76 : decode cX6_deep 76 = .ok (.ifCond .eq 7, 3) := by decide +kernel
theorem dX6_deep_79 : decode cX6_deep 79 = .ok (.iconst 0, 1) := by decide +kernel
theorem dX6_deep_80 : decode cX6_deep 80 = .ok (.goto 23, 3) := by decide +kernel
theorem dX6_deep_83 : decode cX6_deep 83 = .ok (.iload_n 2, 1) := by decide +kernel
theorem dX6_deep_84 : decode cX6_deep 84 = .ok (.bipush 13, 2) := by decide +kernel
theorem dX6_deep_86 : decode cX6_deep 86 = .ok (.if_icmp .ne 13, 3) := by decide +kernel
theorem dX6_deep_89 : decode cX6_deep 89 = .ok (.iload_n 3, 1) := by decide +kernel
theorem dX6_deep_90 : decode cX6_deep 90 = .ok (.iload 4, 2) := by decide +kernel
theorem dX6_deep_92 : decode cX6_deep 92 = .ok (.imul, 1) := by decide +kernel
theorem dX6_deep_93 : decode cX6_deep 93 = .ok (.iload 5, 2) := by decide +kernel
theorem dX6_deep_95 : decode cX6_deep 95 = .ok (.imul, 1) := by decide +kernel
theorem dX6_deep_96 : decode cX6_deep 96 = .ok (.goto 7, 3) := by decide +kernel
theorem dX6_deep_99 : decode cX6_deep 99 = .ok (.iload_n 3, 1) := by decide +kernel
theorem dX6_deep_100 : decode cX6_deep 100 = .ok (.iload 4, 2) := by decide +kernel
theorem dX6_deep_102 : decode cX6_deep 102 = .ok (.imul, 1) := by decide +kernel
theorem dX6_deep_103 : decode cX6_deep 103 = .ok (.istore 7, 2) := by decide +kernel
theorem dX6_deep_105 : decode cX6_deep 105 = .ok (.iload 7, 2) := by decide +kernel
theorem dX6_deep_107 : decode cX6_deep 107 = .ok (.sipush 400, 3) := by decide +kernel
theorem dX6_deep_110 : decode cX6_deep 110 = .ok (.if_icmp .le 6, 3) := by decide +kernel
theorem dX6_deep_113 : decode cX6_deep 113 = .ok (.bipush (-2), 2) := by decide +kernel
theorem dX6_deep_115 : decode cX6_deep 115 = .ok (.ireturn, 1) := by decide +kernel
theorem dX6_deep_116 : decode cX6_deep 116 = .ok (.aload_n 0, 1) := by decide +kernel
theorem dX6_deep_117 : decode cX6_deep 117 = .ok (.invokevirtual 61, 3) := by decide +kernel
theorem dX6_deep_120 : decode cX6_deep 120 = .ok (.ifCond .eq 6, 3) := by decide +kernel
theorem dX6_deep_123 : decode cX6_deep 123 = .ok (.bipush (-3), 2) := by decide +kernel
theorem dX6_deep_125 : decode cX6_deep 125 = .ok (.ireturn, 1) := by decide +kernel
theorem dX6_deep_126 : decode cX6_deep 126 = .ok (.iload 6, 2) := by decide +kernel
theorem dX6_deep_128 : decode cX6_deep 128 = .ok (.ifCond .eq 8, 3) := by decide +kernel
theorem dX6_deep_131 : decode cX6_deep 131 = .ok (.iconst 4, 1) := by decide +kernel
theorem dX6_deep_132 : decode cX6_deep 132 = .ok (.invokestatic 65, 3) := by decide +kernel
theorem dX6_deep_135 : decode cX6_deep 135 = .ok (.ireturn, 1) := by decide +kernel
theorem dX6_deep_136 : decode cX6_deep 136 = .ok (.aload_n 0, 1) := by decide +kernel
theorem dX6_deep_137 : decode cX6_deep 137 = .ok (.iload_n 2, 1) := by decide +kernel
theorem dX6_deep_138 : decode cX6_deep 138 = .ok (.iload_n 3, 1) := by decide +kernel
theorem dX6_deep_139 : decode cX6_deep 139 = .ok (.invokevirtual 69, 3) := by decide +kernel
theorem dX6_deep_142 : decode cX6_deep 142 = .ok (.istore 8, 2) := by decide +kernel
theorem dX6_deep_144 : decode cX6_deep 144 = .ok (.iconst 0, 1) := by decide +kernel
theorem dX6_deep_145 : decode cX6_deep 145 = .ok (.istore 9, 2) := by decide +kernel
theorem dX6_deep_147 : decode cX6_deep 147 = .ok (.iload 9, 2) := by decide +kernel
theorem dX6_deep_149 : decode cX6_deep 149 = .ok (.iload_n 3, 1) := by decide +kernel
theorem dX6_deep_150 : decode cX6_deep 150 = .ok (.if_icmp .ge 74, 3) := by decide +kernel
theorem dX6_deep_153 : decode cX6_deep 153 = .ok (.aload_n 0, 1) := by decide +kernel
theorem dX6_deep_154 : decode cX6_deep 154 = .ok (.iload_n 2, 1) := by decide +kernel
theorem dX6_deep_155 : decode cX6_deep 155 = .ok (.invokestatic 73, 3) := by decide +kernel
theorem dX6_deep_158 : decode cX6_deep 158 = .ok (.iload 4, 2) := by decide +kernel
theorem dX6_deep_160 : decode cX6_deep 160 = .ok (.invokevirtual 69, 3) := by decide +kernel
theorem dX6_deep_163 : decode cX6_deep 163 = .ok (.istore 10, 2) := by decide +kernel
theorem dX6_deep_165 : decode cX6_deep 165 = .ok (.aload_n 0, 1) := by decide +kernel
theorem dX6_deep_166 : decode cX6_deep 166 = .ok (.iload 8, 2) := by decide +kernel
theorem dX6_deep_168 : decode cX6_deep 168 = .ok (.iload 9, 2) := by decide +kernel
theorem dX6_deep_170 : decode cX6_deep 170 = .ok (.iload 10, 2) := by decide +kernel
theorem dX6_deep_172 : decode cX6_deep 172 = .ok (.i2l, 1) := by decide +kernel
theorem dX6_deep_173 : decode cX6_deep 173 = .ok (.invokevirtual 76, 3) := by decide +kernel
theorem dX6_deep_176 : decode cX6_deep 176 = .ok (.iconst 0, 1) := by decide +kernel
theorem dX6_deep_177 : decode cX6_deep 177 = .ok (.istore 11, 2) := by decide +kernel
theorem dX6_deep_179 : decode cX6_deep 179 = .ok (.iload 11, 2) := by decide +kernel
theorem dX6_deep_181 : decode cX6_deep 181 = .ok (.iload 4, 2) := by decide +kernel
theorem dX6_deep_183 : decode cX6_deep 183 = .ok (.if_icmp .ge 35, 3) := by decide +kernel
theorem dX6_deep_186 : decode cX6_deep 186 = .ok (.iload_n 2, 1) := by decide +kernel
theorem dX6_deep_187 : decode cX6_deep 187 = .ok (.bipush 13, 2) := by decide +kernel
theorem dX6_deep_189 : decode cX6_deep 189 = .ok (.if_icmp .ne 29, 3) := by decide +kernel
theorem dX6_deep_192 : decode cX6_deep 192 = .ok (.aload_n 0, 1) := by decide +kernel
theorem dX6_deep_193 : decode cX6_deep 193 = .ok (.iconst 4, 1) := by decide +kernel
theorem dX6_deep_194 : decode cX6_deep 194 = .ok (.iload 5, 2) := by decide +kernel
theorem dX6_deep_196 : decode cX6_deep 196 = .ok (.invokevirtual 69, 3) := by decide +kernel
theorem dX6_deep_199 : decode cX6_deep 199 = .ok (.istore 12, 2) := by decide +kernel
theorem dX6_deep_201 : decode cX6_deep 201 = .ok (.aload_n 0, 1) := by decide +kernel
theorem dX6_deep_202 : decode cX6_deep 202 = .ok (.iload 10, 2) := by decide +kernel
theorem dX6_deep_204 : decode cX6_deep 204 = .ok (.iload 11, 2) := by decide +kernel
theorem dX6_deep_206 : decode cX6_deep 206 = .ok (.iload 12, 2) := by decide +kernel
theorem dX6_deep_208 : decode cX6_deep 208 = .ok (.i2l, 1) := by decide +kernel
theorem dX6_deep_209 : decode cX6_deep 209 = .ok (.invokevirtual 76, 3) := by decide +kernel
theorem dX6_deep_212 : decode cX6_deep 212 = .ok (.iinc 11 1, 3) := by decide +kernel
theorem dX6_deep_215 : decode cX6_deep 215 = .ok (.goto (-36), 3) := by decide +kernel
theorem dX6_deep_218 : decode cX6_deep 218 = .ok (.iinc 9 1, 3) := by decide +kernel
theorem dX6_deep_221 : decode cX6_deep 221 = .ok (.goto (-74), 3) := by decide +kernel
theorem dX6_deep_224 : decode cX6_deep 224 = .ok (.aload_n 0, 1) := by decide +kernel
theorem dX6_deep_225 : decode cX6_deep 225 = .ok (.getfield 31, 3) := by decide +kernel
theorem dX6_deep_228 : decode cX6_deep 228 = .ok (.iload_n 1, 1) := by decide +kernel
theorem dX6_deep_229 : decode cX6_deep 229 = .ok (.iload 8, 2) := by decide +kernel
theorem dX6_deep_231 : decode cX6_deep 231 = .ok (.iastore, 1) := by decide +kernel
theorem dX6_deep_232 : decode cX6_deep 232 = .ok (.iconst 1, 1) := by decide +kernel
theorem dX6_deep_233 : decode cX6_deep 233 = .ok (.ireturn, 1) := by decide +kernel
theorem dX6_share_0 : decode cX6_share 0 = .ok (.iload_n 1, 1) := by decide +kernel
theorem dX6_share_1 : decode cX6_share 1 = .ok (.invokestatic 53, 3) := by decide +kernel
theorem dX6_share_4 : decode cX6_share 4 = .ok (.ifCond .eq 10, 3) := by decide +kernel
theorem dX6_share_7 : decode cX6_share 7 = .ok (.iload_n 2, 1) := by decide +kernel
theorem dX6_share_8 : decode cX6_share 8 = .ok (.invokestatic 53, 3) := by decide +kernel
theorem dX6_share_11 : decode cX6_share 11 = .ok (.ifCond .ne 6, 3) := by decide +kernel
theorem dX6_share_14 : decode cX6_share 14 = .ok (.bipush (-2), 2) := by decide +kernel
theorem dX6_share_16 : decode cX6_share 16 = .ok (.ireturn, 1) := by decide +kernel
theorem dX6_share_17 : decode cX6_share 17 = .ok (.aload_n 0, 1) := by decide +kernel
theorem dX6_share_18 : decode cX6_share 18 = .ok (.getfield 31, 3) := by decide +kernel
theorem dX6_share_21 : decode cX6_share 21 = .ok (.iload_n 1, 1) := by decide +kernel
theorem dX6_share_22 : decode cX6_share 22 = .ok (.aload_n 0, 1) := by decide +kernel
theorem dX6_share_23 : decode cX6_share 23 = .ok (.getfield 31, 3) := by decide +kernel
theorem dX6_share_26 : decode cX6_share 26 = .ok (.iload_n 2, 1) := by decide +kernel
theorem dX6_share_27 : decode cX6_share 27 = .ok (.iaload, 1) := by decide +kernel
theorem dX6_share_28 : decode cX6_share 28 = .ok (.iastore, 1) := by decide +kernel
theorem dX6_share_29 : decode cX6_share 29 = .ok (.iconst 1, 1) := by decide +kernel
theorem dX6_share_30 : decode cX6_share 30 = .ok (.ireturn, 1) := by decide +kernel
theorem dX6_flat_0 : decode cX6_flat 0 = .ok (.iload_n 1, 1) := by decide +kernel
theorem dX6_flat_1 : decode cX6_flat 1 = .ok (.ifCond .ne 5, 3) := by decide +kernel
theorem dX6_flat_4 : decode cX6_flat 4 = .ok (.iconst 0, 1) := by decide +kernel
theorem dX6_flat_5 : decode cX6_flat 5 = .ok (.ireturn, 1) := by decide +kernel
theorem dX6_flat_6 : decode cX6_flat 6 = .ok (.aload_n 0, 1) := by decide +kernel
theorem dX6_flat_7 : decode cX6_flat 7 = .ok (.getfield 41, 3) := by decide +kernel
theorem dX6_flat_10 : decode cX6_flat 10 = .ok (.iload_n 1, 1) := by decide +kernel
theorem dX6_flat_11 : decode cX6_flat 11 = .ok (.iaload, 1) := by decide +kernel
theorem dX6_flat_12 : decode cX6_flat 12 = .ok (.ifCond .ne 57, 3) := by decide +kernel
theorem dX6_flat_15 : decode cX6_flat 15 = .ok (.aload_n 0, 1) := by decide +kernel
theorem dX6_flat_16 : decode cX6_flat 16 = .ok (.aload_n 0, 1) := by decide +kernel
theorem dX6_flat_17 : decode cX6_flat 17 = .ok (.getfield 7, 3) := by decide +kernel
theorem dX6_flat_20 : decode cX6_flat 20 = .ok (.iload_n 1, 1) := by decide +kernel
theorem dX6_flat_21 : decode cX6_flat 21 = .ok (.baload, 1) := by decide +kernel
theorem dX6_flat_22 : decode cX6_flat 22 = .ok (.aload_n 0, 1) := by decide +kernel
theorem dX6_flat_23 : decode cX6_flat 23 = .ok (.getfield 13, 3) := by decide +kernel
theorem dX6_flat_26 : decode cX6_flat 26 = .ok (.iload_n 1, 1) := by decide +kernel
theorem dX6_flat_27 : decode cX6_flat 27 = .ok (.baload, 1) := by decide +kernel
theorem dX6_flat_28 : decode cX6_flat 28 = .ok (.invokevirtual 69, 3) := by decide +kernel
theorem dX6_flat_31 : decode cX6_flat 31 = .ok (.istore_n 2, 1) := by decide +kernel
theorem dX6_flat_32 : decode cX6_flat 32 = .ok (.iconst 0, 1) := by decide +kernel
theorem dX6_flat_33 : decode cX6_flat 33 = .ok (.istore_n 3, 1) := by decide +kernel
theorem dX6_flat_34 : decode cX6_flat 34 = .ok (.iload_n 3, 1) := by decide +kernel
theorem dX6_flat_35 : decode cX6_flat 35 = .ok (.aload_n 0, 1) := by decide +kernel
theorem dX6_flat_36 : decode cX6_flat 36 = .ok (.getfield 13, 3) := by decide +kernel
theorem dX6_flat_39 : decode cX6_flat 39 = .ok (.iload_n 1, 1) := by decide +kernel
theorem dX6_flat_40 : decode cX6_flat 40 = .ok (.baload, 1) := by decide +kernel
theorem dX6_flat_41 : decode cX6_flat 41 = .ok (.if_icmp .ge 21, 3) := by decide +kernel
theorem dX6_flat_44 : decode cX6_flat 44 = .ok (.aload_n 0, 1) := by decide +kernel
theorem dX6_flat_45 : decode cX6_flat 45 = .ok (.iload_n 2, 1) := by decide +kernel
theorem dX6_flat_46 : decode cX6_flat 46 = .ok (.iload_n 3, 1) := by decide +kernel
theorem dX6_flat_47 : decode cX6_flat 47 = .ok (.aload_n 0, 1) := by decide +kernel
theorem dX6_flat_48 : decode cX6_flat 48 = .ok (.iload_n 1, 1) := by decide +kernel
theorem dX6_flat_49 : decode cX6_flat 49 = .ok (.iload_n 3, 1) := by decide +kernel
theorem dX6_flat_50 : decode cX6_flat 50 = .ok (.invokevirtual 80, 3) := by decide +kernel
theorem dX6_flat_53 : decode cX6_flat 53 = .ok (.invokevirtual 76, 3) := by decide +kernel
theorem dX6_flat_56 : decode cX6_flat 56 = .ok (.iinc 3 1, 3) := by decide +kernel
theorem dX6_flat_59 : decode cX6_flat 59 = .ok (.goto (-25), 3) := by decide +kernel
theorem dX6_flat_62 : decode cX6_flat 62 = .ok (.aload_n 0, 1) := by decide +kernel
theorem dX6_flat_63 : decode cX6_flat 63 = .ok (.getfield 41, 3) := by decide +kernel
theorem dX6_flat_66 : decode cX6_flat 66 = .ok (.iload_n 1, 1) := by decide +kernel
theorem dX6_flat_67 : decode cX6_flat 67 = .ok (.iload_n 2, 1) := by decide +kernel
theorem dX6_flat_68 : decode cX6_flat 68 = .ok (.iastore, 1) := by decide +kernel
theorem dX6_flat_69 : decode cX6_flat 69 = .ok (.aload_n 0, 1) := by decide +kernel
theorem dX6_flat_70 : decode cX6_flat 70 = .ok (.getfield 41, 3) := by decide +kernel
theorem dX6_flat_73 : decode cX6_flat 73 = .ok (.iload_n 1, 1) := by decide +kernel
theorem dX6_flat_74 : decode cX6_flat 74 = .ok (.iaload, 1) := by decide +kernel
theorem dX6_flat_75 : decode cX6_flat 75 = .ok (.ireturn, 1) := by decide +kernel
theorem dX6_middle_0 : decode cX6_middle 0 = .ok (.iload_n 1, 1) := by decide +kernel
theorem dX6_middle_1 : decode cX6_middle 1 = .ok (.ifCond .eq 14, 3) := by decide +kernel
theorem dX6_middle_4 : decode cX6_middle 4 = .ok (.aload_n 0, 1) := by decide +kernel
theorem dX6_middle_5 : decode cX6_middle 5 = .ok (.getfield 7, 3) := by decide +kernel
theorem dX6_middle_8 : decode cX6_middle 8 = .ok (.iload_n 1, 1) := by decide +kernel
theorem dX6_middle_9 : decode cX6_middle 9 = .ok (.baload, 1) := by decide +kernel
theorem dX6_middle_10 : decode cX6_middle 10 = .ok (.bipush 10, 2) := by decide +kernel
theorem dX6_middle_12 : decode cX6_middle 12 = .ok (.if_icmp .ge 9, 3) := by decide +kernel
theorem dX6_middle_15 : decode cX6_middle 15 = .ok (.aload_n 0, 1) := by decide +kernel
theorem dX6_middle_16 : decode cX6_middle 16 = .ok (.iload_n 1, 1) := by decide +kernel
theorem dX6_middle_17 : decode cX6_middle 17 = .ok (.invokevirtual 84, 3) := by decide +kernel
theorem dX6_middle_20 : decode cX6_middle 20 = .ok (.ireturn, 1) := by decide +kernel
theorem dX6_middle_21 : decode cX6_middle 21 = .ok (.aload_n 0, 1) := by decide +kernel
theorem dX6_middle_22 : decode cX6_middle 22 = .ok (.getfield 41, 3) := by decide +kernel
theorem dX6_middle_25 : decode cX6_middle 25 = .ok (.iload_n 1, 1) := by decide +kernel
theorem dX6_middle_26 : decode cX6_middle 26 = .ok (.iaload, 1) := by decide +kernel
theorem dX6_middle_27 : decode cX6_middle 27 = .ok (.ifCond .ne 45, 3) := by decide +kernel
theorem dX6_middle_30 : decode cX6_middle 30 = .ok (.aload_n 0, 1) := by decide +kernel
theorem dX6_middle_31 : decode cX6_middle 31 = .ok (.iload_n 1, 1) := by decide +kernel
theorem dX6_middle_32 : decode cX6_middle 32 = .ok (.invokevirtual 84, 3) := by decide +kernel
theorem dX6_middle_35 : decode cX6_middle 35 = .ok (.istore_n 2, 1) := by decide +kernel
theorem dX6_middle_36 : decode cX6_middle 36 = .ok (.iconst 0, 1) := by decide +kernel
theorem dX6_middle_37 : decode cX6_middle 37 = .ok (.istore_n 3, 1) := by decide +kernel
theorem dX6_middle_38 : decode cX6_middle 38 = .ok (.iload_n 3, 1) := by decide +kernel
theorem dX6_middle_39 : decode cX6_middle 39 = .ok (.aload_n 0, 1) := by decide +kernel
theorem dX6_middle_40 : decode cX6_middle 40 = .ok (.getfield 13, 3) := by decide +kernel
theorem dX6_middle_43 : decode cX6_middle 43 = .ok (.iload_n 1, 1) := by decide +kernel
theorem dX6_middle_44 : decode cX6_middle 44 = .ok (.baload, 1) := by decide +kernel
theorem dX6_middle_45 : decode cX6_middle 45 = .ok (.if_icmp .ge 27, 3) := by decide +kernel
theorem dX6_middle_48 : decode cX6_middle 48 = .ok (.aload_n 0, 1) := by decide +kernel
theorem dX6_middle_49 : decode cX6_middle 49 = .ok (.iload_n 2, 1) := by decide +kernel
theorem dX6_middle_50 : decode cX6_middle 50 = .ok (.iload_n 3, 1) := by decide +kernel
theorem dX6_middle_51 : decode cX6_middle 51 = .ok (.aload_n 0, 1) := by decide +kernel
theorem dX6_middle_52 : decode cX6_middle 52 = .ok (.aload_n 0, 1) := by decide +kernel
theorem dX6_middle_53 : decode cX6_middle 53 = .ok (.iload_n 1, 1) := by decide +kernel
theorem dX6_middle_54 : decode cX6_middle 54 = .ok (.iload_n 3, 1) := by decide +kernel
theorem dX6_middle_55 : decode cX6_middle 55 = .ok (.invokevirtual 80, 3) := by decide +kernel
theorem dX6_middle_58 : decode cX6_middle 58 = .ok (.l2i, 1) := by decide +kernel
theorem dX6_middle_59 : decode cX6_middle 59 = .ok (.invokevirtual 84, 3) := by decide +kernel
theorem dX6_middle_62 : decode cX6_middle 62 = .ok (.i2l, 1) := by decide +kernel
theorem dX6_middle_63 : decode cX6_middle 63 = .ok (.invokevirtual 76, 3) := by decide +kernel
theorem dX6_middle_66 : decode cX6_middle 66 = .ok (.iinc 3 1, 3) := by decide +kernel
theorem dX6_middle_69 : decode cX6_middle 69 = .ok (.goto (-31), 3) := by decide +kernel
theorem dX6_middle_72 : decode cX6_middle 72 = .ok (.aload_n 0, 1) := by decide +kernel
theorem dX6_middle_73 : decode cX6_middle 73 = .ok (.getfield 41, 3) := by decide +kernel
theorem dX6_middle_76 : decode cX6_middle 76 = .ok (.iload_n 1, 1) := by decide +kernel
theorem dX6_middle_77 : decode cX6_middle 77 = .ok (.iaload, 1) := by decide +kernel
theorem dX6_middle_78 : decode cX6_middle 78 = .ok (.ireturn, 1) := by decide +kernel
theorem dX6_aside_0 : decode cX6_aside 0 = .ok (.iload_n 1, 1) := by decide +kernel
theorem dX6_aside_1 : decode cX6_aside 1 = .ok (.invokestatic 53, 3) := by decide +kernel
theorem dX6_aside_4 : decode cX6_aside 4 = .ok (.ifCond .eq 10, 3) := by decide +kernel
theorem dX6_aside_7 : decode cX6_aside 7 = .ok (.iload_n 2, 1) := by decide +kernel
theorem dX6_aside_8 : decode cX6_aside 8 = .ok (.invokestatic 53, 3) := by decide +kernel
theorem dX6_aside_11 : decode cX6_aside 11 = .ok (.ifCond .ne 6, 3) := by decide +kernel
theorem dX6_aside_14 : decode cX6_aside 14 = .ok (.bipush (-2), 2) := by decide +kernel
theorem dX6_aside_16 : decode cX6_aside 16 = .ok (.ireturn, 1) := by decide +kernel
theorem dX6_aside_17 : decode cX6_aside 17 = .ok (.aload_n 0, 1) := by decide +kernel
theorem dX6_aside_18 : decode cX6_aside 18 = .ok (.invokevirtual 61, 3) := by decide +kernel
theorem dX6_aside_21 : decode cX6_aside 21 = .ok (.ifCond .eq 6, 3) := by decide +kernel
theorem dX6_aside_24 : decode cX6_aside 24 = .ok (.bipush (-3), 2) := by decide +kernel
theorem dX6_aside_26 : decode cX6_aside 26 = .ok (.ireturn, 1) := by decide +kernel
theorem dX6_aside_27 : decode cX6_aside 27 = .ok (.iconst 0, 1) := by decide +kernel
theorem dX6_aside_28 : decode cX6_aside 28 = .ok (.istore_n 3, 1) := by decide +kernel
theorem dX6_aside_29 : decode cX6_aside 29 = .ok (.iload_n 3, 1) := by decide +kernel
theorem dX6_aside_30 : decode cX6_aside 30 = .ok (.aload_n 0, 1) := by decide +kernel
theorem dX6_aside_31 : decode cX6_aside 31 = .ok (.getfield 47, 3) := by decide +kernel
theorem dX6_aside_34 : decode cX6_aside 34 = .ok (.if_icmp .gt 16, 3) := by decide +kernel
theorem dX6_aside_37 : decode cX6_aside 37 = .ok (.aload_n 0, 1) := by decide +kernel
theorem dX6_aside_38 : decode cX6_aside 38 = .ok (.getfield 41, 3) := by decide +kernel
theorem dX6_aside_41 : decode cX6_aside 41 = .ok (.iload_n 3, 1) := by decide +kernel
theorem dX6_aside_42 : decode cX6_aside 42 = .ok (.iconst 0, 1) := by decide +kernel
theorem dX6_aside_43 : decode cX6_aside 43 = .ok (.iastore, 1) := by decide +kernel
theorem dX6_aside_44 : decode cX6_aside 44 = .ok (.iinc 3 1, 3) := by decide +kernel
theorem dX6_aside_47 : decode cX6_aside 47 = .ok (.goto (-18), 3) := by decide +kernel
theorem dX6_aside_50 : decode cX6_aside 50 = .ok (.aload_n 0, 1) := by decide +kernel
theorem dX6_aside_51 : decode cX6_aside 51 = .ok (.getfield 31, 3) := by decide +kernel
theorem dX6_aside_54 : decode cX6_aside 54 = .ok (.iload_n 2, 1) := by decide +kernel
theorem dX6_aside_55 : decode cX6_aside 55 = .ok (.iaload, 1) := by decide +kernel
theorem dX6_aside_56 : decode cX6_aside 56 = .ok (.istore_n 3, 1) := by decide +kernel
theorem dX6_aside_57 : decode cX6_aside 57 = .ok (.iload_n 3, 1) := by decide +kernel
theorem dX6_aside_58 : decode cX6_aside 58 = .ok (.ifCond .eq 22, 3) := by decide +kernel
theorem dX6_aside_61 : decode cX6_aside 61 = .ok (.aload_n 0, 1) := by decide +kernel
theorem dX6_aside_62 : decode cX6_aside 62 = .ok (.getfield 7, 3) := by decide +kernel
theorem dX6_aside_65 : decode cX6_aside 65 = .ok (.iload_n 3, 1) := by decide +kernel
theorem dX6_aside_66 : decode cX6_aside 66 = .ok (.baload, 1) := by decide +kernel
theorem dX6_aside_67 : decode cX6_aside 67 = .ok (.bipush 13, 2) := by decide +kernel
theorem dX6_aside_69 : decode cX6_aside 69 = .ok (.if_icmp .ne 11, 3) := by decide +kernel
theorem dX6_aside_72 : decode cX6_aside 72 = .ok (.aload_n 0, 1) := by decide +kernel
theorem dX6_aside_73 : decode cX6_aside 73 = .ok (.iload_n 3, 1) := by decide +kernel
theorem dX6_aside_74 : decode cX6_aside 74 = .ok (.invokevirtual 84, 3) := by decide +kernel
theorem dX6_aside_77 : decode cX6_aside 77 = .ok (.goto 8, 3) := by decide +kernel
theorem dX6_aside_80 : decode cX6_aside 80 = .ok (.aload_n 0, 1) := by decide +kernel
theorem dX6_aside_81 : decode cX6_aside 81 = .ok (.iload_n 3, 1) := by decide +kernel
theorem dX6_aside_82 : decode cX6_aside 82 = .ok (.invokevirtual 87, 3) := by decide +kernel
theorem dX6_aside_85 : decode cX6_aside 85 = .ok (.istore 4, 2) := by decide +kernel
theorem dX6_aside_87 : decode cX6_aside 87 = .ok (.iload_n 3, 1) := by decide +kernel
theorem dX6_aside_88 : decode cX6_aside 88 = .ok (.ifCond .eq 55, 3) := by decide +kernel
theorem dX6_aside_91 : decode cX6_aside 91 = .ok (.aload_n 0, 1) := by decide +kernel
theorem dX6_aside_92 : decode cX6_aside 92 = .ok (.getfield 7, 3) := by decide +kernel
theorem dX6_aside_95 : decode cX6_aside 95 = .ok (.iload_n 3, 1) := by decide +kernel
theorem dX6_aside_96 : decode cX6_aside 96 = .ok (.baload, 1) := by decide +kernel
theorem dX6_aside_97 : decode cX6_aside 97 = .ok (.bipush 13, 2) := by decide +kernel
theorem dX6_aside_99 : decode cX6_aside 99 = .ok (.if_icmp .ne 44, 3) := by decide +kernel
theorem dX6_aside_102 : decode cX6_aside 102 = .ok (.iconst 0, 1) := by decide +kernel
theorem dX6_aside_103 : decode cX6_aside 103 = .ok (.istore 5, 2) := by decide +kernel
theorem dX6_aside_105 : decode cX6_aside 105 = .ok (.iload 5, 2) := by decide +kernel
theorem dX6_aside_107 : decode cX6_aside 107 = .ok (.aload_n 0, 1) := by decide +kernel
theorem dX6_aside_108 : decode cX6_aside 108 = .ok (.getfield 13, 3) := by decide +kernel
theorem dX6_aside_111 : decode cX6_aside 111 = .ok (.iload_n 3, 1) := by decide +kernel
theorem dX6_aside_112 : decode cX6_aside 112 = .ok (.baload, 1) := by decide +kernel
theorem dX6_aside_113 : decode cX6_aside 113 = .ok (.if_icmp .ge 30, 3) := by decide +kernel
theorem dX6_aside_116 : decode cX6_aside 116 = .ok (.aload_n 0, 1) := by decide +kernel
theorem dX6_aside_117 : decode cX6_aside 117 = .ok (.iload 4, 2) := by decide +kernel
theorem dX6_aside_119 : decode cX6_aside 119 = .ok (.iload 5, 2) := by decide +kernel
theorem dX6_aside_121 : decode cX6_aside 121 = .ok (.aload_n 0, 1) := by decide +kernel
theorem dX6_aside_122 : decode cX6_aside 122 = .ok (.aload_n 0, 1) := by decide +kernel
theorem dX6_aside_123 : decode cX6_aside 123 = .ok (.iload_n 3, 1) := by decide +kernel
theorem dX6_aside_124 : decode cX6_aside 124 = .ok (.iload 5, 2) := by decide +kernel
theorem dX6_aside_126 : decode cX6_aside 126 = .ok (.invokevirtual 80, 3) := by decide +kernel
theorem dX6_aside_129 : decode cX6_aside 129 = .ok (.l2i, 1) := by decide +kernel
theorem dX6_aside_130 : decode cX6_aside 130 = .ok (.invokevirtual 87, 3) := by decide +kernel
theorem dX6_aside_133 : decode cX6_aside 133 = .ok (.i2l, 1) := by decide +kernel
theorem dX6_aside_134 : decode cX6_aside 134 = .ok (.invokevirtual 76, 3) := by decide +kernel
theorem dX6_aside_137 : decode cX6_aside 137 = .ok (.iinc 5 1, 3) := by decide +kernel
theorem dX6_aside_140 : decode cX6_aside 140 = .ok (.goto (-35), 3) := by decide +kernel
theorem dX6_aside_143 : decode cX6_aside 143 = .ok (.aload_n 0, 1) := by decide +kernel
theorem dX6_aside_144 : decode cX6_aside 144 = .ok (.getfield 31, 3) := by decide +kernel
theorem dX6_aside_147 : decode cX6_aside 147 = .ok (.iload_n 1, 1) := by decide +kernel
theorem dX6_aside_148 : decode cX6_aside 148 = .ok (.iload 4, 2) := by decide +kernel
theorem dX6_aside_150 : decode cX6_aside 150 = .ok (.iastore, 1) := by decide +kernel
theorem dX6_aside_151 : decode cX6_aside 151 = .ok (.iconst 1, 1) := by decide +kernel
theorem dX6_aside_152 : decode cX6_aside 152 = .ok (.ireturn, 1) := by decide +kernel
theorem dX6_drop_0 : decode cX6_drop 0 = .ok (.iload_n 1, 1) := by decide +kernel
theorem dX6_drop_1 : decode cX6_drop 1 = .ok (.invokestatic 53, 3) := by decide +kernel
theorem dX6_drop_4 : decode cX6_drop 4 = .ok (.ifCond .ne 6, 3) := by decide +kernel
theorem dX6_drop_7 : decode cX6_drop 7 = .ok (.bipush (-2), 2) := by decide +kernel
theorem dX6_drop_9 : decode cX6_drop 9 = .ok (.ireturn, 1) := by decide +kernel
theorem dX6_drop_10 : decode cX6_drop 10 = .ok (.aload_n 0, 1) := by decide +kernel
theorem dX6_drop_11 : decode cX6_drop 11 = .ok (.getfield 31, 3) := by decide +kernel
theorem dX6_drop_14 : decode cX6_drop 14 = .ok (.iload_n 1, 1) := by decide +kernel
theorem dX6_drop_15 : decode cX6_drop 15 = .ok (.iaload, 1) := by decide +kernel
theorem dX6_drop_16 : decode cX6_drop 16 = .ok (.ifCond .ne 7, 3) := by decide +kernel
theorem dX6_drop_19 : decode cX6_drop 19 = .ok (.iconst 0, 1) := by decide +kernel
theorem dX6_drop_20 : decode cX6_drop 20 = .ok (.goto 4, 3) := by decide +kernel
theorem dX6_drop_23 : decode cX6_drop 23 = .ok (.iconst 1, 1) := by decide +kernel
theorem dX6_drop_24 : decode cX6_drop 24 = .ok (.istore_n 2, 1) := by decide +kernel
theorem dX6_drop_25 : decode cX6_drop 25 = .ok (.aload_n 0, 1) := by decide +kernel
theorem dX6_drop_26 : decode cX6_drop 26 = .ok (.getfield 31, 3) := by decide +kernel
theorem dX6_drop_29 : decode cX6_drop 29 = .ok (.iload_n 1, 1) := by decide +kernel
theorem dX6_drop_30 : decode cX6_drop 30 = .ok (.iconst 0, 1) := by decide +kernel
theorem dX6_drop_31 : decode cX6_drop 31 = .ok (.iastore, 1) := by decide +kernel
theorem dX6_drop_32 : decode cX6_drop 32 = .ok (.iload_n 2, 1) := by decide +kernel
theorem dX6_drop_33 : decode cX6_drop 33 = .ok (.ireturn, 1) := by decide +kernel
theorem dX6_kind_0 : decode cX6_kind 0 = .ok (.iload_n 1, 1) := by decide +kernel
theorem dX6_kind_1 : decode cX6_kind 1 = .ok (.invokestatic 53, 3) := by decide +kernel
theorem dX6_kind_4 : decode cX6_kind 4 = .ok (.ifCond .ne 6, 3) := by decide +kernel
theorem dX6_kind_7 : decode cX6_kind 7 = .ok (.bipush (-2), 2) := by decide +kernel
theorem dX6_kind_9 : decode cX6_kind 9 = .ok (.ireturn, 1) := by decide +kernel
theorem dX6_kind_10 : decode cX6_kind 10 = .ok (.aload_n 0, 1) := by decide +kernel
theorem dX6_kind_11 : decode cX6_kind 11 = .ok (.getfield 31, 3) := by decide +kernel
theorem dX6_kind_14 : decode cX6_kind 14 = .ok (.iload_n 1, 1) := by decide +kernel
theorem dX6_kind_15 : decode cX6_kind 15 = .ok (.iaload, 1) := by decide +kernel
theorem dX6_kind_16 : decode cX6_kind 16 = .ok (.ifCond .ne 7, 3) := by decide +kernel
theorem dX6_kind_19 : decode cX6_kind 19 = .ok (.iconst (-1), 1) := by decide +kernel
theorem dX6_kind_20 : decode cX6_kind 20 = .ok (.goto 14, 3) := by decide +kernel
theorem dX6_kind_23 : decode cX6_kind 23 = .ok (.aload_n 0, 1) := by decide +kernel
theorem dX6_kind_24 : decode cX6_kind 24 = .ok (.getfield 7, 3) := by decide +kernel
theorem dX6_kind_27 : decode cX6_kind 27 = .ok (.aload_n 0, 1) := by decide +kernel
theorem dX6_kind_28 : decode cX6_kind 28 = .ok (.getfield 31, 3) := by decide +kernel
theorem dX6_kind_31 : decode cX6_kind 31 = .ok (.iload_n 1, 1) := by decide +kernel
theorem dX6_kind_32 : decode cX6_kind 32 = .ok (.iaload, 1) := by decide +kernel
theorem dX6_kind_33 : decode cX6_kind 33 = .ok (.baload, 1) := by decide +kernel
theorem dX6_kind_34 : decode cX6_kind 34 = .ok (.ireturn, 1) := by decide +kernel
theorem dX6_length_0 : decode cX6_length 0 = .ok (.iload_n 1, 1) := by decide +kernel
theorem dX6_length_1 : decode cX6_length 1 = .ok (.invokestatic 53, 3) := by decide +kernel
theorem dX6_length_4 : decode cX6_length 4 = .ok (.ifCond .eq 13, 3) := by decide +kernel
theorem dX6_length_7 : decode cX6_length 7 = .ok (.iload_n 2, 1) := by decide +kernel
theorem dX6_length_8 : decode cX6_length 8 = .ok (.iconst 0, 1) := by decide +kernel
theorem dX6_length_9 : decode cX6_length 9 = .ok (.bipush 13, 2) := by decide +kernel
theorem dX6_length_11 : decode cX6_length 11 = .ok (.invokestatic 57, 3) := by decide +kernel
theorem dX6_length_14 : decode cX6_length 14 = .ok (.ifCond .ne 6, 3) := by decide +kernel
theorem dX6_length_17 : decode cX6_length 17 = .ok (.bipush (-2), 2) := by decide +kernel
theorem dX6_length_19 : decode cX6_length 19 = .ok (.ireturn, 1) := by decide +kernel
theorem dX6_length_20 : decode cX6_length 20 = .ok (.aload_n 0, 1) := by decide +kernel
theorem dX6_length_21 : decode cX6_length 21 = .ok (.getfield 31, 3) := by decide +kernel
theorem dX6_length_24 : decode cX6_length 24 = .ok (.iload_n 1, 1) := by decide +kernel
theorem dX6_length_25 : decode cX6_length 25 = .ok (.iaload, 1) := by decide +kernel
theorem dX6_length_26 : decode cX6_length 26 = .ok (.istore_n 3, 1) := by decide +kernel
theorem dX6_length_27 : decode cX6_length 27 = .ok (.aload_n 0, 1) := by decide +kernel
theorem dX6_length_28 : decode cX6_length 28 = .ok (.iload_n 3, 1) := by decide +kernel
theorem dX6_length_29 : decode cX6_length 29 = .ok (.iload_n 2, 1) := by decide +kernel
theorem dX6_length_30 : decode cX6_length 30 = .ok (.invokevirtual 90, 3) := by decide +kernel
theorem dX6_length_33 : decode cX6_length 33 = .ok (.ifCond .ne 10, 3) := by decide +kernel
theorem dX6_length_36 : decode cX6_length 36 = .ok (.iconst 2, 1) := by decide +kernel
theorem dX6_length_37 : decode cX6_length 37 = .ok (.invokestatic 65, 3) := by decide +kernel
theorem dX6_length_40 : decode cX6_length 40 = .ok (.goto 20, 3) := by decide +kernel
theorem dX6_length_43 : decode cX6_length 43 = .ok (.iload_n 3, 1) := by decide +kernel
theorem dX6_length_44 : decode cX6_length 44 = .ok (.ifCond .ne 10, 3) := by decide +kernel
theorem dX6_length_47 : decode cX6_length 47 = .ok (.iconst 1, 1) := by decide +kernel
theorem dX6_length_48 : decode cX6_length 48 = .ok (.invokestatic 65, 3) := by decide +kernel
theorem dX6_length_51 : decode cX6_length 51 = .ok (.goto 9, 3) := by decide +kernel
theorem dX6_length_54 : decode cX6_length 54 = .ok (.aload_n 0, 1) := by decide +kernel
theorem dX6_length_55 : decode cX6_length 55 = .ok (.getfield 13, 3) := by decide +kernel
theorem dX6_length_58 : decode cX6_length 58 = .ok (.iload_n 3, 1) := by decide +kernel
theorem dX6_length_59 : decode cX6_length 59 = .ok (.baload, 1) := by decide +kernel
theorem dX6_length_60 : decode cX6_length 60 = .ok (.ireturn, 1) := by decide +kernel
theorem dX6_looked_0 : decode cX6_looked 0 = .ok (.iload_n 1, 1) := by decide +kernel
theorem dX6_looked_1 : decode cX6_looked 1 = .ok (.ifCond .ne 7, 3) := by decide +kernel
theorem dX6_looked_4 : decode cX6_looked 4 = .ok (.iconst 1, 1) := by decide +kernel
theorem dX6_looked_5 : decode cX6_looked 5 = .ok (.goto 24, 3) := by decide +kernel
theorem dX6_looked_8 : decode cX6_looked 8 = .ok (.iload_n 2, 1) := by decide +kernel
theorem dX6_looked_9 : decode cX6_looked 9 = .ok (.iconst 0, 1) := by decide +kernel
theorem dX6_looked_10 : decode cX6_looked 10 = .ok (.aload_n 0, 1) := by decide +kernel
theorem dX6_looked_11 : decode cX6_looked 11 = .ok (.getfield 13, 3) := by decide +kernel
theorem dX6_looked_14 : decode cX6_looked 14 = .ok (.iload_n 1, 1) := by decide +kernel
theorem dX6_looked_15 : decode cX6_looked 15 = .ok (.baload, 1) := by decide +kernel
theorem dX6_looked_16 : decode cX6_looked 16 = .ok (.iconst 1, 1) := by decide +kernel
theorem dX6_looked_17 : decode cX6_looked 17 = .ok (.isub, 1) := by decide +kernel
theorem dX6_looked_18 : decode cX6_looked 18 = .ok (.invokestatic 57, 3) := by decide +kernel
theorem dX6_looked_21 : decode cX6_looked 21 = .ok (.ifCond .eq 7, 3) := by decide +kernel
theorem dX6_looked_24 : decode cX6_looked 24 = .ok (.iconst 0, 1) := by decide +kernel
theorem dX6_looked_25 : decode cX6_looked 25 = .ok (.goto 4, 3) := by decide +kernel
theorem dX6_looked_28 : decode cX6_looked 28 = .ok (.iconst 3, 1) := by decide +kernel
theorem dX6_looked_29 : decode cX6_looked 29 = .ok (.ireturn, 1) := by decide +kernel
theorem dX6_cut_0 : decode cX6_cut 0 = .ok (.iload_n 0, 1) := by decide +kernel
theorem dX6_cut_1 : decode cX6_cut 1 = .ok (.tableswitch 113 0 7 #[47, 51, 56, 61, 67, 113, 71, 93], 47) := by decide +kernel
theorem dX6_cut_48 : decode cX6_cut 48 = .ok (.lload_n 1, 1) := by decide +kernel
theorem dX6_cut_49 : decode cX6_cut 49 = .ok (.lconst 1, 1) := by decide +kernel
theorem dX6_cut_50 : decode cX6_cut 50 = .ok (.land, 1) := by decide +kernel
theorem dX6_cut_51 : decode cX6_cut 51 = .ok (.lreturn, 1) := by decide +kernel
theorem dX6_cut_52 : decode cX6_cut 52 = .ok (.lload_n 1, 1) := by decide +kernel
theorem dX6_cut_53 : decode cX6_cut 53 = .ok (.l2i, 1) := by decide +kernel
theorem dX6_cut_54 : decode cX6_cut 54 = .ok (.i2b, 1) := by decide +kernel
theorem dX6_cut_55 : decode cX6_cut 55 = .ok (.i2l, 1) := by decide +kernel
theorem dX6_cut_56 : decode cX6_cut 56 = .ok (.lreturn, 1) := by decide +kernel
theorem dX6_cut_57 : decode cX6_cut 57 = .ok (.lload_n 1, 1) := by decide +kernel
theorem dX6_cut_58 : decode cX6_cut 58 = .ok (.l2i, 1) := by decide +kernel
theorem dX6_cut_59 : decode cX6_cut 59 = .ok (.i2s, 1) := by decide +kernel
theorem dX6_cut_60 : decode cX6_cut 60 = .ok (.i2l, 1) := by decide +kernel
theorem dX6_cut_61 : decode cX6_cut 61 = .ok (.lreturn, 1) := by decide +kernel
theorem dX6_cut_62 : decode cX6_cut 62 = .ok (.lload_n 1, 1) := by decide +kernel
theorem dX6_cut_63 : decode cX6_cut 63 = .ok (.ldc2_w 94, 3) := by decide +kernel
theorem dX6_cut_66 : decode cX6_cut 66 = .ok (.land, 1) := by decide +kernel
theorem dX6_cut_67 : decode cX6_cut 67 = .ok (.lreturn, 1) := by decide +kernel
theorem dX6_cut_68 : decode cX6_cut 68 = .ok (.lload_n 1, 1) := by decide +kernel
theorem dX6_cut_69 : decode cX6_cut 69 = .ok (.l2i, 1) := by decide +kernel
theorem dX6_cut_70 : decode cX6_cut 70 = .ok (.i2l, 1) := by decide +kernel
theorem dX6_cut_71 : decode cX6_cut 71 = .ok (.lreturn, 1) := by decide +kernel
theorem dX6_cut_72 : decode cX6_cut 72 = .ok (.lload_n 1, 1) := by decide +kernel
theorem dX6_cut_73 : decode cX6_cut 73 = .ok (.ldc2_w 96, 3) := by decide +kernel
theorem dX6_cut_76 : decode cX6_cut 76 = .ok (.land, 1) := by decide +kernel
theorem dX6_cut_77 : decode cX6_cut 77 = .ok (.ldc2_w 98, 3) := by decide +kernel
theorem dX6_cut_80 : decode cX6_cut 80 = .ok (.lcmp, 1) := by decide +kernel
theorem dX6_cut_81 : decode cX6_cut 81 = .ok (.ifCond .le 9, 3) := by decide +kernel
theorem dX6_cut_84 : decode cX6_cut 84 = .ok (.ldc2_w 100, 3) := by decide +kernel
theorem dX6_cut_87 : decode cX6_cut 87 = .ok (.goto 6, 3) := by decide +kernel
theorem dX6_cut_90 : decode cX6_cut 90 = .ok (.lload_n 1, 1) := by decide +kernel
theorem dX6_cut_91 : decode cX6_cut 91 = .ok (.l2i, 1) := by decide +kernel
theorem dX6_cut_92 : decode cX6_cut 92 = .ok (.i2l, 1) := by decide +kernel
theorem dX6_cut_93 : decode cX6_cut 93 = .ok (.lreturn, 1) := by decide +kernel
theorem dX6_cut_94 : decode cX6_cut 94 = .ok (.lload_n 1, 1) := by decide +kernel
theorem dX6_cut_95 : decode cX6_cut 95 = .ok (.ldc2_w 102, 3) := by decide +kernel
theorem dX6_cut_98 : decode cX6_cut 98 = .ok (.land, 1) := by decide +kernel
theorem dX6_cut_99 : decode cX6_cut 99 = .ok (.ldc2_w 104, 3) := by decide +kernel
theorem dX6_cut_102 : decode cX6_cut 102 = .ok (.lcmp, 1) := by decide +kernel
theorem dX6_cut_103 : decode cX6_cut 103 = .ok (.ifCond .le 9, 3) := by decide +kernel
theorem dX6_cut_106 : decode cX6_cut 106 = .ok (.ldc2_w 106, 3) := by decide +kernel
theorem dX6_cut_109 : decode cX6_cut 109 = .ok (.goto 4, 3) := by decide +kernel
theorem dX6_cut_112 : decode cX6_cut 112 = .ok (.lload_n 1, 1) := by decide +kernel
theorem dX6_cut_113 : decode cX6_cut 113 = .ok (.lreturn, 1) := by decide +kernel
theorem dX6_cut_114 : decode cX6_cut 114 = .ok (.lload_n 1, 1) := by decide +kernel
theorem dX6_cut_115 : decode cX6_cut 115 = .ok (.lreturn, 1) := by decide +kernel
theorem dX6_itemOf_0 : decode cX6_itemOf 0 = .ok (.aload_n 0, 1) := by decide +kernel
theorem dX6_itemOf_1 : decode cX6_itemOf 1 = .ok (.iload_n 3, 1) := by decide +kernel
theorem dX6_itemOf_2 : decode cX6_itemOf 2 = .ok (.ifCond .eq 7, 3) := by decide +kernel
theorem dX6_itemOf_5 : decode cX6_itemOf 5 = .ok (.iload_n 3, 1) := by decide +kernel
theorem dX6_itemOf_6 : decode cX6_itemOf 6 = .ok (.goto 9, 3) := by decide +kernel
theorem dX6_itemOf_9 : decode cX6_itemOf 9 = .ok (.aload_n 0, 1) := by decide +kernel
theorem dX6_itemOf_10 : decode cX6_itemOf 10 = .ok (.iload_n 1, 1) := by decide +kernel
theorem dX6_itemOf_11 : decode cX6_itemOf 11 = .ok (.iload_n 2, 1) := by decide +kernel
theorem dX6_itemOf_12 : decode cX6_itemOf 12 = .ok (.invokevirtual 108, 3) := by decide +kernel
theorem dX6_itemOf_15 : decode cX6_itemOf 15 = .ok (.putfield 111, 3) := by decide +kernel
theorem dX6_itemOf_18 : decode cX6_itemOf 18 = .ok (.aload_n 0, 1) := by decide +kernel
theorem dX6_itemOf_19 : decode cX6_itemOf 19 = .ok (.getfield 111, 3) := by decide +kernel
theorem dX6_itemOf_22 : decode cX6_itemOf 22 = .ok (.ifCond .eq 5, 3) := by decide +kernel
theorem dX6_itemOf_25 : decode cX6_itemOf 25 = .ok (.lconst 0, 1) := by decide +kernel
theorem dX6_itemOf_26 : decode cX6_itemOf 26 = .ok (.lreturn, 1) := by decide +kernel
theorem dX6_itemOf_27 : decode cX6_itemOf 27 = .ok (.aload_n 0, 1) := by decide +kernel
theorem dX6_itemOf_28 : decode cX6_itemOf 28 = .ok (.iload_n 1, 1) := by decide +kernel
theorem dX6_itemOf_29 : decode cX6_itemOf 29 = .ok (.iload_n 2, 1) := by decide +kernel
theorem dX6_itemOf_30 : decode cX6_itemOf 30 = .ok (.invokevirtual 80, 3) := by decide +kernel
theorem dX6_itemOf_33 : decode cX6_itemOf 33 = .ok (.lstore 4, 2) := by decide +kernel
theorem dX6_itemOf_35 : decode cX6_itemOf 35 = .ok (.aload_n 0, 1) := by decide +kernel
theorem dX6_itemOf_36 : decode cX6_itemOf 36 = .ok (.getfield 7, 3) := by decide +kernel
theorem dX6_itemOf_39 : decode cX6_itemOf 39 = .ok (.iload_n 1, 1) := by decide +kernel
theorem dX6_itemOf_40 : decode cX6_itemOf 40 = .ok (.baload, 1) := by decide +kernel
theorem dX6_itemOf_41 : decode cX6_itemOf 41 = .ok (.bipush 8, 2) := by decide +kernel
theorem dX6_itemOf_43 : decode cX6_itemOf 43 = .ok (.if_icmp .eq 14, 3) := by decide +kernel
theorem dX6_itemOf_46 : decode cX6_itemOf 46 = .ok (.aload_n 0, 1) := by decide +kernel
theorem dX6_itemOf_47 : decode cX6_itemOf 47 = .ok (.getfield 7, 3) := by decide +kernel
theorem dX6_itemOf_50 : decode cX6_itemOf 50 = .ok (.iload_n 1, 1) := by decide +kernel
theorem dX6_itemOf_51 : decode cX6_itemOf 51 = .ok (.baload, 1) := by decide +kernel
theorem dX6_itemOf_52 : decode cX6_itemOf 52 = .ok (.bipush 9, 2) := by decide +kernel
theorem dX6_itemOf_54 : decode cX6_itemOf 54 = .ok (.if_icmp .ne 40, 3) := by decide +kernel
theorem dX6_itemOf_57 : decode cX6_itemOf 57 = .ok (.aload_n 0, 1) := by decide +kernel
theorem dX6_itemOf_58 : decode cX6_itemOf 58 = .ok (.lload 4, 2) := by decide +kernel
theorem dX6_itemOf_60 : decode cX6_itemOf 60 = .ok (.lconst 0, 1) := by decide +kernel
theorem dX6_itemOf_61 : decode cX6_itemOf 61 = .ok (.lcmp, 1) := by decide +kernel
theorem dX6_itemOf_62 : decode cX6_itemOf 62 = .ok (.ifCond .ne 7, 3) := by decide +kernel
theorem dX6_itemOf_65 : decode cX6_itemOf 65 = .ok (.iconst 1, 1) := by decide +kernel
theorem dX6_itemOf_66 : decode cX6_itemOf 66 = .ok (.goto 4, 3) := by decide +kernel
theorem dX6_itemOf_69 : decode cX6_itemOf 69 = .ok (.iconst 0, 1) := by decide +kernel
theorem dX6_itemOf_70 : decode cX6_itemOf 70 = .ok (.putfield 111, 3) := by decide +kernel
theorem dX6_itemOf_73 : decode cX6_itemOf 73 = .ok (.lload 4, 2) := by decide +kernel
theorem dX6_itemOf_75 : decode cX6_itemOf 75 = .ok (.lconst 0, 1) := by decide +kernel
theorem dX6_itemOf_76 : decode cX6_itemOf 76 = .ok (.lcmp, 1) := by decide +kernel
theorem dX6_itemOf_77 : decode cX6_itemOf 77 = .ok (.ifCond .ne 7, 3) := by decide +kernel
theorem dX6_itemOf_80 : decode cX6_itemOf 80 = .ok (.lconst 0, 1) := by decide +kernel
theorem dX6_itemOf_81 : decode cX6_itemOf 81 = .ok (.goto 12, 3) := by decide +kernel
theorem dX6_itemOf_84 : decode cX6_itemOf 84 = .ok (.aload_n 0, 1) := by decide +kernel
theorem dX6_itemOf_85 : decode cX6_itemOf 85 = .ok (.getfield 24, 3) := by decide +kernel
theorem dX6_itemOf_88 : decode cX6_itemOf 88 = .ok (.lload 4, 2) := by decide +kernel
theorem dX6_itemOf_90 : decode cX6_itemOf 90 = .ok (.l2i, 1) := by decide +kernel
theorem dX6_itemOf_91 : decode cX6_itemOf 91 = .ok (.iaload, 1) := by decide +kernel
theorem dX6_itemOf_92 : decode cX6_itemOf 92 = .ok (.i2l, 1) := by decide +kernel
theorem dX6_itemOf_93 : decode cX6_itemOf 93 = .ok (.lreturn, 1) := by decide +kernel
theorem dX6_itemOf_94 : decode cX6_itemOf 94 = .ok (.lload 4, 2) := by decide +kernel
theorem dX6_itemOf_96 : decode cX6_itemOf 96 = .ok (.lreturn, 1) := by decide +kernel
theorem dX6_read_0 : decode cX6_read 0 = .ok (.iload_n 1, 1) := by decide +kernel
theorem dX6_read_1 : decode cX6_read 1 = .ok (.invokestatic 53, 3) := by decide +kernel
theorem dX6_read_4 : decode cX6_read 4 = .ok (.ifCond .eq 13, 3) := by decide +kernel
theorem dX6_read_7 : decode cX6_read 7 = .ok (.iload_n 2, 1) := by decide +kernel
theorem dX6_read_8 : decode cX6_read 8 = .ok (.iconst 0, 1) := by decide +kernel
theorem dX6_read_9 : decode cX6_read 9 = .ok (.bipush 9, 2) := by decide +kernel
theorem dX6_read_11 : decode cX6_read 11 = .ok (.invokestatic 57, 3) := by decide +kernel
theorem dX6_read_14 : decode cX6_read 14 = .ok (.ifCond .ne 11, 3) := by decide +kernel
theorem dX6_read_17 : decode cX6_read 17 = .ok (.aload_n 0, 1) := by decide +kernel
theorem dX6_read_18 : decode cX6_read 18 = .ok (.bipush (-2), 2) := by decide +kernel
theorem dX6_read_20 : decode cX6_read 20 = .ok (.putfield 111, 3) := by decide +kernel
theorem dX6_read_23 : decode cX6_read 23 = .ok (.lconst 0, 1) := by decide +kernel
theorem dX6_read_24 : decode cX6_read 24 = .ok (.lreturn, 1) := by decide +kernel
theorem dX6_read_25 : decode cX6_read 25 = .ok (.aload_n 0, 1) := by decide +kernel
theorem dX6_read_26 : decode cX6_read 26 = .ok (.getfield 31, 3) := by decide +kernel
theorem dX6_read_29 : decode cX6_read 29 = .ok (.iload_n 1, 1) := by decide +kernel
theorem dX6_read_30 : decode cX6_read 30 = .ok (.iaload, 1) := by decide +kernel
theorem dX6_read_31 : decode cX6_read 31 = .ok (.istore 4, 2) := by decide +kernel
theorem dX6_read_33 : decode cX6_read 33 = .ok (.aload_n 0, 1) := by decide +kernel
theorem dX6_read_34 : decode cX6_read 34 = .ok (.iload 4, 2) := by decide +kernel
theorem dX6_read_36 : decode cX6_read 36 = .ok (.iload_n 3, 1) := by decide +kernel
theorem dX6_read_37 : decode cX6_read 37 = .ok (.aload_n 0, 1) := by decide +kernel
theorem dX6_read_38 : decode cX6_read 38 = .ok (.iload 4, 2) := by decide +kernel
theorem dX6_read_40 : decode cX6_read 40 = .ok (.iload_n 2, 1) := by decide +kernel
theorem dX6_read_41 : decode cX6_read 41 = .ok (.invokevirtual 90, 3) := by decide +kernel
theorem dX6_read_44 : decode cX6_read 44 = .ok (.ifCond .eq 7, 3) := by decide +kernel
theorem dX6_read_47 : decode cX6_read 47 = .ok (.iconst 0, 1) := by decide +kernel
theorem dX6_read_48 : decode cX6_read 48 = .ok (.goto 4, 3) := by decide +kernel
theorem dX6_read_51 : decode cX6_read 51 = .ok (.iconst 2, 1) := by decide +kernel
theorem dX6_read_52 : decode cX6_read 52 = .ok (.invokevirtual 114, 3) := by decide +kernel
theorem dX6_read_55 : decode cX6_read 55 = .ok (.lreturn, 1) := by decide +kernel
theorem dX6_write_0 : decode cX6_write 0 = .ok (.iload_n 1, 1) := by decide +kernel
theorem dX6_write_1 : decode cX6_write 1 = .ok (.invokestatic 53, 3) := by decide +kernel
theorem dX6_write_4 : decode cX6_write 4 = .ok (.ifCond .eq 13, 3) := by decide +kernel
theorem dX6_write_7 : decode cX6_write 7 = .ok (.iload_n 2, 1) := by decide +kernel
theorem dX6_write_8 : decode cX6_write 8 = .ok (.iconst 0, 1) := by decide +kernel
theorem dX6_write_9 : decode cX6_write 9 = .ok (.bipush 7, 2) := by decide +kernel
theorem dX6_write_11 : decode cX6_write 11 = .ok (.invokestatic 57, 3) := by decide +kernel
theorem dX6_write_14 : decode cX6_write 14 = .ok (.ifCond .ne 6, 3) := by decide +kernel
theorem dX6_write_17 : decode cX6_write 17 = .ok (.bipush (-2), 2) := by decide +kernel
theorem dX6_write_19 : decode cX6_write 19 = .ok (.ireturn, 1) := by decide +kernel
theorem dX6_write_20 : decode cX6_write 20 = .ok (.aload_n 0, 1) := by decide +kernel
theorem dX6_write_21 : decode cX6_write 21 = .ok (.getfield 31, 3) := by decide +kernel
theorem dX6_write_24 : decode cX6_write 24 = .ok (.iload_n 1, 1) := by decide +kernel
theorem dX6_write_25 : decode cX6_write 25 = .ok (.iaload, 1) := by decide +kernel
theorem dX6_write_26 : decode cX6_write 26 = .ok (.istore 6, 2) := by decide +kernel
theorem dX6_write_28 : decode cX6_write 28 = .ok (.aload_n 0, 1) := by decide +kernel
theorem dX6_write_29 : decode cX6_write 29 = .ok (.iload 6, 2) := by decide +kernel
theorem dX6_write_31 : decode cX6_write 31 = .ok (.iload_n 2, 1) := by decide +kernel
theorem dX6_write_32 : decode cX6_write 32 = .ok (.invokevirtual 90, 3) := by decide +kernel
theorem dX6_write_35 : decode cX6_write 35 = .ok (.ifCond .eq 13, 3) := by decide +kernel
theorem dX6_write_38 : decode cX6_write 38 = .ok (.aload_n 0, 1) := by decide +kernel
theorem dX6_write_39 : decode cX6_write 39 = .ok (.iload 6, 2) := by decide +kernel
theorem dX6_write_41 : decode cX6_write 41 = .ok (.iload_n 3, 1) := by decide +kernel
theorem dX6_write_42 : decode cX6_write 42 = .ok (.invokevirtual 108, 3) := by decide +kernel
theorem dX6_write_45 : decode cX6_write 45 = .ok (.goto 4, 3) := by decide +kernel
theorem dX6_write_48 : decode cX6_write 48 = .ok (.iconst 2, 1) := by decide +kernel
theorem dX6_write_49 : decode cX6_write 49 = .ok (.istore 7, 2) := by decide +kernel
theorem dX6_write_51 : decode cX6_write 51 = .ok (.iload 7, 2) := by decide +kernel
theorem dX6_write_53 : decode cX6_write 53 = .ok (.ifCond .eq 9, 3) := by decide +kernel
theorem dX6_write_56 : decode cX6_write 56 = .ok (.iload 7, 2) := by decide +kernel
theorem dX6_write_58 : decode cX6_write 58 = .ok (.invokestatic 65, 3) := by decide +kernel
theorem dX6_write_61 : decode cX6_write 61 = .ok (.ireturn, 1) := by decide +kernel
theorem dX6_write_62 : decode cX6_write 62 = .ok (.aload_n 0, 1) := by decide +kernel
theorem dX6_write_63 : decode cX6_write 63 = .ok (.iload 6, 2) := by decide +kernel
theorem dX6_write_65 : decode cX6_write 65 = .ok (.iload_n 3, 1) := by decide +kernel
theorem dX6_write_66 : decode cX6_write 66 = .ok (.iload_n 2, 1) := by decide +kernel
theorem dX6_write_67 : decode cX6_write 67 = .ok (.lload 4, 2) := by decide +kernel
theorem dX6_write_69 : decode cX6_write 69 = .ok (.invokestatic 118, 3) := by decide +kernel
theorem dX6_write_72 : decode cX6_write 72 = .ok (.invokevirtual 76, 3) := by decide +kernel
theorem dX6_write_75 : decode cX6_write 75 = .ok (.iconst 1, 1) := by decide +kernel
theorem dX6_write_76 : decode cX6_write 76 = .ok (.ireturn, 1) := by decide +kernel
theorem dX6_thing_0 : decode cX6_thing 0 = .ok (.iload_n 1, 1) := by decide +kernel
theorem dX6_thing_1 : decode cX6_thing 1 = .ok (.invokestatic 53, 3) := by decide +kernel
theorem dX6_thing_4 : decode cX6_thing 4 = .ok (.ifCond .eq 12, 3) := by decide +kernel
theorem dX6_thing_7 : decode cX6_thing 7 = .ok (.iload_n 3, 1) := by decide +kernel
theorem dX6_thing_8 : decode cX6_thing 8 = .ok (.iconst 0, 1) := by decide +kernel
theorem dX6_thing_9 : decode cX6_thing 9 = .ok (.iconst 2, 1) := by decide +kernel
theorem dX6_thing_10 : decode cX6_thing 10 = .ok (.invokestatic 57, 3) := by decide +kernel
theorem dX6_thing_13 : decode cX6_thing 13 = .ok (.ifCond .ne 6, 3) := by decide +kernel
theorem dX6_thing_16 : decode cX6_thing 16 = .ok (.bipush (-2), 2) := by decide +kernel
theorem dX6_thing_18 : decode cX6_thing 18 = .ok (.ireturn, 1) := by decide +kernel
theorem dX6_thing_19 : decode cX6_thing 19 = .ok (.iload_n 3, 1) := by decide +kernel
theorem dX6_thing_20 : decode cX6_thing 20 = .ok (.iconst 2, 1) := by decide +kernel
theorem dX6_thing_21 : decode cX6_thing 21 = .ok (.if_icmp .ge 16, 3) := by decide +kernel
theorem dX6_thing_24 : decode cX6_thing 24 = .ok (.aload_n 0, 1) := by decide +kernel
theorem dX6_thing_25 : decode cX6_thing 25 = .ok (.getfield 122, 3) := by decide +kernel
theorem dX6_thing_28 : decode cX6_thing 28 = .ok (.sipush 3000, 3) := by decide +kernel
theorem dX6_thing_31 : decode cX6_thing 31 = .ok (.if_icmp .lt 6, 3) := by decide +kernel
theorem dX6_thing_34 : decode cX6_thing 34 = .ok (.bipush (-3), 2) := by decide +kernel
theorem dX6_thing_36 : decode cX6_thing 36 = .ok (.ireturn, 1) := by decide +kernel
theorem dX6_thing_37 : decode cX6_thing 37 = .ok (.iload_n 3, 1) := by decide +kernel
theorem dX6_thing_38 : decode cX6_thing 38 = .ok (.iconst 2, 1) := by decide +kernel
theorem dX6_thing_39 : decode cX6_thing 39 = .ok (.if_icmp .ge 43, 3) := by decide +kernel
theorem dX6_thing_42 : decode cX6_thing 42 = .ok (.aload_n 0, 1) := by decide +kernel
theorem dX6_thing_43 : decode cX6_thing 43 = .ok (.dup, 1) := by decide +kernel
theorem dX6_thing_44 : decode cX6_thing 44 = .ok (.getfield 122, 3) := by decide +kernel
theorem dX6_thing_47 : decode cX6_thing 47 = .ok (.iconst 1, 1) := by decide +kernel
theorem dX6_thing_48 : decode cX6_thing 48 = .ok (.iadd, 1) := by decide +kernel
theorem dX6_thing_49 : decode cX6_thing 49 = .ok (.putfield 122, 3) := by decide +kernel
theorem dX6_thing_52 : decode cX6_thing 52 = .ok (.aload_n 0, 1) := by decide +kernel
theorem dX6_thing_53 : decode cX6_thing 53 = .ok (.getfield 24, 3) := by decide +kernel
theorem dX6_thing_56 : decode cX6_thing 56 = .ok (.aload_n 0, 1) := by decide +kernel
theorem dX6_thing_57 : decode cX6_thing 57 = .ok (.getfield 122, 3) := by decide +kernel
theorem dX6_thing_60 : decode cX6_thing 60 = .ok (.iload 4, 2) := by decide +kernel
theorem dX6_thing_62 : decode cX6_thing 62 = .ok (.iastore, 1) := by decide +kernel
theorem dX6_thing_63 : decode cX6_thing 63 = .ok (.aload_n 0, 1) := by decide +kernel
theorem dX6_thing_64 : decode cX6_thing 64 = .ok (.getfield 27, 3) := by decide +kernel
theorem dX6_thing_67 : decode cX6_thing 67 = .ok (.aload_n 0, 1) := by decide +kernel
theorem dX6_thing_68 : decode cX6_thing 68 = .ok (.getfield 122, 3) := by decide +kernel
theorem dX6_thing_71 : decode cX6_thing 71 = .ok (.iload_n 3, 1) := by decide +kernel
theorem dX6_thing_72 : decode cX6_thing 72 = .ok (.iconst 1, 1) := by decide +kernel
theorem dX6_thing_73 : decode cX6_thing 73 = .ok (.if_icmp .ne 7, 3) := by decide +kernel
theorem dX6_thing_76 : decode cX6_thing 76 = .ok (.iconst 1, 1) := by decide +kernel
theorem dX6_thing_77 : decode cX6_thing 77 = .ok (.goto 4, 3) := by decide +kernel
theorem dX6_thing_80 : decode cX6_thing 80 = .ok (.iconst 0, 1) := by decide +kernel
theorem dX6_thing_81 : decode cX6_thing 81 = .ok (.bastore, 1) := by decide +kernel
theorem dX6_thing_82 : decode cX6_thing 82 = .ok (.aload_n 0, 1) := by decide +kernel
theorem dX6_thing_83 : decode cX6_thing 83 = .ok (.getfield 31, 3) := by decide +kernel
theorem dX6_thing_86 : decode cX6_thing 86 = .ok (.iload_n 1, 1) := by decide +kernel
theorem dX6_thing_87 : decode cX6_thing 87 = .ok (.iaload, 1) := by decide +kernel
theorem dX6_thing_88 : decode cX6_thing 88 = .ok (.istore 5, 2) := by decide +kernel
theorem dX6_thing_90 : decode cX6_thing 90 = .ok (.aload_n 0, 1) := by decide +kernel
theorem dX6_thing_91 : decode cX6_thing 91 = .ok (.iload 5, 2) := by decide +kernel
theorem dX6_thing_93 : decode cX6_thing 93 = .ok (.bipush 8, 2) := by decide +kernel
theorem dX6_thing_95 : decode cX6_thing 95 = .ok (.invokevirtual 90, 3) := by decide +kernel
theorem dX6_thing_98 : decode cX6_thing 98 = .ok (.ifCond .eq 13, 3) := by decide +kernel
theorem dX6_thing_101 : decode cX6_thing 101 = .ok (.aload_n 0, 1) := by decide +kernel
theorem dX6_thing_102 : decode cX6_thing 102 = .ok (.iload 5, 2) := by decide +kernel
theorem dX6_thing_104 : decode cX6_thing 104 = .ok (.iload_n 2, 1) := by decide +kernel
theorem dX6_thing_105 : decode cX6_thing 105 = .ok (.invokevirtual 108, 3) := by decide +kernel
theorem dX6_thing_108 : decode cX6_thing 108 = .ok (.goto 4, 3) := by decide +kernel
theorem dX6_thing_111 : decode cX6_thing 111 = .ok (.iconst 2, 1) := by decide +kernel
theorem dX6_thing_112 : decode cX6_thing 112 = .ok (.istore 6, 2) := by decide +kernel
theorem dX6_thing_114 : decode cX6_thing 114 = .ok (.iload 6, 2) := by decide +kernel
theorem dX6_thing_116 : decode cX6_thing 116 = .ok (.ifCond .ne 23, 3) := by decide +kernel
theorem dX6_thing_119 : decode cX6_thing 119 = .ok (.iload_n 3, 1) := by decide +kernel
theorem dX6_thing_120 : decode cX6_thing 120 = .ok (.ifCond .ne 19, 3) := by decide +kernel
theorem dX6_thing_123 : decode cX6_thing 123 = .ok (.aload_n 0, 1) := by decide +kernel
theorem dX6_thing_124 : decode cX6_thing 124 = .ok (.getfield 7, 3) := by decide +kernel
theorem dX6_thing_127 : decode cX6_thing 127 = .ok (.iload 5, 2) := by decide +kernel
theorem dX6_thing_129 : decode cX6_thing 129 = .ok (.baload, 1) := by decide +kernel
theorem dX6_thing_130 : decode cX6_thing 130 = .ok (.bipush 9, 2) := by decide +kernel
theorem dX6_thing_132 : decode cX6_thing 132 = .ok (.if_icmp .ne 7, 3) := by decide +kernel
theorem dX6_thing_135 : decode cX6_thing 135 = .ok (.iconst 5, 1) := by decide +kernel
theorem dX6_thing_136 : decode cX6_thing 136 = .ok (.goto 5, 3) := by decide +kernel
theorem dX6_thing_139 : decode cX6_thing 139 = .ok (.iload 6, 2) := by decide +kernel
theorem dX6_thing_141 : decode cX6_thing 141 = .ok (.istore 6, 2) := by decide +kernel
theorem dX6_thing_143 : decode cX6_thing 143 = .ok (.iload 6, 2) := by decide +kernel
theorem dX6_thing_145 : decode cX6_thing 145 = .ok (.ifCond .eq 9, 3) := by decide +kernel
theorem dX6_thing_148 : decode cX6_thing 148 = .ok (.iload 6, 2) := by decide +kernel
theorem dX6_thing_150 : decode cX6_thing 150 = .ok (.invokestatic 65, 3) := by decide +kernel
theorem dX6_thing_153 : decode cX6_thing 153 = .ok (.ireturn, 1) := by decide +kernel
theorem dX6_thing_154 : decode cX6_thing 154 = .ok (.aload_n 0, 1) := by decide +kernel
theorem dX6_thing_155 : decode cX6_thing 155 = .ok (.iload 5, 2) := by decide +kernel
theorem dX6_thing_157 : decode cX6_thing 157 = .ok (.iload_n 2, 1) := by decide +kernel
theorem dX6_thing_158 : decode cX6_thing 158 = .ok (.iload_n 3, 1) := by decide +kernel
theorem dX6_thing_159 : decode cX6_thing 159 = .ok (.iconst 2, 1) := by decide +kernel
theorem dX6_thing_160 : decode cX6_thing 160 = .ok (.if_icmp .ne 7, 3) := by decide +kernel
theorem dX6_thing_163 : decode cX6_thing 163 = .ok (.lconst 0, 1) := by decide +kernel
theorem dX6_thing_164 : decode cX6_thing 164 = .ok (.goto 8, 3) := by decide +kernel
theorem dX6_thing_167 : decode cX6_thing 167 = .ok (.aload_n 0, 1) := by decide +kernel
theorem dX6_thing_168 : decode cX6_thing 168 = .ok (.getfield 122, 3) := by decide +kernel
theorem dX6_thing_171 : decode cX6_thing 171 = .ok (.i2l, 1) := by decide +kernel
theorem dX6_thing_172 : decode cX6_thing 172 = .ok (.invokevirtual 76, 3) := by decide +kernel
theorem dX6_thing_175 : decode cX6_thing 175 = .ok (.iconst 1, 1) := by decide +kernel
theorem dX6_thing_176 : decode cX6_thing 176 = .ok (.ireturn, 1) := by decide +kernel
theorem dX6_marked_0 : decode cX6_marked 0 = .ok (.iload_n 1, 1) := by decide +kernel
theorem dX6_marked_1 : decode cX6_marked 1 = .ok (.invokestatic 53, 3) := by decide +kernel
theorem dX6_marked_4 : decode cX6_marked 4 = .ok (.ifCond .ne 6, 3) := by decide +kernel
theorem dX6_marked_7 : decode cX6_marked 7 = .ok (.bipush (-2), 2) := by decide +kernel
theorem dX6_marked_9 : decode cX6_marked 9 = .ok (.ireturn, 1) := by decide +kernel
theorem dX6_marked_10 : decode cX6_marked 10 = .ok (.aload_n 0, 1) := by decide +kernel
theorem dX6_marked_11 : decode cX6_marked 11 = .ok (.getfield 31, 3) := by decide +kernel
theorem dX6_marked_14 : decode cX6_marked 14 = .ok (.iload_n 1, 1) := by decide +kernel
theorem dX6_marked_15 : decode cX6_marked 15 = .ok (.iaload, 1) := by decide +kernel
theorem dX6_marked_16 : decode cX6_marked 16 = .ok (.istore_n 3, 1) := by decide +kernel
theorem dX6_marked_17 : decode cX6_marked 17 = .ok (.aload_n 0, 1) := by decide +kernel
theorem dX6_marked_18 : decode cX6_marked 18 = .ok (.iload_n 3, 1) := by decide +kernel
theorem dX6_marked_19 : decode cX6_marked 19 = .ok (.bipush 8, 2) := by decide +kernel
theorem dX6_marked_21 : decode cX6_marked 21 = .ok (.invokevirtual 90, 3) := by decide +kernel
theorem dX6_marked_24 : decode cX6_marked 24 = .ok (.ifCond .eq 12, 3) := by decide +kernel
theorem dX6_marked_27 : decode cX6_marked 27 = .ok (.aload_n 0, 1) := by decide +kernel
theorem dX6_marked_28 : decode cX6_marked 28 = .ok (.iload_n 3, 1) := by decide +kernel
theorem dX6_marked_29 : decode cX6_marked 29 = .ok (.iload_n 2, 1) := by decide +kernel
theorem dX6_marked_30 : decode cX6_marked 30 = .ok (.invokevirtual 108, 3) := by decide +kernel
theorem dX6_marked_33 : decode cX6_marked 33 = .ok (.goto 4, 3) := by decide +kernel
theorem dX6_marked_36 : decode cX6_marked 36 = .ok (.iconst 2, 1) := by decide +kernel
theorem dX6_marked_37 : decode cX6_marked 37 = .ok (.istore 4, 2) := by decide +kernel
theorem dX6_marked_39 : decode cX6_marked 39 = .ok (.iload 4, 2) := by decide +kernel
theorem dX6_marked_41 : decode cX6_marked 41 = .ok (.ifCond .eq 9, 3) := by decide +kernel
theorem dX6_marked_44 : decode cX6_marked 44 = .ok (.iload 4, 2) := by decide +kernel
theorem dX6_marked_46 : decode cX6_marked 46 = .ok (.invokestatic 65, 3) := by decide +kernel
theorem dX6_marked_49 : decode cX6_marked 49 = .ok (.ireturn, 1) := by decide +kernel
theorem dX6_marked_50 : decode cX6_marked 50 = .ok (.aload_n 0, 1) := by decide +kernel
theorem dX6_marked_51 : decode cX6_marked 51 = .ok (.iload_n 3, 1) := by decide +kernel
theorem dX6_marked_52 : decode cX6_marked 52 = .ok (.iload_n 2, 1) := by decide +kernel
theorem dX6_marked_53 : decode cX6_marked 53 = .ok (.invokevirtual 80, 3) := by decide +kernel
theorem dX6_marked_56 : decode cX6_marked 56 = .ok (.lconst 0, 1) := by decide +kernel
theorem dX6_marked_57 : decode cX6_marked 57 = .ok (.lcmp, 1) := by decide +kernel
theorem dX6_marked_58 : decode cX6_marked 58 = .ok (.ifCond .eq 22, 3) := by decide +kernel
theorem dX6_marked_61 : decode cX6_marked 61 = .ok (.aload_n 0, 1) := by decide +kernel
theorem dX6_marked_62 : decode cX6_marked 62 = .ok (.getfield 27, 3) := by decide +kernel
theorem dX6_marked_65 : decode cX6_marked 65 = .ok (.aload_n 0, 1) := by decide +kernel
theorem dX6_marked_66 : decode cX6_marked 66 = .ok (.iload_n 3, 1) := by decide +kernel
theorem dX6_marked_67 : decode cX6_marked 67 = .ok (.iload_n 2, 1) := by decide +kernel
theorem dX6_marked_68 : decode cX6_marked 68 = .ok (.invokevirtual 80, 3) := by decide +kernel
theorem dX6_marked_71 : decode cX6_marked 71 = .ok (.l2i, 1) := by decide +kernel
theorem dX6_marked_72 : decode cX6_marked 72 = .ok (.baload, 1) := by decide +kernel
theorem dX6_marked_73 : decode cX6_marked 73 = .ok (.ifCond .eq 7, 3) := by decide +kernel
theorem dX6_marked_76 : decode cX6_marked 76 = .ok (.iconst 1, 1) := by decide +kernel
theorem dX6_marked_77 : decode cX6_marked 77 = .ok (.goto 4, 3) := by decide +kernel
theorem dX6_marked_80 : decode cX6_marked 80 = .ok (.iconst 0, 1) := by decide +kernel
theorem dX6_marked_81 : decode cX6_marked 81 = .ok (.ireturn, 1) := by decide +kernel
theorem dX6_cell_0 : decode cX6_cell 0 = .ok (.iload_n 1, 1) := by decide +kernel
theorem dX6_cell_1 : decode cX6_cell 1 = .ok (.invokestatic 53, 3) := by decide +kernel
theorem dX6_cell_4 : decode cX6_cell 4 = .ok (.ifCond .eq 14, 3) := by decide +kernel
theorem dX6_cell_7 : decode cX6_cell 7 = .ok (.iload_n 2, 1) := by decide +kernel
theorem dX6_cell_8 : decode cX6_cell 8 = .ok (.bipush 10, 2) := by decide +kernel
theorem dX6_cell_10 : decode cX6_cell 10 = .ok (.bipush 12, 2) := by decide +kernel
theorem dX6_cell_12 : decode cX6_cell 12 = .ok (.invokestatic 57, 3) := by decide +kernel
theorem dX6_cell_15 : decode cX6_cell 15 = .ok (.ifCond .ne 11, 3) := by decide +kernel
theorem dX6_cell_18 : decode cX6_cell 18 = .ok (.aload_n 0, 1) := by decide +kernel
theorem dX6_cell_19 : decode cX6_cell 19 = .ok (.bipush (-2), 2) := by decide +kernel
theorem dX6_cell_21 : decode cX6_cell 21 = .ok (.putfield 111, 3) := by decide +kernel
theorem dX6_cell_24 : decode cX6_cell 24 = .ok (.lconst 0, 1) := by decide +kernel
theorem dX6_cell_25 : decode cX6_cell 25 = .ok (.lreturn, 1) := by decide +kernel
theorem dX6_cell_26 : decode cX6_cell 26 = .ok (.aload_n 0, 1) := by decide +kernel
theorem dX6_cell_27 : decode cX6_cell 27 = .ok (.getfield 31, 3) := by decide +kernel
theorem dX6_cell_30 : decode cX6_cell 30 = .ok (.iload_n 1, 1) := by decide +kernel
theorem dX6_cell_31 : decode cX6_cell 31 = .ok (.iaload, 1) := by decide +kernel
theorem dX6_cell_32 : decode cX6_cell 32 = .ok (.istore 5, 2) := by decide +kernel
theorem dX6_cell_34 : decode cX6_cell 34 = .ok (.aload_n 0, 1) := by decide +kernel
theorem dX6_cell_35 : decode cX6_cell 35 = .ok (.iload 5, 2) := by decide +kernel
theorem dX6_cell_37 : decode cX6_cell 37 = .ok (.iload_n 2, 1) := by decide +kernel
theorem dX6_cell_38 : decode cX6_cell 38 = .ok (.invokevirtual 90, 3) := by decide +kernel
theorem dX6_cell_41 : decode cX6_cell 41 = .ok (.ifCond .eq 13, 3) := by decide +kernel
theorem dX6_cell_44 : decode cX6_cell 44 = .ok (.aload_n 0, 1) := by decide +kernel
theorem dX6_cell_45 : decode cX6_cell 45 = .ok (.iload 5, 2) := by decide +kernel
theorem dX6_cell_47 : decode cX6_cell 47 = .ok (.iload_n 3, 1) := by decide +kernel
theorem dX6_cell_48 : decode cX6_cell 48 = .ok (.invokevirtual 108, 3) := by decide +kernel
theorem dX6_cell_51 : decode cX6_cell 51 = .ok (.goto 4, 3) := by decide +kernel
theorem dX6_cell_54 : decode cX6_cell 54 = .ok (.iconst 2, 1) := by decide +kernel
theorem dX6_cell_55 : decode cX6_cell 55 = .ok (.istore 6, 2) := by decide +kernel
theorem dX6_cell_57 : decode cX6_cell 57 = .ok (.aload_n 0, 1) := by decide +kernel
theorem dX6_cell_58 : decode cX6_cell 58 = .ok (.iload 6, 2) := by decide +kernel
theorem dX6_cell_60 : decode cX6_cell 60 = .ok (.ifCond .ne 14, 3) := by decide +kernel
theorem dX6_cell_63 : decode cX6_cell 63 = .ok (.aload_n 0, 1) := by decide +kernel
theorem dX6_cell_64 : decode cX6_cell 64 = .ok (.iload 5, 2) := by decide +kernel
theorem dX6_cell_66 : decode cX6_cell 66 = .ok (.iload_n 3, 1) := by decide +kernel
theorem dX6_cell_67 : decode cX6_cell 67 = .ok (.invokevirtual 80, 3) := by decide +kernel
theorem dX6_cell_70 : decode cX6_cell 70 = .ok (.l2i, 1) := by decide +kernel
theorem dX6_cell_71 : decode cX6_cell 71 = .ok (.goto 4, 3) := by decide +kernel
theorem dX6_cell_74 : decode cX6_cell 74 = .ok (.iconst 0, 1) := by decide +kernel
theorem dX6_cell_75 : decode cX6_cell 75 = .ok (.iload 4, 2) := by decide +kernel
theorem dX6_cell_77 : decode cX6_cell 77 = .ok (.iload 6, 2) := by decide +kernel
theorem dX6_cell_79 : decode cX6_cell 79 = .ok (.invokevirtual 114, 3) := by decide +kernel
theorem dX6_cell_82 : decode cX6_cell 82 = .ok (.lreturn, 1) := by decide +kernel
theorem dX6_set_0 : decode cX6_set 0 = .ok (.iload_n 1, 1) := by decide +kernel
theorem dX6_set_1 : decode cX6_set 1 = .ok (.invokestatic 53, 3) := by decide +kernel
theorem dX6_set_4 : decode cX6_set 4 = .ok (.ifCond .eq 14, 3) := by decide +kernel
theorem dX6_set_7 : decode cX6_set 7 = .ok (.iload_n 2, 1) := by decide +kernel
theorem dX6_set_8 : decode cX6_set 8 = .ok (.bipush 10, 2) := by decide +kernel
theorem dX6_set_10 : decode cX6_set 10 = .ok (.bipush 11, 2) := by decide +kernel
theorem dX6_set_12 : decode cX6_set 12 = .ok (.invokestatic 57, 3) := by decide +kernel
theorem dX6_set_15 : decode cX6_set 15 = .ok (.ifCond .ne 6, 3) := by decide +kernel
theorem dX6_set_18 : decode cX6_set 18 = .ok (.bipush (-2), 2) := by decide +kernel
theorem dX6_set_20 : decode cX6_set 20 = .ok (.ireturn, 1) := by decide +kernel
theorem dX6_set_21 : decode cX6_set 21 = .ok (.aload_n 0, 1) := by decide +kernel
theorem dX6_set_22 : decode cX6_set 22 = .ok (.getfield 31, 3) := by decide +kernel
theorem dX6_set_25 : decode cX6_set 25 = .ok (.iload_n 1, 1) := by decide +kernel
theorem dX6_set_26 : decode cX6_set 26 = .ok (.iaload, 1) := by decide +kernel
theorem dX6_set_27 : decode cX6_set 27 = .ok (.istore 7, 2) := by decide +kernel
theorem dX6_set_29 : decode cX6_set 29 = .ok (.aload_n 0, 1) := by decide +kernel
theorem dX6_set_30 : decode cX6_set 30 = .ok (.iload 7, 2) := by decide +kernel
theorem dX6_set_32 : decode cX6_set 32 = .ok (.iload_n 2, 1) := by decide +kernel
theorem dX6_set_33 : decode cX6_set 33 = .ok (.invokevirtual 90, 3) := by decide +kernel
theorem dX6_set_36 : decode cX6_set 36 = .ok (.ifCond .eq 13, 3) := by decide +kernel
theorem dX6_set_39 : decode cX6_set 39 = .ok (.aload_n 0, 1) := by decide +kernel
theorem dX6_set_40 : decode cX6_set 40 = .ok (.iload 7, 2) := by decide +kernel
theorem dX6_set_42 : decode cX6_set 42 = .ok (.iload_n 3, 1) := by decide +kernel
theorem dX6_set_43 : decode cX6_set 43 = .ok (.invokevirtual 108, 3) := by decide +kernel
theorem dX6_set_46 : decode cX6_set 46 = .ok (.goto 4, 3) := by decide +kernel
theorem dX6_set_49 : decode cX6_set 49 = .ok (.iconst 2, 1) := by decide +kernel
theorem dX6_set_50 : decode cX6_set 50 = .ok (.istore 8, 2) := by decide +kernel
theorem dX6_set_52 : decode cX6_set 52 = .ok (.iload 8, 2) := by decide +kernel
theorem dX6_set_54 : decode cX6_set 54 = .ok (.ifCond .ne 14, 3) := by decide +kernel
theorem dX6_set_57 : decode cX6_set 57 = .ok (.aload_n 0, 1) := by decide +kernel
theorem dX6_set_58 : decode cX6_set 58 = .ok (.iload 7, 2) := by decide +kernel
theorem dX6_set_60 : decode cX6_set 60 = .ok (.iload_n 3, 1) := by decide +kernel
theorem dX6_set_61 : decode cX6_set 61 = .ok (.invokevirtual 80, 3) := by decide +kernel
theorem dX6_set_64 : decode cX6_set 64 = .ok (.l2i, 1) := by decide +kernel
theorem dX6_set_65 : decode cX6_set 65 = .ok (.goto 4, 3) := by decide +kernel
theorem dX6_set_68 : decode cX6_set 68 = .ok (.iconst 0, 1) := by decide +kernel
theorem dX6_set_69 : decode cX6_set 69 = .ok (.istore 9, 2) := by decide +kernel
theorem dX6_set_71 : decode cX6_set 71 = .ok (.iload 8, 2) := by decide +kernel
theorem dX6_set_73 : decode cX6_set 73 = .ok (.ifCond .ne 14, 3) := by decide +kernel
theorem dX6_set_76 : decode cX6_set 76 = .ok (.aload_n 0, 1) := by decide +kernel
theorem dX6_set_77 : decode cX6_set 77 = .ok (.iload 9, 2) := by decide +kernel
theorem dX6_set_79 : decode cX6_set 79 = .ok (.iload 4, 2) := by decide +kernel
theorem dX6_set_81 : decode cX6_set 81 = .ok (.invokevirtual 108, 3) := by decide +kernel
theorem dX6_set_84 : decode cX6_set 84 = .ok (.goto 5, 3) := by decide +kernel
theorem dX6_set_87 : decode cX6_set 87 = .ok (.iload 8, 2) := by decide +kernel
theorem dX6_set_89 : decode cX6_set 89 = .ok (.istore 8, 2) := by decide +kernel
theorem dX6_set_91 : decode cX6_set 91 = .ok (.iload 8, 2) := by decide +kernel
theorem dX6_set_93 : decode cX6_set 93 = .ok (.ifCond .eq 9, 3) := by decide +kernel
theorem dX6_set_96 : decode cX6_set 96 = .ok (.iload 8, 2) := by decide +kernel
theorem dX6_set_98 : decode cX6_set 98 = .ok (.invokestatic 65, 3) := by decide +kernel
theorem dX6_set_101 : decode cX6_set 101 = .ok (.ireturn, 1) := by decide +kernel
theorem dX6_set_102 : decode cX6_set 102 = .ok (.aload_n 0, 1) := by decide +kernel
theorem dX6_set_103 : decode cX6_set 103 = .ok (.iload 9, 2) := by decide +kernel
theorem dX6_set_105 : decode cX6_set 105 = .ok (.iload 4, 2) := by decide +kernel
theorem dX6_set_107 : decode cX6_set 107 = .ok (.iload_n 2, 1) := by decide +kernel
theorem dX6_set_108 : decode cX6_set 108 = .ok (.invokestatic 73, 3) := by decide +kernel
theorem dX6_set_111 : decode cX6_set 111 = .ok (.lload 5, 2) := by decide +kernel
theorem dX6_set_113 : decode cX6_set 113 = .ok (.invokestatic 118, 3) := by decide +kernel
theorem dX6_set_116 : decode cX6_set 116 = .ok (.invokevirtual 76, 3) := by decide +kernel
theorem dX6_set_119 : decode cX6_set 119 = .ok (.iconst 1, 1) := by decide +kernel
theorem dX6_set_120 : decode cX6_set 120 = .ok (.ireturn, 1) := by decide +kernel
theorem dX6_deepest_0 : decode cX6_deepest 0 = .ok (.iload_n 1, 1) := by decide +kernel
theorem dX6_deepest_1 : decode cX6_deepest 1 = .ok (.invokestatic 53, 3) := by decide +kernel
theorem dX6_deepest_4 : decode cX6_deepest 4 = .ok (.ifCond .ne 11, 3) := by decide +kernel
theorem dX6_deepest_7 : decode cX6_deepest 7 = .ok (.aload_n 0, 1) := by decide +kernel
theorem dX6_deepest_8 : decode cX6_deepest 8 = .ok (.bipush (-2), 2) := by decide +kernel
theorem dX6_deepest_10 : decode cX6_deepest 10 = .ok (.putfield 111, 3) := by decide +kernel
theorem dX6_deepest_13 : decode cX6_deepest 13 = .ok (.lconst 0, 1) := by decide +kernel
theorem dX6_deepest_14 : decode cX6_deepest 14 = .ok (.lreturn, 1) := by decide +kernel
theorem dX6_deepest_15 : decode cX6_deepest 15 = .ok (.aload_n 0, 1) := by decide +kernel
theorem dX6_deepest_16 : decode cX6_deepest 16 = .ok (.getfield 31, 3) := by decide +kernel
theorem dX6_deepest_19 : decode cX6_deepest 19 = .ok (.iload_n 1, 1) := by decide +kernel
theorem dX6_deepest_20 : decode cX6_deepest 20 = .ok (.iaload, 1) := by decide +kernel
theorem dX6_deepest_21 : decode cX6_deepest 21 = .ok (.istore 5, 2) := by decide +kernel
theorem dX6_deepest_23 : decode cX6_deepest 23 = .ok (.aload_n 0, 1) := by decide +kernel
theorem dX6_deepest_24 : decode cX6_deepest 24 = .ok (.iload 5, 2) := by decide +kernel
theorem dX6_deepest_26 : decode cX6_deepest 26 = .ok (.bipush 13, 2) := by decide +kernel
theorem dX6_deepest_28 : decode cX6_deepest 28 = .ok (.invokevirtual 90, 3) := by decide +kernel
theorem dX6_deepest_31 : decode cX6_deepest 31 = .ok (.ifCond .eq 13, 3) := by decide +kernel
theorem dX6_deepest_34 : decode cX6_deepest 34 = .ok (.aload_n 0, 1) := by decide +kernel
theorem dX6_deepest_35 : decode cX6_deepest 35 = .ok (.iload 5, 2) := by decide +kernel
theorem dX6_deepest_37 : decode cX6_deepest 37 = .ok (.iload_n 2, 1) := by decide +kernel
theorem dX6_deepest_38 : decode cX6_deepest 38 = .ok (.invokevirtual 108, 3) := by decide +kernel
theorem dX6_deepest_41 : decode cX6_deepest 41 = .ok (.goto 4, 3) := by decide +kernel
theorem dX6_deepest_44 : decode cX6_deepest 44 = .ok (.iconst 2, 1) := by decide +kernel
theorem dX6_deepest_45 : decode cX6_deepest 45 = .ok (.istore 6, 2) := by decide +kernel
theorem dX6_deepest_47 : decode cX6_deepest 47 = .ok (.iload 6, 2) := by decide +kernel
theorem dX6_deepest_49 : decode cX6_deepest 49 = .ok (.ifCond .ne 14, 3) := by decide +kernel
theorem dX6_deepest_52 : decode cX6_deepest 52 = .ok (.aload_n 0, 1) := by decide +kernel
theorem dX6_deepest_53 : decode cX6_deepest 53 = .ok (.iload 5, 2) := by decide +kernel
theorem dX6_deepest_55 : decode cX6_deepest 55 = .ok (.iload_n 2, 1) := by decide +kernel
theorem dX6_deepest_56 : decode cX6_deepest 56 = .ok (.invokevirtual 80, 3) := by decide +kernel
theorem dX6_deepest_59 : decode cX6_deepest 59 = .ok (.l2i, 1) := by decide +kernel
theorem dX6_deepest_60 : decode cX6_deepest 60 = .ok (.goto 4, 3) := by decide +kernel
theorem dX6_deepest_63 : decode cX6_deepest 63 = .ok (.iconst 0, 1) := by decide +kernel
theorem dX6_deepest_64 : decode cX6_deepest 64 = .ok (.istore 7, 2) := by decide +kernel
theorem dX6_deepest_66 : decode cX6_deepest 66 = .ok (.iload 6, 2) := by decide +kernel
theorem dX6_deepest_68 : decode cX6_deepest 68 = .ok (.ifCond .ne 13, 3) := by decide +kernel
theorem dX6_deepest_71 : decode cX6_deepest 71 = .ok (.aload_n 0, 1) := by decide +kernel
theorem dX6_deepest_72 : decode cX6_deepest 72 = .ok (.iload 7, 2) := by decide +kernel
theorem dX6_deepest_74 : decode cX6_deepest 74 = .ok (.iload_n 3, 1) := by decide +kernel
theorem dX6_deepest_75 : decode cX6_deepest 75 = .ok (.invokevirtual 108, 3) := by decide +kernel
theorem dX6_deepest_78 : decode cX6_deepest 78 = .ok (.goto 5, 3) := by decide +kernel
theorem dX6_deepest_81 : decode cX6_deepest 81 = .ok (.iload 6, 2) := by decide +kernel
theorem dX6_deepest_83 : decode cX6_deepest 83 = .ok (.istore 6, 2) := by decide +kernel
theorem dX6_deepest_85 : decode cX6_deepest 85 = .ok (.aload_n 0, 1) := by decide +kernel
theorem dX6_deepest_86 : decode cX6_deepest 86 = .ok (.iload 6, 2) := by decide +kernel
theorem dX6_deepest_88 : decode cX6_deepest 88 = .ok (.ifCond .ne 14, 3) := by decide +kernel
theorem dX6_deepest_91 : decode cX6_deepest 91 = .ok (.aload_n 0, 1) := by decide +kernel
theorem dX6_deepest_92 : decode cX6_deepest 92 = .ok (.iload 7, 2) := by decide +kernel
theorem dX6_deepest_94 : decode cX6_deepest 94 = .ok (.iload_n 3, 1) := by decide +kernel
theorem dX6_deepest_95 : decode cX6_deepest 95 = .ok (.invokevirtual 80, 3) := by decide +kernel
theorem dX6_deepest_98 : decode cX6_deepest 98 = .ok (.l2i, 1) := by decide +kernel
theorem dX6_deepest_99 : decode cX6_deepest 99 = .ok (.goto 4, 3) := by decide +kernel
theorem dX6_deepest_102 : decode cX6_deepest 102 = .ok (.iconst 0, 1) := by decide +kernel
theorem dX6_deepest_103 : decode cX6_deepest 103 = .ok (.iload 4, 2) := by decide +kernel
theorem dX6_deepest_105 : decode cX6_deepest 105 = .ok (.iload 6, 2) := by decide +kernel
theorem dX6_deepest_107 : decode cX6_deepest 107 = .ok (.invokevirtual 114, 3) := by decide +kernel
theorem dX6_deepest_110 : decode cX6_deepest 110 = .ok (.lreturn, 1) := by decide +kernel
theorem dX6_row_0 : decode cX6_row 0 = .ok (.iload_n 1, 1) := by decide +kernel
theorem dX6_row_1 : decode cX6_row 1 = .ok (.invokestatic 53, 3) := by decide +kernel
theorem dX6_row_4 : decode cX6_row 4 = .ok (.ifCond .eq 22, 3) := by decide +kernel
theorem dX6_row_7 : decode cX6_row 7 = .ok (.iload_n 2, 1) := by decide +kernel
theorem dX6_row_8 : decode cX6_row 8 = .ok (.bipush 10, 2) := by decide +kernel
theorem dX6_row_10 : decode cX6_row 10 = .ok (.bipush 13, 2) := by decide +kernel
theorem dX6_row_12 : decode cX6_row 12 = .ok (.invokestatic 57, 3) := by decide +kernel
theorem dX6_row_15 : decode cX6_row 15 = .ok (.ifCond .eq 11, 3) := by decide +kernel
theorem dX6_row_18 : decode cX6_row 18 = .ok (.iload 4, 2) := by decide +kernel
theorem dX6_row_20 : decode cX6_row 20 = .ok (.invokestatic 53, 3) := by decide +kernel
theorem dX6_row_23 : decode cX6_row 23 = .ok (.ifCond .ne 6, 3) := by decide +kernel
theorem dX6_row_26 : decode cX6_row 26 = .ok (.bipush (-2), 2) := by decide +kernel
theorem dX6_row_28 : decode cX6_row 28 = .ok (.ireturn, 1) := by decide +kernel
theorem dX6_row_29 : decode cX6_row 29 = .ok (.aload_n 0, 1) := by decide +kernel
theorem dX6_row_30 : decode cX6_row 30 = .ok (.getfield 31, 3) := by decide +kernel
theorem dX6_row_33 : decode cX6_row 33 = .ok (.iload_n 1, 1) := by decide +kernel
theorem dX6_row_34 : decode cX6_row 34 = .ok (.iaload, 1) := by decide +kernel
theorem dX6_row_35 : decode cX6_row 35 = .ok (.istore 5, 2) := by decide +kernel
theorem dX6_row_37 : decode cX6_row 37 = .ok (.aload_n 0, 1) := by decide +kernel
theorem dX6_row_38 : decode cX6_row 38 = .ok (.iload 5, 2) := by decide +kernel
theorem dX6_row_40 : decode cX6_row 40 = .ok (.iload_n 2, 1) := by decide +kernel
theorem dX6_row_41 : decode cX6_row 41 = .ok (.invokevirtual 90, 3) := by decide +kernel
theorem dX6_row_44 : decode cX6_row 44 = .ok (.ifCond .eq 31, 3) := by decide +kernel
theorem dX6_row_47 : decode cX6_row 47 = .ok (.aload_n 0, 1) := by decide +kernel
theorem dX6_row_48 : decode cX6_row 48 = .ok (.aload_n 0, 1) := by decide +kernel
theorem dX6_row_49 : decode cX6_row 49 = .ok (.getfield 31, 3) := by decide +kernel
theorem dX6_row_52 : decode cX6_row 52 = .ok (.iload 4, 2) := by decide +kernel
theorem dX6_row_54 : decode cX6_row 54 = .ok (.iaload, 1) := by decide +kernel
theorem dX6_row_55 : decode cX6_row 55 = .ok (.iload_n 2, 1) := by decide +kernel
theorem dX6_row_56 : decode cX6_row 56 = .ok (.invokestatic 73, 3) := by decide +kernel
theorem dX6_row_59 : decode cX6_row 59 = .ok (.invokevirtual 90, 3) := by decide +kernel
theorem dX6_row_62 : decode cX6_row 62 = .ok (.ifCond .eq 13, 3) := by decide +kernel
theorem dX6_row_65 : decode cX6_row 65 = .ok (.aload_n 0, 1) := by decide +kernel
theorem dX6_row_66 : decode cX6_row 66 = .ok (.iload 5, 2) := by decide +kernel
theorem dX6_row_68 : decode cX6_row 68 = .ok (.iload_n 3, 1) := by decide +kernel
theorem dX6_row_69 : decode cX6_row 69 = .ok (.invokevirtual 108, 3) := by decide +kernel
theorem dX6_row_72 : decode cX6_row 72 = .ok (.goto 4, 3) := by decide +kernel
theorem dX6_row_75 : decode cX6_row 75 = .ok (.iconst 2, 1) := by decide +kernel
theorem dX6_row_76 : decode cX6_row 76 = .ok (.istore 6, 2) := by decide +kernel
theorem dX6_row_78 : decode cX6_row 78 = .ok (.iload 6, 2) := by decide +kernel
theorem dX6_row_80 : decode cX6_row 80 = .ok (.ifCond .eq 9, 3) := by decide +kernel
theorem dX6_row_83 : decode cX6_row 83 = .ok (.iload 6, 2) := by decide +kernel
theorem dX6_row_85 : decode cX6_row 85 = .ok (.invokestatic 65, 3) := by decide +kernel
theorem dX6_row_88 : decode cX6_row 88 = .ok (.ireturn, 1) := by decide +kernel
theorem dX6_row_89 : decode cX6_row 89 = .ok (.aload_n 0, 1) := by decide +kernel
theorem dX6_row_90 : decode cX6_row 90 = .ok (.iload 5, 2) := by decide +kernel
theorem dX6_row_92 : decode cX6_row 92 = .ok (.iload_n 3, 1) := by decide +kernel
theorem dX6_row_93 : decode cX6_row 93 = .ok (.aload_n 0, 1) := by decide +kernel
theorem dX6_row_94 : decode cX6_row 94 = .ok (.getfield 31, 3) := by decide +kernel
theorem dX6_row_97 : decode cX6_row 97 = .ok (.iload 4, 2) := by decide +kernel
theorem dX6_row_99 : decode cX6_row 99 = .ok (.iaload, 1) := by decide +kernel
theorem dX6_row_100 : decode cX6_row 100 = .ok (.i2l, 1) := by decide +kernel
theorem dX6_row_101 : decode cX6_row 101 = .ok (.invokevirtual 76, 3) := by decide +kernel
theorem dX6_row_104 : decode cX6_row 104 = .ok (.iconst 1, 1) := by decide +kernel
theorem dX6_row_105 : decode cX6_row 105 = .ok (.ireturn, 1) := by decide +kernel
theorem dX6_take_0 : decode cX6_take 0 = .ok (.iload_n 1, 1) := by decide +kernel
theorem dX6_take_1 : decode cX6_take 1 = .ok (.invokestatic 53, 3) := by decide +kernel
theorem dX6_take_4 : decode cX6_take 4 = .ok (.ifCond .eq 21, 3) := by decide +kernel
theorem dX6_take_7 : decode cX6_take 7 = .ok (.iload_n 2, 1) := by decide +kernel
theorem dX6_take_8 : decode cX6_take 8 = .ok (.invokestatic 53, 3) := by decide +kernel
theorem dX6_take_11 : decode cX6_take 11 = .ok (.ifCond .eq 14, 3) := by decide +kernel
theorem dX6_take_14 : decode cX6_take 14 = .ok (.iload_n 3, 1) := by decide +kernel
theorem dX6_take_15 : decode cX6_take 15 = .ok (.bipush 10, 2) := by decide +kernel
theorem dX6_take_17 : decode cX6_take 17 = .ok (.bipush 13, 2) := by decide +kernel
theorem dX6_take_19 : decode cX6_take 19 = .ok (.invokestatic 57, 3) := by decide +kernel
theorem dX6_take_22 : decode cX6_take 22 = .ok (.ifCond .ne 6, 3) := by decide +kernel
theorem dX6_take_25 : decode cX6_take 25 = .ok (.bipush (-2), 2) := by decide +kernel
theorem dX6_take_27 : decode cX6_take 27 = .ok (.ireturn, 1) := by decide +kernel
theorem dX6_take_28 : decode cX6_take 28 = .ok (.aload_n 0, 1) := by decide +kernel
theorem dX6_take_29 : decode cX6_take 29 = .ok (.getfield 31, 3) := by decide +kernel
theorem dX6_take_32 : decode cX6_take 32 = .ok (.iload_n 2, 1) := by decide +kernel
theorem dX6_take_33 : decode cX6_take 33 = .ok (.iaload, 1) := by decide +kernel
theorem dX6_take_34 : decode cX6_take 34 = .ok (.istore 5, 2) := by decide +kernel
theorem dX6_take_36 : decode cX6_take 36 = .ok (.aload_n 0, 1) := by decide +kernel
theorem dX6_take_37 : decode cX6_take 37 = .ok (.iload 5, 2) := by decide +kernel
theorem dX6_take_39 : decode cX6_take 39 = .ok (.iload_n 3, 1) := by decide +kernel
theorem dX6_take_40 : decode cX6_take 40 = .ok (.invokevirtual 90, 3) := by decide +kernel
theorem dX6_take_43 : decode cX6_take 43 = .ok (.ifCond .eq 14, 3) := by decide +kernel
theorem dX6_take_46 : decode cX6_take 46 = .ok (.aload_n 0, 1) := by decide +kernel
theorem dX6_take_47 : decode cX6_take 47 = .ok (.iload 5, 2) := by decide +kernel
theorem dX6_take_49 : decode cX6_take 49 = .ok (.iload 4, 2) := by decide +kernel
theorem dX6_take_51 : decode cX6_take 51 = .ok (.invokevirtual 108, 3) := by decide +kernel
theorem dX6_take_54 : decode cX6_take 54 = .ok (.goto 4, 3) := by decide +kernel
theorem dX6_take_57 : decode cX6_take 57 = .ok (.iconst 2, 1) := by decide +kernel
theorem dX6_take_58 : decode cX6_take 58 = .ok (.istore 6, 2) := by decide +kernel
theorem dX6_take_60 : decode cX6_take 60 = .ok (.iload 6, 2) := by decide +kernel
theorem dX6_take_62 : decode cX6_take 62 = .ok (.ifCond .eq 9, 3) := by decide +kernel
theorem dX6_take_65 : decode cX6_take 65 = .ok (.iload 6, 2) := by decide +kernel
theorem dX6_take_67 : decode cX6_take 67 = .ok (.invokestatic 65, 3) := by decide +kernel
theorem dX6_take_70 : decode cX6_take 70 = .ok (.ireturn, 1) := by decide +kernel
theorem dX6_take_71 : decode cX6_take 71 = .ok (.aload_n 0, 1) := by decide +kernel
theorem dX6_take_72 : decode cX6_take 72 = .ok (.getfield 31, 3) := by decide +kernel
theorem dX6_take_75 : decode cX6_take 75 = .ok (.iload_n 1, 1) := by decide +kernel
theorem dX6_take_76 : decode cX6_take 76 = .ok (.aload_n 0, 1) := by decide +kernel
theorem dX6_take_77 : decode cX6_take 77 = .ok (.iload 5, 2) := by decide +kernel
theorem dX6_take_79 : decode cX6_take 79 = .ok (.iload 4, 2) := by decide +kernel
theorem dX6_take_81 : decode cX6_take 81 = .ok (.invokevirtual 80, 3) := by decide +kernel
theorem dX6_take_84 : decode cX6_take 84 = .ok (.l2i, 1) := by decide +kernel
theorem dX6_take_85 : decode cX6_take 85 = .ok (.iastore, 1) := by decide +kernel
theorem dX6_take_86 : decode cX6_take 86 = .ok (.iconst 1, 1) := by decide +kernel
theorem dX6_take_87 : decode cX6_take 87 = .ok (.ireturn, 1) := by decide +kernel
theorem dX6_grow_0 : decode cX6_grow 0 = .ok (.iload_n 1, 1) := by decide +kernel
theorem dX6_grow_1 : decode cX6_grow 1 = .ok (.invokestatic 53, 3) := by decide +kernel
theorem dX6_grow_4 : decode cX6_grow 4 = .ok (.ifCond .eq 9, 3) := by decide +kernel
theorem dX6_grow_7 : decode cX6_grow 7 = .ok (.iload_n 2, 1) := by decide +kernel
theorem dX6_grow_8 : decode cX6_grow 8 = .ok (.bipush 30, 2) := by decide +kernel
theorem dX6_grow_10 : decode cX6_grow 10 = .ok (.if_icmp .le 6, 3) := by decide +kernel
theorem dX6_grow_13 : decode cX6_grow 13 = .ok (.bipush (-2), 2) := by decide +kernel
theorem dX6_grow_15 : decode cX6_grow 15 = .ok (.ireturn, 1) := by decide +kernel
theorem dX6_grow_16 : decode cX6_grow 16 = .ok (.aload_n 0, 1) := by decide +kernel
theorem dX6_grow_17 : decode cX6_grow 17 = .ok (.invokevirtual 61, 3) := by decide +kernel
theorem dX6_grow_20 : decode cX6_grow 20 = .ok (.ifCond .eq 6, 3) := by decide +kernel
theorem dX6_grow_23 : decode cX6_grow 23 = .ok (.bipush (-3), 2) := by decide +kernel
theorem dX6_grow_25 : decode cX6_grow 25 = .ok (.ireturn, 1) := by decide +kernel
theorem dX6_grow_26 : decode cX6_grow 26 = .ok (.aload_n 0, 1) := by decide +kernel
theorem dX6_grow_27 : decode cX6_grow 27 = .ok (.getfield 31, 3) := by decide +kernel
theorem dX6_grow_30 : decode cX6_grow 30 = .ok (.iload_n 1, 1) := by decide +kernel
theorem dX6_grow_31 : decode cX6_grow 31 = .ok (.iaload, 1) := by decide +kernel
theorem dX6_grow_32 : decode cX6_grow 32 = .ok (.istore_n 3, 1) := by decide +kernel
theorem dX6_grow_33 : decode cX6_grow 33 = .ok (.iload_n 3, 1) := by decide +kernel
theorem dX6_grow_34 : decode cX6_grow 34 = .ok (.ifCond .eq 7, 3) := by decide +kernel
theorem dX6_grow_37 : decode cX6_grow 37 = .ok (.iload_n 2, 1) := by decide +kernel
theorem dX6_grow_38 : decode cX6_grow 38 = .ok (.ifCond .ge 16, 3) := by decide +kernel
theorem dX6_grow_41 : decode cX6_grow 41 = .ok (.iload_n 3, 1) := by decide +kernel
theorem dX6_grow_42 : decode cX6_grow 42 = .ok (.ifCond .ne 7, 3) := by decide +kernel
theorem dX6_grow_45 : decode cX6_grow 45 = .ok (.iconst 1, 1) := by decide +kernel
theorem dX6_grow_46 : decode cX6_grow 46 = .ok (.goto 4, 3) := by decide +kernel
theorem dX6_grow_49 : decode cX6_grow 49 = .ok (.iconst 4, 1) := by decide +kernel
theorem dX6_grow_50 : decode cX6_grow 50 = .ok (.invokestatic 65, 3) := by decide +kernel
theorem dX6_grow_53 : decode cX6_grow 53 = .ok (.ireturn, 1) := by decide +kernel
theorem dX6_grow_54 : decode cX6_grow 54 = .ok (.aload_n 0, 1) := by decide +kernel
theorem dX6_grow_55 : decode cX6_grow 55 = .ok (.aload_n 0, 1) := by decide +kernel
theorem dX6_grow_56 : decode cX6_grow 56 = .ok (.getfield 7, 3) := by decide +kernel
theorem dX6_grow_59 : decode cX6_grow 59 = .ok (.iload_n 3, 1) := by decide +kernel
theorem dX6_grow_60 : decode cX6_grow 60 = .ok (.baload, 1) := by decide +kernel
theorem dX6_grow_61 : decode cX6_grow 61 = .ok (.iload_n 2, 1) := by decide +kernel
theorem dX6_grow_62 : decode cX6_grow 62 = .ok (.invokevirtual 69, 3) := by decide +kernel
theorem dX6_grow_65 : decode cX6_grow 65 = .ok (.istore 4, 2) := by decide +kernel
theorem dX6_grow_67 : decode cX6_grow 67 = .ok (.iconst 0, 1) := by decide +kernel
theorem dX6_grow_68 : decode cX6_grow 68 = .ok (.istore 5, 2) := by decide +kernel
theorem dX6_grow_70 : decode cX6_grow 70 = .ok (.iload 5, 2) := by decide +kernel
theorem dX6_grow_72 : decode cX6_grow 72 = .ok (.iload_n 2, 1) := by decide +kernel
theorem dX6_grow_73 : decode cX6_grow 73 = .ok (.if_icmp .ge 35, 3) := by decide +kernel
theorem dX6_grow_76 : decode cX6_grow 76 = .ok (.iload 5, 2) := by decide +kernel
theorem dX6_grow_78 : decode cX6_grow 78 = .ok (.aload_n 0, 1) := by decide +kernel
theorem dX6_grow_79 : decode cX6_grow 79 = .ok (.getfield 13, 3) := by decide +kernel
theorem dX6_grow_82 : decode cX6_grow 82 = .ok (.iload_n 3, 1) := by decide +kernel
theorem dX6_grow_83 : decode cX6_grow 83 = .ok (.baload, 1) := by decide +kernel
theorem dX6_grow_84 : decode cX6_grow 84 = .ok (.if_icmp .ge 24, 3) := by decide +kernel
theorem dX6_grow_87 : decode cX6_grow 87 = .ok (.aload_n 0, 1) := by decide +kernel
theorem dX6_grow_88 : decode cX6_grow 88 = .ok (.iload 4, 2) := by decide +kernel
theorem dX6_grow_90 : decode cX6_grow 90 = .ok (.iload 5, 2) := by decide +kernel
theorem dX6_grow_92 : decode cX6_grow 92 = .ok (.aload_n 0, 1) := by decide +kernel
theorem dX6_grow_93 : decode cX6_grow 93 = .ok (.iload_n 3, 1) := by decide +kernel
theorem dX6_grow_94 : decode cX6_grow 94 = .ok (.iload 5, 2) := by decide +kernel
theorem dX6_grow_96 : decode cX6_grow 96 = .ok (.invokevirtual 80, 3) := by decide +kernel
theorem dX6_grow_99 : decode cX6_grow 99 = .ok (.invokevirtual 76, 3) := by decide +kernel
theorem dX6_grow_102 : decode cX6_grow 102 = .ok (.iinc 5 1, 3) := by decide +kernel
theorem dX6_grow_105 : decode cX6_grow 105 = .ok (.goto (-35), 3) := by decide +kernel
theorem dX6_grow_108 : decode cX6_grow 108 = .ok (.aload_n 0, 1) := by decide +kernel
theorem dX6_grow_109 : decode cX6_grow 109 = .ok (.getfield 31, 3) := by decide +kernel
theorem dX6_grow_112 : decode cX6_grow 112 = .ok (.iload_n 1, 1) := by decide +kernel
theorem dX6_grow_113 : decode cX6_grow 113 = .ok (.iload 4, 2) := by decide +kernel
theorem dX6_grow_115 : decode cX6_grow 115 = .ok (.iastore, 1) := by decide +kernel
theorem dX6_grow_116 : decode cX6_grow 116 = .ok (.iconst 1, 1) := by decide +kernel
theorem dX6_grow_117 : decode cX6_grow 117 = .ok (.ireturn, 1) := by decide +kernel
theorem dX6_areUnlike_0 : decode cX6_areUnlike 0 = .ok (.aload_n 0, 1) := by decide +kernel
theorem dX6_areUnlike_1 : decode cX6_areUnlike 1 = .ok (.getfield 7, 3) := by decide +kernel
theorem dX6_areUnlike_4 : decode cX6_areUnlike 4 = .ok (.iload_n 1, 1) := by decide +kernel
theorem dX6_areUnlike_5 : decode cX6_areUnlike 5 = .ok (.baload, 1) := by decide +kernel
theorem dX6_areUnlike_6 : decode cX6_areUnlike 6 = .ok (.aload_n 0, 1) := by decide +kernel
theorem dX6_areUnlike_7 : decode cX6_areUnlike 7 = .ok (.getfield 7, 3) := by decide +kernel
theorem dX6_areUnlike_10 : decode cX6_areUnlike 10 = .ok (.iload_n 2, 1) := by decide +kernel
theorem dX6_areUnlike_11 : decode cX6_areUnlike 11 = .ok (.baload, 1) := by decide +kernel
theorem dX6_areUnlike_12 : decode cX6_areUnlike 12 = .ok (.if_icmp .eq 29, 3) := by decide +kernel
theorem dX6_areUnlike_15 : decode cX6_areUnlike 15 = .ok (.aload_n 0, 1) := by decide +kernel
theorem dX6_areUnlike_16 : decode cX6_areUnlike 16 = .ok (.getfield 7, 3) := by decide +kernel
theorem dX6_areUnlike_19 : decode cX6_areUnlike 19 = .ok (.iload_n 1, 1) := by decide +kernel
theorem dX6_areUnlike_20 : decode cX6_areUnlike 20 = .ok (.baload, 1) := by decide +kernel
theorem dX6_areUnlike_21 : decode cX6_areUnlike 21 = .ok (.bipush 8, 2) := by decide +kernel
theorem dX6_areUnlike_23 : decode cX6_areUnlike 23 = .ok (.if_icmp .lt 14, 3) := by decide +kernel
theorem dX6_areUnlike_26 : decode cX6_areUnlike 26 = .ok (.aload_n 0, 1) := by decide +kernel
theorem dX6_areUnlike_27 : decode cX6_areUnlike 27 = .ok (.getfield 7, 3) := by decide +kernel
theorem dX6_areUnlike_30 : decode cX6_areUnlike 30 = .ok (.iload_n 2, 1) := by decide +kernel
theorem dX6_areUnlike_31 : decode cX6_areUnlike 31 = .ok (.baload, 1) := by decide +kernel
theorem dX6_areUnlike_32 : decode cX6_areUnlike 32 = .ok (.bipush 8, 2) := by decide +kernel
theorem dX6_areUnlike_34 : decode cX6_areUnlike 34 = .ok (.if_icmp .ge 7, 3) := by decide +kernel
theorem dX6_areUnlike_37 : decode cX6_areUnlike 37 = .ok (.iconst 1, 1) := by decide +kernel
theorem dX6_areUnlike_38 : decode cX6_areUnlike 38 = .ok (.goto 4, 3) := by decide +kernel
theorem dX6_areUnlike_41 : decode cX6_areUnlike 41 = .ok (.iconst 0, 1) := by decide +kernel
theorem dX6_areUnlike_42 : decode cX6_areUnlike 42 = .ok (.ireturn, 1) := by decide +kernel
theorem dX6_canStand_0 : decode cX6_canStand 0 = .ok (.aload_n 0, 1) := by decide +kernel
theorem dX6_canStand_1 : decode cX6_canStand 1 = .ok (.getfield 7, 3) := by decide +kernel
theorem dX6_canStand_4 : decode cX6_canStand 4 = .ok (.iload 4, 2) := by decide +kernel
theorem dX6_canStand_6 : decode cX6_canStand 6 = .ok (.baload, 1) := by decide +kernel
theorem dX6_canStand_7 : decode cX6_canStand 7 = .ok (.istore 5, 2) := by decide +kernel
theorem dX6_canStand_9 : decode cX6_canStand 9 = .ok (.iload 5, 2) := by decide +kernel
theorem dX6_canStand_11 : decode cX6_canStand 11 = .ok (.bipush 8, 2) := by decide +kernel
theorem dX6_canStand_13 : decode cX6_canStand 13 = .ok (.if_icmp .lt 9, 3) := by decide +kernel
theorem dX6_canStand_16 : decode cX6_canStand 16 = .ok (.lload_n 2, 1) := by decide +kernel
theorem dX6_canStand_17 : decode cX6_canStand 17 = .ok (.lconst 0, 1) := by decide +kernel
theorem dX6_canStand_18 : decode cX6_canStand 18 = .ok (.lcmp, 1) := by decide +kernel
theorem dX6_canStand_19 : decode cX6_canStand 19 = .ok (.ifCond .ne 5, 3) := by decide +kernel
theorem dX6_canStand_22 : decode cX6_canStand 22 = .ok (.iconst 1, 1) := by decide +kernel
theorem dX6_canStand_23 : decode cX6_canStand 23 = .ok (.ireturn, 1) := by decide +kernel
theorem dX6_canStand_24 : decode cX6_canStand 24 = .ok (.aload_n 0, 1) := by decide +kernel
theorem dX6_canStand_25 : decode cX6_canStand 25 = .ok (.getfield 7, 3) := by decide +kernel
theorem dX6_canStand_28 : decode cX6_canStand 28 = .ok (.iload_n 1, 1) := by decide +kernel
theorem dX6_canStand_29 : decode cX6_canStand 29 = .ok (.baload, 1) := by decide +kernel
theorem dX6_canStand_30 : decode cX6_canStand 30 = .ok (.bipush 10, 2) := by decide +kernel
theorem dX6_canStand_32 : decode cX6_canStand 32 = .ok (.if_icmp .ge 33, 3) := by decide +kernel
theorem dX6_canStand_35 : decode cX6_canStand 35 = .ok (.iload 5, 2) := by decide +kernel
theorem dX6_canStand_37 : decode cX6_canStand 37 = .ok (.bipush 8, 2) := by decide +kernel
theorem dX6_canStand_39 : decode cX6_canStand 39 = .ok (.if_icmp .eq 20, 3) := by decide +kernel
theorem dX6_canStand_42 : decode cX6_canStand 42 = .ok (.iload 5, 2) := by decide +kernel
theorem dX6_canStand_44 : decode cX6_canStand 44 = .ok (.bipush 9, 2) := by decide +kernel
theorem dX6_canStand_46 : decode cX6_canStand 46 = .ok (.if_icmp .ne 17, 3) := by decide +kernel
theorem dX6_canStand_49 : decode cX6_canStand 49 = .ok (.aload_n 0, 1) := by decide +kernel
theorem dX6_canStand_50 : decode cX6_canStand 50 = .ok (.getfield 27, 3) := by decide +kernel
theorem dX6_canStand_53 : decode cX6_canStand 53 = .ok (.lload_n 2, 1) := by decide +kernel
theorem dX6_canStand_54 : decode cX6_canStand 54 = .ok (.l2i, 1) := by decide +kernel
theorem dX6_canStand_55 : decode cX6_canStand 55 = .ok (.baload, 1) := by decide +kernel
theorem dX6_canStand_56 : decode cX6_canStand 56 = .ok (.ifCond .eq 7, 3) := by decide +kernel
theorem dX6_canStand_59 : decode cX6_canStand 59 = .ok (.iconst 1, 1) := by decide +kernel
theorem dX6_canStand_60 : decode cX6_canStand 60 = .ok (.goto 4, 3) := by decide +kernel
theorem dX6_canStand_63 : decode cX6_canStand 63 = .ok (.iconst 0, 1) := by decide +kernel
theorem dX6_canStand_64 : decode cX6_canStand 64 = .ok (.ireturn, 1) := by decide +kernel
theorem dX6_canStand_65 : decode cX6_canStand 65 = .ok (.iload 5, 2) := by decide +kernel
theorem dX6_canStand_67 : decode cX6_canStand 67 = .ok (.bipush 10, 2) := by decide +kernel
theorem dX6_canStand_69 : decode cX6_canStand 69 = .ok (.if_icmp .lt 21, 3) := by decide +kernel
theorem dX6_canStand_72 : decode cX6_canStand 72 = .ok (.aload_n 0, 1) := by decide +kernel
theorem dX6_canStand_73 : decode cX6_canStand 73 = .ok (.lload_n 2, 1) := by decide +kernel
theorem dX6_canStand_74 : decode cX6_canStand 74 = .ok (.l2i, 1) := by decide +kernel
theorem dX6_canStand_75 : decode cX6_canStand 75 = .ok (.iload 5, 2) := by decide +kernel
theorem dX6_canStand_77 : decode cX6_canStand 77 = .ok (.invokestatic 73, 3) := by decide +kernel
theorem dX6_canStand_80 : decode cX6_canStand 80 = .ok (.invokevirtual 90, 3) := by decide +kernel
theorem dX6_canStand_83 : decode cX6_canStand 83 = .ok (.ifCond .eq 7, 3) := by decide +kernel
theorem dX6_canStand_86 : decode cX6_canStand 86 = .ok (.iconst 1, 1) := by decide +kernel
theorem dX6_canStand_87 : decode cX6_canStand 87 = .ok (.goto 4, 3) := by decide +kernel
theorem dX6_canStand_90 : decode cX6_canStand 90 = .ok (.iconst 0, 1) := by decide +kernel
theorem dX6_canStand_91 : decode cX6_canStand 91 = .ok (.ireturn, 1) := by decide +kernel
theorem dX6_copy_0 : decode cX6_copy 0 = .ok (.iload_n 1, 1) := by decide +kernel
theorem dX6_copy_1 : decode cX6_copy 1 = .ok (.invokestatic 53, 3) := by decide +kernel
theorem dX6_copy_4 : decode cX6_copy 4 = .ok (.ifCond .eq 10, 3) := by decide +kernel
theorem dX6_copy_7 : decode cX6_copy 7 = .ok (.iload_n 3, 1) := by decide +kernel
theorem dX6_copy_8 : decode cX6_copy 8 = .ok (.invokestatic 53, 3) := by decide +kernel
theorem dX6_copy_11 : decode cX6_copy 11 = .ok (.ifCond .ne 6, 3) := by decide +kernel
theorem dX6_copy_14 : decode cX6_copy 14 = .ok (.bipush (-2), 2) := by decide +kernel
theorem dX6_copy_16 : decode cX6_copy 16 = .ok (.ireturn, 1) := by decide +kernel
theorem dX6_copy_17 : decode cX6_copy 17 = .ok (.aload_n 0, 1) := by decide +kernel
theorem dX6_copy_18 : decode cX6_copy 18 = .ok (.getfield 31, 3) := by decide +kernel
theorem dX6_copy_21 : decode cX6_copy 21 = .ok (.iload_n 1, 1) := by decide +kernel
theorem dX6_copy_22 : decode cX6_copy 22 = .ok (.iaload, 1) := by decide +kernel
theorem dX6_copy_23 : decode cX6_copy 23 = .ok (.istore 6, 2) := by decide +kernel
theorem dX6_copy_25 : decode cX6_copy 25 = .ok (.aload_n 0, 1) := by decide +kernel
theorem dX6_copy_26 : decode cX6_copy 26 = .ok (.getfield 31, 3) := by decide +kernel
theorem dX6_copy_29 : decode cX6_copy 29 = .ok (.iload_n 3, 1) := by decide +kernel
theorem dX6_copy_30 : decode cX6_copy 30 = .ok (.iaload, 1) := by decide +kernel
theorem dX6_copy_31 : decode cX6_copy 31 = .ok (.istore 7, 2) := by decide +kernel
theorem dX6_copy_33 : decode cX6_copy 33 = .ok (.iload 6, 2) := by decide +kernel
theorem dX6_copy_35 : decode cX6_copy 35 = .ok (.ifCond .eq 8, 3) := by decide +kernel
theorem dX6_copy_38 : decode cX6_copy 38 = .ok (.iload 7, 2) := by decide +kernel
theorem dX6_copy_40 : decode cX6_copy 40 = .ok (.ifCond .ne 8, 3) := by decide +kernel
theorem dX6_copy_43 : decode cX6_copy 43 = .ok (.iconst 1, 1) := by decide +kernel
theorem dX6_copy_44 : decode cX6_copy 44 = .ok (.invokestatic 65, 3) := by decide +kernel
theorem dX6_copy_47 : decode cX6_copy 47 = .ok (.ireturn, 1) := by decide +kernel
theorem dX6_copy_48 : decode cX6_copy 48 = .ok (.aload_n 0, 1) := by decide +kernel
theorem dX6_copy_49 : decode cX6_copy 49 = .ok (.iload 6, 2) := by decide +kernel
theorem dX6_copy_51 : decode cX6_copy 51 = .ok (.iload 7, 2) := by decide +kernel
theorem dX6_copy_53 : decode cX6_copy 53 = .ok (.invokevirtual 125, 3) := by decide +kernel
theorem dX6_copy_56 : decode cX6_copy 56 = .ok (.ifCond .eq 8, 3) := by decide +kernel
theorem dX6_copy_59 : decode cX6_copy 59 = .ok (.iconst 5, 1) := by decide +kernel
theorem dX6_copy_60 : decode cX6_copy 60 = .ok (.invokestatic 65, 3) := by decide +kernel
theorem dX6_copy_63 : decode cX6_copy 63 = .ok (.ireturn, 1) := by decide +kernel
theorem dX6_copy_64 : decode cX6_copy 64 = .ok (.iload_n 2, 1) := by decide +kernel
theorem dX6_copy_65 : decode cX6_copy 65 = .ok (.ifCond .lt 42, 3) := by decide +kernel
theorem dX6_copy_68 : decode cX6_copy 68 = .ok (.iload 4, 2) := by decide +kernel
theorem dX6_copy_70 : decode cX6_copy 70 = .ok (.ifCond .lt 37, 3) := by decide +kernel
theorem dX6_copy_73 : decode cX6_copy 73 = .ok (.iload 5, 2) := by decide +kernel
theorem dX6_copy_75 : decode cX6_copy 75 = .ok (.ifCond .lt 32, 3) := by decide +kernel
theorem dX6_copy_78 : decode cX6_copy 78 = .ok (.iload 5, 2) := by decide +kernel
theorem dX6_copy_80 : decode cX6_copy 80 = .ok (.aload_n 0, 1) := by decide +kernel
theorem dX6_copy_81 : decode cX6_copy 81 = .ok (.getfield 13, 3) := by decide +kernel
theorem dX6_copy_84 : decode cX6_copy 84 = .ok (.iload 6, 2) := by decide +kernel
theorem dX6_copy_86 : decode cX6_copy 86 = .ok (.baload, 1) := by decide +kernel
theorem dX6_copy_87 : decode cX6_copy 87 = .ok (.iload_n 2, 1) := by decide +kernel
theorem dX6_copy_88 : decode cX6_copy 88 = .ok (.isub, 1) := by decide +kernel
theorem dX6_copy_89 : decode cX6_copy 89 = .ok (.if_icmp .gt 18, 3) := by decide +kernel
theorem dX6_copy_92 : decode cX6_copy 92 = .ok (.iload 5, 2) := by decide +kernel
theorem dX6_copy_94 : decode cX6_copy 94 = .ok (.aload_n 0, 1) := by decide +kernel
theorem dX6_copy_95 : decode cX6_copy 95 = .ok (.getfield 13, 3) := by decide +kernel
theorem dX6_copy_98 : decode cX6_copy 98 = .ok (.iload 7, 2) := by decide +kernel
theorem dX6_copy_100 : decode cX6_copy 100 = .ok (.baload, 1) := by decide +kernel
theorem dX6_copy_101 : decode cX6_copy 101 = .ok (.iload 4, 2) := by decide +kernel
theorem dX6_copy_103 : decode cX6_copy 103 = .ok (.isub, 1) := by decide +kernel
theorem dX6_copy_104 : decode cX6_copy 104 = .ok (.if_icmp .le 8, 3) := by decide +kernel
theorem dX6_copy_107 : decode cX6_copy 107 = .ok (.iconst 3, 1) := by decide +kernel
theorem dX6_copy_108 : decode cX6_copy 108 = .ok (.invokestatic 65, 3) := by decide +kernel
theorem dX6_copy_111 : decode cX6_copy 111 = .ok (.ireturn, 1) := by decide +kernel
theorem dX6_copy_112 : decode cX6_copy 112 = .ok (.iconst 0, 1) := by decide +kernel
theorem dX6_copy_113 : decode cX6_copy 113 = .ok (.istore 8, 2) := by decide +kernel
theorem dX6_copy_115 : decode cX6_copy 115 = .ok (.iload 8, 2) := by decide +kernel
theorem dX6_copy_117 : decode cX6_copy 117 = .ok (.iload 5, 2) := by decide +kernel
theorem dX6_copy_119 : decode cX6_copy 119 = .ok (.if_icmp .ge 26, 3) := by decide +kernel
theorem dX6_copy_122 : decode cX6_copy 122 = .ok (.aload_n 0, 1) := by decide +kernel
theorem dX6_copy_123 : decode cX6_copy 123 = .ok (.getfield 44, 3) := by decide +kernel
theorem dX6_copy_126 : decode cX6_copy 126 = .ok (.iload 8, 2) := by decide +kernel
theorem dX6_copy_128 : decode cX6_copy 128 = .ok (.aload_n 0, 1) := by decide +kernel
theorem dX6_copy_129 : decode cX6_copy 129 = .ok (.iload 6, 2) := by decide +kernel
theorem dX6_copy_131 : decode cX6_copy 131 = .ok (.iload_n 2, 1) := by decide +kernel
theorem dX6_copy_132 : decode cX6_copy 132 = .ok (.iload 8, 2) := by decide +kernel
theorem dX6_copy_134 : decode cX6_copy 134 = .ok (.iadd, 1) := by decide +kernel
theorem dX6_copy_135 : decode cX6_copy 135 = .ok (.invokevirtual 80, 3) := by decide +kernel
theorem dX6_copy_138 : decode cX6_copy 138 = .ok (.lastore, 1) := by decide +kernel
theorem dX6_copy_139 : decode cX6_copy 139 = .ok (.iinc 8 1, 3) := by decide +kernel
theorem dX6_copy_142 : decode cX6_copy 142 = .ok (.goto (-27), 3) := by decide +kernel
theorem dX6_copy_145 : decode cX6_copy 145 = .ok (.iconst 0, 1) := by decide +kernel
theorem dX6_copy_146 : decode cX6_copy 146 = .ok (.istore 8, 2) := by decide +kernel
theorem dX6_copy_148 : decode cX6_copy 148 = .ok (.iload 8, 2) := by decide +kernel
theorem dX6_copy_150 : decode cX6_copy 150 = .ok (.iload 5, 2) := by decide +kernel
theorem dX6_copy_152 : decode cX6_copy 152 = .ok (.if_icmp .ge 50, 3) := by decide +kernel
theorem dX6_copy_155 : decode cX6_copy 155 = .ok (.aload_n 0, 1) := by decide +kernel
theorem dX6_copy_156 : decode cX6_copy 156 = .ok (.iload 6, 2) := by decide +kernel
theorem dX6_copy_158 : decode cX6_copy 158 = .ok (.aload_n 0, 1) := by decide +kernel
theorem dX6_copy_159 : decode cX6_copy 159 = .ok (.getfield 44, 3) := by decide +kernel
theorem dX6_copy_162 : decode cX6_copy 162 = .ok (.iload 8, 2) := by decide +kernel
theorem dX6_copy_164 : decode cX6_copy 164 = .ok (.laload, 1) := by decide +kernel
theorem dX6_copy_165 : decode cX6_copy 165 = .ok (.iload 7, 2) := by decide +kernel
theorem dX6_copy_167 : decode cX6_copy 167 = .ok (.invokevirtual 128, 3) := by decide +kernel
theorem dX6_copy_170 : decode cX6_copy 170 = .ok (.ifCond .ne 8, 3) := by decide +kernel
theorem dX6_copy_173 : decode cX6_copy 173 = .ok (.iconst 5, 1) := by decide +kernel
theorem dX6_copy_174 : decode cX6_copy 174 = .ok (.invokestatic 65, 3) := by decide +kernel
theorem dX6_copy_177 : decode cX6_copy 177 = .ok (.ireturn, 1) := by decide +kernel
theorem dX6_copy_178 : decode cX6_copy 178 = .ok (.aload_n 0, 1) := by decide +kernel
theorem dX6_copy_179 : decode cX6_copy 179 = .ok (.iload 7, 2) := by decide +kernel
theorem dX6_copy_181 : decode cX6_copy 181 = .ok (.iload 4, 2) := by decide +kernel
theorem dX6_copy_183 : decode cX6_copy 183 = .ok (.iload 8, 2) := by decide +kernel
theorem dX6_copy_185 : decode cX6_copy 185 = .ok (.iadd, 1) := by decide +kernel
theorem dX6_copy_186 : decode cX6_copy 186 = .ok (.aload_n 0, 1) := by decide +kernel
theorem dX6_copy_187 : decode cX6_copy 187 = .ok (.getfield 44, 3) := by decide +kernel
theorem dX6_copy_190 : decode cX6_copy 190 = .ok (.iload 8, 2) := by decide +kernel
theorem dX6_copy_192 : decode cX6_copy 192 = .ok (.laload, 1) := by decide +kernel
theorem dX6_copy_193 : decode cX6_copy 193 = .ok (.invokevirtual 76, 3) := by decide +kernel
theorem dX6_copy_196 : decode cX6_copy 196 = .ok (.iinc 8 1, 3) := by decide +kernel
theorem dX6_copy_199 : decode cX6_copy 199 = .ok (.goto (-51), 3) := by decide +kernel
theorem dX6_copy_202 : decode cX6_copy 202 = .ok (.iload 5, 2) := by decide +kernel
theorem dX6_copy_204 : decode cX6_copy 204 = .ok (.ireturn, 1) := by decide +kernel
theorem dX6_fill_0 : decode cX6_fill 0 = .ok (.iload_n 1, 1) := by decide +kernel
theorem dX6_fill_1 : decode cX6_fill 1 = .ok (.invokestatic 53, 3) := by decide +kernel
theorem dX6_fill_4 : decode cX6_fill 4 = .ok (.ifCond .eq 13, 3) := by decide +kernel
theorem dX6_fill_7 : decode cX6_fill 7 = .ok (.iload_n 2, 1) := by decide +kernel
theorem dX6_fill_8 : decode cX6_fill 8 = .ok (.iconst 0, 1) := by decide +kernel
theorem dX6_fill_9 : decode cX6_fill 9 = .ok (.bipush 7, 2) := by decide +kernel
theorem dX6_fill_11 : decode cX6_fill 11 = .ok (.invokestatic 57, 3) := by decide +kernel
theorem dX6_fill_14 : decode cX6_fill 14 = .ok (.ifCond .ne 6, 3) := by decide +kernel
theorem dX6_fill_17 : decode cX6_fill 17 = .ok (.bipush (-2), 2) := by decide +kernel
theorem dX6_fill_19 : decode cX6_fill 19 = .ok (.ireturn, 1) := by decide +kernel
theorem dX6_fill_20 : decode cX6_fill 20 = .ok (.aload_n 0, 1) := by decide +kernel
theorem dX6_fill_21 : decode cX6_fill 21 = .ok (.getfield 31, 3) := by decide +kernel
theorem dX6_fill_24 : decode cX6_fill 24 = .ok (.iload_n 1, 1) := by decide +kernel
theorem dX6_fill_25 : decode cX6_fill 25 = .ok (.iaload, 1) := by decide +kernel
theorem dX6_fill_26 : decode cX6_fill 26 = .ok (.istore 5, 2) := by decide +kernel
theorem dX6_fill_28 : decode cX6_fill 28 = .ok (.aload_n 0, 1) := by decide +kernel
theorem dX6_fill_29 : decode cX6_fill 29 = .ok (.iload 5, 2) := by decide +kernel
theorem dX6_fill_31 : decode cX6_fill 31 = .ok (.iload_n 2, 1) := by decide +kernel
theorem dX6_fill_32 : decode cX6_fill 32 = .ok (.invokevirtual 90, 3) := by decide +kernel
theorem dX6_fill_35 : decode cX6_fill 35 = .ok (.ifCond .eq 8, 3) := by decide +kernel
theorem dX6_fill_38 : decode cX6_fill 38 = .ok (.iload 5, 2) := by decide +kernel
theorem dX6_fill_40 : decode cX6_fill 40 = .ok (.ifCond .ne 22, 3) := by decide +kernel
theorem dX6_fill_43 : decode cX6_fill 43 = .ok (.aload_n 0, 1) := by decide +kernel
theorem dX6_fill_44 : decode cX6_fill 44 = .ok (.iload 5, 2) := by decide +kernel
theorem dX6_fill_46 : decode cX6_fill 46 = .ok (.iload_n 2, 1) := by decide +kernel
theorem dX6_fill_47 : decode cX6_fill 47 = .ok (.invokevirtual 90, 3) := by decide +kernel
theorem dX6_fill_50 : decode cX6_fill 50 = .ok (.ifCond .eq 7, 3) := by decide +kernel
theorem dX6_fill_53 : decode cX6_fill 53 = .ok (.iconst 1, 1) := by decide +kernel
theorem dX6_fill_54 : decode cX6_fill 54 = .ok (.goto 4, 3) := by decide +kernel
theorem dX6_fill_57 : decode cX6_fill 57 = .ok (.iconst 2, 1) := by decide +kernel
theorem dX6_fill_58 : decode cX6_fill 58 = .ok (.invokestatic 65, 3) := by decide +kernel
theorem dX6_fill_61 : decode cX6_fill 61 = .ok (.ireturn, 1) := by decide +kernel
theorem dX6_fill_62 : decode cX6_fill 62 = .ok (.iconst 0, 1) := by decide +kernel
theorem dX6_fill_63 : decode cX6_fill 63 = .ok (.istore 6, 2) := by decide +kernel
theorem dX6_fill_65 : decode cX6_fill 65 = .ok (.iload 6, 2) := by decide +kernel
theorem dX6_fill_67 : decode cX6_fill 67 = .ok (.aload_n 0, 1) := by decide +kernel
theorem dX6_fill_68 : decode cX6_fill 68 = .ok (.getfield 13, 3) := by decide +kernel
theorem dX6_fill_71 : decode cX6_fill 71 = .ok (.iload 5, 2) := by decide +kernel
theorem dX6_fill_73 : decode cX6_fill 73 = .ok (.baload, 1) := by decide +kernel
theorem dX6_fill_74 : decode cX6_fill 74 = .ok (.if_icmp .ge 22, 3) := by decide +kernel
theorem dX6_fill_77 : decode cX6_fill 77 = .ok (.aload_n 0, 1) := by decide +kernel
theorem dX6_fill_78 : decode cX6_fill 78 = .ok (.iload 5, 2) := by decide +kernel
theorem dX6_fill_80 : decode cX6_fill 80 = .ok (.iload 6, 2) := by decide +kernel
theorem dX6_fill_82 : decode cX6_fill 82 = .ok (.iload_n 2, 1) := by decide +kernel
theorem dX6_fill_83 : decode cX6_fill 83 = .ok (.lload_n 3, 1) := by decide +kernel
theorem dX6_fill_84 : decode cX6_fill 84 = .ok (.invokestatic 118, 3) := by decide +kernel
theorem dX6_fill_87 : decode cX6_fill 87 = .ok (.invokevirtual 76, 3) := by decide +kernel
theorem dX6_fill_90 : decode cX6_fill 90 = .ok (.iinc 6 1, 3) := by decide +kernel
theorem dX6_fill_93 : decode cX6_fill 93 = .ok (.goto (-28), 3) := by decide +kernel
theorem dX6_fill_96 : decode cX6_fill 96 = .ok (.aload_n 0, 1) := by decide +kernel
theorem dX6_fill_97 : decode cX6_fill 97 = .ok (.getfield 13, 3) := by decide +kernel
theorem dX6_fill_100 : decode cX6_fill 100 = .ok (.iload 5, 2) := by decide +kernel
theorem dX6_fill_102 : decode cX6_fill 102 = .ok (.baload, 1) := by decide +kernel
theorem dX6_fill_103 : decode cX6_fill 103 = .ok (.ireturn, 1) := by decide +kernel
theorem dX6_flatSize_0 : decode cX6_flatSize 0 = .ok (.iload_n 1, 1) := by decide +kernel
theorem dX6_flatSize_1 : decode cX6_flatSize 1 = .ok (.ifCond .eq 14, 3) := by decide +kernel
theorem dX6_flatSize_4 : decode cX6_flatSize 4 = .ok (.aload_n 0, 1) := by decide +kernel
theorem dX6_flatSize_5 : decode cX6_flatSize 5 = .ok (.getfield 7, 3) := by decide +kernel
theorem dX6_flatSize_8 : decode cX6_flatSize 8 = .ok (.iload_n 1, 1) := by decide +kernel
theorem dX6_flatSize_9 : decode cX6_flatSize 9 = .ok (.baload, 1) := by decide +kernel
theorem dX6_flatSize_10 : decode cX6_flatSize 10 = .ok (.bipush 8, 2) := by decide +kernel
theorem dX6_flatSize_12 : decode cX6_flatSize 12 = .ok (.if_icmp .ge 18, 3) := by decide +kernel
theorem dX6_flatSize_15 : decode cX6_flatSize 15 = .ok (.iload_n 1, 1) := by decide +kernel
theorem dX6_flatSize_16 : decode cX6_flatSize 16 = .ok (.ifCond .ne 7, 3) := by decide +kernel
theorem dX6_flatSize_19 : decode cX6_flatSize 19 = .ok (.iconst 0, 1) := by decide +kernel
theorem dX6_flatSize_20 : decode cX6_flatSize 20 = .ok (.goto 9, 3) := by decide +kernel
theorem dX6_flatSize_23 : decode cX6_flatSize 23 = .ok (.aload_n 0, 1) := by decide +kernel
theorem dX6_flatSize_24 : decode cX6_flatSize 24 = .ok (.getfield 13, 3) := by decide +kernel
theorem dX6_flatSize_27 : decode cX6_flatSize 27 = .ok (.iload_n 1, 1) := by decide +kernel
theorem dX6_flatSize_28 : decode cX6_flatSize 28 = .ok (.baload, 1) := by decide +kernel
theorem dX6_flatSize_29 : decode cX6_flatSize 29 = .ok (.ireturn, 1) := by decide +kernel
theorem dX6_flatSize_30 : decode cX6_flatSize 30 = .ok (.iconst 0, 1) := by decide +kernel
theorem dX6_flatSize_31 : decode cX6_flatSize 31 = .ok (.istore_n 2, 1) := by decide +kernel
theorem dX6_flatSize_32 : decode cX6_flatSize 32 = .ok (.iconst 0, 1) := by decide +kernel
theorem dX6_flatSize_33 : decode cX6_flatSize 33 = .ok (.istore_n 3, 1) := by decide +kernel
theorem dX6_flatSize_34 : decode cX6_flatSize 34 = .ok (.iload_n 3, 1) := by decide +kernel
theorem dX6_flatSize_35 : decode cX6_flatSize 35 = .ok (.aload_n 0, 1) := by decide +kernel
theorem dX6_flatSize_36 : decode cX6_flatSize 36 = .ok (.getfield 13, 3) := by decide +kernel
theorem dX6_flatSize_39 : decode cX6_flatSize 39 = .ok (.iload_n 1, 1) := by decide +kernel
theorem dX6_flatSize_40 : decode cX6_flatSize 40 = .ok (.baload, 1) := by decide +kernel
theorem dX6_flatSize_41 : decode cX6_flatSize 41 = .ok (.if_icmp .ge 28, 3) := by decide +kernel
theorem dX6_flatSize_44 : decode cX6_flatSize 44 = .ok (.iload_n 2, 1) := by decide +kernel
theorem dX6_flatSize_45 : decode cX6_flatSize 45 = .ok (.aload_n 0, 1) := by decide +kernel
theorem dX6_flatSize_46 : decode cX6_flatSize 46 = .ok (.iload_n 1, 1) := by decide +kernel
theorem dX6_flatSize_47 : decode cX6_flatSize 47 = .ok (.iload_n 3, 1) := by decide +kernel
theorem dX6_flatSize_48 : decode cX6_flatSize 48 = .ok (.invokevirtual 80, 3) := by decide +kernel
theorem dX6_flatSize_51 : decode cX6_flatSize 51 = .ok (.lconst 0, 1) := by decide +kernel
theorem dX6_flatSize_52 : decode cX6_flatSize 52 = .ok (.lcmp, 1) := by decide +kernel
theorem dX6_flatSize_53 : decode cX6_flatSize 53 = .ok (.ifCond .eq 7, 3) := by decide +kernel
theorem dX6_flatSize_56 : decode cX6_flatSize 56 = .ok (.iconst 1, 1) := by decide +kernel
theorem dX6_flatSize_57 : decode cX6_flatSize 57 = .ok (.goto 4, 3) := by decide +kernel
theorem dX6_flatSize_60 : decode cX6_flatSize 60 = .ok (.iconst 0, 1) := by decide +kernel
theorem dX6_flatSize_61 : decode cX6_flatSize 61 = .ok (.iadd, 1) := by decide +kernel
theorem dX6_flatSize_62 : decode cX6_flatSize 62 = .ok (.istore_n 2, 1) := by decide +kernel
theorem dX6_flatSize_63 : decode cX6_flatSize 63 = .ok (.iinc 3 1, 3) := by decide +kernel
theorem dX6_flatSize_66 : decode cX6_flatSize 66 = .ok (.goto (-32), 3) := by decide +kernel
theorem dX6_flatSize_69 : decode cX6_flatSize 69 = .ok (.iload_n 2, 1) := by decide +kernel
theorem dX6_flatSize_70 : decode cX6_flatSize 70 = .ok (.ireturn, 1) := by decide +kernel
theorem dX6_middleSize_0 : decode cX6_middleSize 0 = .ok (.iload_n 1, 1) := by decide +kernel
theorem dX6_middleSize_1 : decode cX6_middleSize 1 = .ok (.ifCond .eq 14, 3) := by decide +kernel
theorem dX6_middleSize_4 : decode cX6_middleSize 4 = .ok (.aload_n 0, 1) := by decide +kernel
theorem dX6_middleSize_5 : decode cX6_middleSize 5 = .ok (.getfield 7, 3) := by decide +kernel
theorem dX6_middleSize_8 : decode cX6_middleSize 8 = .ok (.iload_n 1, 1) := by decide +kernel
theorem dX6_middleSize_9 : decode cX6_middleSize 9 = .ok (.baload, 1) := by decide +kernel
theorem dX6_middleSize_10 : decode cX6_middleSize 10 = .ok (.bipush 10, 2) := by decide +kernel
theorem dX6_middleSize_12 : decode cX6_middleSize 12 = .ok (.if_icmp .ge 9, 3) := by decide +kernel
theorem dX6_middleSize_15 : decode cX6_middleSize 15 = .ok (.aload_n 0, 1) := by decide +kernel
theorem dX6_middleSize_16 : decode cX6_middleSize 16 = .ok (.iload_n 1, 1) := by decide +kernel
theorem dX6_middleSize_17 : decode cX6_middleSize 17 = .ok (.invokevirtual 132, 3) := by decide +kernel
theorem dX6_middleSize_20 : decode cX6_middleSize 20 = .ok (.ireturn, 1) := by decide +kernel
theorem dX6_middleSize_21 : decode cX6_middleSize 21 = .ok (.iconst 0, 1) := by decide +kernel
theorem dX6_middleSize_22 : decode cX6_middleSize 22 = .ok (.istore_n 2, 1) := by decide +kernel
theorem dX6_middleSize_23 : decode cX6_middleSize 23 = .ok (.iconst 0, 1) := by decide +kernel
theorem dX6_middleSize_24 : decode cX6_middleSize 24 = .ok (.istore_n 3, 1) := by decide +kernel
theorem dX6_middleSize_25 : decode cX6_middleSize 25 = .ok (.iload_n 3, 1) := by decide +kernel
theorem dX6_middleSize_26 : decode cX6_middleSize 26 = .ok (.aload_n 0, 1) := by decide +kernel
theorem dX6_middleSize_27 : decode cX6_middleSize 27 = .ok (.getfield 13, 3) := by decide +kernel
theorem dX6_middleSize_30 : decode cX6_middleSize 30 = .ok (.iload_n 1, 1) := by decide +kernel
theorem dX6_middleSize_31 : decode cX6_middleSize 31 = .ok (.baload, 1) := by decide +kernel
theorem dX6_middleSize_32 : decode cX6_middleSize 32 = .ok (.if_icmp .ge 23, 3) := by decide +kernel
theorem dX6_middleSize_35 : decode cX6_middleSize 35 = .ok (.iload_n 2, 1) := by decide +kernel
theorem dX6_middleSize_36 : decode cX6_middleSize 36 = .ok (.aload_n 0, 1) := by decide +kernel
theorem dX6_middleSize_37 : decode cX6_middleSize 37 = .ok (.aload_n 0, 1) := by decide +kernel
theorem dX6_middleSize_38 : decode cX6_middleSize 38 = .ok (.iload_n 1, 1) := by decide +kernel
theorem dX6_middleSize_39 : decode cX6_middleSize 39 = .ok (.iload_n 3, 1) := by decide +kernel
theorem dX6_middleSize_40 : decode cX6_middleSize 40 = .ok (.invokevirtual 80, 3) := by decide +kernel
theorem dX6_middleSize_43 : decode cX6_middleSize 43 = .ok (.l2i, 1) := by decide +kernel
theorem dX6_middleSize_44 : decode cX6_middleSize 44 = .ok (.invokevirtual 132, 3) := by decide +kernel
theorem dX6_middleSize_47 : decode cX6_middleSize 47 = .ok (.iadd, 1) := by decide +kernel
theorem dX6_middleSize_48 : decode cX6_middleSize 48 = .ok (.istore_n 2, 1) := by decide +kernel
theorem dX6_middleSize_49 : decode cX6_middleSize 49 = .ok (.iinc 3 1, 3) := by decide +kernel
theorem dX6_middleSize_52 : decode cX6_middleSize 52 = .ok (.goto (-27), 3) := by decide +kernel
theorem dX6_middleSize_55 : decode cX6_middleSize 55 = .ok (.iload_n 2, 1) := by decide +kernel
theorem dX6_middleSize_56 : decode cX6_middleSize 56 = .ok (.ireturn, 1) := by decide +kernel
theorem dX6_size_0 : decode cX6_size 0 = .ok (.iload_n 1, 1) := by decide +kernel
theorem dX6_size_1 : decode cX6_size 1 = .ok (.invokestatic 53, 3) := by decide +kernel
theorem dX6_size_4 : decode cX6_size 4 = .ok (.ifCond .ne 6, 3) := by decide +kernel
theorem dX6_size_7 : decode cX6_size 7 = .ok (.bipush (-2), 2) := by decide +kernel
theorem dX6_size_9 : decode cX6_size 9 = .ok (.ireturn, 1) := by decide +kernel
theorem dX6_size_10 : decode cX6_size 10 = .ok (.aload_n 0, 1) := by decide +kernel
theorem dX6_size_11 : decode cX6_size 11 = .ok (.getfield 31, 3) := by decide +kernel
theorem dX6_size_14 : decode cX6_size 14 = .ok (.iload_n 1, 1) := by decide +kernel
theorem dX6_size_15 : decode cX6_size 15 = .ok (.iaload, 1) := by decide +kernel
theorem dX6_size_16 : decode cX6_size 16 = .ok (.istore_n 2, 1) := by decide +kernel
theorem dX6_size_17 : decode cX6_size 17 = .ok (.iload_n 2, 1) := by decide +kernel
theorem dX6_size_18 : decode cX6_size 18 = .ok (.ifCond .eq 14, 3) := by decide +kernel
theorem dX6_size_21 : decode cX6_size 21 = .ok (.aload_n 0, 1) := by decide +kernel
theorem dX6_size_22 : decode cX6_size 22 = .ok (.getfield 7, 3) := by decide +kernel
theorem dX6_size_25 : decode cX6_size 25 = .ok (.iload_n 2, 1) := by decide +kernel
theorem dX6_size_26 : decode cX6_size 26 = .ok (.baload, 1) := by decide +kernel
theorem dX6_size_27 : decode cX6_size 27 = .ok (.bipush 13, 2) := by decide +kernel
theorem dX6_size_29 : decode cX6_size 29 = .ok (.if_icmp .ge 9, 3) := by decide +kernel
theorem dX6_size_32 : decode cX6_size 32 = .ok (.aload_n 0, 1) := by decide +kernel
theorem dX6_size_33 : decode cX6_size 33 = .ok (.iload_n 2, 1) := by decide +kernel
theorem dX6_size_34 : decode cX6_size 34 = .ok (.invokevirtual 135, 3) := by decide +kernel
theorem dX6_size_37 : decode cX6_size 37 = .ok (.ireturn, 1) := by decide +kernel
theorem dX6_size_38 : decode cX6_size 38 = .ok (.iconst 0, 1) := by decide +kernel
theorem dX6_size_39 : decode cX6_size 39 = .ok (.istore_n 3, 1) := by decide +kernel
theorem dX6_size_40 : decode cX6_size 40 = .ok (.iconst 0, 1) := by decide +kernel
theorem dX6_size_41 : decode cX6_size 41 = .ok (.istore 4, 2) := by decide +kernel
theorem dX6_size_43 : decode cX6_size 43 = .ok (.iload 4, 2) := by decide +kernel
theorem dX6_size_45 : decode cX6_size 45 = .ok (.aload_n 0, 1) := by decide +kernel
theorem dX6_size_46 : decode cX6_size 46 = .ok (.getfield 13, 3) := by decide +kernel
theorem dX6_size_49 : decode cX6_size 49 = .ok (.iload_n 2, 1) := by decide +kernel
theorem dX6_size_50 : decode cX6_size 50 = .ok (.baload, 1) := by decide +kernel
theorem dX6_size_51 : decode cX6_size 51 = .ok (.if_icmp .ge 24, 3) := by decide +kernel
theorem dX6_size_54 : decode cX6_size 54 = .ok (.iload_n 3, 1) := by decide +kernel
theorem dX6_size_55 : decode cX6_size 55 = .ok (.aload_n 0, 1) := by decide +kernel
theorem dX6_size_56 : decode cX6_size 56 = .ok (.aload_n 0, 1) := by decide +kernel
theorem dX6_size_57 : decode cX6_size 57 = .ok (.iload_n 2, 1) := by decide +kernel
theorem dX6_size_58 : decode cX6_size 58 = .ok (.iload 4, 2) := by decide +kernel
theorem dX6_size_60 : decode cX6_size 60 = .ok (.invokevirtual 80, 3) := by decide +kernel
theorem dX6_size_63 : decode cX6_size 63 = .ok (.l2i, 1) := by decide +kernel
theorem dX6_size_64 : decode cX6_size 64 = .ok (.invokevirtual 135, 3) := by decide +kernel
theorem dX6_size_67 : decode cX6_size 67 = .ok (.iadd, 1) := by decide +kernel
theorem dX6_size_68 : decode cX6_size 68 = .ok (.istore_n 3, 1) := by decide +kernel
theorem dX6_size_69 : decode cX6_size 69 = .ok (.iinc 4 1, 3) := by decide +kernel
theorem dX6_size_72 : decode cX6_size 72 = .ok (.goto (-29), 3) := by decide +kernel
theorem dX6_size_75 : decode cX6_size 75 = .ok (.iload_n 3, 1) := by decide +kernel
theorem dX6_size_76 : decode cX6_size 76 = .ok (.ireturn, 1) := by decide +kernel
theorem dX6_areShaped_0 : decode cX6_areShaped 0 = .ok (.iload_n 1, 1) := by decide +kernel
theorem dX6_areShaped_1 : decode cX6_areShaped 1 = .ok (.ifCond .eq 41, 3) := by decide +kernel
theorem dX6_areShaped_4 : decode cX6_areShaped 4 = .ok (.iload_n 2, 1) := by decide +kernel
theorem dX6_areShaped_5 : decode cX6_areShaped 5 = .ok (.ifCond .eq 37, 3) := by decide +kernel
theorem dX6_areShaped_8 : decode cX6_areShaped 8 = .ok (.aload_n 0, 1) := by decide +kernel
theorem dX6_areShaped_9 : decode cX6_areShaped 9 = .ok (.getfield 7, 3) := by decide +kernel
theorem dX6_areShaped_12 : decode cX6_areShaped 12 = .ok (.iload_n 1, 1) := by decide +kernel
theorem dX6_areShaped_13 : decode cX6_areShaped 13 = .ok (.baload, 1) := by decide +kernel
theorem dX6_areShaped_14 : decode cX6_areShaped 14 = .ok (.aload_n 0, 1) := by decide +kernel
theorem dX6_areShaped_15 : decode cX6_areShaped 15 = .ok (.getfield 7, 3) := by decide +kernel
theorem dX6_areShaped_18 : decode cX6_areShaped 18 = .ok (.iload_n 2, 1) := by decide +kernel
theorem dX6_areShaped_19 : decode cX6_areShaped 19 = .ok (.baload, 1) := by decide +kernel
theorem dX6_areShaped_20 : decode cX6_areShaped 20 = .ok (.if_icmp .ne 22, 3) := by decide +kernel
theorem dX6_areShaped_23 : decode cX6_areShaped 23 = .ok (.aload_n 0, 1) := by decide +kernel
theorem dX6_areShaped_24 : decode cX6_areShaped 24 = .ok (.getfield 13, 3) := by decide +kernel
theorem dX6_areShaped_27 : decode cX6_areShaped 27 = .ok (.iload_n 1, 1) := by decide +kernel
theorem dX6_areShaped_28 : decode cX6_areShaped 28 = .ok (.baload, 1) := by decide +kernel
theorem dX6_areShaped_29 : decode cX6_areShaped 29 = .ok (.aload_n 0, 1) := by decide +kernel
theorem dX6_areShaped_30 : decode cX6_areShaped 30 = .ok (.getfield 13, 3) := by decide +kernel
theorem dX6_areShaped_33 : decode cX6_areShaped 33 = .ok (.iload_n 2, 1) := by decide +kernel
theorem dX6_areShaped_34 : decode cX6_areShaped 34 = .ok (.baload, 1) := by decide +kernel
theorem dX6_areShaped_35 : decode cX6_areShaped 35 = .ok (.if_icmp .ne 7, 3) := by decide +kernel
theorem dX6_areShaped_38 : decode cX6_areShaped 38 = .ok (.iconst 1, 1) := by decide +kernel
theorem dX6_areShaped_39 : decode cX6_areShaped 39 = .ok (.goto 4, 3) := by decide +kernel
theorem dX6_areShaped_42 : decode cX6_areShaped 42 = .ok (.iconst 0, 1) := by decide +kernel
theorem dX6_areShaped_43 : decode cX6_areShaped 43 = .ok (.ireturn, 1) := by decide +kernel
theorem dX6_areThingsLike_0 : decode cX6_areThingsLike 0 = .ok (.iload_n 1, 1) := by decide +kernel
theorem dX6_areThingsLike_1 : decode cX6_areThingsLike 1 = .ok (.iload_n 2, 1) := by decide +kernel
theorem dX6_areThingsLike_2 : decode cX6_areThingsLike 2 = .ok (.if_icmp .eq 41, 3) := by decide +kernel
theorem dX6_areThingsLike_5 : decode cX6_areThingsLike 5 = .ok (.iload_n 1, 1) := by decide +kernel
theorem dX6_areThingsLike_6 : decode cX6_areThingsLike 6 = .ok (.ifCond .eq 41, 3) := by decide +kernel
theorem dX6_areThingsLike_9 : decode cX6_areThingsLike 9 = .ok (.iload_n 2, 1) := by decide +kernel
theorem dX6_areThingsLike_10 : decode cX6_areThingsLike 10 = .ok (.ifCond .eq 37, 3) := by decide +kernel
theorem dX6_areThingsLike_13 : decode cX6_areThingsLike 13 = .ok (.aload_n 0, 1) := by decide +kernel
theorem dX6_areThingsLike_14 : decode cX6_areThingsLike 14 = .ok (.getfield 24, 3) := by decide +kernel
theorem dX6_areThingsLike_17 : decode cX6_areThingsLike 17 = .ok (.iload_n 1, 1) := by decide +kernel
theorem dX6_areThingsLike_18 : decode cX6_areThingsLike 18 = .ok (.iaload, 1) := by decide +kernel
theorem dX6_areThingsLike_19 : decode cX6_areThingsLike 19 = .ok (.aload_n 0, 1) := by decide +kernel
theorem dX6_areThingsLike_20 : decode cX6_areThingsLike 20 = .ok (.getfield 24, 3) := by decide +kernel
theorem dX6_areThingsLike_23 : decode cX6_areThingsLike 23 = .ok (.iload_n 2, 1) := by decide +kernel
theorem dX6_areThingsLike_24 : decode cX6_areThingsLike 24 = .ok (.iaload, 1) := by decide +kernel
theorem dX6_areThingsLike_25 : decode cX6_areThingsLike 25 = .ok (.if_icmp .ne 22, 3) := by decide +kernel
theorem dX6_areThingsLike_28 : decode cX6_areThingsLike 28 = .ok (.aload_n 0, 1) := by decide +kernel
theorem dX6_areThingsLike_29 : decode cX6_areThingsLike 29 = .ok (.getfield 27, 3) := by decide +kernel
theorem dX6_areThingsLike_32 : decode cX6_areThingsLike 32 = .ok (.iload_n 1, 1) := by decide +kernel
theorem dX6_areThingsLike_33 : decode cX6_areThingsLike 33 = .ok (.baload, 1) := by decide +kernel
theorem dX6_areThingsLike_34 : decode cX6_areThingsLike 34 = .ok (.aload_n 0, 1) := by decide +kernel
theorem dX6_areThingsLike_35 : decode cX6_areThingsLike 35 = .ok (.getfield 27, 3) := by decide +kernel
theorem dX6_areThingsLike_38 : decode cX6_areThingsLike 38 = .ok (.iload_n 2, 1) := by decide +kernel
theorem dX6_areThingsLike_39 : decode cX6_areThingsLike 39 = .ok (.baload, 1) := by decide +kernel
theorem dX6_areThingsLike_40 : decode cX6_areThingsLike 40 = .ok (.if_icmp .ne 7, 3) := by decide +kernel
theorem dX6_areThingsLike_43 : decode cX6_areThingsLike 43 = .ok (.iconst 1, 1) := by decide +kernel
theorem dX6_areThingsLike_44 : decode cX6_areThingsLike 44 = .ok (.goto 4, 3) := by decide +kernel
theorem dX6_areThingsLike_47 : decode cX6_areThingsLike 47 = .ok (.iconst 0, 1) := by decide +kernel
theorem dX6_areThingsLike_48 : decode cX6_areThingsLike 48 = .ok (.ireturn, 1) := by decide +kernel
theorem dX6_areFlatLike_0 : decode cX6_areFlatLike 0 = .ok (.iload_n 1, 1) := by decide +kernel
theorem dX6_areFlatLike_1 : decode cX6_areFlatLike 1 = .ok (.iload_n 2, 1) := by decide +kernel
theorem dX6_areFlatLike_2 : decode cX6_areFlatLike 2 = .ok (.if_icmp .ne 5, 3) := by decide +kernel
theorem dX6_areFlatLike_5 : decode cX6_areFlatLike 5 = .ok (.iconst 1, 1) := by decide +kernel
theorem dX6_areFlatLike_6 : decode cX6_areFlatLike 6 = .ok (.ireturn, 1) := by decide +kernel
theorem dX6_areFlatLike_7 : decode cX6_areFlatLike 7 = .ok (.aload_n 0, 1) := by decide +kernel
theorem dX6_areFlatLike_8 : decode cX6_areFlatLike 8 = .ok (.iload_n 1, 1) := by decide +kernel
theorem dX6_areFlatLike_9 : decode cX6_areFlatLike 9 = .ok (.iload_n 2, 1) := by decide +kernel
theorem dX6_areFlatLike_10 : decode cX6_areFlatLike 10 = .ok (.invokevirtual 138, 3) := by decide +kernel
theorem dX6_areFlatLike_13 : decode cX6_areFlatLike 13 = .ok (.istore_n 3, 1) := by decide +kernel
theorem dX6_areFlatLike_14 : decode cX6_areFlatLike 14 = .ok (.iconst 0, 1) := by decide +kernel
theorem dX6_areFlatLike_15 : decode cX6_areFlatLike 15 = .ok (.istore 4, 2) := by decide +kernel
theorem dX6_areFlatLike_17 : decode cX6_areFlatLike 17 = .ok (.iload_n 3, 1) := by decide +kernel
theorem dX6_areFlatLike_18 : decode cX6_areFlatLike 18 = .ok (.ifCond .eq 78, 3) := by decide +kernel
theorem dX6_areFlatLike_21 : decode cX6_areFlatLike 21 = .ok (.iload 4, 2) := by decide +kernel
theorem dX6_areFlatLike_23 : decode cX6_areFlatLike 23 = .ok (.aload_n 0, 1) := by decide +kernel
theorem dX6_areFlatLike_24 : decode cX6_areFlatLike 24 = .ok (.getfield 13, 3) := by decide +kernel
theorem dX6_areFlatLike_27 : decode cX6_areFlatLike 27 = .ok (.iload_n 1, 1) := by decide +kernel
theorem dX6_areFlatLike_28 : decode cX6_areFlatLike 28 = .ok (.baload, 1) := by decide +kernel
theorem dX6_areFlatLike_29 : decode cX6_areFlatLike 29 = .ok (.if_icmp .ge 67, 3) := by decide +kernel
theorem dX6_areFlatLike_32 : decode cX6_areFlatLike 32 = .ok (.aload_n 0, 1) := by decide +kernel
theorem dX6_areFlatLike_33 : decode cX6_areFlatLike 33 = .ok (.getfield 7, 3) := by decide +kernel
theorem dX6_areFlatLike_36 : decode cX6_areFlatLike 36 = .ok (.iload_n 1, 1) := by decide +kernel
theorem dX6_areFlatLike_37 : decode cX6_areFlatLike 37 = .ok (.baload, 1) := by decide +kernel
theorem dX6_areFlatLike_38 : decode cX6_areFlatLike 38 = .ok (.bipush 8, 2) := by decide +kernel
theorem dX6_areFlatLike_40 : decode cX6_areFlatLike 40 = .ok (.if_icmp .ge 29, 3) := by decide +kernel
theorem dX6_areFlatLike_43 : decode cX6_areFlatLike 43 = .ok (.aload_n 0, 1) := by decide +kernel
theorem dX6_areFlatLike_44 : decode cX6_areFlatLike 44 = .ok (.iload_n 1, 1) := by decide +kernel
theorem dX6_areFlatLike_45 : decode cX6_areFlatLike 45 = .ok (.iload 4, 2) := by decide +kernel
theorem dX6_areFlatLike_47 : decode cX6_areFlatLike 47 = .ok (.invokevirtual 80, 3) := by decide +kernel
theorem dX6_areFlatLike_50 : decode cX6_areFlatLike 50 = .ok (.aload_n 0, 1) := by decide +kernel
theorem dX6_areFlatLike_51 : decode cX6_areFlatLike 51 = .ok (.iload_n 2, 1) := by decide +kernel
theorem dX6_areFlatLike_52 : decode cX6_areFlatLike 52 = .ok (.iload 4, 2) := by decide +kernel
theorem dX6_areFlatLike_54 : decode cX6_areFlatLike 54 = .ok (.invokevirtual 80, 3) := by decide +kernel
theorem dX6_areFlatLike_57 : decode cX6_areFlatLike 57 = .ok (.lcmp, 1) := by decide +kernel
theorem dX6_areFlatLike_58 : decode cX6_areFlatLike 58 = .ok (.ifCond .ne 7, 3) := by decide +kernel
theorem dX6_areFlatLike_61 : decode cX6_areFlatLike 61 = .ok (.iconst 1, 1) := by decide +kernel
theorem dX6_areFlatLike_62 : decode cX6_areFlatLike 62 = .ok (.goto 27, 3) := by decide +kernel
theorem dX6_areFlatLike_65 : decode cX6_areFlatLike 65 = .ok (.iconst 0, 1) := by decide +kernel
theorem dX6_areFlatLike_66 : decode cX6_areFlatLike 66 = .ok (.goto 23, 3) := by decide +kernel
theorem dX6_areFlatLike_69 : decode cX6_areFlatLike 69 = .ok (.aload_n 0, 1) := by decide +kernel
theorem dX6_areFlatLike_70 : decode cX6_areFlatLike 70 = .ok (.aload_n 0, 1) := by decide +kernel
theorem dX6_areFlatLike_71 : decode cX6_areFlatLike 71 = .ok (.iload_n 1, 1) := by decide +kernel
theorem dX6_areFlatLike_72 : decode cX6_areFlatLike 72 = .ok (.iload 4, 2) := by decide +kernel
theorem dX6_areFlatLike_74 : decode cX6_areFlatLike 74 = .ok (.invokevirtual 80, 3) := by decide +kernel
theorem dX6_areFlatLike_77 : decode cX6_areFlatLike 77 = .ok (.l2i, 1) := by decide +kernel
theorem dX6_areFlatLike_78 : decode cX6_areFlatLike 78 = .ok (.aload_n 0, 1) := by decide +kernel
theorem dX6_areFlatLike_79 : decode cX6_areFlatLike 79 = .ok (.iload_n 2, 1) := by decide +kernel
theorem dX6_areFlatLike_80 : decode cX6_areFlatLike 80 = .ok (.iload 4, 2) := by decide +kernel
theorem dX6_areFlatLike_82 : decode cX6_areFlatLike 82 = .ok (.invokevirtual 80, 3) := by decide +kernel
theorem dX6_areFlatLike_85 : decode cX6_areFlatLike 85 = .ok (.l2i, 1) := by decide +kernel
theorem dX6_areFlatLike_86 : decode cX6_areFlatLike 86 = .ok (.invokevirtual 141, 3) := by decide +kernel
theorem dX6_areFlatLike_89 : decode cX6_areFlatLike 89 = .ok (.istore_n 3, 1) := by decide +kernel
theorem dX6_areFlatLike_90 : decode cX6_areFlatLike 90 = .ok (.iinc 4 1, 3) := by decide +kernel
theorem dX6_areFlatLike_93 : decode cX6_areFlatLike 93 = .ok (.goto (-76), 3) := by decide +kernel
theorem dX6_areFlatLike_96 : decode cX6_areFlatLike 96 = .ok (.iload_n 3, 1) := by decide +kernel
theorem dX6_areFlatLike_97 : decode cX6_areFlatLike 97 = .ok (.ireturn, 1) := by decide +kernel
theorem dX6_areMiddleLike_0 : decode cX6_areMiddleLike 0 = .ok (.iload_n 1, 1) := by decide +kernel
theorem dX6_areMiddleLike_1 : decode cX6_areMiddleLike 1 = .ok (.iload_n 2, 1) := by decide +kernel
theorem dX6_areMiddleLike_2 : decode cX6_areMiddleLike 2 = .ok (.if_icmp .ne 5, 3) := by decide +kernel
theorem dX6_areMiddleLike_5 : decode cX6_areMiddleLike 5 = .ok (.iconst 1, 1) := by decide +kernel
theorem dX6_areMiddleLike_6 : decode cX6_areMiddleLike 6 = .ok (.ireturn, 1) := by decide +kernel
theorem dX6_areMiddleLike_7 : decode cX6_areMiddleLike 7 = .ok (.iload_n 1, 1) := by decide +kernel
theorem dX6_areMiddleLike_8 : decode cX6_areMiddleLike 8 = .ok (.ifCond .eq 18, 3) := by decide +kernel
theorem dX6_areMiddleLike_11 : decode cX6_areMiddleLike 11 = .ok (.iload_n 2, 1) := by decide +kernel
theorem dX6_areMiddleLike_12 : decode cX6_areMiddleLike 12 = .ok (.ifCond .eq 14, 3) := by decide +kernel
theorem dX6_areMiddleLike_15 : decode cX6_areMiddleLike 15 = .ok (.aload_n 0, 1) := by decide +kernel
theorem dX6_areMiddleLike_16 : decode cX6_areMiddleLike 16 = .ok (.getfield 7, 3) := by decide +kernel
theorem dX6_areMiddleLike_19 : decode cX6_areMiddleLike 19 = .ok (.iload_n 1, 1) := by decide +kernel
theorem dX6_areMiddleLike_20 : decode cX6_areMiddleLike 20 = .ok (.baload, 1) := by decide +kernel
theorem dX6_areMiddleLike_21 : decode cX6_areMiddleLike 21 = .ok (.bipush 10, 2) := by decide +kernel
theorem dX6_areMiddleLike_23 : decode cX6_areMiddleLike 23 = .ok (.if_icmp .ge 10, 3) := by decide +kernel
theorem dX6_areMiddleLike_26 : decode cX6_areMiddleLike 26 = .ok (.aload_n 0, 1) := by decide +kernel
theorem dX6_areMiddleLike_27 : decode cX6_areMiddleLike 27 = .ok (.iload_n 1, 1) := by decide +kernel
theorem dX6_areMiddleLike_28 : decode cX6_areMiddleLike 28 = .ok (.iload_n 2, 1) := by decide +kernel
theorem dX6_areMiddleLike_29 : decode cX6_areMiddleLike 29 = .ok (.invokevirtual 144, 3) := by decide +kernel
theorem dX6_areMiddleLike_32 : decode cX6_areMiddleLike 32 = .ok (.ireturn, 1) := by decide +kernel
theorem dX6_areMiddleLike_33 : decode cX6_areMiddleLike 33 = .ok (.aload_n 0, 1) := by decide +kernel
theorem dX6_areMiddleLike_34 : decode cX6_areMiddleLike 34 = .ok (.iload_n 1, 1) := by decide +kernel
theorem dX6_areMiddleLike_35 : decode cX6_areMiddleLike 35 = .ok (.iload_n 2, 1) := by decide +kernel
theorem dX6_areMiddleLike_36 : decode cX6_areMiddleLike 36 = .ok (.invokevirtual 138, 3) := by decide +kernel
theorem dX6_areMiddleLike_39 : decode cX6_areMiddleLike 39 = .ok (.istore_n 3, 1) := by decide +kernel
theorem dX6_areMiddleLike_40 : decode cX6_areMiddleLike 40 = .ok (.iconst 0, 1) := by decide +kernel
theorem dX6_areMiddleLike_41 : decode cX6_areMiddleLike 41 = .ok (.istore 4, 2) := by decide +kernel
theorem dX6_areMiddleLike_43 : decode cX6_areMiddleLike 43 = .ok (.iload_n 3, 1) := by decide +kernel
theorem dX6_areMiddleLike_44 : decode cX6_areMiddleLike 44 = .ok (.ifCond .eq 41, 3) := by decide +kernel
theorem dX6_areMiddleLike_47 : decode cX6_areMiddleLike 47 = .ok (.iload 4, 2) := by decide +kernel
theorem dX6_areMiddleLike_49 : decode cX6_areMiddleLike 49 = .ok (.aload_n 0, 1) := by decide +kernel
theorem dX6_areMiddleLike_50 : decode cX6_areMiddleLike 50 = .ok (.getfield 13, 3) := by decide +kernel
theorem dX6_areMiddleLike_53 : decode cX6_areMiddleLike 53 = .ok (.iload_n 1, 1) := by decide +kernel
theorem dX6_areMiddleLike_54 : decode cX6_areMiddleLike 54 = .ok (.baload, 1) := by decide +kernel
theorem dX6_areMiddleLike_55 : decode cX6_areMiddleLike 55 = .ok (.if_icmp .ge 30, 3) := by decide +kernel
theorem dX6_areMiddleLike_58 : decode cX6_areMiddleLike 58 = .ok (.aload_n 0, 1) := by decide +kernel
theorem dX6_areMiddleLike_59 : decode cX6_areMiddleLike 59 = .ok (.aload_n 0, 1) := by decide +kernel
theorem dX6_areMiddleLike_60 : decode cX6_areMiddleLike 60 = .ok (.iload_n 1, 1) := by decide +kernel
theorem dX6_areMiddleLike_61 : decode cX6_areMiddleLike 61 = .ok (.iload 4, 2) := by decide +kernel
theorem dX6_areMiddleLike_63 : decode cX6_areMiddleLike 63 = .ok (.invokevirtual 80, 3) := by decide +kernel
theorem dX6_areMiddleLike_66 : decode cX6_areMiddleLike 66 = .ok (.l2i, 1) := by decide +kernel
theorem dX6_areMiddleLike_67 : decode cX6_areMiddleLike 67 = .ok (.aload_n 0, 1) := by decide +kernel
theorem dX6_areMiddleLike_68 : decode cX6_areMiddleLike 68 = .ok (.iload_n 2, 1) := by decide +kernel
theorem dX6_areMiddleLike_69 : decode cX6_areMiddleLike 69 = .ok (.iload 4, 2) := by decide +kernel
theorem dX6_areMiddleLike_71 : decode cX6_areMiddleLike 71 = .ok (.invokevirtual 80, 3) := by decide +kernel
theorem dX6_areMiddleLike_74 : decode cX6_areMiddleLike 74 = .ok (.l2i, 1) := by decide +kernel
theorem dX6_areMiddleLike_75 : decode cX6_areMiddleLike 75 = .ok (.invokevirtual 144, 3) := by decide +kernel
theorem dX6_areMiddleLike_78 : decode cX6_areMiddleLike 78 = .ok (.istore_n 3, 1) := by decide +kernel
theorem dX6_areMiddleLike_79 : decode cX6_areMiddleLike 79 = .ok (.iinc 4 1, 3) := by decide +kernel
theorem dX6_areMiddleLike_82 : decode cX6_areMiddleLike 82 = .ok (.goto (-39), 3) := by decide +kernel
theorem dX6_areMiddleLike_85 : decode cX6_areMiddleLike 85 = .ok (.iload_n 3, 1) := by decide +kernel
theorem dX6_areMiddleLike_86 : decode cX6_areMiddleLike 86 = .ok (.ireturn, 1) := by decide +kernel
theorem dX6_alike_0 : decode cX6_alike 0 = .ok (.iload_n 1, 1) := by decide +kernel
theorem dX6_alike_1 : decode cX6_alike 1 = .ok (.invokestatic 53, 3) := by decide +kernel
theorem dX6_alike_4 : decode cX6_alike 4 = .ok (.ifCond .eq 10, 3) := by decide +kernel
theorem dX6_alike_7 : decode cX6_alike 7 = .ok (.iload_n 2, 1) := by decide +kernel
theorem dX6_alike_8 : decode cX6_alike 8 = .ok (.invokestatic 53, 3) := by decide +kernel
theorem dX6_alike_11 : decode cX6_alike 11 = .ok (.ifCond .ne 6, 3) := by decide +kernel
theorem dX6_alike_14 : decode cX6_alike 14 = .ok (.bipush (-2), 2) := by decide +kernel
theorem dX6_alike_16 : decode cX6_alike 16 = .ok (.ireturn, 1) := by decide +kernel
theorem dX6_alike_17 : decode cX6_alike 17 = .ok (.aload_n 0, 1) := by decide +kernel
theorem dX6_alike_18 : decode cX6_alike 18 = .ok (.getfield 31, 3) := by decide +kernel
theorem dX6_alike_21 : decode cX6_alike 21 = .ok (.iload_n 1, 1) := by decide +kernel
theorem dX6_alike_22 : decode cX6_alike 22 = .ok (.iaload, 1) := by decide +kernel
theorem dX6_alike_23 : decode cX6_alike 23 = .ok (.istore_n 3, 1) := by decide +kernel
theorem dX6_alike_24 : decode cX6_alike 24 = .ok (.aload_n 0, 1) := by decide +kernel
theorem dX6_alike_25 : decode cX6_alike 25 = .ok (.getfield 31, 3) := by decide +kernel
theorem dX6_alike_28 : decode cX6_alike 28 = .ok (.iload_n 2, 1) := by decide +kernel
theorem dX6_alike_29 : decode cX6_alike 29 = .ok (.iaload, 1) := by decide +kernel
theorem dX6_alike_30 : decode cX6_alike 30 = .ok (.istore 4, 2) := by decide +kernel
theorem dX6_alike_32 : decode cX6_alike 32 = .ok (.iload_n 3, 1) := by decide +kernel
theorem dX6_alike_33 : decode cX6_alike 33 = .ok (.iload 4, 2) := by decide +kernel
theorem dX6_alike_35 : decode cX6_alike 35 = .ok (.if_icmp .ne 5, 3) := by decide +kernel
theorem dX6_alike_38 : decode cX6_alike 38 = .ok (.iconst 2, 1) := by decide +kernel
theorem dX6_alike_39 : decode cX6_alike 39 = .ok (.ireturn, 1) := by decide +kernel
theorem dX6_alike_40 : decode cX6_alike 40 = .ok (.iload_n 3, 1) := by decide +kernel
theorem dX6_alike_41 : decode cX6_alike 41 = .ok (.ifCond .eq 19, 3) := by decide +kernel
theorem dX6_alike_44 : decode cX6_alike 44 = .ok (.iload 4, 2) := by decide +kernel
theorem dX6_alike_46 : decode cX6_alike 46 = .ok (.ifCond .eq 14, 3) := by decide +kernel
theorem dX6_alike_49 : decode cX6_alike 49 = .ok (.aload_n 0, 1) := by decide +kernel
theorem dX6_alike_50 : decode cX6_alike 50 = .ok (.getfield 7, 3) := by decide +kernel
theorem dX6_alike_53 : decode cX6_alike 53 = .ok (.iload_n 3, 1) := by decide +kernel
theorem dX6_alike_54 : decode cX6_alike 54 = .ok (.baload, 1) := by decide +kernel
theorem dX6_alike_55 : decode cX6_alike 55 = .ok (.bipush 13, 2) := by decide +kernel
theorem dX6_alike_57 : decode cX6_alike 57 = .ok (.if_icmp .ge 19, 3) := by decide +kernel
theorem dX6_alike_60 : decode cX6_alike 60 = .ok (.aload_n 0, 1) := by decide +kernel
theorem dX6_alike_61 : decode cX6_alike 61 = .ok (.iload_n 3, 1) := by decide +kernel
theorem dX6_alike_62 : decode cX6_alike 62 = .ok (.iload 4, 2) := by decide +kernel
theorem dX6_alike_64 : decode cX6_alike 64 = .ok (.invokevirtual 147, 3) := by decide +kernel
theorem dX6_alike_67 : decode cX6_alike 67 = .ok (.ifCond .eq 7, 3) := by decide +kernel
theorem dX6_alike_70 : decode cX6_alike 70 = .ok (.iconst 1, 1) := by decide +kernel
theorem dX6_alike_71 : decode cX6_alike 71 = .ok (.goto 4, 3) := by decide +kernel
theorem dX6_alike_74 : decode cX6_alike 74 = .ok (.iconst 0, 1) := by decide +kernel
theorem dX6_alike_75 : decode cX6_alike 75 = .ok (.ireturn, 1) := by decide +kernel
theorem dX6_alike_76 : decode cX6_alike 76 = .ok (.aload_n 0, 1) := by decide +kernel
theorem dX6_alike_77 : decode cX6_alike 77 = .ok (.iload_n 3, 1) := by decide +kernel
theorem dX6_alike_78 : decode cX6_alike 78 = .ok (.iload 4, 2) := by decide +kernel
theorem dX6_alike_80 : decode cX6_alike 80 = .ok (.invokevirtual 138, 3) := by decide +kernel
theorem dX6_alike_83 : decode cX6_alike 83 = .ok (.istore 5, 2) := by decide +kernel
theorem dX6_alike_85 : decode cX6_alike 85 = .ok (.iconst 0, 1) := by decide +kernel
theorem dX6_alike_86 : decode cX6_alike 86 = .ok (.istore 6, 2) := by decide +kernel
theorem dX6_alike_88 : decode cX6_alike 88 = .ok (.iload 5, 2) := by decide +kernel
theorem dX6_alike_90 : decode cX6_alike 90 = .ok (.ifCond .eq 43, 3) := by decide +kernel
theorem dX6_alike_93 : decode cX6_alike 93 = .ok (.iload 6, 2) := by decide +kernel
theorem dX6_alike_95 : decode cX6_alike 95 = .ok (.aload_n 0, 1) := by decide +kernel
theorem dX6_alike_96 : decode cX6_alike 96 = .ok (.getfield 13, 3) := by decide +kernel
theorem dX6_alike_99 : decode cX6_alike 99 = .ok (.iload_n 3, 1) := by decide +kernel
theorem dX6_alike_100 : decode cX6_alike 100 = .ok (.baload, 1) := by decide +kernel
theorem dX6_alike_101 : decode cX6_alike 101 = .ok (.if_icmp .ge 32, 3) := by decide +kernel
theorem dX6_alike_104 : decode cX6_alike 104 = .ok (.aload_n 0, 1) := by decide +kernel
theorem dX6_alike_105 : decode cX6_alike 105 = .ok (.aload_n 0, 1) := by decide +kernel
theorem dX6_alike_106 : decode cX6_alike 106 = .ok (.iload_n 3, 1) := by decide +kernel
theorem dX6_alike_107 : decode cX6_alike 107 = .ok (.iload 6, 2) := by decide +kernel
theorem dX6_alike_109 : decode cX6_alike 109 = .ok (.invokevirtual 80, 3) := by decide +kernel
theorem dX6_alike_112 : decode cX6_alike 112 = .ok (.l2i, 1) := by decide +kernel
theorem dX6_alike_113 : decode cX6_alike 113 = .ok (.aload_n 0, 1) := by decide +kernel
theorem dX6_alike_114 : decode cX6_alike 114 = .ok (.iload 4, 2) := by decide +kernel
theorem dX6_alike_116 : decode cX6_alike 116 = .ok (.iload 6, 2) := by decide +kernel
theorem dX6_alike_118 : decode cX6_alike 118 = .ok (.invokevirtual 80, 3) := by decide +kernel
theorem dX6_alike_121 : decode cX6_alike 121 = .ok (.l2i, 1) := by decide +kernel
theorem dX6_alike_122 : decode cX6_alike 122 = .ok (.invokevirtual 147, 3) := by decide +kernel
theorem dX6_alike_125 : decode cX6_alike 125 = .ok (.istore 5, 2) := by decide +kernel
theorem dX6_alike_127 : decode cX6_alike 127 = .ok (.iinc 6 1, 3) := by decide +kernel
theorem dX6_alike_130 : decode cX6_alike 130 = .ok (.goto (-42), 3) := by decide +kernel
theorem dX6_alike_133 : decode cX6_alike 133 = .ok (.iload 5, 2) := by decide +kernel
theorem dX6_alike_135 : decode cX6_alike 135 = .ok (.ifCond .eq 7, 3) := by decide +kernel
theorem dX6_alike_138 : decode cX6_alike 138 = .ok (.iconst 1, 1) := by decide +kernel
theorem dX6_alike_139 : decode cX6_alike 139 = .ok (.goto 4, 3) := by decide +kernel
theorem dX6_alike_142 : decode cX6_alike 142 = .ok (.iconst 0, 1) := by decide +kernel
theorem dX6_alike_143 : decode cX6_alike 143 = .ok (.ireturn, 1) := by decide +kernel
theorem dX6_trouble_0 : decode cX6_trouble 0 = .ok (.iload_n 1, 1) := by decide +kernel
theorem dX6_trouble_1 : decode cX6_trouble 1 = .ok (.iconst 0, 1) := by decide +kernel
theorem dX6_trouble_2 : decode cX6_trouble 2 = .ok (.bipush 7, 2) := by decide +kernel
theorem dX6_trouble_4 : decode cX6_trouble 4 = .ok (.invokestatic 57, 3) := by decide +kernel
theorem dX6_trouble_7 : decode cX6_trouble 7 = .ok (.ifCond .eq 8, 3) := by decide +kernel
theorem dX6_trouble_10 : decode cX6_trouble 10 = .ok (.iload_n 2, 1) := by decide +kernel
theorem dX6_trouble_11 : decode cX6_trouble 11 = .ok (.iconst (-1), 1) := by decide +kernel
theorem dX6_trouble_12 : decode cX6_trouble 12 = .ok (.if_icmp .ge 6, 3) := by decide +kernel
theorem dX6_trouble_15 : decode cX6_trouble 15 = .ok (.bipush (-2), 2) := by decide +kernel
theorem dX6_trouble_17 : decode cX6_trouble 17 = .ok (.ireturn, 1) := by decide +kernel
theorem dX6_trouble_18 : decode cX6_trouble 18 = .ok (.aload_n 0, 1) := by decide +kernel
theorem dX6_trouble_19 : decode cX6_trouble 19 = .ok (.getfield 34, 3) := by decide +kernel
theorem dX6_trouble_22 : decode cX6_trouble 22 = .ok (.iload_n 1, 1) := by decide +kernel
theorem dX6_trouble_23 : decode cX6_trouble 23 = .ok (.iaload, 1) := by decide +kernel
theorem dX6_trouble_24 : decode cX6_trouble 24 = .ok (.istore_n 3, 1) := by decide +kernel
theorem dX6_trouble_25 : decode cX6_trouble 25 = .ok (.aload_n 0, 1) := by decide +kernel
theorem dX6_trouble_26 : decode cX6_trouble 26 = .ok (.getfield 34, 3) := by decide +kernel
theorem dX6_trouble_29 : decode cX6_trouble 29 = .ok (.iload_n 1, 1) := by decide +kernel
theorem dX6_trouble_30 : decode cX6_trouble 30 = .ok (.iload_n 2, 1) := by decide +kernel
theorem dX6_trouble_31 : decode cX6_trouble 31 = .ok (.iastore, 1) := by decide +kernel
theorem dX6_trouble_32 : decode cX6_trouble 32 = .ok (.iload_n 3, 1) := by decide +kernel
theorem dX6_trouble_33 : decode cX6_trouble 33 = .ok (.ireturn, 1) := by decide +kernel
theorem dX6_raise_0 : decode cX6_raise 0 = .ok (.iload_n 1, 1) := by decide +kernel
theorem dX6_raise_1 : decode cX6_raise 1 = .ok (.iconst 0, 1) := by decide +kernel
theorem dX6_raise_2 : decode cX6_raise 2 = .ok (.bipush 7, 2) := by decide +kernel
theorem dX6_raise_4 : decode cX6_raise 4 = .ok (.invokestatic 57, 3) := by decide +kernel
theorem dX6_raise_7 : decode cX6_raise 7 = .ok (.ifCond .eq 13, 3) := by decide +kernel
theorem dX6_raise_10 : decode cX6_raise 10 = .ok (.iload_n 2, 1) := by decide +kernel
theorem dX6_raise_11 : decode cX6_raise 11 = .ok (.iconst 1, 1) := by decide +kernel
theorem dX6_raise_12 : decode cX6_raise 12 = .ok (.bipush 8, 2) := by decide +kernel
theorem dX6_raise_14 : decode cX6_raise 14 = .ok (.invokestatic 57, 3) := by decide +kernel
theorem dX6_raise_17 : decode cX6_raise 17 = .ok (.ifCond .ne 6, 3) := by decide +kernel
theorem dX6_raise_20 : decode cX6_raise 20 = .ok (.bipush (-2), 2) := by decide +kernel
theorem dX6_raise_22 : decode cX6_raise 22 = .ok (.ireturn, 1) := by decide +kernel
theorem dX6_raise_23 : decode cX6_raise 23 = .ok (.aload_n 0, 1) := by decide +kernel
theorem dX6_raise_24 : decode cX6_raise 24 = .ok (.iconst 0, 1) := by decide +kernel
theorem dX6_raise_25 : decode cX6_raise 25 = .ok (.putfield 150, 3) := by decide +kernel
theorem dX6_raise_28 : decode cX6_raise 28 = .ok (.iload_n 2, 1) := by decide +kernel
theorem dX6_raise_29 : decode cX6_raise 29 = .ok (.istore_n 3, 1) := by decide +kernel
theorem dX6_raise_30 : decode cX6_raise 30 = .ok (.iload_n 3, 1) := by decide +kernel
theorem dX6_raise_31 : decode cX6_raise 31 = .ok (.ifCond .le 22, 3) := by decide +kernel
theorem dX6_raise_34 : decode cX6_raise 34 = .ok (.aload_n 0, 1) := by decide +kernel
theorem dX6_raise_35 : decode cX6_raise 35 = .ok (.bipush 10, 2) := by decide +kernel
theorem dX6_raise_37 : decode cX6_raise 37 = .ok (.aload_n 0, 1) := by decide +kernel
theorem dX6_raise_38 : decode cX6_raise 38 = .ok (.getfield 150, 3) := by decide +kernel
theorem dX6_raise_41 : decode cX6_raise 41 = .ok (.imul, 1) := by decide +kernel
theorem dX6_raise_42 : decode cX6_raise 42 = .ok (.iload_n 3, 1) := by decide +kernel
theorem dX6_raise_43 : decode cX6_raise 43 = .ok (.iadd, 1) := by decide +kernel
theorem dX6_raise_44 : decode cX6_raise 44 = .ok (.putfield 150, 3) := by decide +kernel
theorem dX6_raise_47 : decode cX6_raise 47 = .ok (.iinc 3 (-1), 3) := by decide +kernel
theorem dX6_raise_50 : decode cX6_raise 50 = .ok (.goto (-20), 3) := by decide +kernel
theorem dX6_raise_53 : decode cX6_raise 53 = .ok (.aload_n 0, 1) := by decide +kernel
theorem dX6_raise_54 : decode cX6_raise 54 = .ok (.aload_n 0, 1) := by decide +kernel
theorem dX6_raise_55 : decode cX6_raise 55 = .ok (.getfield 34, 3) := by decide +kernel
theorem dX6_raise_58 : decode cX6_raise 58 = .ok (.iload_n 1, 1) := by decide +kernel
theorem dX6_raise_59 : decode cX6_raise 59 = .ok (.iaload, 1) := by decide +kernel
theorem dX6_raise_60 : decode cX6_raise 60 = .ok (.putfield 37, 3) := by decide +kernel
theorem dX6_raise_63 : decode cX6_raise 63 = .ok (.aload_n 0, 1) := by decide +kernel
theorem dX6_raise_64 : decode cX6_raise 64 = .ok (.getfield 37, 3) := by decide +kernel
theorem dX6_raise_67 : decode cX6_raise 67 = .ok (.iconst (-1), 1) := by decide +kernel
theorem dX6_raise_68 : decode cX6_raise 68 = .ok (.if_icmp .ne 7, 3) := by decide +kernel
theorem dX6_raise_71 : decode cX6_raise 71 = .ok (.iconst 1, 1) := by decide +kernel
theorem dX6_raise_72 : decode cX6_raise 72 = .ok (.goto 5, 3) := by decide +kernel
theorem dX6_raise_75 : decode cX6_raise 75 = .ok (.bipush 6, 2) := by decide +kernel
theorem dX6_raise_77 : decode cX6_raise 77 = .ok (.invokestatic 65, 3) := by decide +kernel
theorem dX6_raise_80 : decode cX6_raise 80 = .ok (.ireturn, 1) := by decide +kernel
theorem dX6_passed_0 : decode cX6_passed 0 = .ok (.aload_n 0, 1) := by decide +kernel
theorem dX6_passed_1 : decode cX6_passed 1 = .ok (.getfield 150, 3) := by decide +kernel
theorem dX6_passed_4 : decode cX6_passed 4 = .ok (.ireturn, 1) := by decide +kernel
theorem dX6_number_0 : decode cX6_number 0 = .ok (.aload_n 0, 1) := by decide +kernel
theorem dX6_number_1 : decode cX6_number 1 = .ok (.getfield 37, 3) := by decide +kernel
theorem dX6_number_4 : decode cX6_number 4 = .ok (.ireturn, 1) := by decide +kernel
theorem dX6_fault_0 : decode cX6_fault 0 = .ok (.aload_n 0, 1) := by decide +kernel
theorem dX6_fault_1 : decode cX6_fault 1 = .ok (.getfield 111, 3) := by decide +kernel
theorem dX6_fault_4 : decode cX6_fault 4 = .ok (.ireturn, 1) := by decide +kernel
theorem dX6_clear_0 : decode cX6_clear 0 = .ok (.iconst 0, 1) := by decide +kernel
theorem dX6_clear_1 : decode cX6_clear 1 = .ok (.istore_n 1, 1) := by decide +kernel
theorem dX6_clear_2 : decode cX6_clear 2 = .ok (.iconst 0, 1) := by decide +kernel
theorem dX6_clear_3 : decode cX6_clear 3 = .ok (.istore_n 2, 1) := by decide +kernel
theorem dX6_clear_4 : decode cX6_clear 4 = .ok (.iload_n 2, 1) := by decide +kernel
theorem dX6_clear_5 : decode cX6_clear 5 = .ok (.bipush 16, 2) := by decide +kernel
theorem dX6_clear_7 : decode cX6_clear 7 = .ok (.if_icmp .ge 33, 3) := by decide +kernel
theorem dX6_clear_10 : decode cX6_clear 10 = .ok (.iload_n 1, 1) := by decide +kernel
theorem dX6_clear_11 : decode cX6_clear 11 = .ok (.aload_n 0, 1) := by decide +kernel
theorem dX6_clear_12 : decode cX6_clear 12 = .ok (.getfield 31, 3) := by decide +kernel
theorem dX6_clear_15 : decode cX6_clear 15 = .ok (.iload_n 2, 1) := by decide +kernel
theorem dX6_clear_16 : decode cX6_clear 16 = .ok (.iaload, 1) := by decide +kernel
theorem dX6_clear_17 : decode cX6_clear 17 = .ok (.ifCond .eq 7, 3) := by decide +kernel
theorem dX6_clear_20 : decode cX6_clear 20 = .ok (.iconst 1, 1) := by decide +kernel
theorem dX6_clear_21 : decode cX6_clear 21 = .ok (.goto 4, 3) := by decide +kernel
theorem dX6_clear_24 : decode cX6_clear 24 = .ok (.iconst 0, 1) := by decide +kernel
theorem dX6_clear_25 : decode cX6_clear 25 = .ok (.iadd, 1) := by decide +kernel
theorem dX6_clear_26 : decode cX6_clear 26 = .ok (.istore_n 1, 1) := by decide +kernel
theorem dX6_clear_27 : decode cX6_clear 27 = .ok (.aload_n 0, 1) := by decide +kernel
theorem dX6_clear_28 : decode cX6_clear 28 = .ok (.getfield 31, 3) := by decide +kernel
theorem dX6_clear_31 : decode cX6_clear 31 = .ok (.iload_n 2, 1) := by decide +kernel
theorem dX6_clear_32 : decode cX6_clear 32 = .ok (.iconst 0, 1) := by decide +kernel
theorem dX6_clear_33 : decode cX6_clear 33 = .ok (.iastore, 1) := by decide +kernel
theorem dX6_clear_34 : decode cX6_clear 34 = .ok (.iinc 2 1, 3) := by decide +kernel
theorem dX6_clear_37 : decode cX6_clear 37 = .ok (.goto (-33), 3) := by decide +kernel
theorem dX6_clear_40 : decode cX6_clear 40 = .ok (.iconst 0, 1) := by decide +kernel
theorem dX6_clear_41 : decode cX6_clear 41 = .ok (.istore_n 2, 1) := by decide +kernel
theorem dX6_clear_42 : decode cX6_clear 42 = .ok (.iload_n 2, 1) := by decide +kernel
theorem dX6_clear_43 : decode cX6_clear 43 = .ok (.bipush 8, 2) := by decide +kernel
theorem dX6_clear_45 : decode cX6_clear 45 = .ok (.if_icmp .ge 16, 3) := by decide +kernel
theorem dX6_clear_48 : decode cX6_clear 48 = .ok (.aload_n 0, 1) := by decide +kernel
theorem dX6_clear_49 : decode cX6_clear 49 = .ok (.getfield 34, 3) := by decide +kernel
theorem dX6_clear_52 : decode cX6_clear 52 = .ok (.iload_n 2, 1) := by decide +kernel
theorem dX6_clear_53 : decode cX6_clear 53 = .ok (.iconst (-1), 1) := by decide +kernel
theorem dX6_clear_54 : decode cX6_clear 54 = .ok (.iastore, 1) := by decide +kernel
theorem dX6_clear_55 : decode cX6_clear 55 = .ok (.iinc 2 1, 3) := by decide +kernel
theorem dX6_clear_58 : decode cX6_clear 58 = .ok (.goto (-16), 3) := by decide +kernel
theorem dX6_clear_61 : decode cX6_clear 61 = .ok (.aload_n 0, 1) := by decide +kernel
theorem dX6_clear_62 : decode cX6_clear 62 = .ok (.iconst 0, 1) := by decide +kernel
theorem dX6_clear_63 : decode cX6_clear 63 = .ok (.putfield 150, 3) := by decide +kernel
theorem dX6_clear_66 : decode cX6_clear 66 = .ok (.aload_n 0, 1) := by decide +kernel
theorem dX6_clear_67 : decode cX6_clear 67 = .ok (.iconst (-1), 1) := by decide +kernel
theorem dX6_clear_68 : decode cX6_clear 68 = .ok (.putfield 37, 3) := by decide +kernel
theorem dX6_clear_71 : decode cX6_clear 71 = .ok (.aload_n 0, 1) := by decide +kernel
theorem dX6_clear_72 : decode cX6_clear 72 = .ok (.iconst 0, 1) := by decide +kernel
theorem dX6_clear_73 : decode cX6_clear 73 = .ok (.putfield 111, 3) := by decide +kernel
theorem dX6_clear_76 : decode cX6_clear 76 = .ok (.iload_n 1, 1) := by decide +kernel
theorem dX6_clear_77 : decode cX6_clear 77 = .ok (.ireturn, 1) := by decide +kernel
theorem dX6_told_0 : decode cX6_told 0 = .ok (.iconst 0, 1) := by decide +kernel
theorem dX6_told_1 : decode cX6_told 1 = .ok (.istore_n 2, 1) := by decide +kernel
theorem dX6_told_2 : decode cX6_told 2 = .ok (.iconst 0, 1) := by decide +kernel
theorem dX6_told_3 : decode cX6_told 3 = .ok (.istore_n 3, 1) := by decide +kernel
theorem dX6_told_4 : decode cX6_told 4 = .ok (.iload_n 3, 1) := by decide +kernel
theorem dX6_told_5 : decode cX6_told 5 = .ok (.bipush 16, 2) := by decide +kernel
theorem dX6_told_7 : decode cX6_told 7 = .ok (.if_icmp .ge 26, 3) := by decide +kernel
theorem dX6_told_10 : decode cX6_told 10 = .ok (.iload_n 2, 1) := by decide +kernel
theorem dX6_told_11 : decode cX6_told 11 = .ok (.aload_n 0, 1) := by decide +kernel
theorem dX6_told_12 : decode cX6_told 12 = .ok (.getfield 31, 3) := by decide +kernel
theorem dX6_told_15 : decode cX6_told 15 = .ok (.iload_n 3, 1) := by decide +kernel
theorem dX6_told_16 : decode cX6_told 16 = .ok (.iaload, 1) := by decide +kernel
theorem dX6_told_17 : decode cX6_told 17 = .ok (.ifCond .eq 7, 3) := by decide +kernel
theorem dX6_told_20 : decode cX6_told 20 = .ok (.iconst 1, 1) := by decide +kernel
theorem dX6_told_21 : decode cX6_told 21 = .ok (.goto 4, 3) := by decide +kernel
theorem dX6_told_24 : decode cX6_told 24 = .ok (.iconst 0, 1) := by decide +kernel
theorem dX6_told_25 : decode cX6_told 25 = .ok (.iadd, 1) := by decide +kernel
theorem dX6_told_26 : decode cX6_told 26 = .ok (.istore_n 2, 1) := by decide +kernel
theorem dX6_told_27 : decode cX6_told 27 = .ok (.iinc 3 1, 3) := by decide +kernel
theorem dX6_told_30 : decode cX6_told 30 = .ok (.goto (-26), 3) := by decide +kernel
theorem dX6_told_33 : decode cX6_told 33 = .ok (.iload_n 1, 1) := by decide +kernel
theorem dX6_told_34 : decode cX6_told 34 = .ok (.ifCond .ne 7, 3) := by decide +kernel
theorem dX6_told_37 : decode cX6_told 37 = .ok (.iload_n 2, 1) := by decide +kernel
theorem dX6_told_38 : decode cX6_told 38 = .ok (.goto 29, 3) := by decide +kernel
theorem dX6_told_41 : decode cX6_told 41 = .ok (.iload_n 1, 1) := by decide +kernel
theorem dX6_told_42 : decode cX6_told 42 = .ok (.iconst 1, 1) := by decide +kernel
theorem dX6_told_43 : decode cX6_told 43 = .ok (.if_icmp .ne 10, 3) := by decide +kernel
theorem dX6_told_46 : decode cX6_told 46 = .ok (.aload_n 0, 1) := by decide +kernel
theorem dX6_told_47 : decode cX6_told 47 = .ok (.getfield 50, 3) := by decide +kernel
theorem dX6_told_50 : decode cX6_told 50 = .ok (.goto 17, 3) := by decide +kernel
theorem dX6_told_53 : decode cX6_told 53 = .ok (.iload_n 1, 1) := by decide +kernel
theorem dX6_told_54 : decode cX6_told 54 = .ok (.iconst 2, 1) := by decide +kernel
theorem dX6_told_55 : decode cX6_told 55 = .ok (.if_icmp .ne 10, 3) := by decide +kernel
theorem dX6_told_58 : decode cX6_told 58 = .ok (.aload_n 0, 1) := by decide +kernel
theorem dX6_told_59 : decode cX6_told 59 = .ok (.getfield 122, 3) := by decide +kernel
theorem dX6_told_62 : decode cX6_told 62 = .ok (.goto 5, 3) := by decide +kernel
theorem dX6_told_65 : decode cX6_told 65 = .ok (.bipush (-2), 2) := by decide +kernel
theorem dX6_told_67 : decode cX6_told 67 = .ok (.ireturn, 1) := by decide +kernel
end
section
def bigW : List Cond := wsL_law
set_option maxRecDepth 20000 in
theorem bigW_good : bigW.all goodWord = true := by decide +kernel
theorem rW_1 : ∀ w ∈ wsL_law_r1, w ∈ bigW := fun _ h => List.mem_append_left _ (List.mem_append_left _ (List.mem_append_left _ (List.mem_append_left _ (List.mem_append_left _ (List.mem_append_left _ (List.mem_append_left _ h))))))
theorem rW_2 : ∀ w ∈ wsL_law_r2, w ∈ bigW := fun _ h => List.mem_append_left _ (List.mem_append_left _ (List.mem_append_left _ (List.mem_append_left _ (List.mem_append_left _ (List.mem_append_left _ (List.mem_append_right _ (List.mem_append_left _ h)))))))
theorem rW_3 : ∀ w ∈ wsL_law_r3, w ∈ bigW := fun _ h => List.mem_append_left _ (List.mem_append_left _ (List.mem_append_left _ (List.mem_append_left _ (List.mem_append_left _ (List.mem_append_left _ (List.mem_append_right _ (List.mem_append_right _ (List.mem_append_left _ h))))))))
theorem rW_4 : ∀ w ∈ wsL_law_r4, w ∈ bigW := fun _ h => List.mem_append_left _ (List.mem_append_left _ (List.mem_append_left _ (List.mem_append_left _ (List.mem_append_left _ (List.mem_append_left _ (List.mem_append_right _ (List.mem_append_right _ (List.mem_append_right _ (List.mem_append_left _ h)))))))))
theorem rW_5 : ∀ w ∈ wsL_law_r5, w ∈ bigW := fun _ h => List.mem_append_left _ (List.mem_append_left _ (List.mem_append_left _ (List.mem_append_left _ (List.mem_append_left _ (List.mem_append_left _ (List.mem_append_right _ (List.mem_append_right _ (List.mem_append_right _ (List.mem_append_right _ (List.mem_append_left _ h))))))))))
theorem rW_6 : ∀ w ∈ wsL_law_r6, w ∈ bigW := fun _ h => List.mem_append_left _ (List.mem_append_left _ (List.mem_append_left _ (List.mem_append_left _ (List.mem_append_left _ (List.mem_append_left _ (List.mem_append_right _ (List.mem_append_right _ (List.mem_append_right _ (List.mem_append_right _ (List.mem_append_right _ (List.mem_append_left _ h)))))))))))
theorem rW_7 : ∀ w ∈ wsL_law_r7, w ∈ bigW := fun _ h => List.mem_append_left _ (List.mem_append_left _ (List.mem_append_left _ (List.mem_append_left _ (List.mem_append_left _ (List.mem_append_left _ (List.mem_append_right _ (List.mem_append_right _ (List.mem_append_right _ (List.mem_append_right _ (List.mem_append_right _ (List.mem_append_right _ (List.mem_append_left _ h))))))))))))
theorem rW_8 : ∀ w ∈ wsL_law_r8, w ∈ bigW := fun _ h => List.mem_append_left _ (List.mem_append_left _ (List.mem_append_left _ (List.mem_append_left _ (List.mem_append_left _ (List.mem_append_left _ (List.mem_append_right _ (List.mem_append_right _ (List.mem_append_right _ (List.mem_append_right _ (List.mem_append_right _ (List.mem_append_right _ (List.mem_append_right _ (List.mem_append_left _ h)))))))))))))
theorem rW_9 : ∀ w ∈ wsL_law_r9, w ∈ bigW := fun _ h => List.mem_append_left _ (List.mem_append_left _ (List.mem_append_left _ (List.mem_append_left _ (List.mem_append_left _ (List.mem_append_left _ (List.mem_append_right _ (List.mem_append_right _ (List.mem_append_right _ (List.mem_append_right _ (List.mem_append_right _ (List.mem_append_right _ (List.mem_append_right _ (List.mem_append_right _ (List.mem_append_left _ h))))))))))))))
theorem rW_10 : ∀ w ∈ wsL_law_r10, w ∈ bigW := fun _ h => List.mem_append_left _ (List.mem_append_left _ (List.mem_append_left _ (List.mem_append_left _ (List.mem_append_left _ (List.mem_append_left _ (List.mem_append_right _ (List.mem_append_right _ (List.mem_append_right _ (List.mem_append_right _ (List.mem_append_right _ (List.mem_append_right _ (List.mem_append_right _ (List.mem_append_right _ (List.mem_append_right _ (List.mem_append_left _ h)))))))))))))))
theorem rW_11 : ∀ w ∈ wsL_law_r11, w ∈ bigW := fun _ h => List.mem_append_left _ (List.mem_append_left _ (List.mem_append_left _ (List.mem_append_left _ (List.mem_append_left _ (List.mem_append_left _ (List.mem_append_right _ (List.mem_append_right _ (List.mem_append_right _ (List.mem_append_right _ (List.mem_append_right _ (List.mem_append_right _ (List.mem_append_right _ (List.mem_append_right _ (List.mem_append_right _ (List.mem_append_right _ (List.mem_append_left _ h))))))))))))))))
theorem rW_12 : ∀ w ∈ wsL_law_r12, w ∈ bigW := fun _ h => List.mem_append_left _ (List.mem_append_left _ (List.mem_append_left _ (List.mem_append_left _ (List.mem_append_left _ (List.mem_append_left _ (List.mem_append_right _ (List.mem_append_right _ (List.mem_append_right _ (List.mem_append_right _ (List.mem_append_right _ (List.mem_append_right _ (List.mem_append_right _ (List.mem_append_right _ (List.mem_append_right _ (List.mem_append_right _ (List.mem_append_right _ (List.mem_append_left _ h)))))))))))))))))
theorem rW_13 : ∀ w ∈ wsL_law_r13, w ∈ bigW := fun _ h => List.mem_append_left _ (List.mem_append_left _ (List.mem_append_left _ (List.mem_append_left _ (List.mem_append_left _ (List.mem_append_left _ (List.mem_append_right _ (List.mem_append_right _ (List.mem_append_right _ (List.mem_append_right _ (List.mem_append_right _ (List.mem_append_right _ (List.mem_append_right _ (List.mem_append_right _ (List.mem_append_right _ (List.mem_append_right _ (List.mem_append_right _ (List.mem_append_right _ (List.mem_append_left _ h))))))))))))))))))
theorem rW_14 : ∀ w ∈ wsL_law_r14, w ∈ bigW := fun _ h => List.mem_append_left _ (List.mem_append_left _ (List.mem_append_left _ (List.mem_append_left _ (List.mem_append_left _ (List.mem_append_left _ (List.mem_append_right _ (List.mem_append_right _ (List.mem_append_right _ (List.mem_append_right _ (List.mem_append_right _ (List.mem_append_right _ (List.mem_append_right _ (List.mem_append_right _ (List.mem_append_right _ (List.mem_append_right _ (List.mem_append_right _ (List.mem_append_right _ (List.mem_append_right _ (List.mem_append_left _ h)))))))))))))))))))
theorem rW_15 : ∀ w ∈ wsL_law_r15, w ∈ bigW := fun _ h => List.mem_append_left _ (List.mem_append_left _ (List.mem_append_left _ (List.mem_append_left _ (List.mem_append_left _ (List.mem_append_left _ (List.mem_append_right _ (List.mem_append_right _ (List.mem_append_right _ (List.mem_append_right _ (List.mem_append_right _ (List.mem_append_right _ (List.mem_append_right _ (List.mem_append_right _ (List.mem_append_right _ (List.mem_append_right _ (List.mem_append_right _ (List.mem_append_right _ (List.mem_append_right _ (List.mem_append_right _ (List.mem_append_left _ h))))))))))))))))))))
theorem rW_16 : ∀ w ∈ wsL_law_r16, w ∈ bigW := fun _ h => List.mem_append_left _ (List.mem_append_left _ (List.mem_append_left _ (List.mem_append_left _ (List.mem_append_left _ (List.mem_append_left _ (List.mem_append_right _ (List.mem_append_right _ (List.mem_append_right _ (List.mem_append_right _ (List.mem_append_right _ (List.mem_append_right _ (List.mem_append_right _ (List.mem_append_right _ (List.mem_append_right _ (List.mem_append_right _ (List.mem_append_right _ (List.mem_append_right _ (List.mem_append_right _ (List.mem_append_right _ (List.mem_append_right _ (List.mem_append_left _ h)))))))))))))))))))))
theorem rW_17 : ∀ w ∈ wsL_law_r17, w ∈ bigW := fun _ h => List.mem_append_left _ (List.mem_append_left _ (List.mem_append_left _ (List.mem_append_left _ (List.mem_append_left _ (List.mem_append_left _ (List.mem_append_right _ (List.mem_append_right _ (List.mem_append_right _ (List.mem_append_right _ (List.mem_append_right _ (List.mem_append_right _ (List.mem_append_right _ (List.mem_append_right _ (List.mem_append_right _ (List.mem_append_right _ (List.mem_append_right _ (List.mem_append_right _ (List.mem_append_right _ (List.mem_append_right _ (List.mem_append_right _ (List.mem_append_right _ (List.mem_append_left _ h))))))))))))))))))))))
theorem rW_18 : ∀ w ∈ wsL_law_r18, w ∈ bigW := fun _ h => List.mem_append_left _ (List.mem_append_left _ (List.mem_append_left _ (List.mem_append_left _ (List.mem_append_left _ (List.mem_append_left _ (List.mem_append_right _ (List.mem_append_right _ (List.mem_append_right _ (List.mem_append_right _ (List.mem_append_right _ (List.mem_append_right _ (List.mem_append_right _ (List.mem_append_right _ (List.mem_append_right _ (List.mem_append_right _ (List.mem_append_right _ (List.mem_append_right _ (List.mem_append_right _ (List.mem_append_right _ (List.mem_append_right _ (List.mem_append_right _ (List.mem_append_right _ (List.mem_append_left _ h)))))))))))))))))))))))
theorem rW_19 : ∀ w ∈ wsL_law_r19, w ∈ bigW := fun _ h => List.mem_append_left _ (List.mem_append_left _ (List.mem_append_left _ (List.mem_append_left _ (List.mem_append_left _ (List.mem_append_left _ (List.mem_append_right _ (List.mem_append_right _ (List.mem_append_right _ (List.mem_append_right _ (List.mem_append_right _ (List.mem_append_right _ (List.mem_append_right _ (List.mem_append_right _ (List.mem_append_right _ (List.mem_append_right _ (List.mem_append_right _ (List.mem_append_right _ (List.mem_append_right _ (List.mem_append_right _ (List.mem_append_right _ (List.mem_append_right _ (List.mem_append_right _ (List.mem_append_right _ (List.mem_append_left _ h))))))))))))))))))))))))
theorem rW_20 : ∀ w ∈ wsL_law_r20, w ∈ bigW := fun _ h => List.mem_append_left _ (List.mem_append_left _ (List.mem_append_left _ (List.mem_append_left _ (List.mem_append_left _ (List.mem_append_left _ (List.mem_append_right _ (List.mem_append_right _ (List.mem_append_right _ (List.mem_append_right _ (List.mem_append_right _ (List.mem_append_right _ (List.mem_append_right _ (List.mem_append_right _ (List.mem_append_right _ (List.mem_append_right _ (List.mem_append_right _ (List.mem_append_right _ (List.mem_append_right _ (List.mem_append_right _ (List.mem_append_right _ (List.mem_append_right _ (List.mem_append_right _ (List.mem_append_right _ (List.mem_append_right _ (List.mem_append_left _ h)))))))))))))))))))))))))
theorem rW_21 : ∀ w ∈ wsL_law_r21, w ∈ bigW := fun _ h => List.mem_append_left _ (List.mem_append_left _ (List.mem_append_left _ (List.mem_append_left _ (List.mem_append_left _ (List.mem_append_left _ (List.mem_append_right _ (List.mem_append_right _ (List.mem_append_right _ (List.mem_append_right _ (List.mem_append_right _ (List.mem_append_right _ (List.mem_append_right _ (List.mem_append_right _ (List.mem_append_right _ (List.mem_append_right _ (List.mem_append_right _ (List.mem_append_right _ (List.mem_append_right _ (List.mem_append_right _ (List.mem_append_right _ (List.mem_append_right _ (List.mem_append_right _ (List.mem_append_right _ (List.mem_append_right _ (List.mem_append_right _ (List.mem_append_left _ h))))))))))))))))))))))))))
theorem rW_22 : ∀ w ∈ wsL_law_r22, w ∈ bigW := fun _ h => List.mem_append_left _ (List.mem_append_left _ (List.mem_append_left _ (List.mem_append_left _ (List.mem_append_left _ (List.mem_append_left _ (List.mem_append_right _ (List.mem_append_right _ (List.mem_append_right _ (List.mem_append_right _ (List.mem_append_right _ (List.mem_append_right _ (List.mem_append_right _ (List.mem_append_right _ (List.mem_append_right _ (List.mem_append_right _ (List.mem_append_right _ (List.mem_append_right _ (List.mem_append_right _ (List.mem_append_right _ (List.mem_append_right _ (List.mem_append_right _ (List.mem_append_right _ (List.mem_append_right _ (List.mem_append_right _ (List.mem_append_right _ (List.mem_append_right _ (List.mem_append_left _ h)))))))))))))))))))))))))))
theorem rW_23 : ∀ w ∈ wsL_law_r23, w ∈ bigW := fun _ h => List.mem_append_left _ (List.mem_append_left _ (List.mem_append_left _ (List.mem_append_left _ (List.mem_append_left _ (List.mem_append_left _ (List.mem_append_right _ (List.mem_append_right _ (List.mem_append_right _ (List.mem_append_right _ (List.mem_append_right _ (List.mem_append_right _ (List.mem_append_right _ (List.mem_append_right _ (List.mem_append_right _ (List.mem_append_right _ (List.mem_append_right _ (List.mem_append_right _ (List.mem_append_right _ (List.mem_append_right _ (List.mem_append_right _ (List.mem_append_right _ (List.mem_append_right _ (List.mem_append_right _ (List.mem_append_right _ (List.mem_append_right _ (List.mem_append_right _ (List.mem_append_right _ (h))))))))))))))))))))))))))))
theorem kw_classLink_RL_7 : (Cond.classLink RL 7 RX5) ∈ bigW := rW_1 _ (List.mem_of_getElem? (i := 0) rfl)
theorem kw_instantiable_RX5_8 : (Cond.instantiable RX5 8) ∈ bigW := rW_1 _ (List.mem_of_getElem? (i := 1) rfl)
theorem kw_initialized_RX5 : (Cond.initialized RX5) ∈ bigW := rW_1 _ (List.mem_of_getElem? (i := 2) rfl)
theorem kw_classLink_RL_10 : (Cond.classLink RL 10 RX6) ∈ bigW := rW_1 _ (List.mem_of_getElem? (i := 3) rfl)
theorem kw_instantiable_RX6_16 : (Cond.instantiable RX6 16) ∈ bigW := rW_1 _ (List.mem_of_getElem? (i := 4) rfl)
theorem kw_initialized_RX6 : (Cond.initialized RX6) ∈ bigW := rW_1 _ (List.mem_of_getElem? (i := 5) rfl)
theorem kw_constantLong_RL_50 : (Cond.constantLong RL 50 (4294967295)) ∈ bigW := rW_1 _ (List.mem_of_getElem? (i := 6) rfl)
theorem kw_methodLink_RL_9 : (Cond.methodLink RL 9 yX5_init) ∈ bigW := rW_1 _ (List.mem_of_getElem? (i := 7) rfl)
theorem kw_instanceMethod_yX5_init : (Cond.instanceMethod yX5_init) ∈ bigW := rW_1 _ (List.mem_of_getElem? (i := 8) rfl)
theorem kw_code_yX5_init : (Cond.code yX5_init cX5_init 1 none) ∈ bigW := rW_1 _ (List.mem_of_getElem? (i := 9) rfl)
theorem kw_methodLink_RX5_1 : (Cond.methodLink RX5 1 objectInit) ∈ bigW := rW_1 _ (List.mem_of_getElem? (i := 10) rfl)
theorem kw_instanceMethod_Object_init : (Cond.instanceMethod objectInit) ∈ bigW := rW_1 _ (List.mem_of_getElem? (i := 11) rfl)
theorem kw_code_objectInit : (Cond.code objectInit ⟨#[0xb1]⟩ 1 none) ∈ bigW := rW_1 _ (List.mem_of_getElem? (i := 12) rfl)
theorem kw_classLink_RX5_9 : (Cond.classLink RX5 9 RX3) ∈ bigW := rW_1 _ (List.mem_of_getElem? (i := 13) rfl)
theorem kw_fieldLink_RX5_11 : (Cond.fieldLink RX5 11 "PlanCopies" "columns" "[LPlanCopies$Table;") ∈ bigW := rW_1 _ (List.mem_of_getElem? (i := 14) rfl)
theorem kw_arrayClass__int : (Cond.arrayClass .int) ∈ bigW := rW_1 _ (List.mem_of_getElem? (i := 15) rfl)
theorem kw_fieldLink_RX5_15 : (Cond.fieldLink RX5 15 "PlanCopies" "troubles" "[I") ∈ bigW := rW_1 _ (List.mem_of_getElem? (i := 16) rfl)
theorem kw_methodLink_RX5_19 : (Cond.methodLink RX5 19 yX5_begin) ∈ bigW := rW_1 _ (List.mem_of_getElem? (i := 17) rfl)
theorem kw_instanceMethod_yX5_begin : (Cond.instanceMethod yX5_begin) ∈ bigW := rW_1 _ (List.mem_of_getElem? (i := 18) rfl)
theorem kw_selects_RX5_yX5_begin_yX5_begin : (Cond.selects RX5 yX5_begin yX5_begin) ∈ bigW := rW_1 _ (List.mem_of_getElem? (i := 19) rfl)
theorem kw_code_yX5_begin : (Cond.code yX5_begin cX5_begin 2 none) ∈ bigW := rW_1 _ (List.mem_of_getElem? (i := 20) rfl)
theorem kw_fieldLink_RX5_137 : (Cond.fieldLink RX5 137 "PlanCopies" "latestPassed" "I") ∈ bigW := rW_1 _ (List.mem_of_getElem? (i := 21) rfl)
theorem kw_fieldLink_RX5_140 : (Cond.fieldLink RX5 140 "PlanCopies" "latestNumber" "I") ∈ bigW := rW_1 _ (List.mem_of_getElem? (i := 22) rfl)
theorem kw_fieldLink_RX5_143 : (Cond.fieldLink RX5 143 "PlanCopies" "latestFault" "I") ∈ bigW := rW_1 _ (List.mem_of_getElem? (i := 23) rfl)
theorem kw_methodLink_RL_12 : (Cond.methodLink RL 12 yX6_init) ∈ bigW := rW_2 _ (List.mem_of_getElem? (i := 0) rfl)
theorem kw_instanceMethod_yX6_init : (Cond.instanceMethod yX6_init) ∈ bigW := rW_2 _ (List.mem_of_getElem? (i := 1) rfl)
theorem kw_code_yX6_init : (Cond.code yX6_init cX6_init 1 none) ∈ bigW := rW_2 _ (List.mem_of_getElem? (i := 2) rfl)
theorem kw_methodLink_RX6_1 : (Cond.methodLink RX6 1 objectInit) ∈ bigW := rW_2 _ (List.mem_of_getElem? (i := 3) rfl)
theorem kw_arrayClass__byte : (Cond.arrayClass .byte) ∈ bigW := rW_2 _ (List.mem_of_getElem? (i := 4) rfl)
theorem kw_fieldLink_RX6_7 : (Cond.fieldLink RX6 7 "PlanCopiesModel" "kindOf" "[B") ∈ bigW := rW_2 _ (List.mem_of_getElem? (i := 5) rfl)
theorem kw_fieldLink_RX6_13 : (Cond.fieldLink RX6 13 "PlanCopiesModel" "many" "[B") ∈ bigW := rW_2 _ (List.mem_of_getElem? (i := 6) rfl)
theorem kw_fieldLink_RX6_16 : (Cond.fieldLink RX6 16 "PlanCopiesModel" "start" "[I") ∈ bigW := rW_2 _ (List.mem_of_getElem? (i := 7) rfl)
theorem kw_arrayClass__long : (Cond.arrayClass .long) ∈ bigW := rW_2 _ (List.mem_of_getElem? (i := 8) rfl)
theorem kw_fieldLink_RX6_20 : (Cond.fieldLink RX6 20 "PlanCopiesModel" "item" "[J") ∈ bigW := rW_2 _ (List.mem_of_getElem? (i := 9) rfl)
theorem kw_fieldLink_RX6_24 : (Cond.fieldLink RX6 24 "PlanCopiesModel" "thingNumber" "[I") ∈ bigW := rW_2 _ (List.mem_of_getElem? (i := 10) rfl)
theorem kw_arrayClass__boolean : (Cond.arrayClass .boolean) ∈ bigW := rW_2 _ (List.mem_of_getElem? (i := 11) rfl)
theorem kw_fieldLink_RX6_27 : (Cond.fieldLink RX6 27 "PlanCopiesModel" "isMarked" "[Z") ∈ bigW := rW_2 _ (List.mem_of_getElem? (i := 12) rfl)
theorem kw_fieldLink_RX6_31 : (Cond.fieldLink RX6 31 "PlanCopiesModel" "held" "[I") ∈ bigW := rW_2 _ (List.mem_of_getElem? (i := 13) rfl)
theorem kw_fieldLink_RX6_34 : (Cond.fieldLink RX6 34 "PlanCopiesModel" "troubleNumber" "[I") ∈ bigW := rW_2 _ (List.mem_of_getElem? (i := 14) rfl)
theorem kw_fieldLink_RX6_37 : (Cond.fieldLink RX6 37 "PlanCopiesModel" "number" "I") ∈ bigW := rW_2 _ (List.mem_of_getElem? (i := 15) rfl)
theorem kw_fieldLink_RX6_41 : (Cond.fieldLink RX6 41 "PlanCopiesModel" "copyOf" "[I") ∈ bigW := rW_2 _ (List.mem_of_getElem? (i := 16) rfl)
theorem kw_fieldLink_RX6_44 : (Cond.fieldLink RX6 44 "PlanCopiesModel" "kept" "[J") ∈ bigW := rW_2 _ (List.mem_of_getElem? (i := 17) rfl)
theorem kw_methodLink_RL_13 : (Cond.methodLink RL 13 yX5_make) ∈ bigW := rW_2 _ (List.mem_of_getElem? (i := 18) rfl)
theorem kw_instanceMethod_yX5_make : (Cond.instanceMethod yX5_make) ∈ bigW := rW_2 _ (List.mem_of_getElem? (i := 19) rfl)
theorem kw_selects_RX5_yX5_make_yX5_make : (Cond.selects RX5 yX5_make yX5_make) ∈ bigW := rW_2 _ (List.mem_of_getElem? (i := 20) rfl)
theorem kw_code_yX5_make : (Cond.code yX5_make cX5_make 4 (some .int)) ∈ bigW := rW_2 _ (List.mem_of_getElem? (i := 21) rfl)
theorem kw_methodLink_RX5_22 : (Cond.methodLink RX5 22 yX5_isColumn) ∈ bigW := rW_2 _ (List.mem_of_getElem? (i := 22) rfl)
theorem kw_static_yX5_isColumn : (Cond.static yX5_isColumn) ∈ bigW := rW_2 _ (List.mem_of_getElem? (i := 23) rfl)
theorem kw_code_yX5_isColumn : (Cond.code yX5_isColumn cX5_isColumn 1 (some .boolean)) ∈ bigW := rW_3 _ (List.mem_of_getElem? (i := 0) rfl)
theorem kw_methodLink_RX5_26 : (Cond.methodLink RX5 26 yX5_isKind) ∈ bigW := rW_3 _ (List.mem_of_getElem? (i := 1) rfl)
theorem kw_static_yX5_isKind : (Cond.static yX5_isKind) ∈ bigW := rW_3 _ (List.mem_of_getElem? (i := 2) rfl)
theorem kw_code_yX5_isKind : (Cond.code yX5_isKind cX5_isKind 3 (some .boolean)) ∈ bigW := rW_3 _ (List.mem_of_getElem? (i := 3) rfl)
theorem kw_methodLink_RX5_30 : (Cond.methodLink RX5 30 yX5_isFull) ∈ bigW := rW_3 _ (List.mem_of_getElem? (i := 4) rfl)
theorem kw_instanceMethod_yX5_isFull : (Cond.instanceMethod yX5_isFull) ∈ bigW := rW_3 _ (List.mem_of_getElem? (i := 5) rfl)
theorem kw_selects_RX5_yX5_isFull_yX5_isFull : (Cond.selects RX5 yX5_isFull yX5_isFull) ∈ bigW := rW_3 _ (List.mem_of_getElem? (i := 6) rfl)
theorem kw_code_yX5_isFull : (Cond.code yX5_isFull cX5_isFull 1 (some .boolean)) ∈ bigW := rW_3 _ (List.mem_of_getElem? (i := 7) rfl)
theorem kw_fieldLink_RX5_149 : (Cond.fieldLink RX5 149 "PlanCopies" "itemsMade" "I") ∈ bigW := rW_3 _ (List.mem_of_getElem? (i := 8) rfl)
theorem kw_methodLink_RX5_34 : (Cond.methodLink RX5 34 yX5_against) ∈ bigW := rW_3 _ (List.mem_of_getElem? (i := 9) rfl)
theorem kw_static_yX5_against : (Cond.static yX5_against) ∈ bigW := rW_3 _ (List.mem_of_getElem? (i := 10) rfl)
theorem kw_code_yX5_against : (Cond.code yX5_against cX5_against 1 (some .int)) ∈ bigW := rW_3 _ (List.mem_of_getElem? (i := 11) rfl)
theorem kw_methodLink_RX5_38 : (Cond.methodLink RX5 38 yX5_newTable) ∈ bigW := rW_3 _ (List.mem_of_getElem? (i := 12) rfl)
theorem kw_instanceMethod_yX5_newTable : (Cond.instanceMethod yX5_newTable) ∈ bigW := rW_3 _ (List.mem_of_getElem? (i := 13) rfl)
theorem kw_selects_RX5_yX5_newTable_yX5_newTable : (Cond.selects RX5 yX5_newTable yX5_newTable) ∈ bigW := rW_3 _ (List.mem_of_getElem? (i := 14) rfl)
theorem kw_code_yX5_newTable : (Cond.code yX5_newTable cX5_newTable 3 (some (.object "PlanCopies$Table"))) ∈ bigW := rW_3 _ (List.mem_of_getElem? (i := 15) rfl)
theorem kw_classLink_RX5_125 : (Cond.classLink RX5 125 RX2) ∈ bigW := rW_3 _ (List.mem_of_getElem? (i := 16) rfl)
theorem kw_instantiable_RX2_4 : (Cond.instantiable RX2 4) ∈ bigW := rW_3 _ (List.mem_of_getElem? (i := 17) rfl)
theorem kw_initialized_RX2 : (Cond.initialized RX2) ∈ bigW := rW_3 _ (List.mem_of_getElem? (i := 18) rfl)
theorem kw_classLink_RX5_158 : (Cond.classLink RX5 158 RX0) ∈ bigW := rW_3 _ (List.mem_of_getElem? (i := 19) rfl)
theorem kw_instantiable_RX0_4 : (Cond.instantiable RX0 4) ∈ bigW := rW_3 _ (List.mem_of_getElem? (i := 20) rfl)
theorem kw_initialized_RX0 : (Cond.initialized RX0) ∈ bigW := rW_3 _ (List.mem_of_getElem? (i := 21) rfl)
theorem kw_methodLink_RX5_155 : (Cond.methodLink RX5 155 yX2_init) ∈ bigW := rW_3 _ (List.mem_of_getElem? (i := 22) rfl)
theorem kw_instanceMethod_yX2_init : (Cond.instanceMethod yX2_init) ∈ bigW := rW_3 _ (List.mem_of_getElem? (i := 23) rfl)
theorem kw_code_yX2_init : (Cond.code yX2_init cX2_init 3 none) ∈ bigW := rW_4 _ (List.mem_of_getElem? (i := 0) rfl)
theorem kw_fieldLink_RX2_7 : (Cond.fieldLink RX2 7 "PlanCopies$Plain" "bits" "[J") ∈ bigW := rW_4 _ (List.mem_of_getElem? (i := 1) rfl)
theorem kw_methodLink_RX2_1 : (Cond.methodLink RX2 1 yX3_init) ∈ bigW := rW_4 _ (List.mem_of_getElem? (i := 2) rfl)
theorem kw_instanceMethod_yX3_init : (Cond.instanceMethod yX3_init) ∈ bigW := rW_4 _ (List.mem_of_getElem? (i := 3) rfl)
theorem kw_initialized_RX3 : (Cond.initialized RX3) ∈ bigW := rW_4 _ (List.mem_of_getElem? (i := 4) rfl)
theorem kw_code_yX3_init : (Cond.code yX3_init cX3_init 2 none) ∈ bigW := rW_4 _ (List.mem_of_getElem? (i := 5) rfl)
theorem kw_fieldLink_RX3_7 : (Cond.fieldLink RX3 7 "PlanCopies$Table" "kind" "I") ∈ bigW := rW_4 _ (List.mem_of_getElem? (i := 6) rfl)
theorem kw_instanceMethod_yX1_init : (Cond.instanceMethod yX1_init) ∈ bigW := rW_4 _ (List.mem_of_getElem? (i := 7) rfl)
theorem kw_initialized_RX1 : (Cond.initialized RX1) ∈ bigW := rW_4 _ (List.mem_of_getElem? (i := 8) rfl)
theorem kw_code_yX1_init : (Cond.code yX1_init cX1_init 1 none) ∈ bigW := rW_4 _ (List.mem_of_getElem? (i := 9) rfl)
theorem kw_methodLink_RX1_1 : (Cond.methodLink RX1 1 objectInit) ∈ bigW := rW_4 _ (List.mem_of_getElem? (i := 10) rfl)
theorem kw_methodLink_RX5_160 : (Cond.methodLink RX5 160 yX0_init) ∈ bigW := rW_4 _ (List.mem_of_getElem? (i := 11) rfl)
theorem kw_instanceMethod_yX0_init : (Cond.instanceMethod yX0_init) ∈ bigW := rW_4 _ (List.mem_of_getElem? (i := 12) rfl)
theorem kw_code_yX0_init : (Cond.code yX0_init cX0_init 3 none) ∈ bigW := rW_4 _ (List.mem_of_getElem? (i := 13) rfl)
theorem kw_classLink_RX0_7 : (Cond.classLink RX0 7 RX1) ∈ bigW := rW_4 _ (List.mem_of_getElem? (i := 14) rfl)
theorem kw_fieldLink_RX0_9 : (Cond.fieldLink RX0 9 "PlanCopies$Holder" "items" "[LPlanCopies$Item;") ∈ bigW := rW_4 _ (List.mem_of_getElem? (i := 15) rfl)
theorem kw_methodLink_RX0_1 : (Cond.methodLink RX0 1 yX3_init) ∈ bigW := rW_4 _ (List.mem_of_getElem? (i := 16) rfl)
theorem kw_methodLink_RL_17 : (Cond.methodLink RL 17 yX6_make) ∈ bigW := rW_4 _ (List.mem_of_getElem? (i := 17) rfl)
theorem kw_instanceMethod_yX6_make : (Cond.instanceMethod yX6_make) ∈ bigW := rW_4 _ (List.mem_of_getElem? (i := 18) rfl)
theorem kw_selects_RX6_yX6_make_yX6_make : (Cond.selects RX6 yX6_make yX6_make) ∈ bigW := rW_4 _ (List.mem_of_getElem? (i := 19) rfl)
theorem kw_code_yX6_make : (Cond.code yX6_make cX6_make 4 (some .int)) ∈ bigW := rW_4 _ (List.mem_of_getElem? (i := 20) rfl)
theorem kw_methodLink_RX6_53 : (Cond.methodLink RX6 53 yX6_isColumn) ∈ bigW := rW_4 _ (List.mem_of_getElem? (i := 21) rfl)
theorem kw_static_yX6_isColumn : (Cond.static yX6_isColumn) ∈ bigW := rW_4 _ (List.mem_of_getElem? (i := 22) rfl)
theorem kw_code_yX6_isColumn : (Cond.code yX6_isColumn cX6_isColumn 1 (some .boolean)) ∈ bigW := rW_4 _ (List.mem_of_getElem? (i := 23) rfl)
theorem kw_methodLink_RX6_57 : (Cond.methodLink RX6 57 yX6_in) ∈ bigW := rW_5 _ (List.mem_of_getElem? (i := 0) rfl)
theorem kw_static_yX6_in : (Cond.static yX6_in) ∈ bigW := rW_5 _ (List.mem_of_getElem? (i := 1) rfl)
theorem kw_code_yX6_in : (Cond.code yX6_in cX6_in 3 (some .boolean)) ∈ bigW := rW_5 _ (List.mem_of_getElem? (i := 2) rfl)
theorem kw_methodLink_RX6_61 : (Cond.methodLink RX6 61 yX6_isFull) ∈ bigW := rW_5 _ (List.mem_of_getElem? (i := 3) rfl)
theorem kw_instanceMethod_yX6_isFull : (Cond.instanceMethod yX6_isFull) ∈ bigW := rW_5 _ (List.mem_of_getElem? (i := 4) rfl)
theorem kw_selects_RX6_yX6_isFull_yX6_isFull : (Cond.selects RX6 yX6_isFull yX6_isFull) ∈ bigW := rW_5 _ (List.mem_of_getElem? (i := 5) rfl)
theorem kw_code_yX6_isFull : (Cond.code yX6_isFull cX6_isFull 1 (some .boolean)) ∈ bigW := rW_5 _ (List.mem_of_getElem? (i := 6) rfl)
theorem kw_fieldLink_RX6_50 : (Cond.fieldLink RX6 50 "PlanCopiesModel" "items" "I") ∈ bigW := rW_5 _ (List.mem_of_getElem? (i := 7) rfl)
theorem kw_methodLink_RX6_65 : (Cond.methodLink RX6 65 yX6_answer) ∈ bigW := rW_5 _ (List.mem_of_getElem? (i := 8) rfl)
theorem kw_static_yX6_answer : (Cond.static yX6_answer) ∈ bigW := rW_5 _ (List.mem_of_getElem? (i := 9) rfl)
theorem kw_code_yX6_answer : (Cond.code yX6_answer cX6_answer 1 (some .int)) ∈ bigW := rW_5 _ (List.mem_of_getElem? (i := 10) rfl)
theorem kw_methodLink_RX6_69 : (Cond.methodLink RX6 69 yX6_table) ∈ bigW := rW_5 _ (List.mem_of_getElem? (i := 11) rfl)
theorem kw_instanceMethod_yX6_table : (Cond.instanceMethod yX6_table) ∈ bigW := rW_5 _ (List.mem_of_getElem? (i := 12) rfl)
theorem kw_selects_RX6_yX6_table_yX6_table : (Cond.selects RX6 yX6_table yX6_table) ∈ bigW := rW_5 _ (List.mem_of_getElem? (i := 13) rfl)
theorem kw_code_yX6_table : (Cond.code yX6_table cX6_table 4 (some .int)) ∈ bigW := rW_5 _ (List.mem_of_getElem? (i := 14) rfl)
theorem kw_fieldLink_RX6_47 : (Cond.fieldLink RX6 47 "PlanCopiesModel" "tables" "I") ∈ bigW := rW_5 _ (List.mem_of_getElem? (i := 15) rfl)
theorem kw_methodLink_RL_18 : (Cond.methodLink RL 18 yX5_deep) ∈ bigW := rW_5 _ (List.mem_of_getElem? (i := 16) rfl)
theorem kw_instanceMethod_yX5_deep : (Cond.instanceMethod yX5_deep) ∈ bigW := rW_5 _ (List.mem_of_getElem? (i := 17) rfl)
theorem kw_selects_RX5_yX5_deep_yX5_deep : (Cond.selects RX5 yX5_deep yX5_deep) ∈ bigW := rW_5 _ (List.mem_of_getElem? (i := 18) rfl)
theorem kw_code_yX5_deep : (Cond.code yX5_deep cX5_deep 7 (some .int)) ∈ bigW := rW_5 _ (List.mem_of_getElem? (i := 19) rfl)
theorem kw_methodLink_RX5_42 : (Cond.methodLink RX5 42 yX5_isTooDeep) ∈ bigW := rW_5 _ (List.mem_of_getElem? (i := 20) rfl)
theorem kw_static_yX5_isTooDeep : (Cond.static yX5_isTooDeep) ∈ bigW := rW_5 _ (List.mem_of_getElem? (i := 21) rfl)
theorem kw_code_yX5_isTooDeep : (Cond.code yX5_isTooDeep cX5_isTooDeep 3 (some .boolean)) ∈ bigW := rW_5 _ (List.mem_of_getElem? (i := 22) rfl)
theorem kw_methodLink_RX5_152 : (Cond.methodLink RX5 152 Lib.Math.max.name) ∈ bigW := rW_5 _ (List.mem_of_getElem? (i := 23) rfl)
theorem kw_static_Math_max_name : (Cond.static Lib.Math.max.name) ∈ bigW := rW_6 _ (List.mem_of_getElem? (i := 0) rfl)
theorem kw_initialized_java_lang_Math : (Cond.initialized "java/lang/Math") ∈ bigW := rW_6 _ (List.mem_of_getElem? (i := 1) rfl)
theorem kw_code_Math_max_name : (Cond.code Lib.Math.max.name Lib.Math.max.code 2 (some .int)) ∈ bigW := rW_6 _ (List.mem_of_getElem? (i := 2) rfl)
theorem kw_methodLink_RX5_45 : (Cond.methodLink RX5 45 yX5_newDeepTable) ∈ bigW := rW_6 _ (List.mem_of_getElem? (i := 3) rfl)
theorem kw_instanceMethod_yX5_newDeepTable : (Cond.instanceMethod yX5_newDeepTable) ∈ bigW := rW_6 _ (List.mem_of_getElem? (i := 4) rfl)
theorem kw_selects_RX5_yX5_newDeepTable_yX5_newDeepTable : (Cond.selects RX5 yX5_newDeepTable yX5_newDeepTable) ∈ bigW := rW_6 _ (List.mem_of_getElem? (i := 5) rfl)
theorem kw_code_yX5_newDeepTable : (Cond.code yX5_newDeepTable cX5_newDeepTable 8 (some (.object "PlanCopies$Table"))) ∈ bigW := rW_6 _ (List.mem_of_getElem? (i := 6) rfl)
theorem kw_methodLink_RX5_112 : (Cond.methodLink RX5 112 yX5_kindOfRows) ∈ bigW := rW_6 _ (List.mem_of_getElem? (i := 7) rfl)
theorem kw_static_yX5_kindOfRows : (Cond.static yX5_kindOfRows) ∈ bigW := rW_6 _ (List.mem_of_getElem? (i := 8) rfl)
theorem kw_code_yX5_kindOfRows : (Cond.code yX5_kindOfRows cX5_kindOfRows 1 (some .int)) ∈ bigW := rW_6 _ (List.mem_of_getElem? (i := 9) rfl)
theorem kw_methodLink_RX5_87 : (Cond.methodLink RX5 87 yX5_place) ∈ bigW := rW_6 _ (List.mem_of_getElem? (i := 10) rfl)
theorem kw_static_yX5_place : (Cond.static yX5_place) ∈ bigW := rW_6 _ (List.mem_of_getElem? (i := 11) rfl)
theorem kw_code_yX5_place : (Cond.code yX5_place cX5_place 5 (some .int)) ∈ bigW := rW_6 _ (List.mem_of_getElem? (i := 12) rfl)
theorem kw_classLink_RX5_158_v2 : (Cond.classLink RX5 158 "PlanCopies$Holder") ∈ bigW := rW_6 _ (List.mem_of_getElem? (i := 13) rfl)
theorem kw_fieldLink_RX5_195 : (Cond.fieldLink RX5 195 "PlanCopies$Holder" "kind" "I") ∈ bigW := rW_6 _ (List.mem_of_getElem? (i := 14) rfl)
theorem kw_sameField_Holder_Table_kind_I : (Cond.sameField "PlanCopies$Holder" "PlanCopies$Table" "kind" "I") ∈ bigW := rW_6 _ (List.mem_of_getElem? (i := 15) rfl)
theorem kw_fieldLink_RX5_179 : (Cond.fieldLink RX5 179 "PlanCopies$Holder" "items" "[LPlanCopies$Item;") ∈ bigW := rW_6 _ (List.mem_of_getElem? (i := 16) rfl)
theorem kw_methodLink_RX5_108 : (Cond.methodLink RX5 108 yX5_faultAt) ∈ bigW := rW_6 _ (List.mem_of_getElem? (i := 17) rfl)
theorem kw_static_yX5_faultAt : (Cond.static yX5_faultAt) ∈ bigW := rW_6 _ (List.mem_of_getElem? (i := 18) rfl)
theorem kw_code_yX5_faultAt : (Cond.code yX5_faultAt cX5_faultAt 2 (some .int)) ∈ bigW := rW_6 _ (List.mem_of_getElem? (i := 19) rfl)
theorem kw_methodLink_RX5_64 : (Cond.methodLink RX5 64 ⟨"PlanCopies$Table", "count", "()I"⟩) ∈ bigW := rW_6 _ (List.mem_of_getElem? (i := 20) rfl)
theorem kw_sameMethod_Table_Table_count_I : (Cond.sameMethod "PlanCopies$Table" "PlanCopies$Table" "count" "()I") ∈ bigW := rW_6 _ (List.mem_of_getElem? (i := 21) rfl)
theorem kw_selects_RX0_Table_count_yX0_count : (Cond.selects RX0 ⟨"PlanCopies$Table", "count", "()I"⟩ yX0_count) ∈ bigW := rW_6 _ (List.mem_of_getElem? (i := 22) rfl)
theorem kw_instanceMethod_yX0_count : (Cond.instanceMethod yX0_count) ∈ bigW := rW_6 _ (List.mem_of_getElem? (i := 23) rfl)
theorem kw_code_yX0_count : (Cond.code yX0_count cX0_count 1 (some .int)) ∈ bigW := rW_7 _ (List.mem_of_getElem? (i := 0) rfl)
theorem kw_selects_RX2_Table_count_yX2_count : (Cond.selects RX2 ⟨"PlanCopies$Table", "count", "()I"⟩ yX2_count) ∈ bigW := rW_7 _ (List.mem_of_getElem? (i := 1) rfl)
theorem kw_instanceMethod_yX2_count : (Cond.instanceMethod yX2_count) ∈ bigW := rW_7 _ (List.mem_of_getElem? (i := 2) rfl)
theorem kw_code_yX2_count : (Cond.code yX2_count cX2_count 1 (some .int)) ∈ bigW := rW_7 _ (List.mem_of_getElem? (i := 3) rfl)
theorem kw_methodLink_RX5_196 : (Cond.methodLink RX5 196 yX5_canStand) ∈ bigW := rW_7 _ (List.mem_of_getElem? (i := 4) rfl)
theorem kw_static_yX5_canStand : (Cond.static yX5_canStand) ∈ bigW := rW_7 _ (List.mem_of_getElem? (i := 5) rfl)
theorem kw_code_yX5_canStand : (Cond.code yX5_canStand cX5_canStand 3 (some .boolean)) ∈ bigW := rW_7 _ (List.mem_of_getElem? (i := 6) rfl)
theorem kw_classLink_RX5_99 : (Cond.classLink RX5 99 "PlanCopies$Thing") ∈ bigW := rW_7 _ (List.mem_of_getElem? (i := 7) rfl)
theorem kw_fieldLink_RX5_101 : (Cond.fieldLink RX5 101 "PlanCopies$Thing" "marked" "Z") ∈ bigW := rW_7 _ (List.mem_of_getElem? (i := 8) rfl)
theorem kw_classLink_RX5_9_v2 : (Cond.classLink RX5 9 "PlanCopies$Table") ∈ bigW := rW_7 _ (List.mem_of_getElem? (i := 9) rfl)
theorem kw_methodLink_RX5_60 : (Cond.methodLink RX5 60 yX5_fits) ∈ bigW := rW_7 _ (List.mem_of_getElem? (i := 10) rfl)
theorem kw_static_yX5_fits : (Cond.static yX5_fits) ∈ bigW := rW_7 _ (List.mem_of_getElem? (i := 11) rfl)
theorem kw_code_yX5_fits : (Cond.code yX5_fits cX5_fits 2 (some .boolean)) ∈ bigW := rW_7 _ (List.mem_of_getElem? (i := 12) rfl)
theorem kw_fieldLink_RX5_57 : (Cond.fieldLink RX5 57 "PlanCopies$Table" "kind" "I") ∈ bigW := rW_7 _ (List.mem_of_getElem? (i := 13) rfl)
theorem kw_methodLink_RX5_161 : (Cond.methodLink RX5 161 yX5_placeNewRows) ∈ bigW := rW_7 _ (List.mem_of_getElem? (i := 14) rfl)
theorem kw_instanceMethod_yX5_placeNewRows : (Cond.instanceMethod yX5_placeNewRows) ∈ bigW := rW_7 _ (List.mem_of_getElem? (i := 15) rfl)
theorem kw_selects_RX5_yX5_placeNewRows_yX5_placeNewRows : (Cond.selects RX5 yX5_placeNewRows yX5_placeNewRows) ∈ bigW := rW_7 _ (List.mem_of_getElem? (i := 16) rfl)
theorem kw_code_yX5_placeNewRows : (Cond.code yX5_placeNewRows cX5_placeNewRows 4 none) ∈ bigW := rW_7 _ (List.mem_of_getElem? (i := 17) rfl)
theorem kw_methodLink_RL_22 : (Cond.methodLink RL 22 yX6_deep) ∈ bigW := rW_7 _ (List.mem_of_getElem? (i := 18) rfl)
theorem kw_instanceMethod_yX6_deep : (Cond.instanceMethod yX6_deep) ∈ bigW := rW_7 _ (List.mem_of_getElem? (i := 19) rfl)
theorem kw_selects_RX6_yX6_deep_yX6_deep : (Cond.selects RX6 yX6_deep yX6_deep) ∈ bigW := rW_7 _ (List.mem_of_getElem? (i := 20) rfl)
theorem kw_code_yX6_deep : (Cond.code yX6_deep cX6_deep 13 (some .int)) ∈ bigW := rW_7 _ (List.mem_of_getElem? (i := 21) rfl)
theorem kw_methodLink_RX6_73 : (Cond.methodLink RX6 73 yX6_rowKind) ∈ bigW := rW_7 _ (List.mem_of_getElem? (i := 22) rfl)
theorem kw_static_yX6_rowKind : (Cond.static yX6_rowKind) ∈ bigW := rW_7 _ (List.mem_of_getElem? (i := 23) rfl)
theorem kw_code_yX6_rowKind : (Cond.code yX6_rowKind cX6_rowKind 1 (some .int)) ∈ bigW := rW_8 _ (List.mem_of_getElem? (i := 0) rfl)
theorem kw_methodLink_RX6_76 : (Cond.methodLink RX6 76 yX6_put) ∈ bigW := rW_8 _ (List.mem_of_getElem? (i := 1) rfl)
theorem kw_instanceMethod_yX6_put : (Cond.instanceMethod yX6_put) ∈ bigW := rW_8 _ (List.mem_of_getElem? (i := 2) rfl)
theorem kw_selects_RX6_yX6_put_yX6_put : (Cond.selects RX6 yX6_put yX6_put) ∈ bigW := rW_8 _ (List.mem_of_getElem? (i := 3) rfl)
theorem kw_code_yX6_put : (Cond.code yX6_put cX6_put 5 none) ∈ bigW := rW_8 _ (List.mem_of_getElem? (i := 4) rfl)
theorem kw_methodLink_RL_23 : (Cond.methodLink RL 23 yX5_share) ∈ bigW := rW_8 _ (List.mem_of_getElem? (i := 5) rfl)
theorem kw_instanceMethod_yX5_share : (Cond.instanceMethod yX5_share) ∈ bigW := rW_8 _ (List.mem_of_getElem? (i := 6) rfl)
theorem kw_selects_RX5_yX5_share_yX5_share : (Cond.selects RX5 yX5_share yX5_share) ∈ bigW := rW_8 _ (List.mem_of_getElem? (i := 7) rfl)
theorem kw_code_yX5_share : (Cond.code yX5_share cX5_share 3 (some .int)) ∈ bigW := rW_8 _ (List.mem_of_getElem? (i := 8) rfl)
theorem kw_methodLink_RL_27 : (Cond.methodLink RL 27 yX6_share) ∈ bigW := rW_8 _ (List.mem_of_getElem? (i := 9) rfl)
theorem kw_instanceMethod_yX6_share : (Cond.instanceMethod yX6_share) ∈ bigW := rW_8 _ (List.mem_of_getElem? (i := 10) rfl)
theorem kw_selects_RX6_yX6_share_yX6_share : (Cond.selects RX6 yX6_share yX6_share) ∈ bigW := rW_8 _ (List.mem_of_getElem? (i := 11) rfl)
theorem kw_code_yX6_share : (Cond.code yX6_share cX6_share 3 (some .int)) ∈ bigW := rW_8 _ (List.mem_of_getElem? (i := 12) rfl)
theorem kw_methodLink_RL_28 : (Cond.methodLink RL 28 yX5_aside) ∈ bigW := rW_8 _ (List.mem_of_getElem? (i := 13) rfl)
theorem kw_instanceMethod_yX5_aside : (Cond.instanceMethod yX5_aside) ∈ bigW := rW_8 _ (List.mem_of_getElem? (i := 14) rfl)
theorem kw_selects_RX5_yX5_aside_yX5_aside : (Cond.selects RX5 yX5_aside yX5_aside) ∈ bigW := rW_8 _ (List.mem_of_getElem? (i := 15) rfl)
theorem kw_code_yX5_aside : (Cond.code yX5_aside cX5_aside 3 (some .int)) ∈ bigW := rW_8 _ (List.mem_of_getElem? (i := 16) rfl)
theorem kw_fieldLink_RX5_49 : (Cond.fieldLink RX5 49 "PlanCopies" "asidesMade" "I") ∈ bigW := rW_8 _ (List.mem_of_getElem? (i := 17) rfl)
theorem kw_methodLink_RX5_53 : (Cond.methodLink RX5 53 yX5_twinOf) ∈ bigW := rW_8 _ (List.mem_of_getElem? (i := 18) rfl)
theorem kw_instanceMethod_yX5_twinOf : (Cond.instanceMethod yX5_twinOf) ∈ bigW := rW_8 _ (List.mem_of_getElem? (i := 19) rfl)
theorem kw_selects_RX5_yX5_twinOf_yX5_twinOf : (Cond.selects RX5 yX5_twinOf yX5_twinOf) ∈ bigW := rW_8 _ (List.mem_of_getElem? (i := 20) rfl)
theorem kw_code_yX5_twinOf : (Cond.code yX5_twinOf cX5_twinOf 5 (some (.object "PlanCopies$Table"))) ∈ bigW := rW_8 _ (List.mem_of_getElem? (i := 21) rfl)
theorem kw_fieldLink_RX5_168 : (Cond.fieldLink RX5 168 "PlanCopies$Table" "twinMadeBy" "I") ∈ bigW := rW_8 _ (List.mem_of_getElem? (i := 22) rfl)
theorem kw_fieldLink_RX5_171 : (Cond.fieldLink RX5 171 "PlanCopies$Table" "twin" "LPlanCopies$Table;") ∈ bigW := rW_8 _ (List.mem_of_getElem? (i := 23) rfl)
theorem kw_methodLink_RX5_121 : (Cond.methodLink RX5 121 yX5_transfer) ∈ bigW := rW_9 _ (List.mem_of_getElem? (i := 0) rfl)
theorem kw_static_yX5_transfer : (Cond.static yX5_transfer) ∈ bigW := rW_9 _ (List.mem_of_getElem? (i := 1) rfl)
theorem kw_code_yX5_transfer : (Cond.code yX5_transfer cX5_transfer 7 (some .int)) ∈ bigW := rW_9 _ (List.mem_of_getElem? (i := 2) rfl)
theorem kw_classLink_RX5_125_v2 : (Cond.classLink RX5 125 "PlanCopies$Plain") ∈ bigW := rW_9 _ (List.mem_of_getElem? (i := 3) rfl)
theorem kw_fieldLink_RX5_183 : (Cond.fieldLink RX5 183 "PlanCopies$Plain" "bits" "[J") ∈ bigW := rW_9 _ (List.mem_of_getElem? (i := 4) rfl)
theorem kw_methodLink_RX5_204 : (Cond.methodLink RX5 204 arraycopyName) ∈ bigW := rW_9 _ (List.mem_of_getElem? (i := 5) rfl)
theorem kw_native_arraycopyName : (Cond.native arraycopyName) ∈ bigW := rW_9 _ (List.mem_of_getElem? (i := 6) rfl)
theorem kw_static_arraycopyName : (Cond.static arraycopyName) ∈ bigW := rW_9 _ (List.mem_of_getElem? (i := 7) rfl)
theorem kw_initialized_java_lang_System : (Cond.initialized "java/lang/System") ∈ bigW := rW_9 _ (List.mem_of_getElem? (i := 8) rfl)
theorem kw_methodLink_RX5_200 : (Cond.methodLink RX5 200 yX5_hasStretch) ∈ bigW := rW_9 _ (List.mem_of_getElem? (i := 9) rfl)
theorem kw_static_yX5_hasStretch : (Cond.static yX5_hasStretch) ∈ bigW := rW_9 _ (List.mem_of_getElem? (i := 10) rfl)
theorem kw_code_yX5_hasStretch : (Cond.code yX5_hasStretch cX5_hasStretch 3 (some .boolean)) ∈ bigW := rW_9 _ (List.mem_of_getElem? (i := 11) rfl)
theorem kw_methodLink_RX5_210 : (Cond.methodLink RX5 210 yX5_transferItems) ∈ bigW := rW_9 _ (List.mem_of_getElem? (i := 12) rfl)
theorem kw_static_yX5_transferItems : (Cond.static yX5_transferItems) ∈ bigW := rW_9 _ (List.mem_of_getElem? (i := 13) rfl)
theorem kw_code_yX5_transferItems : (Cond.code yX5_transferItems cX5_transferItems 9 (some .int)) ∈ bigW := rW_9 _ (List.mem_of_getElem? (i := 14) rfl)
theorem kw_methodLink_RX5_95 : (Cond.methodLink RX5 95 yX5_itemAt) ∈ bigW := rW_9 _ (List.mem_of_getElem? (i := 15) rfl)
theorem kw_static_yX5_itemAt : (Cond.static yX5_itemAt) ∈ bigW := rW_9 _ (List.mem_of_getElem? (i := 16) rfl)
theorem kw_code_yX5_itemAt : (Cond.code yX5_itemAt cX5_itemAt 3 (some (.object "PlanCopies$Item"))) ∈ bigW := rW_9 _ (List.mem_of_getElem? (i := 17) rfl)
theorem kw_methodLink_RX5_175 : (Cond.methodLink RX5 175 yX5_renewRows) ∈ bigW := rW_9 _ (List.mem_of_getElem? (i := 18) rfl)
theorem kw_instanceMethod_yX5_renewRows : (Cond.instanceMethod yX5_renewRows) ∈ bigW := rW_9 _ (List.mem_of_getElem? (i := 19) rfl)
theorem kw_selects_RX5_yX5_renewRows_yX5_renewRows : (Cond.selects RX5 yX5_renewRows yX5_renewRows) ∈ bigW := rW_9 _ (List.mem_of_getElem? (i := 20) rfl)
theorem kw_code_yX5_renewRows : (Cond.code yX5_renewRows cX5_renewRows 6 none) ∈ bigW := rW_9 _ (List.mem_of_getElem? (i := 21) rfl)
theorem kw_methodLink_RL_31 : (Cond.methodLink RL 31 yX6_aside) ∈ bigW := rW_9 _ (List.mem_of_getElem? (i := 22) rfl)
theorem kw_instanceMethod_yX6_aside : (Cond.instanceMethod yX6_aside) ∈ bigW := rW_9 _ (List.mem_of_getElem? (i := 23) rfl)
theorem kw_selects_RX6_yX6_aside_yX6_aside : (Cond.selects RX6 yX6_aside yX6_aside) ∈ bigW := rW_10 _ (List.mem_of_getElem? (i := 0) rfl)
theorem kw_code_yX6_aside : (Cond.code yX6_aside cX6_aside 6 (some .int)) ∈ bigW := rW_10 _ (List.mem_of_getElem? (i := 1) rfl)
theorem kw_methodLink_RX6_84 : (Cond.methodLink RX6 84 yX6_flat) ∈ bigW := rW_10 _ (List.mem_of_getElem? (i := 2) rfl)
theorem kw_instanceMethod_yX6_flat : (Cond.instanceMethod yX6_flat) ∈ bigW := rW_10 _ (List.mem_of_getElem? (i := 3) rfl)
theorem kw_selects_RX6_yX6_flat_yX6_flat : (Cond.selects RX6 yX6_flat yX6_flat) ∈ bigW := rW_10 _ (List.mem_of_getElem? (i := 4) rfl)
theorem kw_code_yX6_flat : (Cond.code yX6_flat cX6_flat 4 (some .int)) ∈ bigW := rW_10 _ (List.mem_of_getElem? (i := 5) rfl)
theorem kw_methodLink_RX6_80 : (Cond.methodLink RX6 80 yX6_at) ∈ bigW := rW_10 _ (List.mem_of_getElem? (i := 6) rfl)
theorem kw_instanceMethod_yX6_at : (Cond.instanceMethod yX6_at) ∈ bigW := rW_10 _ (List.mem_of_getElem? (i := 7) rfl)
theorem kw_selects_RX6_yX6_at_yX6_at : (Cond.selects RX6 yX6_at yX6_at) ∈ bigW := rW_10 _ (List.mem_of_getElem? (i := 8) rfl)
theorem kw_code_yX6_at : (Cond.code yX6_at cX6_at 3 (some .long)) ∈ bigW := rW_10 _ (List.mem_of_getElem? (i := 9) rfl)
theorem kw_methodLink_RX6_87 : (Cond.methodLink RX6 87 yX6_middle) ∈ bigW := rW_10 _ (List.mem_of_getElem? (i := 10) rfl)
theorem kw_instanceMethod_yX6_middle : (Cond.instanceMethod yX6_middle) ∈ bigW := rW_10 _ (List.mem_of_getElem? (i := 11) rfl)
theorem kw_selects_RX6_yX6_middle_yX6_middle : (Cond.selects RX6 yX6_middle yX6_middle) ∈ bigW := rW_10 _ (List.mem_of_getElem? (i := 12) rfl)
theorem kw_code_yX6_middle : (Cond.code yX6_middle cX6_middle 4 (some .int)) ∈ bigW := rW_10 _ (List.mem_of_getElem? (i := 13) rfl)
theorem kw_methodLink_RL_32 : (Cond.methodLink RL 32 yX5_drop) ∈ bigW := rW_10 _ (List.mem_of_getElem? (i := 14) rfl)
theorem kw_instanceMethod_yX5_drop : (Cond.instanceMethod yX5_drop) ∈ bigW := rW_10 _ (List.mem_of_getElem? (i := 15) rfl)
theorem kw_selects_RX5_yX5_drop_yX5_drop : (Cond.selects RX5 yX5_drop yX5_drop) ∈ bigW := rW_10 _ (List.mem_of_getElem? (i := 16) rfl)
theorem kw_code_yX5_drop : (Cond.code yX5_drop cX5_drop 3 (some .int)) ∈ bigW := rW_10 _ (List.mem_of_getElem? (i := 17) rfl)
theorem kw_methodLink_RL_36 : (Cond.methodLink RL 36 yX6_drop) ∈ bigW := rW_10 _ (List.mem_of_getElem? (i := 18) rfl)
theorem kw_instanceMethod_yX6_drop : (Cond.instanceMethod yX6_drop) ∈ bigW := rW_10 _ (List.mem_of_getElem? (i := 19) rfl)
theorem kw_selects_RX6_yX6_drop_yX6_drop : (Cond.selects RX6 yX6_drop yX6_drop) ∈ bigW := rW_10 _ (List.mem_of_getElem? (i := 20) rfl)
theorem kw_code_yX6_drop : (Cond.code yX6_drop cX6_drop 3 (some .int)) ∈ bigW := rW_10 _ (List.mem_of_getElem? (i := 21) rfl)
theorem kw_methodLink_RL_37 : (Cond.methodLink RL 37 yX5_kind) ∈ bigW := rW_10 _ (List.mem_of_getElem? (i := 22) rfl)
theorem kw_instanceMethod_yX5_kind : (Cond.instanceMethod yX5_kind) ∈ bigW := rW_10 _ (List.mem_of_getElem? (i := 23) rfl)
theorem kw_selects_RX5_yX5_kind_yX5_kind : (Cond.selects RX5 yX5_kind yX5_kind) ∈ bigW := rW_11 _ (List.mem_of_getElem? (i := 0) rfl)
theorem kw_code_yX5_kind : (Cond.code yX5_kind cX5_kind 3 (some .int)) ∈ bigW := rW_11 _ (List.mem_of_getElem? (i := 1) rfl)
theorem kw_methodLink_RL_40 : (Cond.methodLink RL 40 yX6_kind) ∈ bigW := rW_11 _ (List.mem_of_getElem? (i := 2) rfl)
theorem kw_instanceMethod_yX6_kind : (Cond.instanceMethod yX6_kind) ∈ bigW := rW_11 _ (List.mem_of_getElem? (i := 3) rfl)
theorem kw_selects_RX6_yX6_kind_yX6_kind : (Cond.selects RX6 yX6_kind yX6_kind) ∈ bigW := rW_11 _ (List.mem_of_getElem? (i := 4) rfl)
theorem kw_code_yX6_kind : (Cond.code yX6_kind cX6_kind 2 (some .int)) ∈ bigW := rW_11 _ (List.mem_of_getElem? (i := 5) rfl)
theorem kw_methodLink_RL_41 : (Cond.methodLink RL 41 yX5_length) ∈ bigW := rW_11 _ (List.mem_of_getElem? (i := 6) rfl)
theorem kw_instanceMethod_yX5_length : (Cond.instanceMethod yX5_length) ∈ bigW := rW_11 _ (List.mem_of_getElem? (i := 7) rfl)
theorem kw_selects_RX5_yX5_length_yX5_length : (Cond.selects RX5 yX5_length yX5_length) ∈ bigW := rW_11 _ (List.mem_of_getElem? (i := 8) rfl)
theorem kw_code_yX5_length : (Cond.code yX5_length cX5_length 4 (some .int)) ∈ bigW := rW_11 _ (List.mem_of_getElem? (i := 9) rfl)
theorem kw_methodLink_RL_44 : (Cond.methodLink RL 44 yX6_length) ∈ bigW := rW_11 _ (List.mem_of_getElem? (i := 10) rfl)
theorem kw_instanceMethod_yX6_length : (Cond.instanceMethod yX6_length) ∈ bigW := rW_11 _ (List.mem_of_getElem? (i := 11) rfl)
theorem kw_selects_RX6_yX6_length_yX6_length : (Cond.selects RX6 yX6_length yX6_length) ∈ bigW := rW_11 _ (List.mem_of_getElem? (i := 12) rfl)
theorem kw_code_yX6_length : (Cond.code yX6_length cX6_length 4 (some .int)) ∈ bigW := rW_11 _ (List.mem_of_getElem? (i := 13) rfl)
theorem kw_methodLink_RX6_90 : (Cond.methodLink RX6 90 yX6_isOf) ∈ bigW := rW_11 _ (List.mem_of_getElem? (i := 14) rfl)
theorem kw_instanceMethod_yX6_isOf : (Cond.instanceMethod yX6_isOf) ∈ bigW := rW_11 _ (List.mem_of_getElem? (i := 15) rfl)
theorem kw_selects_RX6_yX6_isOf_yX6_isOf : (Cond.selects RX6 yX6_isOf yX6_isOf) ∈ bigW := rW_11 _ (List.mem_of_getElem? (i := 16) rfl)
theorem kw_code_yX6_isOf : (Cond.code yX6_isOf cX6_isOf 3 (some .boolean)) ∈ bigW := rW_11 _ (List.mem_of_getElem? (i := 17) rfl)
theorem kw_methodLink_RL_45 : (Cond.methodLink RL 45 yX5_read) ∈ bigW := rW_11 _ (List.mem_of_getElem? (i := 18) rfl)
theorem kw_instanceMethod_yX5_read : (Cond.instanceMethod yX5_read) ∈ bigW := rW_11 _ (List.mem_of_getElem? (i := 19) rfl)
theorem kw_selects_RX5_yX5_read_yX5_read : (Cond.selects RX5 yX5_read yX5_read) ∈ bigW := rW_11 _ (List.mem_of_getElem? (i := 20) rfl)
theorem kw_code_yX5_read : (Cond.code yX5_read cX5_read 5 (some .long)) ∈ bigW := rW_11 _ (List.mem_of_getElem? (i := 21) rfl)
theorem kw_methodLink_RX5_68 : (Cond.methodLink RX5 68 yX5_noBits) ∈ bigW := rW_11 _ (List.mem_of_getElem? (i := 22) rfl)
theorem kw_instanceMethod_yX5_noBits : (Cond.instanceMethod yX5_noBits) ∈ bigW := rW_11 _ (List.mem_of_getElem? (i := 23) rfl)
theorem kw_selects_RX5_yX5_noBits_yX5_noBits : (Cond.selects RX5 yX5_noBits yX5_noBits) ∈ bigW := rW_12 _ (List.mem_of_getElem? (i := 0) rfl)
theorem kw_code_yX5_noBits : (Cond.code yX5_noBits cX5_noBits 2 (some .long)) ∈ bigW := rW_12 _ (List.mem_of_getElem? (i := 1) rfl)
theorem kw_methodLink_RX5_72 : (Cond.methodLink RX5 72 yX5_bitsAt) ∈ bigW := rW_12 _ (List.mem_of_getElem? (i := 2) rfl)
theorem kw_instanceMethod_yX5_bitsAt : (Cond.instanceMethod yX5_bitsAt) ∈ bigW := rW_12 _ (List.mem_of_getElem? (i := 3) rfl)
theorem kw_selects_RX5_yX5_bitsAt_yX5_bitsAt : (Cond.selects RX5 yX5_bitsAt yX5_bitsAt) ∈ bigW := rW_12 _ (List.mem_of_getElem? (i := 4) rfl)
theorem kw_code_yX5_bitsAt : (Cond.code yX5_bitsAt cX5_bitsAt 5 (some .long)) ∈ bigW := rW_12 _ (List.mem_of_getElem? (i := 5) rfl)
theorem kw_fieldLink_RX5_187 : (Cond.fieldLink RX5 187 "PlanCopies$Thing" "number" "I") ∈ bigW := rW_12 _ (List.mem_of_getElem? (i := 6) rfl)
theorem kw_methodLink_RL_49 : (Cond.methodLink RL 49 yX6_read) ∈ bigW := rW_12 _ (List.mem_of_getElem? (i := 7) rfl)
theorem kw_instanceMethod_yX6_read : (Cond.instanceMethod yX6_read) ∈ bigW := rW_12 _ (List.mem_of_getElem? (i := 8) rfl)
theorem kw_selects_RX6_yX6_read_yX6_read : (Cond.selects RX6 yX6_read yX6_read) ∈ bigW := rW_12 _ (List.mem_of_getElem? (i := 9) rfl)
theorem kw_code_yX6_read : (Cond.code yX6_read cX6_read 5 (some .long)) ∈ bigW := rW_12 _ (List.mem_of_getElem? (i := 10) rfl)
theorem kw_fieldLink_RX6_111 : (Cond.fieldLink RX6 111 "PlanCopiesModel" "fault" "I") ∈ bigW := rW_12 _ (List.mem_of_getElem? (i := 11) rfl)
theorem kw_methodLink_RX6_114 : (Cond.methodLink RX6 114 yX6_itemOf) ∈ bigW := rW_12 _ (List.mem_of_getElem? (i := 12) rfl)
theorem kw_instanceMethod_yX6_itemOf : (Cond.instanceMethod yX6_itemOf) ∈ bigW := rW_12 _ (List.mem_of_getElem? (i := 13) rfl)
theorem kw_selects_RX6_yX6_itemOf_yX6_itemOf : (Cond.selects RX6 yX6_itemOf yX6_itemOf) ∈ bigW := rW_12 _ (List.mem_of_getElem? (i := 14) rfl)
theorem kw_code_yX6_itemOf : (Cond.code yX6_itemOf cX6_itemOf 6 (some .long)) ∈ bigW := rW_12 _ (List.mem_of_getElem? (i := 15) rfl)
theorem kw_methodLink_RX6_108 : (Cond.methodLink RX6 108 yX6_looked) ∈ bigW := rW_12 _ (List.mem_of_getElem? (i := 16) rfl)
theorem kw_instanceMethod_yX6_looked : (Cond.instanceMethod yX6_looked) ∈ bigW := rW_12 _ (List.mem_of_getElem? (i := 17) rfl)
theorem kw_selects_RX6_yX6_looked_yX6_looked : (Cond.selects RX6 yX6_looked yX6_looked) ∈ bigW := rW_12 _ (List.mem_of_getElem? (i := 18) rfl)
theorem kw_code_yX6_looked : (Cond.code yX6_looked cX6_looked 3 (some .int)) ∈ bigW := rW_12 _ (List.mem_of_getElem? (i := 19) rfl)
theorem kw_methodLink_RL_52 : (Cond.methodLink RL 52 yX5_write) ∈ bigW := rW_12 _ (List.mem_of_getElem? (i := 20) rfl)
theorem kw_instanceMethod_yX5_write : (Cond.instanceMethod yX5_write) ∈ bigW := rW_12 _ (List.mem_of_getElem? (i := 21) rfl)
theorem kw_selects_RX5_yX5_write_yX5_write : (Cond.selects RX5 yX5_write yX5_write) ∈ bigW := rW_12 _ (List.mem_of_getElem? (i := 22) rfl)
theorem kw_code_yX5_write : (Cond.code yX5_write cX5_write 7 (some .int)) ∈ bigW := rW_12 _ (List.mem_of_getElem? (i := 23) rfl)
theorem kw_methodLink_RX5_76 : (Cond.methodLink RX5 76 yX5_putBits) ∈ bigW := rW_13 _ (List.mem_of_getElem? (i := 0) rfl)
theorem kw_static_yX5_putBits : (Cond.static yX5_putBits) ∈ bigW := rW_13 _ (List.mem_of_getElem? (i := 1) rfl)
theorem kw_code_yX5_putBits : (Cond.code yX5_putBits cX5_putBits 6 (some .int)) ∈ bigW := rW_13 _ (List.mem_of_getElem? (i := 2) rfl)
theorem kw_fieldLink_RX5_190 : (Cond.fieldLink RX5 190 "PlanCopies$Plain" "kind" "I") ∈ bigW := rW_13 _ (List.mem_of_getElem? (i := 3) rfl)
theorem kw_sameField_Plain_Table_kind_I : (Cond.sameField "PlanCopies$Plain" "PlanCopies$Table" "kind" "I") ∈ bigW := rW_13 _ (List.mem_of_getElem? (i := 4) rfl)
theorem kw_methodLink_RX5_191 : (Cond.methodLink RX5 191 yX5_keptBits) ∈ bigW := rW_13 _ (List.mem_of_getElem? (i := 5) rfl)
theorem kw_static_yX5_keptBits : (Cond.static yX5_keptBits) ∈ bigW := rW_13 _ (List.mem_of_getElem? (i := 6) rfl)
theorem kw_code_yX5_keptBits : (Cond.code yX5_keptBits cX5_keptBits 3 (some .long)) ∈ bigW := rW_13 _ (List.mem_of_getElem? (i := 7) rfl)
theorem kw_methodLink_RX5_213 : (Cond.methodLink RX5 213 yX5_keptFloat) ∈ bigW := rW_13 _ (List.mem_of_getElem? (i := 8) rfl)
theorem kw_static_yX5_keptFloat : (Cond.static yX5_keptFloat) ∈ bigW := rW_13 _ (List.mem_of_getElem? (i := 9) rfl)
theorem kw_code_yX5_keptFloat : (Cond.code yX5_keptFloat cX5_keptFloat 1 (some .int)) ∈ bigW := rW_13 _ (List.mem_of_getElem? (i := 10) rfl)
theorem kw_constant_RX5_222 : (Cond.constant RX5 222 (2147483647)) ∈ bigW := rW_13 _ (List.mem_of_getElem? (i := 11) rfl)
theorem kw_constant_RX5_223 : (Cond.constant RX5 223 (2139095040)) ∈ bigW := rW_13 _ (List.mem_of_getElem? (i := 12) rfl)
theorem kw_constant_RX5_224 : (Cond.constant RX5 224 (2143289344)) ∈ bigW := rW_13 _ (List.mem_of_getElem? (i := 13) rfl)
theorem kw_methodLink_RX5_216 : (Cond.methodLink RX5 216 yX5_keptDouble) ∈ bigW := rW_13 _ (List.mem_of_getElem? (i := 14) rfl)
theorem kw_static_yX5_keptDouble : (Cond.static yX5_keptDouble) ∈ bigW := rW_13 _ (List.mem_of_getElem? (i := 15) rfl)
theorem kw_code_yX5_keptDouble : (Cond.code yX5_keptDouble cX5_keptDouble 2 (some .long)) ∈ bigW := rW_13 _ (List.mem_of_getElem? (i := 16) rfl)
theorem kw_constantLong_RX5_227 : (Cond.constantLong RX5 227 (9223372036854775807)) ∈ bigW := rW_13 _ (List.mem_of_getElem? (i := 17) rfl)
theorem kw_constantLong_RX5_229 : (Cond.constantLong RX5 229 (9218868437227405312)) ∈ bigW := rW_13 _ (List.mem_of_getElem? (i := 18) rfl)
theorem kw_constantLong_RX5_231 : (Cond.constantLong RX5 231 (9221120237041090560)) ∈ bigW := rW_13 _ (List.mem_of_getElem? (i := 19) rfl)
theorem kw_methodLink_RL_56 : (Cond.methodLink RL 56 yX6_write) ∈ bigW := rW_13 _ (List.mem_of_getElem? (i := 20) rfl)
theorem kw_instanceMethod_yX6_write : (Cond.instanceMethod yX6_write) ∈ bigW := rW_13 _ (List.mem_of_getElem? (i := 21) rfl)
theorem kw_selects_RX6_yX6_write_yX6_write : (Cond.selects RX6 yX6_write yX6_write) ∈ bigW := rW_13 _ (List.mem_of_getElem? (i := 22) rfl)
theorem kw_code_yX6_write : (Cond.code yX6_write cX6_write 8 (some .int)) ∈ bigW := rW_13 _ (List.mem_of_getElem? (i := 23) rfl)
theorem kw_methodLink_RX6_118 : (Cond.methodLink RX6 118 yX6_cut) ∈ bigW := rW_14 _ (List.mem_of_getElem? (i := 0) rfl)
theorem kw_static_yX6_cut : (Cond.static yX6_cut) ∈ bigW := rW_14 _ (List.mem_of_getElem? (i := 1) rfl)
theorem kw_code_yX6_cut : (Cond.code yX6_cut cX6_cut 3 (some .long)) ∈ bigW := rW_14 _ (List.mem_of_getElem? (i := 2) rfl)
theorem kw_constantLong_RX6_94 : (Cond.constantLong RX6 94 (65535)) ∈ bigW := rW_14 _ (List.mem_of_getElem? (i := 3) rfl)
theorem kw_constantLong_RX6_96 : (Cond.constantLong RX6 96 (2147483647)) ∈ bigW := rW_14 _ (List.mem_of_getElem? (i := 4) rfl)
theorem kw_constantLong_RX6_98 : (Cond.constantLong RX6 98 (2139095040)) ∈ bigW := rW_14 _ (List.mem_of_getElem? (i := 5) rfl)
theorem kw_constantLong_RX6_100 : (Cond.constantLong RX6 100 (2143289344)) ∈ bigW := rW_14 _ (List.mem_of_getElem? (i := 6) rfl)
theorem kw_constantLong_RX6_102 : (Cond.constantLong RX6 102 (9223372036854775807)) ∈ bigW := rW_14 _ (List.mem_of_getElem? (i := 7) rfl)
theorem kw_constantLong_RX6_104 : (Cond.constantLong RX6 104 (9218868437227405312)) ∈ bigW := rW_14 _ (List.mem_of_getElem? (i := 8) rfl)
theorem kw_constantLong_RX6_106 : (Cond.constantLong RX6 106 (9221120237041090560)) ∈ bigW := rW_14 _ (List.mem_of_getElem? (i := 9) rfl)
theorem kw_methodLink_RL_57 : (Cond.methodLink RL 57 yX5_thing) ∈ bigW := rW_14 _ (List.mem_of_getElem? (i := 10) rfl)
theorem kw_instanceMethod_yX5_thing : (Cond.instanceMethod yX5_thing) ∈ bigW := rW_14 _ (List.mem_of_getElem? (i := 11) rfl)
theorem kw_selects_RX5_yX5_thing_yX5_thing : (Cond.selects RX5 yX5_thing yX5_thing) ∈ bigW := rW_14 _ (List.mem_of_getElem? (i := 12) rfl)
theorem kw_code_yX5_thing : (Cond.code yX5_thing cX5_thing 7 (some .int)) ∈ bigW := rW_14 _ (List.mem_of_getElem? (i := 13) rfl)
theorem kw_fieldLink_RX5_80 : (Cond.fieldLink RX5 80 "PlanCopies" "thingsMade" "I") ∈ bigW := rW_14 _ (List.mem_of_getElem? (i := 14) rfl)
theorem kw_methodLink_RX5_83 : (Cond.methodLink RX5 83 yX5_newThing) ∈ bigW := rW_14 _ (List.mem_of_getElem? (i := 15) rfl)
theorem kw_instanceMethod_yX5_newThing : (Cond.instanceMethod yX5_newThing) ∈ bigW := rW_14 _ (List.mem_of_getElem? (i := 16) rfl)
theorem kw_selects_RX5_yX5_newThing_yX5_newThing : (Cond.selects RX5 yX5_newThing yX5_newThing) ∈ bigW := rW_14 _ (List.mem_of_getElem? (i := 17) rfl)
theorem kw_code_yX5_newThing : (Cond.code yX5_newThing cX5_newThing 3 (some (.object "PlanCopies$Thing"))) ∈ bigW := rW_14 _ (List.mem_of_getElem? (i := 18) rfl)
theorem kw_classLink_RX5_99_v2 : (Cond.classLink RX5 99 RX4) ∈ bigW := rW_14 _ (List.mem_of_getElem? (i := 19) rfl)
theorem kw_instantiable_RX4_2 : (Cond.instantiable RX4 2) ∈ bigW := rW_14 _ (List.mem_of_getElem? (i := 20) rfl)
theorem kw_initialized_RX4 : (Cond.initialized RX4) ∈ bigW := rW_14 _ (List.mem_of_getElem? (i := 21) rfl)
theorem kw_methodLink_RX5_165 : (Cond.methodLink RX5 165 yX4_init) ∈ bigW := rW_14 _ (List.mem_of_getElem? (i := 22) rfl)
theorem kw_instanceMethod_yX4_init : (Cond.instanceMethod yX4_init) ∈ bigW := rW_14 _ (List.mem_of_getElem? (i := 23) rfl)
theorem kw_code_yX4_init : (Cond.code yX4_init cX4_init 3 none) ∈ bigW := rW_15 _ (List.mem_of_getElem? (i := 0) rfl)
theorem kw_fieldLink_RX4_7 : (Cond.fieldLink RX4 7 "PlanCopies$Thing" "number" "I") ∈ bigW := rW_15 _ (List.mem_of_getElem? (i := 1) rfl)
theorem kw_fieldLink_RX4_13 : (Cond.fieldLink RX4 13 "PlanCopies$Thing" "marked" "Z") ∈ bigW := rW_15 _ (List.mem_of_getElem? (i := 2) rfl)
theorem kw_methodLink_RL_61 : (Cond.methodLink RL 61 yX6_thing) ∈ bigW := rW_15 _ (List.mem_of_getElem? (i := 3) rfl)
theorem kw_instanceMethod_yX6_thing : (Cond.instanceMethod yX6_thing) ∈ bigW := rW_15 _ (List.mem_of_getElem? (i := 4) rfl)
theorem kw_selects_RX6_yX6_thing_yX6_thing : (Cond.selects RX6 yX6_thing yX6_thing) ∈ bigW := rW_15 _ (List.mem_of_getElem? (i := 5) rfl)
theorem kw_code_yX6_thing : (Cond.code yX6_thing cX6_thing 7 (some .int)) ∈ bigW := rW_15 _ (List.mem_of_getElem? (i := 6) rfl)
theorem kw_fieldLink_RX6_122 : (Cond.fieldLink RX6 122 "PlanCopiesModel" "things" "I") ∈ bigW := rW_15 _ (List.mem_of_getElem? (i := 7) rfl)
theorem kw_methodLink_RL_62 : (Cond.methodLink RL 62 yX5_marked) ∈ bigW := rW_15 _ (List.mem_of_getElem? (i := 8) rfl)
theorem kw_instanceMethod_yX5_marked : (Cond.instanceMethod yX5_marked) ∈ bigW := rW_15 _ (List.mem_of_getElem? (i := 9) rfl)
theorem kw_selects_RX5_yX5_marked_yX5_marked : (Cond.selects RX5 yX5_marked yX5_marked) ∈ bigW := rW_15 _ (List.mem_of_getElem? (i := 10) rfl)
theorem kw_code_yX5_marked : (Cond.code yX5_marked cX5_marked 7 (some .int)) ∈ bigW := rW_15 _ (List.mem_of_getElem? (i := 11) rfl)
theorem kw_methodLink_RX5_91 : (Cond.methodLink RX5 91 yX5_faultTaken) ∈ bigW := rW_15 _ (List.mem_of_getElem? (i := 12) rfl)
theorem kw_static_yX5_faultTaken : (Cond.static yX5_faultTaken) ∈ bigW := rW_15 _ (List.mem_of_getElem? (i := 13) rfl)
theorem kw_code_yX5_faultTaken : (Cond.code yX5_faultTaken cX5_faultTaken 3 (some .int)) ∈ bigW := rW_15 _ (List.mem_of_getElem? (i := 14) rfl)
theorem kw_methodLink_RL_65 : (Cond.methodLink RL 65 yX6_marked) ∈ bigW := rW_15 _ (List.mem_of_getElem? (i := 15) rfl)
theorem kw_instanceMethod_yX6_marked : (Cond.instanceMethod yX6_marked) ∈ bigW := rW_15 _ (List.mem_of_getElem? (i := 16) rfl)
theorem kw_selects_RX6_yX6_marked_yX6_marked : (Cond.selects RX6 yX6_marked yX6_marked) ∈ bigW := rW_15 _ (List.mem_of_getElem? (i := 17) rfl)
theorem kw_code_yX6_marked : (Cond.code yX6_marked cX6_marked 5 (some .int)) ∈ bigW := rW_15 _ (List.mem_of_getElem? (i := 18) rfl)
theorem kw_methodLink_RL_66 : (Cond.methodLink RL 66 yX5_cell) ∈ bigW := rW_15 _ (List.mem_of_getElem? (i := 19) rfl)
theorem kw_instanceMethod_yX5_cell : (Cond.instanceMethod yX5_cell) ∈ bigW := rW_15 _ (List.mem_of_getElem? (i := 20) rfl)
theorem kw_selects_RX5_yX5_cell_yX5_cell : (Cond.selects RX5 yX5_cell yX5_cell) ∈ bigW := rW_15 _ (List.mem_of_getElem? (i := 21) rfl)
theorem kw_code_yX5_cell : (Cond.code yX5_cell cX5_cell 7 (some .long)) ∈ bigW := rW_15 _ (List.mem_of_getElem? (i := 22) rfl)
theorem kw_methodLink_RX5_105 : (Cond.methodLink RX5 105 yX5_rowAt) ∈ bigW := rW_15 _ (List.mem_of_getElem? (i := 23) rfl)
theorem kw_static_yX5_rowAt : (Cond.static yX5_rowAt) ∈ bigW := rW_16 _ (List.mem_of_getElem? (i := 0) rfl)
theorem kw_code_yX5_rowAt : (Cond.code yX5_rowAt cX5_rowAt 4 (some (.object "PlanCopies$Table"))) ∈ bigW := rW_16 _ (List.mem_of_getElem? (i := 1) rfl)
theorem kw_methodLink_RL_70 : (Cond.methodLink RL 70 yX6_cell) ∈ bigW := rW_16 _ (List.mem_of_getElem? (i := 2) rfl)
theorem kw_instanceMethod_yX6_cell : (Cond.instanceMethod yX6_cell) ∈ bigW := rW_16 _ (List.mem_of_getElem? (i := 3) rfl)
theorem kw_selects_RX6_yX6_cell_yX6_cell : (Cond.selects RX6 yX6_cell yX6_cell) ∈ bigW := rW_16 _ (List.mem_of_getElem? (i := 4) rfl)
theorem kw_code_yX6_cell : (Cond.code yX6_cell cX6_cell 7 (some .long)) ∈ bigW := rW_16 _ (List.mem_of_getElem? (i := 5) rfl)
theorem kw_methodLink_RL_71 : (Cond.methodLink RL 71 yX5_set) ∈ bigW := rW_16 _ (List.mem_of_getElem? (i := 6) rfl)
theorem kw_instanceMethod_yX5_set : (Cond.instanceMethod yX5_set) ∈ bigW := rW_16 _ (List.mem_of_getElem? (i := 7) rfl)
theorem kw_selects_RX5_yX5_set_yX5_set : (Cond.selects RX5 yX5_set yX5_set) ∈ bigW := rW_16 _ (List.mem_of_getElem? (i := 8) rfl)
theorem kw_code_yX5_set : (Cond.code yX5_set cX5_set 9 (some .int)) ∈ bigW := rW_16 _ (List.mem_of_getElem? (i := 9) rfl)
theorem kw_methodLink_RL_75 : (Cond.methodLink RL 75 yX6_set) ∈ bigW := rW_16 _ (List.mem_of_getElem? (i := 10) rfl)
theorem kw_instanceMethod_yX6_set : (Cond.instanceMethod yX6_set) ∈ bigW := rW_16 _ (List.mem_of_getElem? (i := 11) rfl)
theorem kw_selects_RX6_yX6_set_yX6_set : (Cond.selects RX6 yX6_set yX6_set) ∈ bigW := rW_16 _ (List.mem_of_getElem? (i := 12) rfl)
theorem kw_code_yX6_set : (Cond.code yX6_set cX6_set 10 (some .int)) ∈ bigW := rW_16 _ (List.mem_of_getElem? (i := 13) rfl)
theorem kw_methodLink_RL_76 : (Cond.methodLink RL 76 yX5_deepest) ∈ bigW := rW_16 _ (List.mem_of_getElem? (i := 14) rfl)
theorem kw_instanceMethod_yX5_deepest : (Cond.instanceMethod yX5_deepest) ∈ bigW := rW_16 _ (List.mem_of_getElem? (i := 15) rfl)
theorem kw_selects_RX5_yX5_deepest_yX5_deepest : (Cond.selects RX5 yX5_deepest yX5_deepest) ∈ bigW := rW_16 _ (List.mem_of_getElem? (i := 16) rfl)
theorem kw_code_yX5_deepest : (Cond.code yX5_deepest cX5_deepest 8 (some .long)) ∈ bigW := rW_16 _ (List.mem_of_getElem? (i := 17) rfl)
theorem kw_methodLink_RL_79 : (Cond.methodLink RL 79 yX6_deepest) ∈ bigW := rW_16 _ (List.mem_of_getElem? (i := 18) rfl)
theorem kw_instanceMethod_yX6_deepest : (Cond.instanceMethod yX6_deepest) ∈ bigW := rW_16 _ (List.mem_of_getElem? (i := 19) rfl)
theorem kw_selects_RX6_yX6_deepest_yX6_deepest : (Cond.selects RX6 yX6_deepest yX6_deepest) ∈ bigW := rW_16 _ (List.mem_of_getElem? (i := 20) rfl)
theorem kw_code_yX6_deepest : (Cond.code yX6_deepest cX6_deepest 8 (some .long)) ∈ bigW := rW_16 _ (List.mem_of_getElem? (i := 21) rfl)
theorem kw_methodLink_RL_80 : (Cond.methodLink RL 80 yX5_row) ∈ bigW := rW_16 _ (List.mem_of_getElem? (i := 22) rfl)
theorem kw_instanceMethod_yX5_row : (Cond.instanceMethod yX5_row) ∈ bigW := rW_16 _ (List.mem_of_getElem? (i := 23) rfl)
theorem kw_selects_RX5_yX5_row_yX5_row : (Cond.selects RX5 yX5_row yX5_row) ∈ bigW := rW_17 _ (List.mem_of_getElem? (i := 0) rfl)
theorem kw_code_yX5_row : (Cond.code yX5_row cX5_row 7 (some .int)) ∈ bigW := rW_17 _ (List.mem_of_getElem? (i := 1) rfl)
theorem kw_methodLink_RL_83 : (Cond.methodLink RL 83 yX6_row) ∈ bigW := rW_17 _ (List.mem_of_getElem? (i := 2) rfl)
theorem kw_instanceMethod_yX6_row : (Cond.instanceMethod yX6_row) ∈ bigW := rW_17 _ (List.mem_of_getElem? (i := 3) rfl)
theorem kw_selects_RX6_yX6_row_yX6_row : (Cond.selects RX6 yX6_row yX6_row) ∈ bigW := rW_17 _ (List.mem_of_getElem? (i := 4) rfl)
theorem kw_code_yX6_row : (Cond.code yX6_row cX6_row 7 (some .int)) ∈ bigW := rW_17 _ (List.mem_of_getElem? (i := 5) rfl)
theorem kw_methodLink_RL_84 : (Cond.methodLink RL 84 yX5_take) ∈ bigW := rW_17 _ (List.mem_of_getElem? (i := 6) rfl)
theorem kw_instanceMethod_yX5_take : (Cond.instanceMethod yX5_take) ∈ bigW := rW_17 _ (List.mem_of_getElem? (i := 7) rfl)
theorem kw_selects_RX5_yX5_take_yX5_take : (Cond.selects RX5 yX5_take yX5_take) ∈ bigW := rW_17 _ (List.mem_of_getElem? (i := 8) rfl)
theorem kw_code_yX5_take : (Cond.code yX5_take cX5_take 7 (some .int)) ∈ bigW := rW_17 _ (List.mem_of_getElem? (i := 9) rfl)
theorem kw_methodLink_RL_87 : (Cond.methodLink RL 87 yX6_take) ∈ bigW := rW_17 _ (List.mem_of_getElem? (i := 10) rfl)
theorem kw_instanceMethod_yX6_take : (Cond.instanceMethod yX6_take) ∈ bigW := rW_17 _ (List.mem_of_getElem? (i := 11) rfl)
theorem kw_selects_RX6_yX6_take_yX6_take : (Cond.selects RX6 yX6_take yX6_take) ∈ bigW := rW_17 _ (List.mem_of_getElem? (i := 12) rfl)
theorem kw_code_yX6_take : (Cond.code yX6_take cX6_take 7 (some .int)) ∈ bigW := rW_17 _ (List.mem_of_getElem? (i := 13) rfl)
theorem kw_methodLink_RL_88 : (Cond.methodLink RL 88 yX5_grow) ∈ bigW := rW_17 _ (List.mem_of_getElem? (i := 14) rfl)
theorem kw_instanceMethod_yX5_grow : (Cond.instanceMethod yX5_grow) ∈ bigW := rW_17 _ (List.mem_of_getElem? (i := 15) rfl)
theorem kw_selects_RX5_yX5_grow_yX5_grow : (Cond.selects RX5 yX5_grow yX5_grow) ∈ bigW := rW_17 _ (List.mem_of_getElem? (i := 16) rfl)
theorem kw_code_yX5_grow : (Cond.code yX5_grow cX5_grow 5 (some .int)) ∈ bigW := rW_17 _ (List.mem_of_getElem? (i := 17) rfl)
theorem kw_methodLink_RX5_115 : (Cond.methodLink RX5 115 Lib.Math.min.name) ∈ bigW := rW_17 _ (List.mem_of_getElem? (i := 18) rfl)
theorem kw_static_Math_min_name : (Cond.static Lib.Math.min.name) ∈ bigW := rW_17 _ (List.mem_of_getElem? (i := 19) rfl)
theorem kw_code_Math_min_name : (Cond.code Lib.Math.min.name Lib.Math.min.code 2 (some .int)) ∈ bigW := rW_17 _ (List.mem_of_getElem? (i := 20) rfl)
theorem kw_methodLink_RL_91 : (Cond.methodLink RL 91 yX6_grow) ∈ bigW := rW_17 _ (List.mem_of_getElem? (i := 21) rfl)
theorem kw_instanceMethod_yX6_grow : (Cond.instanceMethod yX6_grow) ∈ bigW := rW_17 _ (List.mem_of_getElem? (i := 22) rfl)
theorem kw_selects_RX6_yX6_grow_yX6_grow : (Cond.selects RX6 yX6_grow yX6_grow) ∈ bigW := rW_17 _ (List.mem_of_getElem? (i := 23) rfl)
theorem kw_code_yX6_grow : (Cond.code yX6_grow cX6_grow 6 (some .int)) ∈ bigW := rW_18 _ (List.mem_of_getElem? (i := 0) rfl)
theorem kw_methodLink_RL_92 : (Cond.methodLink RL 92 yX5_copy) ∈ bigW := rW_18 _ (List.mem_of_getElem? (i := 1) rfl)
theorem kw_instanceMethod_yX5_copy : (Cond.instanceMethod yX5_copy) ∈ bigW := rW_18 _ (List.mem_of_getElem? (i := 2) rfl)
theorem kw_selects_RX5_yX5_copy_yX5_copy : (Cond.selects RX5 yX5_copy yX5_copy) ∈ bigW := rW_18 _ (List.mem_of_getElem? (i := 3) rfl)
theorem kw_code_yX5_copy : (Cond.code yX5_copy cX5_copy 8 (some .int)) ∈ bigW := rW_18 _ (List.mem_of_getElem? (i := 4) rfl)
theorem kw_methodLink_RL_95 : (Cond.methodLink RL 95 yX6_copy) ∈ bigW := rW_18 _ (List.mem_of_getElem? (i := 5) rfl)
theorem kw_instanceMethod_yX6_copy : (Cond.instanceMethod yX6_copy) ∈ bigW := rW_18 _ (List.mem_of_getElem? (i := 6) rfl)
theorem kw_selects_RX6_yX6_copy_yX6_copy : (Cond.selects RX6 yX6_copy yX6_copy) ∈ bigW := rW_18 _ (List.mem_of_getElem? (i := 7) rfl)
theorem kw_code_yX6_copy : (Cond.code yX6_copy cX6_copy 9 (some .int)) ∈ bigW := rW_18 _ (List.mem_of_getElem? (i := 8) rfl)
theorem kw_methodLink_RX6_125 : (Cond.methodLink RX6 125 yX6_areUnlike) ∈ bigW := rW_18 _ (List.mem_of_getElem? (i := 9) rfl)
theorem kw_instanceMethod_yX6_areUnlike : (Cond.instanceMethod yX6_areUnlike) ∈ bigW := rW_18 _ (List.mem_of_getElem? (i := 10) rfl)
theorem kw_selects_RX6_yX6_areUnlike_yX6_areUnlike : (Cond.selects RX6 yX6_areUnlike yX6_areUnlike) ∈ bigW := rW_18 _ (List.mem_of_getElem? (i := 11) rfl)
theorem kw_code_yX6_areUnlike : (Cond.code yX6_areUnlike cX6_areUnlike 3 (some .boolean)) ∈ bigW := rW_18 _ (List.mem_of_getElem? (i := 12) rfl)
theorem kw_methodLink_RX6_128 : (Cond.methodLink RX6 128 yX6_canStand) ∈ bigW := rW_18 _ (List.mem_of_getElem? (i := 13) rfl)
theorem kw_instanceMethod_yX6_canStand : (Cond.instanceMethod yX6_canStand) ∈ bigW := rW_18 _ (List.mem_of_getElem? (i := 14) rfl)
theorem kw_selects_RX6_yX6_canStand_yX6_canStand : (Cond.selects RX6 yX6_canStand yX6_canStand) ∈ bigW := rW_18 _ (List.mem_of_getElem? (i := 15) rfl)
theorem kw_code_yX6_canStand : (Cond.code yX6_canStand cX6_canStand 6 (some .boolean)) ∈ bigW := rW_18 _ (List.mem_of_getElem? (i := 16) rfl)
theorem kw_methodLink_RL_96 : (Cond.methodLink RL 96 yX5_fill) ∈ bigW := rW_18 _ (List.mem_of_getElem? (i := 17) rfl)
theorem kw_instanceMethod_yX5_fill : (Cond.instanceMethod yX5_fill) ∈ bigW := rW_18 _ (List.mem_of_getElem? (i := 18) rfl)
theorem kw_selects_RX5_yX5_fill_yX5_fill : (Cond.selects RX5 yX5_fill yX5_fill) ∈ bigW := rW_18 _ (List.mem_of_getElem? (i := 19) rfl)
theorem kw_code_yX5_fill : (Cond.code yX5_fill cX5_fill 7 (some .int)) ∈ bigW := rW_18 _ (List.mem_of_getElem? (i := 20) rfl)
theorem kw_methodLink_RL_100 : (Cond.methodLink RL 100 yX6_fill) ∈ bigW := rW_18 _ (List.mem_of_getElem? (i := 21) rfl)
theorem kw_instanceMethod_yX6_fill : (Cond.instanceMethod yX6_fill) ∈ bigW := rW_18 _ (List.mem_of_getElem? (i := 22) rfl)
theorem kw_selects_RX6_yX6_fill_yX6_fill : (Cond.selects RX6 yX6_fill yX6_fill) ∈ bigW := rW_18 _ (List.mem_of_getElem? (i := 23) rfl)
theorem kw_code_yX6_fill : (Cond.code yX6_fill cX6_fill 7 (some .int)) ∈ bigW := rW_19 _ (List.mem_of_getElem? (i := 0) rfl)
theorem kw_methodLink_RL_101 : (Cond.methodLink RL 101 yX5_size) ∈ bigW := rW_19 _ (List.mem_of_getElem? (i := 1) rfl)
theorem kw_instanceMethod_yX5_size : (Cond.instanceMethod yX5_size) ∈ bigW := rW_19 _ (List.mem_of_getElem? (i := 2) rfl)
theorem kw_selects_RX5_yX5_size_yX5_size : (Cond.selects RX5 yX5_size yX5_size) ∈ bigW := rW_19 _ (List.mem_of_getElem? (i := 3) rfl)
theorem kw_code_yX5_size : (Cond.code yX5_size cX5_size 2 (some .int)) ∈ bigW := rW_19 _ (List.mem_of_getElem? (i := 4) rfl)
theorem kw_methodLink_RX5_127 : (Cond.methodLink RX5 127 yX5_singleItems) ∈ bigW := rW_19 _ (List.mem_of_getElem? (i := 5) rfl)
theorem kw_static_yX5_singleItems : (Cond.static yX5_singleItems) ∈ bigW := rW_19 _ (List.mem_of_getElem? (i := 6) rfl)
theorem kw_code_yX5_singleItems : (Cond.code yX5_singleItems cX5_singleItems 5 (some .int)) ∈ bigW := rW_19 _ (List.mem_of_getElem? (i := 7) rfl)
theorem kw_methodLink_RL_104 : (Cond.methodLink RL 104 yX6_size) ∈ bigW := rW_19 _ (List.mem_of_getElem? (i := 8) rfl)
theorem kw_instanceMethod_yX6_size : (Cond.instanceMethod yX6_size) ∈ bigW := rW_19 _ (List.mem_of_getElem? (i := 9) rfl)
theorem kw_selects_RX6_yX6_size_yX6_size : (Cond.selects RX6 yX6_size yX6_size) ∈ bigW := rW_19 _ (List.mem_of_getElem? (i := 10) rfl)
theorem kw_code_yX6_size : (Cond.code yX6_size cX6_size 5 (some .int)) ∈ bigW := rW_19 _ (List.mem_of_getElem? (i := 11) rfl)
theorem kw_methodLink_RX6_135 : (Cond.methodLink RX6 135 yX6_middleSize) ∈ bigW := rW_19 _ (List.mem_of_getElem? (i := 12) rfl)
theorem kw_instanceMethod_yX6_middleSize : (Cond.instanceMethod yX6_middleSize) ∈ bigW := rW_19 _ (List.mem_of_getElem? (i := 13) rfl)
theorem kw_selects_RX6_yX6_middleSize_yX6_middleSize : (Cond.selects RX6 yX6_middleSize yX6_middleSize) ∈ bigW := rW_19 _ (List.mem_of_getElem? (i := 14) rfl)
theorem kw_code_yX6_middleSize : (Cond.code yX6_middleSize cX6_middleSize 4 (some .int)) ∈ bigW := rW_19 _ (List.mem_of_getElem? (i := 15) rfl)
theorem kw_methodLink_RX6_132 : (Cond.methodLink RX6 132 yX6_flatSize) ∈ bigW := rW_19 _ (List.mem_of_getElem? (i := 16) rfl)
theorem kw_instanceMethod_yX6_flatSize : (Cond.instanceMethod yX6_flatSize) ∈ bigW := rW_19 _ (List.mem_of_getElem? (i := 17) rfl)
theorem kw_selects_RX6_yX6_flatSize_yX6_flatSize : (Cond.selects RX6 yX6_flatSize yX6_flatSize) ∈ bigW := rW_19 _ (List.mem_of_getElem? (i := 18) rfl)
theorem kw_code_yX6_flatSize : (Cond.code yX6_flatSize cX6_flatSize 4 (some .int)) ∈ bigW := rW_19 _ (List.mem_of_getElem? (i := 19) rfl)
theorem kw_methodLink_RL_105 : (Cond.methodLink RL 105 yX5_alike) ∈ bigW := rW_19 _ (List.mem_of_getElem? (i := 20) rfl)
theorem kw_instanceMethod_yX5_alike : (Cond.instanceMethod yX5_alike) ∈ bigW := rW_19 _ (List.mem_of_getElem? (i := 21) rfl)
theorem kw_selects_RX5_yX5_alike_yX5_alike : (Cond.selects RX5 yX5_alike yX5_alike) ∈ bigW := rW_19 _ (List.mem_of_getElem? (i := 22) rfl)
theorem kw_code_yX5_alike : (Cond.code yX5_alike cX5_alike 5 (some .int)) ∈ bigW := rW_19 _ (List.mem_of_getElem? (i := 23) rfl)
theorem kw_methodLink_RX5_130 : (Cond.methodLink RX5 130 yX5_areAlike) ∈ bigW := rW_20 _ (List.mem_of_getElem? (i := 0) rfl)
theorem kw_static_yX5_areAlike : (Cond.static yX5_areAlike) ∈ bigW := rW_20 _ (List.mem_of_getElem? (i := 1) rfl)
theorem kw_code_yX5_areAlike : (Cond.code yX5_areAlike cX5_areAlike 5 (some .boolean)) ∈ bigW := rW_20 _ (List.mem_of_getElem? (i := 2) rfl)
theorem kw_methodLink_RX5_233 : (Cond.methodLink RX5 233 yX5_haveSameBits) ∈ bigW := rW_20 _ (List.mem_of_getElem? (i := 3) rfl)
theorem kw_static_yX5_haveSameBits : (Cond.static yX5_haveSameBits) ∈ bigW := rW_20 _ (List.mem_of_getElem? (i := 4) rfl)
theorem kw_code_yX5_haveSameBits : (Cond.code yX5_haveSameBits cX5_haveSameBits 3 (some .boolean)) ∈ bigW := rW_20 _ (List.mem_of_getElem? (i := 5) rfl)
theorem kw_methodLink_RX5_237 : (Cond.methodLink RX5 237 yX5_areItemsAlike) ∈ bigW := rW_20 _ (List.mem_of_getElem? (i := 6) rfl)
theorem kw_static_yX5_areItemsAlike : (Cond.static yX5_areItemsAlike) ∈ bigW := rW_20 _ (List.mem_of_getElem? (i := 7) rfl)
theorem kw_code_yX5_areItemsAlike : (Cond.code yX5_areItemsAlike cX5_areItemsAlike 5 (some .boolean)) ∈ bigW := rW_20 _ (List.mem_of_getElem? (i := 8) rfl)
theorem kw_methodLink_RL_108 : (Cond.methodLink RL 108 yX6_alike) ∈ bigW := rW_20 _ (List.mem_of_getElem? (i := 9) rfl)
theorem kw_instanceMethod_yX6_alike : (Cond.instanceMethod yX6_alike) ∈ bigW := rW_20 _ (List.mem_of_getElem? (i := 10) rfl)
theorem kw_selects_RX6_yX6_alike_yX6_alike : (Cond.selects RX6 yX6_alike yX6_alike) ∈ bigW := rW_20 _ (List.mem_of_getElem? (i := 11) rfl)
theorem kw_code_yX6_alike : (Cond.code yX6_alike cX6_alike 7 (some .int)) ∈ bigW := rW_20 _ (List.mem_of_getElem? (i := 12) rfl)
theorem kw_methodLink_RX6_147 : (Cond.methodLink RX6 147 yX6_areMiddleLike) ∈ bigW := rW_20 _ (List.mem_of_getElem? (i := 13) rfl)
theorem kw_instanceMethod_yX6_areMiddleLike : (Cond.instanceMethod yX6_areMiddleLike) ∈ bigW := rW_20 _ (List.mem_of_getElem? (i := 14) rfl)
theorem kw_selects_RX6_yX6_areMiddleLike_yX6_areMiddleLike : (Cond.selects RX6 yX6_areMiddleLike yX6_areMiddleLike) ∈ bigW := rW_20 _ (List.mem_of_getElem? (i := 15) rfl)
theorem kw_code_yX6_areMiddleLike : (Cond.code yX6_areMiddleLike cX6_areMiddleLike 5 (some .boolean)) ∈ bigW := rW_20 _ (List.mem_of_getElem? (i := 16) rfl)
theorem kw_methodLink_RX6_144 : (Cond.methodLink RX6 144 yX6_areFlatLike) ∈ bigW := rW_20 _ (List.mem_of_getElem? (i := 17) rfl)
theorem kw_instanceMethod_yX6_areFlatLike : (Cond.instanceMethod yX6_areFlatLike) ∈ bigW := rW_20 _ (List.mem_of_getElem? (i := 18) rfl)
theorem kw_selects_RX6_yX6_areFlatLike_yX6_areFlatLike : (Cond.selects RX6 yX6_areFlatLike yX6_areFlatLike) ∈ bigW := rW_20 _ (List.mem_of_getElem? (i := 19) rfl)
theorem kw_code_yX6_areFlatLike : (Cond.code yX6_areFlatLike cX6_areFlatLike 5 (some .boolean)) ∈ bigW := rW_20 _ (List.mem_of_getElem? (i := 20) rfl)
theorem kw_methodLink_RX6_138 : (Cond.methodLink RX6 138 yX6_areShaped) ∈ bigW := rW_20 _ (List.mem_of_getElem? (i := 21) rfl)
theorem kw_instanceMethod_yX6_areShaped : (Cond.instanceMethod yX6_areShaped) ∈ bigW := rW_20 _ (List.mem_of_getElem? (i := 22) rfl)
theorem kw_selects_RX6_yX6_areShaped_yX6_areShaped : (Cond.selects RX6 yX6_areShaped yX6_areShaped) ∈ bigW := rW_20 _ (List.mem_of_getElem? (i := 23) rfl)
theorem kw_code_yX6_areShaped : (Cond.code yX6_areShaped cX6_areShaped 3 (some .boolean)) ∈ bigW := rW_21 _ (List.mem_of_getElem? (i := 0) rfl)
theorem kw_methodLink_RX6_141 : (Cond.methodLink RX6 141 yX6_areThingsLike) ∈ bigW := rW_21 _ (List.mem_of_getElem? (i := 1) rfl)
theorem kw_instanceMethod_yX6_areThingsLike : (Cond.instanceMethod yX6_areThingsLike) ∈ bigW := rW_21 _ (List.mem_of_getElem? (i := 2) rfl)
theorem kw_selects_RX6_yX6_areThingsLike_yX6_areThingsLike : (Cond.selects RX6 yX6_areThingsLike yX6_areThingsLike) ∈ bigW := rW_21 _ (List.mem_of_getElem? (i := 3) rfl)
theorem kw_code_yX6_areThingsLike : (Cond.code yX6_areThingsLike cX6_areThingsLike 3 (some .boolean)) ∈ bigW := rW_21 _ (List.mem_of_getElem? (i := 4) rfl)
theorem kw_methodLink_RL_109 : (Cond.methodLink RL 109 yX5_trouble) ∈ bigW := rW_21 _ (List.mem_of_getElem? (i := 5) rfl)
theorem kw_instanceMethod_yX5_trouble : (Cond.instanceMethod yX5_trouble) ∈ bigW := rW_21 _ (List.mem_of_getElem? (i := 6) rfl)
theorem kw_selects_RX5_yX5_trouble_yX5_trouble : (Cond.selects RX5 yX5_trouble yX5_trouble) ∈ bigW := rW_21 _ (List.mem_of_getElem? (i := 7) rfl)
theorem kw_code_yX5_trouble : (Cond.code yX5_trouble cX5_trouble 4 (some .int)) ∈ bigW := rW_21 _ (List.mem_of_getElem? (i := 8) rfl)
theorem kw_methodLink_RX5_134 : (Cond.methodLink RX5 134 yX5_isTrouble) ∈ bigW := rW_21 _ (List.mem_of_getElem? (i := 9) rfl)
theorem kw_static_yX5_isTrouble : (Cond.static yX5_isTrouble) ∈ bigW := rW_21 _ (List.mem_of_getElem? (i := 10) rfl)
theorem kw_code_yX5_isTrouble : (Cond.code yX5_isTrouble cX5_isTrouble 1 (some .boolean)) ∈ bigW := rW_21 _ (List.mem_of_getElem? (i := 11) rfl)
theorem kw_methodLink_RL_112 : (Cond.methodLink RL 112 yX6_trouble) ∈ bigW := rW_21 _ (List.mem_of_getElem? (i := 12) rfl)
theorem kw_instanceMethod_yX6_trouble : (Cond.instanceMethod yX6_trouble) ∈ bigW := rW_21 _ (List.mem_of_getElem? (i := 13) rfl)
theorem kw_selects_RX6_yX6_trouble_yX6_trouble : (Cond.selects RX6 yX6_trouble yX6_trouble) ∈ bigW := rW_21 _ (List.mem_of_getElem? (i := 14) rfl)
theorem kw_code_yX6_trouble : (Cond.code yX6_trouble cX6_trouble 4 (some .int)) ∈ bigW := rW_21 _ (List.mem_of_getElem? (i := 15) rfl)
theorem kw_methodLink_RL_113 : (Cond.methodLink RL 113 yX5_raise) ∈ bigW := rW_21 _ (List.mem_of_getElem? (i := 16) rfl)
theorem kw_instanceMethod_yX5_raise : (Cond.instanceMethod yX5_raise) ∈ bigW := rW_21 _ (List.mem_of_getElem? (i := 17) rfl)
theorem kw_selects_RX5_yX5_raise_yX5_raise : (Cond.selects RX5 yX5_raise yX5_raise) ∈ bigW := rW_21 _ (List.mem_of_getElem? (i := 18) rfl)
theorem kw_code_yX5_raise : (Cond.code yX5_raise cX5_raise 4 (some .int)) ∈ bigW := rW_21 _ (List.mem_of_getElem? (i := 19) rfl)
theorem kw_methodLink_RL_116 : (Cond.methodLink RL 116 yX6_raise) ∈ bigW := rW_21 _ (List.mem_of_getElem? (i := 20) rfl)
theorem kw_instanceMethod_yX6_raise : (Cond.instanceMethod yX6_raise) ∈ bigW := rW_21 _ (List.mem_of_getElem? (i := 21) rfl)
theorem kw_selects_RX6_yX6_raise_yX6_raise : (Cond.selects RX6 yX6_raise yX6_raise) ∈ bigW := rW_21 _ (List.mem_of_getElem? (i := 22) rfl)
theorem kw_code_yX6_raise : (Cond.code yX6_raise cX6_raise 4 (some .int)) ∈ bigW := rW_21 _ (List.mem_of_getElem? (i := 23) rfl)
theorem kw_fieldLink_RX6_150 : (Cond.fieldLink RX6 150 "PlanCopiesModel" "passed" "I") ∈ bigW := rW_22 _ (List.mem_of_getElem? (i := 0) rfl)
theorem kw_methodLink_RL_117 : (Cond.methodLink RL 117 yX5_passed) ∈ bigW := rW_22 _ (List.mem_of_getElem? (i := 1) rfl)
theorem kw_instanceMethod_yX5_passed : (Cond.instanceMethod yX5_passed) ∈ bigW := rW_22 _ (List.mem_of_getElem? (i := 2) rfl)
theorem kw_selects_RX5_yX5_passed_yX5_passed : (Cond.selects RX5 yX5_passed yX5_passed) ∈ bigW := rW_22 _ (List.mem_of_getElem? (i := 3) rfl)
theorem kw_code_yX5_passed : (Cond.code yX5_passed cX5_passed 1 (some .int)) ∈ bigW := rW_22 _ (List.mem_of_getElem? (i := 4) rfl)
theorem kw_methodLink_RL_121 : (Cond.methodLink RL 121 yX6_passed) ∈ bigW := rW_22 _ (List.mem_of_getElem? (i := 5) rfl)
theorem kw_instanceMethod_yX6_passed : (Cond.instanceMethod yX6_passed) ∈ bigW := rW_22 _ (List.mem_of_getElem? (i := 6) rfl)
theorem kw_selects_RX6_yX6_passed_yX6_passed : (Cond.selects RX6 yX6_passed yX6_passed) ∈ bigW := rW_22 _ (List.mem_of_getElem? (i := 7) rfl)
theorem kw_code_yX6_passed : (Cond.code yX6_passed cX6_passed 1 (some .int)) ∈ bigW := rW_22 _ (List.mem_of_getElem? (i := 8) rfl)
theorem kw_methodLink_RL_122 : (Cond.methodLink RL 122 yX5_number) ∈ bigW := rW_22 _ (List.mem_of_getElem? (i := 9) rfl)
theorem kw_instanceMethod_yX5_number : (Cond.instanceMethod yX5_number) ∈ bigW := rW_22 _ (List.mem_of_getElem? (i := 10) rfl)
theorem kw_selects_RX5_yX5_number_yX5_number : (Cond.selects RX5 yX5_number yX5_number) ∈ bigW := rW_22 _ (List.mem_of_getElem? (i := 11) rfl)
theorem kw_code_yX5_number : (Cond.code yX5_number cX5_number 1 (some .int)) ∈ bigW := rW_22 _ (List.mem_of_getElem? (i := 12) rfl)
theorem kw_methodLink_RL_125 : (Cond.methodLink RL 125 yX6_number) ∈ bigW := rW_22 _ (List.mem_of_getElem? (i := 13) rfl)
theorem kw_instanceMethod_yX6_number : (Cond.instanceMethod yX6_number) ∈ bigW := rW_22 _ (List.mem_of_getElem? (i := 14) rfl)
theorem kw_selects_RX6_yX6_number_yX6_number : (Cond.selects RX6 yX6_number yX6_number) ∈ bigW := rW_22 _ (List.mem_of_getElem? (i := 15) rfl)
theorem kw_code_yX6_number : (Cond.code yX6_number cX6_number 1 (some .int)) ∈ bigW := rW_22 _ (List.mem_of_getElem? (i := 16) rfl)
theorem kw_methodLink_RL_126 : (Cond.methodLink RL 126 yX5_fault) ∈ bigW := rW_22 _ (List.mem_of_getElem? (i := 17) rfl)
theorem kw_instanceMethod_yX5_fault : (Cond.instanceMethod yX5_fault) ∈ bigW := rW_22 _ (List.mem_of_getElem? (i := 18) rfl)
theorem kw_selects_RX5_yX5_fault_yX5_fault : (Cond.selects RX5 yX5_fault yX5_fault) ∈ bigW := rW_22 _ (List.mem_of_getElem? (i := 19) rfl)
theorem kw_code_yX5_fault : (Cond.code yX5_fault cX5_fault 1 (some .int)) ∈ bigW := rW_22 _ (List.mem_of_getElem? (i := 20) rfl)
theorem kw_methodLink_RL_129 : (Cond.methodLink RL 129 yX6_fault) ∈ bigW := rW_22 _ (List.mem_of_getElem? (i := 21) rfl)
theorem kw_instanceMethod_yX6_fault : (Cond.instanceMethod yX6_fault) ∈ bigW := rW_22 _ (List.mem_of_getElem? (i := 22) rfl)
theorem kw_selects_RX6_yX6_fault_yX6_fault : (Cond.selects RX6 yX6_fault yX6_fault) ∈ bigW := rW_22 _ (List.mem_of_getElem? (i := 23) rfl)
theorem kw_code_yX6_fault : (Cond.code yX6_fault cX6_fault 1 (some .int)) ∈ bigW := rW_23 _ (List.mem_of_getElem? (i := 0) rfl)
theorem kw_methodLink_RL_130 : (Cond.methodLink RL 130 yX5_clear) ∈ bigW := rW_23 _ (List.mem_of_getElem? (i := 1) rfl)
theorem kw_instanceMethod_yX5_clear : (Cond.instanceMethod yX5_clear) ∈ bigW := rW_23 _ (List.mem_of_getElem? (i := 2) rfl)
theorem kw_selects_RX5_yX5_clear_yX5_clear : (Cond.selects RX5 yX5_clear yX5_clear) ∈ bigW := rW_23 _ (List.mem_of_getElem? (i := 3) rfl)
theorem kw_code_yX5_clear : (Cond.code yX5_clear cX5_clear 2 (some .int)) ∈ bigW := rW_23 _ (List.mem_of_getElem? (i := 4) rfl)
theorem kw_methodLink_RX5_146 : (Cond.methodLink RX5 146 yX5_heldColumns) ∈ bigW := rW_23 _ (List.mem_of_getElem? (i := 5) rfl)
theorem kw_instanceMethod_yX5_heldColumns : (Cond.instanceMethod yX5_heldColumns) ∈ bigW := rW_23 _ (List.mem_of_getElem? (i := 6) rfl)
theorem kw_selects_RX5_yX5_heldColumns_yX5_heldColumns : (Cond.selects RX5 yX5_heldColumns yX5_heldColumns) ∈ bigW := rW_23 _ (List.mem_of_getElem? (i := 7) rfl)
theorem kw_code_yX5_heldColumns : (Cond.code yX5_heldColumns cX5_heldColumns 3 (some .int)) ∈ bigW := rW_23 _ (List.mem_of_getElem? (i := 8) rfl)
theorem kw_methodLink_RL_133 : (Cond.methodLink RL 133 yX6_clear) ∈ bigW := rW_23 _ (List.mem_of_getElem? (i := 9) rfl)
theorem kw_instanceMethod_yX6_clear : (Cond.instanceMethod yX6_clear) ∈ bigW := rW_23 _ (List.mem_of_getElem? (i := 10) rfl)
theorem kw_selects_RX6_yX6_clear_yX6_clear : (Cond.selects RX6 yX6_clear yX6_clear) ∈ bigW := rW_23 _ (List.mem_of_getElem? (i := 11) rfl)
theorem kw_code_yX6_clear : (Cond.code yX6_clear cX6_clear 3 (some .int)) ∈ bigW := rW_23 _ (List.mem_of_getElem? (i := 12) rfl)
theorem kw_methodLink_RL_134 : (Cond.methodLink RL 134 yX5_told) ∈ bigW := rW_23 _ (List.mem_of_getElem? (i := 13) rfl)
theorem kw_instanceMethod_yX5_told : (Cond.instanceMethod yX5_told) ∈ bigW := rW_23 _ (List.mem_of_getElem? (i := 14) rfl)
theorem kw_selects_RX5_yX5_told_yX5_told : (Cond.selects RX5 yX5_told yX5_told) ∈ bigW := rW_23 _ (List.mem_of_getElem? (i := 15) rfl)
theorem kw_code_yX5_told : (Cond.code yX5_told cX5_told 2 (some .int)) ∈ bigW := rW_23 _ (List.mem_of_getElem? (i := 16) rfl)
theorem kw_methodLink_RL_137 : (Cond.methodLink RL 137 yX6_told) ∈ bigW := rW_23 _ (List.mem_of_getElem? (i := 17) rfl)
theorem kw_instanceMethod_yX6_told : (Cond.instanceMethod yX6_told) ∈ bigW := rW_23 _ (List.mem_of_getElem? (i := 18) rfl)
theorem kw_selects_RX6_yX6_told_yX6_told : (Cond.selects RX6 yX6_told yX6_told) ∈ bigW := rW_23 _ (List.mem_of_getElem? (i := 19) rfl)
theorem kw_code_yX6_told : (Cond.code yX6_told cX6_told 4 (some .int)) ∈ bigW := rW_23 _ (List.mem_of_getElem? (i := 20) rfl)
end
section
/-! base: one word list for all methods; contracts' starts and ends; calls -/
abbrev px_w (y : MethodName) (b : ByteArray) (n : Nat) (r : Option FieldType) : List Cond := Cond.code y b n r :: bigW
theorem px_gin {Ts : List Cond} (hT : ∀ w ∈ bigW, w ∈ Ts) {y : MethodName} {b : ByteArray} {n : Nat} {r : Option FieldType} (hk : Cond.code y b n r ∈ bigW) : GoodIn Ts (px_w y b n r) := by
  intro w hw
  have hg : w ∈ bigW := (List.mem_cons.mp hw).elim (fun e => by rw [e]; exact hk) id
  exact ⟨hT w hg, good_of_word (List.all_eq_true.mp bigW_good w hg)⟩
/-- a class is assignable to another, or not -/
def px_As (C T : String) (b : Bool) (U : State) : Prop := ∃ c t : ClassId, U.vm.findClass C = some c ∧ U.vm.findClass T = some t ∧ U.vm.assignable c t = b
theorem px_As.moved {C T : String} {b : Bool} {u U : State} (hvm : u.vm.Alike U.vm) (h : px_As C T b u) : px_As C T b U := by
  obtain ⟨c, t, h1, h2, h3⟩ := h
  exact ⟨c, t, by rw [hvm.findClass]; exact h1, by rw [hvm.findClass]; exact h2, by rw [hvm.assignable]; exact h3⟩
def px_prs : List (String × String × Bool) := [(RX4, RX1, true), (RX2, RX1, true), (RX0, RX1, true), (RX2, RX3, true), (RX0, RX3, true), (RX4, RX3, false), (RX4, RX4, true), (RX2, RX4, false), (RX0, RX4, false), (RX2, RX2, true), (RX0, RX2, false), (RX2, RX0, false), (RX0, RX0, true)]
/-- what the tables say, at any state of the run -/
def KK (D : va_G) (cy : Nat → ClassId) (U : State) : Prop := va_K D vwCl [(cy 0, .byte), (cy 1, .int), (cy 2, .long), (cy 3, .boolean), (cy 4, .object RX3), (cy 5, .object RX1)] U ∧ (∀ q ∈ px_prs, px_As q.1 q.2.1 q.2.2 U) ∧ va_AO RX3 U ∧ va_AO RX1 U ∧ va_Nw (.declares ⟨RX3, "count", "()I"⟩) U
theorem KK.warm {D : va_G} {cy : Nat → ClassId} {s U : State} (hW : s.WarmedH U.vm) (h : KK D cy s) : KK D cy U := ⟨va_K.moved hW.alike h.1, fun q hq => (h.2.1 q hq).moved hW.alike, va_AO.moved hW.alike h.2.2.1, va_AO.moved hW.alike h.2.2.2.1, va_Nw.warmD hW h.2.2.2.2⟩
theorem KK.call {D : va_G} {cy : Nat → ClassId} {U : State} {g : JFrame} {mk : MethodId} {a : Array Value} (h : KK D cy U) : KK D cy (U.calling g mk a) := ⟨va_K.moved (u := U) (U := U.calling g mk a) (Vm.Alike.refl U.vm) h.1, fun q hq => (h.2.1 q hq).moved (U := U.calling g mk a) (Vm.Alike.refl U.vm), va_AO.moved (U := U.calling g mk a) (Vm.Alike.refl U.vm) h.2.2.1, va_AO.moved (U := U.calling g mk a) (Vm.Alike.refl U.vm) h.2.2.2.1, va_Nw.same (U := U.calling g mk a) rfl rfl h.2.2.2.2⟩
/-- a contract's start, its end where the heap may change, its end where it doesn't -/
def px_P (D : va_G) (cy : Nat → ClassId) (av : List Value) (sz : Nat) (B : Heap → Prop) : Array Value → State → Prop := fun v U => v = av.toArray ∧ U.heap.size = sz ∧ B U.heap ∧ KK D cy U
def px_Q (post : Option Value → Heap → Prop) (A : Nat → Prop) : Array Value → State → Outcome → State → Prop := fun _ st oc t => (∃ v : Option Value, oc = .returned v ∧ post v t.heap) ∧ va_F A st t
def px_N (post : Option Value → Prop) : Array Value → State → Outcome → State → Prop := fun _ st oc t => ∃ v : Option Value, oc = .returned v ∧ post v ∧ t.heap = st.heap
theorem px_P.blind {D : va_G} {cy : Nat → ClassId} {av : List Value} {sz : Nat} {B : Heap → Prop} : FrameBlind (px_P D cy av sz B) := fun _ _ _ _ h => ⟨h.1, h.2.1, h.2.2.1, h.2.2.2.call⟩
/-- inside a method -/
def px_F (p : Program) (m : MethodId) (c : Code) (cc : ByteArray) (nL : Nat) (s : State) (args : Array Value) (own : String) : Prop := p.tables.exec = Jvm.exec ∧ c.code = cc ∧ c.maxLocals = nL ∧ s.vm.findClass own = some m.cls ∧ ∀ w ∈ bigW, w.before args s = true
/-- a method that can be called: static; by its receiver; a constructor -/
def px_YS (y : MethodName) (b : ByteArray) (n : Nat) (r : Option FieldType) (k : Nat) : Prop := Cond.code y b n r ∈ bigW ∧ Cond.static y ∈ bigW ∧ Cond.initialized y.cls ∈ bigW ∧ (y.cls ≠ "java/lang/invoke/MethodHandle" ∧ y.cls ≠ "java/lang/invoke/VarHandle" ∧ (parseMethodDescriptor y.desc).map (fun d => d.parameters.length) = some k)
def px_YV (y : MethodName) (b : ByteArray) (n : Nat) (r : Option FieldType) (k : Nat) : Prop := Cond.code y b n r ∈ bigW ∧ Cond.instanceMethod y ∈ bigW ∧ Cond.selects y.cls y y ∈ bigW ∧ Cond.initialized y.cls ∈ bigW ∧ (y.cls ≠ "java/lang/invoke/MethodHandle" ∧ y.cls ≠ "java/lang/invoke/VarHandle" ∧ (parseMethodDescriptor y.desc).map (fun d => d.parameters.length) = some k)
def px_YI (y : MethodName) (b : ByteArray) (n : Nat) (k : Nat) : Prop := Cond.code y b n none ∈ bigW ∧ Cond.instanceMethod y ∈ bigW ∧ y.name = "<init>" ∧ Cond.initialized y.cls ∈ bigW ∧ (y.cls ≠ "java/lang/invoke/MethodHandle" ∧ y.cls ≠ "java/lang/invoke/VarHandle" ∧ (parseMethodDescriptor y.desc).map (fun d => d.parameters.length) = some k)
section PX
variable {p : Program} {l : Launch} {e : Env} {R : Room} {s : State} {m : MethodId} {args : Array Value} {below : List Frame} {meth : Method} {c : Code} {H : Heap} {locs : List Loc} {cells slots : Nat} {Q : State → Prop} {cc : ByteArray} {pc nL : Nat} {ls : Array Slot} {rest st0 : List Value} {own : String} {D : va_G} {cy : Nat → ClassId} {A : Nat → Prop} {H0 : Heap}
theorem px_met {y : MethodName} {b : ByteArray} {n : Nat} {r : Option FieldType} {rm : Room} {av : List Value} {sz : Nat} {B : Heap → Prop} {Qc : Array Value → State → Outcome → State → Prop} {mc ms : Nat} {free : Addr → Prop} (hy : plainName y.cls = true) (hn : (lg_sl av).length ≤ n)
    (body : ∀ (p : Program) (e : Env) (s : State) (m : MethodId) (below : List Frame) (meth : Method) (c : Code), px_F p m c b n s av.toArray y.cls → meth.sig.returnType = r → meth.locks = false → meth.name = y.name → KK D cy s → s.heap.size = sz → B s.heap → ∀ ls : Array Slot, lv_has ls n (lv_args 0 av) → W p l e rm s m av.toArray below meth c s.heap [] 0 0 (MQ below Qc av.toArray s mc ms free) (F0 m 0 ls [])) :
    Met l y (px_w y b n r) rm (px_P D cy av sz B) Qc mc ms free := by
  refine Met.ofW (cc := b) (maxL := n) (ret := r) hy rfl ?_
  intro p e s m args below meth c s₁ B0 hml hv
  obtain ⟨rfl, hsz, hB, hK⟩ := hv
  have hts := atoms_spec (ws := px_w y b n r) B0.pre
  have hl := lv_entry av (n := n) hn
  rw [lg_entry_eq]
  exact body p e s m below meth c ⟨B0.exec, B0.bytes, hml, findClass_of_methodNamed B0.named, fun w hw => hts w (List.mem_cons_of_mem _ hw)⟩ B0.returns B0.notSynchronized (name_of_methodNamed B0.named B0.method).1 hK hsz hB _ hl
theorem px_callS {y : MethodName} {b : ByteArray} {n k idx : Nat} {r : Option FieldType} {rm : Room} {As : List Value} {sz : Nat} {B : Heap → Prop} {Qc : Array Value → State → Outcome → State → Prop} {mc ms : Nat} {free : Addr → Prop} (F : px_F p m c cc nL s args own) (hK : KK D cy s) (hM : Met l y (px_w y b n r) rm (px_P D cy As sz B) Qc mc ms free) (kc : px_YS y b n r k) (kl : Cond.methodLink own idx y ∈ bigW) (hsz : H.size = sz) (hB : B H) (hk : As.length = k) (hc : rm.cells = mc ∧ rm.slots = ms) (hR : rm.frames + 1 ≤ R.frames ∧ 8 + (n + 11) + rm.locals ≤ R.locals) (hl : ls.size = nL) (hst : st0 = As.reverse ++ rest) (hr : (rest.map fun v => v.category).sum ≤ 8) (hdg : decode cc pc = .ok (.invokestatic idx, 3)) (hf : cells + mc ≤ R.cells ∧ slots + ms ≤ R.slots) :
    va_Run p l e R s m args below meth c H locs cells slots mc ms (F0 m pc ls st0) rest (Qc As.toArray) free := by
  obtain ⟨hx, hb, hml, hown, hts⟩ := F
  obtain ⟨k1, k2, k3, k4⟩ := kc
  subst hk
  exact va_runS (As := As) ⟨hx, hb, hml, hown, hts⟩ hM ⟨callB_of _ hts (px_gin (fun _ h => h) k1) rfl hc.1 hc.2 (hts _ k3) (hts _ kl) k4 hR, hts _ k2⟩ ⟨px_P.blind, fun U hU hW => ⟨rfl, by rw [hU]; exact hsz, by rw [hU]; exact hB, hK.warm hW⟩⟩ rfl rfl hl hst (lv_room hr) hdg hf
theorem px_callV {y : MethodName} {b : ByteArray} {n k idx : Nat} {r : Option FieldType} {rm : Room} {o : Nat} {As : List Value} {sz : Nat} {B : Heap → Prop} {Qc : Array Value → State → Outcome → State → Prop} {mc ms : Nat} {free : Addr → Prop} (F : px_F p m c cc nL s args own) (hK : KK D cy s) (hM : Met l y (px_w y b n r) rm (px_P D cy (.ref o :: As) sz B) Qc mc ms free) (kc : px_YV y b n r k) (kl : Cond.methodLink own idx y ∈ bigW) (hsz : H.size = sz) (hB : B H) (hrc : ∃ cell : Cell, H[o]? = some cell ∧ cell.vm.isStatics = false ∧ s.vm.findClass y.cls = some cell.cls) (hk : As.length = k) (hc : rm.cells = mc ∧ rm.slots = ms) (hR : rm.frames + 1 ≤ R.frames ∧ 8 + (n + 11) + rm.locals ≤ R.locals) (hl : ls.size = nL) (hst : st0 = As.reverse ++ .ref o :: rest) (hr : (rest.map fun v => v.category).sum ≤ 8) (hdg : decode cc pc = .ok (.invokevirtual idx, 3)) (hf : cells + mc ≤ R.cells ∧ slots + ms ≤ R.slots) :
    va_Run p l e R s m args below meth c H locs cells slots mc ms (F0 m pc ls st0) rest (Qc (Value.ref o :: As).toArray) free := by
  obtain ⟨hx, hb, hml, hown, hts⟩ := F
  obtain ⟨k1, k2, k3, k5, k4⟩ := kc
  subst hk
  exact va_runV (C := y.cls) (As := As) ⟨hx, hb, hml, hown, hts⟩ hM ⟨callB_of _ hts (px_gin (fun _ h => h) k1) rfl hc.1 hc.2 (hts _ k5) (hts _ kl) k4 hR, hts _ k2, hts _ k3⟩ ⟨px_P.blind, hrc, fun U hU hW => ⟨rfl, by rw [hU]; exact hsz, by rw [hU]; exact hB, hK.warm hW⟩⟩ rfl rfl hl hst (lv_room hr) hdg hf
theorem px_callI {y : MethodName} {b : ByteArray} {n k idx : Nat} {rm : Room} {o : Nat} {As : List Value} {sz : Nat} {B : Heap → Prop} {Qc : Array Value → State → Outcome → State → Prop} {mc ms : Nat} {free : Addr → Prop} (F : px_F p m c cc nL s args own) (hK : KK D cy s) (hM : Met l y (px_w y b n none) rm (px_P D cy (.ref o :: As) sz B) Qc mc ms free) (kc : px_YI y b n k) (kl : Cond.methodLink own idx y ∈ bigW) (hsz : H.size = sz) (hB : B H) (hk : As.length = k) (hc : rm.cells = mc ∧ rm.slots = ms) (hR : rm.frames + 1 ≤ R.frames ∧ 8 + (n + 11) + rm.locals ≤ R.locals) (hl : ls.size = nL) (hst : st0 = As.reverse ++ .ref o :: rest) (hr : (rest.map fun v => v.category).sum ≤ 8) (hdg : decode cc pc = .ok (.invokespecial idx, 3)) (hf : cells + mc ≤ R.cells ∧ slots + ms ≤ R.slots) :
    va_Run p l e R s m args below meth c H locs cells slots mc ms (F0 m pc ls st0) rest (Qc (Value.ref o :: As).toArray) free := by
  obtain ⟨hx, hb, hml, hown, hts⟩ := F
  obtain ⟨k1, k2, k3, k5, k4⟩ := kc
  subst hk
  exact va_runI (As := As) ⟨hx, hb, hml, hown, hts⟩ hM ⟨callB_of _ hts (px_gin (fun _ h => h) k1) rfl hc.1 hc.2 (hts _ k5) (hts _ kl) k4 hR, k3, hts _ k2⟩ ⟨px_P.blind, fun U hU hW => ⟨rfl, by rw [hU]; exact hsz, by rw [hU]; exact hB, hK.warm hW⟩⟩ rfl rfl hl hst (lv_room hr) hdg hf
/-- behind a call -/
theorem px_goQ {post : Option Value → Heap → Prop} {mc ms : Nat} {a : Array Value} (hr : va_Run p l e R s m args below meth c H locs cells slots mc ms (F0 m pc ls st0) rest (px_Q post A a) A) (hS : va_S A H0 H locs)
    (kk : ∀ (v : Option Value) (H1 : Heap) (locs1 : List Loc), post v H1 → H.size ≤ H1.size → (∀ q : Nat, q < H.size → ¬ A q → H1[q]? = H[q]?) → va_S A H0 H1 locs1 → W p l e R s m args below meth c H1 locs1 (cells + mc) (slots + ms) Q (F0 m (pc + 3) ls (v.toList ++ rest))) : W p l e R s m args below meth c H locs cells slots Q (F0 m pc ls st0) := by
  intro T hT X
  obtain ⟨v, st₀, t, T', L, h0, X', hL, e1, e2, ⟨⟨v2, hv, hp⟩, hz, hk⟩, st⟩ := hr T hT X
  cases hv
  rw [h0] at hz hk
  obtain ⟨t2, a1, b1⟩ := kk v T'.heap (locs ++ L) (by rw [e1]; exact hp) (by rw [e1]; exact hz) (fun q h1 h2 => by rw [e1]; exact hk q h1 h2)
    ⟨Nat.le_trans hS.1 (by rw [e1]; exact hz), fun q h1 h2 => by rw [e1, hk q (Nat.lt_of_lt_of_le h1 hS.1) h2]; exact hS.2.1 q h1 h2, fun q hq => (List.mem_append.mp hq).elim (hS.2.2 q) (hL q)⟩ T' rfl X'
  exact ⟨t2, st t2 a1, b1⟩
theorem px_goN {post : Option Value → Prop} {a : Array Value} (hr : va_Run p l e R s m args below meth c H locs cells slots 0 0 (F0 m pc ls st0) rest (px_N post a) (fun _ => False))
    (kk : ∀ v : Option Value, post v → W p l e R s m args below meth c H locs cells slots Q (F0 m (pc + 3) ls (v.toList ++ rest))) : W p l e R s m args below meth c H locs cells slots Q (F0 m pc ls st0) := by
  intro T hT X
  obtain ⟨v, st₀, t, T', L, h0, X', hL, e1, e2, ⟨v2, hv, hp, hh⟩, st⟩ := hr T hT X
  cases hv
  obtain ⟨t2, a1, b1⟩ := kk v hp T' (by rw [e1, hh, h0]) (Stand.forget X' (fun q h => (hL q h).elim))
  exact ⟨t2, st t2 a1, b1⟩
/-- returns -/
theorem px_iret {v : Int32} {post : Option Value → Heap → Prop} (F : px_F p m c cc nL s args own) (hr : meth.sig.returnType = some .int) (hlocks : meth.locks = false) (hS : va_S A s.heap H locs) (hp : post (some (.int v)) H) (hdg : decode cc pc = .ok (.ireturn, 1)) : W p l e R s m args below meth c H locs cells slots (MQ below (px_Q post A) args s cells slots A) (F0 m pc ls [.int v]) :=
  W.iret F.1 F.2.1 hr (fun t ht hW => ⟨⟨_, rfl, by rw [ht]; exact hp⟩, hS.F ht⟩) hS.2.2 hdg
theorem px_lret {v : Int64} {post : Option Value → Heap → Prop} (F : px_F p m c cc nL s args own) (hr : meth.sig.returnType = some .long) (hlocks : meth.locks = false) (hS : va_S A s.heap H locs) (hp : post (some (.long v)) H) (hdg : decode cc pc = .ok (.lreturn, 1)) : W p l e R s m args below meth c H locs cells slots (MQ below (px_Q post A) args s cells slots A) (F0 m pc ls [.long v]) :=
  W.lret F.1 F.2.1 hr (fun t ht hW => ⟨⟨_, rfl, by rw [ht]; exact hp⟩, hS.F ht⟩) hS.2.2 hdg
theorem px_vret {post : Option Value → Heap → Prop} (F : px_F p m c cc nL s args own) (hr : meth.sig.returnType = none) (hlocks : meth.locks = false) (hS : va_S A s.heap H locs) (hp : post none H) (hdg : decode cc pc = .ok (.return_, 1)) : W p l e R s m args below meth c H locs cells slots (MQ below (px_Q post A) args s cells slots A) (F0 m pc ls []) :=
  W.vret F.1 F.2.1 hr (fun t ht hW => ⟨⟨_, rfl, by rw [ht]; exact hp⟩, hS.F ht⟩) hS.2.2 hdg
theorem px_aret {r : Option Nat} {C : String} {post : Option Value → Heap → Prop} (F : px_F p m c cc nL s args own) (hr : meth.sig.returnType = some (.object C)) (hlocks : meth.locks = false) (hS : va_S A s.heap H locs) (hp : post (some (va_rf r)) H) (hdg : decode cc pc = .ok (.areturn, 1)) : W p l e R s m args below meth c H locs cells slots (MQ below (px_Q post A) args s cells slots A) (F0 m pc ls [va_rf r]) :=
  W.aret F.1 F.2.1 hr (Or.inl ⟨C, rfl⟩) (va_rf_or r) (fun t ht hW => ⟨⟨_, rfl, by rw [ht]; exact hp⟩, hS.F ht⟩) hS.2.2 hdg
theorem pn_iret {v : Int32} {post : Option Value → Prop} (F : px_F p m c cc nL s args own) (hr : meth.sig.returnType = some .int) (hlocks : meth.locks = false) (hp : post (some (.int v))) (hdg : decode cc pc = .ok (.ireturn, 1)) : W p l e R s m args below meth c s.heap [] 0 0 (MQ below (px_N post) args s 0 0 (fun _ => False)) (F0 m pc ls [.int v]) :=
  W.iret F.1 F.2.1 hr (fun t ht hW => ⟨_, rfl, hp, ht⟩) (fun _ h => by cases h) hdg
theorem pn_zret {v : Int32} {post : Option Value → Prop} (F : px_F p m c cc nL s args own) (hr : meth.sig.returnType = some .boolean) (hlocks : meth.locks = false) (hn : v = 0 ∨ v = 1) (hp : post (some (.int v))) (hdg : decode cc pc = .ok (.ireturn, 1)) : W p l e R s m args below meth c s.heap [] 0 0 (MQ below (px_N post) args s 0 0 (fun _ => False)) (F0 m pc ls [.int v]) :=
  W.zret F.1 F.2.1 hr (by rcases hn with rfl | rfl <;> rfl) (fun t ht hW => ⟨_, rfl, hp, ht⟩) (fun _ h => by cases h) hdg
theorem pn_lret {v : Int64} {post : Option Value → Prop} (F : px_F p m c cc nL s args own) (hr : meth.sig.returnType = some .long) (hlocks : meth.locks = false) (hp : post (some (.long v))) (hdg : decode cc pc = .ok (.lreturn, 1)) : W p l e R s m args below meth c s.heap [] 0 0 (MQ below (px_N post) args s 0 0 (fun _ => False)) (F0 m pc ls [.long v]) :=
  W.lret F.1 F.2.1 hr (fun t ht hW => ⟨_, rfl, hp, ht⟩) (fun _ h => by cases h) hdg
theorem pn_aret {r : Option Nat} {C : String} {post : Option Value → Prop} (F : px_F p m c cc nL s args own) (hr : meth.sig.returnType = some (.object C)) (hlocks : meth.locks = false) (hp : post (some (va_rf r))) (hdg : decode cc pc = .ok (.areturn, 1)) : W p l e R s m args below meth c s.heap [] 0 0 (MQ below (px_N post) args s 0 0 (fun _ => False)) (F0 m pc ls [va_rf r]) :=
  W.aret F.1 F.2.1 hr (Or.inl ⟨C, rfl⟩) (va_rf_or r) (fun t ht hW => ⟨_, rfl, hp, ht⟩) (fun _ h => by cases h) hdg
end PX
end
section
/-! the abstract state (it is the reference's own), the reference's cells, a row an access -/
abbrev RS : Type := Nat × (Nat → Nat) × (Nat → Nat) × (Nat → Nat) × Nat × (Nat → Int64) × Nat × (Nat → Int32) × (Nat → Bool) × (Nat → Nat) × (Nat → Int32) × Int32 × Int32 × Int32
abbrev rT (r : RS) : Nat := r.1
abbrev rK (r : RS) : Nat → Nat := r.2.1
abbrev rMn (r : RS) : Nat → Nat := r.2.2.1
abbrev rS (r : RS) : Nat → Nat := r.2.2.2.1
abbrev rN (r : RS) : Nat := r.2.2.2.2.1
abbrev rI (r : RS) : Nat → Int64 := r.2.2.2.2.2.1
abbrev rM (r : RS) : Nat := r.2.2.2.2.2.2.1
abbrev rTN (r : RS) : Nat → Int32 := r.2.2.2.2.2.2.2.1
abbrev rIM (r : RS) : Nat → Bool := r.2.2.2.2.2.2.2.2.1
abbrev rHd (r : RS) : Nat → Nat := r.2.2.2.2.2.2.2.2.2.1
abbrev rTr (r : RS) : Nat → Int32 := r.2.2.2.2.2.2.2.2.2.2.1
abbrev rPa (r : RS) : Int32 := r.2.2.2.2.2.2.2.2.2.2.2.1
abbrev rNu (r : RS) : Int32 := r.2.2.2.2.2.2.2.2.2.2.2.2.1
abbrev rFa (r : RS) : Int32 := r.2.2.2.2.2.2.2.2.2.2.2.2.2
abbrev sT (r : RS) (v : Nat) : RS := (v, rK r, rMn r, rS r, rN r, rI r, rM r, rTN r, rIM r, rHd r, rTr r, rPa r, rNu r, rFa r)
abbrev sK (r : RS) (v : Nat → Nat) : RS := (rT r, v, rMn r, rS r, rN r, rI r, rM r, rTN r, rIM r, rHd r, rTr r, rPa r, rNu r, rFa r)
abbrev sMn (r : RS) (v : Nat → Nat) : RS := (rT r, rK r, v, rS r, rN r, rI r, rM r, rTN r, rIM r, rHd r, rTr r, rPa r, rNu r, rFa r)
abbrev sS (r : RS) (v : Nat → Nat) : RS := (rT r, rK r, rMn r, v, rN r, rI r, rM r, rTN r, rIM r, rHd r, rTr r, rPa r, rNu r, rFa r)
abbrev sN (r : RS) (v : Nat) : RS := (rT r, rK r, rMn r, rS r, v, rI r, rM r, rTN r, rIM r, rHd r, rTr r, rPa r, rNu r, rFa r)
abbrev sI (r : RS) (v : Nat → Int64) : RS := (rT r, rK r, rMn r, rS r, rN r, v, rM r, rTN r, rIM r, rHd r, rTr r, rPa r, rNu r, rFa r)
abbrev sM (r : RS) (v : Nat) : RS := (rT r, rK r, rMn r, rS r, rN r, rI r, v, rTN r, rIM r, rHd r, rTr r, rPa r, rNu r, rFa r)
abbrev sTN (r : RS) (v : Nat → Int32) : RS := (rT r, rK r, rMn r, rS r, rN r, rI r, rM r, v, rIM r, rHd r, rTr r, rPa r, rNu r, rFa r)
abbrev sIM (r : RS) (v : Nat → Bool) : RS := (rT r, rK r, rMn r, rS r, rN r, rI r, rM r, rTN r, v, rHd r, rTr r, rPa r, rNu r, rFa r)
abbrev sHd (r : RS) (v : Nat → Nat) : RS := (rT r, rK r, rMn r, rS r, rN r, rI r, rM r, rTN r, rIM r, v, rTr r, rPa r, rNu r, rFa r)
abbrev sTr (r : RS) (v : Nat → Int32) : RS := (rT r, rK r, rMn r, rS r, rN r, rI r, rM r, rTN r, rIM r, rHd r, v, rPa r, rNu r, rFa r)
abbrev sPa (r : RS) (v : Int32) : RS := (rT r, rK r, rMn r, rS r, rN r, rI r, rM r, rTN r, rIM r, rHd r, rTr r, v, rNu r, rFa r)
abbrev sNu (r : RS) (v : Int32) : RS := (rT r, rK r, rMn r, rS r, rN r, rI r, rM r, rTN r, rIM r, rHd r, rTr r, rPa r, v, rFa r)
abbrev sFa (r : RS) (v : Int32) : RS := (rT r, rK r, rMn r, rS r, rN r, rI r, rM r, rTN r, rIM r, rHd r, rTr r, rPa r, rNu r, v)
def b2i (b : Bool) : Int32 := if b then 1 else 0
abbrev m_fs (G : Nat → Nat) (r : RS) : List Value := [.int (nI (rT r)), .ref (G 1), .ref (G 2), .ref (G 3), .int (nI (rN r)), .ref (G 4), .int (nI (rM r)), .ref (G 5), .ref (G 6), .ref (G 7), .ref (G 8), .int (rPa r), .int (rNu r), .int (rFa r), .ref (G 9), .ref (G 10)]
abbrev m_ws (cy : Nat → ClassId) (G : Nat → Nat) (r : RS) (C : Nat → Nat) (E : Nat → Int64) : va_W := [(G 0, .inr (4, m_fs G r)), (G 1, .inl (cy 0, 13000, .inl (fun j => nI (rK r j)))), (G 2, .inl (cy 0, 13000, .inl (fun j => nI (rMn r j)))), (G 3, .inl (cy 1, 13000, .inl (fun j => nI (rS r j)))), (G 4, .inl (cy 2, 12200, .inr (.inl (rI r)))), (G 5, .inl (cy 1, 3100, .inl (rTN r))), (G 6, .inl (cy 3, 3100, .inl (fun j => b2i (rIM r j)))), (G 7, .inl (cy 1, 16, .inl (fun j => nI (rHd r j)))), (G 8, .inl (cy 1, 8, .inl (rTr r))), (G 9, .inl (cy 1, 13000, .inl (fun j => nI (C j)))), (G 10, .inl (cy 2, 30, .inr (.inl E)))]
def MR (D : va_G) (cy : Nat → ClassId) (A : Nat → Prop) (G : Nat → Nat) (r : RS) (C : Nat → Nat) (E : Nat → Int64) (H : Heap) : Prop := va_P D vwCl (m_ws cy G r C E) H ∧ va_D A (m_ws cy G r C E)
theorem nI_b8 : ∀ v, v < 128 → (nI v).toInt8.toInt32 = nI v := by decide +kernel
theorem vp_nar_b8 {v : Nat} (h : v < 128) : vp_nar .byte (nI v) = nI v := by rw [vp_nar_byte]; exact nI_b8 v h
theorem vp_nar_z (b : Bool) : vp_nar .boolean (b2i b) = b2i b := by cases b <;> decide +kernel
theorem upd_nI (K : Nat → Nat) (i v : Nat) : upd (fun j => nI (K j)) i (nI v) = fun j => nI (va_up K i v j) := by
  funext j
  by_cases h : j = i <;> simp [upd, va_up, h]
theorem upd_z (K : Nat → Bool) (i : Nat) (v : Bool) : upd (fun j => b2i (K j)) i (b2i v) = fun j => b2i (va_up K i v j) := by
  funext j
  by_cases h : j = i <;> simp [upd, va_up, h]
theorem upd_up (K : Nat → Int32) (i : Nat) (v : Int32) : upd K i v = va_up K i v := by
  funext j
  by_cases h : j = i <;> simp [upd, va_up, h]
theorem updL_up (K : Nat → Int64) (i : Nat) (v : Int64) : vp_updL K i v = va_up K i v := by
  funext j
  by_cases h : j = i <;> simp [vp_updL, va_up, h]
section MX
variable {p : Program} {l : Launch} {e : Env} {R : Room} {s : State} {m : MethodId} {args : Array Value} {below : List Frame} {meth : Method} {c : Code} {H : Heap} {locs : List Loc} {cells slots : Nat} {Q : State → Prop} {cc : ByteArray} {pc nL : Nat} {ls : Array Slot} {rest : List Value} {D : va_G} {cy : Nat → ClassId} {A : Nat → Prop} {H0 : Heap} {G : Nat → Nat} {r : RS} {C : Nat → Nat} {E : Nat → Int64}
theorem TX6_own (k : Nat) : (TX6 k).1 = RX6 := by
  unfold TX6
  split <;> rfl
theorem m_get (F : px_F p m c cc nL s args RX6) (hK : KK D cy s) (hR : MR D cy A G r C E H) (k : Nat) (hk : k < 16) {v : Value} (hv : (m_fs G r)[k]? = some v) {idx : Nat} (hw : Cond.fieldLink RX6 idx RX6 (TX6 k).2.1 (TX6 k).2.2.1 ∈ bigW) (hdg : decode cc pc = .ok (.getfield idx, 3)) (kk : W p l e R s m args below meth c H locs cells slots Q (F0 m (pc + 3) ls (v :: rest))) : W p l e R s m args below meth c H locs cells slots Q (F0 m pc ls (.ref (G 0) :: rest)) :=
  va_get (D := D) (ci := 4) (C := RX6) (T := TX6) (N := 16) F.1 F.2.1 F.2.2.2.2 inlX6 F.2.2.2.1 hK.1 hR.1 0 rfl rfl k hk (F.2.2.2.2 _ hw) (fun _ h => by rw [TX6_own k] at h; exact h) hv hdg kk
theorem m_put (F : px_F p m c cc nL s args RX6) (hK : KK D cy s) (hR : MR D cy A G r C E H) (hS : va_S A H0 H locs) (k : Nat) (hk : k < 16) {x v : Int32} (hx : x = v) (r' : RS) (hr : (m_ws cy G r C E).set 0 (G 0, .inr (4, (m_fs G r).set k (.int v))) = m_ws cy G r' C E) {idx : Nat} (hw : Cond.fieldLink RX6 idx RX6 (TX6 k).2.1 (TX6 k).2.2.1 ∈ bigW) (hfin : (TX6 k).2.2.2 = false) (hd : parseFieldDescriptor (TX6 k).2.2.1 = some .int) (hdg : decode cc pc = .ok (.putfield idx, 3)) (kk : ∀ (H : Heap) (locs : List Loc), MR D cy A G r' C E H → va_S A H0 H locs → W p l e R s m args below meth c H locs cells slots Q (F0 m (pc + 3) ls rest)) : W p l e R s m args below meth c H locs cells slots Q (F0 m pc ls (.int x :: .ref (G 0) :: rest)) := by
  subst hx
  refine va_put (D := D) (ci := 4) (v := .int x) (ty := .int) (C := RX6) (T := TX6) (N := 16) F.1 F.2.1 F.2.2.2.2 inlX6 tyX6 tyX6_ok nmX6 F.2.2.2.1 hK.1 hR.1 hR.2 hS 0 rfl rfl k hk (F.2.2.2.2 _ hw) (fun _ h => by rw [TX6_own k] at h; exact h) hfin hd rfl rfl hk hdg (fun H1 locs1 hP hD hS => ?_)
  rw [hr] at hP hD
  exact kk H1 locs1 ⟨hP, hD⟩ hS
theorem m_ldK (F : px_F p m c cc nL s args RX6) (hK : KK D cy s) (hR : MR D cy A G r C E H) {x : Int32} (i : Nat) (hxi : x = nI i) (hi : i < 13000) (hdg : decode cc pc = .ok (.baload, 1)) (kk : W p l e R s m args below meth c H locs cells slots Q (F0 m (pc + 1) ls (.int (nI (rK r i)) :: rest))) : W p l e R s m args below meth c H locs cells slots Q (F0 m pc ls (.int x :: .ref (G 1) :: rest)) := by
  subst hxi
  refine va_bald F.1 F.2.1 hK.1 hR.1 1 0 rfl rfl (vp_in_nI hi (by decide)) hdg ?_
  rw [nI_clamp (show i < 2 ^ 31 by omega)]
  exact kk
theorem m_stK (F : px_F p m c cc nL s args RX6) (hK : KK D cy s) (hR : MR D cy A G r C E H) (hS : va_S A H0 H locs) {x : Int32} {y : Int32} (i : Nat) (v : Nat) (hxi : x = nI i) (hv : y = nI v) (hv8 : v < 128) (hi : i < 13000) (hdg : decode cc pc = .ok (.bastore, 1)) (kk : ∀ (H : Heap) (locs : List Loc), MR D cy A G (sK r (va_up (rK r) i v)) C E H → va_S A H0 H locs → W p l e R s m args below meth c H locs cells slots Q (F0 m (pc + 1) ls rest)) : W p l e R s m args below meth c H locs cells slots Q (F0 m pc ls (.int y :: .int x :: .ref (G 1) :: rest)) := by
  subst hxi
  subst hv
  refine va_bast F.1 F.2.1 hK.1 hR.1 hR.2 hS 1 0 rfl rfl (vp_in_nI hi (by decide)) hdg (fun H1 locs1 hP hD hS => ?_)
  rw [nI_clamp (show i < 2 ^ 31 by omega), vp_nar_b8 hv8, upd_nI] at hP hD
  exact kk H1 locs1 ⟨hP, hD⟩ hS
theorem m_ldMn (F : px_F p m c cc nL s args RX6) (hK : KK D cy s) (hR : MR D cy A G r C E H) {x : Int32} (i : Nat) (hxi : x = nI i) (hi : i < 13000) (hdg : decode cc pc = .ok (.baload, 1)) (kk : W p l e R s m args below meth c H locs cells slots Q (F0 m (pc + 1) ls (.int (nI (rMn r i)) :: rest))) : W p l e R s m args below meth c H locs cells slots Q (F0 m pc ls (.int x :: .ref (G 2) :: rest)) := by
  subst hxi
  refine va_bald F.1 F.2.1 hK.1 hR.1 2 0 rfl rfl (vp_in_nI hi (by decide)) hdg ?_
  rw [nI_clamp (show i < 2 ^ 31 by omega)]
  exact kk
theorem m_stMn (F : px_F p m c cc nL s args RX6) (hK : KK D cy s) (hR : MR D cy A G r C E H) (hS : va_S A H0 H locs) {x : Int32} {y : Int32} (i : Nat) (v : Nat) (hxi : x = nI i) (hv : y = nI v) (hv8 : v < 128) (hi : i < 13000) (hdg : decode cc pc = .ok (.bastore, 1)) (kk : ∀ (H : Heap) (locs : List Loc), MR D cy A G (sMn r (va_up (rMn r) i v)) C E H → va_S A H0 H locs → W p l e R s m args below meth c H locs cells slots Q (F0 m (pc + 1) ls rest)) : W p l e R s m args below meth c H locs cells slots Q (F0 m pc ls (.int y :: .int x :: .ref (G 2) :: rest)) := by
  subst hxi
  subst hv
  refine va_bast F.1 F.2.1 hK.1 hR.1 hR.2 hS 2 0 rfl rfl (vp_in_nI hi (by decide)) hdg (fun H1 locs1 hP hD hS => ?_)
  rw [nI_clamp (show i < 2 ^ 31 by omega), vp_nar_b8 hv8, upd_nI] at hP hD
  exact kk H1 locs1 ⟨hP, hD⟩ hS
theorem m_ldS (F : px_F p m c cc nL s args RX6) (hK : KK D cy s) (hR : MR D cy A G r C E H) {x : Int32} (i : Nat) (hxi : x = nI i) (hi : i < 13000) (hdg : decode cc pc = .ok (.iaload, 1)) (kk : W p l e R s m args below meth c H locs cells slots Q (F0 m (pc + 1) ls (.int (nI (rS r i)) :: rest))) : W p l e R s m args below meth c H locs cells slots Q (F0 m pc ls (.int x :: .ref (G 3) :: rest)) := by
  subst hxi
  refine va_iald F.1 F.2.1 hK.1 hR.1 3 1 rfl rfl (vp_in_nI hi (by decide)) hdg ?_
  rw [nI_clamp (show i < 2 ^ 31 by omega)]
  exact kk
theorem m_stS (F : px_F p m c cc nL s args RX6) (hK : KK D cy s) (hR : MR D cy A G r C E H) (hS : va_S A H0 H locs) {x : Int32} {y : Int32} (i : Nat) (v : Nat) (hxi : x = nI i) (hv : y = nI v) (hi : i < 13000) (hdg : decode cc pc = .ok (.iastore, 1)) (kk : ∀ (H : Heap) (locs : List Loc), MR D cy A G (sS r (va_up (rS r) i v)) C E H → va_S A H0 H locs → W p l e R s m args below meth c H locs cells slots Q (F0 m (pc + 1) ls rest)) : W p l e R s m args below meth c H locs cells slots Q (F0 m pc ls (.int y :: .int x :: .ref (G 3) :: rest)) := by
  subst hxi
  subst hv
  refine va_iast F.1 F.2.1 hK.1 hR.1 hR.2 hS 3 1 rfl rfl (vp_in_nI hi (by decide)) hdg (fun H1 locs1 hP hD hS => ?_)
  rw [nI_clamp (show i < 2 ^ 31 by omega), upd_nI] at hP hD
  exact kk H1 locs1 ⟨hP, hD⟩ hS
theorem m_ldI (F : px_F p m c cc nL s args RX6) (hK : KK D cy s) (hR : MR D cy A G r C E H) {x : Int32} (i : Nat) (hxi : x = nI i) (hi : i < 12200) (hdg : decode cc pc = .ok (.laload, 1)) (kk : W p l e R s m args below meth c H locs cells slots Q (F0 m (pc + 1) ls (.long (rI r i) :: rest))) : W p l e R s m args below meth c H locs cells slots Q (F0 m pc ls (.int x :: .ref (G 4) :: rest)) := by
  subst hxi
  refine va_lald F.1 F.2.1 hK.1 hR.1 4 2 rfl rfl (vp_in_nI hi (by decide)) hdg ?_
  rw [nI_clamp (show i < 2 ^ 31 by omega)]
  exact kk
theorem m_stI (F : px_F p m c cc nL s args RX6) (hK : KK D cy s) (hR : MR D cy A G r C E H) (hS : va_S A H0 H locs) {x : Int32} {y : Int64} (i : Nat) (v : Int64) (hxi : x = nI i) (hv : y = v) (hi : i < 12200) (hdg : decode cc pc = .ok (.lastore, 1)) (kk : ∀ (H : Heap) (locs : List Loc), MR D cy A G (sI r (va_up (rI r) i v)) C E H → va_S A H0 H locs → W p l e R s m args below meth c H locs cells slots Q (F0 m (pc + 1) ls rest)) : W p l e R s m args below meth c H locs cells slots Q (F0 m pc ls (.long y :: .int x :: .ref (G 4) :: rest)) := by
  subst hxi
  subst hv
  refine va_last F.1 F.2.1 hK.1 hR.1 hR.2 hS 4 2 rfl rfl (vp_in_nI hi (by decide)) hdg (fun H1 locs1 hP hD hS => ?_)
  rw [nI_clamp (show i < 2 ^ 31 by omega), updL_up] at hP hD
  exact kk H1 locs1 ⟨hP, hD⟩ hS
theorem m_ldTN (F : px_F p m c cc nL s args RX6) (hK : KK D cy s) (hR : MR D cy A G r C E H) {x : Int32} (i : Nat) (hxi : x = nI i) (hi : i < 3100) (hdg : decode cc pc = .ok (.iaload, 1)) (kk : W p l e R s m args below meth c H locs cells slots Q (F0 m (pc + 1) ls (.int (rTN r i) :: rest))) : W p l e R s m args below meth c H locs cells slots Q (F0 m pc ls (.int x :: .ref (G 5) :: rest)) := by
  subst hxi
  refine va_iald F.1 F.2.1 hK.1 hR.1 5 1 rfl rfl (vp_in_nI hi (by decide)) hdg ?_
  rw [nI_clamp (show i < 2 ^ 31 by omega)]
  exact kk
theorem m_stTN (F : px_F p m c cc nL s args RX6) (hK : KK D cy s) (hR : MR D cy A G r C E H) (hS : va_S A H0 H locs) {x : Int32} {y : Int32} (i : Nat) (v : Int32) (hxi : x = nI i) (hv : y = v) (hi : i < 3100) (hdg : decode cc pc = .ok (.iastore, 1)) (kk : ∀ (H : Heap) (locs : List Loc), MR D cy A G (sTN r (va_up (rTN r) i v)) C E H → va_S A H0 H locs → W p l e R s m args below meth c H locs cells slots Q (F0 m (pc + 1) ls rest)) : W p l e R s m args below meth c H locs cells slots Q (F0 m pc ls (.int y :: .int x :: .ref (G 5) :: rest)) := by
  subst hxi
  subst hv
  refine va_iast F.1 F.2.1 hK.1 hR.1 hR.2 hS 5 1 rfl rfl (vp_in_nI hi (by decide)) hdg (fun H1 locs1 hP hD hS => ?_)
  rw [nI_clamp (show i < 2 ^ 31 by omega), upd_up] at hP hD
  exact kk H1 locs1 ⟨hP, hD⟩ hS
theorem m_ldIM (F : px_F p m c cc nL s args RX6) (hK : KK D cy s) (hR : MR D cy A G r C E H) {x : Int32} (i : Nat) (hxi : x = nI i) (hi : i < 3100) (hdg : decode cc pc = .ok (.baload, 1)) (kk : W p l e R s m args below meth c H locs cells slots Q (F0 m (pc + 1) ls (.int (b2i (rIM r i)) :: rest))) : W p l e R s m args below meth c H locs cells slots Q (F0 m pc ls (.int x :: .ref (G 6) :: rest)) := by
  subst hxi
  refine va_zald F.1 F.2.1 hK.1 hR.1 6 3 rfl rfl (vp_in_nI hi (by decide)) hdg ?_
  rw [nI_clamp (show i < 2 ^ 31 by omega)]
  exact kk
theorem m_stIM (F : px_F p m c cc nL s args RX6) (hK : KK D cy s) (hR : MR D cy A G r C E H) (hS : va_S A H0 H locs) {x : Int32} {y : Int32} (i : Nat) (v : Bool) (hxi : x = nI i) (hv : y = b2i v) (hi : i < 3100) (hdg : decode cc pc = .ok (.bastore, 1)) (kk : ∀ (H : Heap) (locs : List Loc), MR D cy A G (sIM r (va_up (rIM r) i v)) C E H → va_S A H0 H locs → W p l e R s m args below meth c H locs cells slots Q (F0 m (pc + 1) ls rest)) : W p l e R s m args below meth c H locs cells slots Q (F0 m pc ls (.int y :: .int x :: .ref (G 6) :: rest)) := by
  subst hxi
  subst hv
  refine va_zast F.1 F.2.1 hK.1 hR.1 hR.2 hS 6 3 rfl rfl (vp_in_nI hi (by decide)) hdg (fun H1 locs1 hP hD hS => ?_)
  rw [nI_clamp (show i < 2 ^ 31 by omega), vp_nar_z, upd_z] at hP hD
  exact kk H1 locs1 ⟨hP, hD⟩ hS
theorem m_ldHd (F : px_F p m c cc nL s args RX6) (hK : KK D cy s) (hR : MR D cy A G r C E H) {x : Int32} (i : Nat) (hxi : x = nI i) (hi : i < 16) (hdg : decode cc pc = .ok (.iaload, 1)) (kk : W p l e R s m args below meth c H locs cells slots Q (F0 m (pc + 1) ls (.int (nI (rHd r i)) :: rest))) : W p l e R s m args below meth c H locs cells slots Q (F0 m pc ls (.int x :: .ref (G 7) :: rest)) := by
  subst hxi
  refine va_iald F.1 F.2.1 hK.1 hR.1 7 1 rfl rfl (vp_in_nI hi (by decide)) hdg ?_
  rw [nI_clamp (show i < 2 ^ 31 by omega)]
  exact kk
theorem m_stHd (F : px_F p m c cc nL s args RX6) (hK : KK D cy s) (hR : MR D cy A G r C E H) (hS : va_S A H0 H locs) {x : Int32} {y : Int32} (i : Nat) (v : Nat) (hxi : x = nI i) (hv : y = nI v) (hi : i < 16) (hdg : decode cc pc = .ok (.iastore, 1)) (kk : ∀ (H : Heap) (locs : List Loc), MR D cy A G (sHd r (va_up (rHd r) i v)) C E H → va_S A H0 H locs → W p l e R s m args below meth c H locs cells slots Q (F0 m (pc + 1) ls rest)) : W p l e R s m args below meth c H locs cells slots Q (F0 m pc ls (.int y :: .int x :: .ref (G 7) :: rest)) := by
  subst hxi
  subst hv
  refine va_iast F.1 F.2.1 hK.1 hR.1 hR.2 hS 7 1 rfl rfl (vp_in_nI hi (by decide)) hdg (fun H1 locs1 hP hD hS => ?_)
  rw [nI_clamp (show i < 2 ^ 31 by omega), upd_nI] at hP hD
  exact kk H1 locs1 ⟨hP, hD⟩ hS
theorem m_ldTr (F : px_F p m c cc nL s args RX6) (hK : KK D cy s) (hR : MR D cy A G r C E H) {x : Int32} (i : Nat) (hxi : x = nI i) (hi : i < 8) (hdg : decode cc pc = .ok (.iaload, 1)) (kk : W p l e R s m args below meth c H locs cells slots Q (F0 m (pc + 1) ls (.int (rTr r i) :: rest))) : W p l e R s m args below meth c H locs cells slots Q (F0 m pc ls (.int x :: .ref (G 8) :: rest)) := by
  subst hxi
  refine va_iald F.1 F.2.1 hK.1 hR.1 8 1 rfl rfl (vp_in_nI hi (by decide)) hdg ?_
  rw [nI_clamp (show i < 2 ^ 31 by omega)]
  exact kk
theorem m_stTr (F : px_F p m c cc nL s args RX6) (hK : KK D cy s) (hR : MR D cy A G r C E H) (hS : va_S A H0 H locs) {x : Int32} {y : Int32} (i : Nat) (v : Int32) (hxi : x = nI i) (hv : y = v) (hi : i < 8) (hdg : decode cc pc = .ok (.iastore, 1)) (kk : ∀ (H : Heap) (locs : List Loc), MR D cy A G (sTr r (va_up (rTr r) i v)) C E H → va_S A H0 H locs → W p l e R s m args below meth c H locs cells slots Q (F0 m (pc + 1) ls rest)) : W p l e R s m args below meth c H locs cells slots Q (F0 m pc ls (.int y :: .int x :: .ref (G 8) :: rest)) := by
  subst hxi
  subst hv
  refine va_iast F.1 F.2.1 hK.1 hR.1 hR.2 hS 8 1 rfl rfl (vp_in_nI hi (by decide)) hdg (fun H1 locs1 hP hD hS => ?_)
  rw [nI_clamp (show i < 2 ^ 31 by omega), upd_up] at hP hD
  exact kk H1 locs1 ⟨hP, hD⟩ hS
theorem m_ldC (F : px_F p m c cc nL s args RX6) (hK : KK D cy s) (hR : MR D cy A G r C E H) {x : Int32} (i : Nat) (hxi : x = nI i) (hi : i < 13000) (hdg : decode cc pc = .ok (.iaload, 1)) (kk : W p l e R s m args below meth c H locs cells slots Q (F0 m (pc + 1) ls (.int (nI (C i)) :: rest))) : W p l e R s m args below meth c H locs cells slots Q (F0 m pc ls (.int x :: .ref (G 9) :: rest)) := by
  subst hxi
  refine va_iald F.1 F.2.1 hK.1 hR.1 9 1 rfl rfl (vp_in_nI hi (by decide)) hdg ?_
  rw [nI_clamp (show i < 2 ^ 31 by omega)]
  exact kk
theorem m_stC (F : px_F p m c cc nL s args RX6) (hK : KK D cy s) (hR : MR D cy A G r C E H) (hS : va_S A H0 H locs) {x : Int32} {y : Int32} (i : Nat) (v : Nat) (hxi : x = nI i) (hv : y = nI v) (hi : i < 13000) (hdg : decode cc pc = .ok (.iastore, 1)) (kk : ∀ (H : Heap) (locs : List Loc), MR D cy A G r (va_up (C) i v) E H → va_S A H0 H locs → W p l e R s m args below meth c H locs cells slots Q (F0 m (pc + 1) ls rest)) : W p l e R s m args below meth c H locs cells slots Q (F0 m pc ls (.int y :: .int x :: .ref (G 9) :: rest)) := by
  subst hxi
  subst hv
  refine va_iast F.1 F.2.1 hK.1 hR.1 hR.2 hS 9 1 rfl rfl (vp_in_nI hi (by decide)) hdg (fun H1 locs1 hP hD hS => ?_)
  rw [nI_clamp (show i < 2 ^ 31 by omega), upd_nI] at hP hD
  exact kk H1 locs1 ⟨hP, hD⟩ hS
theorem m_ldE (F : px_F p m c cc nL s args RX6) (hK : KK D cy s) (hR : MR D cy A G r C E H) {x : Int32} (i : Nat) (hxi : x = nI i) (hi : i < 30) (hdg : decode cc pc = .ok (.laload, 1)) (kk : W p l e R s m args below meth c H locs cells slots Q (F0 m (pc + 1) ls (.long (E i) :: rest))) : W p l e R s m args below meth c H locs cells slots Q (F0 m pc ls (.int x :: .ref (G 10) :: rest)) := by
  subst hxi
  refine va_lald F.1 F.2.1 hK.1 hR.1 10 2 rfl rfl (vp_in_nI hi (by decide)) hdg ?_
  rw [nI_clamp (show i < 2 ^ 31 by omega)]
  exact kk
theorem m_stE (F : px_F p m c cc nL s args RX6) (hK : KK D cy s) (hR : MR D cy A G r C E H) (hS : va_S A H0 H locs) {x : Int32} {y : Int64} (i : Nat) (v : Int64) (hxi : x = nI i) (hv : y = v) (hi : i < 30) (hdg : decode cc pc = .ok (.lastore, 1)) (kk : ∀ (H : Heap) (locs : List Loc), MR D cy A G r C (va_up (E) i v) H → va_S A H0 H locs → W p l e R s m args below meth c H locs cells slots Q (F0 m (pc + 1) ls rest)) : W p l e R s m args below meth c H locs cells slots Q (F0 m pc ls (.long y :: .int x :: .ref (G 10) :: rest)) := by
  subst hxi
  subst hv
  refine va_last F.1 F.2.1 hK.1 hR.1 hR.2 hS 10 2 rfl rfl (vp_in_nI hi (by decide)) hdg (fun H1 locs1 hP hD hS => ?_)
  rw [nI_clamp (show i < 2 ^ 31 by omega), updL_up] at hP hD
  exact kk H1 locs1 ⟨hP, hD⟩ hS
end MX
end
section
/-! base, 2: booleans, answers that are known, rooms by depth -/
def rmd (d mc ms : Nat) : Room := { frames := d, cells := mc, slots := ms, locals := 40 * d }
theorem b2i_01 (b : Bool) : b2i b = 0 ∨ b2i b = 1 := by cases b <;> simp [b2i]
theorem b2i_eq0 {b : Bool} (h : b2i b = 0) : b = false := by cases b <;> simp_all [b2i]
theorem b2i_ne0 {b : Bool} (h : ¬ b2i b = 0) : b = true := by cases b <;> simp_all [b2i]
def px_V (v : Option Value) : Array Value → State → Outcome → State → Prop := fun _ st oc t => oc = .returned v ∧ t.heap = st.heap
def px_M (D : va_G) (cy : Nat → ClassId) (A : Nat → Prop) (G : Nat → Nat) (v : Option Value) (r' : RS) : Option Value → Heap → Prop := fun v' H => v' = v ∧ ∃ (C : Nat → Nat) (E : Nat → Int64), MR D cy A G r' C E H
def px_Mx (D : va_G) (cy : Nat → ClassId) (A : Nat → Prop) (G : Nat → Nat) (v : Option Value) (r' : RS) (C : Nat → Nat) (E : Nat → Int64) : Option Value → Heap → Prop := fun v' H => v' = v ∧ MR D cy A G r' C E H
theorem nIlt {a b : Nat} (h : nI a < nI b) (ha : a < 2 ^ 31) (hb : b < 2 ^ 31) : a < b := (nI_ltI ha hb).mp h
theorem nInlt {a b : Nat} (h : ¬ nI a < nI b) (ha : a < 2 ^ 31) (hb : b < 2 ^ 31) : b ≤ a := Nat.not_lt.mp fun q => h ((nI_ltI ha hb).mpr q)
theorem nIle {a b : Nat} (h : nI a ≤ nI b) (ha : a < 2 ^ 31) (hb : b < 2 ^ 31) : a ≤ b := (nI_leI ha hb).mp h
theorem nInle {a b : Nat} (h : ¬ nI a ≤ nI b) (ha : a < 2 ^ 31) (hb : b < 2 ^ 31) : b < a := Nat.not_le.mp fun q => h ((nI_leI ha hb).mpr q)
theorem nIeq {a b : Nat} (h : nI a = nI b) (ha : a < 2 ^ 31) (hb : b < 2 ^ 31) : a = b := (nI_eq ha hb).mp h
theorem nIne {a b : Nat} (h : ¬ nI a = nI b) : ¬ a = b := fun q => h (by rw [q])
section PX2
variable {p : Program} {l : Launch} {e : Env} {R : Room} {s : State} {m : MethodId} {args : Array Value} {below : List Frame} {meth : Method} {c : Code} {H : Heap} {locs : List Loc} {cells slots : Nat} {Q : State → Prop} {cc : ByteArray} {pc nL : Nat} {ls : Array Slot} {rest st0 st1 : List Value} {own : String} {D : va_G} {cy : Nat → ClassId} {A : Nat → Prop} {H0 : Heap}
theorem px_topi {x y : Int32} (h : x = y) (k : W p l e R s m args below meth c H locs cells slots Q (F0 m pc ls (.int y :: rest))) : W p l e R s m args below meth c H locs cells slots Q (F0 m pc ls (.int x :: rest)) := h ▸ k
theorem px_topl {x y : Int64} (h : x = y) (k : W p l e R s m args below meth c H locs cells slots Q (F0 m pc ls (.long y :: rest))) : W p l e R s m args below meth c H locs cells slots Q (F0 m pc ls (.long x :: rest)) := h ▸ k
theorem x_ifeq_b {b : Bool} (hexec : p.tables.exec = Jvm.exec) (hb : c.code = cc) {off : Int} {tgt : Nat} (hdg : decode cc pc = .ok (.ifCond .eq off, 3)) (ht : (pc : Int) + off = (tgt : Int)) (kt : b = false → W p l e R s m args below meth c H locs cells slots Q (F0 m tgt ls rest)) (kf : b = true → W p l e R s m args below meth c H locs cells slots Q (F0 m (pc + 3) ls rest)) : W p l e R s m args below meth c H locs cells slots Q (F0 m pc ls (.int (b2i b) :: rest)) :=
  lv_if_eq hexec hb hdg ht (fun h => kt (b2i_eq0 h)) (fun h => kf (b2i_ne0 h))
theorem x_ifne_b {b : Bool} (hexec : p.tables.exec = Jvm.exec) (hb : c.code = cc) {off : Int} {tgt : Nat} (hdg : decode cc pc = .ok (.ifCond .ne off, 3)) (ht : (pc : Int) + off = (tgt : Int)) (kt : b = true → W p l e R s m args below meth c H locs cells slots Q (F0 m tgt ls rest)) (kf : b = false → W p l e R s m args below meth c H locs cells slots Q (F0 m (pc + 3) ls rest)) : W p l e R s m args below meth c H locs cells slots Q (F0 m pc ls (.int (b2i b) :: rest)) :=
  lv_if_ne hexec hb hdg ht (fun h => kt (b2i_ne0 h)) (fun h => kf (b2i_eq0 h))
theorem px_goV {v : Option Value} {a : Array Value} (hr : va_Run p l e R s m args below meth c H locs cells slots 0 0 (F0 m pc ls st0) rest (px_V v a) (fun _ => False)) (h1 : v.toList ++ rest = st1)
    (kk : W p l e R s m args below meth c H locs cells slots Q (F0 m (pc + 3) ls st1)) : W p l e R s m args below meth c H locs cells slots Q (F0 m pc ls st0) := by
  intro T hT X
  obtain ⟨v, st₀, t, T', L, h0, X', hL, e1, e2, ⟨hv, hh⟩, st⟩ := hr T hT X
  cases hv
  subst h1
  obtain ⟨t2, a1, b1⟩ := kk T' (by rw [e1, hh, h0]) (Stand.forget X' (fun q h => (hL q h).elim))
  exact ⟨t2, st t2 a1, b1⟩
theorem px_goM {G : Nat → Nat} {v : Option Value} {r' : RS} {a : Array Value} (hr : va_Run p l e R s m args below meth c H locs cells slots 0 0 (F0 m pc ls st0) rest (px_Q (px_M D cy A G v r') A a) A) (hS : va_S A H0 H locs) (h1 : v.toList ++ rest = st1)
    (kk : ∀ (H : Heap) (locs : List Loc) (C : Nat → Nat) (E : Nat → Int64), MR D cy A G r' C E H → va_S A H0 H locs → W p l e R s m args below meth c H locs cells slots Q (F0 m (pc + 3) ls st1)) : W p l e R s m args below meth c H locs cells slots Q (F0 m pc ls st0) := by
  refine px_goQ hr hS (fun v' H1 locs1 hp _ _ hS => ?_)
  obtain ⟨rfl, C, E, hR⟩ := hp
  subst h1
  exact kk H1 locs1 C E hR hS
theorem px_goMx {G : Nat → Nat} {v : Option Value} {r' : RS} {C : Nat → Nat} {E : Nat → Int64} {a : Array Value} (hr : va_Run p l e R s m args below meth c H locs cells slots 0 0 (F0 m pc ls st0) rest (px_Q (px_Mx D cy A G v r' C E) A a) A) (hS : va_S A H0 H locs) (h1 : v.toList ++ rest = st1)
    (kk : ∀ (H : Heap) (locs : List Loc), MR D cy A G r' C E H → va_S A H0 H locs → W p l e R s m args below meth c H locs cells slots Q (F0 m (pc + 3) ls st1)) : W p l e R s m args below meth c H locs cells slots Q (F0 m pc ls st0) := by
  refine px_goQ hr hS (fun v' H1 locs1 hp _ _ hS => ?_)
  obtain ⟨rfl, hR⟩ := hp
  subst h1
  exact kk H1 locs1 hR hS
theorem pv_iret {x : Int32} {v : Option Value} (F : px_F p m c cc nL s args own) (hr : meth.sig.returnType = some .int) (hlocks : meth.locks = false) (hp : some (.int x) = v) (hdg : decode cc pc = .ok (.ireturn, 1)) : W p l e R s m args below meth c s.heap [] 0 0 (MQ below (px_V v) args s 0 0 (fun _ => False)) (F0 m pc ls [.int x]) :=
  W.iret F.1 F.2.1 hr (fun t ht hW => ⟨by rw [hp], ht⟩) (fun _ h => by cases h) hdg
theorem pv_zret {x : Int32} {v : Option Value} (F : px_F p m c cc nL s args own) (hr : meth.sig.returnType = some .boolean) (hlocks : meth.locks = false) (hn : x = 0 ∨ x = 1) (hp : some (.int x) = v) (hdg : decode cc pc = .ok (.ireturn, 1)) : W p l e R s m args below meth c s.heap [] 0 0 (MQ below (px_V v) args s 0 0 (fun _ => False)) (F0 m pc ls [.int x]) :=
  W.zret F.1 F.2.1 hr (by rcases hn with rfl | rfl <;> rfl) (fun t ht hW => ⟨by rw [hp], ht⟩) (fun _ h => by cases h) hdg
theorem pv_lret {x : Int64} {v : Option Value} (F : px_F p m c cc nL s args own) (hr : meth.sig.returnType = some .long) (hlocks : meth.locks = false) (hp : some (.long x) = v) (hdg : decode cc pc = .ok (.lreturn, 1)) : W p l e R s m args below meth c s.heap [] 0 0 (MQ below (px_V v) args s 0 0 (fun _ => False)) (F0 m pc ls [.long x]) :=
  W.lret F.1 F.2.1 hr (fun t ht hW => ⟨by rw [hp], ht⟩) (fun _ h => by cases h) hdg
theorem pv_aret {x : Option Nat} {C : String} {v : Option Value} (F : px_F p m c cc nL s args own) (hr : meth.sig.returnType = some (.object C)) (hlocks : meth.locks = false) (hp : some (va_rf x) = v) (hdg : decode cc pc = .ok (.areturn, 1)) : W p l e R s m args below meth c s.heap [] 0 0 (MQ below (px_V v) args s 0 0 (fun _ => False)) (F0 m pc ls [va_rf x]) :=
  W.aret F.1 F.2.1 hr (Or.inl ⟨C, rfl⟩) (va_rf_or x) (fun t ht hW => ⟨by rw [hp], ht⟩) (fun _ h => by cases h) hdg
theorem m_recv {G : Nat → Nat} {r : RS} {C : Nat → Nat} {E : Nat → Int64} (hK : KK D cy s) (hR : MR D cy A G r C E H) : ∃ cell : Cell, H[G 0]? = some cell ∧ cell.vm.isStatics = false ∧ s.vm.findClass RX6 = some cell.cls := va_recv hK.1 hR.1 (ci := 4) (q0 := 0) rfl rfl
end PX2
end
section
/-! the methods that can be called -/
-- no selects for X0_count
theorem kc_X0_init : px_YI yX0_init cX0_init 3 2 := ⟨kw_code_yX0_init, kw_instanceMethod_yX0_init, rfl, kw_initialized_RX0, by decide +kernel⟩
theorem kc_X1_init : px_YI yX1_init cX1_init 1 0 := ⟨kw_code_yX1_init, kw_instanceMethod_yX1_init, rfl, kw_initialized_RX1, by decide +kernel⟩
-- no selects for X2_count
theorem kc_X2_init : px_YI yX2_init cX2_init 3 2 := ⟨kw_code_yX2_init, kw_instanceMethod_yX2_init, rfl, kw_initialized_RX2, by decide +kernel⟩
theorem kc_X3_init : px_YI yX3_init cX3_init 2 1 := ⟨kw_code_yX3_init, kw_instanceMethod_yX3_init, rfl, kw_initialized_RX3, by decide +kernel⟩
theorem kc_X4_init : px_YI yX4_init cX4_init 3 2 := ⟨kw_code_yX4_init, kw_instanceMethod_yX4_init, rfl, kw_initialized_RX4, by decide +kernel⟩
theorem kc_X5_against : px_YS yX5_against cX5_against 1 (some .int) 1 := ⟨kw_code_yX5_against, kw_static_yX5_against, kw_initialized_RX5, by decide +kernel⟩
theorem kc_X5_alike : px_YV yX5_alike cX5_alike 5 (some .int) 2 := ⟨kw_code_yX5_alike, kw_instanceMethod_yX5_alike, kw_selects_RX5_yX5_alike_yX5_alike, kw_initialized_RX5, by decide +kernel⟩
theorem kc_X5_areAlike : px_YS yX5_areAlike cX5_areAlike 5 (some .boolean) 3 := ⟨kw_code_yX5_areAlike, kw_static_yX5_areAlike, kw_initialized_RX5, by decide +kernel⟩
theorem kc_X5_areItemsAlike : px_YS yX5_areItemsAlike cX5_areItemsAlike 5 (some .boolean) 3 := ⟨kw_code_yX5_areItemsAlike, kw_static_yX5_areItemsAlike, kw_initialized_RX5, by decide +kernel⟩
theorem kc_X5_aside : px_YV yX5_aside cX5_aside 3 (some .int) 2 := ⟨kw_code_yX5_aside, kw_instanceMethod_yX5_aside, kw_selects_RX5_yX5_aside_yX5_aside, kw_initialized_RX5, by decide +kernel⟩
theorem kc_X5_begin : px_YV yX5_begin cX5_begin 2 none 0 := ⟨kw_code_yX5_begin, kw_instanceMethod_yX5_begin, kw_selects_RX5_yX5_begin_yX5_begin, kw_initialized_RX5, by decide +kernel⟩
theorem kc_X5_bitsAt : px_YV yX5_bitsAt cX5_bitsAt 5 (some .long) 2 := ⟨kw_code_yX5_bitsAt, kw_instanceMethod_yX5_bitsAt, kw_selects_RX5_yX5_bitsAt_yX5_bitsAt, kw_initialized_RX5, by decide +kernel⟩
theorem kc_X5_canStand : px_YS yX5_canStand cX5_canStand 3 (some .boolean) 2 := ⟨kw_code_yX5_canStand, kw_static_yX5_canStand, kw_initialized_RX5, by decide +kernel⟩
theorem kc_X5_cell : px_YV yX5_cell cX5_cell 7 (some .long) 4 := ⟨kw_code_yX5_cell, kw_instanceMethod_yX5_cell, kw_selects_RX5_yX5_cell_yX5_cell, kw_initialized_RX5, by decide +kernel⟩
theorem kc_X5_clear : px_YV yX5_clear cX5_clear 2 (some .int) 0 := ⟨kw_code_yX5_clear, kw_instanceMethod_yX5_clear, kw_selects_RX5_yX5_clear_yX5_clear, kw_initialized_RX5, by decide +kernel⟩
theorem kc_X5_copy : px_YV yX5_copy cX5_copy 8 (some .int) 5 := ⟨kw_code_yX5_copy, kw_instanceMethod_yX5_copy, kw_selects_RX5_yX5_copy_yX5_copy, kw_initialized_RX5, by decide +kernel⟩
theorem kc_X5_deep : px_YV yX5_deep cX5_deep 7 (some .int) 5 := ⟨kw_code_yX5_deep, kw_instanceMethod_yX5_deep, kw_selects_RX5_yX5_deep_yX5_deep, kw_initialized_RX5, by decide +kernel⟩
theorem kc_X5_deepest : px_YV yX5_deepest cX5_deepest 8 (some .long) 4 := ⟨kw_code_yX5_deepest, kw_instanceMethod_yX5_deepest, kw_selects_RX5_yX5_deepest_yX5_deepest, kw_initialized_RX5, by decide +kernel⟩
theorem kc_X5_drop : px_YV yX5_drop cX5_drop 3 (some .int) 1 := ⟨kw_code_yX5_drop, kw_instanceMethod_yX5_drop, kw_selects_RX5_yX5_drop_yX5_drop, kw_initialized_RX5, by decide +kernel⟩
theorem kc_X5_fault : px_YV yX5_fault cX5_fault 1 (some .int) 0 := ⟨kw_code_yX5_fault, kw_instanceMethod_yX5_fault, kw_selects_RX5_yX5_fault_yX5_fault, kw_initialized_RX5, by decide +kernel⟩
theorem kc_X5_faultAt : px_YS yX5_faultAt cX5_faultAt 2 (some .int) 2 := ⟨kw_code_yX5_faultAt, kw_static_yX5_faultAt, kw_initialized_RX5, by decide +kernel⟩
theorem kc_X5_faultTaken : px_YS yX5_faultTaken cX5_faultTaken 3 (some .int) 3 := ⟨kw_code_yX5_faultTaken, kw_static_yX5_faultTaken, kw_initialized_RX5, by decide +kernel⟩
theorem kc_X5_fill : px_YV yX5_fill cX5_fill 7 (some .int) 3 := ⟨kw_code_yX5_fill, kw_instanceMethod_yX5_fill, kw_selects_RX5_yX5_fill_yX5_fill, kw_initialized_RX5, by decide +kernel⟩
theorem kc_X5_fits : px_YS yX5_fits cX5_fits 2 (some .boolean) 2 := ⟨kw_code_yX5_fits, kw_static_yX5_fits, kw_initialized_RX5, by decide +kernel⟩
theorem kc_X5_grow : px_YV yX5_grow cX5_grow 5 (some .int) 2 := ⟨kw_code_yX5_grow, kw_instanceMethod_yX5_grow, kw_selects_RX5_yX5_grow_yX5_grow, kw_initialized_RX5, by decide +kernel⟩
theorem kc_X5_hasStretch : px_YS yX5_hasStretch cX5_hasStretch 3 (some .boolean) 3 := ⟨kw_code_yX5_hasStretch, kw_static_yX5_hasStretch, kw_initialized_RX5, by decide +kernel⟩
theorem kc_X5_haveSameBits : px_YS yX5_haveSameBits cX5_haveSameBits 3 (some .boolean) 2 := ⟨kw_code_yX5_haveSameBits, kw_static_yX5_haveSameBits, kw_initialized_RX5, by decide +kernel⟩
theorem kc_X5_heldColumns : px_YV yX5_heldColumns cX5_heldColumns 3 (some .int) 0 := ⟨kw_code_yX5_heldColumns, kw_instanceMethod_yX5_heldColumns, kw_selects_RX5_yX5_heldColumns_yX5_heldColumns, kw_initialized_RX5, by decide +kernel⟩
theorem kc_X5_init : px_YI yX5_init cX5_init 1 0 := ⟨kw_code_yX5_init, kw_instanceMethod_yX5_init, rfl, kw_initialized_RX5, by decide +kernel⟩
theorem kc_X5_isColumn : px_YS yX5_isColumn cX5_isColumn 1 (some .boolean) 1 := ⟨kw_code_yX5_isColumn, kw_static_yX5_isColumn, kw_initialized_RX5, by decide +kernel⟩
theorem kc_X5_isFull : px_YV yX5_isFull cX5_isFull 1 (some .boolean) 0 := ⟨kw_code_yX5_isFull, kw_instanceMethod_yX5_isFull, kw_selects_RX5_yX5_isFull_yX5_isFull, kw_initialized_RX5, by decide +kernel⟩
theorem kc_X5_isKind : px_YS yX5_isKind cX5_isKind 3 (some .boolean) 3 := ⟨kw_code_yX5_isKind, kw_static_yX5_isKind, kw_initialized_RX5, by decide +kernel⟩
theorem kc_X5_isTooDeep : px_YS yX5_isTooDeep cX5_isTooDeep 3 (some .boolean) 3 := ⟨kw_code_yX5_isTooDeep, kw_static_yX5_isTooDeep, kw_initialized_RX5, by decide +kernel⟩
theorem kc_X5_isTrouble : px_YS yX5_isTrouble cX5_isTrouble 1 (some .boolean) 1 := ⟨kw_code_yX5_isTrouble, kw_static_yX5_isTrouble, kw_initialized_RX5, by decide +kernel⟩
theorem kc_X5_itemAt : px_YS yX5_itemAt cX5_itemAt 3 (some (.object "PlanCopies$Item")) 2 := ⟨kw_code_yX5_itemAt, kw_static_yX5_itemAt, kw_initialized_RX5, by decide +kernel⟩
theorem kc_X5_keptBits : px_YS yX5_keptBits cX5_keptBits 3 (some .long) 2 := ⟨kw_code_yX5_keptBits, kw_static_yX5_keptBits, kw_initialized_RX5, by decide +kernel⟩
theorem kc_X5_keptDouble : px_YS yX5_keptDouble cX5_keptDouble 2 (some .long) 1 := ⟨kw_code_yX5_keptDouble, kw_static_yX5_keptDouble, kw_initialized_RX5, by decide +kernel⟩
theorem kc_X5_keptFloat : px_YS yX5_keptFloat cX5_keptFloat 1 (some .int) 1 := ⟨kw_code_yX5_keptFloat, kw_static_yX5_keptFloat, kw_initialized_RX5, by decide +kernel⟩
theorem kc_X5_kind : px_YV yX5_kind cX5_kind 3 (some .int) 1 := ⟨kw_code_yX5_kind, kw_instanceMethod_yX5_kind, kw_selects_RX5_yX5_kind_yX5_kind, kw_initialized_RX5, by decide +kernel⟩
theorem kc_X5_kindOfRows : px_YS yX5_kindOfRows cX5_kindOfRows 1 (some .int) 1 := ⟨kw_code_yX5_kindOfRows, kw_static_yX5_kindOfRows, kw_initialized_RX5, by decide +kernel⟩
theorem kc_X5_length : px_YV yX5_length cX5_length 4 (some .int) 2 := ⟨kw_code_yX5_length, kw_instanceMethod_yX5_length, kw_selects_RX5_yX5_length_yX5_length, kw_initialized_RX5, by decide +kernel⟩
theorem kc_X5_make : px_YV yX5_make cX5_make 4 (some .int) 3 := ⟨kw_code_yX5_make, kw_instanceMethod_yX5_make, kw_selects_RX5_yX5_make_yX5_make, kw_initialized_RX5, by decide +kernel⟩
theorem kc_X5_marked : px_YV yX5_marked cX5_marked 7 (some .int) 2 := ⟨kw_code_yX5_marked, kw_instanceMethod_yX5_marked, kw_selects_RX5_yX5_marked_yX5_marked, kw_initialized_RX5, by decide +kernel⟩
theorem kc_X5_newDeepTable : px_YV yX5_newDeepTable cX5_newDeepTable 8 (some (.object "PlanCopies$Table")) 4 := ⟨kw_code_yX5_newDeepTable, kw_instanceMethod_yX5_newDeepTable, kw_selects_RX5_yX5_newDeepTable_yX5_newDeepTable, kw_initialized_RX5, by decide +kernel⟩
theorem kc_X5_newTable : px_YV yX5_newTable cX5_newTable 3 (some (.object "PlanCopies$Table")) 2 := ⟨kw_code_yX5_newTable, kw_instanceMethod_yX5_newTable, kw_selects_RX5_yX5_newTable_yX5_newTable, kw_initialized_RX5, by decide +kernel⟩
theorem kc_X5_newThing : px_YV yX5_newThing cX5_newThing 3 (some (.object "PlanCopies$Thing")) 2 := ⟨kw_code_yX5_newThing, kw_instanceMethod_yX5_newThing, kw_selects_RX5_yX5_newThing_yX5_newThing, kw_initialized_RX5, by decide +kernel⟩
theorem kc_X5_noBits : px_YV yX5_noBits cX5_noBits 2 (some .long) 1 := ⟨kw_code_yX5_noBits, kw_instanceMethod_yX5_noBits, kw_selects_RX5_yX5_noBits_yX5_noBits, kw_initialized_RX5, by decide +kernel⟩
theorem kc_X5_number : px_YV yX5_number cX5_number 1 (some .int) 0 := ⟨kw_code_yX5_number, kw_instanceMethod_yX5_number, kw_selects_RX5_yX5_number_yX5_number, kw_initialized_RX5, by decide +kernel⟩
theorem kc_X5_passed : px_YV yX5_passed cX5_passed 1 (some .int) 0 := ⟨kw_code_yX5_passed, kw_instanceMethod_yX5_passed, kw_selects_RX5_yX5_passed_yX5_passed, kw_initialized_RX5, by decide +kernel⟩
theorem kc_X5_place : px_YS yX5_place cX5_place 5 (some .int) 3 := ⟨kw_code_yX5_place, kw_static_yX5_place, kw_initialized_RX5, by decide +kernel⟩
theorem kc_X5_placeNewRows : px_YV yX5_placeNewRows cX5_placeNewRows 4 none 2 := ⟨kw_code_yX5_placeNewRows, kw_instanceMethod_yX5_placeNewRows, kw_selects_RX5_yX5_placeNewRows_yX5_placeNewRows, kw_initialized_RX5, by decide +kernel⟩
theorem kc_X5_putBits : px_YS yX5_putBits cX5_putBits 6 (some .int) 3 := ⟨kw_code_yX5_putBits, kw_static_yX5_putBits, kw_initialized_RX5, by decide +kernel⟩
theorem kc_X5_raise : px_YV yX5_raise cX5_raise 4 (some .int) 2 := ⟨kw_code_yX5_raise, kw_instanceMethod_yX5_raise, kw_selects_RX5_yX5_raise_yX5_raise, kw_initialized_RX5, by decide +kernel⟩
theorem kc_X5_read : px_YV yX5_read cX5_read 5 (some .long) 3 := ⟨kw_code_yX5_read, kw_instanceMethod_yX5_read, kw_selects_RX5_yX5_read_yX5_read, kw_initialized_RX5, by decide +kernel⟩
theorem kc_X5_renewRows : px_YV yX5_renewRows cX5_renewRows 6 none 2 := ⟨kw_code_yX5_renewRows, kw_instanceMethod_yX5_renewRows, kw_selects_RX5_yX5_renewRows_yX5_renewRows, kw_initialized_RX5, by decide +kernel⟩
theorem kc_X5_row : px_YV yX5_row cX5_row 7 (some .int) 4 := ⟨kw_code_yX5_row, kw_instanceMethod_yX5_row, kw_selects_RX5_yX5_row_yX5_row, kw_initialized_RX5, by decide +kernel⟩
theorem kc_X5_rowAt : px_YS yX5_rowAt cX5_rowAt 4 (some (.object "PlanCopies$Table")) 2 := ⟨kw_code_yX5_rowAt, kw_static_yX5_rowAt, kw_initialized_RX5, by decide +kernel⟩
theorem kc_X5_set : px_YV yX5_set cX5_set 9 (some .int) 5 := ⟨kw_code_yX5_set, kw_instanceMethod_yX5_set, kw_selects_RX5_yX5_set_yX5_set, kw_initialized_RX5, by decide +kernel⟩
theorem kc_X5_share : px_YV yX5_share cX5_share 3 (some .int) 2 := ⟨kw_code_yX5_share, kw_instanceMethod_yX5_share, kw_selects_RX5_yX5_share_yX5_share, kw_initialized_RX5, by decide +kernel⟩
theorem kc_X5_singleItems : px_YS yX5_singleItems cX5_singleItems 5 (some .int) 2 := ⟨kw_code_yX5_singleItems, kw_static_yX5_singleItems, kw_initialized_RX5, by decide +kernel⟩
theorem kc_X5_size : px_YV yX5_size cX5_size 2 (some .int) 1 := ⟨kw_code_yX5_size, kw_instanceMethod_yX5_size, kw_selects_RX5_yX5_size_yX5_size, kw_initialized_RX5, by decide +kernel⟩
theorem kc_X5_take : px_YV yX5_take cX5_take 7 (some .int) 4 := ⟨kw_code_yX5_take, kw_instanceMethod_yX5_take, kw_selects_RX5_yX5_take_yX5_take, kw_initialized_RX5, by decide +kernel⟩
theorem kc_X5_thing : px_YV yX5_thing cX5_thing 7 (some .int) 4 := ⟨kw_code_yX5_thing, kw_instanceMethod_yX5_thing, kw_selects_RX5_yX5_thing_yX5_thing, kw_initialized_RX5, by decide +kernel⟩
theorem kc_X5_told : px_YV yX5_told cX5_told 2 (some .int) 1 := ⟨kw_code_yX5_told, kw_instanceMethod_yX5_told, kw_selects_RX5_yX5_told_yX5_told, kw_initialized_RX5, by decide +kernel⟩
theorem kc_X5_transfer : px_YS yX5_transfer cX5_transfer 7 (some .int) 5 := ⟨kw_code_yX5_transfer, kw_static_yX5_transfer, kw_initialized_RX5, by decide +kernel⟩
theorem kc_X5_transferItems : px_YS yX5_transferItems cX5_transferItems 9 (some .int) 5 := ⟨kw_code_yX5_transferItems, kw_static_yX5_transferItems, kw_initialized_RX5, by decide +kernel⟩
theorem kc_X5_trouble : px_YV yX5_trouble cX5_trouble 4 (some .int) 2 := ⟨kw_code_yX5_trouble, kw_instanceMethod_yX5_trouble, kw_selects_RX5_yX5_trouble_yX5_trouble, kw_initialized_RX5, by decide +kernel⟩
theorem kc_X5_twinOf : px_YV yX5_twinOf cX5_twinOf 5 (some (.object "PlanCopies$Table")) 2 := ⟨kw_code_yX5_twinOf, kw_instanceMethod_yX5_twinOf, kw_selects_RX5_yX5_twinOf_yX5_twinOf, kw_initialized_RX5, by decide +kernel⟩
theorem kc_X5_write : px_YV yX5_write cX5_write 7 (some .int) 4 := ⟨kw_code_yX5_write, kw_instanceMethod_yX5_write, kw_selects_RX5_yX5_write_yX5_write, kw_initialized_RX5, by decide +kernel⟩
theorem kc_X6_alike : px_YV yX6_alike cX6_alike 7 (some .int) 2 := ⟨kw_code_yX6_alike, kw_instanceMethod_yX6_alike, kw_selects_RX6_yX6_alike_yX6_alike, kw_initialized_RX6, by decide +kernel⟩
theorem kc_X6_answer : px_YS yX6_answer cX6_answer 1 (some .int) 1 := ⟨kw_code_yX6_answer, kw_static_yX6_answer, kw_initialized_RX6, by decide +kernel⟩
theorem kc_X6_areFlatLike : px_YV yX6_areFlatLike cX6_areFlatLike 5 (some .boolean) 2 := ⟨kw_code_yX6_areFlatLike, kw_instanceMethod_yX6_areFlatLike, kw_selects_RX6_yX6_areFlatLike_yX6_areFlatLike, kw_initialized_RX6, by decide +kernel⟩
theorem kc_X6_areMiddleLike : px_YV yX6_areMiddleLike cX6_areMiddleLike 5 (some .boolean) 2 := ⟨kw_code_yX6_areMiddleLike, kw_instanceMethod_yX6_areMiddleLike, kw_selects_RX6_yX6_areMiddleLike_yX6_areMiddleLike, kw_initialized_RX6, by decide +kernel⟩
theorem kc_X6_areShaped : px_YV yX6_areShaped cX6_areShaped 3 (some .boolean) 2 := ⟨kw_code_yX6_areShaped, kw_instanceMethod_yX6_areShaped, kw_selects_RX6_yX6_areShaped_yX6_areShaped, kw_initialized_RX6, by decide +kernel⟩
theorem kc_X6_areThingsLike : px_YV yX6_areThingsLike cX6_areThingsLike 3 (some .boolean) 2 := ⟨kw_code_yX6_areThingsLike, kw_instanceMethod_yX6_areThingsLike, kw_selects_RX6_yX6_areThingsLike_yX6_areThingsLike, kw_initialized_RX6, by decide +kernel⟩
theorem kc_X6_areUnlike : px_YV yX6_areUnlike cX6_areUnlike 3 (some .boolean) 2 := ⟨kw_code_yX6_areUnlike, kw_instanceMethod_yX6_areUnlike, kw_selects_RX6_yX6_areUnlike_yX6_areUnlike, kw_initialized_RX6, by decide +kernel⟩
theorem kc_X6_aside : px_YV yX6_aside cX6_aside 6 (some .int) 2 := ⟨kw_code_yX6_aside, kw_instanceMethod_yX6_aside, kw_selects_RX6_yX6_aside_yX6_aside, kw_initialized_RX6, by decide +kernel⟩
theorem kc_X6_at : px_YV yX6_at cX6_at 3 (some .long) 2 := ⟨kw_code_yX6_at, kw_instanceMethod_yX6_at, kw_selects_RX6_yX6_at_yX6_at, kw_initialized_RX6, by decide +kernel⟩
theorem kc_X6_canStand : px_YV yX6_canStand cX6_canStand 6 (some .boolean) 3 := ⟨kw_code_yX6_canStand, kw_instanceMethod_yX6_canStand, kw_selects_RX6_yX6_canStand_yX6_canStand, kw_initialized_RX6, by decide +kernel⟩
theorem kc_X6_cell : px_YV yX6_cell cX6_cell 7 (some .long) 4 := ⟨kw_code_yX6_cell, kw_instanceMethod_yX6_cell, kw_selects_RX6_yX6_cell_yX6_cell, kw_initialized_RX6, by decide +kernel⟩
theorem kc_X6_clear : px_YV yX6_clear cX6_clear 3 (some .int) 0 := ⟨kw_code_yX6_clear, kw_instanceMethod_yX6_clear, kw_selects_RX6_yX6_clear_yX6_clear, kw_initialized_RX6, by decide +kernel⟩
theorem kc_X6_copy : px_YV yX6_copy cX6_copy 9 (some .int) 5 := ⟨kw_code_yX6_copy, kw_instanceMethod_yX6_copy, kw_selects_RX6_yX6_copy_yX6_copy, kw_initialized_RX6, by decide +kernel⟩
theorem kc_X6_cut : px_YS yX6_cut cX6_cut 3 (some .long) 2 := ⟨kw_code_yX6_cut, kw_static_yX6_cut, kw_initialized_RX6, by decide +kernel⟩
theorem kc_X6_deep : px_YV yX6_deep cX6_deep 13 (some .int) 5 := ⟨kw_code_yX6_deep, kw_instanceMethod_yX6_deep, kw_selects_RX6_yX6_deep_yX6_deep, kw_initialized_RX6, by decide +kernel⟩
theorem kc_X6_deepest : px_YV yX6_deepest cX6_deepest 8 (some .long) 4 := ⟨kw_code_yX6_deepest, kw_instanceMethod_yX6_deepest, kw_selects_RX6_yX6_deepest_yX6_deepest, kw_initialized_RX6, by decide +kernel⟩
theorem kc_X6_drop : px_YV yX6_drop cX6_drop 3 (some .int) 1 := ⟨kw_code_yX6_drop, kw_instanceMethod_yX6_drop, kw_selects_RX6_yX6_drop_yX6_drop, kw_initialized_RX6, by decide +kernel⟩
theorem kc_X6_fault : px_YV yX6_fault cX6_fault 1 (some .int) 0 := ⟨kw_code_yX6_fault, kw_instanceMethod_yX6_fault, kw_selects_RX6_yX6_fault_yX6_fault, kw_initialized_RX6, by decide +kernel⟩
theorem kc_X6_fill : px_YV yX6_fill cX6_fill 7 (some .int) 3 := ⟨kw_code_yX6_fill, kw_instanceMethod_yX6_fill, kw_selects_RX6_yX6_fill_yX6_fill, kw_initialized_RX6, by decide +kernel⟩
theorem kc_X6_flat : px_YV yX6_flat cX6_flat 4 (some .int) 1 := ⟨kw_code_yX6_flat, kw_instanceMethod_yX6_flat, kw_selects_RX6_yX6_flat_yX6_flat, kw_initialized_RX6, by decide +kernel⟩
theorem kc_X6_flatSize : px_YV yX6_flatSize cX6_flatSize 4 (some .int) 1 := ⟨kw_code_yX6_flatSize, kw_instanceMethod_yX6_flatSize, kw_selects_RX6_yX6_flatSize_yX6_flatSize, kw_initialized_RX6, by decide +kernel⟩
theorem kc_X6_grow : px_YV yX6_grow cX6_grow 6 (some .int) 2 := ⟨kw_code_yX6_grow, kw_instanceMethod_yX6_grow, kw_selects_RX6_yX6_grow_yX6_grow, kw_initialized_RX6, by decide +kernel⟩
theorem kc_X6_in : px_YS yX6_in cX6_in 3 (some .boolean) 3 := ⟨kw_code_yX6_in, kw_static_yX6_in, kw_initialized_RX6, by decide +kernel⟩
theorem kc_X6_init : px_YI yX6_init cX6_init 1 0 := ⟨kw_code_yX6_init, kw_instanceMethod_yX6_init, rfl, kw_initialized_RX6, by decide +kernel⟩
theorem kc_X6_isColumn : px_YS yX6_isColumn cX6_isColumn 1 (some .boolean) 1 := ⟨kw_code_yX6_isColumn, kw_static_yX6_isColumn, kw_initialized_RX6, by decide +kernel⟩
theorem kc_X6_isFull : px_YV yX6_isFull cX6_isFull 1 (some .boolean) 0 := ⟨kw_code_yX6_isFull, kw_instanceMethod_yX6_isFull, kw_selects_RX6_yX6_isFull_yX6_isFull, kw_initialized_RX6, by decide +kernel⟩
theorem kc_X6_isOf : px_YV yX6_isOf cX6_isOf 3 (some .boolean) 2 := ⟨kw_code_yX6_isOf, kw_instanceMethod_yX6_isOf, kw_selects_RX6_yX6_isOf_yX6_isOf, kw_initialized_RX6, by decide +kernel⟩
theorem kc_X6_itemOf : px_YV yX6_itemOf cX6_itemOf 6 (some .long) 3 := ⟨kw_code_yX6_itemOf, kw_instanceMethod_yX6_itemOf, kw_selects_RX6_yX6_itemOf_yX6_itemOf, kw_initialized_RX6, by decide +kernel⟩
theorem kc_X6_kind : px_YV yX6_kind cX6_kind 2 (some .int) 1 := ⟨kw_code_yX6_kind, kw_instanceMethod_yX6_kind, kw_selects_RX6_yX6_kind_yX6_kind, kw_initialized_RX6, by decide +kernel⟩
theorem kc_X6_length : px_YV yX6_length cX6_length 4 (some .int) 2 := ⟨kw_code_yX6_length, kw_instanceMethod_yX6_length, kw_selects_RX6_yX6_length_yX6_length, kw_initialized_RX6, by decide +kernel⟩
theorem kc_X6_looked : px_YV yX6_looked cX6_looked 3 (some .int) 2 := ⟨kw_code_yX6_looked, kw_instanceMethod_yX6_looked, kw_selects_RX6_yX6_looked_yX6_looked, kw_initialized_RX6, by decide +kernel⟩
theorem kc_X6_make : px_YV yX6_make cX6_make 4 (some .int) 3 := ⟨kw_code_yX6_make, kw_instanceMethod_yX6_make, kw_selects_RX6_yX6_make_yX6_make, kw_initialized_RX6, by decide +kernel⟩
theorem kc_X6_marked : px_YV yX6_marked cX6_marked 5 (some .int) 2 := ⟨kw_code_yX6_marked, kw_instanceMethod_yX6_marked, kw_selects_RX6_yX6_marked_yX6_marked, kw_initialized_RX6, by decide +kernel⟩
theorem kc_X6_middle : px_YV yX6_middle cX6_middle 4 (some .int) 1 := ⟨kw_code_yX6_middle, kw_instanceMethod_yX6_middle, kw_selects_RX6_yX6_middle_yX6_middle, kw_initialized_RX6, by decide +kernel⟩
theorem kc_X6_middleSize : px_YV yX6_middleSize cX6_middleSize 4 (some .int) 1 := ⟨kw_code_yX6_middleSize, kw_instanceMethod_yX6_middleSize, kw_selects_RX6_yX6_middleSize_yX6_middleSize, kw_initialized_RX6, by decide +kernel⟩
theorem kc_X6_number : px_YV yX6_number cX6_number 1 (some .int) 0 := ⟨kw_code_yX6_number, kw_instanceMethod_yX6_number, kw_selects_RX6_yX6_number_yX6_number, kw_initialized_RX6, by decide +kernel⟩
theorem kc_X6_passed : px_YV yX6_passed cX6_passed 1 (some .int) 0 := ⟨kw_code_yX6_passed, kw_instanceMethod_yX6_passed, kw_selects_RX6_yX6_passed_yX6_passed, kw_initialized_RX6, by decide +kernel⟩
theorem kc_X6_put : px_YV yX6_put cX6_put 5 none 3 := ⟨kw_code_yX6_put, kw_instanceMethod_yX6_put, kw_selects_RX6_yX6_put_yX6_put, kw_initialized_RX6, by decide +kernel⟩
theorem kc_X6_raise : px_YV yX6_raise cX6_raise 4 (some .int) 2 := ⟨kw_code_yX6_raise, kw_instanceMethod_yX6_raise, kw_selects_RX6_yX6_raise_yX6_raise, kw_initialized_RX6, by decide +kernel⟩
theorem kc_X6_read : px_YV yX6_read cX6_read 5 (some .long) 3 := ⟨kw_code_yX6_read, kw_instanceMethod_yX6_read, kw_selects_RX6_yX6_read_yX6_read, kw_initialized_RX6, by decide +kernel⟩
theorem kc_X6_row : px_YV yX6_row cX6_row 7 (some .int) 4 := ⟨kw_code_yX6_row, kw_instanceMethod_yX6_row, kw_selects_RX6_yX6_row_yX6_row, kw_initialized_RX6, by decide +kernel⟩
theorem kc_X6_rowKind : px_YS yX6_rowKind cX6_rowKind 1 (some .int) 1 := ⟨kw_code_yX6_rowKind, kw_static_yX6_rowKind, kw_initialized_RX6, by decide +kernel⟩
theorem kc_X6_set : px_YV yX6_set cX6_set 10 (some .int) 5 := ⟨kw_code_yX6_set, kw_instanceMethod_yX6_set, kw_selects_RX6_yX6_set_yX6_set, kw_initialized_RX6, by decide +kernel⟩
theorem kc_X6_share : px_YV yX6_share cX6_share 3 (some .int) 2 := ⟨kw_code_yX6_share, kw_instanceMethod_yX6_share, kw_selects_RX6_yX6_share_yX6_share, kw_initialized_RX6, by decide +kernel⟩
theorem kc_X6_size : px_YV yX6_size cX6_size 5 (some .int) 1 := ⟨kw_code_yX6_size, kw_instanceMethod_yX6_size, kw_selects_RX6_yX6_size_yX6_size, kw_initialized_RX6, by decide +kernel⟩
theorem kc_X6_table : px_YV yX6_table cX6_table 4 (some .int) 2 := ⟨kw_code_yX6_table, kw_instanceMethod_yX6_table, kw_selects_RX6_yX6_table_yX6_table, kw_initialized_RX6, by decide +kernel⟩
theorem kc_X6_take : px_YV yX6_take cX6_take 7 (some .int) 4 := ⟨kw_code_yX6_take, kw_instanceMethod_yX6_take, kw_selects_RX6_yX6_take_yX6_take, kw_initialized_RX6, by decide +kernel⟩
theorem kc_X6_thing : px_YV yX6_thing cX6_thing 7 (some .int) 4 := ⟨kw_code_yX6_thing, kw_instanceMethod_yX6_thing, kw_selects_RX6_yX6_thing_yX6_thing, kw_initialized_RX6, by decide +kernel⟩
theorem kc_X6_told : px_YV yX6_told cX6_told 4 (some .int) 1 := ⟨kw_code_yX6_told, kw_instanceMethod_yX6_told, kw_selects_RX6_yX6_told_yX6_told, kw_initialized_RX6, by decide +kernel⟩
theorem kc_X6_trouble : px_YV yX6_trouble cX6_trouble 4 (some .int) 2 := ⟨kw_code_yX6_trouble, kw_instanceMethod_yX6_trouble, kw_selects_RX6_yX6_trouble_yX6_trouble, kw_initialized_RX6, by decide +kernel⟩
theorem kc_X6_write : px_YV yX6_write cX6_write 8 (some .int) 4 := ⟨kw_code_yX6_write, kw_instanceMethod_yX6_write, kw_selects_RX6_yX6_write_yX6_write, kw_initialized_RX6, by decide +kernel⟩
end
section
/-! the pure functions, 1 -/
def f_in (v lo hi : Int32) : Bool := !decide (v < lo) && !decide (hi < v)
def rkN (k : Nat) : Nat := if k = 10 then 4 else if k = 11 then 7 else if k = 12 then 8 else 10
def f_isOf (r : RS) (t k : Nat) : Bool := decide (t = 0) || (decide (rK r t = k) || (decide (k = 8) && decide (rK r t = 9)))
def f_looked (r : RS) (t : Nat) (i : Int32) : Nat := if t = 0 then 1 else if f_in i 0 (nI (rMn r t) - 1) then 0 else 3
def f_zero (I : Nat → Int64) (N n : Nat) : Nat → Int64 := fun j => if N ≤ j ∧ j < N + n then 0 else I j
def f_table (r : RS) (k n : Nat) : RS := (rT r + 1, va_up (rK r) (rT r + 1) k, va_up (rMn r) (rT r + 1) n, va_up (rS r) (rT r + 1) (rN r), rN r + n, f_zero (rI r) (rN r) n, rM r, rTN r, rIM r, rHd r, rTr r, rPa r, rNu r, rFa r)
def f_at (r : RS) (t j : Nat) : Int64 := rI r (rS r t + j)
def f_put (r : RS) (t j : Nat) (v : Int64) : RS := sI r (va_up (rI r) (rS r t + j) v)
def f_unlike (r : RS) (a b : Nat) : Bool := !decide (rK r a = rK r b) && (decide (rK r a < 8) || decide (rK r b < 8))
def f_shaped (r : RS) (a b : Nat) : Bool := !decide (a = 0) && !decide (b = 0) && decide (rK r a = rK r b) && decide (rMn r a = rMn r b)
def f_thl (r : RS) (x y : Nat) : Bool := decide (x = y) || (!decide (x = 0) && !decide (y = 0) && decide (rTN r x = rTN r y) && decide (rIM r x = rIM r y))
def f_cut (k : Nat) (b : Int64) : Int64 := if k = 0 then b &&& 1 else if k = 1 then b.toInt32.toInt8.toInt32.toInt64 else if k = 2 then b.toInt32.toInt16.toInt32.toInt64 else if k = 3 then b &&& 65535 else if k = 4 then b.toInt32.toInt64 else if k = 6 then (if 2139095040 < b &&& 2147483647 then 2143289344 else b.toInt32.toInt64) else if k = 7 then (if 9218868437227405312 < b &&& 9223372036854775807 then 9221120237041090560 else b) else b
theorem f_zero_0 (I : Nat → Int64) (N : Nat) : f_zero I N 0 = I := by
  funext j
  simp only [f_zero]
  rw [if_neg (by omega)]
theorem f_zero_s (I : Nat → Int64) (N n : Nat) : va_up (f_zero I N n) (N + n) 0 = f_zero I N (n + 1) := by
  funext j
  simp only [f_zero, va_up]
  by_cases h : j = N + n
  · rw [if_pos h, if_pos (by omega)]
  · rw [if_neg h]
    by_cases h2 : N ≤ j ∧ j < N + n
    · rw [if_pos h2, if_pos (by omega)]
    · rw [if_neg h2, if_neg (by omega)]
end
section
/-! the reference: readers, put, table -/
set_option maxHeartbeats 400000 in
set_option maxRecDepth 100000 in
theorem c_X6_in (l : Launch) (D : va_G) (cy : Nat → ClassId) (sz : Nat) (v lo hi : Int32)  : Met l yX6_in (px_w yX6_in cX6_in 3 (some .boolean)) (rmd 1 0 0) (px_P D cy [.int v, .int lo, .int hi] sz (fun _ => True)) (px_V (some (.int (b2i (f_in v lo hi))))) 0 0 (fun _ => False) := by
  refine px_met (by decide) (Nat.le_of_ble_eq_true rfl) ?_
  intro p e s m below meth c F hr hlocks hnm hK hsz hR ls hl
  have hx := F.1
  have hb := F.2.1
  have hl : lv_has ls 3 [(0, .int v), (1, .int lo), (2, .int hi)] := hl
  refine lv_iload_n hx hb dX6_in_0 rfl (lv_at hl 0 rfl) ?_
  refine lv_iload_n hx hb dX6_in_1 rfl (lv_at hl 1 rfl) ?_
  refine lv_icmp_lt (tgt := 14) hx hb dX6_in_2 (by decide) (fun h_2 => ?_) (fun h_2 => ?_)
  · refine lv_iconst (v := 0) hx hb dX6_in_14 (by decide) ?_
    exact pv_zret F hr hlocks (Or.inl rfl) (by simp [f_in, b2i, h_2]) dX6_in_15
  · refine lv_iload_n hx hb dX6_in_5 rfl (lv_at hl 0 rfl) ?_
    refine lv_iload_n hx hb dX6_in_6 rfl (lv_at hl 2 rfl) ?_
    refine lv_icmp_gt (tgt := 14) hx hb dX6_in_7 (by decide) (fun h_7 => ?_) (fun h_7 => ?_)
    · refine lv_iconst (v := 0) hx hb dX6_in_14 (by decide) ?_
      exact pv_zret F hr hlocks (Or.inl rfl) (by simp [f_in, b2i, h_2, h_7]) dX6_in_15
    · refine lv_iconst (v := 1) hx hb dX6_in_10 (by decide) ?_
      refine lv_goto (tgt := 15) hx hb dX6_in_11 (by decide) ?_
      exact pv_zret F hr hlocks (Or.inr rfl) (by simp [f_in, b2i, h_2, h_7]) dX6_in_15
set_option maxHeartbeats 400000 in
set_option maxRecDepth 100000 in
theorem c_X6_isColumn (l : Launch) (D : va_G) (cy : Nat → ClassId) (sz : Nat) (v : Int32)  : Met l yX6_isColumn (px_w yX6_isColumn cX6_isColumn 1 (some .boolean)) (rmd 1 0 0) (px_P D cy [.int v] sz (fun _ => True)) (px_V (some (.int (b2i (f_in v 0 15))))) 0 0 (fun _ => False) := by
  refine px_met (by decide) (Nat.le_of_ble_eq_true rfl) ?_
  intro p e s m below meth c F hr hlocks hnm hK hsz hR ls hl
  have hx := F.1
  have hb := F.2.1
  have hl : lv_has ls 1 [(0, .int v)] := hl
  refine lv_iload_n hx hb dX6_isColumn_0 rfl (lv_at hl 0 rfl) ?_
  refine lv_if_lt (tgt := 14) hx hb dX6_isColumn_1 (by decide) (fun h_1 => ?_) (fun h_1 => ?_)
  · refine lv_iconst (v := 0) hx hb dX6_isColumn_14 (by decide) ?_
    exact pv_zret F hr hlocks (Or.inl rfl) (by simp [f_in, b2i, h_1]) dX6_isColumn_15
  · refine lv_iload_n hx hb dX6_isColumn_4 rfl (lv_at hl 0 rfl) ?_
    refine lv_bipush (v := 15) hx hb dX6_isColumn_5 (by decide) ?_
    refine lv_icmp_gt (tgt := 14) hx hb dX6_isColumn_7 (by decide) (fun h_7 => ?_) (fun h_7 => ?_)
    · refine lv_iconst (v := 0) hx hb dX6_isColumn_14 (by decide) ?_
      exact pv_zret F hr hlocks (Or.inl rfl) (by simp [f_in, b2i, h_1, h_7]) dX6_isColumn_15
    · refine lv_iconst (v := 1) hx hb dX6_isColumn_10 (by decide) ?_
      refine lv_goto (tgt := 15) hx hb dX6_isColumn_11 (by decide) ?_
      exact pv_zret F hr hlocks (Or.inr rfl) (by simp [f_in, b2i, h_1, h_7]) dX6_isColumn_15
set_option maxHeartbeats 400000 in
set_option maxRecDepth 100000 in
theorem c_X6_answer (l : Launch) (D : va_G) (cy : Nat → ClassId) (sz : Nat) (v : Int32)  : Met l yX6_answer (px_w yX6_answer cX6_answer 1 (some .int)) (rmd 1 0 0) (px_P D cy [.int v] sz (fun _ => True)) (px_V (some (.int (-10 - v)))) 0 0 (fun _ => False) := by
  refine px_met (by decide) (Nat.le_of_ble_eq_true rfl) ?_
  intro p e s m below meth c F hr hlocks hnm hK hsz hR ls hl
  have hx := F.1
  have hb := F.2.1
  have hl : lv_has ls 1 [(0, .int v)] := hl
  refine lv_bipush (v := -10) hx hb dX6_answer_0 (by decide) ?_
  refine lv_iload_n hx hb dX6_answer_2 rfl (lv_at hl 0 rfl) ?_
  refine lv_isub hx hb dX6_answer_3 ?_
  exact pv_iret F hr hlocks (by rfl) dX6_answer_4
set_option maxHeartbeats 400000 in
set_option maxRecDepth 100000 in
theorem c_X6_rowKind (l : Launch) (D : va_G) (cy : Nat → ClassId) (sz : Nat) (k : Nat) (hk : k < 100)  : Met l yX6_rowKind (px_w yX6_rowKind cX6_rowKind 1 (some .int)) (rmd 1 0 0) (px_P D cy [.int (nI k)] sz (fun _ => True)) (px_V (some (.int (nI (rkN k))))) 0 0 (fun _ => False) := by
  refine px_met (by decide) (Nat.le_of_ble_eq_true rfl) ?_
  intro p e s m below meth c F hr hlocks hnm hK hsz hR ls hl
  have hx := F.1
  have hb := F.2.1
  have hl : lv_has ls 1 [(0, .int (nI k))] := hl
  refine lv_iload_n hx hb dX6_rowKind_0 rfl (lv_at hl 0 rfl) ?_
  refine lv_bipush (v := 10) hx hb dX6_rowKind_1 (by decide) ?_
  refine lv_icmp_ne (tgt := 10) hx hb dX6_rowKind_3 (by decide) (fun h_3 => ?_) (fun h_3 => ?_)
  · have h_3 : ¬ k = 10 := nIne (show ¬ nI k = nI 10 from h_3)
    refine lv_iload_n hx hb dX6_rowKind_10 rfl (lv_at hl 0 rfl) ?_
    refine lv_bipush (v := 11) hx hb dX6_rowKind_11 (by decide) ?_
    refine lv_icmp_ne (tgt := 21) hx hb dX6_rowKind_13 (by decide) (fun h_13 => ?_) (fun h_13 => ?_)
    · have h_13 : ¬ k = 11 := nIne (show ¬ nI k = nI 11 from h_13)
      refine lv_iload_n hx hb dX6_rowKind_21 rfl (lv_at hl 0 rfl) ?_
      refine lv_bipush (v := 12) hx hb dX6_rowKind_22 (by decide) ?_
      refine lv_icmp_ne (tgt := 32) hx hb dX6_rowKind_24 (by decide) (fun h_24 => ?_) (fun h_24 => ?_)
      · have h_24 : ¬ k = 12 := nIne (show ¬ nI k = nI 12 from h_24)
        refine lv_bipush (v := 10) hx hb dX6_rowKind_32 (by decide) ?_
        exact pv_iret F hr hlocks (by simp [rkN, nI, h_3, h_13, h_24]) dX6_rowKind_34
      · have h_24 : k = 12 := nIeq (show nI k = nI 12 from h_24) (by omega) (by omega)
        refine lv_bipush (v := 8) hx hb dX6_rowKind_27 (by decide) ?_
        refine lv_goto (tgt := 34) hx hb dX6_rowKind_29 (by decide) ?_
        exact pv_iret F hr hlocks (by simp [rkN, nI, h_3, h_13, h_24]) dX6_rowKind_34
    · have h_13 : k = 11 := nIeq (show nI k = nI 11 from h_13) (by omega) (by omega)
      refine lv_bipush (v := 7) hx hb dX6_rowKind_16 (by decide) ?_
      refine lv_goto (tgt := 34) hx hb dX6_rowKind_18 (by decide) ?_
      exact pv_iret F hr hlocks (by simp [rkN, nI, h_3, h_13]) dX6_rowKind_34
  · have h_3 : k = 10 := nIeq (show nI k = nI 10 from h_3) (by omega) (by omega)
    refine lv_iconst (v := 4) hx hb dX6_rowKind_6 (by decide) ?_
    refine lv_goto (tgt := 34) hx hb dX6_rowKind_7 (by decide) ?_
    exact pv_iret F hr hlocks (by simp [rkN, nI, h_3]) dX6_rowKind_34
set_option maxHeartbeats 400000 in
set_option maxRecDepth 100000 in
theorem c_X6_isFull (l : Launch) (D : va_G) (cy : Nat → ClassId) (A : Nat → Prop) (G : Nat → Nat) (r : RS) (C : Nat → Nat) (E : Nat → Int64) (sz : Nat)  (hN : rN r < 13000) : Met l yX6_isFull (px_w yX6_isFull cX6_isFull 1 (some .boolean)) (rmd 1 0 0) (px_P D cy [.ref (G 0)] sz (MR D cy A G r C E)) (px_V (some (.int (b2i (decide (6000 ≤ rN r)))))) 0 0 (fun _ => False) := by
  refine px_met (by decide) (Nat.le_of_ble_eq_true rfl) ?_
  intro p e s m below meth c F hr hlocks hnm hK hsz hR ls hl
  have hx := F.1
  have hb := F.2.1
  have hl : lv_has ls 1 [(0, .ref (G 0))] := hl
  refine lv_aload_n hx hb dX6_isFull_0 rfl (lv_at hl 0 rfl) ?_
  refine m_get F hK hR 4 (by decide) rfl kw_fieldLink_RX6_50 dX6_isFull_1 ?_
  refine lv_sipush (v := 6000) hx hb dX6_isFull_4 (by decide) ?_
  refine lv_icmp_lt (tgt := 14) hx hb dX6_isFull_7 (by decide) (fun h_7 => ?_) (fun h_7 => ?_)
  · have h_7 : (rN r) < 6000 := nIlt (show nI (rN r) < nI 6000 from h_7) (by omega) (by omega)
    refine lv_iconst (v := 0) hx hb dX6_isFull_14 (by decide) ?_
    exact pv_zret F hr hlocks (Or.inl rfl) (by simp [b2i]; omega) dX6_isFull_15
  · have h_7 : 6000 ≤ (rN r) := nInlt (show ¬ nI (rN r) < nI 6000 from h_7) (by omega) (by omega)
    refine lv_iconst (v := 1) hx hb dX6_isFull_10 (by decide) ?_
    refine lv_goto (tgt := 15) hx hb dX6_isFull_11 (by decide) ?_
    exact pv_zret F hr hlocks (Or.inr rfl) (by simp [b2i]; omega) dX6_isFull_15
set_option maxHeartbeats 400000 in
set_option maxRecDepth 100000 in
theorem c_X6_at (l : Launch) (D : va_G) (cy : Nat → ClassId) (A : Nat → Prop) (G : Nat → Nat) (r : RS) (C : Nat → Nat) (E : Nat → Int64) (sz : Nat) (t j : Nat) (ht : t < 13000) (hj : rS r t + j < 12200) : Met l yX6_at (px_w yX6_at cX6_at 3 (some .long)) (rmd 1 0 0) (px_P D cy [.ref (G 0), .int (nI t), .int (nI j)] sz (MR D cy A G r C E)) (px_V (some (.long (f_at r t j)))) 0 0 (fun _ => False) := by
  refine px_met (by decide) (Nat.le_of_ble_eq_true rfl) ?_
  intro p e s m below meth c F hr hlocks hnm hK hsz hR ls hl
  have hx := F.1
  have hb := F.2.1
  have hl : lv_has ls 3 [(0, .ref (G 0)), (1, .int (nI t)), (2, .int (nI j))] := hl
  refine lv_aload_n hx hb dX6_at_0 rfl (lv_at hl 0 rfl) ?_
  refine m_get F hK hR 5 (by decide) rfl kw_fieldLink_RX6_20 dX6_at_1 ?_
  refine lv_aload_n hx hb dX6_at_4 rfl (lv_at hl 0 rfl) ?_
  refine m_get F hK hR 3 (by decide) rfl kw_fieldLink_RX6_16 dX6_at_5 ?_
  refine lv_iload_n hx hb dX6_at_8 rfl (lv_at hl 1 rfl) ?_
  refine m_ldS F hK hR t rfl (by omega) dX6_at_9 ?_
  refine lv_iload_n hx hb dX6_at_10 rfl (lv_at hl 2 rfl) ?_
  refine lv_iadd hx hb dX6_at_11 ?_
  refine px_topi (y := nI ((rS r t) + j)) (nI_add _ _) ?_
  refine m_ldI F hK hR ((rS r t) + j) rfl (by omega) dX6_at_12 ?_
  exact pv_lret F hr hlocks (by rfl) dX6_at_13
set_option maxHeartbeats 400000 in
set_option maxRecDepth 100000 in
theorem c_X6_put (l : Launch) (D : va_G) (cy : Nat → ClassId) (A : Nat → Prop) (G : Nat → Nat) (r : RS) (C : Nat → Nat) (E : Nat → Int64) (sz : Nat) (t j : Nat) (v : Int64) (ht : t < 13000) (hj : rS r t + j < 12200) : Met l yX6_put (px_w yX6_put cX6_put 5 none) (rmd 1 0 0) (px_P D cy [.ref (G 0), .int (nI t), .int (nI j), .long v] sz (MR D cy A G r C E)) (px_Q (px_Mx D cy A G (none) (f_put r t j v) (C) (E)) A) 0 0 A := by
  refine px_met (by decide) (Nat.le_of_ble_eq_true rfl) ?_
  intro p e s m below meth c F hr hlocks hnm hK hsz hR ls hl
  have hx := F.1
  have hb := F.2.1
  have hl : lv_has ls 5 [(0, .ref (G 0)), (1, .int (nI t)), (2, .int (nI j)), (3, .long v)] := hl
  have hS : va_S A s.heap s.heap [] := va_S.rf
  refine lv_aload_n hx hb dX6_put_0 rfl (lv_at hl 0 rfl) ?_
  refine m_get F hK hR 5 (by decide) rfl kw_fieldLink_RX6_20 dX6_put_1 ?_
  refine lv_aload_n hx hb dX6_put_4 rfl (lv_at hl 0 rfl) ?_
  refine m_get F hK hR 3 (by decide) rfl kw_fieldLink_RX6_16 dX6_put_5 ?_
  refine lv_iload_n hx hb dX6_put_8 rfl (lv_at hl 1 rfl) ?_
  refine m_ldS F hK hR t rfl (by omega) dX6_put_9 ?_
  refine lv_iload_n hx hb dX6_put_10 rfl (lv_at hl 2 rfl) ?_
  refine lv_iadd hx hb dX6_put_11 ?_
  refine px_topi (y := nI ((rS r t) + j)) (nI_add _ _) ?_
  refine lv_lload_n hx hb dX6_put_12 rfl (lv_at hl 3 rfl) ?_
  refine m_stI F hK hR hS ((rS r t) + j) v rfl rfl (by omega) dX6_put_13 (fun H locs hR hS => ?_)
  exact px_vret F hr hlocks hS (by exact ⟨rfl, hR⟩) dX6_put_14
set_option maxHeartbeats 400000 in
set_option maxRecDepth 100000 in
theorem c_X6_isOf (l : Launch) (D : va_G) (cy : Nat → ClassId) (A : Nat → Prop) (G : Nat → Nat) (r : RS) (C : Nat → Nat) (E : Nat → Int64) (sz : Nat) (t k : Nat) (ht : t < 13000) (hk : k < 100) (hK1 : rK r t < 100) : Met l yX6_isOf (px_w yX6_isOf cX6_isOf 3 (some .boolean)) (rmd 1 0 0) (px_P D cy [.ref (G 0), .int (nI t), .int (nI k)] sz (MR D cy A G r C E)) (px_V (some (.int (b2i (f_isOf r t k))))) 0 0 (fun _ => False) := by
  refine px_met (by decide) (Nat.le_of_ble_eq_true rfl) ?_
  intro p e s m below meth c F hr hlocks hnm hK hsz hR ls hl
  have hx := F.1
  have hb := F.2.1
  have hl : lv_has ls 3 [(0, .ref (G 0)), (1, .int (nI t)), (2, .int (nI k))] := hl
  refine lv_iload_n hx hb dX6_isOf_0 rfl (lv_at hl 1 rfl) ?_
  refine lv_if_eq (tgt := 31) hx hb dX6_isOf_1 (by decide) (fun h_1 => ?_) (fun h_1 => ?_)
  · have h_1 : t = 0 := nIeq (show nI t = nI 0 from h_1) (by omega) (by omega)
    refine lv_iconst (v := 1) hx hb dX6_isOf_31 (by decide) ?_
    refine lv_goto (tgt := 36) hx hb dX6_isOf_32 (by decide) ?_
    exact pv_zret F hr hlocks (Or.inr rfl) (by simp [f_isOf, b2i] <;> omega) dX6_isOf_36
  · have h_1 : ¬ t = 0 := nIne (show ¬ nI t = nI 0 from h_1)
    refine lv_aload_n hx hb dX6_isOf_4 rfl (lv_at hl 0 rfl) ?_
    refine m_get F hK hR 1 (by decide) rfl kw_fieldLink_RX6_7 dX6_isOf_5 ?_
    refine lv_iload_n hx hb dX6_isOf_8 rfl (lv_at hl 1 rfl) ?_
    refine m_ldK F hK hR t rfl (by omega) dX6_isOf_9 ?_
    refine lv_iload_n hx hb dX6_isOf_10 rfl (lv_at hl 2 rfl) ?_
    refine lv_icmp_eq (tgt := 31) hx hb dX6_isOf_11 (by decide) (fun h_11 => ?_) (fun h_11 => ?_)
    · have h_11 : (rK r t) = k := nIeq (show nI (rK r t) = nI k from h_11) (by omega) (by omega)
      refine lv_iconst (v := 1) hx hb dX6_isOf_31 (by decide) ?_
      refine lv_goto (tgt := 36) hx hb dX6_isOf_32 (by decide) ?_
      exact pv_zret F hr hlocks (Or.inr rfl) (by simp [f_isOf, b2i] <;> omega) dX6_isOf_36
    · have h_11 : ¬ (rK r t) = k := nIne (show ¬ nI (rK r t) = nI k from h_11)
      refine lv_iload_n hx hb dX6_isOf_14 rfl (lv_at hl 2 rfl) ?_
      refine lv_bipush (v := 8) hx hb dX6_isOf_15 (by decide) ?_
      refine lv_icmp_ne (tgt := 35) hx hb dX6_isOf_17 (by decide) (fun h_17 => ?_) (fun h_17 => ?_)
      · have h_17 : ¬ k = 8 := nIne (show ¬ nI k = nI 8 from h_17)
        refine lv_iconst (v := 0) hx hb dX6_isOf_35 (by decide) ?_
        exact pv_zret F hr hlocks (Or.inl rfl) (by simp [f_isOf, b2i] <;> omega) dX6_isOf_36
      · have h_17 : k = 8 := nIeq (show nI k = nI 8 from h_17) (by omega) (by omega)
        refine lv_aload_n hx hb dX6_isOf_20 rfl (lv_at hl 0 rfl) ?_
        refine m_get F hK hR 1 (by decide) rfl kw_fieldLink_RX6_7 dX6_isOf_21 ?_
        refine lv_iload_n hx hb dX6_isOf_24 rfl (lv_at hl 1 rfl) ?_
        refine m_ldK F hK hR t rfl (by omega) dX6_isOf_25 ?_
        refine lv_bipush (v := 9) hx hb dX6_isOf_26 (by decide) ?_
        refine lv_icmp_ne (tgt := 35) hx hb dX6_isOf_28 (by decide) (fun h_28 => ?_) (fun h_28 => ?_)
        · have h_28 : ¬ (rK r t) = 9 := nIne (show ¬ nI (rK r t) = nI 9 from h_28)
          refine lv_iconst (v := 0) hx hb dX6_isOf_35 (by decide) ?_
          exact pv_zret F hr hlocks (Or.inl rfl) (by simp [f_isOf, b2i] <;> omega) dX6_isOf_36
        · have h_28 : (rK r t) = 9 := nIeq (show nI (rK r t) = nI 9 from h_28) (by omega) (by omega)
          refine lv_iconst (v := 1) hx hb dX6_isOf_31 (by decide) ?_
          refine lv_goto (tgt := 36) hx hb dX6_isOf_32 (by decide) ?_
          exact pv_zret F hr hlocks (Or.inr rfl) (by simp [f_isOf, b2i] <;> omega) dX6_isOf_36
set_option maxHeartbeats 400000 in
set_option maxRecDepth 100000 in
theorem c_X6_looked (l : Launch) (D : va_G) (cy : Nat → ClassId) (A : Nat → Prop) (G : Nat → Nat) (r : RS) (C : Nat → Nat) (E : Nat → Int64) (sz : Nat) (t : Nat) (i : Int32) (ht : t < 13000) : Met l yX6_looked (px_w yX6_looked cX6_looked 3 (some .int)) (rmd 2 0 0) (px_P D cy [.ref (G 0), .int (nI t), .int i] sz (MR D cy A G r C E)) (px_V (some (.int (nI (f_looked r t i))))) 0 0 (fun _ => False) := by
  refine px_met (by decide) (Nat.le_of_ble_eq_true rfl) ?_
  intro p e s m below meth c F hr hlocks hnm hK hsz hR ls hl
  have hx := F.1
  have hb := F.2.1
  have hl : lv_has ls 3 [(0, .ref (G 0)), (1, .int (nI t)), (2, .int i)] := hl
  refine lv_iload_n hx hb dX6_looked_0 rfl (lv_at hl 1 rfl) ?_
  refine lv_if_ne (tgt := 8) hx hb dX6_looked_1 (by decide) (fun h_1 => ?_) (fun h_1 => ?_)
  · have h_1 : ¬ t = 0 := nIne (show ¬ nI t = nI 0 from h_1)
    refine lv_iload_n hx hb dX6_looked_8 rfl (lv_at hl 2 rfl) ?_
    refine lv_iconst (v := 0) hx hb dX6_looked_9 (by decide) ?_
    refine lv_aload_n hx hb dX6_looked_10 rfl (lv_at hl 0 rfl) ?_
    refine m_get F hK hR 2 (by decide) rfl kw_fieldLink_RX6_13 dX6_looked_11 ?_
    refine lv_iload_n hx hb dX6_looked_14 rfl (lv_at hl 1 rfl) ?_
    refine m_ldMn F hK hR t rfl (by omega) dX6_looked_15 ?_
    refine lv_iconst (v := 1) hx hb dX6_looked_16 (by decide) ?_
    refine lv_isub hx hb dX6_looked_17 ?_
    refine px_goV (st1 := [.int (b2i (f_in i 0 ((nI (rMn r t)) - 1)))]) (px_callS F hK (c_X6_in l D cy _ i 0 ((nI (rMn r t)) - 1)) kc_X6_in kw_methodLink_RX6_57 rfl trivial rfl ⟨rfl, rfl⟩ ⟨Nat.le_of_ble_eq_true rfl, Nat.le_of_ble_eq_true rfl⟩ hl.1 rfl (Nat.le_of_ble_eq_true rfl) dX6_looked_18 ⟨Nat.zero_le _, Nat.zero_le _⟩) rfl ?_
    refine x_ifeq_b (tgt := 28) hx hb dX6_looked_21 (by decide) (fun h_21 => ?_) (fun h_21 => ?_)
    · refine lv_iconst (v := 3) hx hb dX6_looked_28 (by decide) ?_
      exact pv_iret F hr hlocks (by simp [f_looked, h_1, h_21] <;> rfl) dX6_looked_29
    · refine lv_iconst (v := 0) hx hb dX6_looked_24 (by decide) ?_
      refine lv_goto (tgt := 29) hx hb dX6_looked_25 (by decide) ?_
      exact pv_iret F hr hlocks (by simp [f_looked, h_1, h_21] <;> rfl) dX6_looked_29
  · have h_1 : t = 0 := nIeq (show nI t = nI 0 from h_1) (by omega) (by omega)
    refine lv_iconst (v := 1) hx hb dX6_looked_4 (by decide) ?_
    refine lv_goto (tgt := 29) hx hb dX6_looked_5 (by decide) ?_
    exact pv_iret F hr hlocks (by simp [f_looked, h_1] <;> rfl) dX6_looked_29
set_option maxHeartbeats 400000 in
set_option maxRecDepth 100000 in
theorem c_X6_areUnlike (l : Launch) (D : va_G) (cy : Nat → ClassId) (A : Nat → Prop) (G : Nat → Nat) (r : RS) (C : Nat → Nat) (E : Nat → Int64) (sz : Nat) (a b : Nat) (ha : a < 13000) (hb1 : b < 13000) (hKa : rK r a < 100) (hKb : rK r b < 100) : Met l yX6_areUnlike (px_w yX6_areUnlike cX6_areUnlike 3 (some .boolean)) (rmd 1 0 0) (px_P D cy [.ref (G 0), .int (nI a), .int (nI b)] sz (MR D cy A G r C E)) (px_V (some (.int (b2i (f_unlike r a b))))) 0 0 (fun _ => False) := by
  refine px_met (by decide) (Nat.le_of_ble_eq_true rfl) ?_
  intro p e s m below meth c F hr hlocks hnm hK hsz hR ls hl
  have hx := F.1
  have hb := F.2.1
  have hl : lv_has ls 3 [(0, .ref (G 0)), (1, .int (nI a)), (2, .int (nI b))] := hl
  refine lv_aload_n hx hb dX6_areUnlike_0 rfl (lv_at hl 0 rfl) ?_
  refine m_get F hK hR 1 (by decide) rfl kw_fieldLink_RX6_7 dX6_areUnlike_1 ?_
  refine lv_iload_n hx hb dX6_areUnlike_4 rfl (lv_at hl 1 rfl) ?_
  refine m_ldK F hK hR a rfl (by omega) dX6_areUnlike_5 ?_
  refine lv_aload_n hx hb dX6_areUnlike_6 rfl (lv_at hl 0 rfl) ?_
  refine m_get F hK hR 1 (by decide) rfl kw_fieldLink_RX6_7 dX6_areUnlike_7 ?_
  refine lv_iload_n hx hb dX6_areUnlike_10 rfl (lv_at hl 2 rfl) ?_
  refine m_ldK F hK hR b rfl (by omega) dX6_areUnlike_11 ?_
  refine lv_icmp_eq (tgt := 41) hx hb dX6_areUnlike_12 (by decide) (fun h_12 => ?_) (fun h_12 => ?_)
  · have h_12 : (rK r a) = (rK r b) := nIeq (show nI (rK r a) = nI (rK r b) from h_12) (by omega) (by omega)
    refine lv_iconst (v := 0) hx hb dX6_areUnlike_41 (by decide) ?_
    exact pv_zret F hr hlocks (Or.inl rfl) (by simp [f_unlike, b2i] <;> omega) dX6_areUnlike_42
  · have h_12 : ¬ (rK r a) = (rK r b) := nIne (show ¬ nI (rK r a) = nI (rK r b) from h_12)
    refine lv_aload_n hx hb dX6_areUnlike_15 rfl (lv_at hl 0 rfl) ?_
    refine m_get F hK hR 1 (by decide) rfl kw_fieldLink_RX6_7 dX6_areUnlike_16 ?_
    refine lv_iload_n hx hb dX6_areUnlike_19 rfl (lv_at hl 1 rfl) ?_
    refine m_ldK F hK hR a rfl (by omega) dX6_areUnlike_20 ?_
    refine lv_bipush (v := 8) hx hb dX6_areUnlike_21 (by decide) ?_
    refine lv_icmp_lt (tgt := 37) hx hb dX6_areUnlike_23 (by decide) (fun h_23 => ?_) (fun h_23 => ?_)
    · have h_23 : (rK r a) < 8 := nIlt (show nI (rK r a) < nI 8 from h_23) (by omega) (by omega)
      refine lv_iconst (v := 1) hx hb dX6_areUnlike_37 (by decide) ?_
      refine lv_goto (tgt := 42) hx hb dX6_areUnlike_38 (by decide) ?_
      exact pv_zret F hr hlocks (Or.inr rfl) (by simp [f_unlike, b2i] <;> omega) dX6_areUnlike_42
    · have h_23 : 8 ≤ (rK r a) := nInlt (show ¬ nI (rK r a) < nI 8 from h_23) (by omega) (by omega)
      refine lv_aload_n hx hb dX6_areUnlike_26 rfl (lv_at hl 0 rfl) ?_
      refine m_get F hK hR 1 (by decide) rfl kw_fieldLink_RX6_7 dX6_areUnlike_27 ?_
      refine lv_iload_n hx hb dX6_areUnlike_30 rfl (lv_at hl 2 rfl) ?_
      refine m_ldK F hK hR b rfl (by omega) dX6_areUnlike_31 ?_
      refine lv_bipush (v := 8) hx hb dX6_areUnlike_32 (by decide) ?_
      refine lv_icmp_ge (tgt := 41) hx hb dX6_areUnlike_34 (by decide) (fun h_34 => ?_) (fun h_34 => ?_)
      · have h_34 : 8 ≤ (rK r b) := nIle (show nI 8 ≤ nI (rK r b) from h_34) (by omega) (by omega)
        refine lv_iconst (v := 0) hx hb dX6_areUnlike_41 (by decide) ?_
        exact pv_zret F hr hlocks (Or.inl rfl) (by simp [f_unlike, b2i] <;> omega) dX6_areUnlike_42
      · have h_34 : (rK r b) < 8 := nInle (show ¬ nI 8 ≤ nI (rK r b) from h_34) (by omega) (by omega)
        refine lv_iconst (v := 1) hx hb dX6_areUnlike_37 (by decide) ?_
        refine lv_goto (tgt := 42) hx hb dX6_areUnlike_38 (by decide) ?_
        exact pv_zret F hr hlocks (Or.inr rfl) (by simp [f_unlike, b2i] <;> omega) dX6_areUnlike_42
set_option maxHeartbeats 400000 in
set_option maxRecDepth 100000 in
theorem c_X6_areShaped (l : Launch) (D : va_G) (cy : Nat → ClassId) (A : Nat → Prop) (G : Nat → Nat) (r : RS) (C : Nat → Nat) (E : Nat → Int64) (sz : Nat) (a b : Nat) (ha : a < 13000) (hb1 : b < 13000) (hKa : rK r a < 100) (hKb : rK r b < 100) (hMa : rMn r a < 100) (hMb : rMn r b < 100) : Met l yX6_areShaped (px_w yX6_areShaped cX6_areShaped 3 (some .boolean)) (rmd 1 0 0) (px_P D cy [.ref (G 0), .int (nI a), .int (nI b)] sz (MR D cy A G r C E)) (px_V (some (.int (b2i (f_shaped r a b))))) 0 0 (fun _ => False) := by
  refine px_met (by decide) (Nat.le_of_ble_eq_true rfl) ?_
  intro p e s m below meth c F hr hlocks hnm hK hsz hR ls hl
  have hx := F.1
  have hb := F.2.1
  have hl : lv_has ls 3 [(0, .ref (G 0)), (1, .int (nI a)), (2, .int (nI b))] := hl
  refine lv_iload_n hx hb dX6_areShaped_0 rfl (lv_at hl 1 rfl) ?_
  refine lv_if_eq (tgt := 42) hx hb dX6_areShaped_1 (by decide) (fun h_1 => ?_) (fun h_1 => ?_)
  · have h_1 : a = 0 := nIeq (show nI a = nI 0 from h_1) (by omega) (by omega)
    refine lv_iconst (v := 0) hx hb dX6_areShaped_42 (by decide) ?_
    exact pv_zret F hr hlocks (Or.inl rfl) (by simp [f_shaped, b2i] <;> omega) dX6_areShaped_43
  · have h_1 : ¬ a = 0 := nIne (show ¬ nI a = nI 0 from h_1)
    refine lv_iload_n hx hb dX6_areShaped_4 rfl (lv_at hl 2 rfl) ?_
    refine lv_if_eq (tgt := 42) hx hb dX6_areShaped_5 (by decide) (fun h_5 => ?_) (fun h_5 => ?_)
    · have h_5 : b = 0 := nIeq (show nI b = nI 0 from h_5) (by omega) (by omega)
      refine lv_iconst (v := 0) hx hb dX6_areShaped_42 (by decide) ?_
      exact pv_zret F hr hlocks (Or.inl rfl) (by simp [f_shaped, b2i] <;> omega) dX6_areShaped_43
    · have h_5 : ¬ b = 0 := nIne (show ¬ nI b = nI 0 from h_5)
      refine lv_aload_n hx hb dX6_areShaped_8 rfl (lv_at hl 0 rfl) ?_
      refine m_get F hK hR 1 (by decide) rfl kw_fieldLink_RX6_7 dX6_areShaped_9 ?_
      refine lv_iload_n hx hb dX6_areShaped_12 rfl (lv_at hl 1 rfl) ?_
      refine m_ldK F hK hR a rfl (by omega) dX6_areShaped_13 ?_
      refine lv_aload_n hx hb dX6_areShaped_14 rfl (lv_at hl 0 rfl) ?_
      refine m_get F hK hR 1 (by decide) rfl kw_fieldLink_RX6_7 dX6_areShaped_15 ?_
      refine lv_iload_n hx hb dX6_areShaped_18 rfl (lv_at hl 2 rfl) ?_
      refine m_ldK F hK hR b rfl (by omega) dX6_areShaped_19 ?_
      refine lv_icmp_ne (tgt := 42) hx hb dX6_areShaped_20 (by decide) (fun h_20 => ?_) (fun h_20 => ?_)
      · have h_20 : ¬ (rK r a) = (rK r b) := nIne (show ¬ nI (rK r a) = nI (rK r b) from h_20)
        refine lv_iconst (v := 0) hx hb dX6_areShaped_42 (by decide) ?_
        exact pv_zret F hr hlocks (Or.inl rfl) (by simp [f_shaped, b2i] <;> omega) dX6_areShaped_43
      · have h_20 : (rK r a) = (rK r b) := nIeq (show nI (rK r a) = nI (rK r b) from h_20) (by omega) (by omega)
        refine lv_aload_n hx hb dX6_areShaped_23 rfl (lv_at hl 0 rfl) ?_
        refine m_get F hK hR 2 (by decide) rfl kw_fieldLink_RX6_13 dX6_areShaped_24 ?_
        refine lv_iload_n hx hb dX6_areShaped_27 rfl (lv_at hl 1 rfl) ?_
        refine m_ldMn F hK hR a rfl (by omega) dX6_areShaped_28 ?_
        refine lv_aload_n hx hb dX6_areShaped_29 rfl (lv_at hl 0 rfl) ?_
        refine m_get F hK hR 2 (by decide) rfl kw_fieldLink_RX6_13 dX6_areShaped_30 ?_
        refine lv_iload_n hx hb dX6_areShaped_33 rfl (lv_at hl 2 rfl) ?_
        refine m_ldMn F hK hR b rfl (by omega) dX6_areShaped_34 ?_
        refine lv_icmp_ne (tgt := 42) hx hb dX6_areShaped_35 (by decide) (fun h_35 => ?_) (fun h_35 => ?_)
        · have h_35 : ¬ (rMn r a) = (rMn r b) := nIne (show ¬ nI (rMn r a) = nI (rMn r b) from h_35)
          refine lv_iconst (v := 0) hx hb dX6_areShaped_42 (by decide) ?_
          exact pv_zret F hr hlocks (Or.inl rfl) (by simp [f_shaped, b2i] <;> omega) dX6_areShaped_43
        · have h_35 : (rMn r a) = (rMn r b) := nIeq (show nI (rMn r a) = nI (rMn r b) from h_35) (by omega) (by omega)
          refine lv_iconst (v := 1) hx hb dX6_areShaped_38 (by decide) ?_
          refine lv_goto (tgt := 43) hx hb dX6_areShaped_39 (by decide) ?_
          exact pv_zret F hr hlocks (Or.inr rfl) (by simp [f_shaped, b2i] <;> omega) dX6_areShaped_43
/-- a table that is being made: k of its n items are there -/
def tbl (r : RS) (kd n k : Nat) : RS := (rT r + 1, va_up (rK r) (rT r + 1) kd, va_up (rMn r) (rT r + 1) n, va_up (rS r) (rT r + 1) (rN r), rN r + k, f_zero (rI r) (rN r) k, rM r, rTN r, rIM r, rHd r, rTr r, rPa r, rNu r, rFa r)
theorem tbl_0 (r : RS) (kd n : Nat) : tbl r kd n 0 = (rT r + 1, va_up (rK r) (rT r + 1) kd, va_up (rMn r) (rT r + 1) n, va_up (rS r) (rT r + 1) (rN r), rN r, rI r, rM r, rTN r, rIM r, rHd r, rTr r, rPa r, rNu r, rFa r) := by rw [tbl, f_zero_0]; rfl
theorem tbl_s (r : RS) (kd n k : Nat) : tbl r kd n (k + 1) = (rT r + 1, va_up (rK r) (rT r + 1) kd, va_up (rMn r) (rT r + 1) n, va_up (rS r) (rT r + 1) (rN r), rN r + k + 1, va_up (f_zero (rI r) (rN r) k) (rN r + k) 0, rM r, rTN r, rIM r, rHd r, rTr r, rPa r, rNu r, rFa r) := by rw [tbl, f_zero_s]; rfl
set_option maxHeartbeats 400000 in
set_option maxRecDepth 100000 in
theorem c_X6_table (l : Launch) (D : va_G) (cy : Nat → ClassId) (A : Nat → Prop) (G : Nat → Nat) (r : RS) (C : Nat → Nat) (E : Nat → Int64) (sz : Nat) (kd n : Nat) (hT : rT r + 1 < 13000) (hN : rN r + n ≤ 12200) (hkd : kd < 128) (hn : n < 128) : Met l yX6_table (px_w yX6_table cX6_table 4 (some .int)) (rmd 1 0 0) (px_P D cy [.ref (G 0), .int (nI kd), .int (nI n)] sz (MR D cy A G r C E)) (px_Q (px_Mx D cy A G (some (.int (nI (rT r + 1)))) (f_table r kd n) (C) (E)) A) 0 0 A := by
  refine px_met (by decide) (Nat.le_of_ble_eq_true rfl) ?_
  intro p e s m below meth c F hr hlocks hnm hK hsz hR ls hl
  have hx := F.1
  have hb := F.2.1
  have hl : lv_has ls 4 [(0, .ref (G 0)), (1, .int (nI kd)), (2, .int (nI n))] := hl
  have hS : va_S A s.heap s.heap [] := va_S.rf
  refine lv_aload_n hx hb dX6_table_0 rfl (lv_at hl 0 rfl) ?_
  refine lv_dup hx hb dX6_table_1 rfl ?_
  refine m_get F hK hR 0 (by decide) rfl kw_fieldLink_RX6_47 dX6_table_2 ?_
  refine lv_iconst (v := 1) hx hb dX6_table_5 (by decide) ?_
  refine lv_iadd hx hb dX6_table_6 ?_
  refine px_topi (y := nI ((rT r) + 1)) (nI_add _ _) ?_
  refine m_put F hK hR hS 0 (by decide) (v := nI ((rT r) + 1)) rfl (sT r ((rT r) + 1)) rfl kw_fieldLink_RX6_47 rfl rfl dX6_table_7 (fun H locs hR hS => ?_)
  refine lv_aload_n hx hb dX6_table_10 rfl (lv_at hl 0 rfl) ?_
  refine m_get F hK hR 1 (by decide) rfl kw_fieldLink_RX6_7 dX6_table_11 ?_
  refine lv_aload_n hx hb dX6_table_14 rfl (lv_at hl 0 rfl) ?_
  refine m_get F hK hR 0 (by decide) rfl kw_fieldLink_RX6_47 dX6_table_15 ?_
  refine lv_iload_n hx hb dX6_table_18 rfl (lv_at hl 1 rfl) ?_
  refine lv_i2b (v := nI kd) hx hb dX6_table_19 (nI_b8 _ (by omega)) ?_
  refine m_stK F hK hR hS ((rT r) + 1) kd rfl rfl (by omega) (by omega) dX6_table_20 (fun H locs hR hS => ?_)
  refine lv_aload_n hx hb dX6_table_21 rfl (lv_at hl 0 rfl) ?_
  refine m_get F hK hR 2 (by decide) rfl kw_fieldLink_RX6_13 dX6_table_22 ?_
  refine lv_aload_n hx hb dX6_table_25 rfl (lv_at hl 0 rfl) ?_
  refine m_get F hK hR 0 (by decide) rfl kw_fieldLink_RX6_47 dX6_table_26 ?_
  refine lv_iload_n hx hb dX6_table_29 rfl (lv_at hl 2 rfl) ?_
  refine lv_i2b (v := nI n) hx hb dX6_table_30 (nI_b8 _ (by omega)) ?_
  refine m_stMn F hK hR hS ((rT r) + 1) n rfl rfl (by omega) (by omega) dX6_table_31 (fun H locs hR hS => ?_)
  refine lv_aload_n hx hb dX6_table_32 rfl (lv_at hl 0 rfl) ?_
  refine m_get F hK hR 3 (by decide) rfl kw_fieldLink_RX6_16 dX6_table_33 ?_
  refine lv_aload_n hx hb dX6_table_36 rfl (lv_at hl 0 rfl) ?_
  refine m_get F hK hR 0 (by decide) rfl kw_fieldLink_RX6_47 dX6_table_37 ?_
  refine lv_aload_n hx hb dX6_table_40 rfl (lv_at hl 0 rfl) ?_
  refine m_get F hK hR 4 (by decide) rfl kw_fieldLink_RX6_50 dX6_table_41 ?_
  refine m_stS F hK hR hS ((rT r) + 1) (rN r) rfl rfl (by omega) dX6_table_44 (fun H locs hR hS => ?_)
  refine lv_iconst (v := 0) hx hb dX6_table_45 (by decide) ?_
  refine lv_istore_n (lv' := [(3, .int 0), (0, .ref (G 0)), (1, .int (nI kd)), (2, .int (nI n))]) hx hb dX6_table_46 rfl hl (by decide) rfl (fun ls hl => ?_)
  have loop : ∀ (d k : Nat), k + d = n → ∀ (H : Heap) (locs : List Loc) (ls : Array Slot), MR D cy A G (tbl r kd n k) (C) (E) H → va_S A s.heap H locs → lv_has ls 4 [(3, .int (nI k)), (0, .ref (G 0)), (1, .int (nI kd)), (2, .int (nI n))] → W p l e (rmd 1 0 0) s m ([.ref (G 0), .int (nI kd), .int (nI n)] : List Value).toArray below meth c H locs 0 0 (MQ below (px_Q (px_Mx D cy A G (some (.int (nI (rT r + 1)))) (f_table r kd n) (C) (E)) A) ([.ref (G 0), .int (nI kd), .int (nI n)] : List Value).toArray s 0 0 A) (F0 m 47 ls []) := by
    intro d
    induction d with
    | zero =>
      intro k hk H locs ls hR hS hl
      refine lv_iload_n hx hb dX6_table_47 rfl (lv_at hl 0 rfl) ?_
      refine lv_iload_n hx hb dX6_table_48 rfl (lv_at hl 3 rfl) ?_
      refine lv_icmp_ge (tgt := 78) hx hb dX6_table_49 (by decide) (fun h_49 => ?_) (fun h_49 => by exfalso; have h_49 : k < n := nInle (show ¬ nI n ≤ nI k from h_49) (by omega) (by omega); omega)
      have h_49 : n ≤ k := nIle (show nI n ≤ nI k from h_49) (by omega) (by omega)
      refine lv_aload_n hx hb dX6_table_78 rfl (lv_at hl 1 rfl) ?_
      refine m_get F hK hR 0 (by decide) rfl kw_fieldLink_RX6_47 dX6_table_79 ?_
      exact px_iret F hr hlocks hS (by have hkn : k = n := (by omega); subst hkn; exact ⟨rfl, hR⟩) dX6_table_82
    | succ d ih_loop =>
      intro k hk H locs ls hR hS hl
      refine lv_iload_n hx hb dX6_table_47 rfl (lv_at hl 0 rfl) ?_
      refine lv_iload_n hx hb dX6_table_48 rfl (lv_at hl 3 rfl) ?_
      refine lv_icmp_ge (tgt := 78) hx hb dX6_table_49 (by decide) (fun h_49 => by exfalso; have h_49 : n ≤ k := nIle (show nI n ≤ nI k from h_49) (by omega) (by omega); omega) (fun h_49 => ?_)
      have h_49 : k < n := nInle (show ¬ nI n ≤ nI k from h_49) (by omega) (by omega)
      refine lv_aload_n hx hb dX6_table_52 rfl (lv_at hl 1 rfl) ?_
      refine m_get F hK hR 5 (by decide) rfl kw_fieldLink_RX6_20 dX6_table_53 ?_
      refine lv_aload_n hx hb dX6_table_56 rfl (lv_at hl 1 rfl) ?_
      refine m_get F hK hR 4 (by decide) rfl kw_fieldLink_RX6_50 dX6_table_57 ?_
      refine lv_lconst (v := 0) hx hb dX6_table_60 (by decide) ?_
      refine m_stI F hK hR hS (rN r + k) 0 rfl rfl (by omega) dX6_table_61 (fun H locs hR hS => ?_)
      refine lv_aload_n hx hb dX6_table_62 rfl (lv_at hl 1 rfl) ?_
      refine lv_dup hx hb dX6_table_63 rfl ?_
      refine m_get F hK hR 4 (by decide) rfl kw_fieldLink_RX6_50 dX6_table_64 ?_
      refine lv_iconst (v := 1) hx hb dX6_table_67 (by decide) ?_
      refine lv_iadd hx hb dX6_table_68 ?_
      refine px_topi (y := nI ((rN r + k) + 1)) (nI_add _ _) ?_
      refine m_put F hK hR hS 4 (by decide) (v := nI ((rN r + k) + 1)) rfl (sN (sI (tbl r kd n k) (va_up (rI (tbl r kd n k)) (rN r + k) 0)) ((rN r + k) + 1)) rfl kw_fieldLink_RX6_50 rfl rfl dX6_table_69 (fun H locs hR hS => ?_)
      refine lv_iinc (v := nI (k + 1)) (lv' := [(3, .int (nI (k + 1))), (0, .ref (G 0)), (1, .int (nI kd)), (2, .int (nI n))]) hx hb dX6_table_72 hl (k := 0) rfl (by show nI k + 1 = nI (k + 1); exact nI_1 _) (by decide) rfl (fun ls hl => ?_)
      refine lv_goto (tgt := 47) hx hb dX6_table_75 (by decide) ?_
      exact ih_loop (k + 1) (by omega) _ _ _ (by rw [tbl_s]; exact hR) hS (lv_sub hl [0, 1, 2, 3] rfl)
  exact loop n 0 (by omega) _ _ _ (by rw [tbl_0]; exact hR) hS (lv_sub hl [0, 1, 2, 3] rfl)
end
section
/-! the pure functions, 2: the public methods; the invariant -/
def ix (v : Int32) : Nat := v.toNatClampNeg
theorem ix_nI {n : Nat} (h : n < 2 ^ 31) : ix (nI n) = n := nI_clamp h
def iv (v : Int64) : Nat := v.toInt.toNat
theorem iv_lN {n : Nat} (h : n < 2 ^ 31) : iv (lN n) = n := by rw [iv, lN_toInt h]; rfl
def psum (f : Nat → Nat) : Nat → Nat
  | 0 => 0
  | n + 1 => psum f n + f (n + 1)
/-- an item of a table of kind kd -/
def f_ok (r : RS) (kd : Nat) (v : Int64) : Prop := kd ≤ 7 ∨ ∃ w : Nat, v = lN w ∧ (w = 0 ∨ (kd = 8 ∧ w ≤ rM r) ∨ (kd = 9 ∧ w ≤ rM r ∧ rIM r w = true) ∨ (10 ≤ kd ∧ w ≤ rT r ∧ f_isOf r w (rkN kd) = true))
def Inv (k : Nat) (r : RS) : Prop := k ≤ 512 ∧ rT r ≤ rN r + k ∧ rN r ≤ 12000 ∧ rM r ≤ k ∧ (∀ t, t ≤ rT r → rK r t ≤ 13 ∧ rMn r t ≤ 30 ∧ rS r t + rMn r t ≤ rN r) ∧ (∀ t, 1 ≤ t → t ≤ rT r → rS r t = psum (rMn r) (t - 1)) ∧ rN r = psum (rMn r) (rT r) ∧ (∀ c, c < 16 → rHd r c ≤ rT r) ∧ (∀ t, 1 ≤ t → t ≤ rT r → ∀ j, j < rMn r t → f_ok r (rK r t) (f_at r t j))
theorem Inv.bd {k : Nat} {r : RS} (h : Inv k r) : rT r ≤ 12512 ∧ rN r ≤ 12000 ∧ rM r ≤ 512 := by
  obtain ⟨h1, h2, h3, h4, -⟩ := h
  omega
theorem Inv.tb {k : Nat} {r : RS} (h : Inv k r) (t : Nat) (ht : t ≤ rT r) : rK r t ≤ 13 ∧ rMn r t ≤ 30 ∧ rS r t + rMn r t ≤ rN r := h.2.2.2.2.1 t ht
theorem Inv.hd {k : Nat} {r : RS} (h : Inv k r) (c : Nat) (hc : c < 16) : rHd r c ≤ rT r := h.2.2.2.2.2.2.2.1 c hc
theorem f_in_nat {v lo hi : Int32} (h : f_in v lo hi = true) (a b : Nat) (ha : lo = nI a) (hb : hi = nI b) (ha2 : a < 2 ^ 31) (hb2 : b < 2 ^ 31) : ∃ n : Nat, a ≤ n ∧ n ≤ b ∧ v = nI n := by
  subst ha; subst hb
  simp only [f_in, Bool.and_eq_true, Bool.not_eq_true', decide_eq_false_iff_not] at h
  have h0 : ¬ v < 0 := by
    intro q
    apply h.1
    have := nI_pos' ha2
    exact Int32.lt_of_lt_of_le q this
  obtain ⟨n, hn, rfl⟩ := nI_of h0
  exact ⟨n, nInlt h.1 hn ha2, nInlt h.2 hb2 hn, rfl⟩
theorem le_nat {v hi : Int32} (b : Nat) (h0 : ¬ v < 0) (h : ¬ hi < v) (hb : hi = nI b) (hb2 : b < 2 ^ 31) : ∃ n : Nat, n ≤ b ∧ v = nI n := by
  subst hb
  obtain ⟨n, hn, rfl⟩ := nI_of h0
  exact ⟨n, nInlt h hb2 hn, rfl⟩
theorem looked_0 {r : RS} {t : Nat} {i : Int32} (h : f_looked r t i = 0) (hm : rMn r t ≤ 30) : t ≠ 0 ∧ ∃ j, j < rMn r t ∧ i = nI j := by
  unfold f_looked at h
  by_cases ht : t = 0
  · rw [if_pos ht] at h; cases h
  · rw [if_neg ht] at h
    refine ⟨ht, ?_⟩
    by_cases hf : f_in i 0 (nI (rMn r t) - 1) = true
    · simp only [f_in, Bool.and_eq_true, Bool.not_eq_true', decide_eq_false_iff_not] at hf
      obtain ⟨j, hj, rfl⟩ := nI_of hf.1
      refine ⟨j, ?_, rfl⟩
      have h2 := hf.2
      rw [Int32.not_lt, Int32.le_iff_toInt_le] at h2
      have e : (nI (rMn r t) - 1 : Int32).toInt = (rMn r t : Int) - 1 := pk_sub_toInt (a := rMn r t) (b := 1) (by omega) (by omega)
      rw [e, nI_toInt hj] at h2
      omega
    · rw [if_neg hf] at h; cases h
theorem looked_le (r : RS) (t : Nat) (i : Int32) : f_looked r t i ≤ 3 := by
  unfold f_looked
  split
  · omega
  · split <;> omega
def f_make (r : RS) (c k n : Int32) : RS × Int32 := if !(f_in c 0 15) || !(f_in k 0 13) || decide (30 < n) then (r, -2) else if 6000 ≤ rN r then (r, -3) else if n < 0 then (r, -14) else (sHd (f_table r (ix k) (ix n)) (va_up (rHd r) (ix c) (rT r + 1)), 1)
def dp_in (row l : Nat) (r : RS) : Nat → RS
  | 0 => r
  | j + 1 => f_put (f_table (dp_in row l r j) 4 l) row j (lN (rT (dp_in row l r j) + 1))
def dp_row (kd m l t0 i : Nat) (r : RS) : RS := if kd = 13 then dp_in (rT r + 1) l (f_put (f_table r (rkN kd) m) t0 i (lN (rT r + 1))) m else f_put (f_table r (rkN kd) m) t0 i (lN (rT r + 1))
def dp_out (kd m l t0 : Nat) (r : RS) : Nat → RS
  | 0 => r
  | i + 1 => dp_row kd m l t0 i (dp_out kd m l t0 r i)
def f_deepT (r : RS) (kd n m l : Nat) : RS := dp_out kd m l (rT r + 1) (f_table r kd n) n
def f_below (k n m l : Int32) : Bool := decide (n < 0) || decide (m < 0) || (decide (k = 13) && decide (l < 0))
def f_prod (k n m l : Int32) : Int32 := if f_below k n m l then 0 else if k = 13 then n * m * l else n * m
def f_deep (r : RS) (c k n m l : Int32) : RS × Int32 := if !(f_in c 0 15) || !(f_in k 10 13) || decide (30 < n) || decide (30 < m) || (decide (k = 13) && decide (30 < l)) then (r, -2) else if 400 < f_prod k n m l then (r, -2) else if 6000 ≤ rN r then (r, -3) else if f_below k n m l then (r, -14) else (sHd (f_deepT r (ix k) (ix n) (ix m) (ix l)) (va_up (rHd r) (ix c) (rT r + 1)), 1)
def f_share (r : RS) (c f : Int32) : RS × Int32 := if !(f_in c 0 15) || !(f_in f 0 15) then (r, -2) else (sHd r (va_up (rHd r) (ix c) (rHd r (ix f))), 1)
def f_drop (r : RS) (c : Int32) : RS × Int32 := if !(f_in c 0 15) then (r, -2) else (sHd r (va_up (rHd r) (ix c) 0), if rHd r (ix c) = 0 then 0 else 1)
def f_kind (r : RS) (c : Int32) : Int32 := if !(f_in c 0 15) then -2 else if rHd r (ix c) = 0 then -1 else nI (rK r (rHd r (ix c)))
def f_length (r : RS) (c k : Int32) : Int32 := if !(f_in c 0 15) || !(f_in k 0 13) then -2 else if !(f_isOf r (rHd r (ix c)) (ix k)) then -12 else if rHd r (ix c) = 0 then -11 else nI (rMn r (rHd r (ix c)))
def f_itemOf (r : RS) (t : Nat) (i : Int32) (b : Nat) : RS × Int64 := if ¬ (if b = 0 then f_looked r t i else b) = 0 then (sFa r (nI (if b = 0 then f_looked r t i else b)), 0) else if rK r t = 8 ∨ rK r t = 9 then (if f_at r t (ix i) = 0 then (sFa r 1, 0) else (sFa r 0, (rTN r (iv (f_at r t (ix i)))).toInt64)) else (sFa r 0, f_at r t (ix i))
def f_read (r : RS) (c k i : Int32) : RS × Int64 := if !(f_in c 0 15) || !(f_in k 0 9) then (sFa r (-2), 0) else f_itemOf r (rHd r (ix c)) i (if f_isOf r (rHd r (ix c)) (ix k) then 0 else 2)
/-- what taking column c for kind k and looking at item i comes to -/
def f_no (r : RS) (t k : Nat) (i : Int32) : Nat := if f_isOf r t k then f_looked r t i else 2
def f_write (r : RS) (c k i : Int32) (b : Int64) : RS × Int32 := if !(f_in c 0 15) || !(f_in k 0 7) then (r, -2) else if ¬ f_no r (rHd r (ix c)) (ix k) i = 0 then (r, -10 - nI (f_no r (rHd r (ix c)) (ix k) i)) else (f_put r (rHd r (ix c)) (ix i) (f_cut (ix k) b), 1)
def f_newT (r : RS) (mk : Bool) (nu : Int32) : RS := (rT r, rK r, rMn r, rS r, rN r, rI r, rM r + 1, va_up (rTN r) (rM r + 1) nu, va_up (rIM r) (rM r + 1) mk, rHd r, rTr r, rPa r, rNu r, rFa r)
def f_thno (r : RS) (t : Nat) (i mk : Int32) : Nat := if f_no r t 8 i = 0 ∧ mk = 0 ∧ rK r t = 9 then 5 else f_no r t 8 i
def f_thing (r : RS) (c i mk nu : Int32) : RS × Int32 := if !(f_in c 0 15) || !(f_in mk 0 2) then (r, -2) else if mk < 2 ∧ 3000 ≤ rM r then (r, -3) else if ¬ f_thno r (rHd r (ix c)) i mk = 0 then (if mk < 2 then f_newT r (decide (mk = 1)) nu else r, -10 - nI (f_thno r (rHd r (ix c)) i mk)) else if mk < 2 then (f_put (f_newT r (decide (mk = 1)) nu) (rHd r (ix c)) (ix i) (lN (rM r + 1)), 1) else (f_put r (rHd r (ix c)) (ix i) 0, 1)
def f_marked (r : RS) (c i : Int32) : Int32 := if !(f_in c 0 15) then -2 else if ¬ f_no r (rHd r (ix c)) 8 i = 0 then -10 - nI (f_no r (rHd r (ix c)) 8 i) else if f_at r (rHd r (ix c)) (ix i) = 0 then 0 else b2i (rIM r (iv (f_at r (rHd r (ix c)) (ix i))))
def f_cell (r : RS) (c k i j : Int32) : RS × Int64 := if !(f_in c 0 15) || !(f_in k 10 12) then (sFa r (-2), 0) else f_itemOf r (if f_no r (rHd r (ix c)) (ix k) i = 0 then iv (f_at r (rHd r (ix c)) (ix i)) else 0) j (f_no r (rHd r (ix c)) (ix k) i)
def f_rowno (r : RS) (t : Nat) (i j : Int32) (no : Nat) : Nat := if no = 0 then f_looked r (iv (f_at r t (ix i))) j else no
def f_set (r : RS) (c k i j : Int32) (b : Int64) : RS × Int32 := if !(f_in c 0 15) || !(f_in k 10 11) then (r, -2) else if ¬ f_rowno r (rHd r (ix c)) i j (f_no r (rHd r (ix c)) (ix k) i) = 0 then (r, -10 - nI (f_rowno r (rHd r (ix c)) i j (f_no r (rHd r (ix c)) (ix k) i))) else (f_put r (iv (f_at r (rHd r (ix c)) (ix i))) (ix j) (f_cut (rkN (ix k)) b), 1)
def f_deepest (r : RS) (c i j k : Int32) : RS × Int64 := if !(f_in c 0 15) then (sFa r (-2), 0) else f_itemOf r (if f_rowno r (rHd r (ix c)) i j (f_no r (rHd r (ix c)) 13 i) = 0 then iv (f_at r (iv (f_at r (rHd r (ix c)) (ix i))) (ix j)) else 0) k (f_rowno r (rHd r (ix c)) i j (f_no r (rHd r (ix c)) 13 i))
def f_rno (r : RS) (t f k : Nat) (i : Int32) : Nat := if f_isOf r t k && f_isOf r f (rkN k) then f_looked r t i else 2
def f_row (r : RS) (c k i f : Int32) : RS × Int32 := if !(f_in c 0 15) || !(f_in k 10 13) || !(f_in f 0 15) then (r, -2) else if ¬ f_rno r (rHd r (ix c)) (rHd r (ix f)) (ix k) i = 0 then (r, -10 - nI (f_rno r (rHd r (ix c)) (rHd r (ix f)) (ix k) i)) else (f_put r (rHd r (ix c)) (ix i) (lN (rHd r (ix f))), 1)
def f_take (r : RS) (c f k i : Int32) : RS × Int32 := if !(f_in c 0 15) || !(f_in f 0 15) || !(f_in k 10 13) then (r, -2) else if ¬ f_no r (rHd r (ix f)) (ix k) i = 0 then (r, -10 - nI (f_no r (rHd r (ix f)) (ix k) i)) else (sHd r (va_up (rHd r) (ix c) (iv (f_at r (rHd r (ix f)) (ix i)))), 1)
/-- k items from a on come to b -/
def cpyI (I : Nat → Int64) (a b : Nat) : Nat → (Nat → Int64)
  | 0 => I
  | k + 1 => va_up (cpyI I a b k) (b + k) (cpyI I a b k (a + k))
abbrev f_cpy (r : RS) (t u k : Nat) : RS := sI r (cpyI (rI r) (rS r t) (rS r u) k)
def f_grow (r : RS) (c n : Int32) : RS × Int32 := if !(f_in c 0 15) || decide (30 < n) then (r, -2) else if 6000 ≤ rN r then (r, -3) else if rHd r (ix c) = 0 then (r, -11) else if n < 0 then (r, -14) else (sHd (f_cpy (f_table r (rK r (rHd r (ix c))) (ix n)) (rHd r (ix c)) (rT r + 1) (min (ix n) (rMn r (rHd r (ix c))))) (va_up (rHd r) (ix c) (rT r + 1)), 1)
def f_canStand (r : RS) (a : Nat) (v : Int64) (b : Nat) : Bool := if rK r b < 8 ∨ v = 0 then true else if rK r a < 10 then (decide (rK r b = 8) || (decide (rK r b = 9) && rIM r (iv v))) else decide (10 ≤ rK r b) && f_isOf r (iv v) (rkN (rK r b))
/-- items v 0 .. come to s on, as long as they can stand there -/
def comI (can : Int64 → Bool) (s n : Nat) (v : Nat → Int64) : Nat → (Nat → Int64) → (Nat → Int64) × Int32
  | 0, I => (I, nI n)
  | d + 1, I => if can (v (n - (d + 1))) then comI can s n v d (va_up I (s + (n - (d + 1))) (v (n - (d + 1)))) else (I, -15)
def f_come (r : RS) (a b j n : Nat) (v : Nat → Int64) : RS × Int32 := (sI r (comI (fun x => f_canStand r a x b) (rS r b + j) n v n (rI r)).1, (comI (fun x => f_canStand r a x b) (rS r b + j) n v n (rI r)).2)
def f_cpo (r : RS) (a b : Nat) (i j n : Int32) : Bool := decide (i < 0) || decide (j < 0) || decide (n < 0) || decide (nI (rMn r a) - i < n) || decide (nI (rMn r b) - j < n)
def f_copy (r : RS) (c i o j n : Int32) : RS × Int32 := if !(f_in c 0 15) || !(f_in o 0 15) then (r, -2) else if rHd r (ix c) = 0 ∨ rHd r (ix o) = 0 then (r, -11) else if f_unlike r (rHd r (ix c)) (rHd r (ix o)) then (r, -15) else if f_cpo r (rHd r (ix c)) (rHd r (ix o)) i j n then (r, -13) else f_come r (rHd r (ix c)) (rHd r (ix o)) (ix j) (ix n) (fun q => f_at r (rHd r (ix c)) (ix i + q))
def filI (I : Nat → Int64) (a : Nat) (v : Int64) : Nat → (Nat → Int64)
  | 0 => I
  | k + 1 => va_up (filI I a v k) (a + k) v
abbrev f_fil (r : RS) (t : Nat) (v : Int64) (k : Nat) : RS := sI r (filI (rI r) (rS r t) v k)
def f_fill (r : RS) (c k : Int32) (b : Int64) : RS × Int32 := if !(f_in c 0 15) || !(f_in k 0 7) then (r, -2) else if !(f_isOf r (rHd r (ix c)) (ix k)) then (r, -12) else if rHd r (ix c) = 0 then (r, -11) else (f_fil r (rHd r (ix c)) (f_cut (ix k) b) (rMn r (rHd r (ix c))), nI (rMn r (rHd r (ix c))))
def f_cnt (f : Nat → Nat) : Nat → Nat
  | 0 => 0
  | k + 1 => f_cnt f k + f k
def f_fsz (r : RS) (t : Nat) : Nat := if t = 0 then 0 else if rK r t < 8 then rMn r t else f_cnt (fun k => if f_at r t k = 0 then 0 else 1) (rMn r t)
def f_msz (r : RS) (t : Nat) : Nat := if t = 0 ∨ rK r t < 10 then f_fsz r t else f_cnt (fun k => f_fsz r (iv (f_at r t k))) (rMn r t)
def f_tsz (r : RS) (t : Nat) : Nat := if t = 0 ∨ rK r t < 13 then f_msz r t else f_cnt (fun k => f_msz r (iv (f_at r t k))) (rMn r t)
def f_size (r : RS) (c : Int32) : Int32 := if !(f_in c 0 15) then -2 else nI (f_tsz r (rHd r (ix c)))
def f_all (p : Nat → Bool) : Nat → Bool
  | 0 => true
  | k + 1 => f_all p k && p k
def f_fla (r : RS) (a b : Nat) : Bool := decide (a = b) || (f_shaped r a b && f_all (fun k => if rK r a < 8 then decide (f_at r a k = f_at r b k) else f_thl r (iv (f_at r a k)) (iv (f_at r b k))) (rMn r a))
def f_mla (r : RS) (a b : Nat) : Bool := decide (a = b) || (if a = 0 ∨ b = 0 ∨ rK r a < 10 then f_fla r a b else f_shaped r a b && f_all (fun k => f_fla r (iv (f_at r a k)) (iv (f_at r b k))) (rMn r a))
def f_tla (r : RS) (a b : Nat) : Bool := if a = 0 ∨ b = 0 ∨ rK r a < 13 then f_mla r a b else f_shaped r a b && f_all (fun k => f_mla r (iv (f_at r a k)) (iv (f_at r b k))) (rMn r a)
def f_alike (r : RS) (c o : Int32) : Int32 := if !(f_in c 0 15) || !(f_in o 0 15) then -2 else if rHd r (ix c) = rHd r (ix o) then 2 else b2i (f_tla r (rHd r (ix c)) (rHd r (ix o)))
def f_trouble (r : RS) (t n : Int32) : RS × Int32 := if !(f_in t 0 7) || decide (n < -1) then (r, -2) else (sTr r (va_up (rTr r) (ix t) n), rTr r (ix t))
def f_figs (n : Nat) : Nat → Int32
  | 0 => 0
  | k + 1 => 10 * f_figs n k + nI (n - k)
def f_raise (r : RS) (t f : Int32) : RS × Int32 := if !(f_in t 0 7) || !(f_in f 1 8) then (r, -2) else (sNu (sPa r (f_figs (ix f) (ix f))) (rTr r (ix t)), if rTr r (ix t) = -1 then -11 else -16)
def f_held (r : RS) : Nat := f_cnt (fun k => if rHd r k = 0 then 0 else 1) 16
def f_clear (r : RS) : RS × Int32 := ((rT r, rK r, rMn r, rS r, rN r, rI r, rM r, rTN r, rIM r, (fun k => if k < 16 then 0 else rHd r k), (fun k => if k < 8 then -1 else rTr r k), 0, -1, 0), nI (f_held r))
def f_told (r : RS) (w : Int32) : Int32 := if w = 0 then nI (f_held r) else if w = 1 then nI (rN r) else if w = 2 then nI (rM r) else -2
end
section
/-! base, 3: compares of longs; items that are numbers of tables or things -/
theorem lg_cmp_eq0 {x y : Int64} : lg_cmp x y = 0 ↔ x = y := by
  unfold lg_cmp
  by_cases h1 : y < x
  · have : x ≠ y := fun q => by rw [q] at h1; exact Int64.lt_irrefl h1
    simp [h1, this]
  · by_cases h2 : x = y
    · simp [h2]
    · simp [h1, h2]
theorem lg_cmp_le0 {x y : Int64} : lg_cmp x y ≤ 0 ↔ ¬ y < x := by
  unfold lg_cmp
  by_cases h1 : y < x
  · simp [h1]
  · by_cases h2 : x = y
    · simp [h2]
    · simp [h1, h2]
section PX3
variable {p : Program} {l : Launch} {e : Env} {R : Room} {s : State} {m : MethodId} {args : Array Value} {below : List Frame} {meth : Method} {c : Code} {H : Heap} {locs : List Loc} {cells slots : Nat} {Q : State → Prop} {cc : ByteArray} {pc nL : Nat} {ls : Array Slot} {rest : List Value}
theorem x_cmp_eq {x y : Int64} (hexec : p.tables.exec = Jvm.exec) (hb : c.code = cc) {off : Int} {tgt : Nat} (hdg : decode cc pc = .ok (.ifCond .eq off, 3)) (ht : (pc : Int) + off = (tgt : Int)) (kt : x = y → W p l e R s m args below meth c H locs cells slots Q (F0 m tgt ls rest)) (kf : ¬ x = y → W p l e R s m args below meth c H locs cells slots Q (F0 m (pc + 3) ls rest)) : W p l e R s m args below meth c H locs cells slots Q (F0 m pc ls (.int (lg_cmp x y) :: rest)) :=
  lv_if_eq hexec hb hdg ht (fun h => kt (lg_cmp_eq0.mp h)) (fun h => kf (fun q => h (lg_cmp_eq0.mpr q)))
theorem x_cmp_ne {x y : Int64} (hexec : p.tables.exec = Jvm.exec) (hb : c.code = cc) {off : Int} {tgt : Nat} (hdg : decode cc pc = .ok (.ifCond .ne off, 3)) (ht : (pc : Int) + off = (tgt : Int)) (kt : ¬ x = y → W p l e R s m args below meth c H locs cells slots Q (F0 m tgt ls rest)) (kf : x = y → W p l e R s m args below meth c H locs cells slots Q (F0 m (pc + 3) ls rest)) : W p l e R s m args below meth c H locs cells slots Q (F0 m pc ls (.int (lg_cmp x y) :: rest)) :=
  lv_if_ne hexec hb hdg ht (fun h => kt (fun q => h (lg_cmp_eq0.mpr q))) (fun h => kf (lg_cmp_eq0.mp h))
theorem x_cmp_le {x y : Int64} (hexec : p.tables.exec = Jvm.exec) (hb : c.code = cc) {off : Int} {tgt : Nat} (hdg : decode cc pc = .ok (.ifCond .le off, 3)) (ht : (pc : Int) + off = (tgt : Int)) (kt : ¬ y < x → W p l e R s m args below meth c H locs cells slots Q (F0 m tgt ls rest)) (kf : y < x → W p l e R s m args below meth c H locs cells slots Q (F0 m (pc + 3) ls rest)) : W p l e R s m args below meth c H locs cells slots Q (F0 m pc ls (.int (lg_cmp x y) :: rest)) :=
  lv_if_le hexec hb hdg ht (fun h => kt (lg_cmp_le0.mp h)) (fun h => kf (Decidable.of_not_not (fun q => h (lg_cmp_le0.mpr q))))
end PX3
theorem Inv.it {k : Nat} {r : RS} (h : Inv k r) {t j : Nat} (h1 : t ≠ 0) (ht : t ≤ rT r) (hj : j < rMn r t) (hk : 8 ≤ rK r t) : f_at r t j = lN (iv (f_at r t j)) ∧ iv (f_at r t j) ≤ 12512 ∧ (rK r t < 10 → iv (f_at r t j) ≤ rM r) ∧ (rK r t = 9 → iv (f_at r t j) ≠ 0 → rIM r (iv (f_at r t j)) = true) ∧ (10 ≤ rK r t → iv (f_at r t j) ≤ rT r ∧ (iv (f_at r t j) ≠ 0 → f_isOf r (iv (f_at r t j)) (rkN (rK r t)) = true)) := by
  have hb := h.bd
  have ho := h.2.2.2.2.2.2.2.2 t (by omega) ht j hj
  rcases ho with ho | ⟨w, hw, ho⟩
  · omega
  · have hw2 : w ≤ 12512 := by rcases ho with ho | ho | ho | ho <;> omega
    have e : iv (f_at r t j) = w := by rw [hw]; exact iv_lN (by omega)
    rw [e]
    refine ⟨hw, hw2, fun h10 => ?_, fun h9 hn => ?_, fun h10 => ?_⟩
    · rcases ho with ho | ho | ho | ho <;> omega
    · rcases ho with ho | ho | ho | ho
      · omega
      · omega
      · exact ho.2.2
      · omega
    · rcases ho with ho | ho | ho | ho
      · exact ⟨by omega, fun q => absurd ho q⟩
      · omega
      · omega
      · exact ⟨ho.2.1, fun _ => ho.2.2⟩
theorem isOf_k {r : RS} {w k : Nat} (h : f_isOf r w k = true) (hw : w ≠ 0) : rK r w = k ∨ (k = 8 ∧ rK r w = 9) := by
  simp only [f_isOf, Bool.or_eq_true, Bool.and_eq_true, decide_eq_true_eq] at h
  rcases h with h | h | h
  · exact absurd h hw
  · exact Or.inl h
  · exact Or.inr h
theorem le_nat2 {v hi : Int32} (b : Nat) (h0 : 0 ≤ v) (h : v ≤ hi) (hb : hi = nI b) (hb2 : b < 2 ^ 31) : ∃ n : Nat, n ≤ b ∧ v = nI n := le_nat b (Int32.not_lt.mpr h0) (Int32.not_lt.mpr h) hb hb2
theorem b2i_inj {a b : Bool} (h : b2i a = b2i b) : a = b := by cases a <;> cases b <;> simp_all [b2i]
theorem b2i_ninj {a b : Bool} (h : ¬ b2i a = b2i b) : ¬ a = b := fun q => h (by rw [q])
theorem rkN_le (k : Nat) : rkN k ≤ 10 := by
  unfold rkN
  split
  · omega
  · split
    · omega
    · split <;> omega
end
section
/-! the reference: the public methods, 1 -/
set_option maxHeartbeats 400000 in
set_option maxRecDepth 100000 in
theorem c_X6_itemOf (l : Launch) (D : va_G) (cy : Nat → ClassId) (A : Nat → Prop) (G : Nat → Nat) (r : RS) (C : Nat → Nat) (E : Nat → Int64) (sz : Nat) (t b : Nat) (i : Int32) {kk : Nat} (hI : Inv kk r) (ht : t ≤ rT r) (hb3 : b ≤ 3) : Met l yX6_itemOf (px_w yX6_itemOf cX6_itemOf 6 (some .long)) (rmd 3 0 0) (px_P D cy [.ref (G 0), .int (nI t), .int i, .int (nI b)] sz (MR D cy A G r C E)) (px_Q (px_M D cy A G (some (.long (f_itemOf r t i b).2)) ((f_itemOf r t i b).1)) A) 0 0 A := by
  refine px_met (by decide) (Nat.le_of_ble_eq_true rfl) ?_
  intro p e s m below meth c F hr hlocks hnm hK hsz hR ls hl
  have hx := F.1
  have hb := F.2.1
  have hl : lv_has ls 6 [(0, .ref (G 0)), (1, .int (nI t)), (2, .int i), (3, .int (nI b))] := hl
  have hS : va_S A s.heap s.heap [] := va_S.rf
  have hbd := hI.bd
  have hc1 := hI.tb t ht
  have hlk := looked_le r t i
  refine lv_aload_n hx hb dX6_itemOf_0 rfl (lv_at hl 0 rfl) ?_
  refine lv_iload_n hx hb dX6_itemOf_1 rfl (lv_at hl 3 rfl) ?_
  refine lv_if_eq (tgt := 9) hx hb dX6_itemOf_2 (by decide) (fun h_2 => ?_) (fun h_2 => ?_)
  · have h_2 : b = 0 := nIeq (show nI b = nI 0 from h_2) (by omega) (by omega)
    refine lv_aload_n hx hb dX6_itemOf_9 rfl (lv_at hl 0 rfl) ?_
    refine lv_iload_n hx hb dX6_itemOf_10 rfl (lv_at hl 1 rfl) ?_
    refine lv_iload_n hx hb dX6_itemOf_11 rfl (lv_at hl 2 rfl) ?_
    refine px_goV (st1 := [.int (nI (f_looked r t i)), .ref (G 0)]) (px_callV F hK (c_X6_looked l D cy A G r _ _ _ t i (by omega)) kc_X6_looked kw_methodLink_RX6_108 rfl hR (m_recv hK hR) rfl ⟨rfl, rfl⟩ ⟨Nat.le_of_ble_eq_true rfl, Nat.le_of_ble_eq_true rfl⟩ hl.1 rfl (Nat.le_of_ble_eq_true rfl) dX6_itemOf_12 ⟨Nat.zero_le _, Nat.zero_le _⟩) rfl ?_
    refine m_put F hK hR hS 13 (by decide) (v := nI (f_looked r t i)) rfl (sFa r (nI (f_looked r t i))) rfl kw_fieldLink_RX6_111 rfl rfl dX6_itemOf_15 (fun H locs hR hS => ?_)
    refine lv_aload_n hx hb dX6_itemOf_18 rfl (lv_at hl 0 rfl) ?_
    refine m_get F hK hR 13 (by decide) rfl kw_fieldLink_RX6_111 dX6_itemOf_19 ?_
    refine lv_if_eq (tgt := 27) hx hb dX6_itemOf_22 (by decide) (fun h_22 => ?_) (fun h_22 => ?_)
    · have h_22 : (f_looked r t i) = 0 := nIeq (show nI (f_looked r t i) = nI 0 from h_22) (by omega) (by omega)
      obtain ⟨ht0_j, j, hj_j, rfl⟩ := looked_0 h_22 (by omega)
      refine lv_aload_n hx hb dX6_itemOf_27 rfl (lv_at hl 0 rfl) ?_
      refine lv_iload_n hx hb dX6_itemOf_28 rfl (lv_at hl 1 rfl) ?_
      refine lv_iload_n hx hb dX6_itemOf_29 rfl (lv_at hl 2 rfl) ?_
      refine px_goV (st1 := [.long (f_at r t j)]) (px_callV F hK (c_X6_at l D cy A G (sFa r (nI (f_looked r t (nI j)))) _ _ _ t j (by omega) (show rS r t + j < 12200 by omega)) kc_X6_at kw_methodLink_RX6_80 rfl hR (m_recv hK hR) rfl ⟨rfl, rfl⟩ ⟨Nat.le_of_ble_eq_true rfl, Nat.le_of_ble_eq_true rfl⟩ hl.1 rfl (Nat.le_of_ble_eq_true rfl) dX6_itemOf_30 ⟨Nat.zero_le _, Nat.zero_le _⟩) rfl ?_
      refine lv_lstore (lv' := [(4, .long (f_at r t j)), (0, .ref (G 0)), (1, .int (nI t)), (2, .int (nI j)), (3, .int (nI b))]) hx hb dX6_itemOf_33 hl (by decide) rfl (fun ls hl => ?_)
      refine lv_aload_n hx hb dX6_itemOf_35 rfl (lv_at hl 1 rfl) ?_
      refine m_get F hK hR 1 (by decide) rfl kw_fieldLink_RX6_7 dX6_itemOf_36 ?_
      refine lv_iload_n hx hb dX6_itemOf_39 rfl (lv_at hl 2 rfl) ?_
      refine m_ldK F hK hR t rfl (by omega) dX6_itemOf_40 ?_
      refine lv_bipush (v := 8) hx hb dX6_itemOf_41 (by decide) ?_
      refine lv_icmp_eq (tgt := 57) hx hb dX6_itemOf_43 (by decide) (fun h_43 => ?_) (fun h_43 => ?_)
      · have h_43 : (rK r t) = 8 := nIeq (show nI (rK r t) = nI 8 from h_43) (by omega) (by omega)
        refine lv_aload_n hx hb dX6_itemOf_57 rfl (lv_at hl 1 rfl) ?_
        refine lv_lload hx hb dX6_itemOf_58 (lv_at hl 0 rfl) ?_
        refine lv_lconst (v := 0) hx hb dX6_itemOf_60 (by decide) ?_
        refine W.lcmp hx hb dX6_itemOf_61 ?_
        refine x_cmp_ne (tgt := 69) hx hb dX6_itemOf_62 (by decide) (fun h_62 => ?_) (fun h_62 => ?_)
        · refine lv_iconst (v := 0) hx hb dX6_itemOf_69 (by decide) ?_
          refine m_put F hK hR hS 13 (by decide) (v := 0) rfl (sFa r 0) rfl kw_fieldLink_RX6_111 rfl rfl dX6_itemOf_70 (fun H locs hR hS => ?_)
          refine lv_lload hx hb dX6_itemOf_73 (lv_at hl 0 rfl) ?_
          refine lv_lconst (v := 0) hx hb dX6_itemOf_75 (by decide) ?_
          refine W.lcmp hx hb dX6_itemOf_76 ?_
          refine x_cmp_ne (tgt := 84) hx hb dX6_itemOf_77 (by decide) (fun h_77 => ?_) (fun h_77 => (h_62 h_77).elim)
          refine lv_aload_n hx hb dX6_itemOf_84 rfl (lv_at hl 1 rfl) ?_
          refine m_get F hK hR 7 (by decide) rfl kw_fieldLink_RX6_24 dX6_itemOf_85 ?_
          refine lv_lload hx hb dX6_itemOf_88 (lv_at hl 0 rfl) ?_
          have hit := hI.it ht0_j ht hj_j (by omega)
          refine px_topl hit.1 ?_
          refine lv_l2i (v := nI (iv (f_at r t j))) hx hb dX6_itemOf_90 (lN_i _) ?_
          refine m_ldTN F hK hR (iv (f_at r t j)) rfl (by omega) dX6_itemOf_91 ?_
          refine lv_i2l hx hb dX6_itemOf_92 rfl ?_
          exact px_lret F hr hlocks hS (by have e : f_itemOf r t (nI j) b = (sFa r 0, (rTN r (iv (f_at r t j))).toInt64) := (by simp [f_itemOf, h_2, h_22, h_43, h_62, ix_nI (show j < 2 ^ 31 by omega)] <;> rfl); rw [e]; exact ⟨rfl, _, _, hR⟩) dX6_itemOf_93
        · refine lv_iconst (v := 1) hx hb dX6_itemOf_65 (by decide) ?_
          refine lv_goto (tgt := 70) hx hb dX6_itemOf_66 (by decide) ?_
          refine m_put F hK hR hS 13 (by decide) (v := 1) rfl (sFa r 1) rfl kw_fieldLink_RX6_111 rfl rfl dX6_itemOf_70 (fun H locs hR hS => ?_)
          refine lv_lload hx hb dX6_itemOf_73 (lv_at hl 0 rfl) ?_
          refine lv_lconst (v := 0) hx hb dX6_itemOf_75 (by decide) ?_
          refine W.lcmp hx hb dX6_itemOf_76 ?_
          refine x_cmp_ne (tgt := 84) hx hb dX6_itemOf_77 (by decide) (fun h_77 => (h_77 h_62).elim) (fun h_77 => ?_)
          refine lv_lconst (v := 0) hx hb dX6_itemOf_80 (by decide) ?_
          refine lv_goto (tgt := 93) hx hb dX6_itemOf_81 (by decide) ?_
          exact px_lret F hr hlocks hS (by have e : f_itemOf r t (nI j) b = (sFa r 1, 0) := (by simp [f_itemOf, h_2, h_22, h_43, h_62, ix_nI (show j < 2 ^ 31 by omega)] <;> rfl); rw [e]; exact ⟨rfl, _, _, hR⟩) dX6_itemOf_93
      · have h_43 : ¬ (rK r t) = 8 := nIne (show ¬ nI (rK r t) = nI 8 from h_43)
        refine lv_aload_n hx hb dX6_itemOf_46 rfl (lv_at hl 1 rfl) ?_
        refine m_get F hK hR 1 (by decide) rfl kw_fieldLink_RX6_7 dX6_itemOf_47 ?_
        refine lv_iload_n hx hb dX6_itemOf_50 rfl (lv_at hl 2 rfl) ?_
        refine m_ldK F hK hR t rfl (by omega) dX6_itemOf_51 ?_
        refine lv_bipush (v := 9) hx hb dX6_itemOf_52 (by decide) ?_
        refine lv_icmp_ne (tgt := 94) hx hb dX6_itemOf_54 (by decide) (fun h_54 => ?_) (fun h_54 => ?_)
        · have h_54 : ¬ (rK r t) = 9 := nIne (show ¬ nI (rK r t) = nI 9 from h_54)
          refine lv_lload hx hb dX6_itemOf_94 (lv_at hl 0 rfl) ?_
          exact px_lret F hr hlocks hS (by have e : f_itemOf r t (nI j) b = (sFa r (nI (f_looked r t (nI j))), f_at r t j) := (by simp [f_itemOf, h_2, h_22, h_43, h_54, ix_nI (show j < 2 ^ 31 by omega)] <;> rfl); rw [e]; exact ⟨rfl, _, _, hR⟩) dX6_itemOf_96
        · have h_54 : (rK r t) = 9 := nIeq (show nI (rK r t) = nI 9 from h_54) (by omega) (by omega)
          refine lv_aload_n hx hb dX6_itemOf_57 rfl (lv_at hl 1 rfl) ?_
          refine lv_lload hx hb dX6_itemOf_58 (lv_at hl 0 rfl) ?_
          refine lv_lconst (v := 0) hx hb dX6_itemOf_60 (by decide) ?_
          refine W.lcmp hx hb dX6_itemOf_61 ?_
          refine x_cmp_ne (tgt := 69) hx hb dX6_itemOf_62 (by decide) (fun h_62 => ?_) (fun h_62 => ?_)
          · refine lv_iconst (v := 0) hx hb dX6_itemOf_69 (by decide) ?_
            refine m_put F hK hR hS 13 (by decide) (v := 0) rfl (sFa r 0) rfl kw_fieldLink_RX6_111 rfl rfl dX6_itemOf_70 (fun H locs hR hS => ?_)
            refine lv_lload hx hb dX6_itemOf_73 (lv_at hl 0 rfl) ?_
            refine lv_lconst (v := 0) hx hb dX6_itemOf_75 (by decide) ?_
            refine W.lcmp hx hb dX6_itemOf_76 ?_
            refine x_cmp_ne (tgt := 84) hx hb dX6_itemOf_77 (by decide) (fun h_77 => ?_) (fun h_77 => (h_62 h_77).elim)
            refine lv_aload_n hx hb dX6_itemOf_84 rfl (lv_at hl 1 rfl) ?_
            refine m_get F hK hR 7 (by decide) rfl kw_fieldLink_RX6_24 dX6_itemOf_85 ?_
            refine lv_lload hx hb dX6_itemOf_88 (lv_at hl 0 rfl) ?_
            have hit := hI.it ht0_j ht hj_j (by omega)
            refine px_topl hit.1 ?_
            refine lv_l2i (v := nI (iv (f_at r t j))) hx hb dX6_itemOf_90 (lN_i _) ?_
            refine m_ldTN F hK hR (iv (f_at r t j)) rfl (by omega) dX6_itemOf_91 ?_
            refine lv_i2l hx hb dX6_itemOf_92 rfl ?_
            exact px_lret F hr hlocks hS (by have e : f_itemOf r t (nI j) b = (sFa r 0, (rTN r (iv (f_at r t j))).toInt64) := (by simp [f_itemOf, h_2, h_22, h_43, h_54, h_62, ix_nI (show j < 2 ^ 31 by omega)] <;> rfl); rw [e]; exact ⟨rfl, _, _, hR⟩) dX6_itemOf_93
          · refine lv_iconst (v := 1) hx hb dX6_itemOf_65 (by decide) ?_
            refine lv_goto (tgt := 70) hx hb dX6_itemOf_66 (by decide) ?_
            refine m_put F hK hR hS 13 (by decide) (v := 1) rfl (sFa r 1) rfl kw_fieldLink_RX6_111 rfl rfl dX6_itemOf_70 (fun H locs hR hS => ?_)
            refine lv_lload hx hb dX6_itemOf_73 (lv_at hl 0 rfl) ?_
            refine lv_lconst (v := 0) hx hb dX6_itemOf_75 (by decide) ?_
            refine W.lcmp hx hb dX6_itemOf_76 ?_
            refine x_cmp_ne (tgt := 84) hx hb dX6_itemOf_77 (by decide) (fun h_77 => (h_77 h_62).elim) (fun h_77 => ?_)
            refine lv_lconst (v := 0) hx hb dX6_itemOf_80 (by decide) ?_
            refine lv_goto (tgt := 93) hx hb dX6_itemOf_81 (by decide) ?_
            exact px_lret F hr hlocks hS (by have e : f_itemOf r t (nI j) b = (sFa r 1, 0) := (by simp [f_itemOf, h_2, h_22, h_43, h_54, h_62, ix_nI (show j < 2 ^ 31 by omega)] <;> rfl); rw [e]; exact ⟨rfl, _, _, hR⟩) dX6_itemOf_93
    · have h_22 : ¬ (f_looked r t i) = 0 := nIne (show ¬ nI (f_looked r t i) = nI 0 from h_22)
      refine lv_lconst (v := 0) hx hb dX6_itemOf_25 (by decide) ?_
      exact px_lret F hr hlocks hS (by have e : f_itemOf r t i b = (sFa r (nI (f_looked r t i)), 0) := (by simp [f_itemOf, h_2, h_22] <;> rfl); rw [e]; exact ⟨rfl, _, _, hR⟩) dX6_itemOf_26
  · have h_2 : ¬ b = 0 := nIne (show ¬ nI b = nI 0 from h_2)
    refine lv_iload_n hx hb dX6_itemOf_5 rfl (lv_at hl 3 rfl) ?_
    refine lv_goto (tgt := 15) hx hb dX6_itemOf_6 (by decide) ?_
    refine m_put F hK hR hS 13 (by decide) (v := nI b) rfl (sFa r (nI b)) rfl kw_fieldLink_RX6_111 rfl rfl dX6_itemOf_15 (fun H locs hR hS => ?_)
    refine lv_aload_n hx hb dX6_itemOf_18 rfl (lv_at hl 0 rfl) ?_
    refine m_get F hK hR 13 (by decide) rfl kw_fieldLink_RX6_111 dX6_itemOf_19 ?_
    refine lv_if_eq (tgt := 27) hx hb dX6_itemOf_22 (by decide) (fun h_22 => by exfalso; have h_22 : b = 0 := nIeq (show nI b = nI 0 from h_22) (by omega) (by omega); omega) (fun h_22 => ?_)
    have h_22 : ¬ b = 0 := nIne (show ¬ nI b = nI 0 from h_22)
    refine lv_lconst (v := 0) hx hb dX6_itemOf_25 (by decide) ?_
    exact px_lret F hr hlocks hS (by have e : f_itemOf r t i b = (sFa r (nI b), 0) := (by simp [f_itemOf, h_2, h_22] <;> rfl); rw [e]; exact ⟨rfl, _, _, hR⟩) dX6_itemOf_26
set_option maxHeartbeats 400000 in
set_option maxRecDepth 100000 in
theorem c_X6_make (l : Launch) (D : va_G) (cy : Nat → ClassId) (A : Nat → Prop) (G : Nat → Nat) (r : RS) (C : Nat → Nat) (E : Nat → Int64) (sz : Nat) (cl k n : Int32) {kk : Nat} (hI : Inv kk r) : Met l yX6_make (px_w yX6_make cX6_make 4 (some .int)) (rmd 3 0 0) (px_P D cy [.ref (G 0), .int cl, .int k, .int n] sz (MR D cy A G r C E)) (px_Q (px_M D cy A G (some (.int (f_make r cl k n).2)) ((f_make r cl k n).1)) A) 0 0 A := by
  refine px_met (by decide) (Nat.le_of_ble_eq_true rfl) ?_
  intro p e s m below meth c F hr hlocks hnm hK hsz hR ls hl
  have hx := F.1
  have hb := F.2.1
  have hl : lv_has ls 4 [(0, .ref (G 0)), (1, .int cl), (2, .int k), (3, .int n)] := hl
  have hS : va_S A s.heap s.heap [] := va_S.rf
  have hbd := hI.bd
  refine lv_iload_n hx hb dX6_make_0 rfl (lv_at hl 1 rfl) ?_
  refine px_goV (st1 := [.int (b2i (f_in cl 0 15))]) (px_callS F hK (c_X6_isColumn l D cy _ cl) kc_X6_isColumn kw_methodLink_RX6_53 rfl trivial rfl ⟨rfl, rfl⟩ ⟨Nat.le_of_ble_eq_true rfl, Nat.le_of_ble_eq_true rfl⟩ hl.1 rfl (Nat.le_of_ble_eq_true rfl) dX6_make_1 ⟨Nat.zero_le _, Nat.zero_le _⟩) rfl ?_
  refine x_ifeq_b (tgt := 23) hx hb dX6_make_4 (by decide) (fun h_4 => ?_) (fun h_4 => ?_)
  · refine lv_bipush (v := -2) hx hb dX6_make_23 (by decide) ?_
    exact px_iret F hr hlocks hS (by have e : f_make r cl k n = (r, (-2)) := (by simp [f_make, Int32.not_le, Int32.not_lt, h_4] <;> rfl); rw [e]; exact ⟨rfl, _, _, hR⟩) dX6_make_25
  · refine lv_iload_n hx hb dX6_make_7 rfl (lv_at hl 2 rfl) ?_
    refine lv_iconst (v := 0) hx hb dX6_make_8 (by decide) ?_
    refine lv_bipush (v := 13) hx hb dX6_make_9 (by decide) ?_
    refine px_goV (st1 := [.int (b2i (f_in k 0 13))]) (px_callS F hK (c_X6_in l D cy _ k 0 13) kc_X6_in kw_methodLink_RX6_57 rfl trivial rfl ⟨rfl, rfl⟩ ⟨Nat.le_of_ble_eq_true rfl, Nat.le_of_ble_eq_true rfl⟩ hl.1 rfl (Nat.le_of_ble_eq_true rfl) dX6_make_11 ⟨Nat.zero_le _, Nat.zero_le _⟩) rfl ?_
    refine x_ifeq_b (tgt := 23) hx hb dX6_make_14 (by decide) (fun h_14 => ?_) (fun h_14 => ?_)
    · refine lv_bipush (v := -2) hx hb dX6_make_23 (by decide) ?_
      exact px_iret F hr hlocks hS (by have e : f_make r cl k n = (r, (-2)) := (by simp [f_make, Int32.not_le, Int32.not_lt, h_4, h_14] <;> rfl); rw [e]; exact ⟨rfl, _, _, hR⟩) dX6_make_25
    · refine lv_iload_n hx hb dX6_make_17 rfl (lv_at hl 3 rfl) ?_
      refine lv_bipush (v := 30) hx hb dX6_make_18 (by decide) ?_
      refine lv_icmp_le (tgt := 26) hx hb dX6_make_20 (by decide) (fun h_20 => ?_) (fun h_20 => ?_)
      · have h_20 : ¬ 30 < n := Int32.not_lt.mpr h_20
        obtain ⟨cn, hl_cn, hh_cn, rfl⟩ := f_in_nat h_4 0 15 (by decide) (by decide) (by decide) (by decide)
        obtain ⟨kn, hl_kn, hh_kn, rfl⟩ := f_in_nat h_14 0 13 (by decide) (by decide) (by decide) (by decide)
        refine lv_aload_n hx hb dX6_make_26 rfl (lv_at hl 0 rfl) ?_
        refine px_goV (st1 := [.int (b2i (decide (6000 ≤ rN r)))]) (px_callV F hK (c_X6_isFull l D cy A G r _ _ _ (by omega)) kc_X6_isFull kw_methodLink_RX6_61 rfl hR (m_recv hK hR) rfl ⟨rfl, rfl⟩ ⟨Nat.le_of_ble_eq_true rfl, Nat.le_of_ble_eq_true rfl⟩ hl.1 rfl (Nat.le_of_ble_eq_true rfl) dX6_make_27 ⟨Nat.zero_le _, Nat.zero_le _⟩) rfl ?_
        refine x_ifeq_b (tgt := 36) hx hb dX6_make_30 (by decide) (fun h_30 => ?_) (fun h_30 => ?_)
        · have h_30 : ¬ (6000 ≤ rN r) := of_decide_eq_false h_30
          refine lv_iload_n hx hb dX6_make_36 rfl (lv_at hl 3 rfl) ?_
          refine lv_if_ge (tgt := 45) hx hb dX6_make_37 (by decide) (fun h_37 => ?_) (fun h_37 => ?_)
          · have h_37 : ¬ n < 0 := Int32.not_lt.mpr h_37
            obtain ⟨nn, hh_nn, rfl⟩ := le_nat 30 h_37 h_20 (by decide) (by decide)
            refine lv_aload_n hx hb dX6_make_45 rfl (lv_at hl 0 rfl) ?_
            refine m_get F hK hR 9 (by decide) rfl kw_fieldLink_RX6_31 dX6_make_46 ?_
            refine lv_iload_n hx hb dX6_make_49 rfl (lv_at hl 1 rfl) ?_
            refine lv_aload_n hx hb dX6_make_50 rfl (lv_at hl 0 rfl) ?_
            refine lv_iload_n hx hb dX6_make_51 rfl (lv_at hl 2 rfl) ?_
            refine lv_iload_n hx hb dX6_make_52 rfl (lv_at hl 3 rfl) ?_
            refine px_goMx (st1 := [.int (nI ((rT r) + 1)), .int (nI cn), .ref (G 7)]) (px_callV F hK (c_X6_table l D cy A G r _ _ _ kn nn (show (rT r) + 1 < 13000 by omega) (show (rN r) + nn ≤ 12200 by omega) (by omega) (by omega)) kc_X6_table kw_methodLink_RX6_69 rfl hR (m_recv hK hR) rfl ⟨rfl, rfl⟩ ⟨Nat.le_of_ble_eq_true rfl, Nat.le_of_ble_eq_true rfl⟩ hl.1 rfl (Nat.le_of_ble_eq_true rfl) dX6_make_53 ⟨Nat.zero_le _, Nat.zero_le _⟩) hS rfl (fun H locs hR hS => ?_)
            refine m_stHd F hK hR hS cn ((rT r) + 1) rfl rfl (by omega) dX6_make_56 (fun H locs hR hS => ?_)
            refine lv_iconst (v := 1) hx hb dX6_make_57 (by decide) ?_
            exact px_iret F hr hlocks hS (by have e : f_make r (nI cn) (nI kn) (nI nn) = (sHd (f_table r kn nn) (va_up (rHd r) cn ((rT r) + 1)), 1) := (by simp [f_make, Int32.not_le, Int32.not_lt, h_4, h_14, h_20, h_30, h_37, ix_nI (show cn < 2 ^ 31 by omega), ix_nI (show kn < 2 ^ 31 by omega), ix_nI (show nn < 2 ^ 31 by omega)] <;> rfl); rw [e]; exact ⟨rfl, _, _, hR⟩) dX6_make_58
          · have h_37 : n < 0 := Int32.not_le.mp h_37
            refine lv_iconst (v := 4) hx hb dX6_make_40 (by decide) ?_
            refine px_goV (st1 := [.int (-14)]) (px_callS F hK (c_X6_answer l D cy _ 4) kc_X6_answer kw_methodLink_RX6_65 rfl trivial rfl ⟨rfl, rfl⟩ ⟨Nat.le_of_ble_eq_true rfl, Nat.le_of_ble_eq_true rfl⟩ hl.1 rfl (Nat.le_of_ble_eq_true rfl) dX6_make_41 ⟨Nat.zero_le _, Nat.zero_le _⟩) rfl ?_
            exact px_iret F hr hlocks hS (by have e : f_make r (nI cn) (nI kn) n = (r, (-14)) := (by simp [f_make, Int32.not_le, Int32.not_lt, h_4, h_14, h_20, h_30, h_37, ix_nI (show cn < 2 ^ 31 by omega), ix_nI (show kn < 2 ^ 31 by omega)] <;> rfl); rw [e]; exact ⟨rfl, _, _, hR⟩) dX6_make_44
        · have h_30 : 6000 ≤ rN r := of_decide_eq_true h_30
          refine lv_bipush (v := -3) hx hb dX6_make_33 (by decide) ?_
          exact px_iret F hr hlocks hS (by have e : f_make r (nI cn) (nI kn) n = (r, (-3)) := (by simp [f_make, Int32.not_le, Int32.not_lt, h_4, h_14, h_20, h_30, ix_nI (show cn < 2 ^ 31 by omega), ix_nI (show kn < 2 ^ 31 by omega)] <;> rfl); rw [e]; exact ⟨rfl, _, _, hR⟩) dX6_make_35
      · have h_20 : 30 < n := Int32.not_le.mp h_20
        refine lv_bipush (v := -2) hx hb dX6_make_23 (by decide) ?_
        exact px_iret F hr hlocks hS (by have e : f_make r cl k n = (r, (-2)) := (by simp [f_make, Int32.not_le, Int32.not_lt, h_4, h_14, h_20] <;> rfl); rw [e]; exact ⟨rfl, _, _, hR⟩) dX6_make_25
set_option maxHeartbeats 400000 in
set_option maxRecDepth 100000 in
theorem c_X6_share (l : Launch) (D : va_G) (cy : Nat → ClassId) (A : Nat → Prop) (G : Nat → Nat) (r : RS) (C : Nat → Nat) (E : Nat → Int64) (sz : Nat) (cl f : Int32) {kk : Nat} (hI : Inv kk r) : Met l yX6_share (px_w yX6_share cX6_share 3 (some .int)) (rmd 3 0 0) (px_P D cy [.ref (G 0), .int cl, .int f] sz (MR D cy A G r C E)) (px_Q (px_M D cy A G (some (.int (f_share r cl f).2)) ((f_share r cl f).1)) A) 0 0 A := by
  refine px_met (by decide) (Nat.le_of_ble_eq_true rfl) ?_
  intro p e s m below meth c F hr hlocks hnm hK hsz hR ls hl
  have hx := F.1
  have hb := F.2.1
  have hl : lv_has ls 3 [(0, .ref (G 0)), (1, .int cl), (2, .int f)] := hl
  have hS : va_S A s.heap s.heap [] := va_S.rf
  have hbd := hI.bd
  refine lv_iload_n hx hb dX6_share_0 rfl (lv_at hl 1 rfl) ?_
  refine px_goV (st1 := [.int (b2i (f_in cl 0 15))]) (px_callS F hK (c_X6_isColumn l D cy _ cl) kc_X6_isColumn kw_methodLink_RX6_53 rfl trivial rfl ⟨rfl, rfl⟩ ⟨Nat.le_of_ble_eq_true rfl, Nat.le_of_ble_eq_true rfl⟩ hl.1 rfl (Nat.le_of_ble_eq_true rfl) dX6_share_1 ⟨Nat.zero_le _, Nat.zero_le _⟩) rfl ?_
  refine x_ifeq_b (tgt := 14) hx hb dX6_share_4 (by decide) (fun h_4 => ?_) (fun h_4 => ?_)
  · refine lv_bipush (v := -2) hx hb dX6_share_14 (by decide) ?_
    exact px_iret F hr hlocks hS (by have e : f_share r cl f = (r, (-2)) := (by simp [f_share, h_4] <;> rfl); rw [e]; exact ⟨rfl, _, _, hR⟩) dX6_share_16
  · refine lv_iload_n hx hb dX6_share_7 rfl (lv_at hl 2 rfl) ?_
    refine px_goV (st1 := [.int (b2i (f_in f 0 15))]) (px_callS F hK (c_X6_isColumn l D cy _ f) kc_X6_isColumn kw_methodLink_RX6_53 rfl trivial rfl ⟨rfl, rfl⟩ ⟨Nat.le_of_ble_eq_true rfl, Nat.le_of_ble_eq_true rfl⟩ hl.1 rfl (Nat.le_of_ble_eq_true rfl) dX6_share_8 ⟨Nat.zero_le _, Nat.zero_le _⟩) rfl ?_
    refine x_ifne_b (tgt := 17) hx hb dX6_share_11 (by decide) (fun h_11 => ?_) (fun h_11 => ?_)
    · obtain ⟨cn, hl_cn, hh_cn, rfl⟩ := f_in_nat h_4 0 15 (by decide) (by decide) (by decide) (by decide)
      obtain ⟨fn, hl_fn, hh_fn, rfl⟩ := f_in_nat h_11 0 15 (by decide) (by decide) (by decide) (by decide)
      refine lv_aload_n hx hb dX6_share_17 rfl (lv_at hl 0 rfl) ?_
      refine m_get F hK hR 9 (by decide) rfl kw_fieldLink_RX6_31 dX6_share_18 ?_
      refine lv_iload_n hx hb dX6_share_21 rfl (lv_at hl 1 rfl) ?_
      refine lv_aload_n hx hb dX6_share_22 rfl (lv_at hl 0 rfl) ?_
      refine m_get F hK hR 9 (by decide) rfl kw_fieldLink_RX6_31 dX6_share_23 ?_
      refine lv_iload_n hx hb dX6_share_26 rfl (lv_at hl 2 rfl) ?_
      refine m_ldHd F hK hR fn rfl (by omega) dX6_share_27 ?_
      refine m_stHd F hK hR hS cn (rHd r fn) rfl rfl (by omega) dX6_share_28 (fun H locs hR hS => ?_)
      refine lv_iconst (v := 1) hx hb dX6_share_29 (by decide) ?_
      exact px_iret F hr hlocks hS (by have e : f_share r (nI cn) (nI fn) = (sHd r (va_up (rHd r) cn (rHd r fn)), 1) := (by simp [f_share, h_4, h_11, ix_nI (show cn < 2 ^ 31 by omega), ix_nI (show fn < 2 ^ 31 by omega)] <;> rfl); rw [e]; exact ⟨rfl, _, _, hR⟩) dX6_share_30
    · refine lv_bipush (v := -2) hx hb dX6_share_14 (by decide) ?_
      exact px_iret F hr hlocks hS (by have e : f_share r cl f = (r, (-2)) := (by simp [f_share, h_4, h_11] <;> rfl); rw [e]; exact ⟨rfl, _, _, hR⟩) dX6_share_16
set_option maxHeartbeats 400000 in
set_option maxRecDepth 100000 in
theorem c_X6_drop (l : Launch) (D : va_G) (cy : Nat → ClassId) (A : Nat → Prop) (G : Nat → Nat) (r : RS) (C : Nat → Nat) (E : Nat → Int64) (sz : Nat) (cl : Int32) {kk : Nat} (hI : Inv kk r) : Met l yX6_drop (px_w yX6_drop cX6_drop 3 (some .int)) (rmd 3 0 0) (px_P D cy [.ref (G 0), .int cl] sz (MR D cy A G r C E)) (px_Q (px_M D cy A G (some (.int (f_drop r cl).2)) ((f_drop r cl).1)) A) 0 0 A := by
  refine px_met (by decide) (Nat.le_of_ble_eq_true rfl) ?_
  intro p e s m below meth c F hr hlocks hnm hK hsz hR ls hl
  have hx := F.1
  have hb := F.2.1
  have hl : lv_has ls 3 [(0, .ref (G 0)), (1, .int cl)] := hl
  have hS : va_S A s.heap s.heap [] := va_S.rf
  have hbd := hI.bd
  refine lv_iload_n hx hb dX6_drop_0 rfl (lv_at hl 1 rfl) ?_
  refine px_goV (st1 := [.int (b2i (f_in cl 0 15))]) (px_callS F hK (c_X6_isColumn l D cy _ cl) kc_X6_isColumn kw_methodLink_RX6_53 rfl trivial rfl ⟨rfl, rfl⟩ ⟨Nat.le_of_ble_eq_true rfl, Nat.le_of_ble_eq_true rfl⟩ hl.1 rfl (Nat.le_of_ble_eq_true rfl) dX6_drop_1 ⟨Nat.zero_le _, Nat.zero_le _⟩) rfl ?_
  refine x_ifne_b (tgt := 10) hx hb dX6_drop_4 (by decide) (fun h_4 => ?_) (fun h_4 => ?_)
  · obtain ⟨cn, hl_cn, hh_cn, rfl⟩ := f_in_nat h_4 0 15 (by decide) (by decide) (by decide) (by decide)
    have hc0 := hI.hd cn (by omega)
    have hc1 := hI.tb _ hc0
    refine lv_aload_n hx hb dX6_drop_10 rfl (lv_at hl 0 rfl) ?_
    refine m_get F hK hR 9 (by decide) rfl kw_fieldLink_RX6_31 dX6_drop_11 ?_
    refine lv_iload_n hx hb dX6_drop_14 rfl (lv_at hl 1 rfl) ?_
    refine m_ldHd F hK hR cn rfl (by omega) dX6_drop_15 ?_
    refine lv_if_ne (tgt := 23) hx hb dX6_drop_16 (by decide) (fun h_16 => ?_) (fun h_16 => ?_)
    · have h_16 : ¬ (rHd r cn) = 0 := nIne (show ¬ nI (rHd r cn) = nI 0 from h_16)
      refine lv_iconst (v := 1) hx hb dX6_drop_23 (by decide) ?_
      refine lv_istore_n (lv' := [(2, .int 1), (0, .ref (G 0)), (1, .int (nI cn))]) hx hb dX6_drop_24 rfl hl (by decide) rfl (fun ls hl => ?_)
      refine lv_aload_n hx hb dX6_drop_25 rfl (lv_at hl 1 rfl) ?_
      refine m_get F hK hR 9 (by decide) rfl kw_fieldLink_RX6_31 dX6_drop_26 ?_
      refine lv_iload_n hx hb dX6_drop_29 rfl (lv_at hl 2 rfl) ?_
      refine lv_iconst (v := 0) hx hb dX6_drop_30 (by decide) ?_
      refine m_stHd F hK hR hS cn 0 rfl rfl (by omega) dX6_drop_31 (fun H locs hR hS => ?_)
      refine lv_iload_n hx hb dX6_drop_32 rfl (lv_at hl 0 rfl) ?_
      exact px_iret F hr hlocks hS (by have e : f_drop r (nI cn) = (sHd r (va_up (rHd r) cn 0), 1) := (by simp [f_drop, h_4, h_16, ix_nI (show cn < 2 ^ 31 by omega)] <;> rfl); rw [e]; exact ⟨rfl, _, _, hR⟩) dX6_drop_33
    · have h_16 : (rHd r cn) = 0 := nIeq (show nI (rHd r cn) = nI 0 from h_16) (by omega) (by omega)
      refine lv_iconst (v := 0) hx hb dX6_drop_19 (by decide) ?_
      refine lv_goto (tgt := 24) hx hb dX6_drop_20 (by decide) ?_
      refine lv_istore_n (lv' := [(2, .int 0), (0, .ref (G 0)), (1, .int (nI cn))]) hx hb dX6_drop_24 rfl hl (by decide) rfl (fun ls hl => ?_)
      refine lv_aload_n hx hb dX6_drop_25 rfl (lv_at hl 1 rfl) ?_
      refine m_get F hK hR 9 (by decide) rfl kw_fieldLink_RX6_31 dX6_drop_26 ?_
      refine lv_iload_n hx hb dX6_drop_29 rfl (lv_at hl 2 rfl) ?_
      refine lv_iconst (v := 0) hx hb dX6_drop_30 (by decide) ?_
      refine m_stHd F hK hR hS cn 0 rfl rfl (by omega) dX6_drop_31 (fun H locs hR hS => ?_)
      refine lv_iload_n hx hb dX6_drop_32 rfl (lv_at hl 0 rfl) ?_
      exact px_iret F hr hlocks hS (by have e : f_drop r (nI cn) = (sHd r (va_up (rHd r) cn 0), 0) := (by simp [f_drop, h_4, h_16, ix_nI (show cn < 2 ^ 31 by omega)] <;> rfl); rw [e]; exact ⟨rfl, _, _, hR⟩) dX6_drop_33
  · refine lv_bipush (v := -2) hx hb dX6_drop_7 (by decide) ?_
    exact px_iret F hr hlocks hS (by have e : f_drop r cl = (r, (-2)) := (by simp [f_drop, h_4] <;> rfl); rw [e]; exact ⟨rfl, _, _, hR⟩) dX6_drop_9
set_option maxHeartbeats 400000 in
set_option maxRecDepth 100000 in
theorem c_X6_kind (l : Launch) (D : va_G) (cy : Nat → ClassId) (A : Nat → Prop) (G : Nat → Nat) (r : RS) (C : Nat → Nat) (E : Nat → Int64) (sz : Nat) (cl : Int32) {kk : Nat} (hI : Inv kk r) : Met l yX6_kind (px_w yX6_kind cX6_kind 2 (some .int)) (rmd 3 0 0) (px_P D cy [.ref (G 0), .int cl] sz (MR D cy A G r C E)) (px_V (some (.int (f_kind r cl)))) 0 0 (fun _ => False) := by
  refine px_met (by decide) (Nat.le_of_ble_eq_true rfl) ?_
  intro p e s m below meth c F hr hlocks hnm hK hsz hR ls hl
  have hx := F.1
  have hb := F.2.1
  have hl : lv_has ls 2 [(0, .ref (G 0)), (1, .int cl)] := hl
  have hbd := hI.bd
  refine lv_iload_n hx hb dX6_kind_0 rfl (lv_at hl 1 rfl) ?_
  refine px_goV (st1 := [.int (b2i (f_in cl 0 15))]) (px_callS F hK (c_X6_isColumn l D cy _ cl) kc_X6_isColumn kw_methodLink_RX6_53 rfl trivial rfl ⟨rfl, rfl⟩ ⟨Nat.le_of_ble_eq_true rfl, Nat.le_of_ble_eq_true rfl⟩ hl.1 rfl (Nat.le_of_ble_eq_true rfl) dX6_kind_1 ⟨Nat.zero_le _, Nat.zero_le _⟩) rfl ?_
  refine x_ifne_b (tgt := 10) hx hb dX6_kind_4 (by decide) (fun h_4 => ?_) (fun h_4 => ?_)
  · obtain ⟨cn, hl_cn, hh_cn, rfl⟩ := f_in_nat h_4 0 15 (by decide) (by decide) (by decide) (by decide)
    have hc0 := hI.hd cn (by omega)
    have hc1 := hI.tb _ hc0
    refine lv_aload_n hx hb dX6_kind_10 rfl (lv_at hl 0 rfl) ?_
    refine m_get F hK hR 9 (by decide) rfl kw_fieldLink_RX6_31 dX6_kind_11 ?_
    refine lv_iload_n hx hb dX6_kind_14 rfl (lv_at hl 1 rfl) ?_
    refine m_ldHd F hK hR cn rfl (by omega) dX6_kind_15 ?_
    refine lv_if_ne (tgt := 23) hx hb dX6_kind_16 (by decide) (fun h_16 => ?_) (fun h_16 => ?_)
    · have h_16 : ¬ (rHd r cn) = 0 := nIne (show ¬ nI (rHd r cn) = nI 0 from h_16)
      refine lv_aload_n hx hb dX6_kind_23 rfl (lv_at hl 0 rfl) ?_
      refine m_get F hK hR 1 (by decide) rfl kw_fieldLink_RX6_7 dX6_kind_24 ?_
      refine lv_aload_n hx hb dX6_kind_27 rfl (lv_at hl 0 rfl) ?_
      refine m_get F hK hR 9 (by decide) rfl kw_fieldLink_RX6_31 dX6_kind_28 ?_
      refine lv_iload_n hx hb dX6_kind_31 rfl (lv_at hl 1 rfl) ?_
      refine m_ldHd F hK hR cn rfl (by omega) dX6_kind_32 ?_
      refine m_ldK F hK hR (rHd r cn) rfl (by omega) dX6_kind_33 ?_
      exact pv_iret F hr hlocks (by have e : f_kind r (nI cn) = nI (rK r (rHd r cn)) := (by simp [f_kind, h_4, h_16, ix_nI (show cn < 2 ^ 31 by omega)] <;> rfl); rw [e]) dX6_kind_34
    · have h_16 : (rHd r cn) = 0 := nIeq (show nI (rHd r cn) = nI 0 from h_16) (by omega) (by omega)
      refine lv_iconst (v := -1) hx hb dX6_kind_19 (by decide) ?_
      refine lv_goto (tgt := 34) hx hb dX6_kind_20 (by decide) ?_
      exact pv_iret F hr hlocks (by have e : f_kind r (nI cn) = (-1) := (by simp [f_kind, h_4, h_16, ix_nI (show cn < 2 ^ 31 by omega)] <;> rfl); rw [e]) dX6_kind_34
  · refine lv_bipush (v := -2) hx hb dX6_kind_7 (by decide) ?_
    exact pv_iret F hr hlocks (by have e : f_kind r cl = (-2) := (by simp [f_kind, h_4] <;> rfl); rw [e]) dX6_kind_9
set_option maxHeartbeats 400000 in
set_option maxRecDepth 100000 in
theorem c_X6_length (l : Launch) (D : va_G) (cy : Nat → ClassId) (A : Nat → Prop) (G : Nat → Nat) (r : RS) (C : Nat → Nat) (E : Nat → Int64) (sz : Nat) (cl k : Int32) {kk : Nat} (hI : Inv kk r) : Met l yX6_length (px_w yX6_length cX6_length 4 (some .int)) (rmd 3 0 0) (px_P D cy [.ref (G 0), .int cl, .int k] sz (MR D cy A G r C E)) (px_V (some (.int (f_length r cl k)))) 0 0 (fun _ => False) := by
  refine px_met (by decide) (Nat.le_of_ble_eq_true rfl) ?_
  intro p e s m below meth c F hr hlocks hnm hK hsz hR ls hl
  have hx := F.1
  have hb := F.2.1
  have hl : lv_has ls 4 [(0, .ref (G 0)), (1, .int cl), (2, .int k)] := hl
  have hbd := hI.bd
  refine lv_iload_n hx hb dX6_length_0 rfl (lv_at hl 1 rfl) ?_
  refine px_goV (st1 := [.int (b2i (f_in cl 0 15))]) (px_callS F hK (c_X6_isColumn l D cy _ cl) kc_X6_isColumn kw_methodLink_RX6_53 rfl trivial rfl ⟨rfl, rfl⟩ ⟨Nat.le_of_ble_eq_true rfl, Nat.le_of_ble_eq_true rfl⟩ hl.1 rfl (Nat.le_of_ble_eq_true rfl) dX6_length_1 ⟨Nat.zero_le _, Nat.zero_le _⟩) rfl ?_
  refine x_ifeq_b (tgt := 17) hx hb dX6_length_4 (by decide) (fun h_4 => ?_) (fun h_4 => ?_)
  · refine lv_bipush (v := -2) hx hb dX6_length_17 (by decide) ?_
    exact pv_iret F hr hlocks (by have e : f_length r cl k = (-2) := (by simp [f_length, h_4] <;> rfl); rw [e]) dX6_length_19
  · refine lv_iload_n hx hb dX6_length_7 rfl (lv_at hl 2 rfl) ?_
    refine lv_iconst (v := 0) hx hb dX6_length_8 (by decide) ?_
    refine lv_bipush (v := 13) hx hb dX6_length_9 (by decide) ?_
    refine px_goV (st1 := [.int (b2i (f_in k 0 13))]) (px_callS F hK (c_X6_in l D cy _ k 0 13) kc_X6_in kw_methodLink_RX6_57 rfl trivial rfl ⟨rfl, rfl⟩ ⟨Nat.le_of_ble_eq_true rfl, Nat.le_of_ble_eq_true rfl⟩ hl.1 rfl (Nat.le_of_ble_eq_true rfl) dX6_length_11 ⟨Nat.zero_le _, Nat.zero_le _⟩) rfl ?_
    refine x_ifne_b (tgt := 20) hx hb dX6_length_14 (by decide) (fun h_14 => ?_) (fun h_14 => ?_)
    · obtain ⟨cn, hl_cn, hh_cn, rfl⟩ := f_in_nat h_4 0 15 (by decide) (by decide) (by decide) (by decide)
      obtain ⟨kn, hl_kn, hh_kn, rfl⟩ := f_in_nat h_14 0 13 (by decide) (by decide) (by decide) (by decide)
      have hc0 := hI.hd cn (by omega)
      have hc1 := hI.tb _ hc0
      refine lv_aload_n hx hb dX6_length_20 rfl (lv_at hl 0 rfl) ?_
      refine m_get F hK hR 9 (by decide) rfl kw_fieldLink_RX6_31 dX6_length_21 ?_
      refine lv_iload_n hx hb dX6_length_24 rfl (lv_at hl 1 rfl) ?_
      refine m_ldHd F hK hR cn rfl (by omega) dX6_length_25 ?_
      refine lv_istore_n (lv' := [(3, .int (nI (rHd r cn))), (0, .ref (G 0)), (1, .int (nI cn)), (2, .int (nI kn))]) hx hb dX6_length_26 rfl hl (by decide) rfl (fun ls hl => ?_)
      refine lv_aload_n hx hb dX6_length_27 rfl (lv_at hl 1 rfl) ?_
      refine lv_iload_n hx hb dX6_length_28 rfl (lv_at hl 0 rfl) ?_
      refine lv_iload_n hx hb dX6_length_29 rfl (lv_at hl 3 rfl) ?_
      refine px_goV (st1 := [.int (b2i (f_isOf r (rHd r cn) kn))]) (px_callV F hK (c_X6_isOf l D cy A G r _ _ _ (rHd r cn) kn (by omega) (by omega) (show rK r (rHd r cn) < 100 by omega)) kc_X6_isOf kw_methodLink_RX6_90 rfl hR (m_recv hK hR) rfl ⟨rfl, rfl⟩ ⟨Nat.le_of_ble_eq_true rfl, Nat.le_of_ble_eq_true rfl⟩ hl.1 rfl (Nat.le_of_ble_eq_true rfl) dX6_length_30 ⟨Nat.zero_le _, Nat.zero_le _⟩) rfl ?_
      refine x_ifne_b (tgt := 43) hx hb dX6_length_33 (by decide) (fun h_33 => ?_) (fun h_33 => ?_)
      · refine lv_iload_n hx hb dX6_length_43 rfl (lv_at hl 0 rfl) ?_
        refine lv_if_ne (tgt := 54) hx hb dX6_length_44 (by decide) (fun h_44 => ?_) (fun h_44 => ?_)
        · have h_44 : ¬ (rHd r cn) = 0 := nIne (show ¬ nI (rHd r cn) = nI 0 from h_44)
          refine lv_aload_n hx hb dX6_length_54 rfl (lv_at hl 1 rfl) ?_
          refine m_get F hK hR 2 (by decide) rfl kw_fieldLink_RX6_13 dX6_length_55 ?_
          refine lv_iload_n hx hb dX6_length_58 rfl (lv_at hl 0 rfl) ?_
          refine m_ldMn F hK hR (rHd r cn) rfl (by omega) dX6_length_59 ?_
          exact pv_iret F hr hlocks (by have e : f_length r (nI cn) (nI kn) = nI (rMn r (rHd r cn)) := (by simp [f_length, h_4, h_14, h_33, h_44, ix_nI (show cn < 2 ^ 31 by omega), ix_nI (show kn < 2 ^ 31 by omega)] <;> rfl); rw [e]) dX6_length_60
        · have h_44 : (rHd r cn) = 0 := nIeq (show nI (rHd r cn) = nI 0 from h_44) (by omega) (by omega)
          refine lv_iconst (v := 1) hx hb dX6_length_47 (by decide) ?_
          refine px_goV (st1 := [.int (-11)]) (px_callS F hK (c_X6_answer l D cy _ 1) kc_X6_answer kw_methodLink_RX6_65 rfl trivial rfl ⟨rfl, rfl⟩ ⟨Nat.le_of_ble_eq_true rfl, Nat.le_of_ble_eq_true rfl⟩ hl.1 rfl (Nat.le_of_ble_eq_true rfl) dX6_length_48 ⟨Nat.zero_le _, Nat.zero_le _⟩) rfl ?_
          refine lv_goto (tgt := 60) hx hb dX6_length_51 (by decide) ?_
          exact pv_iret F hr hlocks (by have e : f_length r (nI cn) (nI kn) = (-11) := (by simp [f_length, h_4, h_14, h_33, h_44, ix_nI (show cn < 2 ^ 31 by omega), ix_nI (show kn < 2 ^ 31 by omega)] <;> rfl); rw [e]) dX6_length_60
      · refine lv_iconst (v := 2) hx hb dX6_length_36 (by decide) ?_
        refine px_goV (st1 := [.int (-12)]) (px_callS F hK (c_X6_answer l D cy _ 2) kc_X6_answer kw_methodLink_RX6_65 rfl trivial rfl ⟨rfl, rfl⟩ ⟨Nat.le_of_ble_eq_true rfl, Nat.le_of_ble_eq_true rfl⟩ hl.1 rfl (Nat.le_of_ble_eq_true rfl) dX6_length_37 ⟨Nat.zero_le _, Nat.zero_le _⟩) rfl ?_
        refine lv_goto (tgt := 60) hx hb dX6_length_40 (by decide) ?_
        exact pv_iret F hr hlocks (by have e : f_length r (nI cn) (nI kn) = (-12) := (by simp [f_length, h_4, h_14, h_33, ix_nI (show cn < 2 ^ 31 by omega), ix_nI (show kn < 2 ^ 31 by omega)] <;> rfl); rw [e]) dX6_length_60
    · refine lv_bipush (v := -2) hx hb dX6_length_17 (by decide) ?_
      exact pv_iret F hr hlocks (by have e : f_length r cl k = (-2) := (by simp [f_length, h_4, h_14] <;> rfl); rw [e]) dX6_length_19
set_option maxHeartbeats 400000 in
set_option maxRecDepth 100000 in
theorem c_X6_cut (l : Launch) (D : va_G) (cy : Nat → ClassId) (sz : Nat) (k : Nat) (b : Int64) (hk : k ≤ 7) : Met l yX6_cut (px_w yX6_cut cX6_cut 3 (some .long)) (rmd 1 0 0) (px_P D cy [.int (nI k), .long b] sz (fun _ => True)) (px_V (some (.long (f_cut k b)))) 0 0 (fun _ => False) := by
  refine px_met (by decide) (Nat.le_of_ble_eq_true rfl) ?_
  intro p e s m below meth c F hr hlocks hnm hK hsz hR ls hl
  have hx := F.1
  have hb := F.2.1
  have hl : lv_has ls 3 [(0, .int (nI k)), (1, .long b)] := hl
  refine lv_iload_n hx hb dX6_cut_0 rfl (lv_at hl 0 rfl) ?_
  rcases (show k = 0 ∨ k = 1 ∨ k = 2 ∨ k = 3 ∨ k = 4 ∨ k = 5 ∨ k = 6 ∨ k = 7 by omega) with rfl | rfl | rfl | rfl | rfl | rfl | rfl | rfl
  · refine lv_tableIn (off := 47) (tgt := 48) hx hb dX6_cut_1 (by decide) (by decide) (by decide +kernel) (by decide) ?_
    refine lv_lload_n hx hb dX6_cut_48 rfl (lv_at hl 1 rfl) ?_
    refine lv_lconst (v := 1) hx hb dX6_cut_49 (by decide) ?_
    refine lv_land hx hb dX6_cut_50 ?_
    exact pv_lret F hr hlocks (by simp [f_cut, ]) dX6_cut_51
  · refine lv_tableIn (off := 51) (tgt := 52) hx hb dX6_cut_1 (by decide) (by decide) (by decide +kernel) (by decide) ?_
    refine lv_lload_n hx hb dX6_cut_52 rfl (lv_at hl 1 rfl) ?_
    refine lv_l2i hx hb dX6_cut_53 rfl ?_
    refine lv_i2b hx hb dX6_cut_54 rfl ?_
    refine lv_i2l hx hb dX6_cut_55 rfl ?_
    exact pv_lret F hr hlocks (by simp [f_cut, ]) dX6_cut_56
  · refine lv_tableIn (off := 56) (tgt := 57) hx hb dX6_cut_1 (by decide) (by decide) (by decide +kernel) (by decide) ?_
    refine lv_lload_n hx hb dX6_cut_57 rfl (lv_at hl 1 rfl) ?_
    refine lv_l2i hx hb dX6_cut_58 rfl ?_
    refine lv_i2s hx hb dX6_cut_59 rfl ?_
    refine lv_i2l hx hb dX6_cut_60 rfl ?_
    exact pv_lret F hr hlocks (by simp [f_cut, ]) dX6_cut_61
  · refine lv_tableIn (off := 61) (tgt := 62) hx hb dX6_cut_1 (by decide) (by decide) (by decide +kernel) (by decide) ?_
    refine lv_lload_n hx hb dX6_cut_62 rfl (lv_at hl 1 rfl) ?_
    refine lv_ldc2 hx hb F.2.2.2.1 (F.2.2.2.2 _ kw_constantLong_RX6_94) dX6_cut_63 ?_
    refine lv_land hx hb dX6_cut_66 ?_
    exact pv_lret F hr hlocks (by simp [f_cut, ]) dX6_cut_67
  · refine lv_tableIn (off := 67) (tgt := 68) hx hb dX6_cut_1 (by decide) (by decide) (by decide +kernel) (by decide) ?_
    refine lv_lload_n hx hb dX6_cut_68 rfl (lv_at hl 1 rfl) ?_
    refine lv_l2i hx hb dX6_cut_69 rfl ?_
    refine lv_i2l hx hb dX6_cut_70 rfl ?_
    exact pv_lret F hr hlocks (by simp [f_cut, ]) dX6_cut_71
  · refine lv_tableIn (off := 113) (tgt := 114) hx hb dX6_cut_1 (by decide) (by decide) (by decide +kernel) (by decide) ?_
    refine lv_lload_n hx hb dX6_cut_114 rfl (lv_at hl 1 rfl) ?_
    exact pv_lret F hr hlocks (by simp [f_cut, ]) dX6_cut_115
  · refine lv_tableIn (off := 71) (tgt := 72) hx hb dX6_cut_1 (by decide) (by decide) (by decide +kernel) (by decide) ?_
    refine lv_lload_n hx hb dX6_cut_72 rfl (lv_at hl 1 rfl) ?_
    refine lv_ldc2 hx hb F.2.2.2.1 (F.2.2.2.2 _ kw_constantLong_RX6_96) dX6_cut_73 ?_
    refine lv_land hx hb dX6_cut_76 ?_
    refine lv_ldc2 hx hb F.2.2.2.1 (F.2.2.2.2 _ kw_constantLong_RX6_98) dX6_cut_77 ?_
    refine W.lcmp hx hb dX6_cut_80 ?_
    refine x_cmp_le (tgt := 90) hx hb dX6_cut_81 (by decide) (fun h_81 => ?_) (fun h_81 => ?_)
    · refine lv_lload_n hx hb dX6_cut_90 rfl (lv_at hl 1 rfl) ?_
      refine lv_l2i hx hb dX6_cut_91 rfl ?_
      refine lv_i2l hx hb dX6_cut_92 rfl ?_
      exact pv_lret F hr hlocks (by simp [f_cut, h_81]) dX6_cut_93
    · refine lv_ldc2 hx hb F.2.2.2.1 (F.2.2.2.2 _ kw_constantLong_RX6_100) dX6_cut_84 ?_
      refine lv_goto (tgt := 93) hx hb dX6_cut_87 (by decide) ?_
      exact pv_lret F hr hlocks (by simp [f_cut, h_81]) dX6_cut_93
  · refine lv_tableIn (off := 93) (tgt := 94) hx hb dX6_cut_1 (by decide) (by decide) (by decide +kernel) (by decide) ?_
    refine lv_lload_n hx hb dX6_cut_94 rfl (lv_at hl 1 rfl) ?_
    refine lv_ldc2 hx hb F.2.2.2.1 (F.2.2.2.2 _ kw_constantLong_RX6_102) dX6_cut_95 ?_
    refine lv_land hx hb dX6_cut_98 ?_
    refine lv_ldc2 hx hb F.2.2.2.1 (F.2.2.2.2 _ kw_constantLong_RX6_104) dX6_cut_99 ?_
    refine W.lcmp hx hb dX6_cut_102 ?_
    refine x_cmp_le (tgt := 112) hx hb dX6_cut_103 (by decide) (fun h_103 => ?_) (fun h_103 => ?_)
    · refine lv_lload_n hx hb dX6_cut_112 rfl (lv_at hl 1 rfl) ?_
      exact pv_lret F hr hlocks (by simp [f_cut, h_103]) dX6_cut_113
    · refine lv_ldc2 hx hb F.2.2.2.1 (F.2.2.2.2 _ kw_constantLong_RX6_106) dX6_cut_106 ?_
      refine lv_goto (tgt := 113) hx hb dX6_cut_109 (by decide) ?_
      exact pv_lret F hr hlocks (by simp [f_cut, h_103]) dX6_cut_113
set_option maxHeartbeats 400000 in
set_option maxRecDepth 100000 in
theorem c_X6_read (l : Launch) (D : va_G) (cy : Nat → ClassId) (A : Nat → Prop) (G : Nat → Nat) (r : RS) (C : Nat → Nat) (E : Nat → Int64) (sz : Nat) (cl k i : Int32) {kk : Nat} (hI : Inv kk r) : Met l yX6_read (px_w yX6_read cX6_read 5 (some .long)) (rmd 4 0 0) (px_P D cy [.ref (G 0), .int cl, .int k, .int i] sz (MR D cy A G r C E)) (px_Q (px_M D cy A G (some (.long (f_read r cl k i).2)) ((f_read r cl k i).1)) A) 0 0 A := by
  refine px_met (by decide) (Nat.le_of_ble_eq_true rfl) ?_
  intro p e s m below meth c F hr hlocks hnm hK hsz hR ls hl
  have hx := F.1
  have hb := F.2.1
  have hl : lv_has ls 5 [(0, .ref (G 0)), (1, .int cl), (2, .int k), (3, .int i)] := hl
  have hS : va_S A s.heap s.heap [] := va_S.rf
  have hbd := hI.bd
  refine lv_iload_n hx hb dX6_read_0 rfl (lv_at hl 1 rfl) ?_
  refine px_goV (st1 := [.int (b2i (f_in cl 0 15))]) (px_callS F hK (c_X6_isColumn l D cy _ cl) kc_X6_isColumn kw_methodLink_RX6_53 rfl trivial rfl ⟨rfl, rfl⟩ ⟨Nat.le_of_ble_eq_true rfl, Nat.le_of_ble_eq_true rfl⟩ hl.1 rfl (Nat.le_of_ble_eq_true rfl) dX6_read_1 ⟨Nat.zero_le _, Nat.zero_le _⟩) rfl ?_
  refine x_ifeq_b (tgt := 17) hx hb dX6_read_4 (by decide) (fun h_4 => ?_) (fun h_4 => ?_)
  · refine lv_aload_n hx hb dX6_read_17 rfl (lv_at hl 0 rfl) ?_
    refine lv_bipush (v := -2) hx hb dX6_read_18 (by decide) ?_
    refine m_put F hK hR hS 13 (by decide) (v := (-2)) rfl (sFa r (-2)) rfl kw_fieldLink_RX6_111 rfl rfl dX6_read_20 (fun H locs hR hS => ?_)
    refine lv_lconst (v := 0) hx hb dX6_read_23 (by decide) ?_
    exact px_lret F hr hlocks hS (by have e : f_read r cl k i = (sFa r (-2), 0) := (by simp [f_read, h_4] <;> rfl); rw [e]; exact ⟨rfl, _, _, hR⟩) dX6_read_24
  · refine lv_iload_n hx hb dX6_read_7 rfl (lv_at hl 2 rfl) ?_
    refine lv_iconst (v := 0) hx hb dX6_read_8 (by decide) ?_
    refine lv_bipush (v := 9) hx hb dX6_read_9 (by decide) ?_
    refine px_goV (st1 := [.int (b2i (f_in k 0 9))]) (px_callS F hK (c_X6_in l D cy _ k 0 9) kc_X6_in kw_methodLink_RX6_57 rfl trivial rfl ⟨rfl, rfl⟩ ⟨Nat.le_of_ble_eq_true rfl, Nat.le_of_ble_eq_true rfl⟩ hl.1 rfl (Nat.le_of_ble_eq_true rfl) dX6_read_11 ⟨Nat.zero_le _, Nat.zero_le _⟩) rfl ?_
    refine x_ifne_b (tgt := 25) hx hb dX6_read_14 (by decide) (fun h_14 => ?_) (fun h_14 => ?_)
    · obtain ⟨cn, hl_cn, hh_cn, rfl⟩ := f_in_nat h_4 0 15 (by decide) (by decide) (by decide) (by decide)
      obtain ⟨kn, hl_kn, hh_kn, rfl⟩ := f_in_nat h_14 0 9 (by decide) (by decide) (by decide) (by decide)
      have hc0 := hI.hd cn (by omega)
      have hc1 := hI.tb _ hc0
      refine lv_aload_n hx hb dX6_read_25 rfl (lv_at hl 0 rfl) ?_
      refine m_get F hK hR 9 (by decide) rfl kw_fieldLink_RX6_31 dX6_read_26 ?_
      refine lv_iload_n hx hb dX6_read_29 rfl (lv_at hl 1 rfl) ?_
      refine m_ldHd F hK hR cn rfl (by omega) dX6_read_30 ?_
      refine lv_istore (lv' := [(4, .int (nI (rHd r cn))), (0, .ref (G 0)), (1, .int (nI cn)), (2, .int (nI kn)), (3, .int i)]) hx hb dX6_read_31 hl (by decide) rfl (fun ls hl => ?_)
      refine lv_aload_n hx hb dX6_read_33 rfl (lv_at hl 1 rfl) ?_
      refine lv_iload hx hb dX6_read_34 (lv_at hl 0 rfl) ?_
      refine lv_iload_n hx hb dX6_read_36 rfl (lv_at hl 4 rfl) ?_
      refine lv_aload_n hx hb dX6_read_37 rfl (lv_at hl 1 rfl) ?_
      refine lv_iload hx hb dX6_read_38 (lv_at hl 0 rfl) ?_
      refine lv_iload_n hx hb dX6_read_40 rfl (lv_at hl 3 rfl) ?_
      refine px_goV (st1 := [.int (b2i (f_isOf r (rHd r cn) kn)), .int i, .int (nI (rHd r cn)), .ref (G 0)]) (px_callV F hK (c_X6_isOf l D cy A G r _ _ _ (rHd r cn) kn (by omega) (by omega) (show rK r (rHd r cn) < 100 by omega)) kc_X6_isOf kw_methodLink_RX6_90 rfl hR (m_recv hK hR) rfl ⟨rfl, rfl⟩ ⟨Nat.le_of_ble_eq_true rfl, Nat.le_of_ble_eq_true rfl⟩ hl.1 rfl (Nat.le_of_ble_eq_true rfl) dX6_read_41 ⟨Nat.zero_le _, Nat.zero_le _⟩) rfl ?_
      refine x_ifeq_b (tgt := 51) hx hb dX6_read_44 (by decide) (fun h_44 => ?_) (fun h_44 => ?_)
      · refine lv_iconst (v := 2) hx hb dX6_read_51 (by decide) ?_
        refine px_goM (st1 := [.long ((f_itemOf r (rHd r cn) i 2).2)]) (px_callV F hK (c_X6_itemOf l D cy A G r _ _ _ (rHd r cn) 2 i hI (by omega) (by omega)) kc_X6_itemOf kw_methodLink_RX6_114 rfl hR (m_recv hK hR) rfl ⟨rfl, rfl⟩ ⟨Nat.le_of_ble_eq_true rfl, Nat.le_of_ble_eq_true rfl⟩ hl.1 rfl (Nat.le_of_ble_eq_true rfl) dX6_read_52 ⟨Nat.zero_le _, Nat.zero_le _⟩) hS rfl (fun H locs C E hR hS => ?_)
        exact px_lret F hr hlocks hS (by have e : f_read r (nI cn) (nI kn) i = ((f_itemOf r (rHd r cn) i 2).1, (f_itemOf r (rHd r cn) i 2).2) := (by simp [f_read, h_4, h_14, h_44, ix_nI (show cn < 2 ^ 31 by omega), ix_nI (show kn < 2 ^ 31 by omega)] <;> rfl); rw [e]; exact ⟨rfl, _, _, hR⟩) dX6_read_55
      · refine lv_iconst (v := 0) hx hb dX6_read_47 (by decide) ?_
        refine lv_goto (tgt := 52) hx hb dX6_read_48 (by decide) ?_
        refine px_goM (st1 := [.long ((f_itemOf r (rHd r cn) i 0).2)]) (px_callV F hK (c_X6_itemOf l D cy A G r _ _ _ (rHd r cn) 0 i hI (by omega) (by omega)) kc_X6_itemOf kw_methodLink_RX6_114 rfl hR (m_recv hK hR) rfl ⟨rfl, rfl⟩ ⟨Nat.le_of_ble_eq_true rfl, Nat.le_of_ble_eq_true rfl⟩ hl.1 rfl (Nat.le_of_ble_eq_true rfl) dX6_read_52 ⟨Nat.zero_le _, Nat.zero_le _⟩) hS rfl (fun H locs C E hR hS => ?_)
        exact px_lret F hr hlocks hS (by have e : f_read r (nI cn) (nI kn) i = ((f_itemOf r (rHd r cn) i 0).1, (f_itemOf r (rHd r cn) i 0).2) := (by simp [f_read, h_4, h_14, h_44, ix_nI (show cn < 2 ^ 31 by omega), ix_nI (show kn < 2 ^ 31 by omega)] <;> rfl); rw [e]; exact ⟨rfl, _, _, hR⟩) dX6_read_55
    · refine lv_aload_n hx hb dX6_read_17 rfl (lv_at hl 0 rfl) ?_
      refine lv_bipush (v := -2) hx hb dX6_read_18 (by decide) ?_
      refine m_put F hK hR hS 13 (by decide) (v := (-2)) rfl (sFa r (-2)) rfl kw_fieldLink_RX6_111 rfl rfl dX6_read_20 (fun H locs hR hS => ?_)
      refine lv_lconst (v := 0) hx hb dX6_read_23 (by decide) ?_
      exact px_lret F hr hlocks hS (by have e : f_read r cl k i = (sFa r (-2), 0) := (by simp [f_read, h_4, h_14] <;> rfl); rw [e]; exact ⟨rfl, _, _, hR⟩) dX6_read_24
set_option maxHeartbeats 400000 in
set_option maxRecDepth 100000 in
theorem c_X6_write (l : Launch) (D : va_G) (cy : Nat → ClassId) (A : Nat → Prop) (G : Nat → Nat) (r : RS) (C : Nat → Nat) (E : Nat → Int64) (sz : Nat) (cl k i : Int32) (b : Int64) {kk : Nat} (hI : Inv kk r) : Met l yX6_write (px_w yX6_write cX6_write 8 (some .int)) (rmd 3 0 0) (px_P D cy [.ref (G 0), .int cl, .int k, .int i, .long b] sz (MR D cy A G r C E)) (px_Q (px_M D cy A G (some (.int (f_write r cl k i b).2)) ((f_write r cl k i b).1)) A) 0 0 A := by
  refine px_met (by decide) (Nat.le_of_ble_eq_true rfl) ?_
  intro p e s m below meth c F hr hlocks hnm hK hsz hR ls hl
  have hx := F.1
  have hb := F.2.1
  have hl : lv_has ls 8 [(0, .ref (G 0)), (1, .int cl), (2, .int k), (3, .int i), (4, .long b)] := hl
  have hS : va_S A s.heap s.heap [] := va_S.rf
  have hbd := hI.bd
  refine lv_iload_n hx hb dX6_write_0 rfl (lv_at hl 1 rfl) ?_
  refine px_goV (st1 := [.int (b2i (f_in cl 0 15))]) (px_callS F hK (c_X6_isColumn l D cy _ cl) kc_X6_isColumn kw_methodLink_RX6_53 rfl trivial rfl ⟨rfl, rfl⟩ ⟨Nat.le_of_ble_eq_true rfl, Nat.le_of_ble_eq_true rfl⟩ hl.1 rfl (Nat.le_of_ble_eq_true rfl) dX6_write_1 ⟨Nat.zero_le _, Nat.zero_le _⟩) rfl ?_
  refine x_ifeq_b (tgt := 17) hx hb dX6_write_4 (by decide) (fun h_4 => ?_) (fun h_4 => ?_)
  · refine lv_bipush (v := -2) hx hb dX6_write_17 (by decide) ?_
    exact px_iret F hr hlocks hS (by have e : f_write r cl k i b = (r, (-2)) := (by simp [f_write, f_no, h_4] <;> rfl); rw [e]; exact ⟨rfl, _, _, hR⟩) dX6_write_19
  · refine lv_iload_n hx hb dX6_write_7 rfl (lv_at hl 2 rfl) ?_
    refine lv_iconst (v := 0) hx hb dX6_write_8 (by decide) ?_
    refine lv_bipush (v := 7) hx hb dX6_write_9 (by decide) ?_
    refine px_goV (st1 := [.int (b2i (f_in k 0 7))]) (px_callS F hK (c_X6_in l D cy _ k 0 7) kc_X6_in kw_methodLink_RX6_57 rfl trivial rfl ⟨rfl, rfl⟩ ⟨Nat.le_of_ble_eq_true rfl, Nat.le_of_ble_eq_true rfl⟩ hl.1 rfl (Nat.le_of_ble_eq_true rfl) dX6_write_11 ⟨Nat.zero_le _, Nat.zero_le _⟩) rfl ?_
    refine x_ifne_b (tgt := 20) hx hb dX6_write_14 (by decide) (fun h_14 => ?_) (fun h_14 => ?_)
    · obtain ⟨cn, hl_cn, hh_cn, rfl⟩ := f_in_nat h_4 0 15 (by decide) (by decide) (by decide) (by decide)
      obtain ⟨kn, hl_kn, hh_kn, rfl⟩ := f_in_nat h_14 0 7 (by decide) (by decide) (by decide) (by decide)
      have hc0 := hI.hd cn (by omega)
      have hc1 := hI.tb _ hc0
      have hlk := looked_le r (rHd r cn) i
      refine lv_aload_n hx hb dX6_write_20 rfl (lv_at hl 0 rfl) ?_
      refine m_get F hK hR 9 (by decide) rfl kw_fieldLink_RX6_31 dX6_write_21 ?_
      refine lv_iload_n hx hb dX6_write_24 rfl (lv_at hl 1 rfl) ?_
      refine m_ldHd F hK hR cn rfl (by omega) dX6_write_25 ?_
      refine lv_istore (lv' := [(6, .int (nI (rHd r cn))), (0, .ref (G 0)), (1, .int (nI cn)), (2, .int (nI kn)), (3, .int i), (4, .long b)]) hx hb dX6_write_26 hl (by decide) rfl (fun ls hl => ?_)
      refine lv_aload_n hx hb dX6_write_28 rfl (lv_at hl 1 rfl) ?_
      refine lv_iload hx hb dX6_write_29 (lv_at hl 0 rfl) ?_
      refine lv_iload_n hx hb dX6_write_31 rfl (lv_at hl 3 rfl) ?_
      refine px_goV (st1 := [.int (b2i (f_isOf r (rHd r cn) kn))]) (px_callV F hK (c_X6_isOf l D cy A G r _ _ _ (rHd r cn) kn (by omega) (by omega) (show rK r (rHd r cn) < 100 by omega)) kc_X6_isOf kw_methodLink_RX6_90 rfl hR (m_recv hK hR) rfl ⟨rfl, rfl⟩ ⟨Nat.le_of_ble_eq_true rfl, Nat.le_of_ble_eq_true rfl⟩ hl.1 rfl (Nat.le_of_ble_eq_true rfl) dX6_write_32 ⟨Nat.zero_le _, Nat.zero_le _⟩) rfl ?_
      refine x_ifeq_b (tgt := 48) hx hb dX6_write_35 (by decide) (fun h_35 => ?_) (fun h_35 => ?_)
      · refine lv_iconst (v := 2) hx hb dX6_write_48 (by decide) ?_
        refine lv_istore (lv' := [(7, .int 2), (6, .int (nI (rHd r cn))), (0, .ref (G 0)), (1, .int (nI cn)), (2, .int (nI kn)), (3, .int i), (4, .long b)]) hx hb dX6_write_49 hl (by decide) rfl (fun ls hl => ?_)
        refine lv_iload hx hb dX6_write_51 (lv_at hl 0 rfl) ?_
        refine lv_if_eq (tgt := 62) hx hb dX6_write_53 (by decide) (fun h => absurd h (by decide)) (fun _ => ?_)
        refine lv_iload hx hb dX6_write_56 (lv_at hl 0 rfl) ?_
        refine px_goV (st1 := [.int (-12)]) (px_callS F hK (c_X6_answer l D cy _ 2) kc_X6_answer kw_methodLink_RX6_65 rfl trivial rfl ⟨rfl, rfl⟩ ⟨Nat.le_of_ble_eq_true rfl, Nat.le_of_ble_eq_true rfl⟩ hl.1 rfl (Nat.le_of_ble_eq_true rfl) dX6_write_58 ⟨Nat.zero_le _, Nat.zero_le _⟩) rfl ?_
        exact px_iret F hr hlocks hS (by have e : f_write r (nI cn) (nI kn) i b = (r, (-12)) := (by simp [f_write, f_no, h_4, h_14, h_35, ix_nI (show cn < 2 ^ 31 by omega), ix_nI (show kn < 2 ^ 31 by omega)] <;> rfl); rw [e]; exact ⟨rfl, _, _, hR⟩) dX6_write_61
      · refine lv_aload_n hx hb dX6_write_38 rfl (lv_at hl 1 rfl) ?_
        refine lv_iload hx hb dX6_write_39 (lv_at hl 0 rfl) ?_
        refine lv_iload_n hx hb dX6_write_41 rfl (lv_at hl 4 rfl) ?_
        refine px_goV (st1 := [.int (nI (f_looked r (rHd r cn) i))]) (px_callV F hK (c_X6_looked l D cy A G r _ _ _ (rHd r cn) i (by omega)) kc_X6_looked kw_methodLink_RX6_108 rfl hR (m_recv hK hR) rfl ⟨rfl, rfl⟩ ⟨Nat.le_of_ble_eq_true rfl, Nat.le_of_ble_eq_true rfl⟩ hl.1 rfl (Nat.le_of_ble_eq_true rfl) dX6_write_42 ⟨Nat.zero_le _, Nat.zero_le _⟩) rfl ?_
        refine lv_goto (tgt := 49) hx hb dX6_write_45 (by decide) ?_
        refine lv_istore (lv' := [(7, .int (nI (f_looked r (rHd r cn) i))), (6, .int (nI (rHd r cn))), (0, .ref (G 0)), (1, .int (nI cn)), (2, .int (nI kn)), (3, .int i), (4, .long b)]) hx hb dX6_write_49 hl (by decide) rfl (fun ls hl => ?_)
        refine lv_iload hx hb dX6_write_51 (lv_at hl 0 rfl) ?_
        refine lv_if_eq (tgt := 62) hx hb dX6_write_53 (by decide) (fun h_53 => ?_) (fun h_53 => ?_)
        · have h_53 : (f_looked r (rHd r cn) i) = 0 := nIeq (show nI (f_looked r (rHd r cn) i) = nI 0 from h_53) (by omega) (by omega)
          obtain ⟨ht0_j, j, hj_j, rfl⟩ := looked_0 h_53 (by omega)
          refine lv_aload_n hx hb dX6_write_62 rfl (lv_at hl 2 rfl) ?_
          refine lv_iload hx hb dX6_write_63 (lv_at hl 1 rfl) ?_
          refine lv_iload_n hx hb dX6_write_65 rfl (lv_at hl 5 rfl) ?_
          refine lv_iload_n hx hb dX6_write_66 rfl (lv_at hl 4 rfl) ?_
          refine lv_lload hx hb dX6_write_67 (lv_at hl 6 rfl) ?_
          refine px_goV (st1 := [.long (f_cut kn b), .int (nI j), .int (nI (rHd r cn)), .ref (G 0)]) (px_callS F hK (c_X6_cut l D cy _ kn b (by omega)) kc_X6_cut kw_methodLink_RX6_118 rfl trivial rfl ⟨rfl, rfl⟩ ⟨Nat.le_of_ble_eq_true rfl, Nat.le_of_ble_eq_true rfl⟩ hl.1 rfl (Nat.le_of_ble_eq_true rfl) dX6_write_69 ⟨Nat.zero_le _, Nat.zero_le _⟩) rfl ?_
          refine px_goMx (st1 := []) (px_callV F hK (c_X6_put l D cy A G r _ _ _ (rHd r cn) j (f_cut kn b) (by omega) (show rS r (rHd r cn) + j < 12200 by omega)) kc_X6_put kw_methodLink_RX6_76 rfl hR (m_recv hK hR) rfl ⟨rfl, rfl⟩ ⟨Nat.le_of_ble_eq_true rfl, Nat.le_of_ble_eq_true rfl⟩ hl.1 rfl (Nat.le_of_ble_eq_true rfl) dX6_write_72 ⟨Nat.zero_le _, Nat.zero_le _⟩) hS rfl (fun H locs hR hS => ?_)
          refine lv_iconst (v := 1) hx hb dX6_write_75 (by decide) ?_
          exact px_iret F hr hlocks hS (by have e : f_write r (nI cn) (nI kn) (nI j) b = (f_put r (rHd r cn) j (f_cut kn b), 1) := (by simp [f_write, f_no, h_4, h_14, h_35, h_53, ix_nI (show cn < 2 ^ 31 by omega), ix_nI (show kn < 2 ^ 31 by omega), ix_nI (show j < 2 ^ 31 by omega)] <;> rfl); rw [e]; exact ⟨rfl, _, _, hR⟩) dX6_write_76
        · have h_53 : ¬ (f_looked r (rHd r cn) i) = 0 := nIne (show ¬ nI (f_looked r (rHd r cn) i) = nI 0 from h_53)
          refine lv_iload hx hb dX6_write_56 (lv_at hl 0 rfl) ?_
          refine px_goV (st1 := [.int (-10 - (nI (f_looked r (rHd r cn) i)))]) (px_callS F hK (c_X6_answer l D cy _ (nI (f_looked r (rHd r cn) i))) kc_X6_answer kw_methodLink_RX6_65 rfl trivial rfl ⟨rfl, rfl⟩ ⟨Nat.le_of_ble_eq_true rfl, Nat.le_of_ble_eq_true rfl⟩ hl.1 rfl (Nat.le_of_ble_eq_true rfl) dX6_write_58 ⟨Nat.zero_le _, Nat.zero_le _⟩) rfl ?_
          exact px_iret F hr hlocks hS (by have e : f_write r (nI cn) (nI kn) i b = (r, -10 - (nI (f_looked r (rHd r cn) i))) := (by simp [f_write, f_no, h_4, h_14, h_35, h_53, ix_nI (show cn < 2 ^ 31 by omega), ix_nI (show kn < 2 ^ 31 by omega)] <;> rfl); rw [e]; exact ⟨rfl, _, _, hR⟩) dX6_write_61
    · refine lv_bipush (v := -2) hx hb dX6_write_17 (by decide) ?_
      exact px_iret F hr hlocks hS (by have e : f_write r cl k i b = (r, (-2)) := (by simp [f_write, f_no, h_4, h_14] <;> rfl); rw [e]; exact ⟨rfl, _, _, hR⟩) dX6_write_19
end
section
/-! the reference: the public methods, 2 -/
set_option maxHeartbeats 400000 in
set_option maxRecDepth 100000 in
theorem c_X6_marked (l : Launch) (D : va_G) (cy : Nat → ClassId) (A : Nat → Prop) (G : Nat → Nat) (r : RS) (C : Nat → Nat) (E : Nat → Int64) (sz : Nat) (cl i : Int32) {kk : Nat} (hI : Inv kk r) : Met l yX6_marked (px_w yX6_marked cX6_marked 5 (some .int)) (rmd 3 0 0) (px_P D cy [.ref (G 0), .int cl, .int i] sz (MR D cy A G r C E)) (px_V (some (.int (f_marked r cl i)))) 0 0 (fun _ => False) := by
  refine px_met (by decide) (Nat.le_of_ble_eq_true rfl) ?_
  intro p e s m below meth c F hr hlocks hnm hK hsz hR ls hl
  have hx := F.1
  have hb := F.2.1
  have hl : lv_has ls 5 [(0, .ref (G 0)), (1, .int cl), (2, .int i)] := hl
  have hbd := hI.bd
  refine lv_iload_n hx hb dX6_marked_0 rfl (lv_at hl 1 rfl) ?_
  refine px_goV (st1 := [.int (b2i (f_in cl 0 15))]) (px_callS F hK (c_X6_isColumn l D cy _ cl) kc_X6_isColumn kw_methodLink_RX6_53 rfl trivial rfl ⟨rfl, rfl⟩ ⟨Nat.le_of_ble_eq_true rfl, Nat.le_of_ble_eq_true rfl⟩ hl.1 rfl (Nat.le_of_ble_eq_true rfl) dX6_marked_1 ⟨Nat.zero_le _, Nat.zero_le _⟩) rfl ?_
  refine x_ifne_b (tgt := 10) hx hb dX6_marked_4 (by decide) (fun h_4 => ?_) (fun h_4 => ?_)
  · obtain ⟨cn, hl_cn, hh_cn, rfl⟩ := f_in_nat h_4 0 15 (by decide) (by decide) (by decide) (by decide)
    have hc0 := hI.hd cn (by omega)
    have hc1 := hI.tb _ hc0
    have hlk := looked_le r (rHd r cn) i
    refine lv_aload_n hx hb dX6_marked_10 rfl (lv_at hl 0 rfl) ?_
    refine m_get F hK hR 9 (by decide) rfl kw_fieldLink_RX6_31 dX6_marked_11 ?_
    refine lv_iload_n hx hb dX6_marked_14 rfl (lv_at hl 1 rfl) ?_
    refine m_ldHd F hK hR cn rfl (by omega) dX6_marked_15 ?_
    refine lv_istore_n (lv' := [(3, .int (nI (rHd r cn))), (0, .ref (G 0)), (1, .int (nI cn)), (2, .int i)]) hx hb dX6_marked_16 rfl hl (by decide) rfl (fun ls hl => ?_)
    refine lv_aload_n hx hb dX6_marked_17 rfl (lv_at hl 1 rfl) ?_
    refine lv_iload_n hx hb dX6_marked_18 rfl (lv_at hl 0 rfl) ?_
    refine lv_bipush (v := 8) hx hb dX6_marked_19 (by decide) ?_
    refine px_goV (st1 := [.int (b2i (f_isOf r (rHd r cn) 8))]) (px_callV F hK (c_X6_isOf l D cy A G r _ _ _ (rHd r cn) 8 (by omega) (by omega) (show rK r (rHd r cn) < 100 by omega)) kc_X6_isOf kw_methodLink_RX6_90 rfl hR (m_recv hK hR) rfl ⟨rfl, rfl⟩ ⟨Nat.le_of_ble_eq_true rfl, Nat.le_of_ble_eq_true rfl⟩ hl.1 rfl (Nat.le_of_ble_eq_true rfl) dX6_marked_21 ⟨Nat.zero_le _, Nat.zero_le _⟩) rfl ?_
    refine x_ifeq_b (tgt := 36) hx hb dX6_marked_24 (by decide) (fun h_24 => ?_) (fun h_24 => ?_)
    · refine lv_iconst (v := 2) hx hb dX6_marked_36 (by decide) ?_
      refine lv_istore (lv' := [(4, .int 2), (3, .int (nI (rHd r cn))), (0, .ref (G 0)), (1, .int (nI cn)), (2, .int i)]) hx hb dX6_marked_37 hl (by decide) rfl (fun ls hl => ?_)
      refine lv_iload hx hb dX6_marked_39 (lv_at hl 0 rfl) ?_
      refine lv_if_eq (tgt := 50) hx hb dX6_marked_41 (by decide) (fun h => absurd h (by decide)) (fun _ => ?_)
      refine lv_iload hx hb dX6_marked_44 (lv_at hl 0 rfl) ?_
      refine px_goV (st1 := [.int (-12)]) (px_callS F hK (c_X6_answer l D cy _ 2) kc_X6_answer kw_methodLink_RX6_65 rfl trivial rfl ⟨rfl, rfl⟩ ⟨Nat.le_of_ble_eq_true rfl, Nat.le_of_ble_eq_true rfl⟩ hl.1 rfl (Nat.le_of_ble_eq_true rfl) dX6_marked_46 ⟨Nat.zero_le _, Nat.zero_le _⟩) rfl ?_
      exact pv_iret F hr hlocks (by have e : f_marked r (nI cn) i = (-12) := (by simp [f_marked, f_no, b2i, h_4, h_24, ix_nI (show cn < 2 ^ 31 by omega)] <;> rfl); rw [e]) dX6_marked_49
    · refine lv_aload_n hx hb dX6_marked_27 rfl (lv_at hl 1 rfl) ?_
      refine lv_iload_n hx hb dX6_marked_28 rfl (lv_at hl 0 rfl) ?_
      refine lv_iload_n hx hb dX6_marked_29 rfl (lv_at hl 3 rfl) ?_
      refine px_goV (st1 := [.int (nI (f_looked r (rHd r cn) i))]) (px_callV F hK (c_X6_looked l D cy A G r _ _ _ (rHd r cn) i (by omega)) kc_X6_looked kw_methodLink_RX6_108 rfl hR (m_recv hK hR) rfl ⟨rfl, rfl⟩ ⟨Nat.le_of_ble_eq_true rfl, Nat.le_of_ble_eq_true rfl⟩ hl.1 rfl (Nat.le_of_ble_eq_true rfl) dX6_marked_30 ⟨Nat.zero_le _, Nat.zero_le _⟩) rfl ?_
      refine lv_goto (tgt := 37) hx hb dX6_marked_33 (by decide) ?_
      refine lv_istore (lv' := [(4, .int (nI (f_looked r (rHd r cn) i))), (3, .int (nI (rHd r cn))), (0, .ref (G 0)), (1, .int (nI cn)), (2, .int i)]) hx hb dX6_marked_37 hl (by decide) rfl (fun ls hl => ?_)
      refine lv_iload hx hb dX6_marked_39 (lv_at hl 0 rfl) ?_
      refine lv_if_eq (tgt := 50) hx hb dX6_marked_41 (by decide) (fun h_41 => ?_) (fun h_41 => ?_)
      · have h_41 : (f_looked r (rHd r cn) i) = 0 := nIeq (show nI (f_looked r (rHd r cn) i) = nI 0 from h_41) (by omega) (by omega)
        obtain ⟨ht0_j, j, hj_j, rfl⟩ := looked_0 h_41 (by omega)
        have hk8 := isOf_k h_24 ht0_j
        have hit := hI.it ht0_j hc0 hj_j (by omega)
        refine lv_aload_n hx hb dX6_marked_50 rfl (lv_at hl 2 rfl) ?_
        refine lv_iload_n hx hb dX6_marked_51 rfl (lv_at hl 1 rfl) ?_
        refine lv_iload_n hx hb dX6_marked_52 rfl (lv_at hl 4 rfl) ?_
        refine px_goV (st1 := [.long (f_at r (rHd r cn) j)]) (px_callV F hK (c_X6_at l D cy A G r _ _ _ (rHd r cn) j (by omega) (show rS r (rHd r cn) + j < 12200 by omega)) kc_X6_at kw_methodLink_RX6_80 rfl hR (m_recv hK hR) rfl ⟨rfl, rfl⟩ ⟨Nat.le_of_ble_eq_true rfl, Nat.le_of_ble_eq_true rfl⟩ hl.1 rfl (Nat.le_of_ble_eq_true rfl) dX6_marked_53 ⟨Nat.zero_le _, Nat.zero_le _⟩) rfl ?_
        refine lv_lconst (v := 0) hx hb dX6_marked_56 (by decide) ?_
        refine W.lcmp hx hb dX6_marked_57 ?_
        refine x_cmp_eq (tgt := 80) hx hb dX6_marked_58 (by decide) (fun h_58 => ?_) (fun h_58 => ?_)
        · refine lv_iconst (v := 0) hx hb dX6_marked_80 (by decide) ?_
          exact pv_iret F hr hlocks (by have e : f_marked r (nI cn) (nI j) = 0 := (by simp [f_marked, f_no, b2i, h_4, h_24, h_41, h_58, ix_nI (show cn < 2 ^ 31 by omega), ix_nI (show j < 2 ^ 31 by omega)] <;> rfl); rw [e]) dX6_marked_81
        · refine lv_aload_n hx hb dX6_marked_61 rfl (lv_at hl 2 rfl) ?_
          refine m_get F hK hR 8 (by decide) rfl kw_fieldLink_RX6_27 dX6_marked_62 ?_
          refine lv_aload_n hx hb dX6_marked_65 rfl (lv_at hl 2 rfl) ?_
          refine lv_iload_n hx hb dX6_marked_66 rfl (lv_at hl 1 rfl) ?_
          refine lv_iload_n hx hb dX6_marked_67 rfl (lv_at hl 4 rfl) ?_
          refine px_goV (st1 := [.long (f_at r (rHd r cn) j), .ref (G 6)]) (px_callV F hK (c_X6_at l D cy A G r _ _ _ (rHd r cn) j (by omega) (show rS r (rHd r cn) + j < 12200 by omega)) kc_X6_at kw_methodLink_RX6_80 rfl hR (m_recv hK hR) rfl ⟨rfl, rfl⟩ ⟨Nat.le_of_ble_eq_true rfl, Nat.le_of_ble_eq_true rfl⟩ hl.1 rfl (Nat.le_of_ble_eq_true rfl) dX6_marked_68 ⟨Nat.zero_le _, Nat.zero_le _⟩) rfl ?_
          refine px_topl hit.1 ?_
          refine lv_l2i (v := nI (iv (f_at r (rHd r cn) j))) hx hb dX6_marked_71 (lN_i _) ?_
          refine m_ldIM F hK hR (iv (f_at r (rHd r cn) j)) rfl (by omega) dX6_marked_72 ?_
          refine x_ifeq_b (tgt := 80) hx hb dX6_marked_73 (by decide) (fun h_73 => ?_) (fun h_73 => ?_)
          · refine lv_iconst (v := 0) hx hb dX6_marked_80 (by decide) ?_
            exact pv_iret F hr hlocks (by have e : f_marked r (nI cn) (nI j) = 0 := (by simp [f_marked, f_no, b2i, h_4, h_24, h_41, h_58, h_73, ix_nI (show cn < 2 ^ 31 by omega), ix_nI (show j < 2 ^ 31 by omega)] <;> rfl); rw [e]) dX6_marked_81
          · refine lv_iconst (v := 1) hx hb dX6_marked_76 (by decide) ?_
            refine lv_goto (tgt := 81) hx hb dX6_marked_77 (by decide) ?_
            exact pv_iret F hr hlocks (by have e : f_marked r (nI cn) (nI j) = 1 := (by simp [f_marked, f_no, b2i, h_4, h_24, h_41, h_58, h_73, ix_nI (show cn < 2 ^ 31 by omega), ix_nI (show j < 2 ^ 31 by omega)] <;> rfl); rw [e]) dX6_marked_81
      · have h_41 : ¬ (f_looked r (rHd r cn) i) = 0 := nIne (show ¬ nI (f_looked r (rHd r cn) i) = nI 0 from h_41)
        refine lv_iload hx hb dX6_marked_44 (lv_at hl 0 rfl) ?_
        refine px_goV (st1 := [.int (-10 - (nI (f_looked r (rHd r cn) i)))]) (px_callS F hK (c_X6_answer l D cy _ (nI (f_looked r (rHd r cn) i))) kc_X6_answer kw_methodLink_RX6_65 rfl trivial rfl ⟨rfl, rfl⟩ ⟨Nat.le_of_ble_eq_true rfl, Nat.le_of_ble_eq_true rfl⟩ hl.1 rfl (Nat.le_of_ble_eq_true rfl) dX6_marked_46 ⟨Nat.zero_le _, Nat.zero_le _⟩) rfl ?_
        exact pv_iret F hr hlocks (by have e : f_marked r (nI cn) i = -10 - (nI (f_looked r (rHd r cn) i)) := (by simp [f_marked, f_no, b2i, h_4, h_24, h_41, ix_nI (show cn < 2 ^ 31 by omega)] <;> rfl); rw [e]) dX6_marked_49
  · refine lv_bipush (v := -2) hx hb dX6_marked_7 (by decide) ?_
    exact pv_iret F hr hlocks (by have e : f_marked r cl i = (-2) := (by simp [f_marked, f_no, b2i, h_4] <;> rfl); rw [e]) dX6_marked_9
set_option maxHeartbeats 400000 in
set_option maxRecDepth 100000 in
theorem c_X6_take (l : Launch) (D : va_G) (cy : Nat → ClassId) (A : Nat → Prop) (G : Nat → Nat) (r : RS) (C : Nat → Nat) (E : Nat → Int64) (sz : Nat) (cl f k i : Int32) {kk : Nat} (hI : Inv kk r) : Met l yX6_take (px_w yX6_take cX6_take 7 (some .int)) (rmd 3 0 0) (px_P D cy [.ref (G 0), .int cl, .int f, .int k, .int i] sz (MR D cy A G r C E)) (px_Q (px_M D cy A G (some (.int (f_take r cl f k i).2)) ((f_take r cl f k i).1)) A) 0 0 A := by
  refine px_met (by decide) (Nat.le_of_ble_eq_true rfl) ?_
  intro p e s m below meth c F hr hlocks hnm hK hsz hR ls hl
  have hx := F.1
  have hb := F.2.1
  have hl : lv_has ls 7 [(0, .ref (G 0)), (1, .int cl), (2, .int f), (3, .int k), (4, .int i)] := hl
  have hS : va_S A s.heap s.heap [] := va_S.rf
  have hbd := hI.bd
  refine lv_iload_n hx hb dX6_take_0 rfl (lv_at hl 1 rfl) ?_
  refine px_goV (st1 := [.int (b2i (f_in cl 0 15))]) (px_callS F hK (c_X6_isColumn l D cy _ cl) kc_X6_isColumn kw_methodLink_RX6_53 rfl trivial rfl ⟨rfl, rfl⟩ ⟨Nat.le_of_ble_eq_true rfl, Nat.le_of_ble_eq_true rfl⟩ hl.1 rfl (Nat.le_of_ble_eq_true rfl) dX6_take_1 ⟨Nat.zero_le _, Nat.zero_le _⟩) rfl ?_
  refine x_ifeq_b (tgt := 25) hx hb dX6_take_4 (by decide) (fun h_4 => ?_) (fun h_4 => ?_)
  · refine lv_bipush (v := -2) hx hb dX6_take_25 (by decide) ?_
    exact px_iret F hr hlocks hS (by have e : f_take r cl f k i = (r, (-2)) := (by simp [f_take, f_no, h_4] <;> rfl); rw [e]; exact ⟨rfl, _, _, hR⟩) dX6_take_27
  · refine lv_iload_n hx hb dX6_take_7 rfl (lv_at hl 2 rfl) ?_
    refine px_goV (st1 := [.int (b2i (f_in f 0 15))]) (px_callS F hK (c_X6_isColumn l D cy _ f) kc_X6_isColumn kw_methodLink_RX6_53 rfl trivial rfl ⟨rfl, rfl⟩ ⟨Nat.le_of_ble_eq_true rfl, Nat.le_of_ble_eq_true rfl⟩ hl.1 rfl (Nat.le_of_ble_eq_true rfl) dX6_take_8 ⟨Nat.zero_le _, Nat.zero_le _⟩) rfl ?_
    refine x_ifeq_b (tgt := 25) hx hb dX6_take_11 (by decide) (fun h_11 => ?_) (fun h_11 => ?_)
    · refine lv_bipush (v := -2) hx hb dX6_take_25 (by decide) ?_
      exact px_iret F hr hlocks hS (by have e : f_take r cl f k i = (r, (-2)) := (by simp [f_take, f_no, h_4, h_11] <;> rfl); rw [e]; exact ⟨rfl, _, _, hR⟩) dX6_take_27
    · refine lv_iload_n hx hb dX6_take_14 rfl (lv_at hl 3 rfl) ?_
      refine lv_bipush (v := 10) hx hb dX6_take_15 (by decide) ?_
      refine lv_bipush (v := 13) hx hb dX6_take_17 (by decide) ?_
      refine px_goV (st1 := [.int (b2i (f_in k 10 13))]) (px_callS F hK (c_X6_in l D cy _ k 10 13) kc_X6_in kw_methodLink_RX6_57 rfl trivial rfl ⟨rfl, rfl⟩ ⟨Nat.le_of_ble_eq_true rfl, Nat.le_of_ble_eq_true rfl⟩ hl.1 rfl (Nat.le_of_ble_eq_true rfl) dX6_take_19 ⟨Nat.zero_le _, Nat.zero_le _⟩) rfl ?_
      refine x_ifne_b (tgt := 28) hx hb dX6_take_22 (by decide) (fun h_22 => ?_) (fun h_22 => ?_)
      · obtain ⟨cn, hl_cn, hh_cn, rfl⟩ := f_in_nat h_4 0 15 (by decide) (by decide) (by decide) (by decide)
        obtain ⟨fn, hl_fn, hh_fn, rfl⟩ := f_in_nat h_11 0 15 (by decide) (by decide) (by decide) (by decide)
        obtain ⟨kn, hl_kn, hh_kn, rfl⟩ := f_in_nat h_22 10 13 (by decide) (by decide) (by decide) (by decide)
        have hc0 := hI.hd fn (by omega)
        have hc1 := hI.tb _ hc0
        have hlk := looked_le r (rHd r fn) i
        refine lv_aload_n hx hb dX6_take_28 rfl (lv_at hl 0 rfl) ?_
        refine m_get F hK hR 9 (by decide) rfl kw_fieldLink_RX6_31 dX6_take_29 ?_
        refine lv_iload_n hx hb dX6_take_32 rfl (lv_at hl 2 rfl) ?_
        refine m_ldHd F hK hR fn rfl (by omega) dX6_take_33 ?_
        refine lv_istore (lv' := [(5, .int (nI (rHd r fn))), (0, .ref (G 0)), (1, .int (nI cn)), (2, .int (nI fn)), (3, .int (nI kn)), (4, .int i)]) hx hb dX6_take_34 hl (by decide) rfl (fun ls hl => ?_)
        refine lv_aload_n hx hb dX6_take_36 rfl (lv_at hl 1 rfl) ?_
        refine lv_iload hx hb dX6_take_37 (lv_at hl 0 rfl) ?_
        refine lv_iload_n hx hb dX6_take_39 rfl (lv_at hl 4 rfl) ?_
        refine px_goV (st1 := [.int (b2i (f_isOf r (rHd r fn) kn))]) (px_callV F hK (c_X6_isOf l D cy A G r _ _ _ (rHd r fn) kn (by omega) (by omega) (show rK r (rHd r fn) < 100 by omega)) kc_X6_isOf kw_methodLink_RX6_90 rfl hR (m_recv hK hR) rfl ⟨rfl, rfl⟩ ⟨Nat.le_of_ble_eq_true rfl, Nat.le_of_ble_eq_true rfl⟩ hl.1 rfl (Nat.le_of_ble_eq_true rfl) dX6_take_40 ⟨Nat.zero_le _, Nat.zero_le _⟩) rfl ?_
        refine x_ifeq_b (tgt := 57) hx hb dX6_take_43 (by decide) (fun h_43 => ?_) (fun h_43 => ?_)
        · refine lv_iconst (v := 2) hx hb dX6_take_57 (by decide) ?_
          refine lv_istore (lv' := [(6, .int 2), (5, .int (nI (rHd r fn))), (0, .ref (G 0)), (1, .int (nI cn)), (2, .int (nI fn)), (3, .int (nI kn)), (4, .int i)]) hx hb dX6_take_58 hl (by decide) rfl (fun ls hl => ?_)
          refine lv_iload hx hb dX6_take_60 (lv_at hl 0 rfl) ?_
          refine lv_if_eq (tgt := 71) hx hb dX6_take_62 (by decide) (fun h => absurd h (by decide)) (fun _ => ?_)
          refine lv_iload hx hb dX6_take_65 (lv_at hl 0 rfl) ?_
          refine px_goV (st1 := [.int (-12)]) (px_callS F hK (c_X6_answer l D cy _ 2) kc_X6_answer kw_methodLink_RX6_65 rfl trivial rfl ⟨rfl, rfl⟩ ⟨Nat.le_of_ble_eq_true rfl, Nat.le_of_ble_eq_true rfl⟩ hl.1 rfl (Nat.le_of_ble_eq_true rfl) dX6_take_67 ⟨Nat.zero_le _, Nat.zero_le _⟩) rfl ?_
          exact px_iret F hr hlocks hS (by have e : f_take r (nI cn) (nI fn) (nI kn) i = (r, (-12)) := (by simp [f_take, f_no, h_4, h_11, h_22, h_43, ix_nI (show cn < 2 ^ 31 by omega), ix_nI (show fn < 2 ^ 31 by omega), ix_nI (show kn < 2 ^ 31 by omega)] <;> rfl); rw [e]; exact ⟨rfl, _, _, hR⟩) dX6_take_70
        · refine lv_aload_n hx hb dX6_take_46 rfl (lv_at hl 1 rfl) ?_
          refine lv_iload hx hb dX6_take_47 (lv_at hl 0 rfl) ?_
          refine lv_iload hx hb dX6_take_49 (lv_at hl 5 rfl) ?_
          refine px_goV (st1 := [.int (nI (f_looked r (rHd r fn) i))]) (px_callV F hK (c_X6_looked l D cy A G r _ _ _ (rHd r fn) i (by omega)) kc_X6_looked kw_methodLink_RX6_108 rfl hR (m_recv hK hR) rfl ⟨rfl, rfl⟩ ⟨Nat.le_of_ble_eq_true rfl, Nat.le_of_ble_eq_true rfl⟩ hl.1 rfl (Nat.le_of_ble_eq_true rfl) dX6_take_51 ⟨Nat.zero_le _, Nat.zero_le _⟩) rfl ?_
          refine lv_goto (tgt := 58) hx hb dX6_take_54 (by decide) ?_
          refine lv_istore (lv' := [(6, .int (nI (f_looked r (rHd r fn) i))), (5, .int (nI (rHd r fn))), (0, .ref (G 0)), (1, .int (nI cn)), (2, .int (nI fn)), (3, .int (nI kn)), (4, .int i)]) hx hb dX6_take_58 hl (by decide) rfl (fun ls hl => ?_)
          refine lv_iload hx hb dX6_take_60 (lv_at hl 0 rfl) ?_
          refine lv_if_eq (tgt := 71) hx hb dX6_take_62 (by decide) (fun h_62 => ?_) (fun h_62 => ?_)
          · have h_62 : (f_looked r (rHd r fn) i) = 0 := nIeq (show nI (f_looked r (rHd r fn) i) = nI 0 from h_62) (by omega) (by omega)
            obtain ⟨ht0_j, j, hj_j, rfl⟩ := looked_0 h_62 (by omega)
            have hk8 := isOf_k h_43 ht0_j
            have hit := hI.it ht0_j hc0 hj_j (by omega)
            refine lv_aload_n hx hb dX6_take_71 rfl (lv_at hl 2 rfl) ?_
            refine m_get F hK hR 9 (by decide) rfl kw_fieldLink_RX6_31 dX6_take_72 ?_
            refine lv_iload_n hx hb dX6_take_75 rfl (lv_at hl 3 rfl) ?_
            refine lv_aload_n hx hb dX6_take_76 rfl (lv_at hl 2 rfl) ?_
            refine lv_iload hx hb dX6_take_77 (lv_at hl 1 rfl) ?_
            refine lv_iload hx hb dX6_take_79 (lv_at hl 6 rfl) ?_
            refine px_goV (st1 := [.long (f_at r (rHd r fn) j), .int (nI cn), .ref (G 7)]) (px_callV F hK (c_X6_at l D cy A G r _ _ _ (rHd r fn) j (by omega) (show rS r (rHd r fn) + j < 12200 by omega)) kc_X6_at kw_methodLink_RX6_80 rfl hR (m_recv hK hR) rfl ⟨rfl, rfl⟩ ⟨Nat.le_of_ble_eq_true rfl, Nat.le_of_ble_eq_true rfl⟩ hl.1 rfl (Nat.le_of_ble_eq_true rfl) dX6_take_81 ⟨Nat.zero_le _, Nat.zero_le _⟩) rfl ?_
            refine px_topl hit.1 ?_
            refine lv_l2i (v := nI (iv (f_at r (rHd r fn) j))) hx hb dX6_take_84 (lN_i _) ?_
            refine m_stHd F hK hR hS cn (iv (f_at r (rHd r fn) j)) rfl rfl (by omega) dX6_take_85 (fun H locs hR hS => ?_)
            refine lv_iconst (v := 1) hx hb dX6_take_86 (by decide) ?_
            exact px_iret F hr hlocks hS (by have e : f_take r (nI cn) (nI fn) (nI kn) (nI j) = (sHd r (va_up (rHd r) cn (iv (f_at r (rHd r fn) j))), 1) := (by simp [f_take, f_no, h_4, h_11, h_22, h_43, h_62, ix_nI (show cn < 2 ^ 31 by omega), ix_nI (show fn < 2 ^ 31 by omega), ix_nI (show kn < 2 ^ 31 by omega), ix_nI (show j < 2 ^ 31 by omega)] <;> rfl); rw [e]; exact ⟨rfl, _, _, hR⟩) dX6_take_87
          · have h_62 : ¬ (f_looked r (rHd r fn) i) = 0 := nIne (show ¬ nI (f_looked r (rHd r fn) i) = nI 0 from h_62)
            refine lv_iload hx hb dX6_take_65 (lv_at hl 0 rfl) ?_
            refine px_goV (st1 := [.int (-10 - (nI (f_looked r (rHd r fn) i)))]) (px_callS F hK (c_X6_answer l D cy _ (nI (f_looked r (rHd r fn) i))) kc_X6_answer kw_methodLink_RX6_65 rfl trivial rfl ⟨rfl, rfl⟩ ⟨Nat.le_of_ble_eq_true rfl, Nat.le_of_ble_eq_true rfl⟩ hl.1 rfl (Nat.le_of_ble_eq_true rfl) dX6_take_67 ⟨Nat.zero_le _, Nat.zero_le _⟩) rfl ?_
            exact px_iret F hr hlocks hS (by have e : f_take r (nI cn) (nI fn) (nI kn) i = (r, -10 - (nI (f_looked r (rHd r fn) i))) := (by simp [f_take, f_no, h_4, h_11, h_22, h_43, h_62, ix_nI (show cn < 2 ^ 31 by omega), ix_nI (show fn < 2 ^ 31 by omega), ix_nI (show kn < 2 ^ 31 by omega)] <;> rfl); rw [e]; exact ⟨rfl, _, _, hR⟩) dX6_take_70
      · refine lv_bipush (v := -2) hx hb dX6_take_25 (by decide) ?_
        exact px_iret F hr hlocks hS (by have e : f_take r cl f k i = (r, (-2)) := (by simp [f_take, f_no, h_4, h_11, h_22] <;> rfl); rw [e]; exact ⟨rfl, _, _, hR⟩) dX6_take_27
set_option maxHeartbeats 400000 in
set_option maxRecDepth 100000 in
theorem c_X6_row (l : Launch) (D : va_G) (cy : Nat → ClassId) (A : Nat → Prop) (G : Nat → Nat) (r : RS) (C : Nat → Nat) (E : Nat → Int64) (sz : Nat) (cl k i f : Int32) {kk : Nat} (hI : Inv kk r) : Met l yX6_row (px_w yX6_row cX6_row 7 (some .int)) (rmd 3 0 0) (px_P D cy [.ref (G 0), .int cl, .int k, .int i, .int f] sz (MR D cy A G r C E)) (px_Q (px_M D cy A G (some (.int (f_row r cl k i f).2)) ((f_row r cl k i f).1)) A) 0 0 A := by
  refine px_met (by decide) (Nat.le_of_ble_eq_true rfl) ?_
  intro p e s m below meth c F hr hlocks hnm hK hsz hR ls hl
  have hx := F.1
  have hb := F.2.1
  have hl : lv_has ls 7 [(0, .ref (G 0)), (1, .int cl), (2, .int k), (3, .int i), (4, .int f)] := hl
  have hS : va_S A s.heap s.heap [] := va_S.rf
  have hbd := hI.bd
  refine lv_iload_n hx hb dX6_row_0 rfl (lv_at hl 1 rfl) ?_
  refine px_goV (st1 := [.int (b2i (f_in cl 0 15))]) (px_callS F hK (c_X6_isColumn l D cy _ cl) kc_X6_isColumn kw_methodLink_RX6_53 rfl trivial rfl ⟨rfl, rfl⟩ ⟨Nat.le_of_ble_eq_true rfl, Nat.le_of_ble_eq_true rfl⟩ hl.1 rfl (Nat.le_of_ble_eq_true rfl) dX6_row_1 ⟨Nat.zero_le _, Nat.zero_le _⟩) rfl ?_
  refine x_ifeq_b (tgt := 26) hx hb dX6_row_4 (by decide) (fun h_4 => ?_) (fun h_4 => ?_)
  · refine lv_bipush (v := -2) hx hb dX6_row_26 (by decide) ?_
    exact px_iret F hr hlocks hS (by have e : f_row r cl k i f = (r, (-2)) := (by simp [f_row, f_rno, h_4] <;> rfl); rw [e]; exact ⟨rfl, _, _, hR⟩) dX6_row_28
  · refine lv_iload_n hx hb dX6_row_7 rfl (lv_at hl 2 rfl) ?_
    refine lv_bipush (v := 10) hx hb dX6_row_8 (by decide) ?_
    refine lv_bipush (v := 13) hx hb dX6_row_10 (by decide) ?_
    refine px_goV (st1 := [.int (b2i (f_in k 10 13))]) (px_callS F hK (c_X6_in l D cy _ k 10 13) kc_X6_in kw_methodLink_RX6_57 rfl trivial rfl ⟨rfl, rfl⟩ ⟨Nat.le_of_ble_eq_true rfl, Nat.le_of_ble_eq_true rfl⟩ hl.1 rfl (Nat.le_of_ble_eq_true rfl) dX6_row_12 ⟨Nat.zero_le _, Nat.zero_le _⟩) rfl ?_
    refine x_ifeq_b (tgt := 26) hx hb dX6_row_15 (by decide) (fun h_15 => ?_) (fun h_15 => ?_)
    · refine lv_bipush (v := -2) hx hb dX6_row_26 (by decide) ?_
      exact px_iret F hr hlocks hS (by have e : f_row r cl k i f = (r, (-2)) := (by simp [f_row, f_rno, h_4, h_15] <;> rfl); rw [e]; exact ⟨rfl, _, _, hR⟩) dX6_row_28
    · refine lv_iload hx hb dX6_row_18 (lv_at hl 4 rfl) ?_
      refine px_goV (st1 := [.int (b2i (f_in f 0 15))]) (px_callS F hK (c_X6_isColumn l D cy _ f) kc_X6_isColumn kw_methodLink_RX6_53 rfl trivial rfl ⟨rfl, rfl⟩ ⟨Nat.le_of_ble_eq_true rfl, Nat.le_of_ble_eq_true rfl⟩ hl.1 rfl (Nat.le_of_ble_eq_true rfl) dX6_row_20 ⟨Nat.zero_le _, Nat.zero_le _⟩) rfl ?_
      refine x_ifne_b (tgt := 29) hx hb dX6_row_23 (by decide) (fun h_23 => ?_) (fun h_23 => ?_)
      · obtain ⟨cn, hl_cn, hh_cn, rfl⟩ := f_in_nat h_4 0 15 (by decide) (by decide) (by decide) (by decide)
        obtain ⟨kn, hl_kn, hh_kn, rfl⟩ := f_in_nat h_15 10 13 (by decide) (by decide) (by decide) (by decide)
        obtain ⟨fn, hl_fn, hh_fn, rfl⟩ := f_in_nat h_23 0 15 (by decide) (by decide) (by decide) (by decide)
        have hc0 := hI.hd cn (by omega)
        have hc1 := hI.tb _ hc0
        have hd0 := hI.hd fn (by omega)
        have hd1 := hI.tb _ hd0
        have hlk := looked_le r (rHd r cn) i
        have hrk : rkN kn < 100 := (by unfold rkN; split; omega; split; omega; split <;> omega)
        refine lv_aload_n hx hb dX6_row_29 rfl (lv_at hl 0 rfl) ?_
        refine m_get F hK hR 9 (by decide) rfl kw_fieldLink_RX6_31 dX6_row_30 ?_
        refine lv_iload_n hx hb dX6_row_33 rfl (lv_at hl 1 rfl) ?_
        refine m_ldHd F hK hR cn rfl (by omega) dX6_row_34 ?_
        refine lv_istore (lv' := [(5, .int (nI (rHd r cn))), (0, .ref (G 0)), (1, .int (nI cn)), (2, .int (nI kn)), (3, .int i), (4, .int (nI fn))]) hx hb dX6_row_35 hl (by decide) rfl (fun ls hl => ?_)
        refine lv_aload_n hx hb dX6_row_37 rfl (lv_at hl 1 rfl) ?_
        refine lv_iload hx hb dX6_row_38 (lv_at hl 0 rfl) ?_
        refine lv_iload_n hx hb dX6_row_40 rfl (lv_at hl 3 rfl) ?_
        refine px_goV (st1 := [.int (b2i (f_isOf r (rHd r cn) kn))]) (px_callV F hK (c_X6_isOf l D cy A G r _ _ _ (rHd r cn) kn (by omega) (by omega) (show rK r (rHd r cn) < 100 by omega)) kc_X6_isOf kw_methodLink_RX6_90 rfl hR (m_recv hK hR) rfl ⟨rfl, rfl⟩ ⟨Nat.le_of_ble_eq_true rfl, Nat.le_of_ble_eq_true rfl⟩ hl.1 rfl (Nat.le_of_ble_eq_true rfl) dX6_row_41 ⟨Nat.zero_le _, Nat.zero_le _⟩) rfl ?_
        refine x_ifeq_b (tgt := 75) hx hb dX6_row_44 (by decide) (fun h_44 => ?_) (fun h_44 => ?_)
        · refine lv_iconst (v := 2) hx hb dX6_row_75 (by decide) ?_
          refine lv_istore (lv' := [(6, .int 2), (5, .int (nI (rHd r cn))), (0, .ref (G 0)), (1, .int (nI cn)), (2, .int (nI kn)), (3, .int i), (4, .int (nI fn))]) hx hb dX6_row_76 hl (by decide) rfl (fun ls hl => ?_)
          refine lv_iload hx hb dX6_row_78 (lv_at hl 0 rfl) ?_
          refine lv_if_eq (tgt := 89) hx hb dX6_row_80 (by decide) (fun h => absurd h (by decide)) (fun _ => ?_)
          refine lv_iload hx hb dX6_row_83 (lv_at hl 0 rfl) ?_
          refine px_goV (st1 := [.int (-12)]) (px_callS F hK (c_X6_answer l D cy _ 2) kc_X6_answer kw_methodLink_RX6_65 rfl trivial rfl ⟨rfl, rfl⟩ ⟨Nat.le_of_ble_eq_true rfl, Nat.le_of_ble_eq_true rfl⟩ hl.1 rfl (Nat.le_of_ble_eq_true rfl) dX6_row_85 ⟨Nat.zero_le _, Nat.zero_le _⟩) rfl ?_
          exact px_iret F hr hlocks hS (by have e : f_row r (nI cn) (nI kn) i (nI fn) = (r, (-12)) := (by simp [f_row, f_rno, h_4, h_15, h_23, h_44, ix_nI (show cn < 2 ^ 31 by omega), ix_nI (show kn < 2 ^ 31 by omega), ix_nI (show fn < 2 ^ 31 by omega)] <;> rfl); rw [e]; exact ⟨rfl, _, _, hR⟩) dX6_row_88
        · refine lv_aload_n hx hb dX6_row_47 rfl (lv_at hl 1 rfl) ?_
          refine lv_aload_n hx hb dX6_row_48 rfl (lv_at hl 1 rfl) ?_
          refine m_get F hK hR 9 (by decide) rfl kw_fieldLink_RX6_31 dX6_row_49 ?_
          refine lv_iload hx hb dX6_row_52 (lv_at hl 5 rfl) ?_
          refine m_ldHd F hK hR fn rfl (by omega) dX6_row_54 ?_
          refine lv_iload_n hx hb dX6_row_55 rfl (lv_at hl 3 rfl) ?_
          refine px_goV (st1 := [.int (nI (rkN kn)), .int (nI (rHd r fn)), .ref (G 0)]) (px_callS F hK (c_X6_rowKind l D cy _ kn (by omega)) kc_X6_rowKind kw_methodLink_RX6_73 rfl trivial rfl ⟨rfl, rfl⟩ ⟨Nat.le_of_ble_eq_true rfl, Nat.le_of_ble_eq_true rfl⟩ hl.1 rfl (Nat.le_of_ble_eq_true rfl) dX6_row_56 ⟨Nat.zero_le _, Nat.zero_le _⟩) rfl ?_
          refine px_goV (st1 := [.int (b2i (f_isOf r (rHd r fn) (rkN kn)))]) (px_callV F hK (c_X6_isOf l D cy A G r _ _ _ (rHd r fn) (rkN kn) (by omega) (by omega) (show rK r (rHd r fn) < 100 by omega)) kc_X6_isOf kw_methodLink_RX6_90 rfl hR (m_recv hK hR) rfl ⟨rfl, rfl⟩ ⟨Nat.le_of_ble_eq_true rfl, Nat.le_of_ble_eq_true rfl⟩ hl.1 rfl (Nat.le_of_ble_eq_true rfl) dX6_row_59 ⟨Nat.zero_le _, Nat.zero_le _⟩) rfl ?_
          refine x_ifeq_b (tgt := 75) hx hb dX6_row_62 (by decide) (fun h_62 => ?_) (fun h_62 => ?_)
          · refine lv_iconst (v := 2) hx hb dX6_row_75 (by decide) ?_
            refine lv_istore (lv' := [(6, .int 2), (5, .int (nI (rHd r cn))), (0, .ref (G 0)), (1, .int (nI cn)), (2, .int (nI kn)), (3, .int i), (4, .int (nI fn))]) hx hb dX6_row_76 hl (by decide) rfl (fun ls hl => ?_)
            refine lv_iload hx hb dX6_row_78 (lv_at hl 0 rfl) ?_
            refine lv_if_eq (tgt := 89) hx hb dX6_row_80 (by decide) (fun h => absurd h (by decide)) (fun _ => ?_)
            refine lv_iload hx hb dX6_row_83 (lv_at hl 0 rfl) ?_
            refine px_goV (st1 := [.int (-12)]) (px_callS F hK (c_X6_answer l D cy _ 2) kc_X6_answer kw_methodLink_RX6_65 rfl trivial rfl ⟨rfl, rfl⟩ ⟨Nat.le_of_ble_eq_true rfl, Nat.le_of_ble_eq_true rfl⟩ hl.1 rfl (Nat.le_of_ble_eq_true rfl) dX6_row_85 ⟨Nat.zero_le _, Nat.zero_le _⟩) rfl ?_
            exact px_iret F hr hlocks hS (by have e : f_row r (nI cn) (nI kn) i (nI fn) = (r, (-12)) := (by simp [f_row, f_rno, h_4, h_15, h_23, h_44, h_62, ix_nI (show cn < 2 ^ 31 by omega), ix_nI (show kn < 2 ^ 31 by omega), ix_nI (show fn < 2 ^ 31 by omega)] <;> rfl); rw [e]; exact ⟨rfl, _, _, hR⟩) dX6_row_88
          · refine lv_aload_n hx hb dX6_row_65 rfl (lv_at hl 1 rfl) ?_
            refine lv_iload hx hb dX6_row_66 (lv_at hl 0 rfl) ?_
            refine lv_iload_n hx hb dX6_row_68 rfl (lv_at hl 4 rfl) ?_
            refine px_goV (st1 := [.int (nI (f_looked r (rHd r cn) i))]) (px_callV F hK (c_X6_looked l D cy A G r _ _ _ (rHd r cn) i (by omega)) kc_X6_looked kw_methodLink_RX6_108 rfl hR (m_recv hK hR) rfl ⟨rfl, rfl⟩ ⟨Nat.le_of_ble_eq_true rfl, Nat.le_of_ble_eq_true rfl⟩ hl.1 rfl (Nat.le_of_ble_eq_true rfl) dX6_row_69 ⟨Nat.zero_le _, Nat.zero_le _⟩) rfl ?_
            refine lv_goto (tgt := 76) hx hb dX6_row_72 (by decide) ?_
            refine lv_istore (lv' := [(6, .int (nI (f_looked r (rHd r cn) i))), (5, .int (nI (rHd r cn))), (0, .ref (G 0)), (1, .int (nI cn)), (2, .int (nI kn)), (3, .int i), (4, .int (nI fn))]) hx hb dX6_row_76 hl (by decide) rfl (fun ls hl => ?_)
            refine lv_iload hx hb dX6_row_78 (lv_at hl 0 rfl) ?_
            refine lv_if_eq (tgt := 89) hx hb dX6_row_80 (by decide) (fun h_80 => ?_) (fun h_80 => ?_)
            · have h_80 : (f_looked r (rHd r cn) i) = 0 := nIeq (show nI (f_looked r (rHd r cn) i) = nI 0 from h_80) (by omega) (by omega)
              obtain ⟨ht0_j, j, hj_j, rfl⟩ := looked_0 h_80 (by omega)
              refine lv_aload_n hx hb dX6_row_89 rfl (lv_at hl 2 rfl) ?_
              refine lv_iload hx hb dX6_row_90 (lv_at hl 1 rfl) ?_
              refine lv_iload_n hx hb dX6_row_92 rfl (lv_at hl 5 rfl) ?_
              refine lv_aload_n hx hb dX6_row_93 rfl (lv_at hl 2 rfl) ?_
              refine m_get F hK hR 9 (by decide) rfl kw_fieldLink_RX6_31 dX6_row_94 ?_
              refine lv_iload hx hb dX6_row_97 (lv_at hl 6 rfl) ?_
              refine m_ldHd F hK hR fn rfl (by omega) dX6_row_99 ?_
              refine lv_i2l (v := lN (rHd r fn)) hx hb dX6_row_100 (nI_l (n := (rHd r fn)) (by omega)) ?_
              refine px_goMx (st1 := []) (px_callV F hK (c_X6_put l D cy A G r _ _ _ (rHd r cn) j (lN (rHd r fn)) (by omega) (show rS r (rHd r cn) + j < 12200 by omega)) kc_X6_put kw_methodLink_RX6_76 rfl hR (m_recv hK hR) rfl ⟨rfl, rfl⟩ ⟨Nat.le_of_ble_eq_true rfl, Nat.le_of_ble_eq_true rfl⟩ hl.1 rfl (Nat.le_of_ble_eq_true rfl) dX6_row_101 ⟨Nat.zero_le _, Nat.zero_le _⟩) hS rfl (fun H locs hR hS => ?_)
              refine lv_iconst (v := 1) hx hb dX6_row_104 (by decide) ?_
              exact px_iret F hr hlocks hS (by have e : f_row r (nI cn) (nI kn) (nI j) (nI fn) = (f_put r (rHd r cn) j (lN (rHd r fn)), 1) := (by simp [f_row, f_rno, h_4, h_15, h_23, h_44, h_62, h_80, ix_nI (show cn < 2 ^ 31 by omega), ix_nI (show kn < 2 ^ 31 by omega), ix_nI (show fn < 2 ^ 31 by omega), ix_nI (show j < 2 ^ 31 by omega)] <;> rfl); rw [e]; exact ⟨rfl, _, _, hR⟩) dX6_row_105
            · have h_80 : ¬ (f_looked r (rHd r cn) i) = 0 := nIne (show ¬ nI (f_looked r (rHd r cn) i) = nI 0 from h_80)
              refine lv_iload hx hb dX6_row_83 (lv_at hl 0 rfl) ?_
              refine px_goV (st1 := [.int (-10 - (nI (f_looked r (rHd r cn) i)))]) (px_callS F hK (c_X6_answer l D cy _ (nI (f_looked r (rHd r cn) i))) kc_X6_answer kw_methodLink_RX6_65 rfl trivial rfl ⟨rfl, rfl⟩ ⟨Nat.le_of_ble_eq_true rfl, Nat.le_of_ble_eq_true rfl⟩ hl.1 rfl (Nat.le_of_ble_eq_true rfl) dX6_row_85 ⟨Nat.zero_le _, Nat.zero_le _⟩) rfl ?_
              exact px_iret F hr hlocks hS (by have e : f_row r (nI cn) (nI kn) i (nI fn) = (r, -10 - (nI (f_looked r (rHd r cn) i))) := (by simp [f_row, f_rno, h_4, h_15, h_23, h_44, h_62, h_80, ix_nI (show cn < 2 ^ 31 by omega), ix_nI (show kn < 2 ^ 31 by omega), ix_nI (show fn < 2 ^ 31 by omega)] <;> rfl); rw [e]; exact ⟨rfl, _, _, hR⟩) dX6_row_88
      · refine lv_bipush (v := -2) hx hb dX6_row_26 (by decide) ?_
        exact px_iret F hr hlocks hS (by have e : f_row r cl k i f = (r, (-2)) := (by simp [f_row, f_rno, h_4, h_15, h_23] <;> rfl); rw [e]; exact ⟨rfl, _, _, hR⟩) dX6_row_28
set_option maxHeartbeats 400000 in
set_option maxRecDepth 100000 in
theorem c_X6_trouble (l : Launch) (D : va_G) (cy : Nat → ClassId) (A : Nat → Prop) (G : Nat → Nat) (r : RS) (C : Nat → Nat) (E : Nat → Int64) (sz : Nat) (t n : Int32) {kk : Nat} (hI : Inv kk r) : Met l yX6_trouble (px_w yX6_trouble cX6_trouble 4 (some .int)) (rmd 3 0 0) (px_P D cy [.ref (G 0), .int t, .int n] sz (MR D cy A G r C E)) (px_Q (px_M D cy A G (some (.int (f_trouble r t n).2)) ((f_trouble r t n).1)) A) 0 0 A := by
  refine px_met (by decide) (Nat.le_of_ble_eq_true rfl) ?_
  intro p e s m below meth c F hr hlocks hnm hK hsz hR ls hl
  have hx := F.1
  have hb := F.2.1
  have hl : lv_has ls 4 [(0, .ref (G 0)), (1, .int t), (2, .int n)] := hl
  have hS : va_S A s.heap s.heap [] := va_S.rf
  have hbd := hI.bd
  refine lv_iload_n hx hb dX6_trouble_0 rfl (lv_at hl 1 rfl) ?_
  refine lv_iconst (v := 0) hx hb dX6_trouble_1 (by decide) ?_
  refine lv_bipush (v := 7) hx hb dX6_trouble_2 (by decide) ?_
  refine px_goV (st1 := [.int (b2i (f_in t 0 7))]) (px_callS F hK (c_X6_in l D cy _ t 0 7) kc_X6_in kw_methodLink_RX6_57 rfl trivial rfl ⟨rfl, rfl⟩ ⟨Nat.le_of_ble_eq_true rfl, Nat.le_of_ble_eq_true rfl⟩ hl.1 rfl (Nat.le_of_ble_eq_true rfl) dX6_trouble_4 ⟨Nat.zero_le _, Nat.zero_le _⟩) rfl ?_
  refine x_ifeq_b (tgt := 15) hx hb dX6_trouble_7 (by decide) (fun h_7 => ?_) (fun h_7 => ?_)
  · refine lv_bipush (v := -2) hx hb dX6_trouble_15 (by decide) ?_
    exact px_iret F hr hlocks hS (by have e : f_trouble r t n = (r, (-2)) := (by simp [f_trouble, Int32.not_le, Int32.not_lt, h_7] <;> rfl); rw [e]; exact ⟨rfl, _, _, hR⟩) dX6_trouble_17
  · refine lv_iload_n hx hb dX6_trouble_10 rfl (lv_at hl 2 rfl) ?_
    refine lv_iconst (v := -1) hx hb dX6_trouble_11 (by decide) ?_
    refine lv_icmp_ge (tgt := 18) hx hb dX6_trouble_12 (by decide) (fun h_12 => ?_) (fun h_12 => ?_)
    · have h_12 : ¬ n < (-1) := Int32.not_lt.mpr h_12
      obtain ⟨tn, hl_tn, hh_tn, rfl⟩ := f_in_nat h_7 0 7 (by decide) (by decide) (by decide) (by decide)
      refine lv_aload_n hx hb dX6_trouble_18 rfl (lv_at hl 0 rfl) ?_
      refine m_get F hK hR 10 (by decide) rfl kw_fieldLink_RX6_34 dX6_trouble_19 ?_
      refine lv_iload_n hx hb dX6_trouble_22 rfl (lv_at hl 1 rfl) ?_
      refine m_ldTr F hK hR tn rfl (by omega) dX6_trouble_23 ?_
      refine lv_istore_n (lv' := [(3, .int (rTr r tn)), (0, .ref (G 0)), (1, .int (nI tn)), (2, .int n)]) hx hb dX6_trouble_24 rfl hl (by decide) rfl (fun ls hl => ?_)
      refine lv_aload_n hx hb dX6_trouble_25 rfl (lv_at hl 1 rfl) ?_
      refine m_get F hK hR 10 (by decide) rfl kw_fieldLink_RX6_34 dX6_trouble_26 ?_
      refine lv_iload_n hx hb dX6_trouble_29 rfl (lv_at hl 2 rfl) ?_
      refine lv_iload_n hx hb dX6_trouble_30 rfl (lv_at hl 3 rfl) ?_
      refine m_stTr F hK hR hS tn n rfl rfl (by omega) dX6_trouble_31 (fun H locs hR hS => ?_)
      refine lv_iload_n hx hb dX6_trouble_32 rfl (lv_at hl 0 rfl) ?_
      exact px_iret F hr hlocks hS (by have e : f_trouble r (nI tn) n = (sTr r (va_up (rTr r) tn n), rTr r tn) := (by simp [f_trouble, Int32.not_le, Int32.not_lt, h_7, h_12, ix_nI (show tn < 2 ^ 31 by omega)] <;> rfl); rw [e]; exact ⟨rfl, _, _, hR⟩) dX6_trouble_33
    · have h_12 : n < (-1) := Int32.not_le.mp h_12
      refine lv_bipush (v := -2) hx hb dX6_trouble_15 (by decide) ?_
      exact px_iret F hr hlocks hS (by have e : f_trouble r t n = (r, (-2)) := (by simp [f_trouble, Int32.not_le, Int32.not_lt, h_7, h_12] <;> rfl); rw [e]; exact ⟨rfl, _, _, hR⟩) dX6_trouble_17
set_option maxHeartbeats 400000 in
set_option maxRecDepth 100000 in
theorem c_X6_passed (l : Launch) (D : va_G) (cy : Nat → ClassId) (A : Nat → Prop) (G : Nat → Nat) (r : RS) (C : Nat → Nat) (E : Nat → Int64) (sz : Nat)   : Met l yX6_passed (px_w yX6_passed cX6_passed 1 (some .int)) (rmd 1 0 0) (px_P D cy [.ref (G 0)] sz (MR D cy A G r C E)) (px_V (some (.int (rPa r)))) 0 0 (fun _ => False) := by
  refine px_met (by decide) (Nat.le_of_ble_eq_true rfl) ?_
  intro p e s m below meth c F hr hlocks hnm hK hsz hR ls hl
  have hx := F.1
  have hb := F.2.1
  have hl : lv_has ls 1 [(0, .ref (G 0))] := hl
  refine lv_aload_n hx hb dX6_passed_0 rfl (lv_at hl 0 rfl) ?_
  refine m_get F hK hR 11 (by decide) rfl kw_fieldLink_RX6_150 dX6_passed_1 ?_
  exact pv_iret F hr hlocks (by rfl) dX6_passed_4
set_option maxHeartbeats 400000 in
set_option maxRecDepth 100000 in
theorem c_X6_number (l : Launch) (D : va_G) (cy : Nat → ClassId) (A : Nat → Prop) (G : Nat → Nat) (r : RS) (C : Nat → Nat) (E : Nat → Int64) (sz : Nat)   : Met l yX6_number (px_w yX6_number cX6_number 1 (some .int)) (rmd 1 0 0) (px_P D cy [.ref (G 0)] sz (MR D cy A G r C E)) (px_V (some (.int (rNu r)))) 0 0 (fun _ => False) := by
  refine px_met (by decide) (Nat.le_of_ble_eq_true rfl) ?_
  intro p e s m below meth c F hr hlocks hnm hK hsz hR ls hl
  have hx := F.1
  have hb := F.2.1
  have hl : lv_has ls 1 [(0, .ref (G 0))] := hl
  refine lv_aload_n hx hb dX6_number_0 rfl (lv_at hl 0 rfl) ?_
  refine m_get F hK hR 12 (by decide) rfl kw_fieldLink_RX6_37 dX6_number_1 ?_
  exact pv_iret F hr hlocks (by rfl) dX6_number_4
set_option maxHeartbeats 400000 in
set_option maxRecDepth 100000 in
theorem c_X6_fault (l : Launch) (D : va_G) (cy : Nat → ClassId) (A : Nat → Prop) (G : Nat → Nat) (r : RS) (C : Nat → Nat) (E : Nat → Int64) (sz : Nat)   : Met l yX6_fault (px_w yX6_fault cX6_fault 1 (some .int)) (rmd 1 0 0) (px_P D cy [.ref (G 0)] sz (MR D cy A G r C E)) (px_V (some (.int (rFa r)))) 0 0 (fun _ => False) := by
  refine px_met (by decide) (Nat.le_of_ble_eq_true rfl) ?_
  intro p e s m below meth c F hr hlocks hnm hK hsz hR ls hl
  have hx := F.1
  have hb := F.2.1
  have hl : lv_has ls 1 [(0, .ref (G 0))] := hl
  refine lv_aload_n hx hb dX6_fault_0 rfl (lv_at hl 0 rfl) ?_
  refine m_get F hK hR 13 (by decide) rfl kw_fieldLink_RX6_111 dX6_fault_1 ?_
  exact pv_iret F hr hlocks (by rfl) dX6_fault_4
end
section
/-! the reference: the public methods, 3 -/
set_option maxHeartbeats 400000 in
set_option maxRecDepth 100000 in
theorem c_X6_cell (l : Launch) (D : va_G) (cy : Nat → ClassId) (A : Nat → Prop) (G : Nat → Nat) (r : RS) (C : Nat → Nat) (E : Nat → Int64) (sz : Nat) (cl k i j : Int32) {kk : Nat} (hI : Inv kk r) : Met l yX6_cell (px_w yX6_cell cX6_cell 7 (some .long)) (rmd 4 0 0) (px_P D cy [.ref (G 0), .int cl, .int k, .int i, .int j] sz (MR D cy A G r C E)) (px_Q (px_M D cy A G (some (.long (f_cell r cl k i j).2)) ((f_cell r cl k i j).1)) A) 0 0 A := by
  refine px_met (by decide) (Nat.le_of_ble_eq_true rfl) ?_
  intro p e s m below meth c F hr hlocks hnm hK hsz hR ls hl
  have hx := F.1
  have hb := F.2.1
  have hl : lv_has ls 7 [(0, .ref (G 0)), (1, .int cl), (2, .int k), (3, .int i), (4, .int j)] := hl
  have hS : va_S A s.heap s.heap [] := va_S.rf
  have hbd := hI.bd
  refine lv_iload_n hx hb dX6_cell_0 rfl (lv_at hl 1 rfl) ?_
  refine px_goV (st1 := [.int (b2i (f_in cl 0 15))]) (px_callS F hK (c_X6_isColumn l D cy _ cl) kc_X6_isColumn kw_methodLink_RX6_53 rfl trivial rfl ⟨rfl, rfl⟩ ⟨Nat.le_of_ble_eq_true rfl, Nat.le_of_ble_eq_true rfl⟩ hl.1 rfl (Nat.le_of_ble_eq_true rfl) dX6_cell_1 ⟨Nat.zero_le _, Nat.zero_le _⟩) rfl ?_
  refine x_ifeq_b (tgt := 18) hx hb dX6_cell_4 (by decide) (fun h_4 => ?_) (fun h_4 => ?_)
  · refine lv_aload_n hx hb dX6_cell_18 rfl (lv_at hl 0 rfl) ?_
    refine lv_bipush (v := -2) hx hb dX6_cell_19 (by decide) ?_
    refine m_put F hK hR hS 13 (by decide) (v := (-2)) rfl (sFa r (-2)) rfl kw_fieldLink_RX6_111 rfl rfl dX6_cell_21 (fun H locs hR hS => ?_)
    refine lv_lconst (v := 0) hx hb dX6_cell_24 (by decide) ?_
    exact px_lret F hr hlocks hS (by have e : f_cell r cl k i j = (sFa r (-2), 0) := (by simp [f_cell, f_no, h_4] <;> rfl); rw [e]; exact ⟨rfl, _, _, hR⟩) dX6_cell_25
  · refine lv_iload_n hx hb dX6_cell_7 rfl (lv_at hl 2 rfl) ?_
    refine lv_bipush (v := 10) hx hb dX6_cell_8 (by decide) ?_
    refine lv_bipush (v := 12) hx hb dX6_cell_10 (by decide) ?_
    refine px_goV (st1 := [.int (b2i (f_in k 10 12))]) (px_callS F hK (c_X6_in l D cy _ k 10 12) kc_X6_in kw_methodLink_RX6_57 rfl trivial rfl ⟨rfl, rfl⟩ ⟨Nat.le_of_ble_eq_true rfl, Nat.le_of_ble_eq_true rfl⟩ hl.1 rfl (Nat.le_of_ble_eq_true rfl) dX6_cell_12 ⟨Nat.zero_le _, Nat.zero_le _⟩) rfl ?_
    refine x_ifne_b (tgt := 26) hx hb dX6_cell_15 (by decide) (fun h_15 => ?_) (fun h_15 => ?_)
    · obtain ⟨cn, hl_cn, hh_cn, rfl⟩ := f_in_nat h_4 0 15 (by decide) (by decide) (by decide) (by decide)
      obtain ⟨kn, hl_kn, hh_kn, rfl⟩ := f_in_nat h_15 10 12 (by decide) (by decide) (by decide) (by decide)
      have hc0 := hI.hd cn (by omega)
      have hc1 := hI.tb _ hc0
      have hlk := looked_le r (rHd r cn) i
      refine lv_aload_n hx hb dX6_cell_26 rfl (lv_at hl 0 rfl) ?_
      refine m_get F hK hR 9 (by decide) rfl kw_fieldLink_RX6_31 dX6_cell_27 ?_
      refine lv_iload_n hx hb dX6_cell_30 rfl (lv_at hl 1 rfl) ?_
      refine m_ldHd F hK hR cn rfl (by omega) dX6_cell_31 ?_
      refine lv_istore (lv' := [(5, .int (nI (rHd r cn))), (0, .ref (G 0)), (1, .int (nI cn)), (2, .int (nI kn)), (3, .int i), (4, .int j)]) hx hb dX6_cell_32 hl (by decide) rfl (fun ls hl => ?_)
      refine lv_aload_n hx hb dX6_cell_34 rfl (lv_at hl 1 rfl) ?_
      refine lv_iload hx hb dX6_cell_35 (lv_at hl 0 rfl) ?_
      refine lv_iload_n hx hb dX6_cell_37 rfl (lv_at hl 3 rfl) ?_
      refine px_goV (st1 := [.int (b2i (f_isOf r (rHd r cn) kn))]) (px_callV F hK (c_X6_isOf l D cy A G r _ _ _ (rHd r cn) kn (by omega) (by omega) (show rK r (rHd r cn) < 100 by omega)) kc_X6_isOf kw_methodLink_RX6_90 rfl hR (m_recv hK hR) rfl ⟨rfl, rfl⟩ ⟨Nat.le_of_ble_eq_true rfl, Nat.le_of_ble_eq_true rfl⟩ hl.1 rfl (Nat.le_of_ble_eq_true rfl) dX6_cell_38 ⟨Nat.zero_le _, Nat.zero_le _⟩) rfl ?_
      refine x_ifeq_b (tgt := 54) hx hb dX6_cell_41 (by decide) (fun h_41 => ?_) (fun h_41 => ?_)
      · refine lv_iconst (v := 2) hx hb dX6_cell_54 (by decide) ?_
        refine lv_istore (lv' := [(6, .int 2), (5, .int (nI (rHd r cn))), (0, .ref (G 0)), (1, .int (nI cn)), (2, .int (nI kn)), (3, .int i), (4, .int j)]) hx hb dX6_cell_55 hl (by decide) rfl (fun ls hl => ?_)
        refine lv_aload_n hx hb dX6_cell_57 rfl (lv_at hl 2 rfl) ?_
        refine lv_iload hx hb dX6_cell_58 (lv_at hl 0 rfl) ?_
        refine lv_if_ne (tgt := 74) hx hb dX6_cell_60 (by decide) (fun _ => ?_) (fun h => absurd h (by decide))
        refine lv_iconst (v := 0) hx hb dX6_cell_74 (by decide) ?_
        refine lv_iload hx hb dX6_cell_75 (lv_at hl 6 rfl) ?_
        refine lv_iload hx hb dX6_cell_77 (lv_at hl 0 rfl) ?_
        refine px_goM (st1 := [.long ((f_itemOf r 0 j 2).2)]) (px_callV F hK (c_X6_itemOf l D cy A G r _ _ _ 0 2 j hI (by omega) (by omega)) kc_X6_itemOf kw_methodLink_RX6_114 rfl hR (m_recv hK hR) rfl ⟨rfl, rfl⟩ ⟨Nat.le_of_ble_eq_true rfl, Nat.le_of_ble_eq_true rfl⟩ hl.1 rfl (Nat.le_of_ble_eq_true rfl) dX6_cell_79 ⟨Nat.zero_le _, Nat.zero_le _⟩) hS rfl (fun H locs C E hR hS => ?_)
        exact px_lret F hr hlocks hS (by have e : f_cell r (nI cn) (nI kn) i j = ((f_itemOf r 0 j 2).1, (f_itemOf r 0 j 2).2) := (by simp [f_cell, f_no, h_4, h_15, h_41, ix_nI (show cn < 2 ^ 31 by omega), ix_nI (show kn < 2 ^ 31 by omega)] <;> rfl); rw [e]; exact ⟨rfl, _, _, hR⟩) dX6_cell_82
      · refine lv_aload_n hx hb dX6_cell_44 rfl (lv_at hl 1 rfl) ?_
        refine lv_iload hx hb dX6_cell_45 (lv_at hl 0 rfl) ?_
        refine lv_iload_n hx hb dX6_cell_47 rfl (lv_at hl 4 rfl) ?_
        refine px_goV (st1 := [.int (nI (f_looked r (rHd r cn) i))]) (px_callV F hK (c_X6_looked l D cy A G r _ _ _ (rHd r cn) i (by omega)) kc_X6_looked kw_methodLink_RX6_108 rfl hR (m_recv hK hR) rfl ⟨rfl, rfl⟩ ⟨Nat.le_of_ble_eq_true rfl, Nat.le_of_ble_eq_true rfl⟩ hl.1 rfl (Nat.le_of_ble_eq_true rfl) dX6_cell_48 ⟨Nat.zero_le _, Nat.zero_le _⟩) rfl ?_
        refine lv_goto (tgt := 55) hx hb dX6_cell_51 (by decide) ?_
        refine lv_istore (lv' := [(6, .int (nI (f_looked r (rHd r cn) i))), (5, .int (nI (rHd r cn))), (0, .ref (G 0)), (1, .int (nI cn)), (2, .int (nI kn)), (3, .int i), (4, .int j)]) hx hb dX6_cell_55 hl (by decide) rfl (fun ls hl => ?_)
        refine lv_aload_n hx hb dX6_cell_57 rfl (lv_at hl 2 rfl) ?_
        refine lv_iload hx hb dX6_cell_58 (lv_at hl 0 rfl) ?_
        refine lv_if_ne (tgt := 74) hx hb dX6_cell_60 (by decide) (fun h_60 => ?_) (fun h_60 => ?_)
        · have h_60 : ¬ (f_looked r (rHd r cn) i) = 0 := nIne (show ¬ nI (f_looked r (rHd r cn) i) = nI 0 from h_60)
          refine lv_iconst (v := 0) hx hb dX6_cell_74 (by decide) ?_
          refine lv_iload hx hb dX6_cell_75 (lv_at hl 6 rfl) ?_
          refine lv_iload hx hb dX6_cell_77 (lv_at hl 0 rfl) ?_
          refine px_goM (st1 := [.long ((f_itemOf r 0 j (f_looked r (rHd r cn) i)).2)]) (px_callV F hK (c_X6_itemOf l D cy A G r _ _ _ 0 (f_looked r (rHd r cn) i) j hI (by omega) (by omega)) kc_X6_itemOf kw_methodLink_RX6_114 rfl hR (m_recv hK hR) rfl ⟨rfl, rfl⟩ ⟨Nat.le_of_ble_eq_true rfl, Nat.le_of_ble_eq_true rfl⟩ hl.1 rfl (Nat.le_of_ble_eq_true rfl) dX6_cell_79 ⟨Nat.zero_le _, Nat.zero_le _⟩) hS rfl (fun H locs C E hR hS => ?_)
          exact px_lret F hr hlocks hS (by have e : f_cell r (nI cn) (nI kn) i j = ((f_itemOf r 0 j (f_looked r (rHd r cn) i)).1, (f_itemOf r 0 j (f_looked r (rHd r cn) i)).2) := (by simp [f_cell, f_no, h_4, h_15, h_41, h_60, ix_nI (show cn < 2 ^ 31 by omega), ix_nI (show kn < 2 ^ 31 by omega)] <;> rfl); rw [e]; exact ⟨rfl, _, _, hR⟩) dX6_cell_82
        · have h_60 : (f_looked r (rHd r cn) i) = 0 := nIeq (show nI (f_looked r (rHd r cn) i) = nI 0 from h_60) (by omega) (by omega)
          obtain ⟨ht0_i0, i0, hj_i0, rfl⟩ := looked_0 h_60 (by omega)
          have hk8 := isOf_k h_41 ht0_i0
          have hit := hI.it ht0_i0 hc0 hj_i0 (by omega)
          have hrow := (hit.2.2.2.2 (by omega)).1
          have hrt := hI.tb _ hrow
          refine lv_aload_n hx hb dX6_cell_63 rfl (lv_at hl 2 rfl) ?_
          refine lv_iload hx hb dX6_cell_64 (lv_at hl 1 rfl) ?_
          refine lv_iload_n hx hb dX6_cell_66 rfl (lv_at hl 5 rfl) ?_
          refine px_goV (st1 := [.long (f_at r (rHd r cn) i0), .ref (G 0)]) (px_callV F hK (c_X6_at l D cy A G r _ _ _ (rHd r cn) i0 (by omega) (show rS r (rHd r cn) + i0 < 12200 by omega)) kc_X6_at kw_methodLink_RX6_80 rfl hR (m_recv hK hR) rfl ⟨rfl, rfl⟩ ⟨Nat.le_of_ble_eq_true rfl, Nat.le_of_ble_eq_true rfl⟩ hl.1 rfl (Nat.le_of_ble_eq_true rfl) dX6_cell_67 ⟨Nat.zero_le _, Nat.zero_le _⟩) rfl ?_
          refine px_topl hit.1 ?_
          refine lv_l2i (v := nI (iv (f_at r (rHd r cn) i0))) hx hb dX6_cell_70 (lN_i _) ?_
          refine lv_goto (tgt := 75) hx hb dX6_cell_71 (by decide) ?_
          refine lv_iload hx hb dX6_cell_75 (lv_at hl 6 rfl) ?_
          refine lv_iload hx hb dX6_cell_77 (lv_at hl 0 rfl) ?_
          refine px_goM (st1 := [.long ((f_itemOf r (iv (f_at r (rHd r cn) i0)) j (f_looked r (rHd r cn) (nI i0))).2)]) (px_callV F hK (c_X6_itemOf l D cy A G r _ _ _ (iv (f_at r (rHd r cn) i0)) (f_looked r (rHd r cn) (nI i0)) j hI (by omega) (by omega)) kc_X6_itemOf kw_methodLink_RX6_114 rfl hR (m_recv hK hR) rfl ⟨rfl, rfl⟩ ⟨Nat.le_of_ble_eq_true rfl, Nat.le_of_ble_eq_true rfl⟩ hl.1 rfl (Nat.le_of_ble_eq_true rfl) dX6_cell_79 ⟨Nat.zero_le _, Nat.zero_le _⟩) hS rfl (fun H locs C E hR hS => ?_)
          exact px_lret F hr hlocks hS (by have e : f_cell r (nI cn) (nI kn) (nI i0) j = ((f_itemOf r (iv (f_at r (rHd r cn) i0)) j (f_looked r (rHd r cn) (nI i0))).1, (f_itemOf r (iv (f_at r (rHd r cn) i0)) j (f_looked r (rHd r cn) (nI i0))).2) := (by simp [f_cell, f_no, h_4, h_15, h_41, h_60, ix_nI (show cn < 2 ^ 31 by omega), ix_nI (show kn < 2 ^ 31 by omega), ix_nI (show i0 < 2 ^ 31 by omega)] <;> rfl); rw [e]; exact ⟨rfl, _, _, hR⟩) dX6_cell_82
    · refine lv_aload_n hx hb dX6_cell_18 rfl (lv_at hl 0 rfl) ?_
      refine lv_bipush (v := -2) hx hb dX6_cell_19 (by decide) ?_
      refine m_put F hK hR hS 13 (by decide) (v := (-2)) rfl (sFa r (-2)) rfl kw_fieldLink_RX6_111 rfl rfl dX6_cell_21 (fun H locs hR hS => ?_)
      refine lv_lconst (v := 0) hx hb dX6_cell_24 (by decide) ?_
      exact px_lret F hr hlocks hS (by have e : f_cell r cl k i j = (sFa r (-2), 0) := (by simp [f_cell, f_no, h_4, h_15] <;> rfl); rw [e]; exact ⟨rfl, _, _, hR⟩) dX6_cell_25
set_option maxHeartbeats 400000 in
set_option maxRecDepth 100000 in
theorem c_X6_set (l : Launch) (D : va_G) (cy : Nat → ClassId) (A : Nat → Prop) (G : Nat → Nat) (r : RS) (C : Nat → Nat) (E : Nat → Int64) (sz : Nat) (cl k i j : Int32) (b : Int64) {kk : Nat} (hI : Inv kk r) : Met l yX6_set (px_w yX6_set cX6_set 10 (some .int)) (rmd 3 0 0) (px_P D cy [.ref (G 0), .int cl, .int k, .int i, .int j, .long b] sz (MR D cy A G r C E)) (px_Q (px_M D cy A G (some (.int (f_set r cl k i j b).2)) ((f_set r cl k i j b).1)) A) 0 0 A := by
  refine px_met (by decide) (Nat.le_of_ble_eq_true rfl) ?_
  intro p e s m below meth c F hr hlocks hnm hK hsz hR ls hl
  have hx := F.1
  have hb := F.2.1
  have hl : lv_has ls 10 [(0, .ref (G 0)), (1, .int cl), (2, .int k), (3, .int i), (4, .int j), (5, .long b)] := hl
  have hS : va_S A s.heap s.heap [] := va_S.rf
  have hbd := hI.bd
  refine lv_iload_n hx hb dX6_set_0 rfl (lv_at hl 1 rfl) ?_
  refine px_goV (st1 := [.int (b2i (f_in cl 0 15))]) (px_callS F hK (c_X6_isColumn l D cy _ cl) kc_X6_isColumn kw_methodLink_RX6_53 rfl trivial rfl ⟨rfl, rfl⟩ ⟨Nat.le_of_ble_eq_true rfl, Nat.le_of_ble_eq_true rfl⟩ hl.1 rfl (Nat.le_of_ble_eq_true rfl) dX6_set_1 ⟨Nat.zero_le _, Nat.zero_le _⟩) rfl ?_
  refine x_ifeq_b (tgt := 18) hx hb dX6_set_4 (by decide) (fun h_4 => ?_) (fun h_4 => ?_)
  · refine lv_bipush (v := -2) hx hb dX6_set_18 (by decide) ?_
    exact px_iret F hr hlocks hS (by have e : f_set r cl k i j b = (r, (-2)) := (by simp [f_set, f_no, f_rowno, h_4] <;> rfl); rw [e]; exact ⟨rfl, _, _, hR⟩) dX6_set_20
  · refine lv_iload_n hx hb dX6_set_7 rfl (lv_at hl 2 rfl) ?_
    refine lv_bipush (v := 10) hx hb dX6_set_8 (by decide) ?_
    refine lv_bipush (v := 11) hx hb dX6_set_10 (by decide) ?_
    refine px_goV (st1 := [.int (b2i (f_in k 10 11))]) (px_callS F hK (c_X6_in l D cy _ k 10 11) kc_X6_in kw_methodLink_RX6_57 rfl trivial rfl ⟨rfl, rfl⟩ ⟨Nat.le_of_ble_eq_true rfl, Nat.le_of_ble_eq_true rfl⟩ hl.1 rfl (Nat.le_of_ble_eq_true rfl) dX6_set_12 ⟨Nat.zero_le _, Nat.zero_le _⟩) rfl ?_
    refine x_ifne_b (tgt := 21) hx hb dX6_set_15 (by decide) (fun h_15 => ?_) (fun h_15 => ?_)
    · obtain ⟨cn, hl_cn, hh_cn, rfl⟩ := f_in_nat h_4 0 15 (by decide) (by decide) (by decide) (by decide)
      obtain ⟨kn, hl_kn, hh_kn, rfl⟩ := f_in_nat h_15 10 11 (by decide) (by decide) (by decide) (by decide)
      have hc0 := hI.hd cn (by omega)
      have hc1 := hI.tb _ hc0
      have hlk := looked_le r (rHd r cn) i
      have hrk : rkN kn ≤ 7 := (by unfold rkN; split; omega; split; omega; split <;> omega)
      refine lv_aload_n hx hb dX6_set_21 rfl (lv_at hl 0 rfl) ?_
      refine m_get F hK hR 9 (by decide) rfl kw_fieldLink_RX6_31 dX6_set_22 ?_
      refine lv_iload_n hx hb dX6_set_25 rfl (lv_at hl 1 rfl) ?_
      refine m_ldHd F hK hR cn rfl (by omega) dX6_set_26 ?_
      refine lv_istore (lv' := [(7, .int (nI (rHd r cn))), (0, .ref (G 0)), (1, .int (nI cn)), (2, .int (nI kn)), (3, .int i), (4, .int j), (5, .long b)]) hx hb dX6_set_27 hl (by decide) rfl (fun ls hl => ?_)
      refine lv_aload_n hx hb dX6_set_29 rfl (lv_at hl 1 rfl) ?_
      refine lv_iload hx hb dX6_set_30 (lv_at hl 0 rfl) ?_
      refine lv_iload_n hx hb dX6_set_32 rfl (lv_at hl 3 rfl) ?_
      refine px_goV (st1 := [.int (b2i (f_isOf r (rHd r cn) kn))]) (px_callV F hK (c_X6_isOf l D cy A G r _ _ _ (rHd r cn) kn (by omega) (by omega) (show rK r (rHd r cn) < 100 by omega)) kc_X6_isOf kw_methodLink_RX6_90 rfl hR (m_recv hK hR) rfl ⟨rfl, rfl⟩ ⟨Nat.le_of_ble_eq_true rfl, Nat.le_of_ble_eq_true rfl⟩ hl.1 rfl (Nat.le_of_ble_eq_true rfl) dX6_set_33 ⟨Nat.zero_le _, Nat.zero_le _⟩) rfl ?_
      refine x_ifeq_b (tgt := 49) hx hb dX6_set_36 (by decide) (fun h_36 => ?_) (fun h_36 => ?_)
      · refine lv_iconst (v := 2) hx hb dX6_set_49 (by decide) ?_
        refine lv_istore (lv' := [(8, .int 2), (7, .int (nI (rHd r cn))), (0, .ref (G 0)), (1, .int (nI cn)), (2, .int (nI kn)), (3, .int i), (4, .int j), (5, .long b)]) hx hb dX6_set_50 hl (by decide) rfl (fun ls hl => ?_)
        refine lv_iload hx hb dX6_set_52 (lv_at hl 0 rfl) ?_
        refine lv_if_ne (tgt := 68) hx hb dX6_set_54 (by decide) (fun _ => ?_) (fun h => absurd h (by decide))
        refine lv_iconst (v := 0) hx hb dX6_set_68 (by decide) ?_
        refine lv_istore (lv' := [(9, .int 0), (8, .int 2), (7, .int (nI (rHd r cn))), (0, .ref (G 0)), (1, .int (nI cn)), (2, .int (nI kn)), (3, .int i), (4, .int j), (5, .long b)]) hx hb dX6_set_69 hl (by decide) rfl (fun ls hl => ?_)
        refine lv_iload hx hb dX6_set_71 (lv_at hl 1 rfl) ?_
        refine lv_if_ne (tgt := 87) hx hb dX6_set_73 (by decide) (fun _ => ?_) (fun h => absurd h (by decide))
        refine lv_iload hx hb dX6_set_87 (lv_at hl 1 rfl) ?_
        refine lv_istore (lv' := [(8, .int 2), (9, .int 0), (7, .int (nI (rHd r cn))), (0, .ref (G 0)), (1, .int (nI cn)), (2, .int (nI kn)), (3, .int i), (4, .int j), (5, .long b)]) hx hb dX6_set_89 hl (by decide) rfl (fun ls hl => ?_)
        refine lv_iload hx hb dX6_set_91 (lv_at hl 0 rfl) ?_
        refine lv_if_eq (tgt := 102) hx hb dX6_set_93 (by decide) (fun h => absurd h (by decide)) (fun _ => ?_)
        refine lv_iload hx hb dX6_set_96 (lv_at hl 0 rfl) ?_
        refine px_goV (st1 := [.int (-12)]) (px_callS F hK (c_X6_answer l D cy _ 2) kc_X6_answer kw_methodLink_RX6_65 rfl trivial rfl ⟨rfl, rfl⟩ ⟨Nat.le_of_ble_eq_true rfl, Nat.le_of_ble_eq_true rfl⟩ hl.1 rfl (Nat.le_of_ble_eq_true rfl) dX6_set_98 ⟨Nat.zero_le _, Nat.zero_le _⟩) rfl ?_
        exact px_iret F hr hlocks hS (by have e : f_set r (nI cn) (nI kn) i j b = (r, (-12)) := (by simp [f_set, f_no, f_rowno, h_4, h_15, h_36, ix_nI (show cn < 2 ^ 31 by omega), ix_nI (show kn < 2 ^ 31 by omega)] <;> rfl); rw [e]; exact ⟨rfl, _, _, hR⟩) dX6_set_101
      · refine lv_aload_n hx hb dX6_set_39 rfl (lv_at hl 1 rfl) ?_
        refine lv_iload hx hb dX6_set_40 (lv_at hl 0 rfl) ?_
        refine lv_iload_n hx hb dX6_set_42 rfl (lv_at hl 4 rfl) ?_
        refine px_goV (st1 := [.int (nI (f_looked r (rHd r cn) i))]) (px_callV F hK (c_X6_looked l D cy A G r _ _ _ (rHd r cn) i (by omega)) kc_X6_looked kw_methodLink_RX6_108 rfl hR (m_recv hK hR) rfl ⟨rfl, rfl⟩ ⟨Nat.le_of_ble_eq_true rfl, Nat.le_of_ble_eq_true rfl⟩ hl.1 rfl (Nat.le_of_ble_eq_true rfl) dX6_set_43 ⟨Nat.zero_le _, Nat.zero_le _⟩) rfl ?_
        refine lv_goto (tgt := 50) hx hb dX6_set_46 (by decide) ?_
        refine lv_istore (lv' := [(8, .int (nI (f_looked r (rHd r cn) i))), (7, .int (nI (rHd r cn))), (0, .ref (G 0)), (1, .int (nI cn)), (2, .int (nI kn)), (3, .int i), (4, .int j), (5, .long b)]) hx hb dX6_set_50 hl (by decide) rfl (fun ls hl => ?_)
        refine lv_iload hx hb dX6_set_52 (lv_at hl 0 rfl) ?_
        refine lv_if_ne (tgt := 68) hx hb dX6_set_54 (by decide) (fun h_54 => ?_) (fun h_54 => ?_)
        · have h_54 : ¬ (f_looked r (rHd r cn) i) = 0 := nIne (show ¬ nI (f_looked r (rHd r cn) i) = nI 0 from h_54)
          refine lv_iconst (v := 0) hx hb dX6_set_68 (by decide) ?_
          refine lv_istore (lv' := [(9, .int 0), (8, .int (nI (f_looked r (rHd r cn) i))), (7, .int (nI (rHd r cn))), (0, .ref (G 0)), (1, .int (nI cn)), (2, .int (nI kn)), (3, .int i), (4, .int j), (5, .long b)]) hx hb dX6_set_69 hl (by decide) rfl (fun ls hl => ?_)
          refine lv_iload hx hb dX6_set_71 (lv_at hl 1 rfl) ?_
          refine lv_if_ne (tgt := 87) hx hb dX6_set_73 (by decide) (fun h_73 => ?_) (fun h_73 => by exfalso; have h_73 : (f_looked r (rHd r cn) i) = 0 := nIeq (show nI (f_looked r (rHd r cn) i) = nI 0 from h_73) (by omega) (by omega); omega)
          have h_73 : ¬ (f_looked r (rHd r cn) i) = 0 := nIne (show ¬ nI (f_looked r (rHd r cn) i) = nI 0 from h_73)
          refine lv_iload hx hb dX6_set_87 (lv_at hl 1 rfl) ?_
          refine lv_istore (lv' := [(8, .int (nI (f_looked r (rHd r cn) i))), (9, .int 0), (7, .int (nI (rHd r cn))), (0, .ref (G 0)), (1, .int (nI cn)), (2, .int (nI kn)), (3, .int i), (4, .int j), (5, .long b)]) hx hb dX6_set_89 hl (by decide) rfl (fun ls hl => ?_)
          refine lv_iload hx hb dX6_set_91 (lv_at hl 0 rfl) ?_
          refine lv_if_eq (tgt := 102) hx hb dX6_set_93 (by decide) (fun h_93 => by exfalso; have h_93 : (f_looked r (rHd r cn) i) = 0 := nIeq (show nI (f_looked r (rHd r cn) i) = nI 0 from h_93) (by omega) (by omega); omega) (fun h_93 => ?_)
          have h_93 : ¬ (f_looked r (rHd r cn) i) = 0 := nIne (show ¬ nI (f_looked r (rHd r cn) i) = nI 0 from h_93)
          refine lv_iload hx hb dX6_set_96 (lv_at hl 0 rfl) ?_
          refine px_goV (st1 := [.int (-10 - (nI (f_looked r (rHd r cn) i)))]) (px_callS F hK (c_X6_answer l D cy _ (nI (f_looked r (rHd r cn) i))) kc_X6_answer kw_methodLink_RX6_65 rfl trivial rfl ⟨rfl, rfl⟩ ⟨Nat.le_of_ble_eq_true rfl, Nat.le_of_ble_eq_true rfl⟩ hl.1 rfl (Nat.le_of_ble_eq_true rfl) dX6_set_98 ⟨Nat.zero_le _, Nat.zero_le _⟩) rfl ?_
          exact px_iret F hr hlocks hS (by have e : f_set r (nI cn) (nI kn) i j b = (r, -10 - (nI (f_looked r (rHd r cn) i))) := (by simp [f_set, f_no, f_rowno, h_4, h_15, h_36, h_54, h_73, h_93, ix_nI (show cn < 2 ^ 31 by omega), ix_nI (show kn < 2 ^ 31 by omega)] <;> rfl); rw [e]; exact ⟨rfl, _, _, hR⟩) dX6_set_101
        · have h_54 : (f_looked r (rHd r cn) i) = 0 := nIeq (show nI (f_looked r (rHd r cn) i) = nI 0 from h_54) (by omega) (by omega)
          obtain ⟨ht0_i0, i0, hj_i0, rfl⟩ := looked_0 h_54 (by omega)
          have hk8 := isOf_k h_36 ht0_i0
          have hit := hI.it ht0_i0 hc0 hj_i0 (by omega)
          have hrow := (hit.2.2.2.2 (by omega)).1
          have hrt := hI.tb _ hrow
          have hlk2 := looked_le r (iv (f_at r (rHd r cn) i0)) j
          refine lv_aload_n hx hb dX6_set_57 rfl (lv_at hl 2 rfl) ?_
          refine lv_iload hx hb dX6_set_58 (lv_at hl 1 rfl) ?_
          refine lv_iload_n hx hb dX6_set_60 rfl (lv_at hl 5 rfl) ?_
          refine px_goV (st1 := [.long (f_at r (rHd r cn) i0)]) (px_callV F hK (c_X6_at l D cy A G r _ _ _ (rHd r cn) i0 (by omega) (show rS r (rHd r cn) + i0 < 12200 by omega)) kc_X6_at kw_methodLink_RX6_80 rfl hR (m_recv hK hR) rfl ⟨rfl, rfl⟩ ⟨Nat.le_of_ble_eq_true rfl, Nat.le_of_ble_eq_true rfl⟩ hl.1 rfl (Nat.le_of_ble_eq_true rfl) dX6_set_61 ⟨Nat.zero_le _, Nat.zero_le _⟩) rfl ?_
          refine px_topl hit.1 ?_
          refine lv_l2i (v := nI (iv (f_at r (rHd r cn) i0))) hx hb dX6_set_64 (lN_i _) ?_
          refine lv_goto (tgt := 69) hx hb dX6_set_65 (by decide) ?_
          refine lv_istore (lv' := [(9, .int (nI (iv (f_at r (rHd r cn) i0)))), (8, .int (nI (f_looked r (rHd r cn) (nI i0)))), (7, .int (nI (rHd r cn))), (0, .ref (G 0)), (1, .int (nI cn)), (2, .int (nI kn)), (3, .int (nI i0)), (4, .int j), (5, .long b)]) hx hb dX6_set_69 hl (by decide) rfl (fun ls hl => ?_)
          refine lv_iload hx hb dX6_set_71 (lv_at hl 1 rfl) ?_
          refine lv_if_ne (tgt := 87) hx hb dX6_set_73 (by decide) (fun h_73 => by exfalso; have h_73 : ¬ (f_looked r (rHd r cn) (nI i0)) = 0 := nIne (show ¬ nI (f_looked r (rHd r cn) (nI i0)) = nI 0 from h_73); omega) (fun h_73 => ?_)
          have h_73 : (f_looked r (rHd r cn) (nI i0)) = 0 := nIeq (show nI (f_looked r (rHd r cn) (nI i0)) = nI 0 from h_73) (by omega) (by omega)
          refine lv_aload_n hx hb dX6_set_76 rfl (lv_at hl 3 rfl) ?_
          refine lv_iload hx hb dX6_set_77 (lv_at hl 0 rfl) ?_
          refine lv_iload hx hb dX6_set_79 (lv_at hl 7 rfl) ?_
          refine px_goV (st1 := [.int (nI (f_looked r (iv (f_at r (rHd r cn) i0)) j))]) (px_callV F hK (c_X6_looked l D cy A G r _ _ _ (iv (f_at r (rHd r cn) i0)) j (by omega)) kc_X6_looked kw_methodLink_RX6_108 rfl hR (m_recv hK hR) rfl ⟨rfl, rfl⟩ ⟨Nat.le_of_ble_eq_true rfl, Nat.le_of_ble_eq_true rfl⟩ hl.1 rfl (Nat.le_of_ble_eq_true rfl) dX6_set_81 ⟨Nat.zero_le _, Nat.zero_le _⟩) rfl ?_
          refine lv_goto (tgt := 89) hx hb dX6_set_84 (by decide) ?_
          refine lv_istore (lv' := [(8, .int (nI (f_looked r (iv (f_at r (rHd r cn) i0)) j))), (9, .int (nI (iv (f_at r (rHd r cn) i0)))), (7, .int (nI (rHd r cn))), (0, .ref (G 0)), (1, .int (nI cn)), (2, .int (nI kn)), (3, .int (nI i0)), (4, .int j), (5, .long b)]) hx hb dX6_set_89 hl (by decide) rfl (fun ls hl => ?_)
          refine lv_iload hx hb dX6_set_91 (lv_at hl 0 rfl) ?_
          refine lv_if_eq (tgt := 102) hx hb dX6_set_93 (by decide) (fun h_93 => ?_) (fun h_93 => ?_)
          · have h_93 : (f_looked r (iv (f_at r (rHd r cn) i0)) j) = 0 := nIeq (show nI (f_looked r (iv (f_at r (rHd r cn) i0)) j) = nI 0 from h_93) (by omega) (by omega)
            obtain ⟨ht0_j0, j0, hj_j0, rfl⟩ := looked_0 h_93 (by omega)
            refine lv_aload_n hx hb dX6_set_102 rfl (lv_at hl 3 rfl) ?_
            refine lv_iload hx hb dX6_set_103 (lv_at hl 1 rfl) ?_
            refine lv_iload hx hb dX6_set_105 (lv_at hl 7 rfl) ?_
            refine lv_iload_n hx hb dX6_set_107 rfl (lv_at hl 5 rfl) ?_
            refine px_goV (st1 := [.int (nI (rkN kn)), .int (nI j0), .int (nI (iv (f_at r (rHd r cn) i0))), .ref (G 0)]) (px_callS F hK (c_X6_rowKind l D cy _ kn (by omega)) kc_X6_rowKind kw_methodLink_RX6_73 rfl trivial rfl ⟨rfl, rfl⟩ ⟨Nat.le_of_ble_eq_true rfl, Nat.le_of_ble_eq_true rfl⟩ hl.1 rfl (Nat.le_of_ble_eq_true rfl) dX6_set_108 ⟨Nat.zero_le _, Nat.zero_le _⟩) rfl ?_
            refine lv_lload hx hb dX6_set_111 (lv_at hl 8 rfl) ?_
            refine px_goV (st1 := [.long (f_cut (rkN kn) b), .int (nI j0), .int (nI (iv (f_at r (rHd r cn) i0))), .ref (G 0)]) (px_callS F hK (c_X6_cut l D cy _ (rkN kn) b (by omega)) kc_X6_cut kw_methodLink_RX6_118 rfl trivial rfl ⟨rfl, rfl⟩ ⟨Nat.le_of_ble_eq_true rfl, Nat.le_of_ble_eq_true rfl⟩ hl.1 rfl (Nat.le_of_ble_eq_true rfl) dX6_set_113 ⟨Nat.zero_le _, Nat.zero_le _⟩) rfl ?_
            refine px_goMx (st1 := []) (px_callV F hK (c_X6_put l D cy A G r _ _ _ (iv (f_at r (rHd r cn) i0)) j0 (f_cut (rkN kn) b) (by omega) (show rS r (iv (f_at r (rHd r cn) i0)) + j0 < 12200 by omega)) kc_X6_put kw_methodLink_RX6_76 rfl hR (m_recv hK hR) rfl ⟨rfl, rfl⟩ ⟨Nat.le_of_ble_eq_true rfl, Nat.le_of_ble_eq_true rfl⟩ hl.1 rfl (Nat.le_of_ble_eq_true rfl) dX6_set_116 ⟨Nat.zero_le _, Nat.zero_le _⟩) hS rfl (fun H locs hR hS => ?_)
            refine lv_iconst (v := 1) hx hb dX6_set_119 (by decide) ?_
            exact px_iret F hr hlocks hS (by have e : f_set r (nI cn) (nI kn) (nI i0) (nI j0) b = (f_put r (iv (f_at r (rHd r cn) i0)) j0 (f_cut (rkN kn) b), 1) := (by simp [f_set, f_no, f_rowno, h_4, h_15, h_36, h_54, h_73, h_93, ix_nI (show cn < 2 ^ 31 by omega), ix_nI (show kn < 2 ^ 31 by omega), ix_nI (show i0 < 2 ^ 31 by omega), ix_nI (show j0 < 2 ^ 31 by omega)] <;> rfl); rw [e]; exact ⟨rfl, _, _, hR⟩) dX6_set_120
          · have h_93 : ¬ (f_looked r (iv (f_at r (rHd r cn) i0)) j) = 0 := nIne (show ¬ nI (f_looked r (iv (f_at r (rHd r cn) i0)) j) = nI 0 from h_93)
            refine lv_iload hx hb dX6_set_96 (lv_at hl 0 rfl) ?_
            refine px_goV (st1 := [.int (-10 - (nI (f_looked r (iv (f_at r (rHd r cn) i0)) j)))]) (px_callS F hK (c_X6_answer l D cy _ (nI (f_looked r (iv (f_at r (rHd r cn) i0)) j))) kc_X6_answer kw_methodLink_RX6_65 rfl trivial rfl ⟨rfl, rfl⟩ ⟨Nat.le_of_ble_eq_true rfl, Nat.le_of_ble_eq_true rfl⟩ hl.1 rfl (Nat.le_of_ble_eq_true rfl) dX6_set_98 ⟨Nat.zero_le _, Nat.zero_le _⟩) rfl ?_
            exact px_iret F hr hlocks hS (by have e : f_set r (nI cn) (nI kn) (nI i0) j b = (r, -10 - (nI (f_looked r (iv (f_at r (rHd r cn) i0)) j))) := (by simp [f_set, f_no, f_rowno, h_4, h_15, h_36, h_54, h_73, h_93, ix_nI (show cn < 2 ^ 31 by omega), ix_nI (show kn < 2 ^ 31 by omega), ix_nI (show i0 < 2 ^ 31 by omega)] <;> rfl); rw [e]; exact ⟨rfl, _, _, hR⟩) dX6_set_101
    · refine lv_bipush (v := -2) hx hb dX6_set_18 (by decide) ?_
      exact px_iret F hr hlocks hS (by have e : f_set r cl k i j b = (r, (-2)) := (by simp [f_set, f_no, f_rowno, h_4, h_15] <;> rfl); rw [e]; exact ⟨rfl, _, _, hR⟩) dX6_set_20
set_option maxHeartbeats 400000 in
set_option maxRecDepth 100000 in
theorem c_X6_deepest (l : Launch) (D : va_G) (cy : Nat → ClassId) (A : Nat → Prop) (G : Nat → Nat) (r : RS) (C : Nat → Nat) (E : Nat → Int64) (sz : Nat) (cl i j k : Int32) {kk : Nat} (hI : Inv kk r) : Met l yX6_deepest (px_w yX6_deepest cX6_deepest 8 (some .long)) (rmd 4 0 0) (px_P D cy [.ref (G 0), .int cl, .int i, .int j, .int k] sz (MR D cy A G r C E)) (px_Q (px_M D cy A G (some (.long (f_deepest r cl i j k).2)) ((f_deepest r cl i j k).1)) A) 0 0 A := by
  refine px_met (by decide) (Nat.le_of_ble_eq_true rfl) ?_
  intro p e s m below meth c F hr hlocks hnm hK hsz hR ls hl
  have hx := F.1
  have hb := F.2.1
  have hl : lv_has ls 8 [(0, .ref (G 0)), (1, .int cl), (2, .int i), (3, .int j), (4, .int k)] := hl
  have hS : va_S A s.heap s.heap [] := va_S.rf
  have hbd := hI.bd
  refine lv_iload_n hx hb dX6_deepest_0 rfl (lv_at hl 1 rfl) ?_
  refine px_goV (st1 := [.int (b2i (f_in cl 0 15))]) (px_callS F hK (c_X6_isColumn l D cy _ cl) kc_X6_isColumn kw_methodLink_RX6_53 rfl trivial rfl ⟨rfl, rfl⟩ ⟨Nat.le_of_ble_eq_true rfl, Nat.le_of_ble_eq_true rfl⟩ hl.1 rfl (Nat.le_of_ble_eq_true rfl) dX6_deepest_1 ⟨Nat.zero_le _, Nat.zero_le _⟩) rfl ?_
  refine x_ifne_b (tgt := 15) hx hb dX6_deepest_4 (by decide) (fun h_4 => ?_) (fun h_4 => ?_)
  · obtain ⟨cn, hl_cn, hh_cn, rfl⟩ := f_in_nat h_4 0 15 (by decide) (by decide) (by decide) (by decide)
    have hc0 := hI.hd cn (by omega)
    have hc1 := hI.tb _ hc0
    have hlk := looked_le r (rHd r cn) i
    refine lv_aload_n hx hb dX6_deepest_15 rfl (lv_at hl 0 rfl) ?_
    refine m_get F hK hR 9 (by decide) rfl kw_fieldLink_RX6_31 dX6_deepest_16 ?_
    refine lv_iload_n hx hb dX6_deepest_19 rfl (lv_at hl 1 rfl) ?_
    refine m_ldHd F hK hR cn rfl (by omega) dX6_deepest_20 ?_
    refine lv_istore (lv' := [(5, .int (nI (rHd r cn))), (0, .ref (G 0)), (1, .int (nI cn)), (2, .int i), (3, .int j), (4, .int k)]) hx hb dX6_deepest_21 hl (by decide) rfl (fun ls hl => ?_)
    refine lv_aload_n hx hb dX6_deepest_23 rfl (lv_at hl 1 rfl) ?_
    refine lv_iload hx hb dX6_deepest_24 (lv_at hl 0 rfl) ?_
    refine lv_bipush (v := 13) hx hb dX6_deepest_26 (by decide) ?_
    refine px_goV (st1 := [.int (b2i (f_isOf r (rHd r cn) 13))]) (px_callV F hK (c_X6_isOf l D cy A G r _ _ _ (rHd r cn) 13 (by omega) (by omega) (show rK r (rHd r cn) < 100 by omega)) kc_X6_isOf kw_methodLink_RX6_90 rfl hR (m_recv hK hR) rfl ⟨rfl, rfl⟩ ⟨Nat.le_of_ble_eq_true rfl, Nat.le_of_ble_eq_true rfl⟩ hl.1 rfl (Nat.le_of_ble_eq_true rfl) dX6_deepest_28 ⟨Nat.zero_le _, Nat.zero_le _⟩) rfl ?_
    refine x_ifeq_b (tgt := 44) hx hb dX6_deepest_31 (by decide) (fun h_31 => ?_) (fun h_31 => ?_)
    · refine lv_iconst (v := 2) hx hb dX6_deepest_44 (by decide) ?_
      refine lv_istore (lv' := [(6, .int 2), (5, .int (nI (rHd r cn))), (0, .ref (G 0)), (1, .int (nI cn)), (2, .int i), (3, .int j), (4, .int k)]) hx hb dX6_deepest_45 hl (by decide) rfl (fun ls hl => ?_)
      refine lv_iload hx hb dX6_deepest_47 (lv_at hl 0 rfl) ?_
      refine lv_if_ne (tgt := 63) hx hb dX6_deepest_49 (by decide) (fun _ => ?_) (fun h => absurd h (by decide))
      refine lv_iconst (v := 0) hx hb dX6_deepest_63 (by decide) ?_
      refine lv_istore (lv' := [(7, .int 0), (6, .int 2), (5, .int (nI (rHd r cn))), (0, .ref (G 0)), (1, .int (nI cn)), (2, .int i), (3, .int j), (4, .int k)]) hx hb dX6_deepest_64 hl (by decide) rfl (fun ls hl => ?_)
      refine lv_iload hx hb dX6_deepest_66 (lv_at hl 1 rfl) ?_
      refine lv_if_ne (tgt := 81) hx hb dX6_deepest_68 (by decide) (fun _ => ?_) (fun h => absurd h (by decide))
      refine lv_iload hx hb dX6_deepest_81 (lv_at hl 1 rfl) ?_
      refine lv_istore (lv' := [(6, .int 2), (7, .int 0), (5, .int (nI (rHd r cn))), (0, .ref (G 0)), (1, .int (nI cn)), (2, .int i), (3, .int j), (4, .int k)]) hx hb dX6_deepest_83 hl (by decide) rfl (fun ls hl => ?_)
      refine lv_aload_n hx hb dX6_deepest_85 rfl (lv_at hl 3 rfl) ?_
      refine lv_iload hx hb dX6_deepest_86 (lv_at hl 0 rfl) ?_
      refine lv_if_ne (tgt := 102) hx hb dX6_deepest_88 (by decide) (fun _ => ?_) (fun h => absurd h (by decide))
      refine lv_iconst (v := 0) hx hb dX6_deepest_102 (by decide) ?_
      refine lv_iload hx hb dX6_deepest_103 (lv_at hl 7 rfl) ?_
      refine lv_iload hx hb dX6_deepest_105 (lv_at hl 0 rfl) ?_
      refine px_goM (st1 := [.long ((f_itemOf r 0 k 2).2)]) (px_callV F hK (c_X6_itemOf l D cy A G r _ _ _ 0 2 k hI (by omega) (by omega)) kc_X6_itemOf kw_methodLink_RX6_114 rfl hR (m_recv hK hR) rfl ⟨rfl, rfl⟩ ⟨Nat.le_of_ble_eq_true rfl, Nat.le_of_ble_eq_true rfl⟩ hl.1 rfl (Nat.le_of_ble_eq_true rfl) dX6_deepest_107 ⟨Nat.zero_le _, Nat.zero_le _⟩) hS rfl (fun H locs C E hR hS => ?_)
      exact px_lret F hr hlocks hS (by have e : f_deepest r (nI cn) i j k = ((f_itemOf r 0 k 2).1, (f_itemOf r 0 k 2).2) := (by simp [f_deepest, f_no, f_rowno, h_4, h_31, ix_nI (show cn < 2 ^ 31 by omega)] <;> rfl); rw [e]; exact ⟨rfl, _, _, hR⟩) dX6_deepest_110
    · refine lv_aload_n hx hb dX6_deepest_34 rfl (lv_at hl 1 rfl) ?_
      refine lv_iload hx hb dX6_deepest_35 (lv_at hl 0 rfl) ?_
      refine lv_iload_n hx hb dX6_deepest_37 rfl (lv_at hl 3 rfl) ?_
      refine px_goV (st1 := [.int (nI (f_looked r (rHd r cn) i))]) (px_callV F hK (c_X6_looked l D cy A G r _ _ _ (rHd r cn) i (by omega)) kc_X6_looked kw_methodLink_RX6_108 rfl hR (m_recv hK hR) rfl ⟨rfl, rfl⟩ ⟨Nat.le_of_ble_eq_true rfl, Nat.le_of_ble_eq_true rfl⟩ hl.1 rfl (Nat.le_of_ble_eq_true rfl) dX6_deepest_38 ⟨Nat.zero_le _, Nat.zero_le _⟩) rfl ?_
      refine lv_goto (tgt := 45) hx hb dX6_deepest_41 (by decide) ?_
      refine lv_istore (lv' := [(6, .int (nI (f_looked r (rHd r cn) i))), (5, .int (nI (rHd r cn))), (0, .ref (G 0)), (1, .int (nI cn)), (2, .int i), (3, .int j), (4, .int k)]) hx hb dX6_deepest_45 hl (by decide) rfl (fun ls hl => ?_)
      refine lv_iload hx hb dX6_deepest_47 (lv_at hl 0 rfl) ?_
      refine lv_if_ne (tgt := 63) hx hb dX6_deepest_49 (by decide) (fun h_49 => ?_) (fun h_49 => ?_)
      · have h_49 : ¬ (f_looked r (rHd r cn) i) = 0 := nIne (show ¬ nI (f_looked r (rHd r cn) i) = nI 0 from h_49)
        refine lv_iconst (v := 0) hx hb dX6_deepest_63 (by decide) ?_
        refine lv_istore (lv' := [(7, .int 0), (6, .int (nI (f_looked r (rHd r cn) i))), (5, .int (nI (rHd r cn))), (0, .ref (G 0)), (1, .int (nI cn)), (2, .int i), (3, .int j), (4, .int k)]) hx hb dX6_deepest_64 hl (by decide) rfl (fun ls hl => ?_)
        refine lv_iload hx hb dX6_deepest_66 (lv_at hl 1 rfl) ?_
        refine lv_if_ne (tgt := 81) hx hb dX6_deepest_68 (by decide) (fun h_68 => ?_) (fun h_68 => by exfalso; have h_68 : (f_looked r (rHd r cn) i) = 0 := nIeq (show nI (f_looked r (rHd r cn) i) = nI 0 from h_68) (by omega) (by omega); omega)
        have h_68 : ¬ (f_looked r (rHd r cn) i) = 0 := nIne (show ¬ nI (f_looked r (rHd r cn) i) = nI 0 from h_68)
        refine lv_iload hx hb dX6_deepest_81 (lv_at hl 1 rfl) ?_
        refine lv_istore (lv' := [(6, .int (nI (f_looked r (rHd r cn) i))), (7, .int 0), (5, .int (nI (rHd r cn))), (0, .ref (G 0)), (1, .int (nI cn)), (2, .int i), (3, .int j), (4, .int k)]) hx hb dX6_deepest_83 hl (by decide) rfl (fun ls hl => ?_)
        refine lv_aload_n hx hb dX6_deepest_85 rfl (lv_at hl 3 rfl) ?_
        refine lv_iload hx hb dX6_deepest_86 (lv_at hl 0 rfl) ?_
        refine lv_if_ne (tgt := 102) hx hb dX6_deepest_88 (by decide) (fun h_88 => ?_) (fun h_88 => by exfalso; have h_88 : (f_looked r (rHd r cn) i) = 0 := nIeq (show nI (f_looked r (rHd r cn) i) = nI 0 from h_88) (by omega) (by omega); omega)
        have h_88 : ¬ (f_looked r (rHd r cn) i) = 0 := nIne (show ¬ nI (f_looked r (rHd r cn) i) = nI 0 from h_88)
        refine lv_iconst (v := 0) hx hb dX6_deepest_102 (by decide) ?_
        refine lv_iload hx hb dX6_deepest_103 (lv_at hl 7 rfl) ?_
        refine lv_iload hx hb dX6_deepest_105 (lv_at hl 0 rfl) ?_
        refine px_goM (st1 := [.long ((f_itemOf r 0 k (f_looked r (rHd r cn) i)).2)]) (px_callV F hK (c_X6_itemOf l D cy A G r _ _ _ 0 (f_looked r (rHd r cn) i) k hI (by omega) (by omega)) kc_X6_itemOf kw_methodLink_RX6_114 rfl hR (m_recv hK hR) rfl ⟨rfl, rfl⟩ ⟨Nat.le_of_ble_eq_true rfl, Nat.le_of_ble_eq_true rfl⟩ hl.1 rfl (Nat.le_of_ble_eq_true rfl) dX6_deepest_107 ⟨Nat.zero_le _, Nat.zero_le _⟩) hS rfl (fun H locs C E hR hS => ?_)
        exact px_lret F hr hlocks hS (by have e : f_deepest r (nI cn) i j k = ((f_itemOf r 0 k (f_looked r (rHd r cn) i)).1, (f_itemOf r 0 k (f_looked r (rHd r cn) i)).2) := (by simp [f_deepest, f_no, f_rowno, h_4, h_31, h_49, h_68, h_88, ix_nI (show cn < 2 ^ 31 by omega)] <;> rfl); rw [e]; exact ⟨rfl, _, _, hR⟩) dX6_deepest_110
      · have h_49 : (f_looked r (rHd r cn) i) = 0 := nIeq (show nI (f_looked r (rHd r cn) i) = nI 0 from h_49) (by omega) (by omega)
        obtain ⟨ht0_i0, i0, hj_i0, rfl⟩ := looked_0 h_49 (by omega)
        have hk8 := isOf_k h_31 ht0_i0
        have hit := hI.it ht0_i0 hc0 hj_i0 (by omega)
        have hrow := (hit.2.2.2.2 (by omega)).1
        have hrt := hI.tb _ hrow
        have hlk2 := looked_le r (iv (f_at r (rHd r cn) i0)) j
        refine lv_aload_n hx hb dX6_deepest_52 rfl (lv_at hl 2 rfl) ?_
        refine lv_iload hx hb dX6_deepest_53 (lv_at hl 1 rfl) ?_
        refine lv_iload_n hx hb dX6_deepest_55 rfl (lv_at hl 4 rfl) ?_
        refine px_goV (st1 := [.long (f_at r (rHd r cn) i0)]) (px_callV F hK (c_X6_at l D cy A G r _ _ _ (rHd r cn) i0 (by omega) (show rS r (rHd r cn) + i0 < 12200 by omega)) kc_X6_at kw_methodLink_RX6_80 rfl hR (m_recv hK hR) rfl ⟨rfl, rfl⟩ ⟨Nat.le_of_ble_eq_true rfl, Nat.le_of_ble_eq_true rfl⟩ hl.1 rfl (Nat.le_of_ble_eq_true rfl) dX6_deepest_56 ⟨Nat.zero_le _, Nat.zero_le _⟩) rfl ?_
        refine px_topl hit.1 ?_
        refine lv_l2i (v := nI (iv (f_at r (rHd r cn) i0))) hx hb dX6_deepest_59 (lN_i _) ?_
        refine lv_goto (tgt := 64) hx hb dX6_deepest_60 (by decide) ?_
        refine lv_istore (lv' := [(7, .int (nI (iv (f_at r (rHd r cn) i0)))), (6, .int (nI (f_looked r (rHd r cn) (nI i0)))), (5, .int (nI (rHd r cn))), (0, .ref (G 0)), (1, .int (nI cn)), (2, .int (nI i0)), (3, .int j), (4, .int k)]) hx hb dX6_deepest_64 hl (by decide) rfl (fun ls hl => ?_)
        refine lv_iload hx hb dX6_deepest_66 (lv_at hl 1 rfl) ?_
        refine lv_if_ne (tgt := 81) hx hb dX6_deepest_68 (by decide) (fun h_68 => by exfalso; have h_68 : ¬ (f_looked r (rHd r cn) (nI i0)) = 0 := nIne (show ¬ nI (f_looked r (rHd r cn) (nI i0)) = nI 0 from h_68); omega) (fun h_68 => ?_)
        have h_68 : (f_looked r (rHd r cn) (nI i0)) = 0 := nIeq (show nI (f_looked r (rHd r cn) (nI i0)) = nI 0 from h_68) (by omega) (by omega)
        refine lv_aload_n hx hb dX6_deepest_71 rfl (lv_at hl 3 rfl) ?_
        refine lv_iload hx hb dX6_deepest_72 (lv_at hl 0 rfl) ?_
        refine lv_iload_n hx hb dX6_deepest_74 rfl (lv_at hl 6 rfl) ?_
        refine px_goV (st1 := [.int (nI (f_looked r (iv (f_at r (rHd r cn) i0)) j))]) (px_callV F hK (c_X6_looked l D cy A G r _ _ _ (iv (f_at r (rHd r cn) i0)) j (by omega)) kc_X6_looked kw_methodLink_RX6_108 rfl hR (m_recv hK hR) rfl ⟨rfl, rfl⟩ ⟨Nat.le_of_ble_eq_true rfl, Nat.le_of_ble_eq_true rfl⟩ hl.1 rfl (Nat.le_of_ble_eq_true rfl) dX6_deepest_75 ⟨Nat.zero_le _, Nat.zero_le _⟩) rfl ?_
        refine lv_goto (tgt := 83) hx hb dX6_deepest_78 (by decide) ?_
        refine lv_istore (lv' := [(6, .int (nI (f_looked r (iv (f_at r (rHd r cn) i0)) j))), (7, .int (nI (iv (f_at r (rHd r cn) i0)))), (5, .int (nI (rHd r cn))), (0, .ref (G 0)), (1, .int (nI cn)), (2, .int (nI i0)), (3, .int j), (4, .int k)]) hx hb dX6_deepest_83 hl (by decide) rfl (fun ls hl => ?_)
        refine lv_aload_n hx hb dX6_deepest_85 rfl (lv_at hl 3 rfl) ?_
        refine lv_iload hx hb dX6_deepest_86 (lv_at hl 0 rfl) ?_
        refine lv_if_ne (tgt := 102) hx hb dX6_deepest_88 (by decide) (fun h_88 => ?_) (fun h_88 => ?_)
        · have h_88 : ¬ (f_looked r (iv (f_at r (rHd r cn) i0)) j) = 0 := nIne (show ¬ nI (f_looked r (iv (f_at r (rHd r cn) i0)) j) = nI 0 from h_88)
          refine lv_iconst (v := 0) hx hb dX6_deepest_102 (by decide) ?_
          refine lv_iload hx hb dX6_deepest_103 (lv_at hl 7 rfl) ?_
          refine lv_iload hx hb dX6_deepest_105 (lv_at hl 0 rfl) ?_
          refine px_goM (st1 := [.long ((f_itemOf r 0 k (f_looked r (iv (f_at r (rHd r cn) i0)) j)).2)]) (px_callV F hK (c_X6_itemOf l D cy A G r _ _ _ 0 (f_looked r (iv (f_at r (rHd r cn) i0)) j) k hI (by omega) (by omega)) kc_X6_itemOf kw_methodLink_RX6_114 rfl hR (m_recv hK hR) rfl ⟨rfl, rfl⟩ ⟨Nat.le_of_ble_eq_true rfl, Nat.le_of_ble_eq_true rfl⟩ hl.1 rfl (Nat.le_of_ble_eq_true rfl) dX6_deepest_107 ⟨Nat.zero_le _, Nat.zero_le _⟩) hS rfl (fun H locs C E hR hS => ?_)
          exact px_lret F hr hlocks hS (by have e : f_deepest r (nI cn) (nI i0) j k = ((f_itemOf r 0 k (f_looked r (iv (f_at r (rHd r cn) i0)) j)).1, (f_itemOf r 0 k (f_looked r (iv (f_at r (rHd r cn) i0)) j)).2) := (by simp [f_deepest, f_no, f_rowno, h_4, h_31, h_49, h_68, h_88, ix_nI (show cn < 2 ^ 31 by omega), ix_nI (show i0 < 2 ^ 31 by omega)] <;> rfl); rw [e]; exact ⟨rfl, _, _, hR⟩) dX6_deepest_110
        · have h_88 : (f_looked r (iv (f_at r (rHd r cn) i0)) j) = 0 := nIeq (show nI (f_looked r (iv (f_at r (rHd r cn) i0)) j) = nI 0 from h_88) (by omega) (by omega)
          obtain ⟨ht0_j0, j0, hj_j0, rfl⟩ := looked_0 h_88 (by omega)
          have hk10 := isOf_k ((hit.2.2.2.2 (by omega)).2 ht0_j0) ht0_j0
          have hrk : rkN (rK r (rHd r cn)) = 10 := (by rw [show rK r (rHd r cn) = 13 by omega]; rfl)
          have hit2 := hI.it ht0_j0 hrow hj_j0 (by omega)
          have hrow2 := (hit2.2.2.2.2 (by omega)).1
          refine lv_aload_n hx hb dX6_deepest_91 rfl (lv_at hl 3 rfl) ?_
          refine lv_iload hx hb dX6_deepest_92 (lv_at hl 1 rfl) ?_
          refine lv_iload_n hx hb dX6_deepest_94 rfl (lv_at hl 6 rfl) ?_
          refine px_goV (st1 := [.long (f_at r (iv (f_at r (rHd r cn) i0)) j0), .ref (G 0)]) (px_callV F hK (c_X6_at l D cy A G r _ _ _ (iv (f_at r (rHd r cn) i0)) j0 (by omega) (show rS r (iv (f_at r (rHd r cn) i0)) + j0 < 12200 by omega)) kc_X6_at kw_methodLink_RX6_80 rfl hR (m_recv hK hR) rfl ⟨rfl, rfl⟩ ⟨Nat.le_of_ble_eq_true rfl, Nat.le_of_ble_eq_true rfl⟩ hl.1 rfl (Nat.le_of_ble_eq_true rfl) dX6_deepest_95 ⟨Nat.zero_le _, Nat.zero_le _⟩) rfl ?_
          refine px_topl hit2.1 ?_
          refine lv_l2i (v := nI (iv (f_at r (iv (f_at r (rHd r cn) i0)) j0))) hx hb dX6_deepest_98 (lN_i _) ?_
          refine lv_goto (tgt := 103) hx hb dX6_deepest_99 (by decide) ?_
          refine lv_iload hx hb dX6_deepest_103 (lv_at hl 7 rfl) ?_
          refine lv_iload hx hb dX6_deepest_105 (lv_at hl 0 rfl) ?_
          refine px_goM (st1 := [.long ((f_itemOf r (iv (f_at r (iv (f_at r (rHd r cn) i0)) j0)) k (f_looked r (iv (f_at r (rHd r cn) i0)) (nI j0))).2)]) (px_callV F hK (c_X6_itemOf l D cy A G r _ _ _ (iv (f_at r (iv (f_at r (rHd r cn) i0)) j0)) (f_looked r (iv (f_at r (rHd r cn) i0)) (nI j0)) k hI (by omega) (by omega)) kc_X6_itemOf kw_methodLink_RX6_114 rfl hR (m_recv hK hR) rfl ⟨rfl, rfl⟩ ⟨Nat.le_of_ble_eq_true rfl, Nat.le_of_ble_eq_true rfl⟩ hl.1 rfl (Nat.le_of_ble_eq_true rfl) dX6_deepest_107 ⟨Nat.zero_le _, Nat.zero_le _⟩) hS rfl (fun H locs C E hR hS => ?_)
          exact px_lret F hr hlocks hS (by have e : f_deepest r (nI cn) (nI i0) (nI j0) k = ((f_itemOf r (iv (f_at r (iv (f_at r (rHd r cn) i0)) j0)) k (f_looked r (iv (f_at r (rHd r cn) i0)) (nI j0))).1, (f_itemOf r (iv (f_at r (iv (f_at r (rHd r cn) i0)) j0)) k (f_looked r (iv (f_at r (rHd r cn) i0)) (nI j0))).2) := (by simp [f_deepest, f_no, f_rowno, h_4, h_31, h_49, h_68, h_88, ix_nI (show cn < 2 ^ 31 by omega), ix_nI (show i0 < 2 ^ 31 by omega), ix_nI (show j0 < 2 ^ 31 by omega)] <;> rfl); rw [e]; exact ⟨rfl, _, _, hR⟩) dX6_deepest_110
  · refine lv_aload_n hx hb dX6_deepest_7 rfl (lv_at hl 0 rfl) ?_
    refine lv_bipush (v := -2) hx hb dX6_deepest_8 (by decide) ?_
    refine m_put F hK hR hS 13 (by decide) (v := (-2)) rfl (sFa r (-2)) rfl kw_fieldLink_RX6_111 rfl rfl dX6_deepest_10 (fun H locs hR hS => ?_)
    refine lv_lconst (v := 0) hx hb dX6_deepest_13 (by decide) ?_
    exact px_lret F hr hlocks hS (by have e : f_deepest r cl i j k = (sFa r (-2), 0) := (by simp [f_deepest, f_no, f_rowno, h_4] <;> rfl); rw [e]; exact ⟨rfl, _, _, hR⟩) dX6_deepest_14
end
section
/-! the reference: thing, canStand, likes -/
set_option maxHeartbeats 400000 in
set_option maxRecDepth 100000 in
theorem c_X6_thing (l : Launch) (D : va_G) (cy : Nat → ClassId) (A : Nat → Prop) (G : Nat → Nat) (r : RS) (C : Nat → Nat) (E : Nat → Int64) (sz : Nat) (cl i mk nu : Int32) {kk : Nat} (hI : Inv kk r) : Met l yX6_thing (px_w yX6_thing cX6_thing 7 (some .int)) (rmd 3 0 0) (px_P D cy [.ref (G 0), .int cl, .int i, .int mk, .int nu] sz (MR D cy A G r C E)) (px_Q (px_M D cy A G (some (.int (f_thing r cl i mk nu).2)) ((f_thing r cl i mk nu).1)) A) 0 0 A := by
  refine px_met (by decide) (Nat.le_of_ble_eq_true rfl) ?_
  intro p e s m below meth c F hr hlocks hnm hK hsz hR ls hl
  have hx := F.1
  have hb := F.2.1
  have hl : lv_has ls 7 [(0, .ref (G 0)), (1, .int cl), (2, .int i), (3, .int mk), (4, .int nu)] := hl
  have hS : va_S A s.heap s.heap [] := va_S.rf
  have hbd := hI.bd
  refine lv_iload_n hx hb dX6_thing_0 rfl (lv_at hl 1 rfl) ?_
  refine px_goV (st1 := [.int (b2i (f_in cl 0 15))]) (px_callS F hK (c_X6_isColumn l D cy _ cl) kc_X6_isColumn kw_methodLink_RX6_53 rfl trivial rfl ⟨rfl, rfl⟩ ⟨Nat.le_of_ble_eq_true rfl, Nat.le_of_ble_eq_true rfl⟩ hl.1 rfl (Nat.le_of_ble_eq_true rfl) dX6_thing_1 ⟨Nat.zero_le _, Nat.zero_le _⟩) rfl ?_
  refine x_ifeq_b (tgt := 16) hx hb dX6_thing_4 (by decide) (fun h_4 => ?_) (fun h_4 => ?_)
  · refine lv_bipush (v := -2) hx hb dX6_thing_16 (by decide) ?_
    exact px_iret F hr hlocks hS (by have e : f_thing r cl i mk nu = (r, (-2)) := (by simp [f_thing, f_no, f_thno, f_newT, h_4] <;> rfl); rw [e]; exact ⟨rfl, _, _, hR⟩) dX6_thing_18
  · refine lv_iload_n hx hb dX6_thing_7 rfl (lv_at hl 3 rfl) ?_
    refine lv_iconst (v := 0) hx hb dX6_thing_8 (by decide) ?_
    refine lv_iconst (v := 2) hx hb dX6_thing_9 (by decide) ?_
    refine px_goV (st1 := [.int (b2i (f_in mk 0 2))]) (px_callS F hK (c_X6_in l D cy _ mk 0 2) kc_X6_in kw_methodLink_RX6_57 rfl trivial rfl ⟨rfl, rfl⟩ ⟨Nat.le_of_ble_eq_true rfl, Nat.le_of_ble_eq_true rfl⟩ hl.1 rfl (Nat.le_of_ble_eq_true rfl) dX6_thing_10 ⟨Nat.zero_le _, Nat.zero_le _⟩) rfl ?_
    refine x_ifne_b (tgt := 19) hx hb dX6_thing_13 (by decide) (fun h_13 => ?_) (fun h_13 => ?_)
    · obtain ⟨cn, hl_cn, hh_cn, rfl⟩ := f_in_nat h_4 0 15 (by decide) (by decide) (by decide) (by decide)
      obtain ⟨mn, hl_mn, hh_mn, rfl⟩ := f_in_nat h_13 0 2 (by decide) (by decide) (by decide) (by decide)
      have hc0 := hI.hd cn (by omega)
      have hc1 := hI.tb _ hc0
      have hlk := looked_le r (rHd r cn) i
      rcases (show mn = 0 ∨ mn = 1 ∨ mn = 2 by omega) with rfl | rfl | rfl
      · have q1 : (nI 0 < (2 : Int32)) = True := eq_true (by decide)
        have q2 : (nI 0 = (0 : Int32)) = True := eq_true (by decide)
        have q3 : (nI 0 = (1 : Int32)) = False := eq_false (by decide)
        have q4 : ¬ 3000 ≤ rM r := (by omega)
        refine lv_iload_n hx hb dX6_thing_19 rfl (lv_at hl 3 rfl) ?_
        refine lv_iconst (v := 2) hx hb dX6_thing_20 (by decide) ?_
        refine lv_icmp_ge (tgt := 37) hx hb dX6_thing_21 (by decide) (fun h => absurd h (by decide)) (fun _ => ?_)
        refine lv_aload_n hx hb dX6_thing_24 rfl (lv_at hl 0 rfl) ?_
        refine m_get F hK hR 6 (by decide) rfl kw_fieldLink_RX6_122 dX6_thing_25 ?_
        refine lv_sipush (v := 3000) hx hb dX6_thing_28 (by decide) ?_
        refine lv_icmp_lt (tgt := 37) hx hb dX6_thing_31 (by decide) (fun h_31 => ?_) (fun h_31 => by exfalso; have h_31 : 3000 ≤ (rM r) := nInlt (show ¬ nI (rM r) < nI 3000 from h_31) (by omega) (by omega); omega)
        have h_31 : (rM r) < 3000 := nIlt (show nI (rM r) < nI 3000 from h_31) (by omega) (by omega)
        refine lv_iload_n hx hb dX6_thing_37 rfl (lv_at hl 3 rfl) ?_
        refine lv_iconst (v := 2) hx hb dX6_thing_38 (by decide) ?_
        refine lv_icmp_ge (tgt := 82) hx hb dX6_thing_39 (by decide) (fun h => absurd h (by decide)) (fun _ => ?_)
        refine lv_aload_n hx hb dX6_thing_42 rfl (lv_at hl 0 rfl) ?_
        refine lv_dup hx hb dX6_thing_43 rfl ?_
        refine m_get F hK hR 6 (by decide) rfl kw_fieldLink_RX6_122 dX6_thing_44 ?_
        refine lv_iconst (v := 1) hx hb dX6_thing_47 (by decide) ?_
        refine lv_iadd hx hb dX6_thing_48 ?_
        refine px_topi (y := nI ((rM r) + 1)) (nI_add _ _) ?_
        refine m_put F hK hR hS 6 (by decide) (v := nI ((rM r) + 1)) rfl (sM r ((rM r) + 1)) rfl kw_fieldLink_RX6_122 rfl rfl dX6_thing_49 (fun H locs hR hS => ?_)
        refine lv_aload_n hx hb dX6_thing_52 rfl (lv_at hl 0 rfl) ?_
        refine m_get F hK hR 7 (by decide) rfl kw_fieldLink_RX6_24 dX6_thing_53 ?_
        refine lv_aload_n hx hb dX6_thing_56 rfl (lv_at hl 0 rfl) ?_
        refine m_get F hK hR 6 (by decide) rfl kw_fieldLink_RX6_122 dX6_thing_57 ?_
        refine lv_iload hx hb dX6_thing_60 (lv_at hl 4 rfl) ?_
        refine m_stTN F hK hR hS ((rM r) + 1) nu rfl rfl (by omega) dX6_thing_62 (fun H locs hR hS => ?_)
        refine lv_aload_n hx hb dX6_thing_63 rfl (lv_at hl 0 rfl) ?_
        refine m_get F hK hR 8 (by decide) rfl kw_fieldLink_RX6_27 dX6_thing_64 ?_
        refine lv_aload_n hx hb dX6_thing_67 rfl (lv_at hl 0 rfl) ?_
        refine m_get F hK hR 6 (by decide) rfl kw_fieldLink_RX6_122 dX6_thing_68 ?_
        refine lv_iload_n hx hb dX6_thing_71 rfl (lv_at hl 3 rfl) ?_
        refine lv_iconst (v := 1) hx hb dX6_thing_72 (by decide) ?_
        refine lv_icmp_ne (tgt := 80) hx hb dX6_thing_73 (by decide) (fun _ => ?_) (fun h => absurd h (by decide))
        refine lv_iconst (v := 0) hx hb dX6_thing_80 (by decide) ?_
        refine m_stIM F hK hR hS ((rM r) + 1) false rfl rfl (by omega) dX6_thing_81 (fun H locs hR hS => ?_)
        refine lv_aload_n hx hb dX6_thing_82 rfl (lv_at hl 0 rfl) ?_
        refine m_get F hK hR 9 (by decide) rfl kw_fieldLink_RX6_31 dX6_thing_83 ?_
        refine lv_iload_n hx hb dX6_thing_86 rfl (lv_at hl 1 rfl) ?_
        refine m_ldHd F hK hR cn rfl (by omega) dX6_thing_87 ?_
        refine lv_istore (lv' := [(5, .int (nI (rHd r cn))), (0, .ref (G 0)), (1, .int (nI cn)), (2, .int i), (3, .int 0), (4, .int nu)]) hx hb dX6_thing_88 hl (by decide) rfl (fun ls hl => ?_)
        refine lv_aload_n hx hb dX6_thing_90 rfl (lv_at hl 1 rfl) ?_
        refine lv_iload hx hb dX6_thing_91 (lv_at hl 0 rfl) ?_
        refine lv_bipush (v := 8) hx hb dX6_thing_93 (by decide) ?_
        refine px_goV (st1 := [.int (b2i (f_isOf r (rHd r cn) 8))]) (px_callV F hK (c_X6_isOf l D cy A G (sIM (sTN (sM r ((rM r) + 1)) (va_up (rTN r) ((rM r) + 1) nu)) (va_up (rIM r) ((rM r) + 1) false)) _ _ _ (rHd r cn) 8 (by omega) (by omega) (show rK r (rHd r cn) < 100 by omega)) kc_X6_isOf kw_methodLink_RX6_90 rfl hR (m_recv hK hR) rfl ⟨rfl, rfl⟩ ⟨Nat.le_of_ble_eq_true rfl, Nat.le_of_ble_eq_true rfl⟩ hl.1 rfl (Nat.le_of_ble_eq_true rfl) dX6_thing_95 ⟨Nat.zero_le _, Nat.zero_le _⟩) rfl ?_
        refine x_ifeq_b (tgt := 111) hx hb dX6_thing_98 (by decide) (fun h_98 => ?_) (fun h_98 => ?_)
        · refine lv_iconst (v := 2) hx hb dX6_thing_111 (by decide) ?_
          refine lv_istore (lv' := [(6, .int 2), (5, .int (nI (rHd r cn))), (0, .ref (G 0)), (1, .int (nI cn)), (2, .int i), (3, .int 0), (4, .int nu)]) hx hb dX6_thing_112 hl (by decide) rfl (fun ls hl => ?_)
          refine lv_iload hx hb dX6_thing_114 (lv_at hl 0 rfl) ?_
          refine lv_if_ne (tgt := 139) hx hb dX6_thing_116 (by decide) (fun _ => ?_) (fun h => absurd h (by decide))
          refine lv_iload hx hb dX6_thing_139 (lv_at hl 0 rfl) ?_
          refine lv_istore (lv' := [(6, .int 2), (5, .int (nI (rHd r cn))), (0, .ref (G 0)), (1, .int (nI cn)), (2, .int i), (3, .int 0), (4, .int nu)]) hx hb dX6_thing_141 hl (by decide) rfl (fun ls hl => ?_)
          refine lv_iload hx hb dX6_thing_143 (lv_at hl 0 rfl) ?_
          refine lv_if_eq (tgt := 154) hx hb dX6_thing_145 (by decide) (fun h => absurd h (by decide)) (fun _ => ?_)
          refine lv_iload hx hb dX6_thing_148 (lv_at hl 0 rfl) ?_
          refine px_goV (st1 := [.int (-12)]) (px_callS F hK (c_X6_answer l D cy _ 2) kc_X6_answer kw_methodLink_RX6_65 rfl trivial rfl ⟨rfl, rfl⟩ ⟨Nat.le_of_ble_eq_true rfl, Nat.le_of_ble_eq_true rfl⟩ hl.1 rfl (Nat.le_of_ble_eq_true rfl) dX6_thing_150 ⟨Nat.zero_le _, Nat.zero_le _⟩) rfl ?_
          exact px_iret F hr hlocks hS (by have e : f_thing r (nI cn) i (nI 0) nu = (sIM (sTN (sM r ((rM r) + 1)) (va_up (rTN r) ((rM r) + 1) nu)) (va_up (rIM r) ((rM r) + 1) false), (-12)) := (by simp [f_thing, f_no, f_thno, f_newT, h_4, h_13, q1, q2, q3, q4, h_31, h_98, ix_nI (show cn < 2 ^ 31 by omega)] <;> rfl); rw [e]; exact ⟨rfl, _, _, hR⟩) dX6_thing_153
        · refine lv_aload_n hx hb dX6_thing_101 rfl (lv_at hl 1 rfl) ?_
          refine lv_iload hx hb dX6_thing_102 (lv_at hl 0 rfl) ?_
          refine lv_iload_n hx hb dX6_thing_104 rfl (lv_at hl 3 rfl) ?_
          refine px_goV (st1 := [.int (nI (f_looked r (rHd r cn) i))]) (px_callV F hK (c_X6_looked l D cy A G (sIM (sTN (sM r ((rM r) + 1)) (va_up (rTN r) ((rM r) + 1) nu)) (va_up (rIM r) ((rM r) + 1) false)) _ _ _ (rHd r cn) i (by omega)) kc_X6_looked kw_methodLink_RX6_108 rfl hR (m_recv hK hR) rfl ⟨rfl, rfl⟩ ⟨Nat.le_of_ble_eq_true rfl, Nat.le_of_ble_eq_true rfl⟩ hl.1 rfl (Nat.le_of_ble_eq_true rfl) dX6_thing_105 ⟨Nat.zero_le _, Nat.zero_le _⟩) rfl ?_
          refine lv_goto (tgt := 112) hx hb dX6_thing_108 (by decide) ?_
          refine lv_istore (lv' := [(6, .int (nI (f_looked r (rHd r cn) i))), (5, .int (nI (rHd r cn))), (0, .ref (G 0)), (1, .int (nI cn)), (2, .int i), (3, .int 0), (4, .int nu)]) hx hb dX6_thing_112 hl (by decide) rfl (fun ls hl => ?_)
          refine lv_iload hx hb dX6_thing_114 (lv_at hl 0 rfl) ?_
          refine lv_if_ne (tgt := 139) hx hb dX6_thing_116 (by decide) (fun h_116 => ?_) (fun h_116 => ?_)
          · have h_116 : ¬ (f_looked r (rHd r cn) i) = 0 := nIne (show ¬ nI (f_looked r (rHd r cn) i) = nI 0 from h_116)
            refine lv_iload hx hb dX6_thing_139 (lv_at hl 0 rfl) ?_
            refine lv_istore (lv' := [(6, .int (nI (f_looked r (rHd r cn) i))), (5, .int (nI (rHd r cn))), (0, .ref (G 0)), (1, .int (nI cn)), (2, .int i), (3, .int 0), (4, .int nu)]) hx hb dX6_thing_141 hl (by decide) rfl (fun ls hl => ?_)
            refine lv_iload hx hb dX6_thing_143 (lv_at hl 0 rfl) ?_
            refine lv_if_eq (tgt := 154) hx hb dX6_thing_145 (by decide) (fun h_145 => by exfalso; have h_145 : (f_looked r (rHd r cn) i) = 0 := nIeq (show nI (f_looked r (rHd r cn) i) = nI 0 from h_145) (by omega) (by omega); omega) (fun h_145 => ?_)
            have h_145 : ¬ (f_looked r (rHd r cn) i) = 0 := nIne (show ¬ nI (f_looked r (rHd r cn) i) = nI 0 from h_145)
            refine lv_iload hx hb dX6_thing_148 (lv_at hl 0 rfl) ?_
            refine px_goV (st1 := [.int (-10 - (nI (f_looked r (rHd r cn) i)))]) (px_callS F hK (c_X6_answer l D cy _ (nI (f_looked r (rHd r cn) i))) kc_X6_answer kw_methodLink_RX6_65 rfl trivial rfl ⟨rfl, rfl⟩ ⟨Nat.le_of_ble_eq_true rfl, Nat.le_of_ble_eq_true rfl⟩ hl.1 rfl (Nat.le_of_ble_eq_true rfl) dX6_thing_150 ⟨Nat.zero_le _, Nat.zero_le _⟩) rfl ?_
            exact px_iret F hr hlocks hS (by have e : f_thing r (nI cn) i (nI 0) nu = (sIM (sTN (sM r ((rM r) + 1)) (va_up (rTN r) ((rM r) + 1) nu)) (va_up (rIM r) ((rM r) + 1) false), -10 - (nI (f_looked r (rHd r cn) i))) := (by simp [f_thing, f_no, f_thno, f_newT, h_4, h_13, q1, q2, q3, q4, h_31, h_98, h_116, h_145, ix_nI (show cn < 2 ^ 31 by omega)] <;> rfl); rw [e]; exact ⟨rfl, _, _, hR⟩) dX6_thing_153
          · have h_116 : (f_looked r (rHd r cn) i) = 0 := nIeq (show nI (f_looked r (rHd r cn) i) = nI 0 from h_116) (by omega) (by omega)
            refine lv_iload_n hx hb dX6_thing_119 rfl (lv_at hl 5 rfl) ?_
            refine lv_if_ne (tgt := 139) hx hb dX6_thing_120 (by decide) (fun h => absurd h (by decide)) (fun _ => ?_)
            refine lv_aload_n hx hb dX6_thing_123 rfl (lv_at hl 2 rfl) ?_
            refine m_get F hK hR 1 (by decide) rfl kw_fieldLink_RX6_7 dX6_thing_124 ?_
            refine lv_iload hx hb dX6_thing_127 (lv_at hl 1 rfl) ?_
            refine m_ldK F hK hR (rHd r cn) rfl (by omega) dX6_thing_129 ?_
            refine lv_bipush (v := 9) hx hb dX6_thing_130 (by decide) ?_
            refine lv_icmp_ne (tgt := 139) hx hb dX6_thing_132 (by decide) (fun h_132 => ?_) (fun h_132 => ?_)
            · have h_132 : ¬ (rK r (rHd r cn)) = 9 := nIne (show ¬ nI (rK r (rHd r cn)) = nI 9 from h_132)
              refine lv_iload hx hb dX6_thing_139 (lv_at hl 0 rfl) ?_
              refine lv_istore (lv' := [(6, .int (nI (f_looked r (rHd r cn) i))), (5, .int (nI (rHd r cn))), (0, .ref (G 0)), (1, .int (nI cn)), (2, .int i), (3, .int 0), (4, .int nu)]) hx hb dX6_thing_141 hl (by decide) rfl (fun ls hl => ?_)
              refine lv_iload hx hb dX6_thing_143 (lv_at hl 0 rfl) ?_
              refine lv_if_eq (tgt := 154) hx hb dX6_thing_145 (by decide) (fun h_145 => ?_) (fun h_145 => by exfalso; have h_145 : ¬ (f_looked r (rHd r cn) i) = 0 := nIne (show ¬ nI (f_looked r (rHd r cn) i) = nI 0 from h_145); omega)
              have h_145 : (f_looked r (rHd r cn) i) = 0 := nIeq (show nI (f_looked r (rHd r cn) i) = nI 0 from h_145) (by omega) (by omega)
              obtain ⟨ht0_j, j, hj_j, rfl⟩ := looked_0 h_145 (by omega)
              refine lv_aload_n hx hb dX6_thing_154 rfl (lv_at hl 2 rfl) ?_
              refine lv_iload hx hb dX6_thing_155 (lv_at hl 1 rfl) ?_
              refine lv_iload_n hx hb dX6_thing_157 rfl (lv_at hl 4 rfl) ?_
              refine lv_iload_n hx hb dX6_thing_158 rfl (lv_at hl 5 rfl) ?_
              refine lv_iconst (v := 2) hx hb dX6_thing_159 (by decide) ?_
              refine lv_icmp_ne (tgt := 167) hx hb dX6_thing_160 (by decide) (fun _ => ?_) (fun h => absurd h (by decide))
              refine lv_aload_n hx hb dX6_thing_167 rfl (lv_at hl 2 rfl) ?_
              refine m_get F hK hR 6 (by decide) rfl kw_fieldLink_RX6_122 dX6_thing_168 ?_
              refine lv_i2l (v := lN ((rM r) + 1)) hx hb dX6_thing_171 (nI_l (n := ((rM r) + 1)) (by omega)) ?_
              refine px_goMx (st1 := []) (px_callV F hK (c_X6_put l D cy A G (sIM (sTN (sM r ((rM r) + 1)) (va_up (rTN r) ((rM r) + 1) nu)) (va_up (rIM r) ((rM r) + 1) false)) _ _ _ (rHd r cn) j (lN ((rM r) + 1)) (by omega) (show rS r (rHd r cn) + j < 12200 by omega)) kc_X6_put kw_methodLink_RX6_76 rfl hR (m_recv hK hR) rfl ⟨rfl, rfl⟩ ⟨Nat.le_of_ble_eq_true rfl, Nat.le_of_ble_eq_true rfl⟩ hl.1 rfl (Nat.le_of_ble_eq_true rfl) dX6_thing_172 ⟨Nat.zero_le _, Nat.zero_le _⟩) hS rfl (fun H locs hR hS => ?_)
              refine lv_iconst (v := 1) hx hb dX6_thing_175 (by decide) ?_
              exact px_iret F hr hlocks hS (by have e : f_thing r (nI cn) (nI j) (nI 0) nu = (f_put (sIM (sTN (sM r ((rM r) + 1)) (va_up (rTN r) ((rM r) + 1) nu)) (va_up (rIM r) ((rM r) + 1) false)) (rHd r cn) j (lN ((rM r) + 1)), 1) := (by simp [f_thing, f_no, f_thno, f_newT, h_4, h_13, q1, q2, q3, q4, h_31, h_98, h_116, h_132, h_145, ix_nI (show cn < 2 ^ 31 by omega), ix_nI (show j < 2 ^ 31 by omega)] <;> rfl); rw [e]; exact ⟨rfl, _, _, hR⟩) dX6_thing_176
            · have h_132 : (rK r (rHd r cn)) = 9 := nIeq (show nI (rK r (rHd r cn)) = nI 9 from h_132) (by omega) (by omega)
              refine lv_iconst (v := 5) hx hb dX6_thing_135 (by decide) ?_
              refine lv_goto (tgt := 141) hx hb dX6_thing_136 (by decide) ?_
              refine lv_istore (lv' := [(6, .int 5), (5, .int (nI (rHd r cn))), (0, .ref (G 0)), (1, .int (nI cn)), (2, .int i), (3, .int 0), (4, .int nu)]) hx hb dX6_thing_141 hl (by decide) rfl (fun ls hl => ?_)
              refine lv_iload hx hb dX6_thing_143 (lv_at hl 0 rfl) ?_
              refine lv_if_eq (tgt := 154) hx hb dX6_thing_145 (by decide) (fun h => absurd h (by decide)) (fun _ => ?_)
              refine lv_iload hx hb dX6_thing_148 (lv_at hl 0 rfl) ?_
              refine px_goV (st1 := [.int (-15)]) (px_callS F hK (c_X6_answer l D cy _ 5) kc_X6_answer kw_methodLink_RX6_65 rfl trivial rfl ⟨rfl, rfl⟩ ⟨Nat.le_of_ble_eq_true rfl, Nat.le_of_ble_eq_true rfl⟩ hl.1 rfl (Nat.le_of_ble_eq_true rfl) dX6_thing_150 ⟨Nat.zero_le _, Nat.zero_le _⟩) rfl ?_
              exact px_iret F hr hlocks hS (by have e : f_thing r (nI cn) i (nI 0) nu = (sIM (sTN (sM r ((rM r) + 1)) (va_up (rTN r) ((rM r) + 1) nu)) (va_up (rIM r) ((rM r) + 1) false), (-15)) := (by simp [f_thing, f_no, f_thno, f_newT, h_4, h_13, q1, q2, q3, q4, h_31, h_98, h_116, h_132, ix_nI (show cn < 2 ^ 31 by omega)] <;> rfl); rw [e]; exact ⟨rfl, _, _, hR⟩) dX6_thing_153
      · have q1 : (nI 1 < (2 : Int32)) = True := eq_true (by decide)
        have q2 : (nI 1 = (0 : Int32)) = False := eq_false (by decide)
        have q3 : (nI 1 = (1 : Int32)) = True := eq_true (by decide)
        have q4 : ¬ 3000 ≤ rM r := (by omega)
        refine lv_iload_n hx hb dX6_thing_19 rfl (lv_at hl 3 rfl) ?_
        refine lv_iconst (v := 2) hx hb dX6_thing_20 (by decide) ?_
        refine lv_icmp_ge (tgt := 37) hx hb dX6_thing_21 (by decide) (fun h => absurd h (by decide)) (fun _ => ?_)
        refine lv_aload_n hx hb dX6_thing_24 rfl (lv_at hl 0 rfl) ?_
        refine m_get F hK hR 6 (by decide) rfl kw_fieldLink_RX6_122 dX6_thing_25 ?_
        refine lv_sipush (v := 3000) hx hb dX6_thing_28 (by decide) ?_
        refine lv_icmp_lt (tgt := 37) hx hb dX6_thing_31 (by decide) (fun h_31 => ?_) (fun h_31 => by exfalso; have h_31 : 3000 ≤ (rM r) := nInlt (show ¬ nI (rM r) < nI 3000 from h_31) (by omega) (by omega); omega)
        have h_31 : (rM r) < 3000 := nIlt (show nI (rM r) < nI 3000 from h_31) (by omega) (by omega)
        refine lv_iload_n hx hb dX6_thing_37 rfl (lv_at hl 3 rfl) ?_
        refine lv_iconst (v := 2) hx hb dX6_thing_38 (by decide) ?_
        refine lv_icmp_ge (tgt := 82) hx hb dX6_thing_39 (by decide) (fun h => absurd h (by decide)) (fun _ => ?_)
        refine lv_aload_n hx hb dX6_thing_42 rfl (lv_at hl 0 rfl) ?_
        refine lv_dup hx hb dX6_thing_43 rfl ?_
        refine m_get F hK hR 6 (by decide) rfl kw_fieldLink_RX6_122 dX6_thing_44 ?_
        refine lv_iconst (v := 1) hx hb dX6_thing_47 (by decide) ?_
        refine lv_iadd hx hb dX6_thing_48 ?_
        refine px_topi (y := nI ((rM r) + 1)) (nI_add _ _) ?_
        refine m_put F hK hR hS 6 (by decide) (v := nI ((rM r) + 1)) rfl (sM r ((rM r) + 1)) rfl kw_fieldLink_RX6_122 rfl rfl dX6_thing_49 (fun H locs hR hS => ?_)
        refine lv_aload_n hx hb dX6_thing_52 rfl (lv_at hl 0 rfl) ?_
        refine m_get F hK hR 7 (by decide) rfl kw_fieldLink_RX6_24 dX6_thing_53 ?_
        refine lv_aload_n hx hb dX6_thing_56 rfl (lv_at hl 0 rfl) ?_
        refine m_get F hK hR 6 (by decide) rfl kw_fieldLink_RX6_122 dX6_thing_57 ?_
        refine lv_iload hx hb dX6_thing_60 (lv_at hl 4 rfl) ?_
        refine m_stTN F hK hR hS ((rM r) + 1) nu rfl rfl (by omega) dX6_thing_62 (fun H locs hR hS => ?_)
        refine lv_aload_n hx hb dX6_thing_63 rfl (lv_at hl 0 rfl) ?_
        refine m_get F hK hR 8 (by decide) rfl kw_fieldLink_RX6_27 dX6_thing_64 ?_
        refine lv_aload_n hx hb dX6_thing_67 rfl (lv_at hl 0 rfl) ?_
        refine m_get F hK hR 6 (by decide) rfl kw_fieldLink_RX6_122 dX6_thing_68 ?_
        refine lv_iload_n hx hb dX6_thing_71 rfl (lv_at hl 3 rfl) ?_
        refine lv_iconst (v := 1) hx hb dX6_thing_72 (by decide) ?_
        refine lv_icmp_ne (tgt := 80) hx hb dX6_thing_73 (by decide) (fun h => absurd h (by decide)) (fun _ => ?_)
        refine lv_iconst (v := 1) hx hb dX6_thing_76 (by decide) ?_
        refine lv_goto (tgt := 81) hx hb dX6_thing_77 (by decide) ?_
        refine m_stIM F hK hR hS ((rM r) + 1) true rfl rfl (by omega) dX6_thing_81 (fun H locs hR hS => ?_)
        refine lv_aload_n hx hb dX6_thing_82 rfl (lv_at hl 0 rfl) ?_
        refine m_get F hK hR 9 (by decide) rfl kw_fieldLink_RX6_31 dX6_thing_83 ?_
        refine lv_iload_n hx hb dX6_thing_86 rfl (lv_at hl 1 rfl) ?_
        refine m_ldHd F hK hR cn rfl (by omega) dX6_thing_87 ?_
        refine lv_istore (lv' := [(5, .int (nI (rHd r cn))), (0, .ref (G 0)), (1, .int (nI cn)), (2, .int i), (3, .int 1), (4, .int nu)]) hx hb dX6_thing_88 hl (by decide) rfl (fun ls hl => ?_)
        refine lv_aload_n hx hb dX6_thing_90 rfl (lv_at hl 1 rfl) ?_
        refine lv_iload hx hb dX6_thing_91 (lv_at hl 0 rfl) ?_
        refine lv_bipush (v := 8) hx hb dX6_thing_93 (by decide) ?_
        refine px_goV (st1 := [.int (b2i (f_isOf r (rHd r cn) 8))]) (px_callV F hK (c_X6_isOf l D cy A G (sIM (sTN (sM r ((rM r) + 1)) (va_up (rTN r) ((rM r) + 1) nu)) (va_up (rIM r) ((rM r) + 1) true)) _ _ _ (rHd r cn) 8 (by omega) (by omega) (show rK r (rHd r cn) < 100 by omega)) kc_X6_isOf kw_methodLink_RX6_90 rfl hR (m_recv hK hR) rfl ⟨rfl, rfl⟩ ⟨Nat.le_of_ble_eq_true rfl, Nat.le_of_ble_eq_true rfl⟩ hl.1 rfl (Nat.le_of_ble_eq_true rfl) dX6_thing_95 ⟨Nat.zero_le _, Nat.zero_le _⟩) rfl ?_
        refine x_ifeq_b (tgt := 111) hx hb dX6_thing_98 (by decide) (fun h_98 => ?_) (fun h_98 => ?_)
        · refine lv_iconst (v := 2) hx hb dX6_thing_111 (by decide) ?_
          refine lv_istore (lv' := [(6, .int 2), (5, .int (nI (rHd r cn))), (0, .ref (G 0)), (1, .int (nI cn)), (2, .int i), (3, .int 1), (4, .int nu)]) hx hb dX6_thing_112 hl (by decide) rfl (fun ls hl => ?_)
          refine lv_iload hx hb dX6_thing_114 (lv_at hl 0 rfl) ?_
          refine lv_if_ne (tgt := 139) hx hb dX6_thing_116 (by decide) (fun _ => ?_) (fun h => absurd h (by decide))
          refine lv_iload hx hb dX6_thing_139 (lv_at hl 0 rfl) ?_
          refine lv_istore (lv' := [(6, .int 2), (5, .int (nI (rHd r cn))), (0, .ref (G 0)), (1, .int (nI cn)), (2, .int i), (3, .int 1), (4, .int nu)]) hx hb dX6_thing_141 hl (by decide) rfl (fun ls hl => ?_)
          refine lv_iload hx hb dX6_thing_143 (lv_at hl 0 rfl) ?_
          refine lv_if_eq (tgt := 154) hx hb dX6_thing_145 (by decide) (fun h => absurd h (by decide)) (fun _ => ?_)
          refine lv_iload hx hb dX6_thing_148 (lv_at hl 0 rfl) ?_
          refine px_goV (st1 := [.int (-12)]) (px_callS F hK (c_X6_answer l D cy _ 2) kc_X6_answer kw_methodLink_RX6_65 rfl trivial rfl ⟨rfl, rfl⟩ ⟨Nat.le_of_ble_eq_true rfl, Nat.le_of_ble_eq_true rfl⟩ hl.1 rfl (Nat.le_of_ble_eq_true rfl) dX6_thing_150 ⟨Nat.zero_le _, Nat.zero_le _⟩) rfl ?_
          exact px_iret F hr hlocks hS (by have e : f_thing r (nI cn) i (nI 1) nu = (sIM (sTN (sM r ((rM r) + 1)) (va_up (rTN r) ((rM r) + 1) nu)) (va_up (rIM r) ((rM r) + 1) true), (-12)) := (by simp [f_thing, f_no, f_thno, f_newT, h_4, h_13, q1, q2, q3, q4, h_31, h_98, ix_nI (show cn < 2 ^ 31 by omega)] <;> rfl); rw [e]; exact ⟨rfl, _, _, hR⟩) dX6_thing_153
        · refine lv_aload_n hx hb dX6_thing_101 rfl (lv_at hl 1 rfl) ?_
          refine lv_iload hx hb dX6_thing_102 (lv_at hl 0 rfl) ?_
          refine lv_iload_n hx hb dX6_thing_104 rfl (lv_at hl 3 rfl) ?_
          refine px_goV (st1 := [.int (nI (f_looked r (rHd r cn) i))]) (px_callV F hK (c_X6_looked l D cy A G (sIM (sTN (sM r ((rM r) + 1)) (va_up (rTN r) ((rM r) + 1) nu)) (va_up (rIM r) ((rM r) + 1) true)) _ _ _ (rHd r cn) i (by omega)) kc_X6_looked kw_methodLink_RX6_108 rfl hR (m_recv hK hR) rfl ⟨rfl, rfl⟩ ⟨Nat.le_of_ble_eq_true rfl, Nat.le_of_ble_eq_true rfl⟩ hl.1 rfl (Nat.le_of_ble_eq_true rfl) dX6_thing_105 ⟨Nat.zero_le _, Nat.zero_le _⟩) rfl ?_
          refine lv_goto (tgt := 112) hx hb dX6_thing_108 (by decide) ?_
          refine lv_istore (lv' := [(6, .int (nI (f_looked r (rHd r cn) i))), (5, .int (nI (rHd r cn))), (0, .ref (G 0)), (1, .int (nI cn)), (2, .int i), (3, .int 1), (4, .int nu)]) hx hb dX6_thing_112 hl (by decide) rfl (fun ls hl => ?_)
          refine lv_iload hx hb dX6_thing_114 (lv_at hl 0 rfl) ?_
          refine lv_if_ne (tgt := 139) hx hb dX6_thing_116 (by decide) (fun h_116 => ?_) (fun h_116 => ?_)
          · have h_116 : ¬ (f_looked r (rHd r cn) i) = 0 := nIne (show ¬ nI (f_looked r (rHd r cn) i) = nI 0 from h_116)
            refine lv_iload hx hb dX6_thing_139 (lv_at hl 0 rfl) ?_
            refine lv_istore (lv' := [(6, .int (nI (f_looked r (rHd r cn) i))), (5, .int (nI (rHd r cn))), (0, .ref (G 0)), (1, .int (nI cn)), (2, .int i), (3, .int 1), (4, .int nu)]) hx hb dX6_thing_141 hl (by decide) rfl (fun ls hl => ?_)
            refine lv_iload hx hb dX6_thing_143 (lv_at hl 0 rfl) ?_
            refine lv_if_eq (tgt := 154) hx hb dX6_thing_145 (by decide) (fun h_145 => by exfalso; have h_145 : (f_looked r (rHd r cn) i) = 0 := nIeq (show nI (f_looked r (rHd r cn) i) = nI 0 from h_145) (by omega) (by omega); omega) (fun h_145 => ?_)
            have h_145 : ¬ (f_looked r (rHd r cn) i) = 0 := nIne (show ¬ nI (f_looked r (rHd r cn) i) = nI 0 from h_145)
            refine lv_iload hx hb dX6_thing_148 (lv_at hl 0 rfl) ?_
            refine px_goV (st1 := [.int (-10 - (nI (f_looked r (rHd r cn) i)))]) (px_callS F hK (c_X6_answer l D cy _ (nI (f_looked r (rHd r cn) i))) kc_X6_answer kw_methodLink_RX6_65 rfl trivial rfl ⟨rfl, rfl⟩ ⟨Nat.le_of_ble_eq_true rfl, Nat.le_of_ble_eq_true rfl⟩ hl.1 rfl (Nat.le_of_ble_eq_true rfl) dX6_thing_150 ⟨Nat.zero_le _, Nat.zero_le _⟩) rfl ?_
            exact px_iret F hr hlocks hS (by have e : f_thing r (nI cn) i (nI 1) nu = (sIM (sTN (sM r ((rM r) + 1)) (va_up (rTN r) ((rM r) + 1) nu)) (va_up (rIM r) ((rM r) + 1) true), -10 - (nI (f_looked r (rHd r cn) i))) := (by simp [f_thing, f_no, f_thno, f_newT, h_4, h_13, q1, q2, q3, q4, h_31, h_98, h_116, h_145, ix_nI (show cn < 2 ^ 31 by omega)] <;> rfl); rw [e]; exact ⟨rfl, _, _, hR⟩) dX6_thing_153
          · have h_116 : (f_looked r (rHd r cn) i) = 0 := nIeq (show nI (f_looked r (rHd r cn) i) = nI 0 from h_116) (by omega) (by omega)
            refine lv_iload_n hx hb dX6_thing_119 rfl (lv_at hl 5 rfl) ?_
            refine lv_if_ne (tgt := 139) hx hb dX6_thing_120 (by decide) (fun _ => ?_) (fun h => absurd h (by decide))
            refine lv_iload hx hb dX6_thing_139 (lv_at hl 0 rfl) ?_
            refine lv_istore (lv' := [(6, .int (nI (f_looked r (rHd r cn) i))), (5, .int (nI (rHd r cn))), (0, .ref (G 0)), (1, .int (nI cn)), (2, .int i), (3, .int 1), (4, .int nu)]) hx hb dX6_thing_141 hl (by decide) rfl (fun ls hl => ?_)
            refine lv_iload hx hb dX6_thing_143 (lv_at hl 0 rfl) ?_
            refine lv_if_eq (tgt := 154) hx hb dX6_thing_145 (by decide) (fun h_145 => ?_) (fun h_145 => by exfalso; have h_145 : ¬ (f_looked r (rHd r cn) i) = 0 := nIne (show ¬ nI (f_looked r (rHd r cn) i) = nI 0 from h_145); omega)
            have h_145 : (f_looked r (rHd r cn) i) = 0 := nIeq (show nI (f_looked r (rHd r cn) i) = nI 0 from h_145) (by omega) (by omega)
            obtain ⟨ht0_j, j, hj_j, rfl⟩ := looked_0 h_145 (by omega)
            refine lv_aload_n hx hb dX6_thing_154 rfl (lv_at hl 2 rfl) ?_
            refine lv_iload hx hb dX6_thing_155 (lv_at hl 1 rfl) ?_
            refine lv_iload_n hx hb dX6_thing_157 rfl (lv_at hl 4 rfl) ?_
            refine lv_iload_n hx hb dX6_thing_158 rfl (lv_at hl 5 rfl) ?_
            refine lv_iconst (v := 2) hx hb dX6_thing_159 (by decide) ?_
            refine lv_icmp_ne (tgt := 167) hx hb dX6_thing_160 (by decide) (fun _ => ?_) (fun h => absurd h (by decide))
            refine lv_aload_n hx hb dX6_thing_167 rfl (lv_at hl 2 rfl) ?_
            refine m_get F hK hR 6 (by decide) rfl kw_fieldLink_RX6_122 dX6_thing_168 ?_
            refine lv_i2l (v := lN ((rM r) + 1)) hx hb dX6_thing_171 (nI_l (n := ((rM r) + 1)) (by omega)) ?_
            refine px_goMx (st1 := []) (px_callV F hK (c_X6_put l D cy A G (sIM (sTN (sM r ((rM r) + 1)) (va_up (rTN r) ((rM r) + 1) nu)) (va_up (rIM r) ((rM r) + 1) true)) _ _ _ (rHd r cn) j (lN ((rM r) + 1)) (by omega) (show rS r (rHd r cn) + j < 12200 by omega)) kc_X6_put kw_methodLink_RX6_76 rfl hR (m_recv hK hR) rfl ⟨rfl, rfl⟩ ⟨Nat.le_of_ble_eq_true rfl, Nat.le_of_ble_eq_true rfl⟩ hl.1 rfl (Nat.le_of_ble_eq_true rfl) dX6_thing_172 ⟨Nat.zero_le _, Nat.zero_le _⟩) hS rfl (fun H locs hR hS => ?_)
            refine lv_iconst (v := 1) hx hb dX6_thing_175 (by decide) ?_
            exact px_iret F hr hlocks hS (by have e : f_thing r (nI cn) (nI j) (nI 1) nu = (f_put (sIM (sTN (sM r ((rM r) + 1)) (va_up (rTN r) ((rM r) + 1) nu)) (va_up (rIM r) ((rM r) + 1) true)) (rHd r cn) j (lN ((rM r) + 1)), 1) := (by simp [f_thing, f_no, f_thno, f_newT, h_4, h_13, q1, q2, q3, q4, h_31, h_98, h_116, h_145, ix_nI (show cn < 2 ^ 31 by omega), ix_nI (show j < 2 ^ 31 by omega)] <;> rfl); rw [e]; exact ⟨rfl, _, _, hR⟩) dX6_thing_176
      · have q1 : (nI 2 < (2 : Int32)) = False := eq_false (by decide)
        have q2 : (nI 2 = (0 : Int32)) = False := eq_false (by decide)
        have q3 : (nI 2 = (1 : Int32)) = False := eq_false (by decide)
        have q4 : ¬ 3000 ≤ rM r := (by omega)
        refine lv_iload_n hx hb dX6_thing_19 rfl (lv_at hl 3 rfl) ?_
        refine lv_iconst (v := 2) hx hb dX6_thing_20 (by decide) ?_
        refine lv_icmp_ge (tgt := 37) hx hb dX6_thing_21 (by decide) (fun _ => ?_) (fun h => absurd h (by decide))
        refine lv_iload_n hx hb dX6_thing_37 rfl (lv_at hl 3 rfl) ?_
        refine lv_iconst (v := 2) hx hb dX6_thing_38 (by decide) ?_
        refine lv_icmp_ge (tgt := 82) hx hb dX6_thing_39 (by decide) (fun _ => ?_) (fun h => absurd h (by decide))
        refine lv_aload_n hx hb dX6_thing_82 rfl (lv_at hl 0 rfl) ?_
        refine m_get F hK hR 9 (by decide) rfl kw_fieldLink_RX6_31 dX6_thing_83 ?_
        refine lv_iload_n hx hb dX6_thing_86 rfl (lv_at hl 1 rfl) ?_
        refine m_ldHd F hK hR cn rfl (by omega) dX6_thing_87 ?_
        refine lv_istore (lv' := [(5, .int (nI (rHd r cn))), (0, .ref (G 0)), (1, .int (nI cn)), (2, .int i), (3, .int 2), (4, .int nu)]) hx hb dX6_thing_88 hl (by decide) rfl (fun ls hl => ?_)
        refine lv_aload_n hx hb dX6_thing_90 rfl (lv_at hl 1 rfl) ?_
        refine lv_iload hx hb dX6_thing_91 (lv_at hl 0 rfl) ?_
        refine lv_bipush (v := 8) hx hb dX6_thing_93 (by decide) ?_
        refine px_goV (st1 := [.int (b2i (f_isOf r (rHd r cn) 8))]) (px_callV F hK (c_X6_isOf l D cy A G r _ _ _ (rHd r cn) 8 (by omega) (by omega) (show rK r (rHd r cn) < 100 by omega)) kc_X6_isOf kw_methodLink_RX6_90 rfl hR (m_recv hK hR) rfl ⟨rfl, rfl⟩ ⟨Nat.le_of_ble_eq_true rfl, Nat.le_of_ble_eq_true rfl⟩ hl.1 rfl (Nat.le_of_ble_eq_true rfl) dX6_thing_95 ⟨Nat.zero_le _, Nat.zero_le _⟩) rfl ?_
        refine x_ifeq_b (tgt := 111) hx hb dX6_thing_98 (by decide) (fun h_98 => ?_) (fun h_98 => ?_)
        · refine lv_iconst (v := 2) hx hb dX6_thing_111 (by decide) ?_
          refine lv_istore (lv' := [(6, .int 2), (5, .int (nI (rHd r cn))), (0, .ref (G 0)), (1, .int (nI cn)), (2, .int i), (3, .int 2), (4, .int nu)]) hx hb dX6_thing_112 hl (by decide) rfl (fun ls hl => ?_)
          refine lv_iload hx hb dX6_thing_114 (lv_at hl 0 rfl) ?_
          refine lv_if_ne (tgt := 139) hx hb dX6_thing_116 (by decide) (fun _ => ?_) (fun h => absurd h (by decide))
          refine lv_iload hx hb dX6_thing_139 (lv_at hl 0 rfl) ?_
          refine lv_istore (lv' := [(6, .int 2), (5, .int (nI (rHd r cn))), (0, .ref (G 0)), (1, .int (nI cn)), (2, .int i), (3, .int 2), (4, .int nu)]) hx hb dX6_thing_141 hl (by decide) rfl (fun ls hl => ?_)
          refine lv_iload hx hb dX6_thing_143 (lv_at hl 0 rfl) ?_
          refine lv_if_eq (tgt := 154) hx hb dX6_thing_145 (by decide) (fun h => absurd h (by decide)) (fun _ => ?_)
          refine lv_iload hx hb dX6_thing_148 (lv_at hl 0 rfl) ?_
          refine px_goV (st1 := [.int (-12)]) (px_callS F hK (c_X6_answer l D cy _ 2) kc_X6_answer kw_methodLink_RX6_65 rfl trivial rfl ⟨rfl, rfl⟩ ⟨Nat.le_of_ble_eq_true rfl, Nat.le_of_ble_eq_true rfl⟩ hl.1 rfl (Nat.le_of_ble_eq_true rfl) dX6_thing_150 ⟨Nat.zero_le _, Nat.zero_le _⟩) rfl ?_
          exact px_iret F hr hlocks hS (by have e : f_thing r (nI cn) i (nI 2) nu = (r, (-12)) := (by simp [f_thing, f_no, f_thno, f_newT, h_4, h_13, q1, q2, q3, q4, h_98, ix_nI (show cn < 2 ^ 31 by omega)] <;> rfl); rw [e]; exact ⟨rfl, _, _, hR⟩) dX6_thing_153
        · refine lv_aload_n hx hb dX6_thing_101 rfl (lv_at hl 1 rfl) ?_
          refine lv_iload hx hb dX6_thing_102 (lv_at hl 0 rfl) ?_
          refine lv_iload_n hx hb dX6_thing_104 rfl (lv_at hl 3 rfl) ?_
          refine px_goV (st1 := [.int (nI (f_looked r (rHd r cn) i))]) (px_callV F hK (c_X6_looked l D cy A G r _ _ _ (rHd r cn) i (by omega)) kc_X6_looked kw_methodLink_RX6_108 rfl hR (m_recv hK hR) rfl ⟨rfl, rfl⟩ ⟨Nat.le_of_ble_eq_true rfl, Nat.le_of_ble_eq_true rfl⟩ hl.1 rfl (Nat.le_of_ble_eq_true rfl) dX6_thing_105 ⟨Nat.zero_le _, Nat.zero_le _⟩) rfl ?_
          refine lv_goto (tgt := 112) hx hb dX6_thing_108 (by decide) ?_
          refine lv_istore (lv' := [(6, .int (nI (f_looked r (rHd r cn) i))), (5, .int (nI (rHd r cn))), (0, .ref (G 0)), (1, .int (nI cn)), (2, .int i), (3, .int 2), (4, .int nu)]) hx hb dX6_thing_112 hl (by decide) rfl (fun ls hl => ?_)
          refine lv_iload hx hb dX6_thing_114 (lv_at hl 0 rfl) ?_
          refine lv_if_ne (tgt := 139) hx hb dX6_thing_116 (by decide) (fun h_116 => ?_) (fun h_116 => ?_)
          · have h_116 : ¬ (f_looked r (rHd r cn) i) = 0 := nIne (show ¬ nI (f_looked r (rHd r cn) i) = nI 0 from h_116)
            refine lv_iload hx hb dX6_thing_139 (lv_at hl 0 rfl) ?_
            refine lv_istore (lv' := [(6, .int (nI (f_looked r (rHd r cn) i))), (5, .int (nI (rHd r cn))), (0, .ref (G 0)), (1, .int (nI cn)), (2, .int i), (3, .int 2), (4, .int nu)]) hx hb dX6_thing_141 hl (by decide) rfl (fun ls hl => ?_)
            refine lv_iload hx hb dX6_thing_143 (lv_at hl 0 rfl) ?_
            refine lv_if_eq (tgt := 154) hx hb dX6_thing_145 (by decide) (fun h_145 => by exfalso; have h_145 : (f_looked r (rHd r cn) i) = 0 := nIeq (show nI (f_looked r (rHd r cn) i) = nI 0 from h_145) (by omega) (by omega); omega) (fun h_145 => ?_)
            have h_145 : ¬ (f_looked r (rHd r cn) i) = 0 := nIne (show ¬ nI (f_looked r (rHd r cn) i) = nI 0 from h_145)
            refine lv_iload hx hb dX6_thing_148 (lv_at hl 0 rfl) ?_
            refine px_goV (st1 := [.int (-10 - (nI (f_looked r (rHd r cn) i)))]) (px_callS F hK (c_X6_answer l D cy _ (nI (f_looked r (rHd r cn) i))) kc_X6_answer kw_methodLink_RX6_65 rfl trivial rfl ⟨rfl, rfl⟩ ⟨Nat.le_of_ble_eq_true rfl, Nat.le_of_ble_eq_true rfl⟩ hl.1 rfl (Nat.le_of_ble_eq_true rfl) dX6_thing_150 ⟨Nat.zero_le _, Nat.zero_le _⟩) rfl ?_
            exact px_iret F hr hlocks hS (by have e : f_thing r (nI cn) i (nI 2) nu = (r, -10 - (nI (f_looked r (rHd r cn) i))) := (by simp [f_thing, f_no, f_thno, f_newT, h_4, h_13, q1, q2, q3, q4, h_98, h_116, h_145, ix_nI (show cn < 2 ^ 31 by omega)] <;> rfl); rw [e]; exact ⟨rfl, _, _, hR⟩) dX6_thing_153
          · have h_116 : (f_looked r (rHd r cn) i) = 0 := nIeq (show nI (f_looked r (rHd r cn) i) = nI 0 from h_116) (by omega) (by omega)
            refine lv_iload_n hx hb dX6_thing_119 rfl (lv_at hl 5 rfl) ?_
            refine lv_if_ne (tgt := 139) hx hb dX6_thing_120 (by decide) (fun _ => ?_) (fun h => absurd h (by decide))
            refine lv_iload hx hb dX6_thing_139 (lv_at hl 0 rfl) ?_
            refine lv_istore (lv' := [(6, .int (nI (f_looked r (rHd r cn) i))), (5, .int (nI (rHd r cn))), (0, .ref (G 0)), (1, .int (nI cn)), (2, .int i), (3, .int 2), (4, .int nu)]) hx hb dX6_thing_141 hl (by decide) rfl (fun ls hl => ?_)
            refine lv_iload hx hb dX6_thing_143 (lv_at hl 0 rfl) ?_
            refine lv_if_eq (tgt := 154) hx hb dX6_thing_145 (by decide) (fun h_145 => ?_) (fun h_145 => by exfalso; have h_145 : ¬ (f_looked r (rHd r cn) i) = 0 := nIne (show ¬ nI (f_looked r (rHd r cn) i) = nI 0 from h_145); omega)
            have h_145 : (f_looked r (rHd r cn) i) = 0 := nIeq (show nI (f_looked r (rHd r cn) i) = nI 0 from h_145) (by omega) (by omega)
            obtain ⟨ht0_j, j, hj_j, rfl⟩ := looked_0 h_145 (by omega)
            refine lv_aload_n hx hb dX6_thing_154 rfl (lv_at hl 2 rfl) ?_
            refine lv_iload hx hb dX6_thing_155 (lv_at hl 1 rfl) ?_
            refine lv_iload_n hx hb dX6_thing_157 rfl (lv_at hl 4 rfl) ?_
            refine lv_iload_n hx hb dX6_thing_158 rfl (lv_at hl 5 rfl) ?_
            refine lv_iconst (v := 2) hx hb dX6_thing_159 (by decide) ?_
            refine lv_icmp_ne (tgt := 167) hx hb dX6_thing_160 (by decide) (fun h => absurd h (by decide)) (fun _ => ?_)
            refine lv_lconst (v := 0) hx hb dX6_thing_163 (by decide) ?_
            refine lv_goto (tgt := 172) hx hb dX6_thing_164 (by decide) ?_
            refine px_goMx (st1 := []) (px_callV F hK (c_X6_put l D cy A G r _ _ _ (rHd r cn) j 0 (by omega) (show rS r (rHd r cn) + j < 12200 by omega)) kc_X6_put kw_methodLink_RX6_76 rfl hR (m_recv hK hR) rfl ⟨rfl, rfl⟩ ⟨Nat.le_of_ble_eq_true rfl, Nat.le_of_ble_eq_true rfl⟩ hl.1 rfl (Nat.le_of_ble_eq_true rfl) dX6_thing_172 ⟨Nat.zero_le _, Nat.zero_le _⟩) hS rfl (fun H locs hR hS => ?_)
            refine lv_iconst (v := 1) hx hb dX6_thing_175 (by decide) ?_
            exact px_iret F hr hlocks hS (by have e : f_thing r (nI cn) (nI j) (nI 2) nu = (f_put r (rHd r cn) j 0, 1) := (by simp [f_thing, f_no, f_thno, f_newT, h_4, h_13, q1, q2, q3, q4, h_98, h_116, h_145, ix_nI (show cn < 2 ^ 31 by omega), ix_nI (show j < 2 ^ 31 by omega)] <;> rfl); rw [e]; exact ⟨rfl, _, _, hR⟩) dX6_thing_176
    · refine lv_bipush (v := -2) hx hb dX6_thing_16 (by decide) ?_
      exact px_iret F hr hlocks hS (by have e : f_thing r cl i mk nu = (r, (-2)) := (by simp [f_thing, f_no, f_thno, f_newT, h_4, h_13] <;> rfl); rw [e]; exact ⟨rfl, _, _, hR⟩) dX6_thing_18
set_option maxHeartbeats 400000 in
set_option maxRecDepth 100000 in
theorem c_X6_areThingsLike (l : Launch) (D : va_G) (cy : Nat → ClassId) (A : Nat → Prop) (G : Nat → Nat) (r : RS) (C : Nat → Nat) (E : Nat → Int64) (sz : Nat) (x y : Nat) (hx1 : x < 3100) (hy1 : y < 3100) : Met l yX6_areThingsLike (px_w yX6_areThingsLike cX6_areThingsLike 3 (some .boolean)) (rmd 1 0 0) (px_P D cy [.ref (G 0), .int (nI x), .int (nI y)] sz (MR D cy A G r C E)) (px_V (some (.int (b2i (f_thl r x y))))) 0 0 (fun _ => False) := by
  refine px_met (by decide) (Nat.le_of_ble_eq_true rfl) ?_
  intro p e s m below meth c F hr hlocks hnm hK hsz hR ls hl
  have hx := F.1
  have hb := F.2.1
  have hl : lv_has ls 3 [(0, .ref (G 0)), (1, .int (nI x)), (2, .int (nI y))] := hl
  refine lv_iload_n hx hb dX6_areThingsLike_0 rfl (lv_at hl 1 rfl) ?_
  refine lv_iload_n hx hb dX6_areThingsLike_1 rfl (lv_at hl 2 rfl) ?_
  refine lv_icmp_eq (tgt := 43) hx hb dX6_areThingsLike_2 (by decide) (fun h_2 => ?_) (fun h_2 => ?_)
  · have h_2 : x = y := nIeq (show nI x = nI y from h_2) (by omega) (by omega)
    refine lv_iconst (v := 1) hx hb dX6_areThingsLike_43 (by decide) ?_
    refine lv_goto (tgt := 48) hx hb dX6_areThingsLike_44 (by decide) ?_
    exact pv_zret F hr hlocks (Or.inr rfl) (by simp [f_thl, b2i, h_2] <;> omega) dX6_areThingsLike_48
  · have h_2 : ¬ x = y := nIne (show ¬ nI x = nI y from h_2)
    refine lv_iload_n hx hb dX6_areThingsLike_5 rfl (lv_at hl 1 rfl) ?_
    refine lv_if_eq (tgt := 47) hx hb dX6_areThingsLike_6 (by decide) (fun h_6 => ?_) (fun h_6 => ?_)
    · have h_6 : x = 0 := nIeq (show nI x = nI 0 from h_6) (by omega) (by omega)
      refine lv_iconst (v := 0) hx hb dX6_areThingsLike_47 (by decide) ?_
      exact pv_zret F hr hlocks (Or.inl rfl) (by simp [f_thl, b2i, h_2, h_6] <;> omega) dX6_areThingsLike_48
    · have h_6 : ¬ x = 0 := nIne (show ¬ nI x = nI 0 from h_6)
      refine lv_iload_n hx hb dX6_areThingsLike_9 rfl (lv_at hl 2 rfl) ?_
      refine lv_if_eq (tgt := 47) hx hb dX6_areThingsLike_10 (by decide) (fun h_10 => ?_) (fun h_10 => ?_)
      · have h_10 : y = 0 := nIeq (show nI y = nI 0 from h_10) (by omega) (by omega)
        refine lv_iconst (v := 0) hx hb dX6_areThingsLike_47 (by decide) ?_
        exact pv_zret F hr hlocks (Or.inl rfl) (by simp [f_thl, b2i, h_2, h_6, h_10] <;> omega) dX6_areThingsLike_48
      · have h_10 : ¬ y = 0 := nIne (show ¬ nI y = nI 0 from h_10)
        refine lv_aload_n hx hb dX6_areThingsLike_13 rfl (lv_at hl 0 rfl) ?_
        refine m_get F hK hR 7 (by decide) rfl kw_fieldLink_RX6_24 dX6_areThingsLike_14 ?_
        refine lv_iload_n hx hb dX6_areThingsLike_17 rfl (lv_at hl 1 rfl) ?_
        refine m_ldTN F hK hR x rfl (by omega) dX6_areThingsLike_18 ?_
        refine lv_aload_n hx hb dX6_areThingsLike_19 rfl (lv_at hl 0 rfl) ?_
        refine m_get F hK hR 7 (by decide) rfl kw_fieldLink_RX6_24 dX6_areThingsLike_20 ?_
        refine lv_iload_n hx hb dX6_areThingsLike_23 rfl (lv_at hl 2 rfl) ?_
        refine m_ldTN F hK hR y rfl (by omega) dX6_areThingsLike_24 ?_
        refine lv_icmp_ne (tgt := 47) hx hb dX6_areThingsLike_25 (by decide) (fun h_25 => ?_) (fun h_25 => ?_)
        · have h_25 : ¬ (rTN r x) = (rTN r y) := h_25
          refine lv_iconst (v := 0) hx hb dX6_areThingsLike_47 (by decide) ?_
          exact pv_zret F hr hlocks (Or.inl rfl) (by simp [f_thl, b2i, h_2, h_6, h_10, h_25] <;> omega) dX6_areThingsLike_48
        · have h_25 : (rTN r x) = (rTN r y) := h_25
          refine lv_aload_n hx hb dX6_areThingsLike_28 rfl (lv_at hl 0 rfl) ?_
          refine m_get F hK hR 8 (by decide) rfl kw_fieldLink_RX6_27 dX6_areThingsLike_29 ?_
          refine lv_iload_n hx hb dX6_areThingsLike_32 rfl (lv_at hl 1 rfl) ?_
          refine m_ldIM F hK hR x rfl (by omega) dX6_areThingsLike_33 ?_
          refine lv_aload_n hx hb dX6_areThingsLike_34 rfl (lv_at hl 0 rfl) ?_
          refine m_get F hK hR 8 (by decide) rfl kw_fieldLink_RX6_27 dX6_areThingsLike_35 ?_
          refine lv_iload_n hx hb dX6_areThingsLike_38 rfl (lv_at hl 2 rfl) ?_
          refine m_ldIM F hK hR y rfl (by omega) dX6_areThingsLike_39 ?_
          refine lv_icmp_ne (tgt := 47) hx hb dX6_areThingsLike_40 (by decide) (fun h_40 => ?_) (fun h_40 => ?_)
          · have h_40 : ¬ rIM r x = rIM r y := b2i_ninj h_40
            refine lv_iconst (v := 0) hx hb dX6_areThingsLike_47 (by decide) ?_
            exact pv_zret F hr hlocks (Or.inl rfl) (by simp [f_thl, b2i, h_2, h_6, h_10, h_25, h_40] <;> omega) dX6_areThingsLike_48
          · have h_40 : rIM r x = rIM r y := b2i_inj h_40
            refine lv_iconst (v := 1) hx hb dX6_areThingsLike_43 (by decide) ?_
            refine lv_goto (tgt := 48) hx hb dX6_areThingsLike_44 (by decide) ?_
            exact pv_zret F hr hlocks (Or.inr rfl) (by simp [f_thl, b2i, h_2, h_6, h_10, h_25, h_40] <;> omega) dX6_areThingsLike_48
set_option maxHeartbeats 400000 in
set_option maxRecDepth 100000 in
theorem c_X6_canStand (l : Launch) (D : va_G) (cy : Nat → ClassId) (A : Nat → Prop) (G : Nat → Nat) (r : RS) (C : Nat → Nat) (E : Nat → Int64) (sz : Nat) (a b : Nat) (v : Int64) (ha : a < 13000) (hb1 : b < 13000) (hKa : rK r a < 100) (hKb : rK r b < 100) (hv : 8 ≤ rK r b → v = lN (iv v) ∧ iv v < 13000 ∧ (rK r a < 10 → iv v < 3100) ∧ (10 ≤ rK r a → rK r (iv v) < 100)) : Met l yX6_canStand (px_w yX6_canStand cX6_canStand 6 (some .boolean)) (rmd 3 0 0) (px_P D cy [.ref (G 0), .int (nI a), .long v, .int (nI b)] sz (MR D cy A G r C E)) (px_V (some (.int (b2i (f_canStand r a v b))))) 0 0 (fun _ => False) := by
  refine px_met (by decide) (Nat.le_of_ble_eq_true rfl) ?_
  intro p e s m below meth c F hr hlocks hnm hK hsz hR ls hl
  have hx := F.1
  have hb := F.2.1
  have hl : lv_has ls 6 [(0, .ref (G 0)), (1, .int (nI a)), (2, .long v), (4, .int (nI b))] := hl
  refine lv_aload_n hx hb dX6_canStand_0 rfl (lv_at hl 0 rfl) ?_
  refine m_get F hK hR 1 (by decide) rfl kw_fieldLink_RX6_7 dX6_canStand_1 ?_
  refine lv_iload hx hb dX6_canStand_4 (lv_at hl 3 rfl) ?_
  refine m_ldK F hK hR b rfl (by omega) dX6_canStand_6 ?_
  refine lv_istore (lv' := [(5, .int (nI (rK r b))), (0, .ref (G 0)), (1, .int (nI a)), (2, .long v), (4, .int (nI b))]) hx hb dX6_canStand_7 hl (by decide) rfl (fun ls hl => ?_)
  refine lv_iload hx hb dX6_canStand_9 (lv_at hl 0 rfl) ?_
  refine lv_bipush (v := 8) hx hb dX6_canStand_11 (by decide) ?_
  refine lv_icmp_lt (tgt := 22) hx hb dX6_canStand_13 (by decide) (fun h_13 => ?_) (fun h_13 => ?_)
  · have h_13 : (rK r b) < 8 := nIlt (show nI (rK r b) < nI 8 from h_13) (by omega) (by omega)
    refine lv_iconst (v := 1) hx hb dX6_canStand_22 (by decide) ?_
    exact pv_zret F hr hlocks (Or.inr rfl) (by simp [f_canStand, b2i, show rK r b < 8 by omega]) dX6_canStand_23
  · have h_13 : 8 ≤ (rK r b) := nInlt (show ¬ nI (rK r b) < nI 8 from h_13) (by omega) (by omega)
    refine lv_lload_n hx hb dX6_canStand_16 rfl (lv_at hl 3 rfl) ?_
    refine lv_lconst (v := 0) hx hb dX6_canStand_17 (by decide) ?_
    refine W.lcmp hx hb dX6_canStand_18 ?_
    refine x_cmp_ne (tgt := 24) hx hb dX6_canStand_19 (by decide) (fun h_19 => ?_) (fun h_19 => ?_)
    · have hv1 := hv (by omega)
      refine lv_aload_n hx hb dX6_canStand_24 rfl (lv_at hl 1 rfl) ?_
      refine m_get F hK hR 1 (by decide) rfl kw_fieldLink_RX6_7 dX6_canStand_25 ?_
      refine lv_iload_n hx hb dX6_canStand_28 rfl (lv_at hl 2 rfl) ?_
      refine m_ldK F hK hR a rfl (by omega) dX6_canStand_29 ?_
      refine lv_bipush (v := 10) hx hb dX6_canStand_30 (by decide) ?_
      refine lv_icmp_ge (tgt := 65) hx hb dX6_canStand_32 (by decide) (fun h_32 => ?_) (fun h_32 => ?_)
      · have h_32 : 10 ≤ (rK r a) := nIle (show nI 10 ≤ nI (rK r a) from h_32) (by omega) (by omega)
        refine lv_iload hx hb dX6_canStand_65 (lv_at hl 0 rfl) ?_
        refine lv_bipush (v := 10) hx hb dX6_canStand_67 (by decide) ?_
        refine lv_icmp_lt (tgt := 90) hx hb dX6_canStand_69 (by decide) (fun h_69 => ?_) (fun h_69 => ?_)
        · have h_69 : (rK r b) < 10 := nIlt (show nI (rK r b) < nI 10 from h_69) (by omega) (by omega)
          refine lv_iconst (v := 0) hx hb dX6_canStand_90 (by decide) ?_
          exact pv_zret F hr hlocks (Or.inl rfl) (by simp [f_canStand, b2i, show ¬ rK r b < 8 by omega, show ¬ rK r a < 10 by omega, show ¬ 10 ≤ rK r b by omega, h_19]) dX6_canStand_91
        · have h_69 : 10 ≤ (rK r b) := nInlt (show ¬ nI (rK r b) < nI 10 from h_69) (by omega) (by omega)
          refine lv_aload_n hx hb dX6_canStand_72 rfl (lv_at hl 1 rfl) ?_
          refine lv_lload_n hx hb dX6_canStand_73 rfl (lv_at hl 3 rfl) ?_
          have hv3 := hv1.2.2.2 (by omega)
          have hrk := rkN_le (rK r b)
          refine px_topl hv1.1 ?_
          refine lv_l2i (v := nI (iv (v))) hx hb dX6_canStand_74 (lN_i _) ?_
          refine lv_iload hx hb dX6_canStand_75 (lv_at hl 0 rfl) ?_
          refine px_goV (st1 := [.int (nI (rkN (rK r b))), .int (nI (iv (v))), .ref (G 0)]) (px_callS F hK (c_X6_rowKind l D cy _ (rK r b) (by omega)) kc_X6_rowKind kw_methodLink_RX6_73 rfl trivial rfl ⟨rfl, rfl⟩ ⟨Nat.le_of_ble_eq_true rfl, Nat.le_of_ble_eq_true rfl⟩ hl.1 rfl (Nat.le_of_ble_eq_true rfl) dX6_canStand_77 ⟨Nat.zero_le _, Nat.zero_le _⟩) rfl ?_
          refine px_goV (st1 := [.int (b2i (f_isOf r (iv (v)) (rkN (rK r b))))]) (px_callV F hK (c_X6_isOf l D cy A G r _ _ _ (iv (v)) (rkN (rK r b)) (by omega) (by omega) (show rK r (iv (v)) < 100 by omega)) kc_X6_isOf kw_methodLink_RX6_90 rfl hR (m_recv hK hR) rfl ⟨rfl, rfl⟩ ⟨Nat.le_of_ble_eq_true rfl, Nat.le_of_ble_eq_true rfl⟩ hl.1 rfl (Nat.le_of_ble_eq_true rfl) dX6_canStand_80 ⟨Nat.zero_le _, Nat.zero_le _⟩) rfl ?_
          refine x_ifeq_b (tgt := 90) hx hb dX6_canStand_83 (by decide) (fun h_83 => ?_) (fun h_83 => ?_)
          · refine lv_iconst (v := 0) hx hb dX6_canStand_90 (by decide) ?_
            exact pv_zret F hr hlocks (Or.inl rfl) (by simp [f_canStand, b2i, show ¬ rK r b < 8 by omega, show ¬ rK r a < 10 by omega, show 10 ≤ rK r b by omega, h_19, h_83]) dX6_canStand_91
          · refine lv_iconst (v := 1) hx hb dX6_canStand_86 (by decide) ?_
            refine lv_goto (tgt := 91) hx hb dX6_canStand_87 (by decide) ?_
            exact pv_zret F hr hlocks (Or.inr rfl) (by simp [f_canStand, b2i, show ¬ rK r b < 8 by omega, show ¬ rK r a < 10 by omega, show 10 ≤ rK r b by omega, h_19, h_83]) dX6_canStand_91
      · have h_32 : (rK r a) < 10 := nInle (show ¬ nI 10 ≤ nI (rK r a) from h_32) (by omega) (by omega)
        refine lv_iload hx hb dX6_canStand_35 (lv_at hl 0 rfl) ?_
        refine lv_bipush (v := 8) hx hb dX6_canStand_37 (by decide) ?_
        refine lv_icmp_eq (tgt := 59) hx hb dX6_canStand_39 (by decide) (fun h_39 => ?_) (fun h_39 => ?_)
        · have h_39 : (rK r b) = 8 := nIeq (show nI (rK r b) = nI 8 from h_39) (by omega) (by omega)
          refine lv_iconst (v := 1) hx hb dX6_canStand_59 (by decide) ?_
          refine lv_goto (tgt := 64) hx hb dX6_canStand_60 (by decide) ?_
          exact pv_zret F hr hlocks (Or.inr rfl) (by simp [f_canStand, b2i, show ¬ rK r b < 8 by omega, show rK r a < 10 by omega, h_19, h_39]) dX6_canStand_64
        · have h_39 : ¬ (rK r b) = 8 := nIne (show ¬ nI (rK r b) = nI 8 from h_39)
          refine lv_iload hx hb dX6_canStand_42 (lv_at hl 0 rfl) ?_
          refine lv_bipush (v := 9) hx hb dX6_canStand_44 (by decide) ?_
          refine lv_icmp_ne (tgt := 63) hx hb dX6_canStand_46 (by decide) (fun h_46 => ?_) (fun h_46 => ?_)
          · have h_46 : ¬ (rK r b) = 9 := nIne (show ¬ nI (rK r b) = nI 9 from h_46)
            refine lv_iconst (v := 0) hx hb dX6_canStand_63 (by decide) ?_
            exact pv_zret F hr hlocks (Or.inl rfl) (by simp [f_canStand, b2i, show ¬ rK r b < 8 by omega, show rK r a < 10 by omega, h_19, h_39, h_46]) dX6_canStand_64
          · have h_46 : (rK r b) = 9 := nIeq (show nI (rK r b) = nI 9 from h_46) (by omega) (by omega)
            refine lv_aload_n hx hb dX6_canStand_49 rfl (lv_at hl 1 rfl) ?_
            refine m_get F hK hR 8 (by decide) rfl kw_fieldLink_RX6_27 dX6_canStand_50 ?_
            refine lv_lload_n hx hb dX6_canStand_53 rfl (lv_at hl 3 rfl) ?_
            have hv2 := hv1.2.2.1 (by omega)
            refine px_topl hv1.1 ?_
            refine lv_l2i (v := nI (iv (v))) hx hb dX6_canStand_54 (lN_i _) ?_
            refine m_ldIM F hK hR (iv (v)) rfl (by omega) dX6_canStand_55 ?_
            refine x_ifeq_b (tgt := 63) hx hb dX6_canStand_56 (by decide) (fun h_56 => ?_) (fun h_56 => ?_)
            · refine lv_iconst (v := 0) hx hb dX6_canStand_63 (by decide) ?_
              exact pv_zret F hr hlocks (Or.inl rfl) (by simp [f_canStand, b2i, show ¬ rK r b < 8 by omega, show rK r a < 10 by omega, h_19, h_39, h_46, h_56]) dX6_canStand_64
            · refine lv_iconst (v := 1) hx hb dX6_canStand_59 (by decide) ?_
              refine lv_goto (tgt := 64) hx hb dX6_canStand_60 (by decide) ?_
              exact pv_zret F hr hlocks (Or.inr rfl) (by simp [f_canStand, b2i, show ¬ rK r b < 8 by omega, show rK r a < 10 by omega, h_19, h_39, h_46, h_56]) dX6_canStand_64
    · refine lv_iconst (v := 1) hx hb dX6_canStand_22 (by decide) ?_
      exact pv_zret F hr hlocks (Or.inr rfl) (by simp [f_canStand, b2i, show ¬ rK r b < 8 by omega, h_19]) dX6_canStand_23
end
section
/-! the reference: loops that read: sizes, told -/
set_option maxHeartbeats 400000 in
set_option maxRecDepth 100000 in
theorem c_X6_flatSize (l : Launch) (D : va_G) (cy : Nat → ClassId) (A : Nat → Prop) (G : Nat → Nat) (r : RS) (C : Nat → Nat) (E : Nat → Int64) (sz : Nat) (t : Nat) {kk : Nat} (hI : Inv kk r) (ht : t ≤ rT r) : Met l yX6_flatSize (px_w yX6_flatSize cX6_flatSize 4 (some .int)) (rmd 2 0 0) (px_P D cy [.ref (G 0), .int (nI t)] sz (MR D cy A G r C E)) (px_V (some (.int (nI (f_fsz r t))))) 0 0 (fun _ => False) := by
  refine px_met (by decide) (Nat.le_of_ble_eq_true rfl) ?_
  intro p e s m below meth c F hr hlocks hnm hK hsz hR ls hl
  have hx := F.1
  have hb := F.2.1
  have hl : lv_has ls 4 [(0, .ref (G 0)), (1, .int (nI t))] := hl
  have hbd := hI.bd
  have hc1 := hI.tb t ht
  refine lv_iload_n hx hb dX6_flatSize_0 rfl (lv_at hl 1 rfl) ?_
  refine lv_if_eq (tgt := 15) hx hb dX6_flatSize_1 (by decide) (fun h_1 => ?_) (fun h_1 => ?_)
  · have h_1 : t = 0 := nIeq (show nI t = nI 0 from h_1) (by omega) (by omega)
    refine lv_iload_n hx hb dX6_flatSize_15 rfl (lv_at hl 1 rfl) ?_
    refine lv_if_ne (tgt := 23) hx hb dX6_flatSize_16 (by decide) (fun h_16 => by exfalso; have h_16 : ¬ t = 0 := nIne (show ¬ nI t = nI 0 from h_16); omega) (fun h_16 => ?_)
    have h_16 : t = 0 := nIeq (show nI t = nI 0 from h_16) (by omega) (by omega)
    refine lv_iconst (v := 0) hx hb dX6_flatSize_19 (by decide) ?_
    refine lv_goto (tgt := 29) hx hb dX6_flatSize_20 (by decide) ?_
    exact pv_iret F hr hlocks (by rw [show f_fsz r t = 0 from (by unfold f_fsz; rw [if_pos h_1])]; try rfl) dX6_flatSize_29
  · have h_1 : ¬ t = 0 := nIne (show ¬ nI t = nI 0 from h_1)
    refine lv_aload_n hx hb dX6_flatSize_4 rfl (lv_at hl 0 rfl) ?_
    refine m_get F hK hR 1 (by decide) rfl kw_fieldLink_RX6_7 dX6_flatSize_5 ?_
    refine lv_iload_n hx hb dX6_flatSize_8 rfl (lv_at hl 1 rfl) ?_
    refine m_ldK F hK hR t rfl (by omega) dX6_flatSize_9 ?_
    refine lv_bipush (v := 8) hx hb dX6_flatSize_10 (by decide) ?_
    refine lv_icmp_ge (tgt := 30) hx hb dX6_flatSize_12 (by decide) (fun h_12 => ?_) (fun h_12 => ?_)
    · have h_12 : 8 ≤ (rK r t) := nIle (show nI 8 ≤ nI (rK r t) from h_12) (by omega) (by omega)
      refine lv_iconst (v := 0) hx hb dX6_flatSize_30 (by decide) ?_
      refine lv_istore_n (lv' := [(2, .int 0), (0, .ref (G 0)), (1, .int (nI t))]) hx hb dX6_flatSize_31 rfl hl (by decide) rfl (fun ls hl => ?_)
      refine lv_iconst (v := 0) hx hb dX6_flatSize_32 (by decide) ?_
      refine lv_istore_n (lv' := [(3, .int 0), (2, .int 0), (0, .ref (G 0)), (1, .int (nI t))]) hx hb dX6_flatSize_33 rfl hl (by decide) rfl (fun ls hl => ?_)
      have loop : ∀ (d k : Nat), k + d = rMn r t → ∀ (ls : Array Slot), lv_has ls 4 [(3, .int (nI k)), (2, .int (nI (f_cnt (fun k => if f_at r t k = 0 then 0 else 1) k))), (0, .ref (G 0)), (1, .int (nI t))] → W p l e (rmd 2 0 0) s m ([.ref (G 0), .int (nI t)] : List Value).toArray below meth c s.heap [] 0 0 (MQ below (px_V (some (.int (nI (f_fsz r t))))) ([.ref (G 0), .int (nI t)] : List Value).toArray s 0 0 (fun _ => False)) (F0 m 34 ls []) := by
        intro d
        induction d with
        | zero =>
          intro k hk ls hl
          refine lv_iload_n hx hb dX6_flatSize_34 rfl (lv_at hl 0 rfl) ?_
          refine lv_aload_n hx hb dX6_flatSize_35 rfl (lv_at hl 2 rfl) ?_
          refine m_get F hK hR 2 (by decide) rfl kw_fieldLink_RX6_13 dX6_flatSize_36 ?_
          refine lv_iload_n hx hb dX6_flatSize_39 rfl (lv_at hl 3 rfl) ?_
          refine m_ldMn F hK hR t rfl (by omega) dX6_flatSize_40 ?_
          refine lv_icmp_ge (tgt := 69) hx hb dX6_flatSize_41 (by decide) (fun h_41 => ?_) (fun h_41 => by exfalso; have h_41 : k < (rMn r t) := nInle (show ¬ nI (rMn r t) ≤ nI k from h_41) (by omega) (by omega); omega)
          have h_41 : (rMn r t) ≤ k := nIle (show nI (rMn r t) ≤ nI k from h_41) (by omega) (by omega)
          refine lv_iload_n hx hb dX6_flatSize_69 rfl (lv_at hl 1 rfl) ?_
          exact pv_iret F hr hlocks (by have hkn : k = rMn r t := (by omega); rw [show f_fsz r t = f_cnt (fun k => if f_at r t k = 0 then 0 else 1) k from (by unfold f_fsz; rw [if_neg h_1, if_neg (by omega), hkn])]; try rfl) dX6_flatSize_70
        | succ d ih_loop =>
          intro k hk ls hl
          refine lv_iload_n hx hb dX6_flatSize_34 rfl (lv_at hl 0 rfl) ?_
          refine lv_aload_n hx hb dX6_flatSize_35 rfl (lv_at hl 2 rfl) ?_
          refine m_get F hK hR 2 (by decide) rfl kw_fieldLink_RX6_13 dX6_flatSize_36 ?_
          refine lv_iload_n hx hb dX6_flatSize_39 rfl (lv_at hl 3 rfl) ?_
          refine m_ldMn F hK hR t rfl (by omega) dX6_flatSize_40 ?_
          refine lv_icmp_ge (tgt := 69) hx hb dX6_flatSize_41 (by decide) (fun h_41 => by exfalso; have h_41 : (rMn r t) ≤ k := nIle (show nI (rMn r t) ≤ nI k from h_41) (by omega) (by omega); omega) (fun h_41 => ?_)
          have h_41 : k < (rMn r t) := nInle (show ¬ nI (rMn r t) ≤ nI k from h_41) (by omega) (by omega)
          refine lv_iload_n hx hb dX6_flatSize_44 rfl (lv_at hl 1 rfl) ?_
          refine lv_aload_n hx hb dX6_flatSize_45 rfl (lv_at hl 2 rfl) ?_
          refine lv_iload_n hx hb dX6_flatSize_46 rfl (lv_at hl 3 rfl) ?_
          refine lv_iload_n hx hb dX6_flatSize_47 rfl (lv_at hl 0 rfl) ?_
          refine px_goV (st1 := [.long (f_at r t k), .int (nI (f_cnt (fun k => if f_at r t k = 0 then 0 else 1) k))]) (px_callV F hK (c_X6_at l D cy A G r _ _ _ t k (by omega) (show rS r t + k < 12200 by omega)) kc_X6_at kw_methodLink_RX6_80 rfl hR (m_recv hK hR) rfl ⟨rfl, rfl⟩ ⟨Nat.le_of_ble_eq_true rfl, Nat.le_of_ble_eq_true rfl⟩ hl.1 rfl (Nat.le_of_ble_eq_true rfl) dX6_flatSize_48 ⟨Nat.zero_le _, Nat.zero_le _⟩) rfl ?_
          refine lv_lconst (v := 0) hx hb dX6_flatSize_51 (by decide) ?_
          refine W.lcmp hx hb dX6_flatSize_52 ?_
          refine x_cmp_eq (tgt := 60) hx hb dX6_flatSize_53 (by decide) (fun h_53 => ?_) (fun h_53 => ?_)
          · refine lv_iconst (v := 0) hx hb dX6_flatSize_60 (by decide) ?_
            refine lv_iadd hx hb dX6_flatSize_61 ?_
            refine px_topi (y := nI ((f_cnt (fun k => if f_at r t k = 0 then 0 else 1) k) + 0)) (nI_add _ _) ?_
            refine lv_istore_n (lv' := [(2, .int (nI ((f_cnt (fun k => if f_at r t k = 0 then 0 else 1) k) + 0))), (3, .int (nI k)), (0, .ref (G 0)), (1, .int (nI t))]) hx hb dX6_flatSize_62 rfl hl (by decide) rfl (fun ls hl => ?_)
            refine lv_iinc (v := nI (k + 1)) (lv' := [(3, .int (nI (k + 1))), (2, .int (nI ((f_cnt (fun k => if f_at r t k = 0 then 0 else 1) k) + 0))), (0, .ref (G 0)), (1, .int (nI t))]) hx hb dX6_flatSize_63 hl (k := 1) rfl (by show nI k + 1 = nI (k + 1); exact nI_1 _) (by decide) rfl (fun ls hl => ?_)
            refine lv_goto (tgt := 34) hx hb dX6_flatSize_66 (by decide) ?_
            have e_2 : (nI (f_cnt (fun k => if f_at r t k = 0 then 0 else 1) (k + 1)) : Int32) = nI ((f_cnt (fun k => if f_at r t k = 0 then 0 else 1) k) + 0) := (by simp [f_cnt, h_53])
            exact ih_loop (k + 1) (by omega) _ (by rw [e_2]; exact lv_sub hl [0, 1, 2, 3] rfl)
          · refine lv_iconst (v := 1) hx hb dX6_flatSize_56 (by decide) ?_
            refine lv_goto (tgt := 61) hx hb dX6_flatSize_57 (by decide) ?_
            refine lv_iadd hx hb dX6_flatSize_61 ?_
            refine px_topi (y := nI ((f_cnt (fun k => if f_at r t k = 0 then 0 else 1) k) + 1)) (nI_add _ _) ?_
            refine lv_istore_n (lv' := [(2, .int (nI ((f_cnt (fun k => if f_at r t k = 0 then 0 else 1) k) + 1))), (3, .int (nI k)), (0, .ref (G 0)), (1, .int (nI t))]) hx hb dX6_flatSize_62 rfl hl (by decide) rfl (fun ls hl => ?_)
            refine lv_iinc (v := nI (k + 1)) (lv' := [(3, .int (nI (k + 1))), (2, .int (nI ((f_cnt (fun k => if f_at r t k = 0 then 0 else 1) k) + 1))), (0, .ref (G 0)), (1, .int (nI t))]) hx hb dX6_flatSize_63 hl (k := 1) rfl (by show nI k + 1 = nI (k + 1); exact nI_1 _) (by decide) rfl (fun ls hl => ?_)
            refine lv_goto (tgt := 34) hx hb dX6_flatSize_66 (by decide) ?_
            have e_2 : (nI (f_cnt (fun k => if f_at r t k = 0 then 0 else 1) (k + 1)) : Int32) = nI ((f_cnt (fun k => if f_at r t k = 0 then 0 else 1) k) + 1) := (by simp [f_cnt, h_53])
            exact ih_loop (k + 1) (by omega) _ (by rw [e_2]; exact lv_sub hl [0, 1, 2, 3] rfl)
      have e_2 : (nI (f_cnt (fun k => if f_at r t k = 0 then 0 else 1) 0) : Int32) = 0 := (by rfl)
      exact loop (rMn r t) 0 (by omega) _ (by rw [e_2]; exact lv_sub hl [0, 1, 2, 3] rfl)
    · have h_12 : (rK r t) < 8 := nInle (show ¬ nI 8 ≤ nI (rK r t) from h_12) (by omega) (by omega)
      refine lv_iload_n hx hb dX6_flatSize_15 rfl (lv_at hl 1 rfl) ?_
      refine lv_if_ne (tgt := 23) hx hb dX6_flatSize_16 (by decide) (fun h_16 => ?_) (fun h_16 => by exfalso; have h_16 : t = 0 := nIeq (show nI t = nI 0 from h_16) (by omega) (by omega); omega)
      have h_16 : ¬ t = 0 := nIne (show ¬ nI t = nI 0 from h_16)
      refine lv_aload_n hx hb dX6_flatSize_23 rfl (lv_at hl 0 rfl) ?_
      refine m_get F hK hR 2 (by decide) rfl kw_fieldLink_RX6_13 dX6_flatSize_24 ?_
      refine lv_iload_n hx hb dX6_flatSize_27 rfl (lv_at hl 1 rfl) ?_
      refine m_ldMn F hK hR t rfl (by omega) dX6_flatSize_28 ?_
      exact pv_iret F hr hlocks (by rw [show f_fsz r t = rMn r t from (by unfold f_fsz; rw [if_neg h_1, if_pos (by omega)])]; try rfl) dX6_flatSize_29
set_option maxHeartbeats 400000 in
set_option maxRecDepth 100000 in
theorem c_X6_middleSize (l : Launch) (D : va_G) (cy : Nat → ClassId) (A : Nat → Prop) (G : Nat → Nat) (r : RS) (C : Nat → Nat) (E : Nat → Int64) (sz : Nat) (t : Nat) {kk : Nat} (hI : Inv kk r) (ht : t ≤ rT r) : Met l yX6_middleSize (px_w yX6_middleSize cX6_middleSize 4 (some .int)) (rmd 3 0 0) (px_P D cy [.ref (G 0), .int (nI t)] sz (MR D cy A G r C E)) (px_V (some (.int (nI (f_msz r t))))) 0 0 (fun _ => False) := by
  refine px_met (by decide) (Nat.le_of_ble_eq_true rfl) ?_
  intro p e s m below meth c F hr hlocks hnm hK hsz hR ls hl
  have hx := F.1
  have hb := F.2.1
  have hl : lv_has ls 4 [(0, .ref (G 0)), (1, .int (nI t))] := hl
  have hbd := hI.bd
  have hc1 := hI.tb t ht
  refine lv_iload_n hx hb dX6_middleSize_0 rfl (lv_at hl 1 rfl) ?_
  refine lv_if_eq (tgt := 15) hx hb dX6_middleSize_1 (by decide) (fun h_1 => ?_) (fun h_1 => ?_)
  · have h_1 : t = 0 := nIeq (show nI t = nI 0 from h_1) (by omega) (by omega)
    refine lv_aload_n hx hb dX6_middleSize_15 rfl (lv_at hl 0 rfl) ?_
    refine lv_iload_n hx hb dX6_middleSize_16 rfl (lv_at hl 1 rfl) ?_
    refine px_goV (st1 := [.int (nI (f_fsz r t))]) (px_callV F hK (c_X6_flatSize l D cy A G r _ _ _ t hI (by omega)) kc_X6_flatSize kw_methodLink_RX6_132 rfl hR (m_recv hK hR) rfl ⟨rfl, rfl⟩ ⟨Nat.le_of_ble_eq_true rfl, Nat.le_of_ble_eq_true rfl⟩ hl.1 rfl (Nat.le_of_ble_eq_true rfl) dX6_middleSize_17 ⟨Nat.zero_le _, Nat.zero_le _⟩) rfl ?_
    exact pv_iret F hr hlocks (by rw [show f_msz r t = f_fsz r t from (by unfold f_msz; rw [if_pos (Or.inl h_1)])]; try rfl) dX6_middleSize_20
  · have h_1 : ¬ t = 0 := nIne (show ¬ nI t = nI 0 from h_1)
    refine lv_aload_n hx hb dX6_middleSize_4 rfl (lv_at hl 0 rfl) ?_
    refine m_get F hK hR 1 (by decide) rfl kw_fieldLink_RX6_7 dX6_middleSize_5 ?_
    refine lv_iload_n hx hb dX6_middleSize_8 rfl (lv_at hl 1 rfl) ?_
    refine m_ldK F hK hR t rfl (by omega) dX6_middleSize_9 ?_
    refine lv_bipush (v := 10) hx hb dX6_middleSize_10 (by decide) ?_
    refine lv_icmp_ge (tgt := 21) hx hb dX6_middleSize_12 (by decide) (fun h_12 => ?_) (fun h_12 => ?_)
    · have h_12 : 10 ≤ (rK r t) := nIle (show nI 10 ≤ nI (rK r t) from h_12) (by omega) (by omega)
      refine lv_iconst (v := 0) hx hb dX6_middleSize_21 (by decide) ?_
      refine lv_istore_n (lv' := [(2, .int 0), (0, .ref (G 0)), (1, .int (nI t))]) hx hb dX6_middleSize_22 rfl hl (by decide) rfl (fun ls hl => ?_)
      refine lv_iconst (v := 0) hx hb dX6_middleSize_23 (by decide) ?_
      refine lv_istore_n (lv' := [(3, .int 0), (2, .int 0), (0, .ref (G 0)), (1, .int (nI t))]) hx hb dX6_middleSize_24 rfl hl (by decide) rfl (fun ls hl => ?_)
      have loop : ∀ (d k : Nat), k + d = rMn r t → ∀ (ls : Array Slot), lv_has ls 4 [(3, .int (nI k)), (2, .int (nI (f_cnt (fun k => f_fsz r (iv (f_at r t k))) k))), (0, .ref (G 0)), (1, .int (nI t))] → W p l e (rmd 3 0 0) s m ([.ref (G 0), .int (nI t)] : List Value).toArray below meth c s.heap [] 0 0 (MQ below (px_V (some (.int (nI (f_msz r t))))) ([.ref (G 0), .int (nI t)] : List Value).toArray s 0 0 (fun _ => False)) (F0 m 25 ls []) := by
        intro d
        induction d with
        | zero =>
          intro k hk ls hl
          refine lv_iload_n hx hb dX6_middleSize_25 rfl (lv_at hl 0 rfl) ?_
          refine lv_aload_n hx hb dX6_middleSize_26 rfl (lv_at hl 2 rfl) ?_
          refine m_get F hK hR 2 (by decide) rfl kw_fieldLink_RX6_13 dX6_middleSize_27 ?_
          refine lv_iload_n hx hb dX6_middleSize_30 rfl (lv_at hl 3 rfl) ?_
          refine m_ldMn F hK hR t rfl (by omega) dX6_middleSize_31 ?_
          refine lv_icmp_ge (tgt := 55) hx hb dX6_middleSize_32 (by decide) (fun h_32 => ?_) (fun h_32 => by exfalso; have h_32 : k < (rMn r t) := nInle (show ¬ nI (rMn r t) ≤ nI k from h_32) (by omega) (by omega); omega)
          have h_32 : (rMn r t) ≤ k := nIle (show nI (rMn r t) ≤ nI k from h_32) (by omega) (by omega)
          refine lv_iload_n hx hb dX6_middleSize_55 rfl (lv_at hl 1 rfl) ?_
          exact pv_iret F hr hlocks (by have hkn : k = rMn r t := (by omega); rw [show f_msz r t = f_cnt (fun k => f_fsz r (iv (f_at r t k))) k from (by unfold f_msz; rw [if_neg (by omega), hkn])]; try rfl) dX6_middleSize_56
        | succ d ih_loop =>
          intro k hk ls hl
          refine lv_iload_n hx hb dX6_middleSize_25 rfl (lv_at hl 0 rfl) ?_
          refine lv_aload_n hx hb dX6_middleSize_26 rfl (lv_at hl 2 rfl) ?_
          refine m_get F hK hR 2 (by decide) rfl kw_fieldLink_RX6_13 dX6_middleSize_27 ?_
          refine lv_iload_n hx hb dX6_middleSize_30 rfl (lv_at hl 3 rfl) ?_
          refine m_ldMn F hK hR t rfl (by omega) dX6_middleSize_31 ?_
          refine lv_icmp_ge (tgt := 55) hx hb dX6_middleSize_32 (by decide) (fun h_32 => by exfalso; have h_32 : (rMn r t) ≤ k := nIle (show nI (rMn r t) ≤ nI k from h_32) (by omega) (by omega); omega) (fun h_32 => ?_)
          have h_32 : k < (rMn r t) := nInle (show ¬ nI (rMn r t) ≤ nI k from h_32) (by omega) (by omega)
          refine lv_iload_n hx hb dX6_middleSize_35 rfl (lv_at hl 1 rfl) ?_
          refine lv_aload_n hx hb dX6_middleSize_36 rfl (lv_at hl 2 rfl) ?_
          refine lv_aload_n hx hb dX6_middleSize_37 rfl (lv_at hl 2 rfl) ?_
          refine lv_iload_n hx hb dX6_middleSize_38 rfl (lv_at hl 3 rfl) ?_
          refine lv_iload_n hx hb dX6_middleSize_39 rfl (lv_at hl 0 rfl) ?_
          refine px_goV (st1 := [.long (f_at r t k), .ref (G 0), .int (nI (f_cnt (fun k => f_fsz r (iv (f_at r t k))) k))]) (px_callV F hK (c_X6_at l D cy A G r _ _ _ t k (by omega) (show rS r t + k < 12200 by omega)) kc_X6_at kw_methodLink_RX6_80 rfl hR (m_recv hK hR) rfl ⟨rfl, rfl⟩ ⟨Nat.le_of_ble_eq_true rfl, Nat.le_of_ble_eq_true rfl⟩ hl.1 rfl (Nat.le_of_ble_eq_true rfl) dX6_middleSize_40 ⟨Nat.zero_le _, Nat.zero_le _⟩) rfl ?_
          have hit := hI.it h_1 ht h_32 (by omega)
          have hrow := (hit.2.2.2.2 (by omega)).1
          refine px_topl hit.1 ?_
          refine lv_l2i (v := nI (iv (f_at r t k))) hx hb dX6_middleSize_43 (lN_i _) ?_
          refine px_goV (st1 := [.int (nI (f_fsz r (iv (f_at r t k)))), .int (nI (f_cnt (fun k => f_fsz r (iv (f_at r t k))) k))]) (px_callV F hK (c_X6_flatSize l D cy A G r _ _ _ (iv (f_at r t k)) hI (by omega)) kc_X6_flatSize kw_methodLink_RX6_132 rfl hR (m_recv hK hR) rfl ⟨rfl, rfl⟩ ⟨Nat.le_of_ble_eq_true rfl, Nat.le_of_ble_eq_true rfl⟩ hl.1 rfl (Nat.le_of_ble_eq_true rfl) dX6_middleSize_44 ⟨Nat.zero_le _, Nat.zero_le _⟩) rfl ?_
          refine lv_iadd hx hb dX6_middleSize_47 ?_
          refine px_topi (y := nI ((f_cnt (fun k => f_fsz r (iv (f_at r t k))) k) + (f_fsz r (iv (f_at r t k))))) (nI_add _ _) ?_
          refine lv_istore_n (lv' := [(2, .int (nI ((f_cnt (fun k => f_fsz r (iv (f_at r t k))) k) + (f_fsz r (iv (f_at r t k)))))), (3, .int (nI k)), (0, .ref (G 0)), (1, .int (nI t))]) hx hb dX6_middleSize_48 rfl hl (by decide) rfl (fun ls hl => ?_)
          refine lv_iinc (v := nI (k + 1)) (lv' := [(3, .int (nI (k + 1))), (2, .int (nI ((f_cnt (fun k => f_fsz r (iv (f_at r t k))) k) + (f_fsz r (iv (f_at r t k)))))), (0, .ref (G 0)), (1, .int (nI t))]) hx hb dX6_middleSize_49 hl (k := 1) rfl (by show nI k + 1 = nI (k + 1); exact nI_1 _) (by decide) rfl (fun ls hl => ?_)
          refine lv_goto (tgt := 25) hx hb dX6_middleSize_52 (by decide) ?_
          have e_2 : (nI (f_cnt (fun k => f_fsz r (iv (f_at r t k))) (k + 1)) : Int32) = nI ((f_cnt (fun k => f_fsz r (iv (f_at r t k))) k) + (f_fsz r (iv (f_at r t k)))) := (by rfl)
          exact ih_loop (k + 1) (by omega) _ (by rw [e_2]; exact lv_sub hl [0, 1, 2, 3] rfl)
      have e_2 : (nI (f_cnt (fun k => f_fsz r (iv (f_at r t k))) 0) : Int32) = 0 := (by rfl)
      exact loop (rMn r t) 0 (by omega) _ (by rw [e_2]; exact lv_sub hl [0, 1, 2, 3] rfl)
    · have h_12 : (rK r t) < 10 := nInle (show ¬ nI 10 ≤ nI (rK r t) from h_12) (by omega) (by omega)
      refine lv_aload_n hx hb dX6_middleSize_15 rfl (lv_at hl 0 rfl) ?_
      refine lv_iload_n hx hb dX6_middleSize_16 rfl (lv_at hl 1 rfl) ?_
      refine px_goV (st1 := [.int (nI (f_fsz r t))]) (px_callV F hK (c_X6_flatSize l D cy A G r _ _ _ t hI (by omega)) kc_X6_flatSize kw_methodLink_RX6_132 rfl hR (m_recv hK hR) rfl ⟨rfl, rfl⟩ ⟨Nat.le_of_ble_eq_true rfl, Nat.le_of_ble_eq_true rfl⟩ hl.1 rfl (Nat.le_of_ble_eq_true rfl) dX6_middleSize_17 ⟨Nat.zero_le _, Nat.zero_le _⟩) rfl ?_
      exact pv_iret F hr hlocks (by rw [show f_msz r t = f_fsz r t from (by unfold f_msz; rw [if_pos (Or.inr (by omega))])]; try rfl) dX6_middleSize_20
set_option maxHeartbeats 400000 in
set_option maxRecDepth 100000 in
theorem c_X6_size (l : Launch) (D : va_G) (cy : Nat → ClassId) (A : Nat → Prop) (G : Nat → Nat) (r : RS) (C : Nat → Nat) (E : Nat → Int64) (sz : Nat) (cl : Int32) {kk : Nat} (hI : Inv kk r) : Met l yX6_size (px_w yX6_size cX6_size 5 (some .int)) (rmd 4 0 0) (px_P D cy [.ref (G 0), .int cl] sz (MR D cy A G r C E)) (px_V (some (.int (f_size r cl)))) 0 0 (fun _ => False) := by
  refine px_met (by decide) (Nat.le_of_ble_eq_true rfl) ?_
  intro p e s m below meth c F hr hlocks hnm hK hsz hR ls hl
  have hx := F.1
  have hb := F.2.1
  have hl : lv_has ls 5 [(0, .ref (G 0)), (1, .int cl)] := hl
  have hbd := hI.bd
  refine lv_iload_n hx hb dX6_size_0 rfl (lv_at hl 1 rfl) ?_
  refine px_goV (st1 := [.int (b2i (f_in cl 0 15))]) (px_callS F hK (c_X6_isColumn l D cy _ cl) kc_X6_isColumn kw_methodLink_RX6_53 rfl trivial rfl ⟨rfl, rfl⟩ ⟨Nat.le_of_ble_eq_true rfl, Nat.le_of_ble_eq_true rfl⟩ hl.1 rfl (Nat.le_of_ble_eq_true rfl) dX6_size_1 ⟨Nat.zero_le _, Nat.zero_le _⟩) rfl ?_
  refine x_ifne_b (tgt := 10) hx hb dX6_size_4 (by decide) (fun h_4 => ?_) (fun h_4 => ?_)
  · obtain ⟨cn, hl_cn, hh_cn, rfl⟩ := f_in_nat h_4 0 15 (by decide) (by decide) (by decide) (by decide)
    have hc0 := hI.hd cn (by omega)
    have hc1 := hI.tb _ hc0
    refine lv_aload_n hx hb dX6_size_10 rfl (lv_at hl 0 rfl) ?_
    refine m_get F hK hR 9 (by decide) rfl kw_fieldLink_RX6_31 dX6_size_11 ?_
    refine lv_iload_n hx hb dX6_size_14 rfl (lv_at hl 1 rfl) ?_
    refine m_ldHd F hK hR cn rfl (by omega) dX6_size_15 ?_
    refine lv_istore_n (lv' := [(2, .int (nI (rHd r cn))), (0, .ref (G 0)), (1, .int (nI cn))]) hx hb dX6_size_16 rfl hl (by decide) rfl (fun ls hl => ?_)
    refine lv_iload_n hx hb dX6_size_17 rfl (lv_at hl 0 rfl) ?_
    refine lv_if_eq (tgt := 32) hx hb dX6_size_18 (by decide) (fun h_18 => ?_) (fun h_18 => ?_)
    · have h_18 : (rHd r cn) = 0 := nIeq (show nI (rHd r cn) = nI 0 from h_18) (by omega) (by omega)
      refine lv_aload_n hx hb dX6_size_32 rfl (lv_at hl 1 rfl) ?_
      refine lv_iload_n hx hb dX6_size_33 rfl (lv_at hl 0 rfl) ?_
      refine px_goV (st1 := [.int (nI (f_msz r (rHd r cn)))]) (px_callV F hK (c_X6_middleSize l D cy A G r _ _ _ (rHd r cn) hI (by omega)) kc_X6_middleSize kw_methodLink_RX6_135 rfl hR (m_recv hK hR) rfl ⟨rfl, rfl⟩ ⟨Nat.le_of_ble_eq_true rfl, Nat.le_of_ble_eq_true rfl⟩ hl.1 rfl (Nat.le_of_ble_eq_true rfl) dX6_size_34 ⟨Nat.zero_le _, Nat.zero_le _⟩) rfl ?_
      exact pv_iret F hr hlocks (by rw [show f_size r (nI cn) = nI (f_msz r (rHd r cn)) from (by simp only [f_size, h_4, ix_nI (show cn < 2 ^ 31 by omega)]; simp only [Bool.not_true, Bool.false_eq_true, if_false]; unfold f_tsz; rw [if_pos (Or.inl h_18)])]; try rfl) dX6_size_37
    · have h_18 : ¬ (rHd r cn) = 0 := nIne (show ¬ nI (rHd r cn) = nI 0 from h_18)
      refine lv_aload_n hx hb dX6_size_21 rfl (lv_at hl 1 rfl) ?_
      refine m_get F hK hR 1 (by decide) rfl kw_fieldLink_RX6_7 dX6_size_22 ?_
      refine lv_iload_n hx hb dX6_size_25 rfl (lv_at hl 0 rfl) ?_
      refine m_ldK F hK hR (rHd r cn) rfl (by omega) dX6_size_26 ?_
      refine lv_bipush (v := 13) hx hb dX6_size_27 (by decide) ?_
      refine lv_icmp_ge (tgt := 38) hx hb dX6_size_29 (by decide) (fun h_29 => ?_) (fun h_29 => ?_)
      · have h_29 : 13 ≤ (rK r (rHd r cn)) := nIle (show nI 13 ≤ nI (rK r (rHd r cn)) from h_29) (by omega) (by omega)
        refine lv_iconst (v := 0) hx hb dX6_size_38 (by decide) ?_
        refine lv_istore_n (lv' := [(3, .int 0), (2, .int (nI (rHd r cn))), (0, .ref (G 0)), (1, .int (nI cn))]) hx hb dX6_size_39 rfl hl (by decide) rfl (fun ls hl => ?_)
        refine lv_iconst (v := 0) hx hb dX6_size_40 (by decide) ?_
        refine lv_istore (lv' := [(4, .int 0), (3, .int 0), (2, .int (nI (rHd r cn))), (0, .ref (G 0)), (1, .int (nI cn))]) hx hb dX6_size_41 hl (by decide) rfl (fun ls hl => ?_)
        have loop : ∀ (d k : Nat), k + d = rMn r (rHd r cn) → ∀ (ls : Array Slot), lv_has ls 5 [(4, .int (nI k)), (3, .int (nI (f_cnt (fun k => f_msz r (iv (f_at r (rHd r cn) k))) k))), (2, .int (nI (rHd r cn))), (0, .ref (G 0)), (1, .int (nI cn))] → W p l e (rmd 4 0 0) s m ([.ref (G 0), .int (nI cn)] : List Value).toArray below meth c s.heap [] 0 0 (MQ below (px_V (some (.int (f_size r (nI cn))))) ([.ref (G 0), .int (nI cn)] : List Value).toArray s 0 0 (fun _ => False)) (F0 m 43 ls []) := by
          intro d
          induction d with
          | zero =>
            intro k hk ls hl
            refine lv_iload hx hb dX6_size_43 (lv_at hl 0 rfl) ?_
            refine lv_aload_n hx hb dX6_size_45 rfl (lv_at hl 3 rfl) ?_
            refine m_get F hK hR 2 (by decide) rfl kw_fieldLink_RX6_13 dX6_size_46 ?_
            refine lv_iload_n hx hb dX6_size_49 rfl (lv_at hl 2 rfl) ?_
            refine m_ldMn F hK hR (rHd r cn) rfl (by omega) dX6_size_50 ?_
            refine lv_icmp_ge (tgt := 75) hx hb dX6_size_51 (by decide) (fun h_51 => ?_) (fun h_51 => by exfalso; have h_51 : k < (rMn r (rHd r cn)) := nInle (show ¬ nI (rMn r (rHd r cn)) ≤ nI k from h_51) (by omega) (by omega); omega)
            have h_51 : (rMn r (rHd r cn)) ≤ k := nIle (show nI (rMn r (rHd r cn)) ≤ nI k from h_51) (by omega) (by omega)
            refine lv_iload_n hx hb dX6_size_75 rfl (lv_at hl 1 rfl) ?_
            exact pv_iret F hr hlocks (by have hkn : k = rMn r (rHd r cn) := (by omega); rw [show f_size r (nI cn) = nI (f_cnt (fun k => f_msz r (iv (f_at r (rHd r cn) k))) k) from (by simp only [f_size, h_4, ix_nI (show cn < 2 ^ 31 by omega)]; simp only [Bool.not_true, Bool.false_eq_true, if_false]; unfold f_tsz; rw [if_neg (by omega), hkn])]; try rfl) dX6_size_76
          | succ d ih_loop =>
            intro k hk ls hl
            refine lv_iload hx hb dX6_size_43 (lv_at hl 0 rfl) ?_
            refine lv_aload_n hx hb dX6_size_45 rfl (lv_at hl 3 rfl) ?_
            refine m_get F hK hR 2 (by decide) rfl kw_fieldLink_RX6_13 dX6_size_46 ?_
            refine lv_iload_n hx hb dX6_size_49 rfl (lv_at hl 2 rfl) ?_
            refine m_ldMn F hK hR (rHd r cn) rfl (by omega) dX6_size_50 ?_
            refine lv_icmp_ge (tgt := 75) hx hb dX6_size_51 (by decide) (fun h_51 => by exfalso; have h_51 : (rMn r (rHd r cn)) ≤ k := nIle (show nI (rMn r (rHd r cn)) ≤ nI k from h_51) (by omega) (by omega); omega) (fun h_51 => ?_)
            have h_51 : k < (rMn r (rHd r cn)) := nInle (show ¬ nI (rMn r (rHd r cn)) ≤ nI k from h_51) (by omega) (by omega)
            refine lv_iload_n hx hb dX6_size_54 rfl (lv_at hl 1 rfl) ?_
            refine lv_aload_n hx hb dX6_size_55 rfl (lv_at hl 3 rfl) ?_
            refine lv_aload_n hx hb dX6_size_56 rfl (lv_at hl 3 rfl) ?_
            refine lv_iload_n hx hb dX6_size_57 rfl (lv_at hl 2 rfl) ?_
            refine lv_iload hx hb dX6_size_58 (lv_at hl 0 rfl) ?_
            refine px_goV (st1 := [.long (f_at r (rHd r cn) k), .ref (G 0), .int (nI (f_cnt (fun k => f_msz r (iv (f_at r (rHd r cn) k))) k))]) (px_callV F hK (c_X6_at l D cy A G r _ _ _ (rHd r cn) k (by omega) (show rS r (rHd r cn) + k < 12200 by omega)) kc_X6_at kw_methodLink_RX6_80 rfl hR (m_recv hK hR) rfl ⟨rfl, rfl⟩ ⟨Nat.le_of_ble_eq_true rfl, Nat.le_of_ble_eq_true rfl⟩ hl.1 rfl (Nat.le_of_ble_eq_true rfl) dX6_size_60 ⟨Nat.zero_le _, Nat.zero_le _⟩) rfl ?_
            have hit := hI.it h_18 hc0 h_51 (by omega)
            have hrow := (hit.2.2.2.2 (by omega)).1
            refine px_topl hit.1 ?_
            refine lv_l2i (v := nI (iv (f_at r (rHd r cn) k))) hx hb dX6_size_63 (lN_i _) ?_
            refine px_goV (st1 := [.int (nI (f_msz r (iv (f_at r (rHd r cn) k)))), .int (nI (f_cnt (fun k => f_msz r (iv (f_at r (rHd r cn) k))) k))]) (px_callV F hK (c_X6_middleSize l D cy A G r _ _ _ (iv (f_at r (rHd r cn) k)) hI (by omega)) kc_X6_middleSize kw_methodLink_RX6_135 rfl hR (m_recv hK hR) rfl ⟨rfl, rfl⟩ ⟨Nat.le_of_ble_eq_true rfl, Nat.le_of_ble_eq_true rfl⟩ hl.1 rfl (Nat.le_of_ble_eq_true rfl) dX6_size_64 ⟨Nat.zero_le _, Nat.zero_le _⟩) rfl ?_
            refine lv_iadd hx hb dX6_size_67 ?_
            refine px_topi (y := nI ((f_cnt (fun k => f_msz r (iv (f_at r (rHd r cn) k))) k) + (f_msz r (iv (f_at r (rHd r cn) k))))) (nI_add _ _) ?_
            refine lv_istore_n (lv' := [(3, .int (nI ((f_cnt (fun k => f_msz r (iv (f_at r (rHd r cn) k))) k) + (f_msz r (iv (f_at r (rHd r cn) k)))))), (4, .int (nI k)), (2, .int (nI (rHd r cn))), (0, .ref (G 0)), (1, .int (nI cn))]) hx hb dX6_size_68 rfl hl (by decide) rfl (fun ls hl => ?_)
            refine lv_iinc (v := nI (k + 1)) (lv' := [(4, .int (nI (k + 1))), (3, .int (nI ((f_cnt (fun k => f_msz r (iv (f_at r (rHd r cn) k))) k) + (f_msz r (iv (f_at r (rHd r cn) k)))))), (2, .int (nI (rHd r cn))), (0, .ref (G 0)), (1, .int (nI cn))]) hx hb dX6_size_69 hl (k := 1) rfl (by show nI k + 1 = nI (k + 1); exact nI_1 _) (by decide) rfl (fun ls hl => ?_)
            refine lv_goto (tgt := 43) hx hb dX6_size_72 (by decide) ?_
            have e_3 : (nI (f_cnt (fun k => f_msz r (iv (f_at r (rHd r cn) k))) (k + 1)) : Int32) = nI ((f_cnt (fun k => f_msz r (iv (f_at r (rHd r cn) k))) k) + (f_msz r (iv (f_at r (rHd r cn) k)))) := (by rfl)
            exact ih_loop (k + 1) (by omega) _ (by rw [e_3]; exact lv_sub hl [0, 1, 2, 3, 4] rfl)
        have e_3 : (nI (f_cnt (fun k => f_msz r (iv (f_at r (rHd r cn) k))) 0) : Int32) = 0 := (by rfl)
        exact loop (rMn r (rHd r cn)) 0 (by omega) _ (by rw [e_3]; exact lv_sub hl [0, 1, 2, 3, 4] rfl)
      · have h_29 : (rK r (rHd r cn)) < 13 := nInle (show ¬ nI 13 ≤ nI (rK r (rHd r cn)) from h_29) (by omega) (by omega)
        refine lv_aload_n hx hb dX6_size_32 rfl (lv_at hl 1 rfl) ?_
        refine lv_iload_n hx hb dX6_size_33 rfl (lv_at hl 0 rfl) ?_
        refine px_goV (st1 := [.int (nI (f_msz r (rHd r cn)))]) (px_callV F hK (c_X6_middleSize l D cy A G r _ _ _ (rHd r cn) hI (by omega)) kc_X6_middleSize kw_methodLink_RX6_135 rfl hR (m_recv hK hR) rfl ⟨rfl, rfl⟩ ⟨Nat.le_of_ble_eq_true rfl, Nat.le_of_ble_eq_true rfl⟩ hl.1 rfl (Nat.le_of_ble_eq_true rfl) dX6_size_34 ⟨Nat.zero_le _, Nat.zero_le _⟩) rfl ?_
        exact pv_iret F hr hlocks (by rw [show f_size r (nI cn) = nI (f_msz r (rHd r cn)) from (by simp only [f_size, h_4, ix_nI (show cn < 2 ^ 31 by omega)]; simp only [Bool.not_true, Bool.false_eq_true, if_false]; unfold f_tsz; rw [if_pos (Or.inr (by omega))])]; try rfl) dX6_size_37
  · refine lv_bipush (v := -2) hx hb dX6_size_7 (by decide) ?_
    exact pv_iret F hr hlocks (by rw [show f_size r cl = -2 from (by simp [f_size, h_4])]) dX6_size_9
set_option maxHeartbeats 400000 in
set_option maxRecDepth 100000 in
theorem c_X6_told (l : Launch) (D : va_G) (cy : Nat → ClassId) (A : Nat → Prop) (G : Nat → Nat) (r : RS) (C : Nat → Nat) (E : Nat → Int64) (sz : Nat) (w : Int32) {kk : Nat} (hI : Inv kk r) : Met l yX6_told (px_w yX6_told cX6_told 4 (some .int)) (rmd 1 0 0) (px_P D cy [.ref (G 0), .int w] sz (MR D cy A G r C E)) (px_V (some (.int (f_told r w)))) 0 0 (fun _ => False) := by
  refine px_met (by decide) (Nat.le_of_ble_eq_true rfl) ?_
  intro p e s m below meth c F hr hlocks hnm hK hsz hR ls hl
  have hx := F.1
  have hb := F.2.1
  have hl : lv_has ls 4 [(0, .ref (G 0)), (1, .int w)] := hl
  have hbd := hI.bd
  refine lv_iconst (v := 0) hx hb dX6_told_0 (by decide) ?_
  refine lv_istore_n (lv' := [(2, .int 0), (0, .ref (G 0)), (1, .int w)]) hx hb dX6_told_1 rfl hl (by decide) rfl (fun ls hl => ?_)
  refine lv_iconst (v := 0) hx hb dX6_told_2 (by decide) ?_
  refine lv_istore_n (lv' := [(3, .int 0), (2, .int 0), (0, .ref (G 0)), (1, .int w)]) hx hb dX6_told_3 rfl hl (by decide) rfl (fun ls hl => ?_)
  have loop : ∀ (d k : Nat), k + d = 16 → ∀ (ls : Array Slot), lv_has ls 4 [(3, .int (nI k)), (2, .int (nI (f_cnt (fun k => if rHd r k = 0 then 0 else 1) k))), (0, .ref (G 0)), (1, .int w)] → W p l e (rmd 1 0 0) s m ([.ref (G 0), .int w] : List Value).toArray below meth c s.heap [] 0 0 (MQ below (px_V (some (.int (f_told r w)))) ([.ref (G 0), .int w] : List Value).toArray s 0 0 (fun _ => False)) (F0 m 4 ls []) := by
    intro d
    induction d with
    | zero =>
      intro k hk ls hl
      refine lv_iload_n hx hb dX6_told_4 rfl (lv_at hl 0 rfl) ?_
      refine lv_bipush (v := 16) hx hb dX6_told_5 (by decide) ?_
      refine lv_icmp_ge (tgt := 33) hx hb dX6_told_7 (by decide) (fun h_7 => ?_) (fun h_7 => by exfalso; have h_7 : k < 16 := nInle (show ¬ nI 16 ≤ nI k from h_7) (by omega) (by omega); omega)
      have h_7 : 16 ≤ k := nIle (show nI 16 ≤ nI k from h_7) (by omega) (by omega)
      refine lv_iload_n hx hb dX6_told_33 rfl (lv_at hl 3 rfl) ?_
      refine lv_if_ne (tgt := 41) hx hb dX6_told_34 (by decide) (fun h_34 => ?_) (fun h_34 => ?_)
      · have h_34 : ¬ w = 0 := h_34
        refine lv_iload_n hx hb dX6_told_41 rfl (lv_at hl 3 rfl) ?_
        refine lv_iconst (v := 1) hx hb dX6_told_42 (by decide) ?_
        refine lv_icmp_ne (tgt := 53) hx hb dX6_told_43 (by decide) (fun h_43 => ?_) (fun h_43 => ?_)
        · have h_43 : ¬ w = 1 := h_43
          refine lv_iload_n hx hb dX6_told_53 rfl (lv_at hl 3 rfl) ?_
          refine lv_iconst (v := 2) hx hb dX6_told_54 (by decide) ?_
          refine lv_icmp_ne (tgt := 65) hx hb dX6_told_55 (by decide) (fun h_55 => ?_) (fun h_55 => ?_)
          · have h_55 : ¬ w = 2 := h_55
            refine lv_bipush (v := -2) hx hb dX6_told_65 (by decide) ?_
            exact pv_iret F hr hlocks (by have hkn : k = 16 := (by omega); rw [show f_told r w = (-2) from (by simp [f_told, f_held, h_7, h_34, h_43, h_55])]; try rfl) dX6_told_67
          · have h_55 : w = 2 := h_55
            refine lv_aload_n hx hb dX6_told_58 rfl (lv_at hl 2 rfl) ?_
            refine m_get F hK hR 6 (by decide) rfl kw_fieldLink_RX6_122 dX6_told_59 ?_
            refine lv_goto (tgt := 67) hx hb dX6_told_62 (by decide) ?_
            exact pv_iret F hr hlocks (by have hkn : k = 16 := (by omega); rw [show f_told r w = nI (rM r) from (by simp [f_told, f_held, h_7, h_34, h_43, h_55])]; try rfl) dX6_told_67
        · have h_43 : w = 1 := h_43
          refine lv_aload_n hx hb dX6_told_46 rfl (lv_at hl 2 rfl) ?_
          refine m_get F hK hR 4 (by decide) rfl kw_fieldLink_RX6_50 dX6_told_47 ?_
          refine lv_goto (tgt := 67) hx hb dX6_told_50 (by decide) ?_
          exact pv_iret F hr hlocks (by have hkn : k = 16 := (by omega); rw [show f_told r w = nI (rN r) from (by simp [f_told, f_held, h_7, h_34, h_43])]; try rfl) dX6_told_67
      · have h_34 : w = 0 := h_34
        refine lv_iload_n hx hb dX6_told_37 rfl (lv_at hl 1 rfl) ?_
        refine lv_goto (tgt := 67) hx hb dX6_told_38 (by decide) ?_
        exact pv_iret F hr hlocks (by have hkn : k = 16 := (by omega); rw [show f_told r w = nI (f_cnt (fun k => if rHd r k = 0 then 0 else 1) k) from (by rw [hkn]; simp [f_told, f_held, h_7, h_34])]; try rfl) dX6_told_67
    | succ d ih_loop =>
      intro k hk ls hl
      have hh := hI.hd k (by omega)
      refine lv_iload_n hx hb dX6_told_4 rfl (lv_at hl 0 rfl) ?_
      refine lv_bipush (v := 16) hx hb dX6_told_5 (by decide) ?_
      refine lv_icmp_ge (tgt := 33) hx hb dX6_told_7 (by decide) (fun h_7 => by exfalso; have h_7 : 16 ≤ k := nIle (show nI 16 ≤ nI k from h_7) (by omega) (by omega); omega) (fun h_7 => ?_)
      have h_7 : k < 16 := nInle (show ¬ nI 16 ≤ nI k from h_7) (by omega) (by omega)
      refine lv_iload_n hx hb dX6_told_10 rfl (lv_at hl 1 rfl) ?_
      refine lv_aload_n hx hb dX6_told_11 rfl (lv_at hl 2 rfl) ?_
      refine m_get F hK hR 9 (by decide) rfl kw_fieldLink_RX6_31 dX6_told_12 ?_
      refine lv_iload_n hx hb dX6_told_15 rfl (lv_at hl 0 rfl) ?_
      refine m_ldHd F hK hR k rfl (by omega) dX6_told_16 ?_
      refine lv_if_eq (tgt := 24) hx hb dX6_told_17 (by decide) (fun h_17 => ?_) (fun h_17 => ?_)
      · have h_17 : (rHd r k) = 0 := nIeq (show nI (rHd r k) = nI 0 from h_17) (by omega) (by omega)
        refine lv_iconst (v := 0) hx hb dX6_told_24 (by decide) ?_
        refine lv_iadd hx hb dX6_told_25 ?_
        refine px_topi (y := nI ((f_cnt (fun k => if rHd r k = 0 then 0 else 1) k) + 0)) (nI_add _ _) ?_
        refine lv_istore_n (lv' := [(2, .int (nI ((f_cnt (fun k => if rHd r k = 0 then 0 else 1) k) + 0))), (3, .int (nI k)), (0, .ref (G 0)), (1, .int w)]) hx hb dX6_told_26 rfl hl (by decide) rfl (fun ls hl => ?_)
        refine lv_iinc (v := nI (k + 1)) (lv' := [(3, .int (nI (k + 1))), (2, .int (nI ((f_cnt (fun k => if rHd r k = 0 then 0 else 1) k) + 0))), (0, .ref (G 0)), (1, .int w)]) hx hb dX6_told_27 hl (k := 1) rfl (by show nI k + 1 = nI (k + 1); exact nI_1 _) (by decide) rfl (fun ls hl => ?_)
        refine lv_goto (tgt := 4) hx hb dX6_told_30 (by decide) ?_
        have e_2 : (nI (f_cnt (fun k => if rHd r k = 0 then 0 else 1) (k + 1)) : Int32) = nI ((f_cnt (fun k => if rHd r k = 0 then 0 else 1) k) + 0) := (by simp [f_cnt, h_17])
        exact ih_loop (k + 1) (by omega) _ (by rw [e_2]; exact lv_sub hl [0, 1, 2, 3] rfl)
      · have h_17 : ¬ (rHd r k) = 0 := nIne (show ¬ nI (rHd r k) = nI 0 from h_17)
        refine lv_iconst (v := 1) hx hb dX6_told_20 (by decide) ?_
        refine lv_goto (tgt := 25) hx hb dX6_told_21 (by decide) ?_
        refine lv_iadd hx hb dX6_told_25 ?_
        refine px_topi (y := nI ((f_cnt (fun k => if rHd r k = 0 then 0 else 1) k) + 1)) (nI_add _ _) ?_
        refine lv_istore_n (lv' := [(2, .int (nI ((f_cnt (fun k => if rHd r k = 0 then 0 else 1) k) + 1))), (3, .int (nI k)), (0, .ref (G 0)), (1, .int w)]) hx hb dX6_told_26 rfl hl (by decide) rfl (fun ls hl => ?_)
        refine lv_iinc (v := nI (k + 1)) (lv' := [(3, .int (nI (k + 1))), (2, .int (nI ((f_cnt (fun k => if rHd r k = 0 then 0 else 1) k) + 1))), (0, .ref (G 0)), (1, .int w)]) hx hb dX6_told_27 hl (k := 1) rfl (by show nI k + 1 = nI (k + 1); exact nI_1 _) (by decide) rfl (fun ls hl => ?_)
        refine lv_goto (tgt := 4) hx hb dX6_told_30 (by decide) ?_
        have e_2 : (nI (f_cnt (fun k => if rHd r k = 0 then 0 else 1) (k + 1)) : Int32) = nI ((f_cnt (fun k => if rHd r k = 0 then 0 else 1) k) + 1) := (by simp [f_cnt, h_17])
        exact ih_loop (k + 1) (by omega) _ (by rw [e_2]; exact lv_sub hl [0, 1, 2, 3] rfl)
  have e_2 : (nI (f_cnt (fun k => if rHd r k = 0 then 0 else 1) 0) : Int32) = 0 := (by rfl)
  exact loop 16 0 (by omega) _ (by rw [e_2]; exact lv_sub hl [0, 1, 2, 3] rfl)
end
section
theorem f_all_le (q : Nat → Bool) {k : Nat} (h : f_all q k = false) : ∀ n, k ≤ n → f_all q n = false := by
  intro n hn
  induction n with
  | zero => rw [show k = 0 by omega] at h; exact h
  | succ n ih =>
    by_cases hk : k = n + 1
    · rw [← hk]; exact h
    · simp [f_all, ih (by omega)]
theorem b2i_1 {b : Bool} (h : b = true) : b2i b = 1 := by rw [h]; rfl
theorem b2i_0 {b : Bool} (h : b = false) : b2i b = 0 := by rw [h]; rfl
theorem shaped_t {r : RS} {a b : Nat} (h : f_shaped r a b = true) : a ≠ 0 ∧ b ≠ 0 ∧ rK r a = rK r b ∧ rMn r a = rMn r b := by
  simp only [f_shaped, Bool.and_eq_true, Bool.not_eq_true', decide_eq_false_iff_not, decide_eq_true_eq] at h
  exact ⟨h.1.1.1, h.1.1.2, h.1.2, h.2⟩
theorem rkN_lt {k : Nat} (h : k < 13) (h2 : 10 ≤ k) : rkN k ≤ 8 := by
  rcases (show k = 10 ∨ k = 11 ∨ k = 12 by omega) with rfl | rfl | rfl <;> decide
end
section
/-! the reference: likes -/
set_option maxHeartbeats 400000 in
set_option maxRecDepth 100000 in
theorem c_X6_areFlatLike (l : Launch) (D : va_G) (cy : Nat → ClassId) (A : Nat → Prop) (G : Nat → Nat) (r : RS) (C : Nat → Nat) (E : Nat → Int64) (sz : Nat) (a b : Nat) {kk : Nat} (hI : Inv kk r) (ha : a ≤ rT r) (hb1 : b ≤ rT r) (h10 : a ≠ 0 → b ≠ 0 → rK r a < 10) : Met l yX6_areFlatLike (px_w yX6_areFlatLike cX6_areFlatLike 5 (some .boolean)) (rmd 2 0 0) (px_P D cy [.ref (G 0), .int (nI a), .int (nI b)] sz (MR D cy A G r C E)) (px_V (some (.int (b2i (f_fla r a b))))) 0 0 (fun _ => False) := by
  refine px_met (by decide) (Nat.le_of_ble_eq_true rfl) ?_
  intro p e s m below meth c F hr hlocks hnm hK hsz hR ls hl
  have hx := F.1
  have hb := F.2.1
  have hl : lv_has ls 5 [(0, .ref (G 0)), (1, .int (nI a)), (2, .int (nI b))] := hl
  have hbd := hI.bd
  have ha1 := hI.tb a ha
  have hb2 := hI.tb b hb1
  refine lv_iload_n hx hb dX6_areFlatLike_0 rfl (lv_at hl 1 rfl) ?_
  refine lv_iload_n hx hb dX6_areFlatLike_1 rfl (lv_at hl 2 rfl) ?_
  refine lv_icmp_ne (tgt := 7) hx hb dX6_areFlatLike_2 (by decide) (fun h_2 => ?_) (fun h_2 => ?_)
  · have h_2 : ¬ a = b := nIne (show ¬ nI a = nI b from h_2)
    refine lv_aload_n hx hb dX6_areFlatLike_7 rfl (lv_at hl 0 rfl) ?_
    refine lv_iload_n hx hb dX6_areFlatLike_8 rfl (lv_at hl 1 rfl) ?_
    refine lv_iload_n hx hb dX6_areFlatLike_9 rfl (lv_at hl 2 rfl) ?_
    refine px_goV (st1 := [.int (b2i (f_shaped r a b))]) (px_callV F hK (c_X6_areShaped l D cy A G r _ _ _ a b (by omega) (by omega) (by omega) (by omega) (by omega) (by omega)) kc_X6_areShaped kw_methodLink_RX6_138 rfl hR (m_recv hK hR) rfl ⟨rfl, rfl⟩ ⟨Nat.le_of_ble_eq_true rfl, Nat.le_of_ble_eq_true rfl⟩ hl.1 rfl (Nat.le_of_ble_eq_true rfl) dX6_areFlatLike_10 ⟨Nat.zero_le _, Nat.zero_le _⟩) rfl ?_
    refine lv_istore_n (lv' := [(3, .int (b2i (f_shaped r a b))), (0, .ref (G 0)), (1, .int (nI a)), (2, .int (nI b))]) hx hb dX6_areFlatLike_13 rfl hl (by decide) rfl (fun ls hl => ?_)
    refine lv_iconst (v := 0) hx hb dX6_areFlatLike_14 (by decide) ?_
    refine lv_istore (lv' := [(4, .int 0), (3, .int (b2i (f_shaped r a b))), (0, .ref (G 0)), (1, .int (nI a)), (2, .int (nI b))]) hx hb dX6_areFlatLike_15 hl (by decide) rfl (fun ls hl => ?_)
    have loop : ∀ (d k : Nat), k + d = rMn r a → ∀ (ls : Array Slot), lv_has ls 5 [(4, .int (nI k)), (3, .int (b2i (f_shaped r a b && f_all (fun k => if rK r a < 8 then decide (f_at r a k = f_at r b k) else f_thl r (iv (f_at r a k)) (iv (f_at r b k))) k))), (0, .ref (G 0)), (1, .int (nI a)), (2, .int (nI b))] → W p l e (rmd 2 0 0) s m ([.ref (G 0), .int (nI a), .int (nI b)] : List Value).toArray below meth c s.heap [] 0 0 (MQ below (px_V (some (.int (b2i (f_fla r a b))))) ([.ref (G 0), .int (nI a), .int (nI b)] : List Value).toArray s 0 0 (fun _ => False)) (F0 m 17 ls []) := by
      intro d
      induction d with
      | zero =>
        intro k hk ls hl
        refine lv_iload_n hx hb dX6_areFlatLike_17 rfl (lv_at hl 1 rfl) ?_
        refine x_ifeq_b (tgt := 96) hx hb dX6_areFlatLike_18 (by decide) (fun h_18 => ?_) (fun h_18 => ?_)
        · refine lv_iload_n hx hb dX6_areFlatLike_96 rfl (lv_at hl 1 rfl) ?_
          have efin : (f_shaped r a b && f_all (fun k => if rK r a < 8 then decide (f_at r a k = f_at r b k) else f_thl r (iv (f_at r a k)) (iv (f_at r b k))) k) = (f_shaped r a b && f_all (fun k => if rK r a < 8 then decide (f_at r a k = f_at r b k) else f_thl r (iv (f_at r a k)) (iv (f_at r b k))) (rMn r a)) := (by rw [h_18]; cases hq : f_shaped r a b with | false => rfl | true => rw [f_all_le (fun k => if rK r a < 8 then decide (f_at r a k = f_at r b k) else f_thl r (iv (f_at r a k)) (iv (f_at r b k))) (k := k) (by rw [hq] at h_18; simpa using h_18) _ (by omega)]; rfl)
          exact pv_zret F hr hlocks (b2i_01 _) (by rw [efin]; simp [f_fla, h_2]) dX6_areFlatLike_97
        · have hsh := shaped_t ((Bool.and_eq_true _ _).mp h_18).1
          refine lv_iload hx hb dX6_areFlatLike_21 (lv_at hl 0 rfl) ?_
          refine lv_aload_n hx hb dX6_areFlatLike_23 rfl (lv_at hl 2 rfl) ?_
          refine m_get F hK hR 2 (by decide) rfl kw_fieldLink_RX6_13 dX6_areFlatLike_24 ?_
          refine lv_iload_n hx hb dX6_areFlatLike_27 rfl (lv_at hl 3 rfl) ?_
          refine m_ldMn F hK hR a rfl (by omega) dX6_areFlatLike_28 ?_
          refine lv_icmp_ge (tgt := 96) hx hb dX6_areFlatLike_29 (by decide) (fun h_29 => ?_) (fun h_29 => by exfalso; have h_29 : k < (rMn r a) := nInle (show ¬ nI (rMn r a) ≤ nI k from h_29) (by omega) (by omega); omega)
          have h_29 : (rMn r a) ≤ k := nIle (show nI (rMn r a) ≤ nI k from h_29) (by omega) (by omega)
          refine lv_iload_n hx hb dX6_areFlatLike_96 rfl (lv_at hl 1 rfl) ?_
          have efin : (f_shaped r a b && f_all (fun k => if rK r a < 8 then decide (f_at r a k = f_at r b k) else f_thl r (iv (f_at r a k)) (iv (f_at r b k))) k) = (f_shaped r a b && f_all (fun k => if rK r a < 8 then decide (f_at r a k = f_at r b k) else f_thl r (iv (f_at r a k)) (iv (f_at r b k))) (rMn r a)) := (by rw [show k = rMn r a by omega])
          exact pv_zret F hr hlocks (b2i_01 _) (by rw [efin]; simp [f_fla, h_2]) dX6_areFlatLike_97
      | succ d ih_loop =>
        intro k hk ls hl
        refine lv_iload_n hx hb dX6_areFlatLike_17 rfl (lv_at hl 1 rfl) ?_
        refine x_ifeq_b (tgt := 96) hx hb dX6_areFlatLike_18 (by decide) (fun h_18 => ?_) (fun h_18 => ?_)
        · refine lv_iload_n hx hb dX6_areFlatLike_96 rfl (lv_at hl 1 rfl) ?_
          have efin : (f_shaped r a b && f_all (fun k => if rK r a < 8 then decide (f_at r a k = f_at r b k) else f_thl r (iv (f_at r a k)) (iv (f_at r b k))) k) = (f_shaped r a b && f_all (fun k => if rK r a < 8 then decide (f_at r a k = f_at r b k) else f_thl r (iv (f_at r a k)) (iv (f_at r b k))) (rMn r a)) := (by rw [h_18]; cases hq : f_shaped r a b with | false => rfl | true => rw [f_all_le (fun k => if rK r a < 8 then decide (f_at r a k = f_at r b k) else f_thl r (iv (f_at r a k)) (iv (f_at r b k))) (k := k) (by rw [hq] at h_18; simpa using h_18) _ (by omega)]; rfl)
          exact pv_zret F hr hlocks (b2i_01 _) (by rw [efin]; simp [f_fla, h_2]) dX6_areFlatLike_97
        · have hsh := shaped_t ((Bool.and_eq_true _ _).mp h_18).1
          refine lv_iload hx hb dX6_areFlatLike_21 (lv_at hl 0 rfl) ?_
          refine lv_aload_n hx hb dX6_areFlatLike_23 rfl (lv_at hl 2 rfl) ?_
          refine m_get F hK hR 2 (by decide) rfl kw_fieldLink_RX6_13 dX6_areFlatLike_24 ?_
          refine lv_iload_n hx hb dX6_areFlatLike_27 rfl (lv_at hl 3 rfl) ?_
          refine m_ldMn F hK hR a rfl (by omega) dX6_areFlatLike_28 ?_
          refine lv_icmp_ge (tgt := 96) hx hb dX6_areFlatLike_29 (by decide) (fun h_29 => by exfalso; have h_29 : (rMn r a) ≤ k := nIle (show nI (rMn r a) ≤ nI k from h_29) (by omega) (by omega); omega) (fun h_29 => ?_)
          have h_29 : k < (rMn r a) := nInle (show ¬ nI (rMn r a) ≤ nI k from h_29) (by omega) (by omega)
          refine lv_aload_n hx hb dX6_areFlatLike_32 rfl (lv_at hl 2 rfl) ?_
          refine m_get F hK hR 1 (by decide) rfl kw_fieldLink_RX6_7 dX6_areFlatLike_33 ?_
          refine lv_iload_n hx hb dX6_areFlatLike_36 rfl (lv_at hl 3 rfl) ?_
          refine m_ldK F hK hR a rfl (by omega) dX6_areFlatLike_37 ?_
          refine lv_bipush (v := 8) hx hb dX6_areFlatLike_38 (by decide) ?_
          refine lv_icmp_ge (tgt := 69) hx hb dX6_areFlatLike_40 (by decide) (fun h_40 => ?_) (fun h_40 => ?_)
          · have h_40 : 8 ≤ (rK r a) := nIle (show nI 8 ≤ nI (rK r a) from h_40) (by omega) (by omega)
            refine lv_aload_n hx hb dX6_areFlatLike_69 rfl (lv_at hl 2 rfl) ?_
            refine lv_aload_n hx hb dX6_areFlatLike_70 rfl (lv_at hl 2 rfl) ?_
            refine lv_iload_n hx hb dX6_areFlatLike_71 rfl (lv_at hl 3 rfl) ?_
            refine lv_iload hx hb dX6_areFlatLike_72 (lv_at hl 0 rfl) ?_
            refine px_goV (st1 := [.long (f_at r a k), .ref (G 0)]) (px_callV F hK (c_X6_at l D cy A G r _ _ _ a k (by omega) (show rS r a + k < 12200 by omega)) kc_X6_at kw_methodLink_RX6_80 rfl hR (m_recv hK hR) rfl ⟨rfl, rfl⟩ ⟨Nat.le_of_ble_eq_true rfl, Nat.le_of_ble_eq_true rfl⟩ hl.1 rfl (Nat.le_of_ble_eq_true rfl) dX6_areFlatLike_74 ⟨Nat.zero_le _, Nat.zero_le _⟩) rfl ?_
            have hita := hI.it hsh.1 ha h_29 (by omega)
            have hitb := hI.it hsh.2.1 hb1 (show k < rMn r b by omega) (by omega)
            have h10b := h10 hsh.1 hsh.2.1
            have hva := hita.2.2.1 (by omega)
            have hvb := hitb.2.2.1 (by omega)
            refine px_topl hita.1 ?_
            refine lv_l2i (v := nI (iv (f_at r a k))) hx hb dX6_areFlatLike_77 (lN_i _) ?_
            refine lv_aload_n hx hb dX6_areFlatLike_78 rfl (lv_at hl 2 rfl) ?_
            refine lv_iload_n hx hb dX6_areFlatLike_79 rfl (lv_at hl 4 rfl) ?_
            refine lv_iload hx hb dX6_areFlatLike_80 (lv_at hl 0 rfl) ?_
            refine px_goV (st1 := [.long (f_at r b k), .int (nI (iv (f_at r a k))), .ref (G 0)]) (px_callV F hK (c_X6_at l D cy A G r _ _ _ b k (by omega) (show rS r b + k < 12200 by omega)) kc_X6_at kw_methodLink_RX6_80 rfl hR (m_recv hK hR) rfl ⟨rfl, rfl⟩ ⟨Nat.le_of_ble_eq_true rfl, Nat.le_of_ble_eq_true rfl⟩ hl.1 rfl (Nat.le_of_ble_eq_true rfl) dX6_areFlatLike_82 ⟨Nat.zero_le _, Nat.zero_le _⟩) rfl ?_
            refine px_topl hitb.1 ?_
            refine lv_l2i (v := nI (iv (f_at r b k))) hx hb dX6_areFlatLike_85 (lN_i _) ?_
            refine px_goV (st1 := [.int (b2i (f_thl r (iv (f_at r a k)) (iv (f_at r b k))))]) (px_callV F hK (c_X6_areThingsLike l D cy A G r _ _ _ (iv (f_at r a k)) (iv (f_at r b k)) (by omega) (by omega)) kc_X6_areThingsLike kw_methodLink_RX6_141 rfl hR (m_recv hK hR) rfl ⟨rfl, rfl⟩ ⟨Nat.le_of_ble_eq_true rfl, Nat.le_of_ble_eq_true rfl⟩ hl.1 rfl (Nat.le_of_ble_eq_true rfl) dX6_areFlatLike_86 ⟨Nat.zero_le _, Nat.zero_le _⟩) rfl ?_
            refine lv_istore_n (lv' := [(3, .int (b2i (f_thl r (iv (f_at r a k)) (iv (f_at r b k))))), (4, .int (nI k)), (0, .ref (G 0)), (1, .int (nI a)), (2, .int (nI b))]) hx hb dX6_areFlatLike_89 rfl hl (by decide) rfl (fun ls hl => ?_)
            refine lv_iinc (v := nI (k + 1)) (lv' := [(4, .int (nI (k + 1))), (3, .int (b2i (f_thl r (iv (f_at r a k)) (iv (f_at r b k))))), (0, .ref (G 0)), (1, .int (nI a)), (2, .int (nI b))]) hx hb dX6_areFlatLike_90 hl (k := 1) rfl (by show nI k + 1 = nI (k + 1); exact nI_1 _) (by decide) rfl (fun ls hl => ?_)
            refine lv_goto (tgt := 17) hx hb dX6_areFlatLike_93 (by decide) ?_
            have e_3 : (b2i (f_shaped r a b && f_all (fun k => if rK r a < 8 then decide (f_at r a k = f_at r b k) else f_thl r (iv (f_at r a k)) (iv (f_at r b k))) (k + 1)) : Int32) = b2i (f_thl r (iv (f_at r a k)) (iv (f_at r b k))) := (by exact congrArg b2i (by rw [f_all]; simp only [Bool.and_eq_true] at h_18; rw [h_18.1, h_18.2]; simp [show ¬ rK r a < 8 by omega]))
            exact ih_loop (k + 1) (by omega) _ (by rw [e_3]; exact lv_sub hl [0, 1, 2, 3, 4] rfl)
          · have h_40 : (rK r a) < 8 := nInle (show ¬ nI 8 ≤ nI (rK r a) from h_40) (by omega) (by omega)
            refine lv_aload_n hx hb dX6_areFlatLike_43 rfl (lv_at hl 2 rfl) ?_
            refine lv_iload_n hx hb dX6_areFlatLike_44 rfl (lv_at hl 3 rfl) ?_
            refine lv_iload hx hb dX6_areFlatLike_45 (lv_at hl 0 rfl) ?_
            refine px_goV (st1 := [.long (f_at r a k)]) (px_callV F hK (c_X6_at l D cy A G r _ _ _ a k (by omega) (show rS r a + k < 12200 by omega)) kc_X6_at kw_methodLink_RX6_80 rfl hR (m_recv hK hR) rfl ⟨rfl, rfl⟩ ⟨Nat.le_of_ble_eq_true rfl, Nat.le_of_ble_eq_true rfl⟩ hl.1 rfl (Nat.le_of_ble_eq_true rfl) dX6_areFlatLike_47 ⟨Nat.zero_le _, Nat.zero_le _⟩) rfl ?_
            refine lv_aload_n hx hb dX6_areFlatLike_50 rfl (lv_at hl 2 rfl) ?_
            refine lv_iload_n hx hb dX6_areFlatLike_51 rfl (lv_at hl 4 rfl) ?_
            refine lv_iload hx hb dX6_areFlatLike_52 (lv_at hl 0 rfl) ?_
            refine px_goV (st1 := [.long (f_at r b k), .long (f_at r a k)]) (px_callV F hK (c_X6_at l D cy A G r _ _ _ b k (by omega) (show rS r b + k < 12200 by omega)) kc_X6_at kw_methodLink_RX6_80 rfl hR (m_recv hK hR) rfl ⟨rfl, rfl⟩ ⟨Nat.le_of_ble_eq_true rfl, Nat.le_of_ble_eq_true rfl⟩ hl.1 rfl (Nat.le_of_ble_eq_true rfl) dX6_areFlatLike_54 ⟨Nat.zero_le _, Nat.zero_le _⟩) rfl ?_
            refine W.lcmp hx hb dX6_areFlatLike_57 ?_
            refine x_cmp_ne (tgt := 65) hx hb dX6_areFlatLike_58 (by decide) (fun h_58 => ?_) (fun h_58 => ?_)
            · refine lv_iconst (v := 0) hx hb dX6_areFlatLike_65 (by decide) ?_
              refine lv_goto (tgt := 89) hx hb dX6_areFlatLike_66 (by decide) ?_
              refine lv_istore_n (lv' := [(3, .int 0), (4, .int (nI k)), (0, .ref (G 0)), (1, .int (nI a)), (2, .int (nI b))]) hx hb dX6_areFlatLike_89 rfl hl (by decide) rfl (fun ls hl => ?_)
              refine lv_iinc (v := nI (k + 1)) (lv' := [(4, .int (nI (k + 1))), (3, .int 0), (0, .ref (G 0)), (1, .int (nI a)), (2, .int (nI b))]) hx hb dX6_areFlatLike_90 hl (k := 1) rfl (by show nI k + 1 = nI (k + 1); exact nI_1 _) (by decide) rfl (fun ls hl => ?_)
              refine lv_goto (tgt := 17) hx hb dX6_areFlatLike_93 (by decide) ?_
              have e_3 : (b2i (f_shaped r a b && f_all (fun k => if rK r a < 8 then decide (f_at r a k = f_at r b k) else f_thl r (iv (f_at r a k)) (iv (f_at r b k))) (k + 1)) : Int32) = 0 := (by exact b2i_0 (by rw [f_all]; simp only [Bool.and_eq_true] at h_18; rw [h_18.1, h_18.2]; simp [show rK r a < 8 by omega, h_58]))
              exact ih_loop (k + 1) (by omega) _ (by rw [e_3]; exact lv_sub hl [0, 1, 2, 3, 4] rfl)
            · refine lv_iconst (v := 1) hx hb dX6_areFlatLike_61 (by decide) ?_
              refine lv_goto (tgt := 89) hx hb dX6_areFlatLike_62 (by decide) ?_
              refine lv_istore_n (lv' := [(3, .int 1), (4, .int (nI k)), (0, .ref (G 0)), (1, .int (nI a)), (2, .int (nI b))]) hx hb dX6_areFlatLike_89 rfl hl (by decide) rfl (fun ls hl => ?_)
              refine lv_iinc (v := nI (k + 1)) (lv' := [(4, .int (nI (k + 1))), (3, .int 1), (0, .ref (G 0)), (1, .int (nI a)), (2, .int (nI b))]) hx hb dX6_areFlatLike_90 hl (k := 1) rfl (by show nI k + 1 = nI (k + 1); exact nI_1 _) (by decide) rfl (fun ls hl => ?_)
              refine lv_goto (tgt := 17) hx hb dX6_areFlatLike_93 (by decide) ?_
              have e_3 : (b2i (f_shaped r a b && f_all (fun k => if rK r a < 8 then decide (f_at r a k = f_at r b k) else f_thl r (iv (f_at r a k)) (iv (f_at r b k))) (k + 1)) : Int32) = 1 := (by exact b2i_1 (by rw [f_all]; simp only [Bool.and_eq_true] at h_18; rw [h_18.1, h_18.2]; simp [show rK r a < 8 by omega, h_58]))
              exact ih_loop (k + 1) (by omega) _ (by rw [e_3]; exact lv_sub hl [0, 1, 2, 3, 4] rfl)
    have e_3 : (b2i (f_shaped r a b && f_all (fun k => if rK r a < 8 then decide (f_at r a k = f_at r b k) else f_thl r (iv (f_at r a k)) (iv (f_at r b k))) 0) : Int32) = b2i (f_shaped r a b) := (by simp [f_all])
    exact loop (rMn r a) 0 (by omega) _ (by rw [e_3]; exact lv_sub hl [0, 1, 2, 3, 4] rfl)
  · have h_2 : a = b := nIeq (show nI a = nI b from h_2) (by omega) (by omega)
    refine lv_iconst (v := 1) hx hb dX6_areFlatLike_5 (by decide) ?_
    exact pv_zret F hr hlocks (Or.inr rfl) (by simp [f_fla, h_2, b2i]) dX6_areFlatLike_6
set_option maxHeartbeats 400000 in
set_option maxRecDepth 100000 in
theorem c_X6_areMiddleLike (l : Launch) (D : va_G) (cy : Nat → ClassId) (A : Nat → Prop) (G : Nat → Nat) (r : RS) (C : Nat → Nat) (E : Nat → Int64) (sz : Nat) (a b : Nat) {kk : Nat} (hI : Inv kk r) (ha : a ≤ rT r) (hb1 : b ≤ rT r) (h13 : a ≠ 0 → b ≠ 0 → rK r a < 13) : Met l yX6_areMiddleLike (px_w yX6_areMiddleLike cX6_areMiddleLike 5 (some .boolean)) (rmd 3 0 0) (px_P D cy [.ref (G 0), .int (nI a), .int (nI b)] sz (MR D cy A G r C E)) (px_V (some (.int (b2i (f_mla r a b))))) 0 0 (fun _ => False) := by
  refine px_met (by decide) (Nat.le_of_ble_eq_true rfl) ?_
  intro p e s m below meth c F hr hlocks hnm hK hsz hR ls hl
  have hx := F.1
  have hb := F.2.1
  have hl : lv_has ls 5 [(0, .ref (G 0)), (1, .int (nI a)), (2, .int (nI b))] := hl
  have hbd := hI.bd
  have ha1 := hI.tb a ha
  have hb2 := hI.tb b hb1
  refine lv_iload_n hx hb dX6_areMiddleLike_0 rfl (lv_at hl 1 rfl) ?_
  refine lv_iload_n hx hb dX6_areMiddleLike_1 rfl (lv_at hl 2 rfl) ?_
  refine lv_icmp_ne (tgt := 7) hx hb dX6_areMiddleLike_2 (by decide) (fun h_2 => ?_) (fun h_2 => ?_)
  · have h_2 : ¬ a = b := nIne (show ¬ nI a = nI b from h_2)
    refine lv_iload_n hx hb dX6_areMiddleLike_7 rfl (lv_at hl 1 rfl) ?_
    refine lv_if_eq (tgt := 26) hx hb dX6_areMiddleLike_8 (by decide) (fun h_8 => ?_) (fun h_8 => ?_)
    · have h_8 : a = 0 := nIeq (show nI a = nI 0 from h_8) (by omega) (by omega)
      refine lv_aload_n hx hb dX6_areMiddleLike_26 rfl (lv_at hl 0 rfl) ?_
      refine lv_iload_n hx hb dX6_areMiddleLike_27 rfl (lv_at hl 1 rfl) ?_
      refine lv_iload_n hx hb dX6_areMiddleLike_28 rfl (lv_at hl 2 rfl) ?_
      refine px_goV (st1 := [.int (b2i (f_fla r a b))]) (px_callV F hK (c_X6_areFlatLike l D cy A G r _ _ _ a b hI (by omega) (by omega) (fun q1 q2 => by omega)) kc_X6_areFlatLike kw_methodLink_RX6_144 rfl hR (m_recv hK hR) rfl ⟨rfl, rfl⟩ ⟨Nat.le_of_ble_eq_true rfl, Nat.le_of_ble_eq_true rfl⟩ hl.1 rfl (Nat.le_of_ble_eq_true rfl) dX6_areMiddleLike_29 ⟨Nat.zero_le _, Nat.zero_le _⟩) rfl ?_
      exact pv_zret F hr hlocks (b2i_01 _) (by rw [show f_mla r a b = f_fla r a b from (by unfold f_mla; rw [decide_eq_false h_2, Bool.false_or, if_pos (by omega)])]) dX6_areMiddleLike_32
    · have h_8 : ¬ a = 0 := nIne (show ¬ nI a = nI 0 from h_8)
      refine lv_iload_n hx hb dX6_areMiddleLike_11 rfl (lv_at hl 2 rfl) ?_
      refine lv_if_eq (tgt := 26) hx hb dX6_areMiddleLike_12 (by decide) (fun h_12 => ?_) (fun h_12 => ?_)
      · have h_12 : b = 0 := nIeq (show nI b = nI 0 from h_12) (by omega) (by omega)
        refine lv_aload_n hx hb dX6_areMiddleLike_26 rfl (lv_at hl 0 rfl) ?_
        refine lv_iload_n hx hb dX6_areMiddleLike_27 rfl (lv_at hl 1 rfl) ?_
        refine lv_iload_n hx hb dX6_areMiddleLike_28 rfl (lv_at hl 2 rfl) ?_
        refine px_goV (st1 := [.int (b2i (f_fla r a b))]) (px_callV F hK (c_X6_areFlatLike l D cy A G r _ _ _ a b hI (by omega) (by omega) (fun q1 q2 => by omega)) kc_X6_areFlatLike kw_methodLink_RX6_144 rfl hR (m_recv hK hR) rfl ⟨rfl, rfl⟩ ⟨Nat.le_of_ble_eq_true rfl, Nat.le_of_ble_eq_true rfl⟩ hl.1 rfl (Nat.le_of_ble_eq_true rfl) dX6_areMiddleLike_29 ⟨Nat.zero_le _, Nat.zero_le _⟩) rfl ?_
        exact pv_zret F hr hlocks (b2i_01 _) (by rw [show f_mla r a b = f_fla r a b from (by unfold f_mla; rw [decide_eq_false h_2, Bool.false_or, if_pos (by omega)])]) dX6_areMiddleLike_32
      · have h_12 : ¬ b = 0 := nIne (show ¬ nI b = nI 0 from h_12)
        refine lv_aload_n hx hb dX6_areMiddleLike_15 rfl (lv_at hl 0 rfl) ?_
        refine m_get F hK hR 1 (by decide) rfl kw_fieldLink_RX6_7 dX6_areMiddleLike_16 ?_
        refine lv_iload_n hx hb dX6_areMiddleLike_19 rfl (lv_at hl 1 rfl) ?_
        refine m_ldK F hK hR a rfl (by omega) dX6_areMiddleLike_20 ?_
        refine lv_bipush (v := 10) hx hb dX6_areMiddleLike_21 (by decide) ?_
        refine lv_icmp_ge (tgt := 33) hx hb dX6_areMiddleLike_23 (by decide) (fun h_23 => ?_) (fun h_23 => ?_)
        · have h_23 : 10 ≤ (rK r a) := nIle (show nI 10 ≤ nI (rK r a) from h_23) (by omega) (by omega)
          refine lv_aload_n hx hb dX6_areMiddleLike_33 rfl (lv_at hl 0 rfl) ?_
          refine lv_iload_n hx hb dX6_areMiddleLike_34 rfl (lv_at hl 1 rfl) ?_
          refine lv_iload_n hx hb dX6_areMiddleLike_35 rfl (lv_at hl 2 rfl) ?_
          refine px_goV (st1 := [.int (b2i (f_shaped r a b))]) (px_callV F hK (c_X6_areShaped l D cy A G r _ _ _ a b (by omega) (by omega) (by omega) (by omega) (by omega) (by omega)) kc_X6_areShaped kw_methodLink_RX6_138 rfl hR (m_recv hK hR) rfl ⟨rfl, rfl⟩ ⟨Nat.le_of_ble_eq_true rfl, Nat.le_of_ble_eq_true rfl⟩ hl.1 rfl (Nat.le_of_ble_eq_true rfl) dX6_areMiddleLike_36 ⟨Nat.zero_le _, Nat.zero_le _⟩) rfl ?_
          refine lv_istore_n (lv' := [(3, .int (b2i (f_shaped r a b))), (0, .ref (G 0)), (1, .int (nI a)), (2, .int (nI b))]) hx hb dX6_areMiddleLike_39 rfl hl (by decide) rfl (fun ls hl => ?_)
          refine lv_iconst (v := 0) hx hb dX6_areMiddleLike_40 (by decide) ?_
          refine lv_istore (lv' := [(4, .int 0), (3, .int (b2i (f_shaped r a b))), (0, .ref (G 0)), (1, .int (nI a)), (2, .int (nI b))]) hx hb dX6_areMiddleLike_41 hl (by decide) rfl (fun ls hl => ?_)
          have loop : ∀ (d k : Nat), k + d = rMn r a → ∀ (ls : Array Slot), lv_has ls 5 [(4, .int (nI k)), (3, .int (b2i (f_shaped r a b && f_all (fun k => f_fla r (iv (f_at r a k)) (iv (f_at r b k))) k))), (0, .ref (G 0)), (1, .int (nI a)), (2, .int (nI b))] → W p l e (rmd 3 0 0) s m ([.ref (G 0), .int (nI a), .int (nI b)] : List Value).toArray below meth c s.heap [] 0 0 (MQ below (px_V (some (.int (b2i (f_mla r a b))))) ([.ref (G 0), .int (nI a), .int (nI b)] : List Value).toArray s 0 0 (fun _ => False)) (F0 m 43 ls []) := by
            intro d
            induction d with
            | zero =>
              intro k hk ls hl
              refine lv_iload_n hx hb dX6_areMiddleLike_43 rfl (lv_at hl 1 rfl) ?_
              refine x_ifeq_b (tgt := 85) hx hb dX6_areMiddleLike_44 (by decide) (fun h_44 => ?_) (fun h_44 => ?_)
              · refine lv_iload_n hx hb dX6_areMiddleLike_85 rfl (lv_at hl 1 rfl) ?_
                have efin : (f_shaped r a b && f_all (fun k => f_fla r (iv (f_at r a k)) (iv (f_at r b k))) k) = (f_shaped r a b && f_all (fun k => f_fla r (iv (f_at r a k)) (iv (f_at r b k))) (rMn r a)) := (by rw [h_44]; cases hq : f_shaped r a b with | false => rfl | true => rw [f_all_le (fun k => f_fla r (iv (f_at r a k)) (iv (f_at r b k))) (k := k) (by rw [hq] at h_44; simpa using h_44) _ (by omega)]; rfl)
                exact pv_zret F hr hlocks (b2i_01 _) (by rw [efin]; rw [show f_mla r a b = _ from (by unfold f_mla; rw [decide_eq_false h_2, Bool.false_or, if_neg (by omega)])]) dX6_areMiddleLike_86
              · have hsh := shaped_t ((Bool.and_eq_true _ _).mp h_44).1
                have h13b := h13 hsh.1 hsh.2.1
                refine lv_iload hx hb dX6_areMiddleLike_47 (lv_at hl 0 rfl) ?_
                refine lv_aload_n hx hb dX6_areMiddleLike_49 rfl (lv_at hl 2 rfl) ?_
                refine m_get F hK hR 2 (by decide) rfl kw_fieldLink_RX6_13 dX6_areMiddleLike_50 ?_
                refine lv_iload_n hx hb dX6_areMiddleLike_53 rfl (lv_at hl 3 rfl) ?_
                refine m_ldMn F hK hR a rfl (by omega) dX6_areMiddleLike_54 ?_
                refine lv_icmp_ge (tgt := 85) hx hb dX6_areMiddleLike_55 (by decide) (fun h_55 => ?_) (fun h_55 => by exfalso; have h_55 : k < (rMn r a) := nInle (show ¬ nI (rMn r a) ≤ nI k from h_55) (by omega) (by omega); omega)
                have h_55 : (rMn r a) ≤ k := nIle (show nI (rMn r a) ≤ nI k from h_55) (by omega) (by omega)
                refine lv_iload_n hx hb dX6_areMiddleLike_85 rfl (lv_at hl 1 rfl) ?_
                have efin : (f_shaped r a b && f_all (fun k => f_fla r (iv (f_at r a k)) (iv (f_at r b k))) k) = (f_shaped r a b && f_all (fun k => f_fla r (iv (f_at r a k)) (iv (f_at r b k))) (rMn r a)) := (by rw [show k = rMn r a by omega])
                exact pv_zret F hr hlocks (b2i_01 _) (by rw [efin]; rw [show f_mla r a b = _ from (by unfold f_mla; rw [decide_eq_false h_2, Bool.false_or, if_neg (by omega)])]) dX6_areMiddleLike_86
            | succ d ih_loop =>
              intro k hk ls hl
              refine lv_iload_n hx hb dX6_areMiddleLike_43 rfl (lv_at hl 1 rfl) ?_
              refine x_ifeq_b (tgt := 85) hx hb dX6_areMiddleLike_44 (by decide) (fun h_44 => ?_) (fun h_44 => ?_)
              · refine lv_iload_n hx hb dX6_areMiddleLike_85 rfl (lv_at hl 1 rfl) ?_
                have efin : (f_shaped r a b && f_all (fun k => f_fla r (iv (f_at r a k)) (iv (f_at r b k))) k) = (f_shaped r a b && f_all (fun k => f_fla r (iv (f_at r a k)) (iv (f_at r b k))) (rMn r a)) := (by rw [h_44]; cases hq : f_shaped r a b with | false => rfl | true => rw [f_all_le (fun k => f_fla r (iv (f_at r a k)) (iv (f_at r b k))) (k := k) (by rw [hq] at h_44; simpa using h_44) _ (by omega)]; rfl)
                exact pv_zret F hr hlocks (b2i_01 _) (by rw [efin]; rw [show f_mla r a b = _ from (by unfold f_mla; rw [decide_eq_false h_2, Bool.false_or, if_neg (by omega)])]) dX6_areMiddleLike_86
              · have hsh := shaped_t ((Bool.and_eq_true _ _).mp h_44).1
                have h13b := h13 hsh.1 hsh.2.1
                refine lv_iload hx hb dX6_areMiddleLike_47 (lv_at hl 0 rfl) ?_
                refine lv_aload_n hx hb dX6_areMiddleLike_49 rfl (lv_at hl 2 rfl) ?_
                refine m_get F hK hR 2 (by decide) rfl kw_fieldLink_RX6_13 dX6_areMiddleLike_50 ?_
                refine lv_iload_n hx hb dX6_areMiddleLike_53 rfl (lv_at hl 3 rfl) ?_
                refine m_ldMn F hK hR a rfl (by omega) dX6_areMiddleLike_54 ?_
                refine lv_icmp_ge (tgt := 85) hx hb dX6_areMiddleLike_55 (by decide) (fun h_55 => by exfalso; have h_55 : (rMn r a) ≤ k := nIle (show nI (rMn r a) ≤ nI k from h_55) (by omega) (by omega); omega) (fun h_55 => ?_)
                have h_55 : k < (rMn r a) := nInle (show ¬ nI (rMn r a) ≤ nI k from h_55) (by omega) (by omega)
                refine lv_aload_n hx hb dX6_areMiddleLike_58 rfl (lv_at hl 2 rfl) ?_
                refine lv_aload_n hx hb dX6_areMiddleLike_59 rfl (lv_at hl 2 rfl) ?_
                refine lv_iload_n hx hb dX6_areMiddleLike_60 rfl (lv_at hl 3 rfl) ?_
                refine lv_iload hx hb dX6_areMiddleLike_61 (lv_at hl 0 rfl) ?_
                refine px_goV (st1 := [.long (f_at r a k), .ref (G 0)]) (px_callV F hK (c_X6_at l D cy A G r _ _ _ a k (by omega) (show rS r a + k < 12200 by omega)) kc_X6_at kw_methodLink_RX6_80 rfl hR (m_recv hK hR) rfl ⟨rfl, rfl⟩ ⟨Nat.le_of_ble_eq_true rfl, Nat.le_of_ble_eq_true rfl⟩ hl.1 rfl (Nat.le_of_ble_eq_true rfl) dX6_areMiddleLike_63 ⟨Nat.zero_le _, Nat.zero_le _⟩) rfl ?_
                have hita := hI.it hsh.1 ha h_55 (by omega)
                have hitb := hI.it hsh.2.1 hb1 (show k < rMn r b by omega) (by omega)
                have hra := hita.2.2.2.2 (by omega)
                have hrb := hitb.2.2.2.2 (by omega)
                refine px_topl hita.1 ?_
                refine lv_l2i (v := nI (iv (f_at r a k))) hx hb dX6_areMiddleLike_66 (lN_i _) ?_
                refine lv_aload_n hx hb dX6_areMiddleLike_67 rfl (lv_at hl 2 rfl) ?_
                refine lv_iload_n hx hb dX6_areMiddleLike_68 rfl (lv_at hl 4 rfl) ?_
                refine lv_iload hx hb dX6_areMiddleLike_69 (lv_at hl 0 rfl) ?_
                refine px_goV (st1 := [.long (f_at r b k), .int (nI (iv (f_at r a k))), .ref (G 0)]) (px_callV F hK (c_X6_at l D cy A G r _ _ _ b k (by omega) (show rS r b + k < 12200 by omega)) kc_X6_at kw_methodLink_RX6_80 rfl hR (m_recv hK hR) rfl ⟨rfl, rfl⟩ ⟨Nat.le_of_ble_eq_true rfl, Nat.le_of_ble_eq_true rfl⟩ hl.1 rfl (Nat.le_of_ble_eq_true rfl) dX6_areMiddleLike_71 ⟨Nat.zero_le _, Nat.zero_le _⟩) rfl ?_
                refine px_topl hitb.1 ?_
                refine lv_l2i (v := nI (iv (f_at r b k))) hx hb dX6_areMiddleLike_74 (lN_i _) ?_
                refine px_goV (st1 := [.int (b2i (f_fla r (iv (f_at r a k)) (iv (f_at r b k))))]) (px_callV F hK (c_X6_areFlatLike l D cy A G r _ _ _ (iv (f_at r a k)) (iv (f_at r b k)) hI hra.1 hrb.1 (fun q1 _ => by have q3 := isOf_k (hra.2 q1) q1; have q4 := rkN_lt (show rK r a < 13 by omega) (show 10 ≤ rK r a by omega); omega)) kc_X6_areFlatLike kw_methodLink_RX6_144 rfl hR (m_recv hK hR) rfl ⟨rfl, rfl⟩ ⟨Nat.le_of_ble_eq_true rfl, Nat.le_of_ble_eq_true rfl⟩ hl.1 rfl (Nat.le_of_ble_eq_true rfl) dX6_areMiddleLike_75 ⟨Nat.zero_le _, Nat.zero_le _⟩) rfl ?_
                refine lv_istore_n (lv' := [(3, .int (b2i (f_fla r (iv (f_at r a k)) (iv (f_at r b k))))), (4, .int (nI k)), (0, .ref (G 0)), (1, .int (nI a)), (2, .int (nI b))]) hx hb dX6_areMiddleLike_78 rfl hl (by decide) rfl (fun ls hl => ?_)
                refine lv_iinc (v := nI (k + 1)) (lv' := [(4, .int (nI (k + 1))), (3, .int (b2i (f_fla r (iv (f_at r a k)) (iv (f_at r b k))))), (0, .ref (G 0)), (1, .int (nI a)), (2, .int (nI b))]) hx hb dX6_areMiddleLike_79 hl (k := 1) rfl (by show nI k + 1 = nI (k + 1); exact nI_1 _) (by decide) rfl (fun ls hl => ?_)
                refine lv_goto (tgt := 43) hx hb dX6_areMiddleLike_82 (by decide) ?_
                have e_3 : (b2i (f_shaped r a b && f_all (fun k => f_fla r (iv (f_at r a k)) (iv (f_at r b k))) (k + 1)) : Int32) = b2i (f_fla r (iv (f_at r a k)) (iv (f_at r b k))) := (by exact congrArg b2i (by rw [f_all]; simp only [Bool.and_eq_true] at h_44; rw [h_44.1, h_44.2]; rfl))
                exact ih_loop (k + 1) (by omega) _ (by rw [e_3]; exact lv_sub hl [0, 1, 2, 3, 4] rfl)
          have e_3 : (b2i (f_shaped r a b && f_all (fun k => f_fla r (iv (f_at r a k)) (iv (f_at r b k))) 0) : Int32) = b2i (f_shaped r a b) := (by simp [f_all])
          exact loop (rMn r a) 0 (by omega) _ (by rw [e_3]; exact lv_sub hl [0, 1, 2, 3, 4] rfl)
        · have h_23 : (rK r a) < 10 := nInle (show ¬ nI 10 ≤ nI (rK r a) from h_23) (by omega) (by omega)
          refine lv_aload_n hx hb dX6_areMiddleLike_26 rfl (lv_at hl 0 rfl) ?_
          refine lv_iload_n hx hb dX6_areMiddleLike_27 rfl (lv_at hl 1 rfl) ?_
          refine lv_iload_n hx hb dX6_areMiddleLike_28 rfl (lv_at hl 2 rfl) ?_
          refine px_goV (st1 := [.int (b2i (f_fla r a b))]) (px_callV F hK (c_X6_areFlatLike l D cy A G r _ _ _ a b hI (by omega) (by omega) (fun q1 q2 => by omega)) kc_X6_areFlatLike kw_methodLink_RX6_144 rfl hR (m_recv hK hR) rfl ⟨rfl, rfl⟩ ⟨Nat.le_of_ble_eq_true rfl, Nat.le_of_ble_eq_true rfl⟩ hl.1 rfl (Nat.le_of_ble_eq_true rfl) dX6_areMiddleLike_29 ⟨Nat.zero_le _, Nat.zero_le _⟩) rfl ?_
          exact pv_zret F hr hlocks (b2i_01 _) (by rw [show f_mla r a b = f_fla r a b from (by unfold f_mla; rw [decide_eq_false h_2, Bool.false_or, if_pos (by omega)])]) dX6_areMiddleLike_32
  · have h_2 : a = b := nIeq (show nI a = nI b from h_2) (by omega) (by omega)
    refine lv_iconst (v := 1) hx hb dX6_areMiddleLike_5 (by decide) ?_
    exact pv_zret F hr hlocks (Or.inr rfl) (by simp [f_mla, h_2, b2i]) dX6_areMiddleLike_6
end
section
/-! the reference: alike, fill, clear, raise -/
set_option maxHeartbeats 400000 in
set_option maxRecDepth 100000 in
theorem c_X6_alike (l : Launch) (D : va_G) (cy : Nat → ClassId) (A : Nat → Prop) (G : Nat → Nat) (r : RS) (C : Nat → Nat) (E : Nat → Int64) (sz : Nat) (cl ot : Int32) {kk : Nat} (hI : Inv kk r) : Met l yX6_alike (px_w yX6_alike cX6_alike 7 (some .int)) (rmd 4 0 0) (px_P D cy [.ref (G 0), .int cl, .int ot] sz (MR D cy A G r C E)) (px_V (some (.int (f_alike r cl ot)))) 0 0 (fun _ => False) := by
  refine px_met (by decide) (Nat.le_of_ble_eq_true rfl) ?_
  intro p e s m below meth c F hr hlocks hnm hK hsz hR ls hl
  have hx := F.1
  have hb := F.2.1
  have hl : lv_has ls 7 [(0, .ref (G 0)), (1, .int cl), (2, .int ot)] := hl
  have hbd := hI.bd
  refine lv_iload_n hx hb dX6_alike_0 rfl (lv_at hl 1 rfl) ?_
  refine px_goV (st1 := [.int (b2i (f_in cl 0 15))]) (px_callS F hK (c_X6_isColumn l D cy _ cl) kc_X6_isColumn kw_methodLink_RX6_53 rfl trivial rfl ⟨rfl, rfl⟩ ⟨Nat.le_of_ble_eq_true rfl, Nat.le_of_ble_eq_true rfl⟩ hl.1 rfl (Nat.le_of_ble_eq_true rfl) dX6_alike_1 ⟨Nat.zero_le _, Nat.zero_le _⟩) rfl ?_
  refine x_ifeq_b (tgt := 14) hx hb dX6_alike_4 (by decide) (fun h_4 => ?_) (fun h_4 => ?_)
  · refine lv_bipush (v := -2) hx hb dX6_alike_14 (by decide) ?_
    exact pv_iret F hr hlocks (by rw [show f_alike r cl ot = -2 from (by simp [f_alike, h_4])]) dX6_alike_16
  · refine lv_iload_n hx hb dX6_alike_7 rfl (lv_at hl 2 rfl) ?_
    refine px_goV (st1 := [.int (b2i (f_in ot 0 15))]) (px_callS F hK (c_X6_isColumn l D cy _ ot) kc_X6_isColumn kw_methodLink_RX6_53 rfl trivial rfl ⟨rfl, rfl⟩ ⟨Nat.le_of_ble_eq_true rfl, Nat.le_of_ble_eq_true rfl⟩ hl.1 rfl (Nat.le_of_ble_eq_true rfl) dX6_alike_8 ⟨Nat.zero_le _, Nat.zero_le _⟩) rfl ?_
    refine x_ifne_b (tgt := 17) hx hb dX6_alike_11 (by decide) (fun h_11 => ?_) (fun h_11 => ?_)
    · obtain ⟨cn, hl_cn, hh_cn, rfl⟩ := f_in_nat h_4 0 15 (by decide) (by decide) (by decide) (by decide)
      obtain ⟨on, hl_on, hh_on, rfl⟩ := f_in_nat h_11 0 15 (by decide) (by decide) (by decide) (by decide)
      have hc0 := hI.hd cn (by omega)
      have hc1 := hI.tb _ hc0
      have hd0 := hI.hd on (by omega)
      have hd1 := hI.tb _ hd0
      refine lv_aload_n hx hb dX6_alike_17 rfl (lv_at hl 0 rfl) ?_
      refine m_get F hK hR 9 (by decide) rfl kw_fieldLink_RX6_31 dX6_alike_18 ?_
      refine lv_iload_n hx hb dX6_alike_21 rfl (lv_at hl 1 rfl) ?_
      refine m_ldHd F hK hR cn rfl (by omega) dX6_alike_22 ?_
      refine lv_istore_n (lv' := [(3, .int (nI (rHd r cn))), (0, .ref (G 0)), (1, .int (nI cn)), (2, .int (nI on))]) hx hb dX6_alike_23 rfl hl (by decide) rfl (fun ls hl => ?_)
      refine lv_aload_n hx hb dX6_alike_24 rfl (lv_at hl 1 rfl) ?_
      refine m_get F hK hR 9 (by decide) rfl kw_fieldLink_RX6_31 dX6_alike_25 ?_
      refine lv_iload_n hx hb dX6_alike_28 rfl (lv_at hl 3 rfl) ?_
      refine m_ldHd F hK hR on rfl (by omega) dX6_alike_29 ?_
      refine lv_istore (lv' := [(4, .int (nI (rHd r on))), (3, .int (nI (rHd r cn))), (0, .ref (G 0)), (1, .int (nI cn)), (2, .int (nI on))]) hx hb dX6_alike_30 hl (by decide) rfl (fun ls hl => ?_)
      refine lv_iload_n hx hb dX6_alike_32 rfl (lv_at hl 1 rfl) ?_
      refine lv_iload hx hb dX6_alike_33 (lv_at hl 0 rfl) ?_
      refine lv_icmp_ne (tgt := 40) hx hb dX6_alike_35 (by decide) (fun h_35 => ?_) (fun h_35 => ?_)
      · have h_35 : ¬ (rHd r cn) = (rHd r on) := nIne (show ¬ nI (rHd r cn) = nI (rHd r on) from h_35)
        refine lv_iload_n hx hb dX6_alike_40 rfl (lv_at hl 1 rfl) ?_
        refine lv_if_eq (tgt := 60) hx hb dX6_alike_41 (by decide) (fun h_41 => ?_) (fun h_41 => ?_)
        · have h_41 : (rHd r cn) = 0 := nIeq (show nI (rHd r cn) = nI 0 from h_41) (by omega) (by omega)
          refine lv_aload_n hx hb dX6_alike_60 rfl (lv_at hl 2 rfl) ?_
          refine lv_iload_n hx hb dX6_alike_61 rfl (lv_at hl 1 rfl) ?_
          refine lv_iload hx hb dX6_alike_62 (lv_at hl 0 rfl) ?_
          refine px_goV (st1 := [.int (b2i (f_mla r (rHd r cn) (rHd r on)))]) (px_callV F hK (c_X6_areMiddleLike l D cy A G r _ _ _ (rHd r cn) (rHd r on) hI hc0 hd0 (fun q1 q2 => by omega)) kc_X6_areMiddleLike kw_methodLink_RX6_147 rfl hR (m_recv hK hR) rfl ⟨rfl, rfl⟩ ⟨Nat.le_of_ble_eq_true rfl, Nat.le_of_ble_eq_true rfl⟩ hl.1 rfl (Nat.le_of_ble_eq_true rfl) dX6_alike_64 ⟨Nat.zero_le _, Nat.zero_le _⟩) rfl ?_
          refine x_ifeq_b (tgt := 74) hx hb dX6_alike_67 (by decide) (fun h_67 => ?_) (fun h_67 => ?_)
          · refine lv_iconst (v := 0) hx hb dX6_alike_74 (by decide) ?_
            exact pv_iret F hr hlocks (by rw [show f_alike r (nI cn) (nI on) = 0 from (by simp only [f_alike, h_4, h_11, ix_nI (show cn < 2 ^ 31 by omega), ix_nI (show on < 2 ^ 31 by omega), Bool.not_true, Bool.or_self, Bool.false_eq_true, if_false]; rw [if_neg h_35]; unfold f_tla; rw [if_pos (by omega), h_67]; rfl)]) dX6_alike_75
          · refine lv_iconst (v := 1) hx hb dX6_alike_70 (by decide) ?_
            refine lv_goto (tgt := 75) hx hb dX6_alike_71 (by decide) ?_
            exact pv_iret F hr hlocks (by rw [show f_alike r (nI cn) (nI on) = 1 from (by simp only [f_alike, h_4, h_11, ix_nI (show cn < 2 ^ 31 by omega), ix_nI (show on < 2 ^ 31 by omega), Bool.not_true, Bool.or_self, Bool.false_eq_true, if_false]; rw [if_neg h_35]; unfold f_tla; rw [if_pos (by omega), h_67]; rfl)]) dX6_alike_75
        · have h_41 : ¬ (rHd r cn) = 0 := nIne (show ¬ nI (rHd r cn) = nI 0 from h_41)
          refine lv_iload hx hb dX6_alike_44 (lv_at hl 0 rfl) ?_
          refine lv_if_eq (tgt := 60) hx hb dX6_alike_46 (by decide) (fun h_46 => ?_) (fun h_46 => ?_)
          · have h_46 : (rHd r on) = 0 := nIeq (show nI (rHd r on) = nI 0 from h_46) (by omega) (by omega)
            refine lv_aload_n hx hb dX6_alike_60 rfl (lv_at hl 2 rfl) ?_
            refine lv_iload_n hx hb dX6_alike_61 rfl (lv_at hl 1 rfl) ?_
            refine lv_iload hx hb dX6_alike_62 (lv_at hl 0 rfl) ?_
            refine px_goV (st1 := [.int (b2i (f_mla r (rHd r cn) (rHd r on)))]) (px_callV F hK (c_X6_areMiddleLike l D cy A G r _ _ _ (rHd r cn) (rHd r on) hI hc0 hd0 (fun q1 q2 => by omega)) kc_X6_areMiddleLike kw_methodLink_RX6_147 rfl hR (m_recv hK hR) rfl ⟨rfl, rfl⟩ ⟨Nat.le_of_ble_eq_true rfl, Nat.le_of_ble_eq_true rfl⟩ hl.1 rfl (Nat.le_of_ble_eq_true rfl) dX6_alike_64 ⟨Nat.zero_le _, Nat.zero_le _⟩) rfl ?_
            refine x_ifeq_b (tgt := 74) hx hb dX6_alike_67 (by decide) (fun h_67 => ?_) (fun h_67 => ?_)
            · refine lv_iconst (v := 0) hx hb dX6_alike_74 (by decide) ?_
              exact pv_iret F hr hlocks (by rw [show f_alike r (nI cn) (nI on) = 0 from (by simp only [f_alike, h_4, h_11, ix_nI (show cn < 2 ^ 31 by omega), ix_nI (show on < 2 ^ 31 by omega), Bool.not_true, Bool.or_self, Bool.false_eq_true, if_false]; rw [if_neg h_35]; unfold f_tla; rw [if_pos (by omega), h_67]; rfl)]) dX6_alike_75
            · refine lv_iconst (v := 1) hx hb dX6_alike_70 (by decide) ?_
              refine lv_goto (tgt := 75) hx hb dX6_alike_71 (by decide) ?_
              exact pv_iret F hr hlocks (by rw [show f_alike r (nI cn) (nI on) = 1 from (by simp only [f_alike, h_4, h_11, ix_nI (show cn < 2 ^ 31 by omega), ix_nI (show on < 2 ^ 31 by omega), Bool.not_true, Bool.or_self, Bool.false_eq_true, if_false]; rw [if_neg h_35]; unfold f_tla; rw [if_pos (by omega), h_67]; rfl)]) dX6_alike_75
          · have h_46 : ¬ (rHd r on) = 0 := nIne (show ¬ nI (rHd r on) = nI 0 from h_46)
            refine lv_aload_n hx hb dX6_alike_49 rfl (lv_at hl 2 rfl) ?_
            refine m_get F hK hR 1 (by decide) rfl kw_fieldLink_RX6_7 dX6_alike_50 ?_
            refine lv_iload_n hx hb dX6_alike_53 rfl (lv_at hl 1 rfl) ?_
            refine m_ldK F hK hR (rHd r cn) rfl (by omega) dX6_alike_54 ?_
            refine lv_bipush (v := 13) hx hb dX6_alike_55 (by decide) ?_
            refine lv_icmp_ge (tgt := 76) hx hb dX6_alike_57 (by decide) (fun h_57 => ?_) (fun h_57 => ?_)
            · have h_57 : 13 ≤ (rK r (rHd r cn)) := nIle (show nI 13 ≤ nI (rK r (rHd r cn)) from h_57) (by omega) (by omega)
              refine lv_aload_n hx hb dX6_alike_76 rfl (lv_at hl 2 rfl) ?_
              refine lv_iload_n hx hb dX6_alike_77 rfl (lv_at hl 1 rfl) ?_
              refine lv_iload hx hb dX6_alike_78 (lv_at hl 0 rfl) ?_
              refine px_goV (st1 := [.int (b2i (f_shaped r (rHd r cn) (rHd r on)))]) (px_callV F hK (c_X6_areShaped l D cy A G r _ _ _ (rHd r cn) (rHd r on) (by omega) (by omega) (by omega) (by omega) (by omega) (by omega)) kc_X6_areShaped kw_methodLink_RX6_138 rfl hR (m_recv hK hR) rfl ⟨rfl, rfl⟩ ⟨Nat.le_of_ble_eq_true rfl, Nat.le_of_ble_eq_true rfl⟩ hl.1 rfl (Nat.le_of_ble_eq_true rfl) dX6_alike_80 ⟨Nat.zero_le _, Nat.zero_le _⟩) rfl ?_
              refine lv_istore (lv' := [(5, .int (b2i (f_shaped r (rHd r cn) (rHd r on)))), (4, .int (nI (rHd r on))), (3, .int (nI (rHd r cn))), (0, .ref (G 0)), (1, .int (nI cn)), (2, .int (nI on))]) hx hb dX6_alike_83 hl (by decide) rfl (fun ls hl => ?_)
              refine lv_iconst (v := 0) hx hb dX6_alike_85 (by decide) ?_
              refine lv_istore (lv' := [(6, .int 0), (5, .int (b2i (f_shaped r (rHd r cn) (rHd r on)))), (4, .int (nI (rHd r on))), (3, .int (nI (rHd r cn))), (0, .ref (G 0)), (1, .int (nI cn)), (2, .int (nI on))]) hx hb dX6_alike_86 hl (by decide) rfl (fun ls hl => ?_)
              have loop : ∀ (d k : Nat), k + d = rMn r (rHd r cn) → ∀ (ls : Array Slot), lv_has ls 7 [(6, .int (nI k)), (5, .int (b2i (f_shaped r (rHd r cn) (rHd r on) && f_all (fun k => f_mla r (iv (f_at r (rHd r cn) k)) (iv (f_at r (rHd r on) k))) k))), (4, .int (nI (rHd r on))), (3, .int (nI (rHd r cn))), (0, .ref (G 0)), (1, .int (nI cn)), (2, .int (nI on))] → W p l e (rmd 4 0 0) s m ([.ref (G 0), .int (nI cn), .int (nI on)] : List Value).toArray below meth c s.heap [] 0 0 (MQ below (px_V (some (.int (f_alike r (nI cn) (nI on))))) ([.ref (G 0), .int (nI cn), .int (nI on)] : List Value).toArray s 0 0 (fun _ => False)) (F0 m 88 ls []) := by
                intro d
                induction d with
                | zero =>
                  intro k hk ls hl
                  refine lv_iload hx hb dX6_alike_88 (lv_at hl 1 rfl) ?_
                  refine x_ifeq_b (tgt := 133) hx hb dX6_alike_90 (by decide) (fun h_90 => ?_) (fun h_90 => ?_)
                  · refine lv_iload hx hb dX6_alike_133 (lv_at hl 1 rfl) ?_
                    refine x_ifeq_b (tgt := 142) hx hb dX6_alike_135 (by decide) (fun h_135 => ?_) (fun h_135 => ?_)
                    · refine lv_iconst (v := 0) hx hb dX6_alike_142 (by decide) ?_
                      have efin : (f_shaped r (rHd r cn) (rHd r on) && f_all (fun k => f_mla r (iv (f_at r (rHd r cn) k)) (iv (f_at r (rHd r on) k))) k) = (f_shaped r (rHd r cn) (rHd r on) && f_all (fun k => f_mla r (iv (f_at r (rHd r cn) k)) (iv (f_at r (rHd r on) k))) (rMn r (rHd r cn))) := (by rw [h_90]; cases hq : f_shaped r (rHd r cn) (rHd r on) with | false => rfl | true => rw [f_all_le (fun k => f_mla r (iv (f_at r (rHd r cn) k)) (iv (f_at r (rHd r on) k))) (k := k) (by rw [hq] at h_90; simpa using h_90) _ (by omega)]; rfl)
                      exact pv_iret F hr hlocks (by rw [show f_alike r (nI cn) (nI on) = 0 from (by simp only [f_alike, h_4, h_11, ix_nI (show cn < 2 ^ 31 by omega), ix_nI (show on < 2 ^ 31 by omega), Bool.not_true, Bool.or_self, Bool.false_eq_true, if_false]; rw [if_neg h_35]; unfold f_tla; rw [if_neg (by omega), ← efin, h_135]; rfl)]) dX6_alike_143
                    · refine lv_iconst (v := 1) hx hb dX6_alike_138 (by decide) ?_
                      refine lv_goto (tgt := 143) hx hb dX6_alike_139 (by decide) ?_
                      have efin : (f_shaped r (rHd r cn) (rHd r on) && f_all (fun k => f_mla r (iv (f_at r (rHd r cn) k)) (iv (f_at r (rHd r on) k))) k) = (f_shaped r (rHd r cn) (rHd r on) && f_all (fun k => f_mla r (iv (f_at r (rHd r cn) k)) (iv (f_at r (rHd r on) k))) (rMn r (rHd r cn))) := (by rw [h_90]; cases hq : f_shaped r (rHd r cn) (rHd r on) with | false => rfl | true => rw [f_all_le (fun k => f_mla r (iv (f_at r (rHd r cn) k)) (iv (f_at r (rHd r on) k))) (k := k) (by rw [hq] at h_90; simpa using h_90) _ (by omega)]; rfl)
                      exact pv_iret F hr hlocks (by rw [show f_alike r (nI cn) (nI on) = 1 from (by simp only [f_alike, h_4, h_11, ix_nI (show cn < 2 ^ 31 by omega), ix_nI (show on < 2 ^ 31 by omega), Bool.not_true, Bool.or_self, Bool.false_eq_true, if_false]; rw [if_neg h_35]; unfold f_tla; rw [if_neg (by omega), ← efin, h_135]; rfl)]) dX6_alike_143
                  · have hsh := shaped_t ((Bool.and_eq_true _ _).mp h_90).1
                    refine lv_iload hx hb dX6_alike_93 (lv_at hl 0 rfl) ?_
                    refine lv_aload_n hx hb dX6_alike_95 rfl (lv_at hl 4 rfl) ?_
                    refine m_get F hK hR 2 (by decide) rfl kw_fieldLink_RX6_13 dX6_alike_96 ?_
                    refine lv_iload_n hx hb dX6_alike_99 rfl (lv_at hl 3 rfl) ?_
                    refine m_ldMn F hK hR (rHd r cn) rfl (by omega) dX6_alike_100 ?_
                    refine lv_icmp_ge (tgt := 133) hx hb dX6_alike_101 (by decide) (fun h_101 => ?_) (fun h_101 => by exfalso; have h_101 : k < (rMn r (rHd r cn)) := nInle (show ¬ nI (rMn r (rHd r cn)) ≤ nI k from h_101) (by omega) (by omega); omega)
                    have h_101 : (rMn r (rHd r cn)) ≤ k := nIle (show nI (rMn r (rHd r cn)) ≤ nI k from h_101) (by omega) (by omega)
                    refine lv_iload hx hb dX6_alike_133 (lv_at hl 1 rfl) ?_
                    refine x_ifeq_b (tgt := 142) hx hb dX6_alike_135 (by decide) (fun h_135 => ?_) (fun h_135 => ?_)
                    · refine lv_iconst (v := 0) hx hb dX6_alike_142 (by decide) ?_
                      have efin : (f_shaped r (rHd r cn) (rHd r on) && f_all (fun k => f_mla r (iv (f_at r (rHd r cn) k)) (iv (f_at r (rHd r on) k))) k) = (f_shaped r (rHd r cn) (rHd r on) && f_all (fun k => f_mla r (iv (f_at r (rHd r cn) k)) (iv (f_at r (rHd r on) k))) (rMn r (rHd r cn))) := (by rw [show k = rMn r (rHd r cn) by omega])
                      exact pv_iret F hr hlocks (by rw [show f_alike r (nI cn) (nI on) = 0 from (by simp only [f_alike, h_4, h_11, ix_nI (show cn < 2 ^ 31 by omega), ix_nI (show on < 2 ^ 31 by omega), Bool.not_true, Bool.or_self, Bool.false_eq_true, if_false]; rw [if_neg h_35]; unfold f_tla; rw [if_neg (by omega), ← efin, h_135]; rfl)]) dX6_alike_143
                    · refine lv_iconst (v := 1) hx hb dX6_alike_138 (by decide) ?_
                      refine lv_goto (tgt := 143) hx hb dX6_alike_139 (by decide) ?_
                      have efin : (f_shaped r (rHd r cn) (rHd r on) && f_all (fun k => f_mla r (iv (f_at r (rHd r cn) k)) (iv (f_at r (rHd r on) k))) k) = (f_shaped r (rHd r cn) (rHd r on) && f_all (fun k => f_mla r (iv (f_at r (rHd r cn) k)) (iv (f_at r (rHd r on) k))) (rMn r (rHd r cn))) := (by rw [show k = rMn r (rHd r cn) by omega])
                      exact pv_iret F hr hlocks (by rw [show f_alike r (nI cn) (nI on) = 1 from (by simp only [f_alike, h_4, h_11, ix_nI (show cn < 2 ^ 31 by omega), ix_nI (show on < 2 ^ 31 by omega), Bool.not_true, Bool.or_self, Bool.false_eq_true, if_false]; rw [if_neg h_35]; unfold f_tla; rw [if_neg (by omega), ← efin, h_135]; rfl)]) dX6_alike_143
                | succ d ih_loop =>
                  intro k hk ls hl
                  refine lv_iload hx hb dX6_alike_88 (lv_at hl 1 rfl) ?_
                  refine x_ifeq_b (tgt := 133) hx hb dX6_alike_90 (by decide) (fun h_90 => ?_) (fun h_90 => ?_)
                  · refine lv_iload hx hb dX6_alike_133 (lv_at hl 1 rfl) ?_
                    refine x_ifeq_b (tgt := 142) hx hb dX6_alike_135 (by decide) (fun h_135 => ?_) (fun h_135 => ?_)
                    · refine lv_iconst (v := 0) hx hb dX6_alike_142 (by decide) ?_
                      have efin : (f_shaped r (rHd r cn) (rHd r on) && f_all (fun k => f_mla r (iv (f_at r (rHd r cn) k)) (iv (f_at r (rHd r on) k))) k) = (f_shaped r (rHd r cn) (rHd r on) && f_all (fun k => f_mla r (iv (f_at r (rHd r cn) k)) (iv (f_at r (rHd r on) k))) (rMn r (rHd r cn))) := (by rw [h_90]; cases hq : f_shaped r (rHd r cn) (rHd r on) with | false => rfl | true => rw [f_all_le (fun k => f_mla r (iv (f_at r (rHd r cn) k)) (iv (f_at r (rHd r on) k))) (k := k) (by rw [hq] at h_90; simpa using h_90) _ (by omega)]; rfl)
                      exact pv_iret F hr hlocks (by rw [show f_alike r (nI cn) (nI on) = 0 from (by simp only [f_alike, h_4, h_11, ix_nI (show cn < 2 ^ 31 by omega), ix_nI (show on < 2 ^ 31 by omega), Bool.not_true, Bool.or_self, Bool.false_eq_true, if_false]; rw [if_neg h_35]; unfold f_tla; rw [if_neg (by omega), ← efin, h_135]; rfl)]) dX6_alike_143
                    · refine lv_iconst (v := 1) hx hb dX6_alike_138 (by decide) ?_
                      refine lv_goto (tgt := 143) hx hb dX6_alike_139 (by decide) ?_
                      have efin : (f_shaped r (rHd r cn) (rHd r on) && f_all (fun k => f_mla r (iv (f_at r (rHd r cn) k)) (iv (f_at r (rHd r on) k))) k) = (f_shaped r (rHd r cn) (rHd r on) && f_all (fun k => f_mla r (iv (f_at r (rHd r cn) k)) (iv (f_at r (rHd r on) k))) (rMn r (rHd r cn))) := (by rw [h_90]; cases hq : f_shaped r (rHd r cn) (rHd r on) with | false => rfl | true => rw [f_all_le (fun k => f_mla r (iv (f_at r (rHd r cn) k)) (iv (f_at r (rHd r on) k))) (k := k) (by rw [hq] at h_90; simpa using h_90) _ (by omega)]; rfl)
                      exact pv_iret F hr hlocks (by rw [show f_alike r (nI cn) (nI on) = 1 from (by simp only [f_alike, h_4, h_11, ix_nI (show cn < 2 ^ 31 by omega), ix_nI (show on < 2 ^ 31 by omega), Bool.not_true, Bool.or_self, Bool.false_eq_true, if_false]; rw [if_neg h_35]; unfold f_tla; rw [if_neg (by omega), ← efin, h_135]; rfl)]) dX6_alike_143
                  · have hsh := shaped_t ((Bool.and_eq_true _ _).mp h_90).1
                    refine lv_iload hx hb dX6_alike_93 (lv_at hl 0 rfl) ?_
                    refine lv_aload_n hx hb dX6_alike_95 rfl (lv_at hl 4 rfl) ?_
                    refine m_get F hK hR 2 (by decide) rfl kw_fieldLink_RX6_13 dX6_alike_96 ?_
                    refine lv_iload_n hx hb dX6_alike_99 rfl (lv_at hl 3 rfl) ?_
                    refine m_ldMn F hK hR (rHd r cn) rfl (by omega) dX6_alike_100 ?_
                    refine lv_icmp_ge (tgt := 133) hx hb dX6_alike_101 (by decide) (fun h_101 => by exfalso; have h_101 : (rMn r (rHd r cn)) ≤ k := nIle (show nI (rMn r (rHd r cn)) ≤ nI k from h_101) (by omega) (by omega); omega) (fun h_101 => ?_)
                    have h_101 : k < (rMn r (rHd r cn)) := nInle (show ¬ nI (rMn r (rHd r cn)) ≤ nI k from h_101) (by omega) (by omega)
                    refine lv_aload_n hx hb dX6_alike_104 rfl (lv_at hl 4 rfl) ?_
                    refine lv_aload_n hx hb dX6_alike_105 rfl (lv_at hl 4 rfl) ?_
                    refine lv_iload_n hx hb dX6_alike_106 rfl (lv_at hl 3 rfl) ?_
                    refine lv_iload hx hb dX6_alike_107 (lv_at hl 0 rfl) ?_
                    refine px_goV (st1 := [.long (f_at r (rHd r cn) k), .ref (G 0)]) (px_callV F hK (c_X6_at l D cy A G r _ _ _ (rHd r cn) k (by omega) (show rS r (rHd r cn) + k < 12200 by omega)) kc_X6_at kw_methodLink_RX6_80 rfl hR (m_recv hK hR) rfl ⟨rfl, rfl⟩ ⟨Nat.le_of_ble_eq_true rfl, Nat.le_of_ble_eq_true rfl⟩ hl.1 rfl (Nat.le_of_ble_eq_true rfl) dX6_alike_109 ⟨Nat.zero_le _, Nat.zero_le _⟩) rfl ?_
                    have hita := hI.it hsh.1 hc0 h_101 (by omega)
                    have hitb := hI.it hsh.2.1 hd0 (show k < rMn r (rHd r on) by omega) (by omega)
                    have hra := hita.2.2.2.2 (by omega)
                    have hrb := hitb.2.2.2.2 (by omega)
                    refine px_topl hita.1 ?_
                    refine lv_l2i (v := nI (iv (f_at r (rHd r cn) k))) hx hb dX6_alike_112 (lN_i _) ?_
                    refine lv_aload_n hx hb dX6_alike_113 rfl (lv_at hl 4 rfl) ?_
                    refine lv_iload hx hb dX6_alike_114 (lv_at hl 2 rfl) ?_
                    refine lv_iload hx hb dX6_alike_116 (lv_at hl 0 rfl) ?_
                    refine px_goV (st1 := [.long (f_at r (rHd r on) k), .int (nI (iv (f_at r (rHd r cn) k))), .ref (G 0)]) (px_callV F hK (c_X6_at l D cy A G r _ _ _ (rHd r on) k (by omega) (show rS r (rHd r on) + k < 12200 by omega)) kc_X6_at kw_methodLink_RX6_80 rfl hR (m_recv hK hR) rfl ⟨rfl, rfl⟩ ⟨Nat.le_of_ble_eq_true rfl, Nat.le_of_ble_eq_true rfl⟩ hl.1 rfl (Nat.le_of_ble_eq_true rfl) dX6_alike_118 ⟨Nat.zero_le _, Nat.zero_le _⟩) rfl ?_
                    refine px_topl hitb.1 ?_
                    refine lv_l2i (v := nI (iv (f_at r (rHd r on) k))) hx hb dX6_alike_121 (lN_i _) ?_
                    refine px_goV (st1 := [.int (b2i (f_mla r (iv (f_at r (rHd r cn) k)) (iv (f_at r (rHd r on) k))))]) (px_callV F hK (c_X6_areMiddleLike l D cy A G r _ _ _ (iv (f_at r (rHd r cn) k)) (iv (f_at r (rHd r on) k)) hI hra.1 hrb.1 (fun q1 _ => by have q3 := isOf_k (hra.2 q1) q1; have q4 := rkN_le (rK r (rHd r cn)); omega)) kc_X6_areMiddleLike kw_methodLink_RX6_147 rfl hR (m_recv hK hR) rfl ⟨rfl, rfl⟩ ⟨Nat.le_of_ble_eq_true rfl, Nat.le_of_ble_eq_true rfl⟩ hl.1 rfl (Nat.le_of_ble_eq_true rfl) dX6_alike_122 ⟨Nat.zero_le _, Nat.zero_le _⟩) rfl ?_
                    refine lv_istore (lv' := [(5, .int (b2i (f_mla r (iv (f_at r (rHd r cn) k)) (iv (f_at r (rHd r on) k))))), (6, .int (nI k)), (4, .int (nI (rHd r on))), (3, .int (nI (rHd r cn))), (0, .ref (G 0)), (1, .int (nI cn)), (2, .int (nI on))]) hx hb dX6_alike_125 hl (by decide) rfl (fun ls hl => ?_)
                    refine lv_iinc (v := nI (k + 1)) (lv' := [(6, .int (nI (k + 1))), (5, .int (b2i (f_mla r (iv (f_at r (rHd r cn) k)) (iv (f_at r (rHd r on) k))))), (4, .int (nI (rHd r on))), (3, .int (nI (rHd r cn))), (0, .ref (G 0)), (1, .int (nI cn)), (2, .int (nI on))]) hx hb dX6_alike_127 hl (k := 1) rfl (by show nI k + 1 = nI (k + 1); exact nI_1 _) (by decide) rfl (fun ls hl => ?_)
                    refine lv_goto (tgt := 88) hx hb dX6_alike_130 (by decide) ?_
                    have e_5 : (b2i (f_shaped r (rHd r cn) (rHd r on) && f_all (fun k => f_mla r (iv (f_at r (rHd r cn) k)) (iv (f_at r (rHd r on) k))) (k + 1)) : Int32) = b2i (f_mla r (iv (f_at r (rHd r cn) k)) (iv (f_at r (rHd r on) k))) := (by exact congrArg b2i (by rw [f_all]; simp only [Bool.and_eq_true] at h_90; rw [h_90.1, h_90.2]; rfl))
                    exact ih_loop (k + 1) (by omega) _ (by rw [e_5]; exact lv_sub hl [0, 1, 2, 3, 4, 5, 6] rfl)
              have e_5 : (b2i (f_shaped r (rHd r cn) (rHd r on) && f_all (fun k => f_mla r (iv (f_at r (rHd r cn) k)) (iv (f_at r (rHd r on) k))) 0) : Int32) = b2i (f_shaped r (rHd r cn) (rHd r on)) := (by simp [f_all])
              exact loop (rMn r (rHd r cn)) 0 (by omega) _ (by rw [e_5]; exact lv_sub hl [0, 1, 2, 3, 4, 5, 6] rfl)
            · have h_57 : (rK r (rHd r cn)) < 13 := nInle (show ¬ nI 13 ≤ nI (rK r (rHd r cn)) from h_57) (by omega) (by omega)
              refine lv_aload_n hx hb dX6_alike_60 rfl (lv_at hl 2 rfl) ?_
              refine lv_iload_n hx hb dX6_alike_61 rfl (lv_at hl 1 rfl) ?_
              refine lv_iload hx hb dX6_alike_62 (lv_at hl 0 rfl) ?_
              refine px_goV (st1 := [.int (b2i (f_mla r (rHd r cn) (rHd r on)))]) (px_callV F hK (c_X6_areMiddleLike l D cy A G r _ _ _ (rHd r cn) (rHd r on) hI hc0 hd0 (fun q1 q2 => by omega)) kc_X6_areMiddleLike kw_methodLink_RX6_147 rfl hR (m_recv hK hR) rfl ⟨rfl, rfl⟩ ⟨Nat.le_of_ble_eq_true rfl, Nat.le_of_ble_eq_true rfl⟩ hl.1 rfl (Nat.le_of_ble_eq_true rfl) dX6_alike_64 ⟨Nat.zero_le _, Nat.zero_le _⟩) rfl ?_
              refine x_ifeq_b (tgt := 74) hx hb dX6_alike_67 (by decide) (fun h_67 => ?_) (fun h_67 => ?_)
              · refine lv_iconst (v := 0) hx hb dX6_alike_74 (by decide) ?_
                exact pv_iret F hr hlocks (by rw [show f_alike r (nI cn) (nI on) = 0 from (by simp only [f_alike, h_4, h_11, ix_nI (show cn < 2 ^ 31 by omega), ix_nI (show on < 2 ^ 31 by omega), Bool.not_true, Bool.or_self, Bool.false_eq_true, if_false]; rw [if_neg h_35]; unfold f_tla; rw [if_pos (by omega), h_67]; rfl)]) dX6_alike_75
              · refine lv_iconst (v := 1) hx hb dX6_alike_70 (by decide) ?_
                refine lv_goto (tgt := 75) hx hb dX6_alike_71 (by decide) ?_
                exact pv_iret F hr hlocks (by rw [show f_alike r (nI cn) (nI on) = 1 from (by simp only [f_alike, h_4, h_11, ix_nI (show cn < 2 ^ 31 by omega), ix_nI (show on < 2 ^ 31 by omega), Bool.not_true, Bool.or_self, Bool.false_eq_true, if_false]; rw [if_neg h_35]; unfold f_tla; rw [if_pos (by omega), h_67]; rfl)]) dX6_alike_75
      · have h_35 : (rHd r cn) = (rHd r on) := nIeq (show nI (rHd r cn) = nI (rHd r on) from h_35) (by omega) (by omega)
        refine lv_iconst (v := 2) hx hb dX6_alike_38 (by decide) ?_
        exact pv_iret F hr hlocks (by rw [show f_alike r (nI cn) (nI on) = 2 from (by simp only [f_alike, h_4, h_11, ix_nI (show cn < 2 ^ 31 by omega), ix_nI (show on < 2 ^ 31 by omega), Bool.not_true, Bool.or_self, Bool.false_eq_true, if_false]; rw [if_pos h_35])]) dX6_alike_39
    · refine lv_bipush (v := -2) hx hb dX6_alike_14 (by decide) ?_
      exact pv_iret F hr hlocks (by rw [show f_alike r cl ot = -2 from (by simp [f_alike, h_4, h_11])]) dX6_alike_16
set_option maxHeartbeats 400000 in
set_option maxRecDepth 100000 in
theorem c_X6_fill (l : Launch) (D : va_G) (cy : Nat → ClassId) (A : Nat → Prop) (G : Nat → Nat) (r : RS) (C : Nat → Nat) (E : Nat → Int64) (sz : Nat) (cl k0 : Int32) (b : Int64) {kk : Nat} (hI : Inv kk r) : Met l yX6_fill (px_w yX6_fill cX6_fill 7 (some .int)) (rmd 3 0 0) (px_P D cy [.ref (G 0), .int cl, .int k0, .long b] sz (MR D cy A G r C E)) (px_Q (px_M D cy A G (some (.int (f_fill r cl k0 b).2)) ((f_fill r cl k0 b).1)) A) 0 0 A := by
  refine px_met (by decide) (Nat.le_of_ble_eq_true rfl) ?_
  intro p e s m below meth c F hr hlocks hnm hK hsz hR ls hl
  have hx := F.1
  have hb := F.2.1
  have hl : lv_has ls 7 [(0, .ref (G 0)), (1, .int cl), (2, .int k0), (3, .long b)] := hl
  have hS : va_S A s.heap s.heap [] := va_S.rf
  have hbd := hI.bd
  refine lv_iload_n hx hb dX6_fill_0 rfl (lv_at hl 1 rfl) ?_
  refine px_goV (st1 := [.int (b2i (f_in cl 0 15))]) (px_callS F hK (c_X6_isColumn l D cy _ cl) kc_X6_isColumn kw_methodLink_RX6_53 rfl trivial rfl ⟨rfl, rfl⟩ ⟨Nat.le_of_ble_eq_true rfl, Nat.le_of_ble_eq_true rfl⟩ hl.1 rfl (Nat.le_of_ble_eq_true rfl) dX6_fill_1 ⟨Nat.zero_le _, Nat.zero_le _⟩) rfl ?_
  refine x_ifeq_b (tgt := 17) hx hb dX6_fill_4 (by decide) (fun h_4 => ?_) (fun h_4 => ?_)
  · refine lv_bipush (v := -2) hx hb dX6_fill_17 (by decide) ?_
    exact px_iret F hr hlocks hS (by have e : f_fill r cl k0 b = (r, (-2)) := (by simp [f_fill, h_4] <;> rfl); rw [e]; exact ⟨rfl, _, _, hR⟩) dX6_fill_19
  · refine lv_iload_n hx hb dX6_fill_7 rfl (lv_at hl 2 rfl) ?_
    refine lv_iconst (v := 0) hx hb dX6_fill_8 (by decide) ?_
    refine lv_bipush (v := 7) hx hb dX6_fill_9 (by decide) ?_
    refine px_goV (st1 := [.int (b2i (f_in k0 0 7))]) (px_callS F hK (c_X6_in l D cy _ k0 0 7) kc_X6_in kw_methodLink_RX6_57 rfl trivial rfl ⟨rfl, rfl⟩ ⟨Nat.le_of_ble_eq_true rfl, Nat.le_of_ble_eq_true rfl⟩ hl.1 rfl (Nat.le_of_ble_eq_true rfl) dX6_fill_11 ⟨Nat.zero_le _, Nat.zero_le _⟩) rfl ?_
    refine x_ifne_b (tgt := 20) hx hb dX6_fill_14 (by decide) (fun h_14 => ?_) (fun h_14 => ?_)
    · obtain ⟨cn, hl_cn, hh_cn, rfl⟩ := f_in_nat h_4 0 15 (by decide) (by decide) (by decide) (by decide)
      obtain ⟨kn, hl_kn, hh_kn, rfl⟩ := f_in_nat h_14 0 7 (by decide) (by decide) (by decide) (by decide)
      have hc0 := hI.hd cn (by omega)
      have hc1 := hI.tb _ hc0
      refine lv_aload_n hx hb dX6_fill_20 rfl (lv_at hl 0 rfl) ?_
      refine m_get F hK hR 9 (by decide) rfl kw_fieldLink_RX6_31 dX6_fill_21 ?_
      refine lv_iload_n hx hb dX6_fill_24 rfl (lv_at hl 1 rfl) ?_
      refine m_ldHd F hK hR cn rfl (by omega) dX6_fill_25 ?_
      refine lv_istore (lv' := [(5, .int (nI (rHd r cn))), (0, .ref (G 0)), (1, .int (nI cn)), (2, .int (nI kn)), (3, .long b)]) hx hb dX6_fill_26 hl (by decide) rfl (fun ls hl => ?_)
      refine lv_aload_n hx hb dX6_fill_28 rfl (lv_at hl 1 rfl) ?_
      refine lv_iload hx hb dX6_fill_29 (lv_at hl 0 rfl) ?_
      refine lv_iload_n hx hb dX6_fill_31 rfl (lv_at hl 3 rfl) ?_
      refine px_goV (st1 := [.int (b2i (f_isOf r (rHd r cn) kn))]) (px_callV F hK (c_X6_isOf l D cy A G r _ _ _ (rHd r cn) kn (by omega) (by omega) (show rK r (rHd r cn) < 100 by omega)) kc_X6_isOf kw_methodLink_RX6_90 rfl hR (m_recv hK hR) rfl ⟨rfl, rfl⟩ ⟨Nat.le_of_ble_eq_true rfl, Nat.le_of_ble_eq_true rfl⟩ hl.1 rfl (Nat.le_of_ble_eq_true rfl) dX6_fill_32 ⟨Nat.zero_le _, Nat.zero_le _⟩) rfl ?_
      refine x_ifeq_b (tgt := 43) hx hb dX6_fill_35 (by decide) (fun h_35 => ?_) (fun h_35 => ?_)
      · refine lv_aload_n hx hb dX6_fill_43 rfl (lv_at hl 1 rfl) ?_
        refine lv_iload hx hb dX6_fill_44 (lv_at hl 0 rfl) ?_
        refine lv_iload_n hx hb dX6_fill_46 rfl (lv_at hl 3 rfl) ?_
        refine px_goV (st1 := [.int (b2i (f_isOf r (rHd r cn) kn))]) (px_callV F hK (c_X6_isOf l D cy A G r _ _ _ (rHd r cn) kn (by omega) (by omega) (show rK r (rHd r cn) < 100 by omega)) kc_X6_isOf kw_methodLink_RX6_90 rfl hR (m_recv hK hR) rfl ⟨rfl, rfl⟩ ⟨Nat.le_of_ble_eq_true rfl, Nat.le_of_ble_eq_true rfl⟩ hl.1 rfl (Nat.le_of_ble_eq_true rfl) dX6_fill_47 ⟨Nat.zero_le _, Nat.zero_le _⟩) rfl ?_
        refine x_ifeq_b (tgt := 57) hx hb dX6_fill_50 (by decide) (fun h_50 => ?_) (fun h_50 => (Bool.false_ne_true (h_35.symm.trans h_50)).elim)
        refine lv_iconst (v := 2) hx hb dX6_fill_57 (by decide) ?_
        refine px_goV (st1 := [.int (-12)]) (px_callS F hK (c_X6_answer l D cy _ 2) kc_X6_answer kw_methodLink_RX6_65 rfl trivial rfl ⟨rfl, rfl⟩ ⟨Nat.le_of_ble_eq_true rfl, Nat.le_of_ble_eq_true rfl⟩ hl.1 rfl (Nat.le_of_ble_eq_true rfl) dX6_fill_58 ⟨Nat.zero_le _, Nat.zero_le _⟩) rfl ?_
        exact px_iret F hr hlocks hS (by have e : f_fill r (nI cn) (nI kn) b = (r, (-12)) := (by simp [f_fill, h_4, h_14, h_35, ix_nI (show cn < 2 ^ 31 by omega), ix_nI (show kn < 2 ^ 31 by omega)] <;> rfl); rw [e]; exact ⟨rfl, _, _, hR⟩) dX6_fill_61
      · refine lv_iload hx hb dX6_fill_38 (lv_at hl 0 rfl) ?_
        refine lv_if_ne (tgt := 62) hx hb dX6_fill_40 (by decide) (fun h_40 => ?_) (fun h_40 => ?_)
        · have h_40 : ¬ (rHd r cn) = 0 := nIne (show ¬ nI (rHd r cn) = nI 0 from h_40)
          refine lv_iconst (v := 0) hx hb dX6_fill_62 (by decide) ?_
          refine lv_istore (lv' := [(6, .int 0), (5, .int (nI (rHd r cn))), (0, .ref (G 0)), (1, .int (nI cn)), (2, .int (nI kn)), (3, .long b)]) hx hb dX6_fill_63 hl (by decide) rfl (fun ls hl => ?_)
          have loop : ∀ (d k : Nat), k + d = rMn r (rHd r cn) → ∀ (H : Heap) (locs : List Loc) (ls : Array Slot), MR D cy A G (sI r (filI (rI r) (rS r (rHd r cn)) (f_cut kn b) k)) (C) (E) H → va_S A s.heap H locs → lv_has ls 7 [(6, .int (nI k)), (5, .int (nI (rHd r cn))), (0, .ref (G 0)), (1, .int (nI cn)), (2, .int (nI kn)), (3, .long b)] → W p l e (rmd 3 0 0) s m ([.ref (G 0), .int (nI cn), .int (nI kn), .long b] : List Value).toArray below meth c H locs 0 0 (MQ below (px_Q (px_M D cy A G (some (.int (f_fill r (nI cn) (nI kn) b).2)) ((f_fill r (nI cn) (nI kn) b).1)) A) ([.ref (G 0), .int (nI cn), .int (nI kn), .long b] : List Value).toArray s 0 0 A) (F0 m 65 ls []) := by
            intro d
            induction d with
            | zero =>
              intro k hk H locs ls hR hS hl
              refine lv_iload hx hb dX6_fill_65 (lv_at hl 0 rfl) ?_
              refine lv_aload_n hx hb dX6_fill_67 rfl (lv_at hl 2 rfl) ?_
              refine m_get F hK hR 2 (by decide) rfl kw_fieldLink_RX6_13 dX6_fill_68 ?_
              refine lv_iload hx hb dX6_fill_71 (lv_at hl 1 rfl) ?_
              refine m_ldMn F hK hR (rHd r cn) rfl (by omega) dX6_fill_73 ?_
              refine lv_icmp_ge (tgt := 96) hx hb dX6_fill_74 (by decide) (fun h_74 => ?_) (fun h_74 => by exfalso; have h_74 : k < (rMn r (rHd r cn)) := nInle (show ¬ nI (rMn r (rHd r cn)) ≤ nI k from h_74) (by omega) (by omega); omega)
              have h_74 : (rMn r (rHd r cn)) ≤ k := nIle (show nI (rMn r (rHd r cn)) ≤ nI k from h_74) (by omega) (by omega)
              refine lv_aload_n hx hb dX6_fill_96 rfl (lv_at hl 2 rfl) ?_
              refine m_get F hK hR 2 (by decide) rfl kw_fieldLink_RX6_13 dX6_fill_97 ?_
              refine lv_iload hx hb dX6_fill_100 (lv_at hl 1 rfl) ?_
              refine m_ldMn F hK hR (rHd r cn) rfl (by omega) dX6_fill_102 ?_
              have hkn : k = rMn r (rHd r cn) := (by omega)
              exact px_iret F hr hlocks hS (by have e : f_fill r (nI cn) (nI kn) b = (f_fil r (rHd r cn) (f_cut kn b) k, nI (rMn r (rHd r cn))) := (by simp [f_fill, hkn, h_4, h_14, h_35, h_40, ix_nI (show cn < 2 ^ 31 by omega), ix_nI (show kn < 2 ^ 31 by omega)]); rw [e]; exact ⟨rfl, _, _, hR⟩) dX6_fill_103
            | succ d ih_loop =>
              intro k hk H locs ls hR hS hl
              refine lv_iload hx hb dX6_fill_65 (lv_at hl 0 rfl) ?_
              refine lv_aload_n hx hb dX6_fill_67 rfl (lv_at hl 2 rfl) ?_
              refine m_get F hK hR 2 (by decide) rfl kw_fieldLink_RX6_13 dX6_fill_68 ?_
              refine lv_iload hx hb dX6_fill_71 (lv_at hl 1 rfl) ?_
              refine m_ldMn F hK hR (rHd r cn) rfl (by omega) dX6_fill_73 ?_
              refine lv_icmp_ge (tgt := 96) hx hb dX6_fill_74 (by decide) (fun h_74 => by exfalso; have h_74 : (rMn r (rHd r cn)) ≤ k := nIle (show nI (rMn r (rHd r cn)) ≤ nI k from h_74) (by omega) (by omega); omega) (fun h_74 => ?_)
              have h_74 : k < (rMn r (rHd r cn)) := nInle (show ¬ nI (rMn r (rHd r cn)) ≤ nI k from h_74) (by omega) (by omega)
              refine lv_aload_n hx hb dX6_fill_77 rfl (lv_at hl 2 rfl) ?_
              refine lv_iload hx hb dX6_fill_78 (lv_at hl 1 rfl) ?_
              refine lv_iload hx hb dX6_fill_80 (lv_at hl 0 rfl) ?_
              refine lv_iload_n hx hb dX6_fill_82 rfl (lv_at hl 4 rfl) ?_
              refine lv_lload_n hx hb dX6_fill_83 rfl (lv_at hl 5 rfl) ?_
              refine px_goV (st1 := [.long (f_cut kn b), .int (nI k), .int (nI (rHd r cn)), .ref (G 0)]) (px_callS F hK (c_X6_cut l D cy _ kn b (by omega)) kc_X6_cut kw_methodLink_RX6_118 rfl trivial rfl ⟨rfl, rfl⟩ ⟨Nat.le_of_ble_eq_true rfl, Nat.le_of_ble_eq_true rfl⟩ hl.1 rfl (Nat.le_of_ble_eq_true rfl) dX6_fill_84 ⟨Nat.zero_le _, Nat.zero_le _⟩) rfl ?_
              refine px_goMx (st1 := []) (px_callV F hK (c_X6_put l D cy A G (sI r (filI (rI r) (rS r (rHd r cn)) (f_cut kn b) k)) _ _ _ (rHd r cn) k (f_cut kn b) (by omega) (show rS r (rHd r cn) + k < 12200 by omega)) kc_X6_put kw_methodLink_RX6_76 rfl hR (m_recv hK hR) rfl ⟨rfl, rfl⟩ ⟨Nat.le_of_ble_eq_true rfl, Nat.le_of_ble_eq_true rfl⟩ hl.1 rfl (Nat.le_of_ble_eq_true rfl) dX6_fill_87 ⟨Nat.zero_le _, Nat.zero_le _⟩) hS rfl (fun H locs hR hS => ?_)
              refine lv_iinc (v := nI (k + 1)) (lv' := [(6, .int (nI (k + 1))), (5, .int (nI (rHd r cn))), (0, .ref (G 0)), (1, .int (nI cn)), (2, .int (nI kn)), (3, .long b)]) hx hb dX6_fill_90 hl (k := 0) rfl (by show nI k + 1 = nI (k + 1); exact nI_1 _) (by decide) rfl (fun ls hl => ?_)
              refine lv_goto (tgt := 65) hx hb dX6_fill_93 (by decide) ?_
              exact ih_loop (k + 1) (by omega) _ _ _ hR hS (lv_sub hl [0, 1, 2, 3, 4, 5] rfl)
          exact loop (rMn r (rHd r cn)) 0 (by omega) _ _ _ hR hS (lv_sub hl [0, 1, 2, 3, 4, 5] rfl)
        · have h_40 : (rHd r cn) = 0 := nIeq (show nI (rHd r cn) = nI 0 from h_40) (by omega) (by omega)
          refine lv_aload_n hx hb dX6_fill_43 rfl (lv_at hl 1 rfl) ?_
          refine lv_iload hx hb dX6_fill_44 (lv_at hl 0 rfl) ?_
          refine lv_iload_n hx hb dX6_fill_46 rfl (lv_at hl 3 rfl) ?_
          refine px_goV (st1 := [.int (b2i (f_isOf r (rHd r cn) kn))]) (px_callV F hK (c_X6_isOf l D cy A G r _ _ _ (rHd r cn) kn (by omega) (by omega) (show rK r (rHd r cn) < 100 by omega)) kc_X6_isOf kw_methodLink_RX6_90 rfl hR (m_recv hK hR) rfl ⟨rfl, rfl⟩ ⟨Nat.le_of_ble_eq_true rfl, Nat.le_of_ble_eq_true rfl⟩ hl.1 rfl (Nat.le_of_ble_eq_true rfl) dX6_fill_47 ⟨Nat.zero_le _, Nat.zero_le _⟩) rfl ?_
          refine x_ifeq_b (tgt := 57) hx hb dX6_fill_50 (by decide) (fun h_50 => (Bool.false_ne_true ((h_50).symm.trans h_35)).elim) (fun h_50 => ?_)
          refine lv_iconst (v := 1) hx hb dX6_fill_53 (by decide) ?_
          refine lv_goto (tgt := 58) hx hb dX6_fill_54 (by decide) ?_
          refine px_goV (st1 := [.int (-11)]) (px_callS F hK (c_X6_answer l D cy _ 1) kc_X6_answer kw_methodLink_RX6_65 rfl trivial rfl ⟨rfl, rfl⟩ ⟨Nat.le_of_ble_eq_true rfl, Nat.le_of_ble_eq_true rfl⟩ hl.1 rfl (Nat.le_of_ble_eq_true rfl) dX6_fill_58 ⟨Nat.zero_le _, Nat.zero_le _⟩) rfl ?_
          exact px_iret F hr hlocks hS (by have e : f_fill r (nI cn) (nI kn) b = (r, (-11)) := (by simp [f_fill, h_4, h_14, h_35, h_40, ix_nI (show cn < 2 ^ 31 by omega), ix_nI (show kn < 2 ^ 31 by omega)] <;> rfl); rw [e]; exact ⟨rfl, _, _, hR⟩) dX6_fill_61
    · refine lv_bipush (v := -2) hx hb dX6_fill_17 (by decide) ?_
      exact px_iret F hr hlocks hS (by have e : f_fill r cl k0 b = (r, (-2)) := (by simp [f_fill, h_4, h_14] <;> rfl); rw [e]; exact ⟨rfl, _, _, hR⟩) dX6_fill_19
end
section
def clrH (f : Nat → Nat) (k : Nat) : Nat → Nat := fun j => if j < k then 0 else f j
theorem clrH_0 (f : Nat → Nat) : clrH f 0 = f := by funext j; simp [clrH]
theorem clrH_k (f : Nat → Nat) (k : Nat) : clrH f k k = f k := by simp [clrH]
theorem clrH_s (f : Nat → Nat) (k : Nat) : va_up (clrH f k) k 0 = clrH f (k + 1) := by
  funext j
  simp only [va_up, clrH]
  by_cases h : j = k
  · rw [if_pos h, if_pos (by omega)]
  · rw [if_neg h]
    by_cases h2 : j < k
    · rw [if_pos h2, if_pos (by omega)]
    · rw [if_neg h2, if_neg (by omega)]
def clrT (f : Nat → Int32) (k : Nat) : Nat → Int32 := fun j => if j < k then -1 else f j
theorem clrT_0 (f : Nat → Int32) : clrT f 0 = f := by funext j; simp [clrT]
theorem clrT_s (f : Nat → Int32) (k : Nat) : va_up (clrT f k) k (-1) = clrT f (k + 1) := by
  funext j
  simp only [va_up, clrT]
  by_cases h : j = k
  · rw [if_pos h, if_pos (by omega)]
  · rw [if_neg h]
    by_cases h2 : j < k
    · rw [if_pos h2, if_pos (by omega)]
    · rw [if_neg h2, if_neg (by omega)]
def kE (v : Nat → Int64) (E : Nat → Int64) (k : Nat) : Nat → Int64 := fun q => if q < k then v q else E q
theorem kE_0 (v E : Nat → Int64) : kE v E 0 = E := by funext j; simp [kE]
theorem kE_s (v E : Nat → Int64) (k : Nat) : va_up (kE v E k) k (v k) = kE v E (k + 1) := by
  funext j
  simp only [va_up, kE]
  by_cases h : j = k
  · rw [if_pos h, if_pos (by omega), h]
  · rw [if_neg h]
    by_cases h2 : j < k
    · rw [if_pos h2, if_pos (by omega)]
    · rw [if_neg h2, if_neg (by omega)]
theorem kE_at (v E : Nat → Int64) {n k : Nat} (h : k < n) : kE v E n k = v k := by simp [kE, h]
def putI (I : Nat → Int64) (s : Nat) (v : Nat → Int64) : Nat → (Nat → Int64)
  | 0 => I
  | k + 1 => va_up (putI I s v k) (s + k) (v k)
theorem comI_run (can : Int64 → Bool) (s n : Nat) (v : Nat → Int64) (I : Nat → Int64) : ∀ k, k ≤ n → (∀ q, q < k → can (v q) = true) → comI can s n v n I = comI can s n v (n - k) (putI I s v k) := by
  intro k
  induction k with
  | zero => intro _ _; rfl
  | succ k ih =>
    intro hk hc
    rw [ih (by omega) (fun q hq => hc q (by omega))]
    obtain ⟨d, hd⟩ : ∃ d, n - k = d + 1 := ⟨n - k - 1, by omega⟩
    rw [hd, comI]
    have e : n - (d + 1) = k := by omega
    rw [e, if_pos (hc k (by omega)), show n - (k + 1) = d by omega]
    rfl
theorem comI_end (can : Int64 → Bool) (s n : Nat) (v : Nat → Int64) (I : Nat → Int64) (hc : ∀ q, q < n → can (v q) = true) : comI can s n v n I = (putI I s v n, nI n) := by
  rw [comI_run can s n v I n (Nat.le_refl n) hc, Nat.sub_self]
  rfl
theorem comI_stop (can : Int64 → Bool) (s n : Nat) (v : Nat → Int64) (I : Nat → Int64) {k : Nat} (hk : k < n) (hc : ∀ q, q < k → can (v q) = true) (h : can (v k) = false) : comI can s n v n I = (putI I s v k, -15) := by
  rw [comI_run can s n v I k (by omega) hc]
  obtain ⟨d, hd⟩ : ∃ d, n - k = d + 1 := ⟨n - k - 1, by omega⟩
  rw [hd, comI]
  have e : n - (d + 1) = k := by omega
  rw [e, if_neg (by rw [h]; decide)]
theorem cp_nat {i n : Int32} {M : Nat} (hM : M ≤ 30) (hi : ¬ i < 0) (hn : ¬ n < 0) (h : ¬ nI M - i < n) : ∃ a b : Nat, i = nI a ∧ n = nI b ∧ a + b ≤ M := by
  obtain ⟨a, ha, rfl⟩ := nI_of hi
  obtain ⟨b, hb, rfl⟩ := nI_of hn
  refine ⟨a, b, rfl, rfl, ?_⟩
  rw [Int32.not_lt, Int32.le_iff_toInt_le] at h
  have e : (nI M - nI a).toInt = (M : Int) - a := by
    rw [Int32.toInt_sub, nI_toInt (by omega), nI_toInt ha]
    apply Int.bmod_eq_of_le <;> omega
  rw [e, nI_toInt hb] at h
  omega
theorem unlike_f {r : RS} {a b : Nat} (h : f_unlike r a b = false) (hb : 8 ≤ rK r b) : 8 ≤ rK r a := by
  simp only [f_unlike, Bool.and_eq_false_iff, Bool.not_eq_false', decide_eq_true_eq, Bool.or_eq_false_iff, decide_eq_false_iff_not] at h
  omega
end
section
/-! the reference: clear, raise, grow, copy -/
set_option maxHeartbeats 400000 in
set_option maxRecDepth 100000 in
theorem c_X6_clear (l : Launch) (D : va_G) (cy : Nat → ClassId) (A : Nat → Prop) (G : Nat → Nat) (r : RS) (C : Nat → Nat) (E : Nat → Int64) (sz : Nat)  {kk : Nat} (hI : Inv kk r) : Met l yX6_clear (px_w yX6_clear cX6_clear 3 (some .int)) (rmd 1 0 0) (px_P D cy [.ref (G 0)] sz (MR D cy A G r C E)) (px_Q (px_M D cy A G (some (.int (f_clear r ).2)) ((f_clear r ).1)) A) 0 0 A := by
  refine px_met (by decide) (Nat.le_of_ble_eq_true rfl) ?_
  intro p e s m below meth c F hr hlocks hnm hK hsz hR ls hl
  have hx := F.1
  have hb := F.2.1
  have hl : lv_has ls 3 [(0, .ref (G 0))] := hl
  have hS : va_S A s.heap s.heap [] := va_S.rf
  have hbd := hI.bd
  refine lv_iconst (v := 0) hx hb dX6_clear_0 (by decide) ?_
  refine lv_istore_n (lv' := [(1, .int 0), (0, .ref (G 0))]) hx hb dX6_clear_1 rfl hl (by decide) rfl (fun ls hl => ?_)
  refine lv_iconst (v := 0) hx hb dX6_clear_2 (by decide) ?_
  refine lv_istore_n (lv' := [(2, .int 0), (1, .int 0), (0, .ref (G 0))]) hx hb dX6_clear_3 rfl hl (by decide) rfl (fun ls hl => ?_)
  have loop : ∀ (d k : Nat), k + d = 16 → ∀ (H : Heap) (locs : List Loc) (ls : Array Slot), MR D cy A G (sHd r (clrH (rHd r) k)) (C) (E) H → va_S A s.heap H locs → lv_has ls 3 [(2, .int (nI k)), (1, .int (nI (f_cnt (fun k => if rHd r k = 0 then 0 else 1) k))), (0, .ref (G 0))] → W p l e (rmd 1 0 0) s m ([.ref (G 0)] : List Value).toArray below meth c H locs 0 0 (MQ below (px_Q (px_M D cy A G (some (.int (f_clear r ).2)) ((f_clear r ).1)) A) ([.ref (G 0)] : List Value).toArray s 0 0 A) (F0 m 4 ls []) := by
    intro d
    induction d with
    | zero =>
      intro k hk H locs ls hR hS hl
      refine lv_iload_n hx hb dX6_clear_4 rfl (lv_at hl 0 rfl) ?_
      refine lv_bipush (v := 16) hx hb dX6_clear_5 (by decide) ?_
      refine lv_icmp_ge (tgt := 40) hx hb dX6_clear_7 (by decide) (fun h_7 => ?_) (fun h_7 => by exfalso; have h_7 : k < 16 := nInle (show ¬ nI 16 ≤ nI k from h_7) (by omega) (by omega); omega)
      have h_7 : 16 ≤ k := nIle (show nI 16 ≤ nI k from h_7) (by omega) (by omega)
      have hkn : k = 16 := (by omega)
      refine lv_iconst (v := 0) hx hb dX6_clear_40 (by decide) ?_
      refine lv_istore_n (lv' := [(2, .int 0), (1, .int (nI (f_cnt (fun k => if rHd r k = 0 then 0 else 1) k))), (0, .ref (G 0))]) hx hb dX6_clear_41 rfl hl (by decide) rfl (fun ls hl => ?_)
      have loop2 : ∀ (d2 k2 : Nat), k2 + d2 = 8 → ∀ (H : Heap) (locs : List Loc) (ls : Array Slot), MR D cy A G (sTr (sHd r (clrH (rHd r) k)) (clrT (rTr r) k2)) (C) (E) H → va_S A s.heap H locs → lv_has ls 3 [(2, .int (nI k2)), (1, .int (nI (f_cnt (fun k => if rHd r k = 0 then 0 else 1) k))), (0, .ref (G 0))] → W p l e (rmd 1 0 0) s m ([.ref (G 0)] : List Value).toArray below meth c H locs 0 0 (MQ below (px_Q (px_M D cy A G (some (.int (f_clear r ).2)) ((f_clear r ).1)) A) ([.ref (G 0)] : List Value).toArray s 0 0 A) (F0 m 42 ls []) := by
        intro d2
        induction d2 with
        | zero =>
          intro k2 hk2 H locs ls hR hS hl
          refine lv_iload_n hx hb dX6_clear_42 rfl (lv_at hl 0 rfl) ?_
          refine lv_bipush (v := 8) hx hb dX6_clear_43 (by decide) ?_
          refine lv_icmp_ge (tgt := 61) hx hb dX6_clear_45 (by decide) (fun h_45 => ?_) (fun h_45 => by exfalso; have h_45 : k2 < 8 := nInle (show ¬ nI 8 ≤ nI k2 from h_45) (by omega) (by omega); omega)
          have h_45 : 8 ≤ k2 := nIle (show nI 8 ≤ nI k2 from h_45) (by omega) (by omega)
          refine lv_aload_n hx hb dX6_clear_61 rfl (lv_at hl 2 rfl) ?_
          refine lv_iconst (v := 0) hx hb dX6_clear_62 (by decide) ?_
          refine m_put F hK hR hS 11 (by decide) (v := 0) rfl (sPa (sTr (sHd r (clrH (rHd r) k)) (clrT (rTr r) k2)) 0) rfl kw_fieldLink_RX6_150 rfl rfl dX6_clear_63 (fun H locs hR hS => ?_)
          refine lv_aload_n hx hb dX6_clear_66 rfl (lv_at hl 2 rfl) ?_
          refine lv_iconst (v := -1) hx hb dX6_clear_67 (by decide) ?_
          refine m_put F hK hR hS 12 (by decide) (v := (-1)) rfl (sNu (sPa (sTr (sHd r (clrH (rHd r) k)) (clrT (rTr r) k2)) 0) (-1)) rfl kw_fieldLink_RX6_37 rfl rfl dX6_clear_68 (fun H locs hR hS => ?_)
          refine lv_aload_n hx hb dX6_clear_71 rfl (lv_at hl 2 rfl) ?_
          refine lv_iconst (v := 0) hx hb dX6_clear_72 (by decide) ?_
          refine m_put F hK hR hS 13 (by decide) (v := 0) rfl (sFa (sNu (sPa (sTr (sHd r (clrH (rHd r) k)) (clrT (rTr r) k2)) 0) (-1)) 0) rfl kw_fieldLink_RX6_111 rfl rfl dX6_clear_73 (fun H locs hR hS => ?_)
          refine lv_iload_n hx hb dX6_clear_76 rfl (lv_at hl 1 rfl) ?_
          have hkn2 : k2 = 8 := (by omega)
          exact px_iret F hr hlocks hS (by have e : f_clear r = (sFa (sNu (sPa (sTr (sHd r (clrH (rHd r) k)) (clrT (rTr r) k2)) 0) (-1)) 0, nI (f_cnt (fun k => if rHd r k = 0 then 0 else 1) k)) := (by rw [hkn, hkn2]; rfl); rw [e]; exact ⟨rfl, _, _, hR⟩) dX6_clear_77
        | succ d2 ih_loop2 =>
          intro k2 hk2 H locs ls hR hS hl
          refine lv_iload_n hx hb dX6_clear_42 rfl (lv_at hl 0 rfl) ?_
          refine lv_bipush (v := 8) hx hb dX6_clear_43 (by decide) ?_
          refine lv_icmp_ge (tgt := 61) hx hb dX6_clear_45 (by decide) (fun h_45 => by exfalso; have h_45 : 8 ≤ k2 := nIle (show nI 8 ≤ nI k2 from h_45) (by omega) (by omega); omega) (fun h_45 => ?_)
          have h_45 : k2 < 8 := nInle (show ¬ nI 8 ≤ nI k2 from h_45) (by omega) (by omega)
          refine lv_aload_n hx hb dX6_clear_48 rfl (lv_at hl 2 rfl) ?_
          refine m_get F hK hR 10 (by decide) rfl kw_fieldLink_RX6_34 dX6_clear_49 ?_
          refine lv_iload_n hx hb dX6_clear_52 rfl (lv_at hl 0 rfl) ?_
          refine lv_iconst (v := -1) hx hb dX6_clear_53 (by decide) ?_
          refine m_stTr F hK hR hS k2 (-1) rfl rfl (by omega) dX6_clear_54 (fun H locs hR hS => ?_)
          refine lv_iinc (v := nI (k2 + 1)) (lv' := [(2, .int (nI (k2 + 1))), (1, .int (nI (f_cnt (fun k => if rHd r k = 0 then 0 else 1) k))), (0, .ref (G 0))]) hx hb dX6_clear_55 hl (k := 0) rfl (by show nI k2 + 1 = nI (k2 + 1); exact nI_1 _) (by decide) rfl (fun ls hl => ?_)
          refine lv_goto (tgt := 42) hx hb dX6_clear_58 (by decide) ?_
          exact ih_loop2 (k2 + 1) (by omega) _ _ _ (by rw [← clrT_s]; exact hR) hS (lv_sub hl [0, 1, 2] rfl)
      exact loop2 8 0 (by omega) _ _ _ (by rw [clrT_0]; exact hR) hS (lv_sub hl [0, 1, 2] rfl)
    | succ d ih_loop =>
      intro k hk H locs ls hR hS hl
      have hh := hI.hd k (by omega)
      refine lv_iload_n hx hb dX6_clear_4 rfl (lv_at hl 0 rfl) ?_
      refine lv_bipush (v := 16) hx hb dX6_clear_5 (by decide) ?_
      refine lv_icmp_ge (tgt := 40) hx hb dX6_clear_7 (by decide) (fun h_7 => by exfalso; have h_7 : 16 ≤ k := nIle (show nI 16 ≤ nI k from h_7) (by omega) (by omega); omega) (fun h_7 => ?_)
      have h_7 : k < 16 := nInle (show ¬ nI 16 ≤ nI k from h_7) (by omega) (by omega)
      refine lv_iload_n hx hb dX6_clear_10 rfl (lv_at hl 1 rfl) ?_
      refine lv_aload_n hx hb dX6_clear_11 rfl (lv_at hl 2 rfl) ?_
      refine m_get F hK hR 9 (by decide) rfl kw_fieldLink_RX6_31 dX6_clear_12 ?_
      refine lv_iload_n hx hb dX6_clear_15 rfl (lv_at hl 0 rfl) ?_
      refine m_ldHd F hK hR k rfl (by omega) dX6_clear_16 ?_
      refine px_topi (y := nI (rHd r k)) (by show nI (clrH (rHd r) k k) = _; rw [clrH_k]) ?_
      refine lv_if_eq (tgt := 24) hx hb dX6_clear_17 (by decide) (fun h_17 => ?_) (fun h_17 => ?_)
      · have h_17 : (rHd r k) = 0 := nIeq (show nI (rHd r k) = nI 0 from h_17) (by omega) (by omega)
        refine lv_iconst (v := 0) hx hb dX6_clear_24 (by decide) ?_
        refine lv_iadd hx hb dX6_clear_25 ?_
        refine px_topi (y := nI ((f_cnt (fun k => if rHd r k = 0 then 0 else 1) k) + 0)) (nI_add _ _) ?_
        refine lv_istore_n (lv' := [(1, .int (nI ((f_cnt (fun k => if rHd r k = 0 then 0 else 1) k) + 0))), (2, .int (nI k)), (0, .ref (G 0))]) hx hb dX6_clear_26 rfl hl (by decide) rfl (fun ls hl => ?_)
        refine lv_aload_n hx hb dX6_clear_27 rfl (lv_at hl 2 rfl) ?_
        refine m_get F hK hR 9 (by decide) rfl kw_fieldLink_RX6_31 dX6_clear_28 ?_
        refine lv_iload_n hx hb dX6_clear_31 rfl (lv_at hl 1 rfl) ?_
        refine lv_iconst (v := 0) hx hb dX6_clear_32 (by decide) ?_
        refine m_stHd F hK hR hS k 0 rfl rfl (by omega) dX6_clear_33 (fun H locs hR hS => ?_)
        refine lv_iinc (v := nI (k + 1)) (lv' := [(2, .int (nI (k + 1))), (1, .int (nI ((f_cnt (fun k => if rHd r k = 0 then 0 else 1) k) + 0))), (0, .ref (G 0))]) hx hb dX6_clear_34 hl (k := 1) rfl (by show nI k + 1 = nI (k + 1); exact nI_1 _) (by decide) rfl (fun ls hl => ?_)
        refine lv_goto (tgt := 4) hx hb dX6_clear_37 (by decide) ?_
        have e_1 : (nI (f_cnt (fun k => if rHd r k = 0 then 0 else 1) (k + 1)) : Int32) = nI ((f_cnt (fun k => if rHd r k = 0 then 0 else 1) k) + 0) := (by simp [f_cnt, h_17])
        exact ih_loop (k + 1) (by omega) _ _ _ (by rw [← clrH_s]; exact hR) hS (by rw [e_1]; exact lv_sub hl [0, 1, 2] rfl)
      · have h_17 : ¬ (rHd r k) = 0 := nIne (show ¬ nI (rHd r k) = nI 0 from h_17)
        refine lv_iconst (v := 1) hx hb dX6_clear_20 (by decide) ?_
        refine lv_goto (tgt := 25) hx hb dX6_clear_21 (by decide) ?_
        refine lv_iadd hx hb dX6_clear_25 ?_
        refine px_topi (y := nI ((f_cnt (fun k => if rHd r k = 0 then 0 else 1) k) + 1)) (nI_add _ _) ?_
        refine lv_istore_n (lv' := [(1, .int (nI ((f_cnt (fun k => if rHd r k = 0 then 0 else 1) k) + 1))), (2, .int (nI k)), (0, .ref (G 0))]) hx hb dX6_clear_26 rfl hl (by decide) rfl (fun ls hl => ?_)
        refine lv_aload_n hx hb dX6_clear_27 rfl (lv_at hl 2 rfl) ?_
        refine m_get F hK hR 9 (by decide) rfl kw_fieldLink_RX6_31 dX6_clear_28 ?_
        refine lv_iload_n hx hb dX6_clear_31 rfl (lv_at hl 1 rfl) ?_
        refine lv_iconst (v := 0) hx hb dX6_clear_32 (by decide) ?_
        refine m_stHd F hK hR hS k 0 rfl rfl (by omega) dX6_clear_33 (fun H locs hR hS => ?_)
        refine lv_iinc (v := nI (k + 1)) (lv' := [(2, .int (nI (k + 1))), (1, .int (nI ((f_cnt (fun k => if rHd r k = 0 then 0 else 1) k) + 1))), (0, .ref (G 0))]) hx hb dX6_clear_34 hl (k := 1) rfl (by show nI k + 1 = nI (k + 1); exact nI_1 _) (by decide) rfl (fun ls hl => ?_)
        refine lv_goto (tgt := 4) hx hb dX6_clear_37 (by decide) ?_
        have e_1 : (nI (f_cnt (fun k => if rHd r k = 0 then 0 else 1) (k + 1)) : Int32) = nI ((f_cnt (fun k => if rHd r k = 0 then 0 else 1) k) + 1) := (by simp [f_cnt, h_17])
        exact ih_loop (k + 1) (by omega) _ _ _ (by rw [← clrH_s]; exact hR) hS (by rw [e_1]; exact lv_sub hl [0, 1, 2] rfl)
  have e_1 : (nI (f_cnt (fun k => if rHd r k = 0 then 0 else 1) 0) : Int32) = 0 := (by rfl)
  exact loop 16 0 (by omega) _ _ _ (by rw [clrH_0]; exact hR) hS (by rw [e_1]; exact lv_sub hl [0, 1, 2] rfl)
set_option maxHeartbeats 400000 in
set_option maxRecDepth 100000 in
theorem c_X6_raise (l : Launch) (D : va_G) (cy : Nat → ClassId) (A : Nat → Prop) (G : Nat → Nat) (r : RS) (C : Nat → Nat) (E : Nat → Int64) (sz : Nat) (t f : Int32) {kk : Nat} (hI : Inv kk r) : Met l yX6_raise (px_w yX6_raise cX6_raise 4 (some .int)) (rmd 3 0 0) (px_P D cy [.ref (G 0), .int t, .int f] sz (MR D cy A G r C E)) (px_Q (px_M D cy A G (some (.int (f_raise r t f).2)) ((f_raise r t f).1)) A) 0 0 A := by
  refine px_met (by decide) (Nat.le_of_ble_eq_true rfl) ?_
  intro p e s m below meth c F hr hlocks hnm hK hsz hR ls hl
  have hx := F.1
  have hb := F.2.1
  have hl : lv_has ls 4 [(0, .ref (G 0)), (1, .int t), (2, .int f)] := hl
  have hS : va_S A s.heap s.heap [] := va_S.rf
  have hbd := hI.bd
  refine lv_iload_n hx hb dX6_raise_0 rfl (lv_at hl 1 rfl) ?_
  refine lv_iconst (v := 0) hx hb dX6_raise_1 (by decide) ?_
  refine lv_bipush (v := 7) hx hb dX6_raise_2 (by decide) ?_
  refine px_goV (st1 := [.int (b2i (f_in t 0 7))]) (px_callS F hK (c_X6_in l D cy _ t 0 7) kc_X6_in kw_methodLink_RX6_57 rfl trivial rfl ⟨rfl, rfl⟩ ⟨Nat.le_of_ble_eq_true rfl, Nat.le_of_ble_eq_true rfl⟩ hl.1 rfl (Nat.le_of_ble_eq_true rfl) dX6_raise_4 ⟨Nat.zero_le _, Nat.zero_le _⟩) rfl ?_
  refine x_ifeq_b (tgt := 20) hx hb dX6_raise_7 (by decide) (fun h_7 => ?_) (fun h_7 => ?_)
  · refine lv_bipush (v := -2) hx hb dX6_raise_20 (by decide) ?_
    exact px_iret F hr hlocks hS (by have e : f_raise r t f = (r, (-2)) := (by simp [f_raise, h_7] <;> rfl); rw [e]; exact ⟨rfl, _, _, hR⟩) dX6_raise_22
  · refine lv_iload_n hx hb dX6_raise_10 rfl (lv_at hl 2 rfl) ?_
    refine lv_iconst (v := 1) hx hb dX6_raise_11 (by decide) ?_
    refine lv_bipush (v := 8) hx hb dX6_raise_12 (by decide) ?_
    refine px_goV (st1 := [.int (b2i (f_in f 1 8))]) (px_callS F hK (c_X6_in l D cy _ f 1 8) kc_X6_in kw_methodLink_RX6_57 rfl trivial rfl ⟨rfl, rfl⟩ ⟨Nat.le_of_ble_eq_true rfl, Nat.le_of_ble_eq_true rfl⟩ hl.1 rfl (Nat.le_of_ble_eq_true rfl) dX6_raise_14 ⟨Nat.zero_le _, Nat.zero_le _⟩) rfl ?_
    refine x_ifne_b (tgt := 23) hx hb dX6_raise_17 (by decide) (fun h_17 => ?_) (fun h_17 => ?_)
    · obtain ⟨tn, hl_tn, hh_tn, rfl⟩ := f_in_nat h_7 0 7 (by decide) (by decide) (by decide) (by decide)
      obtain ⟨fn, hl_fn, hh_fn, rfl⟩ := f_in_nat h_17 1 8 (by decide) (by decide) (by decide) (by decide)
      refine lv_aload_n hx hb dX6_raise_23 rfl (lv_at hl 0 rfl) ?_
      refine lv_iconst (v := 0) hx hb dX6_raise_24 (by decide) ?_
      refine m_put F hK hR hS 11 (by decide) (v := 0) rfl (sPa r 0) rfl kw_fieldLink_RX6_150 rfl rfl dX6_raise_25 (fun H locs hR hS => ?_)
      refine lv_iload_n hx hb dX6_raise_28 rfl (lv_at hl 2 rfl) ?_
      refine lv_istore_n (lv' := [(3, .int (nI fn)), (0, .ref (G 0)), (1, .int (nI tn)), (2, .int (nI fn))]) hx hb dX6_raise_29 rfl hl (by decide) rfl (fun ls hl => ?_)
      have loop : ∀ (d k : Nat), k + d = fn → ∀ (H : Heap) (locs : List Loc) (ls : Array Slot), MR D cy A G (sPa r (f_figs fn k)) (C) (E) H → va_S A s.heap H locs → lv_has ls 4 [(3, .int (nI (fn - k))), (0, .ref (G 0)), (1, .int (nI tn)), (2, .int (nI fn))] → W p l e (rmd 3 0 0) s m ([.ref (G 0), .int (nI tn), .int (nI fn)] : List Value).toArray below meth c H locs 0 0 (MQ below (px_Q (px_M D cy A G (some (.int (f_raise r (nI tn) (nI fn)).2)) ((f_raise r (nI tn) (nI fn)).1)) A) ([.ref (G 0), .int (nI tn), .int (nI fn)] : List Value).toArray s 0 0 A) (F0 m 30 ls []) := by
        intro d
        induction d with
        | zero =>
          intro k hk H locs ls hR hS hl
          refine lv_iload_n hx hb dX6_raise_30 rfl (lv_at hl 0 rfl) ?_
          refine lv_if_le (tgt := 53) hx hb dX6_raise_31 (by decide) (fun h_31 => ?_) (fun h_31 => by exfalso; have h_31 : 0 < (fn - k) := nInle (show ¬ nI (fn - k) ≤ nI 0 from h_31) (by omega) (by omega); omega)
          have h_31 : (fn - k) ≤ 0 := nIle (show nI (fn - k) ≤ nI 0 from h_31) (by omega) (by omega)
          refine lv_aload_n hx hb dX6_raise_53 rfl (lv_at hl 1 rfl) ?_
          refine lv_aload_n hx hb dX6_raise_54 rfl (lv_at hl 1 rfl) ?_
          refine m_get F hK hR 10 (by decide) rfl kw_fieldLink_RX6_34 dX6_raise_55 ?_
          refine lv_iload_n hx hb dX6_raise_58 rfl (lv_at hl 2 rfl) ?_
          refine m_ldTr F hK hR tn rfl (by omega) dX6_raise_59 ?_
          refine m_put F hK hR hS 12 (by decide) (v := rTr r tn) rfl (sNu (sPa r (f_figs fn k)) (rTr r tn)) rfl kw_fieldLink_RX6_37 rfl rfl dX6_raise_60 (fun H locs hR hS => ?_)
          refine lv_aload_n hx hb dX6_raise_63 rfl (lv_at hl 1 rfl) ?_
          refine m_get F hK hR 12 (by decide) rfl kw_fieldLink_RX6_37 dX6_raise_64 ?_
          refine lv_iconst (v := -1) hx hb dX6_raise_67 (by decide) ?_
          refine lv_icmp_ne (tgt := 75) hx hb dX6_raise_68 (by decide) (fun h_68 => ?_) (fun h_68 => ?_)
          · have h_68 : ¬ (rTr r tn) = (-1) := h_68
            refine lv_bipush (v := 6) hx hb dX6_raise_75 (by decide) ?_
            refine px_goV (st1 := [.int (-16)]) (px_callS F hK (c_X6_answer l D cy _ 6) kc_X6_answer kw_methodLink_RX6_65 rfl trivial rfl ⟨rfl, rfl⟩ ⟨Nat.le_of_ble_eq_true rfl, Nat.le_of_ble_eq_true rfl⟩ hl.1 rfl (Nat.le_of_ble_eq_true rfl) dX6_raise_77 ⟨Nat.zero_le _, Nat.zero_le _⟩) rfl ?_
            exact px_iret F hr hlocks hS (by have e : f_raise r (nI tn) (nI fn) = (sNu (sPa r (f_figs fn k)) (rTr r tn), (-16)) := (by rw [show k = fn by omega]; simp [f_raise, h_7, h_17, h_68, ix_nI (show tn < 2 ^ 31 by omega), ix_nI (show fn < 2 ^ 31 by omega)]); rw [e]; exact ⟨rfl, _, _, hR⟩) dX6_raise_80
          · have h_68 : (rTr r tn) = (-1) := h_68
            refine lv_iconst (v := 1) hx hb dX6_raise_71 (by decide) ?_
            refine lv_goto (tgt := 77) hx hb dX6_raise_72 (by decide) ?_
            refine px_goV (st1 := [.int (-11)]) (px_callS F hK (c_X6_answer l D cy _ 1) kc_X6_answer kw_methodLink_RX6_65 rfl trivial rfl ⟨rfl, rfl⟩ ⟨Nat.le_of_ble_eq_true rfl, Nat.le_of_ble_eq_true rfl⟩ hl.1 rfl (Nat.le_of_ble_eq_true rfl) dX6_raise_77 ⟨Nat.zero_le _, Nat.zero_le _⟩) rfl ?_
            exact px_iret F hr hlocks hS (by have e : f_raise r (nI tn) (nI fn) = (sNu (sPa r (f_figs fn k)) (rTr r tn), (-11)) := (by rw [show k = fn by omega]; simp [f_raise, h_7, h_17, h_68, ix_nI (show tn < 2 ^ 31 by omega), ix_nI (show fn < 2 ^ 31 by omega)]); rw [e]; exact ⟨rfl, _, _, hR⟩) dX6_raise_80
        | succ d ih_loop =>
          intro k hk H locs ls hR hS hl
          refine lv_iload_n hx hb dX6_raise_30 rfl (lv_at hl 0 rfl) ?_
          refine lv_if_le (tgt := 53) hx hb dX6_raise_31 (by decide) (fun h_31 => by exfalso; have h_31 : (fn - k) ≤ 0 := nIle (show nI (fn - k) ≤ nI 0 from h_31) (by omega) (by omega); omega) (fun h_31 => ?_)
          have h_31 : 0 < (fn - k) := nInle (show ¬ nI (fn - k) ≤ nI 0 from h_31) (by omega) (by omega)
          refine lv_aload_n hx hb dX6_raise_34 rfl (lv_at hl 1 rfl) ?_
          refine lv_bipush (v := 10) hx hb dX6_raise_35 (by decide) ?_
          refine lv_aload_n hx hb dX6_raise_37 rfl (lv_at hl 1 rfl) ?_
          refine m_get F hK hR 11 (by decide) rfl kw_fieldLink_RX6_150 dX6_raise_38 ?_
          refine lv_imul hx hb dX6_raise_41 ?_
          refine lv_iload_n hx hb dX6_raise_42 rfl (lv_at hl 0 rfl) ?_
          refine lv_iadd hx hb dX6_raise_43 ?_
          refine m_put F hK hR hS 11 (by decide) (v := (10 * (f_figs fn k)) + (nI (fn - k))) rfl (sPa r ((10 * (f_figs fn k)) + (nI (fn - k)))) rfl kw_fieldLink_RX6_150 rfl rfl dX6_raise_44 (fun H locs hR hS => ?_)
          have hl : lv_has ls 4 [(3, .int (nI ((fn - (k + 1)) + 1))), (0, .ref (G 0)), (1, .int (nI tn)), (2, .int (nI fn))] := (by rw [show (fn - (k + 1)) + 1 = fn - k by omega]; exact hl)
          refine lv_iinc (v := nI (fn - (k + 1))) (lv' := [(3, .int (nI (fn - (k + 1)))), (0, .ref (G 0)), (1, .int (nI tn)), (2, .int (nI fn))]) hx hb dX6_raise_47 hl (k := 0) rfl (pk_m1 _) (by decide) rfl (fun ls hl => ?_)
          refine lv_goto (tgt := 30) hx hb dX6_raise_50 (by decide) ?_
          exact ih_loop (k + 1) (by omega) _ _ _ hR hS (lv_sub hl [0, 1, 2, 3] rfl)
      have e_3 : (nI (fn - 0) : Int32) = nI fn := (by rfl)
      exact loop fn 0 (by omega) _ _ _ hR hS (by rw [e_3]; exact lv_sub hl [0, 1, 2, 3] rfl)
    · refine lv_bipush (v := -2) hx hb dX6_raise_20 (by decide) ?_
      exact px_iret F hr hlocks hS (by have e : f_raise r t f = (r, (-2)) := (by simp [f_raise, h_7, h_17] <;> rfl); rw [e]; exact ⟨rfl, _, _, hR⟩) dX6_raise_22
set_option maxHeartbeats 400000 in
set_option maxRecDepth 100000 in
theorem c_X6_grow (l : Launch) (D : va_G) (cy : Nat → ClassId) (A : Nat → Prop) (G : Nat → Nat) (r : RS) (C : Nat → Nat) (E : Nat → Int64) (sz : Nat) (cl n : Int32) {kk : Nat} (hI : Inv kk r) : Met l yX6_grow (px_w yX6_grow cX6_grow 6 (some .int)) (rmd 3 0 0) (px_P D cy [.ref (G 0), .int cl, .int n] sz (MR D cy A G r C E)) (px_Q (px_M D cy A G (some (.int (f_grow r cl n).2)) ((f_grow r cl n).1)) A) 0 0 A := by
  refine px_met (by decide) (Nat.le_of_ble_eq_true rfl) ?_
  intro p e s m below meth c F hr hlocks hnm hK hsz hR ls hl
  have hx := F.1
  have hb := F.2.1
  have hl : lv_has ls 6 [(0, .ref (G 0)), (1, .int cl), (2, .int n)] := hl
  have hS : va_S A s.heap s.heap [] := va_S.rf
  have hbd := hI.bd
  refine lv_iload_n hx hb dX6_grow_0 rfl (lv_at hl 1 rfl) ?_
  refine px_goV (st1 := [.int (b2i (f_in cl 0 15))]) (px_callS F hK (c_X6_isColumn l D cy _ cl) kc_X6_isColumn kw_methodLink_RX6_53 rfl trivial rfl ⟨rfl, rfl⟩ ⟨Nat.le_of_ble_eq_true rfl, Nat.le_of_ble_eq_true rfl⟩ hl.1 rfl (Nat.le_of_ble_eq_true rfl) dX6_grow_1 ⟨Nat.zero_le _, Nat.zero_le _⟩) rfl ?_
  refine x_ifeq_b (tgt := 13) hx hb dX6_grow_4 (by decide) (fun h_4 => ?_) (fun h_4 => ?_)
  · refine lv_bipush (v := -2) hx hb dX6_grow_13 (by decide) ?_
    exact px_iret F hr hlocks hS (by have e : f_grow r cl n = (r, (-2)) := (by simp [f_grow, h_4] <;> rfl); rw [e]; exact ⟨rfl, _, _, hR⟩) dX6_grow_15
  · refine lv_iload_n hx hb dX6_grow_7 rfl (lv_at hl 2 rfl) ?_
    refine lv_bipush (v := 30) hx hb dX6_grow_8 (by decide) ?_
    refine lv_icmp_le (tgt := 16) hx hb dX6_grow_10 (by decide) (fun h_10 => ?_) (fun h_10 => ?_)
    · have h_10 : ¬ 30 < n := Int32.not_lt.mpr h_10
      obtain ⟨cn, hl_cn, hh_cn, rfl⟩ := f_in_nat h_4 0 15 (by decide) (by decide) (by decide) (by decide)
      have hc0 := hI.hd cn (by omega)
      have hc1 := hI.tb _ hc0
      refine lv_aload_n hx hb dX6_grow_16 rfl (lv_at hl 0 rfl) ?_
      refine px_goV (st1 := [.int (b2i (decide (6000 ≤ rN r)))]) (px_callV F hK (c_X6_isFull l D cy A G r _ _ _ (by omega)) kc_X6_isFull kw_methodLink_RX6_61 rfl hR (m_recv hK hR) rfl ⟨rfl, rfl⟩ ⟨Nat.le_of_ble_eq_true rfl, Nat.le_of_ble_eq_true rfl⟩ hl.1 rfl (Nat.le_of_ble_eq_true rfl) dX6_grow_17 ⟨Nat.zero_le _, Nat.zero_le _⟩) rfl ?_
      refine x_ifeq_b (tgt := 26) hx hb dX6_grow_20 (by decide) (fun h_20 => ?_) (fun h_20 => ?_)
      · have h_20 : ¬ (6000 ≤ rN r) := of_decide_eq_false h_20
        refine lv_aload_n hx hb dX6_grow_26 rfl (lv_at hl 0 rfl) ?_
        refine m_get F hK hR 9 (by decide) rfl kw_fieldLink_RX6_31 dX6_grow_27 ?_
        refine lv_iload_n hx hb dX6_grow_30 rfl (lv_at hl 1 rfl) ?_
        refine m_ldHd F hK hR cn rfl (by omega) dX6_grow_31 ?_
        refine lv_istore_n (lv' := [(3, .int (nI (rHd r cn))), (0, .ref (G 0)), (1, .int (nI cn)), (2, .int n)]) hx hb dX6_grow_32 rfl hl (by decide) rfl (fun ls hl => ?_)
        refine lv_iload_n hx hb dX6_grow_33 rfl (lv_at hl 0 rfl) ?_
        refine lv_if_eq (tgt := 41) hx hb dX6_grow_34 (by decide) (fun h_34 => ?_) (fun h_34 => ?_)
        · have h_34 : (rHd r cn) = 0 := nIeq (show nI (rHd r cn) = nI 0 from h_34) (by omega) (by omega)
          refine lv_iload_n hx hb dX6_grow_41 rfl (lv_at hl 0 rfl) ?_
          refine lv_if_ne (tgt := 49) hx hb dX6_grow_42 (by decide) (fun h_42 => by exfalso; have h_42 : ¬ (rHd r cn) = 0 := nIne (show ¬ nI (rHd r cn) = nI 0 from h_42); omega) (fun h_42 => ?_)
          have h_42 : (rHd r cn) = 0 := nIeq (show nI (rHd r cn) = nI 0 from h_42) (by omega) (by omega)
          refine lv_iconst (v := 1) hx hb dX6_grow_45 (by decide) ?_
          refine lv_goto (tgt := 50) hx hb dX6_grow_46 (by decide) ?_
          refine px_goV (st1 := [.int (-11)]) (px_callS F hK (c_X6_answer l D cy _ 1) kc_X6_answer kw_methodLink_RX6_65 rfl trivial rfl ⟨rfl, rfl⟩ ⟨Nat.le_of_ble_eq_true rfl, Nat.le_of_ble_eq_true rfl⟩ hl.1 rfl (Nat.le_of_ble_eq_true rfl) dX6_grow_50 ⟨Nat.zero_le _, Nat.zero_le _⟩) rfl ?_
          exact px_iret F hr hlocks hS (by have e : f_grow r (nI cn) n = (r, (-11)) := (by simp [f_grow, h_4, h_10, h_20, h_34, h_42, ix_nI (show cn < 2 ^ 31 by omega)] <;> rfl); rw [e]; exact ⟨rfl, _, _, hR⟩) dX6_grow_53
        · have h_34 : ¬ (rHd r cn) = 0 := nIne (show ¬ nI (rHd r cn) = nI 0 from h_34)
          refine lv_iload_n hx hb dX6_grow_37 rfl (lv_at hl 3 rfl) ?_
          refine lv_if_ge (tgt := 54) hx hb dX6_grow_38 (by decide) (fun h_38 => ?_) (fun h_38 => ?_)
          · have h_38 : ¬ n < 0 := Int32.not_lt.mpr h_38
            obtain ⟨nn, hh_nn, rfl⟩ := le_nat 30 h_38 h_10 (by decide) (by decide)
            refine lv_aload_n hx hb dX6_grow_54 rfl (lv_at hl 1 rfl) ?_
            refine lv_aload_n hx hb dX6_grow_55 rfl (lv_at hl 1 rfl) ?_
            refine m_get F hK hR 1 (by decide) rfl kw_fieldLink_RX6_7 dX6_grow_56 ?_
            refine lv_iload_n hx hb dX6_grow_59 rfl (lv_at hl 0 rfl) ?_
            refine m_ldK F hK hR (rHd r cn) rfl (by omega) dX6_grow_60 ?_
            refine lv_iload_n hx hb dX6_grow_61 rfl (lv_at hl 3 rfl) ?_
            refine px_goMx (st1 := [.int (nI ((rT r) + 1))]) (px_callV F hK (c_X6_table l D cy A G r _ _ _ (rK r (rHd r cn)) nn (show (rT r) + 1 < 13000 by omega) (show (rN r) + nn ≤ 12200 by omega) (by omega) (by omega)) kc_X6_table kw_methodLink_RX6_69 rfl hR (m_recv hK hR) rfl ⟨rfl, rfl⟩ ⟨Nat.le_of_ble_eq_true rfl, Nat.le_of_ble_eq_true rfl⟩ hl.1 rfl (Nat.le_of_ble_eq_true rfl) dX6_grow_62 ⟨Nat.zero_le _, Nat.zero_le _⟩) hS rfl (fun H locs hR hS => ?_)
            refine lv_istore (lv' := [(4, .int (nI ((rT r) + 1))), (3, .int (nI (rHd r cn))), (0, .ref (G 0)), (1, .int (nI cn)), (2, .int (nI nn))]) hx hb dX6_grow_65 hl (by decide) rfl (fun ls hl => ?_)
            have hT1 : ∀ q, q ≤ rT r → rS (f_table r (rK r (rHd r cn)) nn) q = rS r q := (fun q hq => va_up_ne _ _ (by omega))
            have hT2 : ∀ q, q ≤ rT r → rMn (f_table r (rK r (rHd r cn)) nn) q = rMn r q := (fun q hq => va_up_ne _ _ (by omega))
            have hT3 : rS (f_table r (rK r (rHd r cn)) nn) (rT r + 1) = rN r := va_up_self _ _ _
            have hm1 := hT1 _ hc0
            have hm2 := hT2 _ hc0
            refine lv_iconst (v := 0) hx hb dX6_grow_67 (by decide) ?_
            refine lv_istore (lv' := [(5, .int 0), (4, .int (nI ((rT r) + 1))), (3, .int (nI (rHd r cn))), (0, .ref (G 0)), (1, .int (nI cn)), (2, .int (nI nn))]) hx hb dX6_grow_68 hl (by decide) rfl (fun ls hl => ?_)
            have loop : ∀ (d k : Nat), k + d = (min nn (rMn r (rHd r cn))) → ∀ (H : Heap) (locs : List Loc) (ls : Array Slot), MR D cy A G (sI (f_table r (rK r (rHd r cn)) nn) (cpyI (rI (f_table r (rK r (rHd r cn)) nn)) (rS (f_table r (rK r (rHd r cn)) nn) (rHd r cn)) (rS (f_table r (rK r (rHd r cn)) nn) (rT r + 1)) k)) (C) (E) H → va_S A s.heap H locs → lv_has ls 6 [(5, .int (nI k)), (4, .int (nI ((rT r) + 1))), (3, .int (nI (rHd r cn))), (0, .ref (G 0)), (1, .int (nI cn)), (2, .int (nI nn))] → W p l e (rmd 3 0 0) s m ([.ref (G 0), .int (nI cn), .int (nI nn)] : List Value).toArray below meth c H locs 0 0 (MQ below (px_Q (px_M D cy A G (some (.int (f_grow r (nI cn) (nI nn)).2)) ((f_grow r (nI cn) (nI nn)).1)) A) ([.ref (G 0), .int (nI cn), .int (nI nn)] : List Value).toArray s 0 0 A) (F0 m 70 ls []) := by
              intro d
              induction d with
              | zero =>
                intro k hk H locs ls hR hS hl
                refine lv_iload hx hb dX6_grow_70 (lv_at hl 0 rfl) ?_
                refine lv_iload_n hx hb dX6_grow_72 rfl (lv_at hl 5 rfl) ?_
                refine lv_icmp_ge (tgt := 108) hx hb dX6_grow_73 (by decide) (fun h_73 => ?_) (fun h_73 => ?_)
                · have h_73 : nn ≤ k := nIle (show nI nn ≤ nI k from h_73) (by omega) (by omega)
                  refine lv_aload_n hx hb dX6_grow_108 rfl (lv_at hl 3 rfl) ?_
                  refine m_get F hK hR 9 (by decide) rfl kw_fieldLink_RX6_31 dX6_grow_109 ?_
                  refine lv_iload_n hx hb dX6_grow_112 rfl (lv_at hl 4 rfl) ?_
                  refine lv_iload hx hb dX6_grow_113 (lv_at hl 1 rfl) ?_
                  refine m_stHd F hK hR hS cn ((rT r) + 1) rfl rfl (by omega) dX6_grow_115 (fun H locs hR hS => ?_)
                  refine lv_iconst (v := 1) hx hb dX6_grow_116 (by decide) ?_
                  have hkn : min nn (rMn r (rHd r cn)) = k := (by omega)
                  exact px_iret F hr hlocks hS (by have e : f_grow r (nI cn) (nI nn) = (sHd (sI (f_table r (rK r (rHd r cn)) nn) (cpyI (rI (f_table r (rK r (rHd r cn)) nn)) (rS (f_table r (rK r (rHd r cn)) nn) (rHd r cn)) (rS (f_table r (rK r (rHd r cn)) nn) (rT r + 1)) k)) (va_up (rHd r) cn ((rT r) + 1)), 1) := (by simp only [f_grow, ix_nI (show cn < 2 ^ 31 by omega), ix_nI (show nn < 2 ^ 31 by omega)]; simp [h_4, h_10, h_20, h_34, h_38, hkn]); rw [e]; exact ⟨rfl, _, _, hR⟩) dX6_grow_117
                · have h_73 : k < nn := nInle (show ¬ nI nn ≤ nI k from h_73) (by omega) (by omega)
                  refine lv_iload hx hb dX6_grow_76 (lv_at hl 0 rfl) ?_
                  refine lv_aload_n hx hb dX6_grow_78 rfl (lv_at hl 3 rfl) ?_
                  refine m_get F hK hR 2 (by decide) rfl kw_fieldLink_RX6_13 dX6_grow_79 ?_
                  refine lv_iload_n hx hb dX6_grow_82 rfl (lv_at hl 2 rfl) ?_
                  refine m_ldMn F hK hR (rHd r cn) rfl (by omega) dX6_grow_83 ?_
                  refine lv_icmp_ge (tgt := 108) hx hb dX6_grow_84 (by decide) (fun h_84 => ?_) (fun h_84 => by exfalso; have h_84 : k < (rMn (f_table r (rK r (rHd r cn)) nn) (rHd r cn)) := nInle (show ¬ nI (rMn (f_table r (rK r (rHd r cn)) nn) (rHd r cn)) ≤ nI k from h_84) (by omega) (by omega); omega)
                  have h_84 : (rMn (f_table r (rK r (rHd r cn)) nn) (rHd r cn)) ≤ k := nIle (show nI (rMn (f_table r (rK r (rHd r cn)) nn) (rHd r cn)) ≤ nI k from h_84) (by omega) (by omega)
                  refine lv_aload_n hx hb dX6_grow_108 rfl (lv_at hl 3 rfl) ?_
                  refine m_get F hK hR 9 (by decide) rfl kw_fieldLink_RX6_31 dX6_grow_109 ?_
                  refine lv_iload_n hx hb dX6_grow_112 rfl (lv_at hl 4 rfl) ?_
                  refine lv_iload hx hb dX6_grow_113 (lv_at hl 1 rfl) ?_
                  refine m_stHd F hK hR hS cn ((rT r) + 1) rfl rfl (by omega) dX6_grow_115 (fun H locs hR hS => ?_)
                  refine lv_iconst (v := 1) hx hb dX6_grow_116 (by decide) ?_
                  have hkn : min nn (rMn r (rHd r cn)) = k := (by omega)
                  exact px_iret F hr hlocks hS (by have e : f_grow r (nI cn) (nI nn) = (sHd (sI (f_table r (rK r (rHd r cn)) nn) (cpyI (rI (f_table r (rK r (rHd r cn)) nn)) (rS (f_table r (rK r (rHd r cn)) nn) (rHd r cn)) (rS (f_table r (rK r (rHd r cn)) nn) (rT r + 1)) k)) (va_up (rHd r) cn ((rT r) + 1)), 1) := (by simp only [f_grow, ix_nI (show cn < 2 ^ 31 by omega), ix_nI (show nn < 2 ^ 31 by omega)]; simp [h_4, h_10, h_20, h_34, h_38, hkn]); rw [e]; exact ⟨rfl, _, _, hR⟩) dX6_grow_117
              | succ d ih_loop =>
                intro k hk H locs ls hR hS hl
                refine lv_iload hx hb dX6_grow_70 (lv_at hl 0 rfl) ?_
                refine lv_iload_n hx hb dX6_grow_72 rfl (lv_at hl 5 rfl) ?_
                refine lv_icmp_ge (tgt := 108) hx hb dX6_grow_73 (by decide) (fun h_73 => by exfalso; have h_73 : nn ≤ k := nIle (show nI nn ≤ nI k from h_73) (by omega) (by omega); omega) (fun h_73 => ?_)
                have h_73 : k < nn := nInle (show ¬ nI nn ≤ nI k from h_73) (by omega) (by omega)
                refine lv_iload hx hb dX6_grow_76 (lv_at hl 0 rfl) ?_
                refine lv_aload_n hx hb dX6_grow_78 rfl (lv_at hl 3 rfl) ?_
                refine m_get F hK hR 2 (by decide) rfl kw_fieldLink_RX6_13 dX6_grow_79 ?_
                refine lv_iload_n hx hb dX6_grow_82 rfl (lv_at hl 2 rfl) ?_
                refine m_ldMn F hK hR (rHd r cn) rfl (by omega) dX6_grow_83 ?_
                refine lv_icmp_ge (tgt := 108) hx hb dX6_grow_84 (by decide) (fun h_84 => by exfalso; have h_84 : (rMn (f_table r (rK r (rHd r cn)) nn) (rHd r cn)) ≤ k := nIle (show nI (rMn (f_table r (rK r (rHd r cn)) nn) (rHd r cn)) ≤ nI k from h_84) (by omega) (by omega); omega) (fun h_84 => ?_)
                have h_84 : k < (rMn (f_table r (rK r (rHd r cn)) nn) (rHd r cn)) := nInle (show ¬ nI (rMn (f_table r (rK r (rHd r cn)) nn) (rHd r cn)) ≤ nI k from h_84) (by omega) (by omega)
                refine lv_aload_n hx hb dX6_grow_87 rfl (lv_at hl 3 rfl) ?_
                refine lv_iload hx hb dX6_grow_88 (lv_at hl 1 rfl) ?_
                refine lv_iload hx hb dX6_grow_90 (lv_at hl 0 rfl) ?_
                refine lv_aload_n hx hb dX6_grow_92 rfl (lv_at hl 3 rfl) ?_
                refine lv_iload_n hx hb dX6_grow_93 rfl (lv_at hl 2 rfl) ?_
                refine lv_iload hx hb dX6_grow_94 (lv_at hl 0 rfl) ?_
                refine px_goV (st1 := [.long (f_at (sI (f_table r (rK r (rHd r cn)) nn) (cpyI (rI (f_table r (rK r (rHd r cn)) nn)) (rS (f_table r (rK r (rHd r cn)) nn) (rHd r cn)) (rS (f_table r (rK r (rHd r cn)) nn) (rT r + 1)) k)) (rHd r cn) k), .int (nI k), .int (nI ((rT r) + 1)), .ref (G 0)]) (px_callV F hK (c_X6_at l D cy A G (sI (f_table r (rK r (rHd r cn)) nn) (cpyI (rI (f_table r (rK r (rHd r cn)) nn)) (rS (f_table r (rK r (rHd r cn)) nn) (rHd r cn)) (rS (f_table r (rK r (rHd r cn)) nn) (rT r + 1)) k)) _ _ _ (rHd r cn) k (by omega) (show rS (f_table r (rK r (rHd r cn)) nn) (rHd r cn) + k < 12200 by omega)) kc_X6_at kw_methodLink_RX6_80 rfl hR (m_recv hK hR) rfl ⟨rfl, rfl⟩ ⟨Nat.le_of_ble_eq_true rfl, Nat.le_of_ble_eq_true rfl⟩ hl.1 rfl (Nat.le_of_ble_eq_true rfl) dX6_grow_96 ⟨Nat.zero_le _, Nat.zero_le _⟩) rfl ?_
                refine px_goMx (st1 := []) (px_callV F hK (c_X6_put l D cy A G (sI (f_table r (rK r (rHd r cn)) nn) (cpyI (rI (f_table r (rK r (rHd r cn)) nn)) (rS (f_table r (rK r (rHd r cn)) nn) (rHd r cn)) (rS (f_table r (rK r (rHd r cn)) nn) (rT r + 1)) k)) _ _ _ ((rT r) + 1) k (f_at (sI (f_table r (rK r (rHd r cn)) nn) (cpyI (rI (f_table r (rK r (rHd r cn)) nn)) (rS (f_table r (rK r (rHd r cn)) nn) (rHd r cn)) (rS (f_table r (rK r (rHd r cn)) nn) (rT r + 1)) k)) (rHd r cn) k) (by omega) (show rS (f_table r (rK r (rHd r cn)) nn) ((rT r) + 1) + k < 12200 by omega)) kc_X6_put kw_methodLink_RX6_76 rfl hR (m_recv hK hR) rfl ⟨rfl, rfl⟩ ⟨Nat.le_of_ble_eq_true rfl, Nat.le_of_ble_eq_true rfl⟩ hl.1 rfl (Nat.le_of_ble_eq_true rfl) dX6_grow_99 ⟨Nat.zero_le _, Nat.zero_le _⟩) hS rfl (fun H locs hR hS => ?_)
                refine lv_iinc (v := nI (k + 1)) (lv' := [(5, .int (nI (k + 1))), (4, .int (nI ((rT r) + 1))), (3, .int (nI (rHd r cn))), (0, .ref (G 0)), (1, .int (nI cn)), (2, .int (nI nn))]) hx hb dX6_grow_102 hl (k := 0) rfl (by show nI k + 1 = nI (k + 1); exact nI_1 _) (by decide) rfl (fun ls hl => ?_)
                refine lv_goto (tgt := 70) hx hb dX6_grow_105 (by decide) ?_
                exact ih_loop (k + 1) (by omega) _ _ _ hR hS (lv_sub hl [0, 1, 2, 3, 4, 5] rfl)
            exact loop (min nn (rMn r (rHd r cn))) 0 (by omega) _ _ _ hR hS (lv_sub hl [0, 1, 2, 3, 4, 5] rfl)
          · have h_38 : n < 0 := Int32.not_le.mp h_38
            refine lv_iload_n hx hb dX6_grow_41 rfl (lv_at hl 0 rfl) ?_
            refine lv_if_ne (tgt := 49) hx hb dX6_grow_42 (by decide) (fun h_42 => ?_) (fun h_42 => by exfalso; have h_42 : (rHd r cn) = 0 := nIeq (show nI (rHd r cn) = nI 0 from h_42) (by omega) (by omega); omega)
            have h_42 : ¬ (rHd r cn) = 0 := nIne (show ¬ nI (rHd r cn) = nI 0 from h_42)
            refine lv_iconst (v := 4) hx hb dX6_grow_49 (by decide) ?_
            refine px_goV (st1 := [.int (-14)]) (px_callS F hK (c_X6_answer l D cy _ 4) kc_X6_answer kw_methodLink_RX6_65 rfl trivial rfl ⟨rfl, rfl⟩ ⟨Nat.le_of_ble_eq_true rfl, Nat.le_of_ble_eq_true rfl⟩ hl.1 rfl (Nat.le_of_ble_eq_true rfl) dX6_grow_50 ⟨Nat.zero_le _, Nat.zero_le _⟩) rfl ?_
            exact px_iret F hr hlocks hS (by have e : f_grow r (nI cn) n = (r, (-14)) := (by simp [f_grow, h_4, h_10, h_20, h_34, h_38, h_42, ix_nI (show cn < 2 ^ 31 by omega)] <;> rfl); rw [e]; exact ⟨rfl, _, _, hR⟩) dX6_grow_53
      · have h_20 : 6000 ≤ rN r := of_decide_eq_true h_20
        refine lv_bipush (v := -3) hx hb dX6_grow_23 (by decide) ?_
        exact px_iret F hr hlocks hS (by have e : f_grow r (nI cn) n = (r, (-3)) := (by simp [f_grow, h_4, h_10, h_20, ix_nI (show cn < 2 ^ 31 by omega)] <;> rfl); rw [e]; exact ⟨rfl, _, _, hR⟩) dX6_grow_25
    · have h_10 : 30 < n := Int32.not_le.mp h_10
      refine lv_bipush (v := -2) hx hb dX6_grow_13 (by decide) ?_
      exact px_iret F hr hlocks hS (by have e : f_grow r cl n = (r, (-2)) := (by simp [f_grow, h_4, h_10] <;> rfl); rw [e]; exact ⟨rfl, _, _, hR⟩) dX6_grow_15
end
section
/-! the reference: copy -/
set_option maxHeartbeats 400000 in
set_option maxRecDepth 100000 in
theorem c_X6_copy (l : Launch) (D : va_G) (cy : Nat → ClassId) (A : Nat → Prop) (G : Nat → Nat) (r : RS) (C : Nat → Nat) (E : Nat → Int64) (sz : Nat) (cl i ot j n : Int32) {kk : Nat} (hI : Inv kk r) : Met l yX6_copy (px_w yX6_copy cX6_copy 9 (some .int)) (rmd 4 0 0) (px_P D cy [.ref (G 0), .int cl, .int i, .int ot, .int j, .int n] sz (MR D cy A G r C E)) (px_Q (px_M D cy A G (some (.int (f_copy r cl i ot j n).2)) ((f_copy r cl i ot j n).1)) A) 0 0 A := by
  refine px_met (by decide) (Nat.le_of_ble_eq_true rfl) ?_
  intro p e s m below meth c F hr hlocks hnm hK hsz hR ls hl
  have hx := F.1
  have hb := F.2.1
  have hl : lv_has ls 9 [(0, .ref (G 0)), (1, .int cl), (2, .int i), (3, .int ot), (4, .int j), (5, .int n)] := hl
  have hS : va_S A s.heap s.heap [] := va_S.rf
  have hbd := hI.bd
  refine lv_iload_n hx hb dX6_copy_0 rfl (lv_at hl 1 rfl) ?_
  refine px_goV (st1 := [.int (b2i (f_in cl 0 15))]) (px_callS F hK (c_X6_isColumn l D cy _ cl) kc_X6_isColumn kw_methodLink_RX6_53 rfl trivial rfl ⟨rfl, rfl⟩ ⟨Nat.le_of_ble_eq_true rfl, Nat.le_of_ble_eq_true rfl⟩ hl.1 rfl (Nat.le_of_ble_eq_true rfl) dX6_copy_1 ⟨Nat.zero_le _, Nat.zero_le _⟩) rfl ?_
  refine x_ifeq_b (tgt := 14) hx hb dX6_copy_4 (by decide) (fun h_4 => ?_) (fun h_4 => ?_)
  · refine lv_bipush (v := -2) hx hb dX6_copy_14 (by decide) ?_
    exact px_iret F hr hlocks hS (by have e : f_copy r cl i ot j n = (r, (-2)) := (by simp [f_copy, h_4] <;> rfl); rw [e]; exact ⟨rfl, _, _, hR⟩) dX6_copy_16
  · refine lv_iload_n hx hb dX6_copy_7 rfl (lv_at hl 3 rfl) ?_
    refine px_goV (st1 := [.int (b2i (f_in ot 0 15))]) (px_callS F hK (c_X6_isColumn l D cy _ ot) kc_X6_isColumn kw_methodLink_RX6_53 rfl trivial rfl ⟨rfl, rfl⟩ ⟨Nat.le_of_ble_eq_true rfl, Nat.le_of_ble_eq_true rfl⟩ hl.1 rfl (Nat.le_of_ble_eq_true rfl) dX6_copy_8 ⟨Nat.zero_le _, Nat.zero_le _⟩) rfl ?_
    refine x_ifne_b (tgt := 17) hx hb dX6_copy_11 (by decide) (fun h_11 => ?_) (fun h_11 => ?_)
    · obtain ⟨cn, hl_cn, hh_cn, rfl⟩ := f_in_nat h_4 0 15 (by decide) (by decide) (by decide) (by decide)
      obtain ⟨on, hl_on, hh_on, rfl⟩ := f_in_nat h_11 0 15 (by decide) (by decide) (by decide) (by decide)
      have hc0 := hI.hd cn (by omega)
      have hc1 := hI.tb _ hc0
      have hd0 := hI.hd on (by omega)
      have hd1 := hI.tb _ hd0
      refine lv_aload_n hx hb dX6_copy_17 rfl (lv_at hl 0 rfl) ?_
      refine m_get F hK hR 9 (by decide) rfl kw_fieldLink_RX6_31 dX6_copy_18 ?_
      refine lv_iload_n hx hb dX6_copy_21 rfl (lv_at hl 1 rfl) ?_
      refine m_ldHd F hK hR cn rfl (by omega) dX6_copy_22 ?_
      refine lv_istore (lv' := [(6, .int (nI (rHd r cn))), (0, .ref (G 0)), (1, .int (nI cn)), (2, .int i), (3, .int (nI on)), (4, .int j), (5, .int n)]) hx hb dX6_copy_23 hl (by decide) rfl (fun ls hl => ?_)
      refine lv_aload_n hx hb dX6_copy_25 rfl (lv_at hl 1 rfl) ?_
      refine m_get F hK hR 9 (by decide) rfl kw_fieldLink_RX6_31 dX6_copy_26 ?_
      refine lv_iload_n hx hb dX6_copy_29 rfl (lv_at hl 4 rfl) ?_
      refine m_ldHd F hK hR on rfl (by omega) dX6_copy_30 ?_
      refine lv_istore (lv' := [(7, .int (nI (rHd r on))), (6, .int (nI (rHd r cn))), (0, .ref (G 0)), (1, .int (nI cn)), (2, .int i), (3, .int (nI on)), (4, .int j), (5, .int n)]) hx hb dX6_copy_31 hl (by decide) rfl (fun ls hl => ?_)
      refine lv_iload hx hb dX6_copy_33 (lv_at hl 1 rfl) ?_
      refine lv_if_eq (tgt := 43) hx hb dX6_copy_35 (by decide) (fun h_35 => ?_) (fun h_35 => ?_)
      · have h_35 : (rHd r cn) = 0 := nIeq (show nI (rHd r cn) = nI 0 from h_35) (by omega) (by omega)
        refine lv_iconst (v := 1) hx hb dX6_copy_43 (by decide) ?_
        refine px_goV (st1 := [.int (-11)]) (px_callS F hK (c_X6_answer l D cy _ 1) kc_X6_answer kw_methodLink_RX6_65 rfl trivial rfl ⟨rfl, rfl⟩ ⟨Nat.le_of_ble_eq_true rfl, Nat.le_of_ble_eq_true rfl⟩ hl.1 rfl (Nat.le_of_ble_eq_true rfl) dX6_copy_44 ⟨Nat.zero_le _, Nat.zero_le _⟩) rfl ?_
        exact px_iret F hr hlocks hS (by have e : f_copy r (nI cn) i (nI on) j n = (r, (-11)) := (by simp [f_copy, f_cpo, h_4, h_11, h_35, ix_nI (show cn < 2 ^ 31 by omega), ix_nI (show on < 2 ^ 31 by omega)] <;> rfl); rw [e]; exact ⟨rfl, _, _, hR⟩) dX6_copy_47
      · have h_35 : ¬ (rHd r cn) = 0 := nIne (show ¬ nI (rHd r cn) = nI 0 from h_35)
        refine lv_iload hx hb dX6_copy_38 (lv_at hl 0 rfl) ?_
        refine lv_if_ne (tgt := 48) hx hb dX6_copy_40 (by decide) (fun h_40 => ?_) (fun h_40 => ?_)
        · have h_40 : ¬ (rHd r on) = 0 := nIne (show ¬ nI (rHd r on) = nI 0 from h_40)
          refine lv_aload_n hx hb dX6_copy_48 rfl (lv_at hl 2 rfl) ?_
          refine lv_iload hx hb dX6_copy_49 (lv_at hl 1 rfl) ?_
          refine lv_iload hx hb dX6_copy_51 (lv_at hl 0 rfl) ?_
          refine px_goV (st1 := [.int (b2i (f_unlike r (rHd r cn) (rHd r on)))]) (px_callV F hK (c_X6_areUnlike l D cy A G r _ _ _ (rHd r cn) (rHd r on) (by omega) (by omega) (by omega) (by omega)) kc_X6_areUnlike kw_methodLink_RX6_125 rfl hR (m_recv hK hR) rfl ⟨rfl, rfl⟩ ⟨Nat.le_of_ble_eq_true rfl, Nat.le_of_ble_eq_true rfl⟩ hl.1 rfl (Nat.le_of_ble_eq_true rfl) dX6_copy_53 ⟨Nat.zero_le _, Nat.zero_le _⟩) rfl ?_
          refine x_ifeq_b (tgt := 64) hx hb dX6_copy_56 (by decide) (fun h_56 => ?_) (fun h_56 => ?_)
          · refine lv_iload_n hx hb dX6_copy_64 rfl (lv_at hl 4 rfl) ?_
            refine lv_if_lt (tgt := 107) hx hb dX6_copy_65 (by decide) (fun h_65 => ?_) (fun h_65 => ?_)
            · refine lv_iconst (v := 3) hx hb dX6_copy_107 (by decide) ?_
              refine px_goV (st1 := [.int (-13)]) (px_callS F hK (c_X6_answer l D cy _ 3) kc_X6_answer kw_methodLink_RX6_65 rfl trivial rfl ⟨rfl, rfl⟩ ⟨Nat.le_of_ble_eq_true rfl, Nat.le_of_ble_eq_true rfl⟩ hl.1 rfl (Nat.le_of_ble_eq_true rfl) dX6_copy_108 ⟨Nat.zero_le _, Nat.zero_le _⟩) rfl ?_
              exact px_iret F hr hlocks hS (by have e : f_copy r (nI cn) i (nI on) j n = (r, (-13)) := (by simp [f_copy, f_cpo, h_4, h_11, h_35, h_40, h_56, h_65, ix_nI (show cn < 2 ^ 31 by omega), ix_nI (show on < 2 ^ 31 by omega)] <;> rfl); rw [e]; exact ⟨rfl, _, _, hR⟩) dX6_copy_111
            · refine lv_iload hx hb dX6_copy_68 (lv_at hl 6 rfl) ?_
              refine lv_if_lt (tgt := 107) hx hb dX6_copy_70 (by decide) (fun h_70 => ?_) (fun h_70 => ?_)
              · refine lv_iconst (v := 3) hx hb dX6_copy_107 (by decide) ?_
                refine px_goV (st1 := [.int (-13)]) (px_callS F hK (c_X6_answer l D cy _ 3) kc_X6_answer kw_methodLink_RX6_65 rfl trivial rfl ⟨rfl, rfl⟩ ⟨Nat.le_of_ble_eq_true rfl, Nat.le_of_ble_eq_true rfl⟩ hl.1 rfl (Nat.le_of_ble_eq_true rfl) dX6_copy_108 ⟨Nat.zero_le _, Nat.zero_le _⟩) rfl ?_
                exact px_iret F hr hlocks hS (by have e : f_copy r (nI cn) i (nI on) j n = (r, (-13)) := (by simp [f_copy, f_cpo, h_4, h_11, h_35, h_40, h_56, h_65, h_70, ix_nI (show cn < 2 ^ 31 by omega), ix_nI (show on < 2 ^ 31 by omega)] <;> rfl); rw [e]; exact ⟨rfl, _, _, hR⟩) dX6_copy_111
              · refine lv_iload hx hb dX6_copy_73 (lv_at hl 7 rfl) ?_
                refine lv_if_lt (tgt := 107) hx hb dX6_copy_75 (by decide) (fun h_75 => ?_) (fun h_75 => ?_)
                · refine lv_iconst (v := 3) hx hb dX6_copy_107 (by decide) ?_
                  refine px_goV (st1 := [.int (-13)]) (px_callS F hK (c_X6_answer l D cy _ 3) kc_X6_answer kw_methodLink_RX6_65 rfl trivial rfl ⟨rfl, rfl⟩ ⟨Nat.le_of_ble_eq_true rfl, Nat.le_of_ble_eq_true rfl⟩ hl.1 rfl (Nat.le_of_ble_eq_true rfl) dX6_copy_108 ⟨Nat.zero_le _, Nat.zero_le _⟩) rfl ?_
                  exact px_iret F hr hlocks hS (by have e : f_copy r (nI cn) i (nI on) j n = (r, (-13)) := (by simp [f_copy, f_cpo, h_4, h_11, h_35, h_40, h_56, h_65, h_70, h_75, ix_nI (show cn < 2 ^ 31 by omega), ix_nI (show on < 2 ^ 31 by omega)] <;> rfl); rw [e]; exact ⟨rfl, _, _, hR⟩) dX6_copy_111
                · refine lv_iload hx hb dX6_copy_78 (lv_at hl 7 rfl) ?_
                  refine lv_aload_n hx hb dX6_copy_80 rfl (lv_at hl 2 rfl) ?_
                  refine m_get F hK hR 2 (by decide) rfl kw_fieldLink_RX6_13 dX6_copy_81 ?_
                  refine lv_iload hx hb dX6_copy_84 (lv_at hl 1 rfl) ?_
                  refine m_ldMn F hK hR (rHd r cn) rfl (by omega) dX6_copy_86 ?_
                  refine lv_iload_n hx hb dX6_copy_87 rfl (lv_at hl 4 rfl) ?_
                  refine lv_isub hx hb dX6_copy_88 ?_
                  refine lv_icmp_gt (tgt := 107) hx hb dX6_copy_89 (by decide) (fun h_89 => ?_) (fun h_89 => ?_)
                  · refine lv_iconst (v := 3) hx hb dX6_copy_107 (by decide) ?_
                    refine px_goV (st1 := [.int (-13)]) (px_callS F hK (c_X6_answer l D cy _ 3) kc_X6_answer kw_methodLink_RX6_65 rfl trivial rfl ⟨rfl, rfl⟩ ⟨Nat.le_of_ble_eq_true rfl, Nat.le_of_ble_eq_true rfl⟩ hl.1 rfl (Nat.le_of_ble_eq_true rfl) dX6_copy_108 ⟨Nat.zero_le _, Nat.zero_le _⟩) rfl ?_
                    exact px_iret F hr hlocks hS (by have e : f_copy r (nI cn) i (nI on) j n = (r, (-13)) := (by simp [f_copy, f_cpo, h_4, h_11, h_35, h_40, h_56, h_65, h_70, h_75, h_89, ix_nI (show cn < 2 ^ 31 by omega), ix_nI (show on < 2 ^ 31 by omega)] <;> rfl); rw [e]; exact ⟨rfl, _, _, hR⟩) dX6_copy_111
                  · refine lv_iload hx hb dX6_copy_92 (lv_at hl 7 rfl) ?_
                    refine lv_aload_n hx hb dX6_copy_94 rfl (lv_at hl 2 rfl) ?_
                    refine m_get F hK hR 2 (by decide) rfl kw_fieldLink_RX6_13 dX6_copy_95 ?_
                    refine lv_iload hx hb dX6_copy_98 (lv_at hl 0 rfl) ?_
                    refine m_ldMn F hK hR (rHd r on) rfl (by omega) dX6_copy_100 ?_
                    refine lv_iload hx hb dX6_copy_101 (lv_at hl 6 rfl) ?_
                    refine lv_isub hx hb dX6_copy_103 ?_
                    refine lv_icmp_le (tgt := 112) hx hb dX6_copy_104 (by decide) (fun h_104 => ?_) (fun h_104 => ?_)
                    · have h_104 : ¬ ((nI (rMn r (rHd r on))) - j) < n := Int32.not_lt.mpr h_104
                      have hcpo : f_cpo r (rHd r cn) (rHd r on) i j n = false := (by simp [f_cpo, h_65, h_70, h_75, h_89, h_104])
                      obtain ⟨i0, n0, rfl, rfl, hin⟩ := cp_nat hc1.2.1 h_65 h_75 h_89
                      obtain ⟨j0, n1, rfl, hn1, hjn⟩ := cp_nat hd1.2.1 h_70 h_75 h_104
                      have hn2 : n0 = n1 := nIeq hn1 (by omega) (by omega)
                      refine lv_iconst (v := 0) hx hb dX6_copy_112 (by decide) ?_
                      refine lv_istore (lv' := [(8, .int 0), (7, .int (nI (rHd r on))), (6, .int (nI (rHd r cn))), (0, .ref (G 0)), (1, .int (nI cn)), (2, .int (nI i0)), (3, .int (nI on)), (4, .int (nI j0)), (5, .int (nI n0))]) hx hb dX6_copy_113 hl (by decide) rfl (fun ls hl => ?_)
                      have loop : ∀ (d k : Nat), k + d = n0 → ∀ (H : Heap) (locs : List Loc) (ls : Array Slot), MR D cy A G (r) (C) (kE (fun q => f_at r (rHd r cn) (i0 + q)) E k) H → va_S A s.heap H locs → lv_has ls 9 [(8, .int (nI k)), (7, .int (nI (rHd r on))), (6, .int (nI (rHd r cn))), (0, .ref (G 0)), (1, .int (nI cn)), (2, .int (nI i0)), (3, .int (nI on)), (4, .int (nI j0)), (5, .int (nI n0))] → W p l e (rmd 4 0 0) s m ([.ref (G 0), .int (nI cn), .int (nI i0), .int (nI on), .int (nI j0), .int (nI n0)] : List Value).toArray below meth c H locs 0 0 (MQ below (px_Q (px_M D cy A G (some (.int (f_copy r (nI cn) (nI i0) (nI on) (nI j0) (nI n0)).2)) ((f_copy r (nI cn) (nI i0) (nI on) (nI j0) (nI n0)).1)) A) ([.ref (G 0), .int (nI cn), .int (nI i0), .int (nI on), .int (nI j0), .int (nI n0)] : List Value).toArray s 0 0 A) (F0 m 115 ls []) := by
                        intro d
                        induction d with
                        | zero =>
                          intro k hk H locs ls hR hS hl
                          refine lv_iload hx hb dX6_copy_115 (lv_at hl 0 rfl) ?_
                          refine lv_iload hx hb dX6_copy_117 (lv_at hl 8 rfl) ?_
                          refine lv_icmp_ge (tgt := 145) hx hb dX6_copy_119 (by decide) (fun h_119 => ?_) (fun h_119 => by exfalso; have h_119 : k < n0 := nInle (show ¬ nI n0 ≤ nI k from h_119) (by omega) (by omega); omega)
                          have h_119 : n0 ≤ k := nIle (show nI n0 ≤ nI k from h_119) (by omega) (by omega)
                          refine lv_iconst (v := 0) hx hb dX6_copy_145 (by decide) ?_
                          refine lv_istore (lv' := [(8, .int 0), (7, .int (nI (rHd r on))), (6, .int (nI (rHd r cn))), (0, .ref (G 0)), (1, .int (nI cn)), (2, .int (nI i0)), (3, .int (nI on)), (4, .int (nI j0)), (5, .int (nI n0))]) hx hb dX6_copy_146 hl (by decide) rfl (fun ls hl => ?_)
                          have loop2 : ∀ (d2 k2 : Nat), k2 + d2 = n0 → (∀ q, q < k2 → f_canStand r (rHd r cn) ((fun q => f_at r (rHd r cn) (i0 + q)) q) (rHd r on) = true) → ∀ (H : Heap) (locs : List Loc) (ls : Array Slot), MR D cy A G (sI r (putI (rI r) (rS r (rHd r on) + j0) (fun q => f_at r (rHd r cn) (i0 + q)) k2)) (C) (kE (fun q => f_at r (rHd r cn) (i0 + q)) E k) H → va_S A s.heap H locs → lv_has ls 9 [(8, .int (nI k2)), (7, .int (nI (rHd r on))), (6, .int (nI (rHd r cn))), (0, .ref (G 0)), (1, .int (nI cn)), (2, .int (nI i0)), (3, .int (nI on)), (4, .int (nI j0)), (5, .int (nI n0))] → W p l e (rmd 4 0 0) s m ([.ref (G 0), .int (nI cn), .int (nI i0), .int (nI on), .int (nI j0), .int (nI n0)] : List Value).toArray below meth c H locs 0 0 (MQ below (px_Q (px_M D cy A G (some (.int (f_copy r (nI cn) (nI i0) (nI on) (nI j0) (nI n0)).2)) ((f_copy r (nI cn) (nI i0) (nI on) (nI j0) (nI n0)).1)) A) ([.ref (G 0), .int (nI cn), .int (nI i0), .int (nI on), .int (nI j0), .int (nI n0)] : List Value).toArray s 0 0 A) (F0 m 148 ls []) := by
                            intro d2
                            induction d2 with
                            | zero =>
                              intro k2 hk2 hcan H locs ls hR hS hl
                              refine lv_iload hx hb dX6_copy_148 (lv_at hl 0 rfl) ?_
                              refine lv_iload hx hb dX6_copy_150 (lv_at hl 8 rfl) ?_
                              refine lv_icmp_ge (tgt := 202) hx hb dX6_copy_152 (by decide) (fun h_152 => ?_) (fun h_152 => by exfalso; have h_152 : k2 < n0 := nInle (show ¬ nI n0 ≤ nI k2 from h_152) (by omega) (by omega); omega)
                              have h_152 : n0 ≤ k2 := nIle (show nI n0 ≤ nI k2 from h_152) (by omega) (by omega)
                              refine lv_iload hx hb dX6_copy_202 (lv_at hl 8 rfl) ?_
                              exact px_iret F hr hlocks hS (by have e : f_copy r (nI cn) (nI i0) (nI on) (nI j0) (nI n0) = (sI r (putI (rI r) (rS r (rHd r on) + j0) (fun q => f_at r (rHd r cn) (i0 + q)) k2), nI n0) := (by simp only [f_copy, h_4, h_11, ix_nI (show cn < 2 ^ 31 by omega), ix_nI (show on < 2 ^ 31 by omega), ix_nI (show i0 < 2 ^ 31 by omega), ix_nI (show n0 < 2 ^ 31 by omega), ix_nI (show j0 < 2 ^ 31 by omega), Bool.not_true, Bool.or_self, Bool.false_eq_true, if_false]; rw [if_neg (by omega), if_neg (by rw [h_56]; decide), if_neg (by rw [hcpo]; decide)]; unfold f_come; rw [comI_end _ _ _ _ _ (fun q hq => hcan q (by omega)), show k2 = n0 by omega]); rw [e]; exact ⟨rfl, _, _, hR⟩) dX6_copy_204
                            | succ d2 ih_loop2 =>
                              intro k2 hk2 hcan H locs ls hR hS hl
                              refine lv_iload hx hb dX6_copy_148 (lv_at hl 0 rfl) ?_
                              refine lv_iload hx hb dX6_copy_150 (lv_at hl 8 rfl) ?_
                              refine lv_icmp_ge (tgt := 202) hx hb dX6_copy_152 (by decide) (fun h_152 => by exfalso; have h_152 : n0 ≤ k2 := nIle (show nI n0 ≤ nI k2 from h_152) (by omega) (by omega); omega) (fun h_152 => ?_)
                              have h_152 : k2 < n0 := nInle (show ¬ nI n0 ≤ nI k2 from h_152) (by omega) (by omega)
                              refine lv_aload_n hx hb dX6_copy_155 rfl (lv_at hl 3 rfl) ?_
                              refine lv_iload hx hb dX6_copy_156 (lv_at hl 2 rfl) ?_
                              refine lv_aload_n hx hb dX6_copy_158 rfl (lv_at hl 3 rfl) ?_
                              refine m_get F hK hR 15 (by decide) rfl kw_fieldLink_RX6_44 dX6_copy_159 ?_
                              refine lv_iload hx hb dX6_copy_162 (lv_at hl 0 rfl) ?_
                              refine m_ldE F hK hR k2 rfl (by omega) dX6_copy_164 ?_
                              have hv : 8 ≤ rK r (rHd r on) → f_at r (rHd r cn) (i0 + k2) = lN (iv (f_at r (rHd r cn) (i0 + k2))) ∧ iv (f_at r (rHd r cn) (i0 + k2)) < 13000 ∧ (rK r (rHd r cn) < 10 → iv (f_at r (rHd r cn) (i0 + k2)) < 3100) ∧ (10 ≤ rK r (rHd r cn) → rK r (iv (f_at r (rHd r cn) (i0 + k2))) < 100) := (fun q8 => by have hit := hI.it h_35 hc0 (show i0 + k2 < rMn r (rHd r cn) by omega) (unlike_f h_56 q8); exact ⟨hit.1, by omega, fun q => by have q2 := hit.2.2.1 q; omega, fun q => by have q2 := hI.tb _ (hit.2.2.2.2 q).1; omega⟩)
                              refine px_topl (y := f_at r (rHd r cn) (i0 + k2)) (kE_at (fun q => f_at r (rHd r cn) (i0 + q)) E (show k2 < k by omega)) ?_
                              refine lv_iload hx hb dX6_copy_165 (lv_at hl 1 rfl) ?_
                              refine px_goV (st1 := [.int (b2i (f_canStand r (rHd r cn) (f_at r (rHd r cn) (i0 + k2)) (rHd r on)))]) (px_callV F hK (c_X6_canStand l D cy A G (sI r (putI (rI r) (rS r (rHd r on) + j0) (fun q => f_at r (rHd r cn) (i0 + q)) k2)) _ _ _ (rHd r cn) (rHd r on) (f_at r (rHd r cn) (i0 + k2)) (by omega) (by omega) (show rK r (rHd r cn) < 100 by omega) (show rK r (rHd r on) < 100 by omega) hv) kc_X6_canStand kw_methodLink_RX6_128 rfl hR (m_recv hK hR) rfl ⟨rfl, rfl⟩ ⟨Nat.le_of_ble_eq_true rfl, Nat.le_of_ble_eq_true rfl⟩ hl.1 rfl (Nat.le_of_ble_eq_true rfl) dX6_copy_167 ⟨Nat.zero_le _, Nat.zero_le _⟩) rfl ?_
                              refine x_ifne_b (tgt := 178) hx hb dX6_copy_170 (by decide) (fun h_170 => ?_) (fun h_170 => ?_)
                              · refine lv_aload_n hx hb dX6_copy_178 rfl (lv_at hl 3 rfl) ?_
                                refine lv_iload hx hb dX6_copy_179 (lv_at hl 1 rfl) ?_
                                refine lv_iload hx hb dX6_copy_181 (lv_at hl 7 rfl) ?_
                                refine lv_iload hx hb dX6_copy_183 (lv_at hl 0 rfl) ?_
                                refine lv_iadd hx hb dX6_copy_185 ?_
                                refine px_topi (y := nI (j0 + k2)) (nI_add _ _) ?_
                                refine lv_aload_n hx hb dX6_copy_186 rfl (lv_at hl 3 rfl) ?_
                                refine m_get F hK hR 15 (by decide) rfl kw_fieldLink_RX6_44 dX6_copy_187 ?_
                                refine lv_iload hx hb dX6_copy_190 (lv_at hl 0 rfl) ?_
                                refine m_ldE F hK hR k2 rfl (by omega) dX6_copy_192 ?_
                                refine px_topl (y := f_at r (rHd r cn) (i0 + k2)) (kE_at (fun q => f_at r (rHd r cn) (i0 + q)) E (show k2 < k by omega)) ?_
                                refine px_goMx (st1 := []) (px_callV F hK (c_X6_put l D cy A G (sI r (putI (rI r) (rS r (rHd r on) + j0) (fun q => f_at r (rHd r cn) (i0 + q)) k2)) _ _ _ (rHd r on) (j0 + k2) (f_at r (rHd r cn) (i0 + k2)) (by omega) (show rS r (rHd r on) + (j0 + k2) < 12200 by omega)) kc_X6_put kw_methodLink_RX6_76 rfl hR (m_recv hK hR) rfl ⟨rfl, rfl⟩ ⟨Nat.le_of_ble_eq_true rfl, Nat.le_of_ble_eq_true rfl⟩ hl.1 rfl (Nat.le_of_ble_eq_true rfl) dX6_copy_193 ⟨Nat.zero_le _, Nat.zero_le _⟩) hS rfl (fun H locs hR hS => ?_)
                                refine lv_iinc (v := nI (k2 + 1)) (lv' := [(8, .int (nI (k2 + 1))), (7, .int (nI (rHd r on))), (6, .int (nI (rHd r cn))), (0, .ref (G 0)), (1, .int (nI cn)), (2, .int (nI i0)), (3, .int (nI on)), (4, .int (nI j0)), (5, .int (nI n0))]) hx hb dX6_copy_196 hl (k := 0) rfl (by show nI k2 + 1 = nI (k2 + 1); exact nI_1 _) (by decide) rfl (fun ls hl => ?_)
                                refine lv_goto (tgt := 148) hx hb dX6_copy_199 (by decide) ?_
                                exact ih_loop2 (k2 + 1) (by omega) (fun q hq => (Nat.lt_succ_iff_lt_or_eq.mp hq).elim (hcan q) (fun e => by rw [e]; exact h_170)) _ _ _ (by rw [putI, Nat.add_assoc]; exact hR) hS (lv_sub hl [0, 1, 2, 3, 4, 5, 6, 7, 8] rfl)
                              · refine lv_iconst (v := 5) hx hb dX6_copy_173 (by decide) ?_
                                refine px_goV (st1 := [.int (-15)]) (px_callS F hK (c_X6_answer l D cy _ 5) kc_X6_answer kw_methodLink_RX6_65 rfl trivial rfl ⟨rfl, rfl⟩ ⟨Nat.le_of_ble_eq_true rfl, Nat.le_of_ble_eq_true rfl⟩ hl.1 rfl (Nat.le_of_ble_eq_true rfl) dX6_copy_174 ⟨Nat.zero_le _, Nat.zero_le _⟩) rfl ?_
                                exact px_iret F hr hlocks hS (by have e : f_copy r (nI cn) (nI i0) (nI on) (nI j0) (nI n0) = (sI r (putI (rI r) (rS r (rHd r on) + j0) (fun q => f_at r (rHd r cn) (i0 + q)) k2), (-15)) := (by simp only [f_copy, h_4, h_11, ix_nI (show cn < 2 ^ 31 by omega), ix_nI (show on < 2 ^ 31 by omega), ix_nI (show i0 < 2 ^ 31 by omega), ix_nI (show n0 < 2 ^ 31 by omega), ix_nI (show j0 < 2 ^ 31 by omega), Bool.not_true, Bool.or_self, Bool.false_eq_true, if_false]; rw [if_neg (by omega), if_neg (by rw [h_56]; decide), if_neg (by rw [hcpo]; decide)]; unfold f_come; rw [comI_stop _ _ _ _ _ (k := k2) (by omega) hcan h_170]); rw [e]; exact ⟨rfl, _, _, hR⟩) dX6_copy_177
                          exact loop2 n0 0 (by omega) (fun q hq => absurd hq (by omega)) _ _ _ hR hS (lv_sub hl [0, 1, 2, 3, 4, 5, 6, 7, 8] rfl)
                        | succ d ih_loop =>
                          intro k hk H locs ls hR hS hl
                          refine lv_iload hx hb dX6_copy_115 (lv_at hl 0 rfl) ?_
                          refine lv_iload hx hb dX6_copy_117 (lv_at hl 8 rfl) ?_
                          refine lv_icmp_ge (tgt := 145) hx hb dX6_copy_119 (by decide) (fun h_119 => by exfalso; have h_119 : n0 ≤ k := nIle (show nI n0 ≤ nI k from h_119) (by omega) (by omega); omega) (fun h_119 => ?_)
                          have h_119 : k < n0 := nInle (show ¬ nI n0 ≤ nI k from h_119) (by omega) (by omega)
                          refine lv_aload_n hx hb dX6_copy_122 rfl (lv_at hl 3 rfl) ?_
                          refine m_get F hK hR 15 (by decide) rfl kw_fieldLink_RX6_44 dX6_copy_123 ?_
                          refine lv_iload hx hb dX6_copy_126 (lv_at hl 0 rfl) ?_
                          refine lv_aload_n hx hb dX6_copy_128 rfl (lv_at hl 3 rfl) ?_
                          refine lv_iload hx hb dX6_copy_129 (lv_at hl 2 rfl) ?_
                          refine lv_iload_n hx hb dX6_copy_131 rfl (lv_at hl 5 rfl) ?_
                          refine lv_iload hx hb dX6_copy_132 (lv_at hl 0 rfl) ?_
                          refine lv_iadd hx hb dX6_copy_134 ?_
                          refine px_topi (y := nI (i0 + k)) (nI_add _ _) ?_
                          refine px_goV (st1 := [.long (f_at r (rHd r cn) (i0 + k)), .int (nI k), .ref (G 10)]) (px_callV F hK (c_X6_at l D cy A G r _ _ _ (rHd r cn) (i0 + k) (by omega) (show rS r (rHd r cn) + (i0 + k) < 12200 by omega)) kc_X6_at kw_methodLink_RX6_80 rfl hR (m_recv hK hR) rfl ⟨rfl, rfl⟩ ⟨Nat.le_of_ble_eq_true rfl, Nat.le_of_ble_eq_true rfl⟩ hl.1 rfl (Nat.le_of_ble_eq_true rfl) dX6_copy_135 ⟨Nat.zero_le _, Nat.zero_le _⟩) rfl ?_
                          refine m_stE F hK hR hS k (f_at r (rHd r cn) (i0 + k)) rfl rfl (by omega) dX6_copy_138 (fun H locs hR hS => ?_)
                          refine lv_iinc (v := nI (k + 1)) (lv' := [(8, .int (nI (k + 1))), (7, .int (nI (rHd r on))), (6, .int (nI (rHd r cn))), (0, .ref (G 0)), (1, .int (nI cn)), (2, .int (nI i0)), (3, .int (nI on)), (4, .int (nI j0)), (5, .int (nI n0))]) hx hb dX6_copy_139 hl (k := 0) rfl (by show nI k + 1 = nI (k + 1); exact nI_1 _) (by decide) rfl (fun ls hl => ?_)
                          refine lv_goto (tgt := 115) hx hb dX6_copy_142 (by decide) ?_
                          exact ih_loop (k + 1) (by omega) _ _ _ (by rw [← kE_s]; exact hR) hS (lv_sub hl [0, 1, 2, 3, 4, 5, 6, 7, 8] rfl)
                      exact loop n0 0 (by omega) _ _ _ (by rw [kE_0]; exact hR) hS (lv_sub hl [0, 1, 2, 3, 4, 5, 6, 7, 8] rfl)
                    · have h_104 : ((nI (rMn r (rHd r on))) - j) < n := Int32.not_le.mp h_104
                      refine lv_iconst (v := 3) hx hb dX6_copy_107 (by decide) ?_
                      refine px_goV (st1 := [.int (-13)]) (px_callS F hK (c_X6_answer l D cy _ 3) kc_X6_answer kw_methodLink_RX6_65 rfl trivial rfl ⟨rfl, rfl⟩ ⟨Nat.le_of_ble_eq_true rfl, Nat.le_of_ble_eq_true rfl⟩ hl.1 rfl (Nat.le_of_ble_eq_true rfl) dX6_copy_108 ⟨Nat.zero_le _, Nat.zero_le _⟩) rfl ?_
                      exact px_iret F hr hlocks hS (by have e : f_copy r (nI cn) i (nI on) j n = (r, (-13)) := (by simp [f_copy, f_cpo, h_4, h_11, h_35, h_40, h_56, h_65, h_70, h_75, h_89, h_104, ix_nI (show cn < 2 ^ 31 by omega), ix_nI (show on < 2 ^ 31 by omega)] <;> rfl); rw [e]; exact ⟨rfl, _, _, hR⟩) dX6_copy_111
          · refine lv_iconst (v := 5) hx hb dX6_copy_59 (by decide) ?_
            refine px_goV (st1 := [.int (-15)]) (px_callS F hK (c_X6_answer l D cy _ 5) kc_X6_answer kw_methodLink_RX6_65 rfl trivial rfl ⟨rfl, rfl⟩ ⟨Nat.le_of_ble_eq_true rfl, Nat.le_of_ble_eq_true rfl⟩ hl.1 rfl (Nat.le_of_ble_eq_true rfl) dX6_copy_60 ⟨Nat.zero_le _, Nat.zero_le _⟩) rfl ?_
            exact px_iret F hr hlocks hS (by have e : f_copy r (nI cn) i (nI on) j n = (r, (-15)) := (by simp [f_copy, f_cpo, h_4, h_11, h_35, h_40, h_56, ix_nI (show cn < 2 ^ 31 by omega), ix_nI (show on < 2 ^ 31 by omega)] <;> rfl); rw [e]; exact ⟨rfl, _, _, hR⟩) dX6_copy_63
        · have h_40 : (rHd r on) = 0 := nIeq (show nI (rHd r on) = nI 0 from h_40) (by omega) (by omega)
          refine lv_iconst (v := 1) hx hb dX6_copy_43 (by decide) ?_
          refine px_goV (st1 := [.int (-11)]) (px_callS F hK (c_X6_answer l D cy _ 1) kc_X6_answer kw_methodLink_RX6_65 rfl trivial rfl ⟨rfl, rfl⟩ ⟨Nat.le_of_ble_eq_true rfl, Nat.le_of_ble_eq_true rfl⟩ hl.1 rfl (Nat.le_of_ble_eq_true rfl) dX6_copy_44 ⟨Nat.zero_le _, Nat.zero_le _⟩) rfl ?_
          exact px_iret F hr hlocks hS (by have e : f_copy r (nI cn) i (nI on) j n = (r, (-11)) := (by simp [f_copy, f_cpo, h_4, h_11, h_35, h_40, ix_nI (show cn < 2 ^ 31 by omega), ix_nI (show on < 2 ^ 31 by omega)] <;> rfl); rw [e]; exact ⟨rfl, _, _, hR⟩) dX6_copy_47
    · refine lv_bipush (v := -2) hx hb dX6_copy_14 (by decide) ?_
      exact px_iret F hr hlocks hS (by have e : f_copy r cl i ot j n = (r, (-2)) := (by simp [f_copy, h_4, h_11] <;> rfl); rw [e]; exact ⟨rfl, _, _, hR⟩) dX6_copy_16
end
