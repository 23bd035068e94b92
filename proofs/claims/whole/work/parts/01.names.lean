-- ===== PART A: goes FIRST, ahead of the names: the tables' words, and 'selects' of the private methods out of them =====
/-- a private method of a class that the tables say can be made, by its rows of tables_1 -/
def lw_okq (q : MethodName × Nat) : Prop := (q.1.cls ≠ "java/lang/invoke/MethodHandle" ∧ q.1.cls ≠ "java/lang/invoke/VarHandle") ∧ Cond.instantiable q.1.cls q.2 ∈ tables_1 ∧ Cond.privateMethod q.1 ∈ tables_1 ∧ Cond.instanceMethod q.1 ∈ tables_1
theorem lw_p0 : lw_okq (⟨"PlanCopies", "begin", "()V"⟩, 8) := ⟨⟨by decide +kernel, by decide +kernel⟩, List.mem_of_getElem? (i := 11) (by decide +kernel), List.mem_of_getElem? (i := 21) (by decide +kernel), List.mem_of_getElem? (i := 22) (by decide +kernel)⟩
theorem lw_p1 : lw_okq (⟨"PlanCopies", "isFull", "()Z"⟩, 8) := ⟨⟨by decide +kernel, by decide +kernel⟩, List.mem_of_getElem? (i := 11) (by decide +kernel), List.mem_of_getElem? (i := 61) (by decide +kernel), List.mem_of_getElem? (i := 62) (by decide +kernel)⟩
theorem lw_p2 : lw_okq (⟨"PlanCopies", "newTable", "(II)LPlanCopies$Table;"⟩, 8) := ⟨⟨by decide +kernel, by decide +kernel⟩, List.mem_of_getElem? (i := 11) (by decide +kernel), List.mem_of_getElem? (i := 68) (by decide +kernel), List.mem_of_getElem? (i := 69) (by decide +kernel)⟩
theorem lw_p3 : lw_okq (⟨"PlanCopies", "newDeepTable", "(IIII)LPlanCopies$Table;"⟩, 8) := ⟨⟨by decide +kernel, by decide +kernel⟩, List.mem_of_getElem? (i := 11) (by decide +kernel), List.mem_of_getElem? (i := 130) (by decide +kernel), List.mem_of_getElem? (i := 131) (by decide +kernel)⟩
theorem lw_p4 : lw_okq (⟨"PlanCopies", "placeNewRows", "(LPlanCopies$Table;I)V"⟩, 8) := ⟨⟨by decide +kernel, by decide +kernel⟩, List.mem_of_getElem? (i := 11) (by decide +kernel), List.mem_of_getElem? (i := 159) (by decide +kernel), List.mem_of_getElem? (i := 160) (by decide +kernel)⟩
theorem lw_p5 : lw_okq (⟨"PlanCopies", "twinOf", "(LPlanCopies$Table;I)LPlanCopies$Table;"⟩, 8) := ⟨⟨by decide +kernel, by decide +kernel⟩, List.mem_of_getElem? (i := 11) (by decide +kernel), List.mem_of_getElem? (i := 171) (by decide +kernel), List.mem_of_getElem? (i := 172) (by decide +kernel)⟩
theorem lw_p6 : lw_okq (⟨"PlanCopies", "renewRows", "(LPlanCopies$Holder;I)V"⟩, 8) := ⟨⟨by decide +kernel, by decide +kernel⟩, List.mem_of_getElem? (i := 11) (by decide +kernel), List.mem_of_getElem? (i := 190) (by decide +kernel), List.mem_of_getElem? (i := 191) (by decide +kernel)⟩
theorem lw_p7 : lw_okq (⟨"PlanCopies", "noBits", "(I)J"⟩, 8) := ⟨⟨by decide +kernel, by decide +kernel⟩, List.mem_of_getElem? (i := 11) (by decide +kernel), List.mem_of_getElem? (i := 210) (by decide +kernel), List.mem_of_getElem? (i := 211) (by decide +kernel)⟩
theorem lw_p8 : lw_okq (⟨"PlanCopies", "bitsAt", "(LPlanCopies$Table;I)J"⟩, 8) := ⟨⟨by decide +kernel, by decide +kernel⟩, List.mem_of_getElem? (i := 11) (by decide +kernel), List.mem_of_getElem? (i := 214) (by decide +kernel), List.mem_of_getElem? (i := 215) (by decide +kernel)⟩
theorem lw_p9 : lw_okq (⟨"PlanCopies", "newThing", "(IZ)LPlanCopies$Thing;"⟩, 8) := ⟨⟨by decide +kernel, by decide +kernel⟩, List.mem_of_getElem? (i := 11) (by decide +kernel), List.mem_of_getElem? (i := 244) (by decide +kernel), List.mem_of_getElem? (i := 245) (by decide +kernel)⟩
theorem lw_p10 : lw_okq (⟨"PlanCopies", "heldColumns", "()I"⟩, 8) := ⟨⟨by decide +kernel, by decide +kernel⟩, List.mem_of_getElem? (i := 11) (by decide +kernel), List.mem_of_getElem? (i := 354) (by decide +kernel), List.mem_of_getElem? (i := 355) (by decide +kernel)⟩
theorem lw_p11 : lw_okq (⟨"PlanCopiesModel", "isFull", "()Z"⟩, 16) := ⟨⟨by decide +kernel, by decide +kernel⟩, List.mem_of_getElem? (i := 362) (by decide +kernel), List.mem_of_getElem? (i := 429) (by decide +kernel), List.mem_of_getElem? (i := 430) (by decide +kernel)⟩
theorem lw_p12 : lw_okq (⟨"PlanCopiesModel", "table", "(II)I"⟩, 16) := ⟨⟨by decide +kernel, by decide +kernel⟩, List.mem_of_getElem? (i := 362) (by decide +kernel), List.mem_of_getElem? (i := 436) (by decide +kernel), List.mem_of_getElem? (i := 437) (by decide +kernel)⟩
theorem lw_p13 : lw_okq (⟨"PlanCopiesModel", "put", "(IIJ)V"⟩, 16) := ⟨⟨by decide +kernel, by decide +kernel⟩, List.mem_of_getElem? (i := 362) (by decide +kernel), List.mem_of_getElem? (i := 447) (by decide +kernel), List.mem_of_getElem? (i := 448) (by decide +kernel)⟩
theorem lw_p14 : lw_okq (⟨"PlanCopiesModel", "flat", "(I)I"⟩, 16) := ⟨⟨by decide +kernel, by decide +kernel⟩, List.mem_of_getElem? (i := 362) (by decide +kernel), List.mem_of_getElem? (i := 459) (by decide +kernel), List.mem_of_getElem? (i := 460) (by decide +kernel)⟩
theorem lw_p15 : lw_okq (⟨"PlanCopiesModel", "at", "(II)J"⟩, 16) := ⟨⟨by decide +kernel, by decide +kernel⟩, List.mem_of_getElem? (i := 362) (by decide +kernel), List.mem_of_getElem? (i := 463) (by decide +kernel), List.mem_of_getElem? (i := 464) (by decide +kernel)⟩
def lw_privs_1 : List (MethodName × Nat) := [(⟨"PlanCopies", "begin", "()V"⟩, 8), (⟨"PlanCopies", "isFull", "()Z"⟩, 8), (⟨"PlanCopies", "newTable", "(II)LPlanCopies$Table;"⟩, 8), (⟨"PlanCopies", "newDeepTable", "(IIII)LPlanCopies$Table;"⟩, 8), (⟨"PlanCopies", "placeNewRows", "(LPlanCopies$Table;I)V"⟩, 8), (⟨"PlanCopies", "twinOf", "(LPlanCopies$Table;I)LPlanCopies$Table;"⟩, 8), (⟨"PlanCopies", "renewRows", "(LPlanCopies$Holder;I)V"⟩, 8), (⟨"PlanCopies", "noBits", "(I)J"⟩, 8), (⟨"PlanCopies", "bitsAt", "(LPlanCopies$Table;I)J"⟩, 8), (⟨"PlanCopies", "newThing", "(IZ)LPlanCopies$Thing;"⟩, 8), (⟨"PlanCopies", "heldColumns", "()I"⟩, 8), (⟨"PlanCopiesModel", "isFull", "()Z"⟩, 16), (⟨"PlanCopiesModel", "table", "(II)I"⟩, 16), (⟨"PlanCopiesModel", "put", "(IIJ)V"⟩, 16), (⟨"PlanCopiesModel", "flat", "(I)I"⟩, 16), (⟨"PlanCopiesModel", "at", "(II)J"⟩, 16)]
theorem lw_r1 : ∀ q ∈ lw_privs_1, lw_okq q := List.forall_mem_cons.mpr ⟨lw_p0, List.forall_mem_cons.mpr ⟨lw_p1, List.forall_mem_cons.mpr ⟨lw_p2, List.forall_mem_cons.mpr ⟨lw_p3, List.forall_mem_cons.mpr ⟨lw_p4, List.forall_mem_cons.mpr ⟨lw_p5, List.forall_mem_cons.mpr ⟨lw_p6, List.forall_mem_cons.mpr ⟨lw_p7, List.forall_mem_cons.mpr ⟨lw_p8, List.forall_mem_cons.mpr ⟨lw_p9, List.forall_mem_cons.mpr ⟨lw_p10, List.forall_mem_cons.mpr ⟨lw_p11, List.forall_mem_cons.mpr ⟨lw_p12, List.forall_mem_cons.mpr ⟨lw_p13, List.forall_mem_cons.mpr ⟨lw_p14, List.forall_mem_cons.mpr ⟨lw_p15, fun _ h => absurd h List.not_mem_nil⟩⟩⟩⟩⟩⟩⟩⟩⟩⟩⟩⟩⟩⟩⟩⟩
theorem lw_p16 : lw_okq (⟨"PlanCopiesModel", "middle", "(I)I"⟩, 16) := ⟨⟨by decide +kernel, by decide +kernel⟩, List.mem_of_getElem? (i := 362) (by decide +kernel), List.mem_of_getElem? (i := 467) (by decide +kernel), List.mem_of_getElem? (i := 468) (by decide +kernel)⟩
theorem lw_p17 : lw_okq (⟨"PlanCopiesModel", "isOf", "(II)Z"⟩, 16) := ⟨⟨by decide +kernel, by decide +kernel⟩, List.mem_of_getElem? (i := 362) (by decide +kernel), List.mem_of_getElem? (i := 483) (by decide +kernel), List.mem_of_getElem? (i := 484) (by decide +kernel)⟩
theorem lw_p18 : lw_okq (⟨"PlanCopiesModel", "itemOf", "(III)J"⟩, 16) := ⟨⟨by decide +kernel, by decide +kernel⟩, List.mem_of_getElem? (i := 362) (by decide +kernel), List.mem_of_getElem? (i := 491) (by decide +kernel), List.mem_of_getElem? (i := 492) (by decide +kernel)⟩
theorem lw_p19 : lw_okq (⟨"PlanCopiesModel", "looked", "(II)I"⟩, 16) := ⟨⟨by decide +kernel, by decide +kernel⟩, List.mem_of_getElem? (i := 362) (by decide +kernel), List.mem_of_getElem? (i := 495) (by decide +kernel), List.mem_of_getElem? (i := 496) (by decide +kernel)⟩
theorem lw_p20 : lw_okq (⟨"PlanCopiesModel", "areUnlike", "(II)Z"⟩, 16) := ⟨⟨by decide +kernel, by decide +kernel⟩, List.mem_of_getElem? (i := 362) (by decide +kernel), List.mem_of_getElem? (i := 549) (by decide +kernel), List.mem_of_getElem? (i := 550) (by decide +kernel)⟩
theorem lw_p21 : lw_okq (⟨"PlanCopiesModel", "canStand", "(IJI)Z"⟩, 16) := ⟨⟨by decide +kernel, by decide +kernel⟩, List.mem_of_getElem? (i := 362) (by decide +kernel), List.mem_of_getElem? (i := 553) (by decide +kernel), List.mem_of_getElem? (i := 554) (by decide +kernel)⟩
theorem lw_p22 : lw_okq (⟨"PlanCopiesModel", "middleSize", "(I)I"⟩, 16) := ⟨⟨by decide +kernel, by decide +kernel⟩, List.mem_of_getElem? (i := 362) (by decide +kernel), List.mem_of_getElem? (i := 565) (by decide +kernel), List.mem_of_getElem? (i := 566) (by decide +kernel)⟩
theorem lw_p23 : lw_okq (⟨"PlanCopiesModel", "flatSize", "(I)I"⟩, 16) := ⟨⟨by decide +kernel, by decide +kernel⟩, List.mem_of_getElem? (i := 362) (by decide +kernel), List.mem_of_getElem? (i := 569) (by decide +kernel), List.mem_of_getElem? (i := 570) (by decide +kernel)⟩
theorem lw_p24 : lw_okq (⟨"PlanCopiesModel", "areMiddleLike", "(II)Z"⟩, 16) := ⟨⟨by decide +kernel, by decide +kernel⟩, List.mem_of_getElem? (i := 362) (by decide +kernel), List.mem_of_getElem? (i := 577) (by decide +kernel), List.mem_of_getElem? (i := 578) (by decide +kernel)⟩
theorem lw_p25 : lw_okq (⟨"PlanCopiesModel", "areFlatLike", "(II)Z"⟩, 16) := ⟨⟨by decide +kernel, by decide +kernel⟩, List.mem_of_getElem? (i := 362) (by decide +kernel), List.mem_of_getElem? (i := 581) (by decide +kernel), List.mem_of_getElem? (i := 582) (by decide +kernel)⟩
theorem lw_p26 : lw_okq (⟨"PlanCopiesModel", "areShaped", "(II)Z"⟩, 16) := ⟨⟨by decide +kernel, by decide +kernel⟩, List.mem_of_getElem? (i := 362) (by decide +kernel), List.mem_of_getElem? (i := 585) (by decide +kernel), List.mem_of_getElem? (i := 586) (by decide +kernel)⟩
theorem lw_p27 : lw_okq (⟨"PlanCopiesModel", "areThingsLike", "(II)Z"⟩, 16) := ⟨⟨by decide +kernel, by decide +kernel⟩, List.mem_of_getElem? (i := 362) (by decide +kernel), List.mem_of_getElem? (i := 589) (by decide +kernel), List.mem_of_getElem? (i := 590) (by decide +kernel)⟩
def lw_privs_2 : List (MethodName × Nat) := [(⟨"PlanCopiesModel", "middle", "(I)I"⟩, 16), (⟨"PlanCopiesModel", "isOf", "(II)Z"⟩, 16), (⟨"PlanCopiesModel", "itemOf", "(III)J"⟩, 16), (⟨"PlanCopiesModel", "looked", "(II)I"⟩, 16), (⟨"PlanCopiesModel", "areUnlike", "(II)Z"⟩, 16), (⟨"PlanCopiesModel", "canStand", "(IJI)Z"⟩, 16), (⟨"PlanCopiesModel", "middleSize", "(I)I"⟩, 16), (⟨"PlanCopiesModel", "flatSize", "(I)I"⟩, 16), (⟨"PlanCopiesModel", "areMiddleLike", "(II)Z"⟩, 16), (⟨"PlanCopiesModel", "areFlatLike", "(II)Z"⟩, 16), (⟨"PlanCopiesModel", "areShaped", "(II)Z"⟩, 16), (⟨"PlanCopiesModel", "areThingsLike", "(II)Z"⟩, 16)]
theorem lw_r2 : ∀ q ∈ lw_privs_2, lw_okq q := List.forall_mem_cons.mpr ⟨lw_p16, List.forall_mem_cons.mpr ⟨lw_p17, List.forall_mem_cons.mpr ⟨lw_p18, List.forall_mem_cons.mpr ⟨lw_p19, List.forall_mem_cons.mpr ⟨lw_p20, List.forall_mem_cons.mpr ⟨lw_p21, List.forall_mem_cons.mpr ⟨lw_p22, List.forall_mem_cons.mpr ⟨lw_p23, List.forall_mem_cons.mpr ⟨lw_p24, List.forall_mem_cons.mpr ⟨lw_p25, List.forall_mem_cons.mpr ⟨lw_p26, List.forall_mem_cons.mpr ⟨lw_p27, fun _ h => absurd h List.not_mem_nil⟩⟩⟩⟩⟩⟩⟩⟩⟩⟩⟩⟩
def lw_privs : List (MethodName × Nat) := lw_privs_1 ++ (lw_privs_2)
def lw_tbl : List Cond := k2_sels lw_privs ++ tables_1
theorem lw_privs_ok : ∀ q ∈ lw_privs, lw_okq q := by
  show ∀ q ∈ lw_privs_1 ++ (lw_privs_2), lw_okq q
  exact List.forall_mem_append.mpr ⟨lw_r1, lw_r2⟩

/-! ===== BEGIN words of one list among another's, by their places ===== -/
theorem goodIn_r {big : List Cond} (ws : List Cond) (ps : List Nat) (hp : ws = ps.filterMap (fun i => big[i]?)) (h : ws.all goodWord = true) : GoodIn big ws := by
  intro w hw
  have h1 := List.all_eq_true.mp h w hw
  rw [hp] at hw
  obtain ⟨i, -, hi⟩ := List.mem_filterMap.mp hw
  have hm : w ∈ big := by first | exact List.mem_of_getElem? hi | exact List.getElem?_mem hi
  exact ⟨hm, good_of_word h1⟩
theorem goodIn_app {big a b : List Cond} (ha : GoodIn big a) (hb : GoodIn big b) : GoodIn big (a ++ b) := fun w h => (List.mem_append.mp h).elim (ha w) (hb w)
theorem goodIn_ca {big a b : List Cond} {c : Cond} (ha : GoodIn big (c :: a)) (hb : GoodIn big b) : GoodIn big (c :: (a ++ b)) := fun w h => (List.mem_cons.mp h).elim (fun e => ha w (List.mem_cons.mpr (Or.inl e))) (fun h => (List.mem_append.mp h).elim (fun h => ha w (List.mem_cons.mpr (Or.inr h))) (hb w))
theorem goodIn_sub {big ws : List Cond} (hm : ∀ w ∈ ws, w ∈ big) (h : ws.all goodWord = true) : GoodIn big ws := fun w hw => ⟨hm w hw, good_of_word (List.all_eq_true.mp h w hw)⟩
/-! ===== END ===== -/

/-! ===== BEGIN printed: names, fields, word lists, decode rows ===== -/
def RX0 : String := "PlanCopies$Holder"
def TX0 : u_T := fun k => match k with
  | 0 => ("PlanCopies$Table", "kind", "I", true)
  | 1 => ("PlanCopies$Table", "twinMadeBy", "I", false)
  | 2 => ("PlanCopies$Table", "twin", "LPlanCopies$Table;", false)
  | _ => ("PlanCopies$Holder", "items", "[LPlanCopies$Item;", true)
def tyX0 : Nat → FieldType := fun k => match k with
  | 0 => .int
  | 1 => .int
  | 2 => .object "PlanCopies$Table"
  | _ => .array (.object "PlanCopies$Item")
abbrev wsX00 : List Cond := u_ws RX0 TX0 4
theorem nmX0 : ∀ a, a < 4 → ∀ b, b < 4 → a ≠ b → (TX0 a).2.1 ≠ (TX0 b).2.1 := by decide +kernel
theorem tyX0_ok : ∀ k, k < 4 → parseFieldDescriptor (TX0 k).2.2.1 = some (tyX0 k) := by decide +kernel
abbrev cX0_init : ByteArray := prog_2_method_1_code
def yX0_init : MethodName := ⟨RX0, "<init>", "(II)V"⟩
abbrev cX0_count : ByteArray := prog_2_method_2_code
def yX0_count : MethodName := ⟨RX0, "count", "()I"⟩
def RX1 : String := "PlanCopies$Item"
def TX1 : u_T := fun k => match k with
  | _ => ("", "", "", false)
def tyX1 : Nat → FieldType := fun k => match k with
  | _ => .int
abbrev wsX10 : List Cond := u_ws RX1 TX1 0
theorem nmX1 : ∀ a, a < 0 → ∀ b, b < 0 → a ≠ b → (TX1 a).2.1 ≠ (TX1 b).2.1 := by decide +kernel
theorem tyX1_ok : ∀ k, k < 0 → parseFieldDescriptor (TX1 k).2.2.1 = some (tyX1 k) := by decide +kernel
abbrev cX1_init : ByteArray := prog_3_method_1_code
def yX1_init : MethodName := ⟨RX1, "<init>", "()V"⟩
def RX2 : String := "PlanCopies$Plain"
def TX2 : u_T := fun k => match k with
  | 0 => ("PlanCopies$Table", "kind", "I", true)
  | 1 => ("PlanCopies$Table", "twinMadeBy", "I", false)
  | 2 => ("PlanCopies$Table", "twin", "LPlanCopies$Table;", false)
  | _ => ("PlanCopies$Plain", "bits", "[J", true)
def tyX2 : Nat → FieldType := fun k => match k with
  | 0 => .int
  | 1 => .int
  | 2 => .object "PlanCopies$Table"
  | _ => .array .long
abbrev wsX20 : List Cond := u_ws RX2 TX2 4
theorem nmX2 : ∀ a, a < 4 → ∀ b, b < 4 → a ≠ b → (TX2 a).2.1 ≠ (TX2 b).2.1 := by decide +kernel
theorem tyX2_ok : ∀ k, k < 4 → parseFieldDescriptor (TX2 k).2.2.1 = some (tyX2 k) := by decide +kernel
abbrev cX2_init : ByteArray := prog_4_method_1_code
def yX2_init : MethodName := ⟨RX2, "<init>", "(II)V"⟩
abbrev cX2_count : ByteArray := prog_4_method_2_code
def yX2_count : MethodName := ⟨RX2, "count", "()I"⟩
def RX3 : String := "PlanCopies$Table"
def TX3 : u_T := fun k => match k with
  | _ => ("", "", "", false)
def tyX3 : Nat → FieldType := fun k => match k with
  | _ => .int
abbrev wsX30 : List Cond := u_ws RX3 TX3 0
theorem nmX3 : ∀ a, a < 0 → ∀ b, b < 0 → a ≠ b → (TX3 a).2.1 ≠ (TX3 b).2.1 := by decide +kernel
theorem tyX3_ok : ∀ k, k < 0 → parseFieldDescriptor (TX3 k).2.2.1 = some (tyX3 k) := by decide +kernel
abbrev cX3_init : ByteArray := prog_5_method_1_code
def yX3_init : MethodName := ⟨RX3, "<init>", "(I)V"⟩
def RX4 : String := "PlanCopies$Thing"
def TX4 : u_T := fun k => match k with
  | 0 => ("PlanCopies$Thing", "number", "I", true)
  | _ => ("PlanCopies$Thing", "marked", "Z", true)
def tyX4 : Nat → FieldType := fun k => match k with
  | 0 => .int
  | _ => .boolean
abbrev wsX40 : List Cond := u_ws RX4 TX4 2
theorem nmX4 : ∀ a, a < 2 → ∀ b, b < 2 → a ≠ b → (TX4 a).2.1 ≠ (TX4 b).2.1 := by decide +kernel
theorem tyX4_ok : ∀ k, k < 2 → parseFieldDescriptor (TX4 k).2.2.1 = some (tyX4 k) := by decide +kernel
abbrev cX4_init : ByteArray := prog_6_method_1_code
def yX4_init : MethodName := ⟨RX4, "<init>", "(IZ)V"⟩
def RX5 : String := "PlanCopies"
def TX5 : u_T := fun k => match k with
  | 0 => ("PlanCopies", "columns", "[LPlanCopies$Table;", true)
  | 1 => ("PlanCopies", "troubles", "[I", true)
  | 2 => ("PlanCopies", "itemsMade", "I", false)
  | 3 => ("PlanCopies", "thingsMade", "I", false)
  | 4 => ("PlanCopies", "asidesMade", "I", false)
  | 5 => ("PlanCopies", "latestPassed", "I", false)
  | 6 => ("PlanCopies", "latestNumber", "I", false)
  | _ => ("PlanCopies", "latestFault", "I", false)
def tyX5 : Nat → FieldType := fun k => match k with
  | 0 => .array (.object "PlanCopies$Table")
  | 1 => .array .int
  | 2 => .int
  | 3 => .int
  | 4 => .int
  | 5 => .int
  | 6 => .int
  | _ => .int
abbrev wsX50 : List Cond := u_ws RX5 TX5 8
theorem nmX5 : ∀ a, a < 8 → ∀ b, b < 8 → a ≠ b → (TX5 a).2.1 ≠ (TX5 b).2.1 := by decide +kernel
theorem tyX5_ok : ∀ k, k < 8 → parseFieldDescriptor (TX5 k).2.2.1 = some (tyX5 k) := by decide +kernel
abbrev cX5_init : ByteArray := prog_1_method_1_code
def yX5_init : MethodName := ⟨RX5, "<init>", "()V"⟩
abbrev cX5_make : ByteArray := prog_1_method_2_code
def yX5_make : MethodName := ⟨RX5, "make", "(III)I"⟩
abbrev cX5_deep : ByteArray := prog_1_method_3_code
def yX5_deep : MethodName := ⟨RX5, "deep", "(IIIII)I"⟩
abbrev cX5_share : ByteArray := prog_1_method_4_code
def yX5_share : MethodName := ⟨RX5, "share", "(II)I"⟩
abbrev cX5_aside : ByteArray := prog_1_method_5_code
def yX5_aside : MethodName := ⟨RX5, "aside", "(II)I"⟩
abbrev cX5_drop : ByteArray := prog_1_method_6_code
def yX5_drop : MethodName := ⟨RX5, "drop", "(I)I"⟩
abbrev cX5_kind : ByteArray := prog_1_method_7_code
def yX5_kind : MethodName := ⟨RX5, "kind", "(I)I"⟩
abbrev cX5_length : ByteArray := prog_1_method_8_code
def yX5_length : MethodName := ⟨RX5, "length", "(II)I"⟩
abbrev cX5_read : ByteArray := prog_1_method_9_code
def yX5_read : MethodName := ⟨RX5, "read", "(III)J"⟩
abbrev cX5_write : ByteArray := prog_1_method_10_code
def yX5_write : MethodName := ⟨RX5, "write", "(IIIJ)I"⟩
abbrev cX5_thing : ByteArray := prog_1_method_11_code
def yX5_thing : MethodName := ⟨RX5, "thing", "(IIII)I"⟩
abbrev cX5_marked : ByteArray := prog_1_method_12_code
def yX5_marked : MethodName := ⟨RX5, "marked", "(II)I"⟩
abbrev cX5_cell : ByteArray := prog_1_method_13_code
def yX5_cell : MethodName := ⟨RX5, "cell", "(IIII)J"⟩
abbrev cX5_set : ByteArray := prog_1_method_14_code
def yX5_set : MethodName := ⟨RX5, "set", "(IIIIJ)I"⟩
abbrev cX5_deepest : ByteArray := prog_1_method_15_code
def yX5_deepest : MethodName := ⟨RX5, "deepest", "(IIII)J"⟩
abbrev cX5_row : ByteArray := prog_1_method_16_code
def yX5_row : MethodName := ⟨RX5, "row", "(IIII)I"⟩
abbrev cX5_take : ByteArray := prog_1_method_17_code
def yX5_take : MethodName := ⟨RX5, "take", "(IIII)I"⟩
abbrev cX5_grow : ByteArray := prog_1_method_18_code
def yX5_grow : MethodName := ⟨RX5, "grow", "(II)I"⟩
abbrev cX5_copy : ByteArray := prog_1_method_19_code
def yX5_copy : MethodName := ⟨RX5, "copy", "(IIIII)I"⟩
abbrev cX5_fill : ByteArray := prog_1_method_20_code
def yX5_fill : MethodName := ⟨RX5, "fill", "(IIJ)I"⟩
abbrev cX5_size : ByteArray := prog_1_method_21_code
def yX5_size : MethodName := ⟨RX5, "size", "(I)I"⟩
abbrev cX5_alike : ByteArray := prog_1_method_22_code
def yX5_alike : MethodName := ⟨RX5, "alike", "(II)I"⟩
abbrev cX5_trouble : ByteArray := prog_1_method_23_code
def yX5_trouble : MethodName := ⟨RX5, "trouble", "(II)I"⟩
abbrev cX5_raise : ByteArray := prog_1_method_24_code
def yX5_raise : MethodName := ⟨RX5, "raise", "(II)I"⟩
abbrev cX5_passed : ByteArray := prog_1_method_25_code
def yX5_passed : MethodName := ⟨RX5, "passed", "()I"⟩
abbrev cX5_number : ByteArray := prog_1_method_26_code
def yX5_number : MethodName := ⟨RX5, "number", "()I"⟩
abbrev cX5_fault : ByteArray := prog_1_method_27_code
def yX5_fault : MethodName := ⟨RX5, "fault", "()I"⟩
abbrev cX5_clear : ByteArray := prog_1_method_28_code
def yX5_clear : MethodName := ⟨RX5, "clear", "()I"⟩
abbrev cX5_told : ByteArray := prog_1_method_29_code
def yX5_told : MethodName := ⟨RX5, "told", "(I)I"⟩
abbrev cX5_begin : ByteArray := prog_1_method_30_code
def yX5_begin : MethodName := ⟨RX5, "begin", "()V"⟩
abbrev cX5_heldColumns : ByteArray := prog_1_method_31_code
def yX5_heldColumns : MethodName := ⟨RX5, "heldColumns", "()I"⟩
abbrev cX5_isFull : ByteArray := prog_1_method_32_code
def yX5_isFull : MethodName := ⟨RX5, "isFull", "()Z"⟩
abbrev cX5_isColumn : ByteArray := prog_1_method_33_code
def yX5_isColumn : MethodName := ⟨RX5, "isColumn", "(I)Z"⟩
abbrev cX5_isTrouble : ByteArray := prog_1_method_34_code
def yX5_isTrouble : MethodName := ⟨RX5, "isTrouble", "(I)Z"⟩
abbrev cX5_isKind : ByteArray := prog_1_method_35_code
def yX5_isKind : MethodName := ⟨RX5, "isKind", "(III)Z"⟩
abbrev cX5_isTooDeep : ByteArray := prog_1_method_36_code
def yX5_isTooDeep : MethodName := ⟨RX5, "isTooDeep", "(III)Z"⟩
abbrev cX5_against : ByteArray := prog_1_method_37_code
def yX5_against : MethodName := ⟨RX5, "against", "(I)I"⟩
abbrev cX5_noBits : ByteArray := prog_1_method_38_code
def yX5_noBits : MethodName := ⟨RX5, "noBits", "(I)J"⟩
abbrev cX5_newTable : ByteArray := prog_1_method_39_code
def yX5_newTable : MethodName := ⟨RX5, "newTable", "(II)LPlanCopies$Table;"⟩
abbrev cX5_newDeepTable : ByteArray := prog_1_method_40_code
def yX5_newDeepTable : MethodName := ⟨RX5, "newDeepTable", "(IIII)LPlanCopies$Table;"⟩
abbrev cX5_placeNewRows : ByteArray := prog_1_method_41_code
def yX5_placeNewRows : MethodName := ⟨RX5, "placeNewRows", "(LPlanCopies$Table;I)V"⟩
abbrev cX5_newThing : ByteArray := prog_1_method_42_code
def yX5_newThing : MethodName := ⟨RX5, "newThing", "(IZ)LPlanCopies$Thing;"⟩
abbrev cX5_twinOf : ByteArray := prog_1_method_43_code
def yX5_twinOf : MethodName := ⟨RX5, "twinOf", "(LPlanCopies$Table;I)LPlanCopies$Table;"⟩
abbrev cX5_renewRows : ByteArray := prog_1_method_44_code
def yX5_renewRows : MethodName := ⟨RX5, "renewRows", "(LPlanCopies$Holder;I)V"⟩
abbrev cX5_kindOfRows : ByteArray := prog_1_method_45_code
def yX5_kindOfRows : MethodName := ⟨RX5, "kindOfRows", "(I)I"⟩
abbrev cX5_fits : ByteArray := prog_1_method_46_code
def yX5_fits : MethodName := ⟨RX5, "fits", "(LPlanCopies$Table;I)Z"⟩
abbrev cX5_canStand : ByteArray := prog_1_method_47_code
def yX5_canStand : MethodName := ⟨RX5, "canStand", "(LPlanCopies$Item;I)Z"⟩
abbrev cX5_faultAt : ByteArray := prog_1_method_48_code
def yX5_faultAt : MethodName := ⟨RX5, "faultAt", "(LPlanCopies$Table;I)I"⟩
abbrev cX5_faultTaken : ByteArray := prog_1_method_49_code
def yX5_faultTaken : MethodName := ⟨RX5, "faultTaken", "(LPlanCopies$Table;II)I"⟩
abbrev cX5_itemAt : ByteArray := prog_1_method_50_code
def yX5_itemAt : MethodName := ⟨RX5, "itemAt", "(LPlanCopies$Table;I)LPlanCopies$Item;"⟩
abbrev cX5_rowAt : ByteArray := prog_1_method_51_code
def yX5_rowAt : MethodName := ⟨RX5, "rowAt", "(LPlanCopies$Table;I)LPlanCopies$Table;"⟩
abbrev cX5_bitsAt : ByteArray := prog_1_method_52_code
def yX5_bitsAt : MethodName := ⟨RX5, "bitsAt", "(LPlanCopies$Table;I)J"⟩
abbrev cX5_putBits : ByteArray := prog_1_method_53_code
def yX5_putBits : MethodName := ⟨RX5, "putBits", "(LPlanCopies$Table;IJ)I"⟩
abbrev cX5_place : ByteArray := prog_1_method_54_code
def yX5_place : MethodName := ⟨RX5, "place", "(LPlanCopies$Table;ILPlanCopies$Item;)I"⟩
abbrev cX5_transfer : ByteArray := prog_1_method_55_code
def yX5_transfer : MethodName := ⟨RX5, "transfer", "(LPlanCopies$Table;ILPlanCopies$Table;II)I"⟩
abbrev cX5_transferItems : ByteArray := prog_1_method_56_code
def yX5_transferItems : MethodName := ⟨RX5, "transferItems", "(LPlanCopies$Table;ILPlanCopies$Table;II)I"⟩
abbrev cX5_hasStretch : ByteArray := prog_1_method_57_code
def yX5_hasStretch : MethodName := ⟨RX5, "hasStretch", "(LPlanCopies$Table;II)Z"⟩
abbrev cX5_keptBits : ByteArray := prog_1_method_58_code
def yX5_keptBits : MethodName := ⟨RX5, "keptBits", "(IJ)J"⟩
abbrev cX5_keptFloat : ByteArray := prog_1_method_59_code
def yX5_keptFloat : MethodName := ⟨RX5, "keptFloat", "(I)I"⟩
abbrev cX5_keptDouble : ByteArray := prog_1_method_60_code
def yX5_keptDouble : MethodName := ⟨RX5, "keptDouble", "(J)J"⟩
abbrev cX5_singleItems : ByteArray := prog_1_method_61_code
def yX5_singleItems : MethodName := ⟨RX5, "singleItems", "(LPlanCopies$Table;I)I"⟩
abbrev cX5_areAlike : ByteArray := prog_1_method_62_code
def yX5_areAlike : MethodName := ⟨RX5, "areAlike", "(LPlanCopies$Table;LPlanCopies$Table;I)Z"⟩
abbrev cX5_haveSameBits : ByteArray := prog_1_method_63_code
def yX5_haveSameBits : MethodName := ⟨RX5, "haveSameBits", "(LPlanCopies$Plain;LPlanCopies$Plain;)Z"⟩
abbrev cX5_areItemsAlike : ByteArray := prog_1_method_64_code
def yX5_areItemsAlike : MethodName := ⟨RX5, "areItemsAlike", "(LPlanCopies$Item;LPlanCopies$Item;I)Z"⟩
def RX6 : String := "PlanCopiesModel"
def TX6 : u_T := fun k => match k with
  | 0 => ("PlanCopiesModel", "tables", "I", false)
  | 1 => ("PlanCopiesModel", "kindOf", "[B", true)
  | 2 => ("PlanCopiesModel", "many", "[B", true)
  | 3 => ("PlanCopiesModel", "start", "[I", true)
  | 4 => ("PlanCopiesModel", "items", "I", false)
  | 5 => ("PlanCopiesModel", "item", "[J", true)
  | 6 => ("PlanCopiesModel", "things", "I", false)
  | 7 => ("PlanCopiesModel", "thingNumber", "[I", true)
  | 8 => ("PlanCopiesModel", "isMarked", "[Z", true)
  | 9 => ("PlanCopiesModel", "held", "[I", true)
  | 10 => ("PlanCopiesModel", "troubleNumber", "[I", true)
  | 11 => ("PlanCopiesModel", "passed", "I", false)
  | 12 => ("PlanCopiesModel", "number", "I", false)
  | 13 => ("PlanCopiesModel", "fault", "I", false)
  | 14 => ("PlanCopiesModel", "copyOf", "[I", true)
  | _ => ("PlanCopiesModel", "kept", "[J", true)
def tyX6 : Nat → FieldType := fun k => match k with
  | 0 => .int
  | 1 => .array .byte
  | 2 => .array .byte
  | 3 => .array .int
  | 4 => .int
  | 5 => .array .long
  | 6 => .int
  | 7 => .array .int
  | 8 => .array .boolean
  | 9 => .array .int
  | 10 => .array .int
  | 11 => .int
  | 12 => .int
  | 13 => .int
  | 14 => .array .int
  | _ => .array .long
abbrev wsX60 : List Cond := u_ws RX6 TX6 16
theorem nmX6 : ∀ a, a < 16 → ∀ b, b < 16 → a ≠ b → (TX6 a).2.1 ≠ (TX6 b).2.1 := by decide +kernel
theorem tyX6_ok : ∀ k, k < 16 → parseFieldDescriptor (TX6 k).2.2.1 = some (tyX6 k) := by decide +kernel
abbrev cX6_init : ByteArray := prog_8_method_1_code
def yX6_init : MethodName := ⟨RX6, "<init>", "()V"⟩
abbrev cX6_in : ByteArray := prog_8_method_2_code
def yX6_in : MethodName := ⟨RX6, "in", "(III)Z"⟩
abbrev cX6_isColumn : ByteArray := prog_8_method_3_code
def yX6_isColumn : MethodName := ⟨RX6, "isColumn", "(I)Z"⟩
abbrev cX6_answer : ByteArray := prog_8_method_4_code
def yX6_answer : MethodName := ⟨RX6, "answer", "(I)I"⟩
abbrev cX6_table : ByteArray := prog_8_method_5_code
def yX6_table : MethodName := ⟨RX6, "table", "(II)I"⟩
abbrev cX6_at : ByteArray := prog_8_method_6_code
def yX6_at : MethodName := ⟨RX6, "at", "(II)J"⟩
abbrev cX6_put : ByteArray := prog_8_method_7_code
def yX6_put : MethodName := ⟨RX6, "put", "(IIJ)V"⟩
abbrev cX6_rowKind : ByteArray := prog_8_method_8_code
def yX6_rowKind : MethodName := ⟨RX6, "rowKind", "(I)I"⟩
abbrev cX6_isOf : ByteArray := prog_8_method_9_code
def yX6_isOf : MethodName := ⟨RX6, "isOf", "(II)Z"⟩
abbrev cX6_isFull : ByteArray := prog_8_method_10_code
def yX6_isFull : MethodName := ⟨RX6, "isFull", "()Z"⟩
abbrev cX6_make : ByteArray := prog_8_method_11_code
def yX6_make : MethodName := ⟨RX6, "make", "(III)I"⟩
abbrev cX6_deep : ByteArray := prog_8_method_12_code
def yX6_deep : MethodName := ⟨RX6, "deep", "(IIIII)I"⟩
abbrev cX6_share : ByteArray := prog_8_method_13_code
def yX6_share : MethodName := ⟨RX6, "share", "(II)I"⟩
abbrev cX6_flat : ByteArray := prog_8_method_14_code
def yX6_flat : MethodName := ⟨RX6, "flat", "(I)I"⟩
abbrev cX6_middle : ByteArray := prog_8_method_15_code
def yX6_middle : MethodName := ⟨RX6, "middle", "(I)I"⟩
abbrev cX6_aside : ByteArray := prog_8_method_16_code
def yX6_aside : MethodName := ⟨RX6, "aside", "(II)I"⟩
abbrev cX6_drop : ByteArray := prog_8_method_17_code
def yX6_drop : MethodName := ⟨RX6, "drop", "(I)I"⟩
abbrev cX6_kind : ByteArray := prog_8_method_18_code
def yX6_kind : MethodName := ⟨RX6, "kind", "(I)I"⟩
abbrev cX6_length : ByteArray := prog_8_method_19_code
def yX6_length : MethodName := ⟨RX6, "length", "(II)I"⟩
abbrev cX6_looked : ByteArray := prog_8_method_20_code
def yX6_looked : MethodName := ⟨RX6, "looked", "(II)I"⟩
abbrev cX6_cut : ByteArray := prog_8_method_21_code
def yX6_cut : MethodName := ⟨RX6, "cut", "(IJ)J"⟩
abbrev cX6_itemOf : ByteArray := prog_8_method_22_code
def yX6_itemOf : MethodName := ⟨RX6, "itemOf", "(III)J"⟩
abbrev cX6_read : ByteArray := prog_8_method_23_code
def yX6_read : MethodName := ⟨RX6, "read", "(III)J"⟩
abbrev cX6_write : ByteArray := prog_8_method_24_code
def yX6_write : MethodName := ⟨RX6, "write", "(IIIJ)I"⟩
abbrev cX6_thing : ByteArray := prog_8_method_25_code
def yX6_thing : MethodName := ⟨RX6, "thing", "(IIII)I"⟩
abbrev cX6_marked : ByteArray := prog_8_method_26_code
def yX6_marked : MethodName := ⟨RX6, "marked", "(II)I"⟩
abbrev cX6_cell : ByteArray := prog_8_method_27_code
def yX6_cell : MethodName := ⟨RX6, "cell", "(IIII)J"⟩
abbrev cX6_set : ByteArray := prog_8_method_28_code
def yX6_set : MethodName := ⟨RX6, "set", "(IIIIJ)I"⟩
abbrev cX6_deepest : ByteArray := prog_8_method_29_code
def yX6_deepest : MethodName := ⟨RX6, "deepest", "(IIII)J"⟩
abbrev cX6_row : ByteArray := prog_8_method_30_code
def yX6_row : MethodName := ⟨RX6, "row", "(IIII)I"⟩
abbrev cX6_take : ByteArray := prog_8_method_31_code
def yX6_take : MethodName := ⟨RX6, "take", "(IIII)I"⟩
abbrev cX6_grow : ByteArray := prog_8_method_32_code
def yX6_grow : MethodName := ⟨RX6, "grow", "(II)I"⟩
abbrev cX6_areUnlike : ByteArray := prog_8_method_33_code
def yX6_areUnlike : MethodName := ⟨RX6, "areUnlike", "(II)Z"⟩
abbrev cX6_canStand : ByteArray := prog_8_method_34_code
def yX6_canStand : MethodName := ⟨RX6, "canStand", "(IJI)Z"⟩
abbrev cX6_copy : ByteArray := prog_8_method_35_code
def yX6_copy : MethodName := ⟨RX6, "copy", "(IIIII)I"⟩
abbrev cX6_fill : ByteArray := prog_8_method_36_code
def yX6_fill : MethodName := ⟨RX6, "fill", "(IIJ)I"⟩
abbrev cX6_flatSize : ByteArray := prog_8_method_37_code
def yX6_flatSize : MethodName := ⟨RX6, "flatSize", "(I)I"⟩
abbrev cX6_middleSize : ByteArray := prog_8_method_38_code
def yX6_middleSize : MethodName := ⟨RX6, "middleSize", "(I)I"⟩
abbrev cX6_size : ByteArray := prog_8_method_39_code
def yX6_size : MethodName := ⟨RX6, "size", "(I)I"⟩
abbrev cX6_areShaped : ByteArray := prog_8_method_40_code
def yX6_areShaped : MethodName := ⟨RX6, "areShaped", "(II)Z"⟩
abbrev cX6_areThingsLike : ByteArray := prog_8_method_41_code
def yX6_areThingsLike : MethodName := ⟨RX6, "areThingsLike", "(II)Z"⟩
abbrev cX6_areFlatLike : ByteArray := prog_8_method_42_code
def yX6_areFlatLike : MethodName := ⟨RX6, "areFlatLike", "(II)Z"⟩
abbrev cX6_areMiddleLike : ByteArray := prog_8_method_43_code
def yX6_areMiddleLike : MethodName := ⟨RX6, "areMiddleLike", "(II)Z"⟩
abbrev cX6_alike : ByteArray := prog_8_method_44_code
def yX6_alike : MethodName := ⟨RX6, "alike", "(II)I"⟩
abbrev cX6_trouble : ByteArray := prog_8_method_45_code
def yX6_trouble : MethodName := ⟨RX6, "trouble", "(II)I"⟩
abbrev cX6_raise : ByteArray := prog_8_method_46_code
def yX6_raise : MethodName := ⟨RX6, "raise", "(II)I"⟩
abbrev cX6_passed : ByteArray := prog_8_method_47_code
def yX6_passed : MethodName := ⟨RX6, "passed", "()I"⟩
abbrev cX6_number : ByteArray := prog_8_method_48_code
def yX6_number : MethodName := ⟨RX6, "number", "()I"⟩
abbrev cX6_fault : ByteArray := prog_8_method_49_code
def yX6_fault : MethodName := ⟨RX6, "fault", "()I"⟩
abbrev cX6_clear : ByteArray := prog_8_method_50_code
def yX6_clear : MethodName := ⟨RX6, "clear", "()I"⟩
abbrev cX6_told : ByteArray := prog_8_method_51_code
def yX6_told : MethodName := ⟨RX6, "told", "(I)I"⟩
def RJ9 : String := "java/lang/Math"
def TJ9 : u_T := fun k => match k with
  | _ => ("", "", "", false)
def tyJ9 : Nat → FieldType := fun k => match k with
  | _ => .int
abbrev wsJ90 : List Cond := u_ws RJ9 TJ9 0
theorem nmJ9 : ∀ a, a < 0 → ∀ b, b < 0 → a ≠ b → (TJ9 a).2.1 ≠ (TJ9 b).2.1 := by decide +kernel
theorem tyJ9_ok : ∀ k, k < 0 → parseFieldDescriptor (TJ9 k).2.2.1 = some (tyJ9 k) := by decide +kernel
abbrev cJ9_max_7cf53 : ByteArray := prog_9_method_65_code
def yJ9_max_7cf53 : MethodName := ⟨RJ9, "max", "(II)I"⟩
abbrev cJ9_min_7cf53 : ByteArray := prog_9_method_69_code
def yJ9_min_7cf53 : MethodName := ⟨RJ9, "min", "(II)I"⟩
def RJ10 : String := "java/lang/System"
def TJ10 : u_T := fun k => match k with
  | _ => ("", "", "", false)
def tyJ10 : Nat → FieldType := fun k => match k with
  | _ => .int
abbrev wsJ100 : List Cond := u_ws RJ10 TJ10 0
theorem nmJ10 : ∀ a, a < 0 → ∀ b, b < 0 → a ≠ b → (TJ10 a).2.1 ≠ (TJ10 b).2.1 := by decide +kernel
theorem tyJ10_ok : ∀ k, k < 0 → parseFieldDescriptor (TJ10 k).2.2.1 = some (tyJ10 k) := by decide +kernel
def RL : String := "PlanCopiesLaw"
abbrev cL_law : ByteArray := code
def yL_law : MethodName := ⟨RL, "law", "([I)Z"⟩
def wsL_law_r1 : List Cond := [Cond.classLink RL 7 RX5, Cond.instantiable RX5 8, Cond.initialized RX5, Cond.classLink RL 10 RX6, Cond.instantiable RX6 16, Cond.initialized RX6, Cond.constantLong RL 50 (4294967295), Cond.methodLink RL 9 yX5_init, Cond.instanceMethod yX5_init, Cond.code yX5_init cX5_init 1 none, Cond.methodLink RX5 1 objectInit, Cond.instanceMethod objectInit, Cond.code objectInit ⟨#[0xb1]⟩ 1 none, Cond.classLink RX5 9 RX3, Cond.fieldLink RX5 11 "PlanCopies" "columns" "[LPlanCopies$Table;", Cond.arrayClass .int, Cond.fieldLink RX5 15 "PlanCopies" "troubles" "[I", Cond.methodLink RX5 19 yX5_begin, Cond.instanceMethod yX5_begin, Cond.selects RX5 yX5_begin yX5_begin, Cond.code yX5_begin cX5_begin 2 none, Cond.fieldLink RX5 137 "PlanCopies" "latestPassed" "I", Cond.fieldLink RX5 140 "PlanCopies" "latestNumber" "I", Cond.fieldLink RX5 143 "PlanCopies" "latestFault" "I"]
def wsL_law_r2 : List Cond := [Cond.methodLink RL 12 yX6_init, Cond.instanceMethod yX6_init, Cond.code yX6_init cX6_init 1 none, Cond.methodLink RX6 1 objectInit, Cond.arrayClass .byte, Cond.fieldLink RX6 7 "PlanCopiesModel" "kindOf" "[B", Cond.fieldLink RX6 13 "PlanCopiesModel" "many" "[B", Cond.fieldLink RX6 16 "PlanCopiesModel" "start" "[I", Cond.arrayClass .long, Cond.fieldLink RX6 20 "PlanCopiesModel" "item" "[J", Cond.fieldLink RX6 24 "PlanCopiesModel" "thingNumber" "[I", Cond.arrayClass .boolean, Cond.fieldLink RX6 27 "PlanCopiesModel" "isMarked" "[Z", Cond.fieldLink RX6 31 "PlanCopiesModel" "held" "[I", Cond.fieldLink RX6 34 "PlanCopiesModel" "troubleNumber" "[I", Cond.fieldLink RX6 37 "PlanCopiesModel" "number" "I", Cond.fieldLink RX6 41 "PlanCopiesModel" "copyOf" "[I", Cond.fieldLink RX6 44 "PlanCopiesModel" "kept" "[J", Cond.methodLink RL 13 yX5_make, Cond.instanceMethod yX5_make, Cond.selects RX5 yX5_make yX5_make, Cond.code yX5_make cX5_make 4 (some .int), Cond.methodLink RX5 22 yX5_isColumn, Cond.static yX5_isColumn]
def wsL_law_r3 : List Cond := [Cond.code yX5_isColumn cX5_isColumn 1 (some .boolean), Cond.methodLink RX5 26 yX5_isKind, Cond.static yX5_isKind, Cond.code yX5_isKind cX5_isKind 3 (some .boolean), Cond.methodLink RX5 30 yX5_isFull, Cond.instanceMethod yX5_isFull, Cond.selects RX5 yX5_isFull yX5_isFull, Cond.code yX5_isFull cX5_isFull 1 (some .boolean), Cond.fieldLink RX5 149 "PlanCopies" "itemsMade" "I", Cond.methodLink RX5 34 yX5_against, Cond.static yX5_against, Cond.code yX5_against cX5_against 1 (some .int), Cond.methodLink RX5 38 yX5_newTable, Cond.instanceMethod yX5_newTable, Cond.selects RX5 yX5_newTable yX5_newTable, Cond.code yX5_newTable cX5_newTable 3 (some (.object "PlanCopies$Table")), Cond.classLink RX5 125 RX2, Cond.instantiable RX2 4, Cond.initialized RX2, Cond.classLink RX5 158 RX0, Cond.instantiable RX0 4, Cond.initialized RX0, Cond.methodLink RX5 155 yX2_init, Cond.instanceMethod yX2_init]
def wsL_law_r4 : List Cond := [Cond.code yX2_init cX2_init 3 none, Cond.fieldLink RX2 7 "PlanCopies$Plain" "bits" "[J", Cond.methodLink RX2 1 yX3_init, Cond.instanceMethod yX3_init, Cond.initialized RX3, Cond.code yX3_init cX3_init 2 none, Cond.fieldLink RX3 7 "PlanCopies$Table" "kind" "I", Cond.instanceMethod yX1_init, Cond.initialized RX1, Cond.code yX1_init cX1_init 1 none, Cond.methodLink RX1 1 objectInit, Cond.methodLink RX5 160 yX0_init, Cond.instanceMethod yX0_init, Cond.code yX0_init cX0_init 3 none, Cond.classLink RX0 7 RX1, Cond.fieldLink RX0 9 "PlanCopies$Holder" "items" "[LPlanCopies$Item;", Cond.methodLink RX0 1 yX3_init, Cond.methodLink RL 17 yX6_make, Cond.instanceMethod yX6_make, Cond.selects RX6 yX6_make yX6_make, Cond.code yX6_make cX6_make 4 (some .int), Cond.methodLink RX6 53 yX6_isColumn, Cond.static yX6_isColumn, Cond.code yX6_isColumn cX6_isColumn 1 (some .boolean)]
def wsL_law_r5 : List Cond := [Cond.methodLink RX6 57 yX6_in, Cond.static yX6_in, Cond.code yX6_in cX6_in 3 (some .boolean), Cond.methodLink RX6 61 yX6_isFull, Cond.instanceMethod yX6_isFull, Cond.selects RX6 yX6_isFull yX6_isFull, Cond.code yX6_isFull cX6_isFull 1 (some .boolean), Cond.fieldLink RX6 50 "PlanCopiesModel" "items" "I", Cond.methodLink RX6 65 yX6_answer, Cond.static yX6_answer, Cond.code yX6_answer cX6_answer 1 (some .int), Cond.methodLink RX6 69 yX6_table, Cond.instanceMethod yX6_table, Cond.selects RX6 yX6_table yX6_table, Cond.code yX6_table cX6_table 4 (some .int), Cond.fieldLink RX6 47 "PlanCopiesModel" "tables" "I", Cond.methodLink RL 18 yX5_deep, Cond.instanceMethod yX5_deep, Cond.selects RX5 yX5_deep yX5_deep, Cond.code yX5_deep cX5_deep 7 (some .int), Cond.methodLink RX5 42 yX5_isTooDeep, Cond.static yX5_isTooDeep, Cond.code yX5_isTooDeep cX5_isTooDeep 3 (some .boolean), Cond.methodLink RX5 152 Lib.Math.max.name]
def wsL_law_r6 : List Cond := [Cond.static Lib.Math.max.name, Cond.initialized "java/lang/Math", Cond.code Lib.Math.max.name Lib.Math.max.code 2 (some .int), Cond.methodLink RX5 45 yX5_newDeepTable, Cond.instanceMethod yX5_newDeepTable, Cond.selects RX5 yX5_newDeepTable yX5_newDeepTable, Cond.code yX5_newDeepTable cX5_newDeepTable 8 (some (.object "PlanCopies$Table")), Cond.methodLink RX5 112 yX5_kindOfRows, Cond.static yX5_kindOfRows, Cond.code yX5_kindOfRows cX5_kindOfRows 1 (some .int), Cond.methodLink RX5 87 yX5_place, Cond.static yX5_place, Cond.code yX5_place cX5_place 5 (some .int), Cond.classLink RX5 158 "PlanCopies$Holder", Cond.fieldLink RX5 195 "PlanCopies$Holder" "kind" "I", Cond.sameField "PlanCopies$Holder" "PlanCopies$Table" "kind" "I", Cond.fieldLink RX5 179 "PlanCopies$Holder" "items" "[LPlanCopies$Item;", Cond.methodLink RX5 108 yX5_faultAt, Cond.static yX5_faultAt, Cond.code yX5_faultAt cX5_faultAt 2 (some .int), Cond.methodLink RX5 64 ⟨"PlanCopies$Table", "count", "()I"⟩, Cond.sameMethod "PlanCopies$Table" "PlanCopies$Table" "count" "()I", Cond.selects RX0 ⟨"PlanCopies$Table", "count", "()I"⟩ yX0_count, Cond.instanceMethod yX0_count]
def wsL_law_r7 : List Cond := [Cond.code yX0_count cX0_count 1 (some .int), Cond.selects RX2 ⟨"PlanCopies$Table", "count", "()I"⟩ yX2_count, Cond.instanceMethod yX2_count, Cond.code yX2_count cX2_count 1 (some .int), Cond.methodLink RX5 196 yX5_canStand, Cond.static yX5_canStand, Cond.code yX5_canStand cX5_canStand 3 (some .boolean), Cond.classLink RX5 99 "PlanCopies$Thing", Cond.fieldLink RX5 101 "PlanCopies$Thing" "marked" "Z", Cond.classLink RX5 9 "PlanCopies$Table", Cond.methodLink RX5 60 yX5_fits, Cond.static yX5_fits, Cond.code yX5_fits cX5_fits 2 (some .boolean), Cond.fieldLink RX5 57 "PlanCopies$Table" "kind" "I", Cond.methodLink RX5 161 yX5_placeNewRows, Cond.instanceMethod yX5_placeNewRows, Cond.selects RX5 yX5_placeNewRows yX5_placeNewRows, Cond.code yX5_placeNewRows cX5_placeNewRows 4 none, Cond.methodLink RL 22 yX6_deep, Cond.instanceMethod yX6_deep, Cond.selects RX6 yX6_deep yX6_deep, Cond.code yX6_deep cX6_deep 13 (some .int), Cond.methodLink RX6 73 yX6_rowKind, Cond.static yX6_rowKind]
def wsL_law_r8 : List Cond := [Cond.code yX6_rowKind cX6_rowKind 1 (some .int), Cond.methodLink RX6 76 yX6_put, Cond.instanceMethod yX6_put, Cond.selects RX6 yX6_put yX6_put, Cond.code yX6_put cX6_put 5 none, Cond.methodLink RL 23 yX5_share, Cond.instanceMethod yX5_share, Cond.selects RX5 yX5_share yX5_share, Cond.code yX5_share cX5_share 3 (some .int), Cond.methodLink RL 27 yX6_share, Cond.instanceMethod yX6_share, Cond.selects RX6 yX6_share yX6_share, Cond.code yX6_share cX6_share 3 (some .int), Cond.methodLink RL 28 yX5_aside, Cond.instanceMethod yX5_aside, Cond.selects RX5 yX5_aside yX5_aside, Cond.code yX5_aside cX5_aside 3 (some .int), Cond.fieldLink RX5 49 "PlanCopies" "asidesMade" "I", Cond.methodLink RX5 53 yX5_twinOf, Cond.instanceMethod yX5_twinOf, Cond.selects RX5 yX5_twinOf yX5_twinOf, Cond.code yX5_twinOf cX5_twinOf 5 (some (.object "PlanCopies$Table")), Cond.fieldLink RX5 168 "PlanCopies$Table" "twinMadeBy" "I", Cond.fieldLink RX5 171 "PlanCopies$Table" "twin" "LPlanCopies$Table;"]
def wsL_law_r9 : List Cond := [Cond.methodLink RX5 121 yX5_transfer, Cond.static yX5_transfer, Cond.code yX5_transfer cX5_transfer 7 (some .int), Cond.classLink RX5 125 "PlanCopies$Plain", Cond.fieldLink RX5 183 "PlanCopies$Plain" "bits" "[J", Cond.methodLink RX5 204 arraycopyName, Cond.native arraycopyName, Cond.static arraycopyName, Cond.initialized "java/lang/System", Cond.methodLink RX5 200 yX5_hasStretch, Cond.static yX5_hasStretch, Cond.code yX5_hasStretch cX5_hasStretch 3 (some .boolean), Cond.methodLink RX5 210 yX5_transferItems, Cond.static yX5_transferItems, Cond.code yX5_transferItems cX5_transferItems 9 (some .int), Cond.methodLink RX5 95 yX5_itemAt, Cond.static yX5_itemAt, Cond.code yX5_itemAt cX5_itemAt 3 (some (.object "PlanCopies$Item")), Cond.methodLink RX5 175 yX5_renewRows, Cond.instanceMethod yX5_renewRows, Cond.selects RX5 yX5_renewRows yX5_renewRows, Cond.code yX5_renewRows cX5_renewRows 6 none, Cond.methodLink RL 31 yX6_aside, Cond.instanceMethod yX6_aside]
def wsL_law_r10 : List Cond := [Cond.selects RX6 yX6_aside yX6_aside, Cond.code yX6_aside cX6_aside 6 (some .int), Cond.methodLink RX6 84 yX6_flat, Cond.instanceMethod yX6_flat, Cond.selects RX6 yX6_flat yX6_flat, Cond.code yX6_flat cX6_flat 4 (some .int), Cond.methodLink RX6 80 yX6_at, Cond.instanceMethod yX6_at, Cond.selects RX6 yX6_at yX6_at, Cond.code yX6_at cX6_at 3 (some .long), Cond.methodLink RX6 87 yX6_middle, Cond.instanceMethod yX6_middle, Cond.selects RX6 yX6_middle yX6_middle, Cond.code yX6_middle cX6_middle 4 (some .int), Cond.methodLink RL 32 yX5_drop, Cond.instanceMethod yX5_drop, Cond.selects RX5 yX5_drop yX5_drop, Cond.code yX5_drop cX5_drop 3 (some .int), Cond.methodLink RL 36 yX6_drop, Cond.instanceMethod yX6_drop, Cond.selects RX6 yX6_drop yX6_drop, Cond.code yX6_drop cX6_drop 3 (some .int), Cond.methodLink RL 37 yX5_kind, Cond.instanceMethod yX5_kind]
def wsL_law_r11 : List Cond := [Cond.selects RX5 yX5_kind yX5_kind, Cond.code yX5_kind cX5_kind 3 (some .int), Cond.methodLink RL 40 yX6_kind, Cond.instanceMethod yX6_kind, Cond.selects RX6 yX6_kind yX6_kind, Cond.code yX6_kind cX6_kind 2 (some .int), Cond.methodLink RL 41 yX5_length, Cond.instanceMethod yX5_length, Cond.selects RX5 yX5_length yX5_length, Cond.code yX5_length cX5_length 4 (some .int), Cond.methodLink RL 44 yX6_length, Cond.instanceMethod yX6_length, Cond.selects RX6 yX6_length yX6_length, Cond.code yX6_length cX6_length 4 (some .int), Cond.methodLink RX6 90 yX6_isOf, Cond.instanceMethod yX6_isOf, Cond.selects RX6 yX6_isOf yX6_isOf, Cond.code yX6_isOf cX6_isOf 3 (some .boolean), Cond.methodLink RL 45 yX5_read, Cond.instanceMethod yX5_read, Cond.selects RX5 yX5_read yX5_read, Cond.code yX5_read cX5_read 5 (some .long), Cond.methodLink RX5 68 yX5_noBits, Cond.instanceMethod yX5_noBits]
def wsL_law_r12 : List Cond := [Cond.selects RX5 yX5_noBits yX5_noBits, Cond.code yX5_noBits cX5_noBits 2 (some .long), Cond.methodLink RX5 72 yX5_bitsAt, Cond.instanceMethod yX5_bitsAt, Cond.selects RX5 yX5_bitsAt yX5_bitsAt, Cond.code yX5_bitsAt cX5_bitsAt 5 (some .long), Cond.fieldLink RX5 187 "PlanCopies$Thing" "number" "I", Cond.methodLink RL 49 yX6_read, Cond.instanceMethod yX6_read, Cond.selects RX6 yX6_read yX6_read, Cond.code yX6_read cX6_read 5 (some .long), Cond.fieldLink RX6 111 "PlanCopiesModel" "fault" "I", Cond.methodLink RX6 114 yX6_itemOf, Cond.instanceMethod yX6_itemOf, Cond.selects RX6 yX6_itemOf yX6_itemOf, Cond.code yX6_itemOf cX6_itemOf 6 (some .long), Cond.methodLink RX6 108 yX6_looked, Cond.instanceMethod yX6_looked, Cond.selects RX6 yX6_looked yX6_looked, Cond.code yX6_looked cX6_looked 3 (some .int), Cond.methodLink RL 52 yX5_write, Cond.instanceMethod yX5_write, Cond.selects RX5 yX5_write yX5_write, Cond.code yX5_write cX5_write 7 (some .int)]
def wsL_law_r13 : List Cond := [Cond.methodLink RX5 76 yX5_putBits, Cond.static yX5_putBits, Cond.code yX5_putBits cX5_putBits 6 (some .int), Cond.fieldLink RX5 190 "PlanCopies$Plain" "kind" "I", Cond.sameField "PlanCopies$Plain" "PlanCopies$Table" "kind" "I", Cond.methodLink RX5 191 yX5_keptBits, Cond.static yX5_keptBits, Cond.code yX5_keptBits cX5_keptBits 3 (some .long), Cond.methodLink RX5 213 yX5_keptFloat, Cond.static yX5_keptFloat, Cond.code yX5_keptFloat cX5_keptFloat 1 (some .int), Cond.constant RX5 222 (2147483647), Cond.constant RX5 223 (2139095040), Cond.constant RX5 224 (2143289344), Cond.methodLink RX5 216 yX5_keptDouble, Cond.static yX5_keptDouble, Cond.code yX5_keptDouble cX5_keptDouble 2 (some .long), Cond.constantLong RX5 227 (9223372036854775807), Cond.constantLong RX5 229 (9218868437227405312), Cond.constantLong RX5 231 (9221120237041090560), Cond.methodLink RL 56 yX6_write, Cond.instanceMethod yX6_write, Cond.selects RX6 yX6_write yX6_write, Cond.code yX6_write cX6_write 8 (some .int)]
def wsL_law_r14 : List Cond := [Cond.methodLink RX6 118 yX6_cut, Cond.static yX6_cut, Cond.code yX6_cut cX6_cut 3 (some .long), Cond.constantLong RX6 94 (65535), Cond.constantLong RX6 96 (2147483647), Cond.constantLong RX6 98 (2139095040), Cond.constantLong RX6 100 (2143289344), Cond.constantLong RX6 102 (9223372036854775807), Cond.constantLong RX6 104 (9218868437227405312), Cond.constantLong RX6 106 (9221120237041090560), Cond.methodLink RL 57 yX5_thing, Cond.instanceMethod yX5_thing, Cond.selects RX5 yX5_thing yX5_thing, Cond.code yX5_thing cX5_thing 7 (some .int), Cond.fieldLink RX5 80 "PlanCopies" "thingsMade" "I", Cond.methodLink RX5 83 yX5_newThing, Cond.instanceMethod yX5_newThing, Cond.selects RX5 yX5_newThing yX5_newThing, Cond.code yX5_newThing cX5_newThing 3 (some (.object "PlanCopies$Thing")), Cond.classLink RX5 99 RX4, Cond.instantiable RX4 2, Cond.initialized RX4, Cond.methodLink RX5 165 yX4_init, Cond.instanceMethod yX4_init]
def wsL_law_r15 : List Cond := [Cond.code yX4_init cX4_init 3 none, Cond.fieldLink RX4 7 "PlanCopies$Thing" "number" "I", Cond.fieldLink RX4 13 "PlanCopies$Thing" "marked" "Z", Cond.methodLink RL 61 yX6_thing, Cond.instanceMethod yX6_thing, Cond.selects RX6 yX6_thing yX6_thing, Cond.code yX6_thing cX6_thing 7 (some .int), Cond.fieldLink RX6 122 "PlanCopiesModel" "things" "I", Cond.methodLink RL 62 yX5_marked, Cond.instanceMethod yX5_marked, Cond.selects RX5 yX5_marked yX5_marked, Cond.code yX5_marked cX5_marked 7 (some .int), Cond.methodLink RX5 91 yX5_faultTaken, Cond.static yX5_faultTaken, Cond.code yX5_faultTaken cX5_faultTaken 3 (some .int), Cond.methodLink RL 65 yX6_marked, Cond.instanceMethod yX6_marked, Cond.selects RX6 yX6_marked yX6_marked, Cond.code yX6_marked cX6_marked 5 (some .int), Cond.methodLink RL 66 yX5_cell, Cond.instanceMethod yX5_cell, Cond.selects RX5 yX5_cell yX5_cell, Cond.code yX5_cell cX5_cell 7 (some .long), Cond.methodLink RX5 105 yX5_rowAt]
def wsL_law_r16 : List Cond := [Cond.static yX5_rowAt, Cond.code yX5_rowAt cX5_rowAt 4 (some (.object "PlanCopies$Table")), Cond.methodLink RL 70 yX6_cell, Cond.instanceMethod yX6_cell, Cond.selects RX6 yX6_cell yX6_cell, Cond.code yX6_cell cX6_cell 7 (some .long), Cond.methodLink RL 71 yX5_set, Cond.instanceMethod yX5_set, Cond.selects RX5 yX5_set yX5_set, Cond.code yX5_set cX5_set 9 (some .int), Cond.methodLink RL 75 yX6_set, Cond.instanceMethod yX6_set, Cond.selects RX6 yX6_set yX6_set, Cond.code yX6_set cX6_set 10 (some .int), Cond.methodLink RL 76 yX5_deepest, Cond.instanceMethod yX5_deepest, Cond.selects RX5 yX5_deepest yX5_deepest, Cond.code yX5_deepest cX5_deepest 8 (some .long), Cond.methodLink RL 79 yX6_deepest, Cond.instanceMethod yX6_deepest, Cond.selects RX6 yX6_deepest yX6_deepest, Cond.code yX6_deepest cX6_deepest 8 (some .long), Cond.methodLink RL 80 yX5_row, Cond.instanceMethod yX5_row]
def wsL_law_r17 : List Cond := [Cond.selects RX5 yX5_row yX5_row, Cond.code yX5_row cX5_row 7 (some .int), Cond.methodLink RL 83 yX6_row, Cond.instanceMethod yX6_row, Cond.selects RX6 yX6_row yX6_row, Cond.code yX6_row cX6_row 7 (some .int), Cond.methodLink RL 84 yX5_take, Cond.instanceMethod yX5_take, Cond.selects RX5 yX5_take yX5_take, Cond.code yX5_take cX5_take 7 (some .int), Cond.methodLink RL 87 yX6_take, Cond.instanceMethod yX6_take, Cond.selects RX6 yX6_take yX6_take, Cond.code yX6_take cX6_take 7 (some .int), Cond.methodLink RL 88 yX5_grow, Cond.instanceMethod yX5_grow, Cond.selects RX5 yX5_grow yX5_grow, Cond.code yX5_grow cX5_grow 5 (some .int), Cond.methodLink RX5 115 Lib.Math.min.name, Cond.static Lib.Math.min.name, Cond.code Lib.Math.min.name Lib.Math.min.code 2 (some .int), Cond.methodLink RL 91 yX6_grow, Cond.instanceMethod yX6_grow, Cond.selects RX6 yX6_grow yX6_grow]
def wsL_law_r18 : List Cond := [Cond.code yX6_grow cX6_grow 6 (some .int), Cond.methodLink RL 92 yX5_copy, Cond.instanceMethod yX5_copy, Cond.selects RX5 yX5_copy yX5_copy, Cond.code yX5_copy cX5_copy 8 (some .int), Cond.methodLink RL 95 yX6_copy, Cond.instanceMethod yX6_copy, Cond.selects RX6 yX6_copy yX6_copy, Cond.code yX6_copy cX6_copy 9 (some .int), Cond.methodLink RX6 125 yX6_areUnlike, Cond.instanceMethod yX6_areUnlike, Cond.selects RX6 yX6_areUnlike yX6_areUnlike, Cond.code yX6_areUnlike cX6_areUnlike 3 (some .boolean), Cond.methodLink RX6 128 yX6_canStand, Cond.instanceMethod yX6_canStand, Cond.selects RX6 yX6_canStand yX6_canStand, Cond.code yX6_canStand cX6_canStand 6 (some .boolean), Cond.methodLink RL 96 yX5_fill, Cond.instanceMethod yX5_fill, Cond.selects RX5 yX5_fill yX5_fill, Cond.code yX5_fill cX5_fill 7 (some .int), Cond.methodLink RL 100 yX6_fill, Cond.instanceMethod yX6_fill, Cond.selects RX6 yX6_fill yX6_fill]
def wsL_law_r19 : List Cond := [Cond.code yX6_fill cX6_fill 7 (some .int), Cond.methodLink RL 101 yX5_size, Cond.instanceMethod yX5_size, Cond.selects RX5 yX5_size yX5_size, Cond.code yX5_size cX5_size 2 (some .int), Cond.methodLink RX5 127 yX5_singleItems, Cond.static yX5_singleItems, Cond.code yX5_singleItems cX5_singleItems 5 (some .int), Cond.methodLink RL 104 yX6_size, Cond.instanceMethod yX6_size, Cond.selects RX6 yX6_size yX6_size, Cond.code yX6_size cX6_size 5 (some .int), Cond.methodLink RX6 135 yX6_middleSize, Cond.instanceMethod yX6_middleSize, Cond.selects RX6 yX6_middleSize yX6_middleSize, Cond.code yX6_middleSize cX6_middleSize 4 (some .int), Cond.methodLink RX6 132 yX6_flatSize, Cond.instanceMethod yX6_flatSize, Cond.selects RX6 yX6_flatSize yX6_flatSize, Cond.code yX6_flatSize cX6_flatSize 4 (some .int), Cond.methodLink RL 105 yX5_alike, Cond.instanceMethod yX5_alike, Cond.selects RX5 yX5_alike yX5_alike, Cond.code yX5_alike cX5_alike 5 (some .int)]
def wsL_law_r20 : List Cond := [Cond.methodLink RX5 130 yX5_areAlike, Cond.static yX5_areAlike, Cond.code yX5_areAlike cX5_areAlike 5 (some .boolean), Cond.methodLink RX5 233 yX5_haveSameBits, Cond.static yX5_haveSameBits, Cond.code yX5_haveSameBits cX5_haveSameBits 3 (some .boolean), Cond.methodLink RX5 237 yX5_areItemsAlike, Cond.static yX5_areItemsAlike, Cond.code yX5_areItemsAlike cX5_areItemsAlike 5 (some .boolean), Cond.methodLink RL 108 yX6_alike, Cond.instanceMethod yX6_alike, Cond.selects RX6 yX6_alike yX6_alike, Cond.code yX6_alike cX6_alike 7 (some .int), Cond.methodLink RX6 147 yX6_areMiddleLike, Cond.instanceMethod yX6_areMiddleLike, Cond.selects RX6 yX6_areMiddleLike yX6_areMiddleLike, Cond.code yX6_areMiddleLike cX6_areMiddleLike 5 (some .boolean), Cond.methodLink RX6 144 yX6_areFlatLike, Cond.instanceMethod yX6_areFlatLike, Cond.selects RX6 yX6_areFlatLike yX6_areFlatLike, Cond.code yX6_areFlatLike cX6_areFlatLike 5 (some .boolean), Cond.methodLink RX6 138 yX6_areShaped, Cond.instanceMethod yX6_areShaped, Cond.selects RX6 yX6_areShaped yX6_areShaped]
def wsL_law_r21 : List Cond := [Cond.code yX6_areShaped cX6_areShaped 3 (some .boolean), Cond.methodLink RX6 141 yX6_areThingsLike, Cond.instanceMethod yX6_areThingsLike, Cond.selects RX6 yX6_areThingsLike yX6_areThingsLike, Cond.code yX6_areThingsLike cX6_areThingsLike 3 (some .boolean), Cond.methodLink RL 109 yX5_trouble, Cond.instanceMethod yX5_trouble, Cond.selects RX5 yX5_trouble yX5_trouble, Cond.code yX5_trouble cX5_trouble 4 (some .int), Cond.methodLink RX5 134 yX5_isTrouble, Cond.static yX5_isTrouble, Cond.code yX5_isTrouble cX5_isTrouble 1 (some .boolean), Cond.methodLink RL 112 yX6_trouble, Cond.instanceMethod yX6_trouble, Cond.selects RX6 yX6_trouble yX6_trouble, Cond.code yX6_trouble cX6_trouble 4 (some .int), Cond.methodLink RL 113 yX5_raise, Cond.instanceMethod yX5_raise, Cond.selects RX5 yX5_raise yX5_raise, Cond.code yX5_raise cX5_raise 4 (some .int), Cond.methodLink RL 116 yX6_raise, Cond.instanceMethod yX6_raise, Cond.selects RX6 yX6_raise yX6_raise, Cond.code yX6_raise cX6_raise 4 (some .int)]
def wsL_law_r22 : List Cond := [Cond.fieldLink RX6 150 "PlanCopiesModel" "passed" "I", Cond.methodLink RL 117 yX5_passed, Cond.instanceMethod yX5_passed, Cond.selects RX5 yX5_passed yX5_passed, Cond.code yX5_passed cX5_passed 1 (some .int), Cond.methodLink RL 121 yX6_passed, Cond.instanceMethod yX6_passed, Cond.selects RX6 yX6_passed yX6_passed, Cond.code yX6_passed cX6_passed 1 (some .int), Cond.methodLink RL 122 yX5_number, Cond.instanceMethod yX5_number, Cond.selects RX5 yX5_number yX5_number, Cond.code yX5_number cX5_number 1 (some .int), Cond.methodLink RL 125 yX6_number, Cond.instanceMethod yX6_number, Cond.selects RX6 yX6_number yX6_number, Cond.code yX6_number cX6_number 1 (some .int), Cond.methodLink RL 126 yX5_fault, Cond.instanceMethod yX5_fault, Cond.selects RX5 yX5_fault yX5_fault, Cond.code yX5_fault cX5_fault 1 (some .int), Cond.methodLink RL 129 yX6_fault, Cond.instanceMethod yX6_fault, Cond.selects RX6 yX6_fault yX6_fault]
def wsL_law_r23 : List Cond := [Cond.code yX6_fault cX6_fault 1 (some .int), Cond.methodLink RL 130 yX5_clear, Cond.instanceMethod yX5_clear, Cond.selects RX5 yX5_clear yX5_clear, Cond.code yX5_clear cX5_clear 2 (some .int), Cond.methodLink RX5 146 yX5_heldColumns, Cond.instanceMethod yX5_heldColumns, Cond.selects RX5 yX5_heldColumns yX5_heldColumns, Cond.code yX5_heldColumns cX5_heldColumns 3 (some .int), Cond.methodLink RL 133 yX6_clear, Cond.instanceMethod yX6_clear, Cond.selects RX6 yX6_clear yX6_clear, Cond.code yX6_clear cX6_clear 3 (some .int), Cond.methodLink RL 134 yX5_told, Cond.instanceMethod yX5_told, Cond.selects RX5 yX5_told yX5_told, Cond.code yX5_told cX5_told 2 (some .int), Cond.methodLink RL 137 yX6_told, Cond.instanceMethod yX6_told, Cond.selects RX6 yX6_told yX6_told, Cond.code yX6_told cX6_told 4 (some .int)]
def wsL_law : List Cond := (wsL_law_r1 ++ (wsL_law_r2 ++ (wsL_law_r3 ++ (wsL_law_r4 ++ (wsL_law_r5 ++ (wsL_law_r6 ++ (wsL_law_r7 ++ (wsL_law_r8 ++ (wsL_law_r9 ++ (wsL_law_r10 ++ (wsL_law_r11 ++ (wsL_law_r12 ++ (wsL_law_r13 ++ (wsL_law_r14 ++ (wsL_law_r15 ++ (wsL_law_r16 ++ (wsL_law_r17 ++ (wsL_law_r18 ++ (wsL_law_r19 ++ (wsL_law_r20 ++ (wsL_law_r21 ++ (wsL_law_r22 ++ wsL_law_r23)))))))))))))))))))))) ++ wsX50 ++ wsX60 ++ wsX20 ++ wsX00 ++ wsX40 ++ ([] : List Cond)
set_option maxRecDepth 20000 in
theorem inlX0 : ∀ w ∈ wsX00, w ∈ wsL_law := fun _ h => List.mem_append_left _ (List.mem_append_left _ (List.mem_append_right _ h))
theorem inlX2 : ∀ w ∈ wsX20, w ∈ wsL_law := fun _ h => List.mem_append_left _ (List.mem_append_left _ (List.mem_append_left _ (List.mem_append_right _ h)))
theorem inlX4 : ∀ w ∈ wsX40, w ∈ wsL_law := fun _ h => List.mem_append_left _ (List.mem_append_right _ h)
theorem inlX5 : ∀ w ∈ wsX50, w ∈ wsL_law := fun _ h => List.mem_append_left _ (List.mem_append_left _ (List.mem_append_left _ (List.mem_append_left _ (List.mem_append_left _ (List.mem_append_right _ h)))))
theorem inlX6 : ∀ w ∈ wsX60, w ∈ wsL_law := fun _ h => List.mem_append_left _ (List.mem_append_left _ (List.mem_append_left _ (List.mem_append_left _ (List.mem_append_right _ h))))
abbrev vwCl : List vw_C := [(RX0, TX0, 4), (RX2, TX2, 4), (RX4, TX4, 2), (RX5, TX5, 8), (RX6, TX6, 16)]
