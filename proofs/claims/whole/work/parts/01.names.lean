-- ===== PART A: goes FIRST, ahead of the names: the tables' words, and 'selects' of the private methods out of them =====
/-- a private method of a class that the tables say can be made, by its rows of tables_1 -/
def lw_okq (q : MethodName × Nat) : Prop := (q.1.cls ≠ "java/lang/invoke/MethodHandle" ∧ q.1.cls ≠ "java/lang/invoke/VarHandle") ∧ Cond.instantiable q.1.cls q.2 ∈ tables_1 ∧ Cond.privateMethod q.1 ∈ tables_1 ∧ Cond.instanceMethod q.1 ∈ tables_1
theorem lw_p0 : lw_okq (⟨"ShireWays", "refusalOf", "(IIII)I"⟩, 4) := ⟨⟨by decide +kernel, by decide +kernel⟩, List.mem_of_getElem? (i := 11) (by decide +kernel), List.mem_of_getElem? (i := 311) (by decide +kernel), List.mem_of_getElem? (i := 312) (by decide +kernel)⟩
theorem lw_p1 : lw_okq (⟨"ShireWays$Sight", "take", "(I)V"⟩, 11) := ⟨⟨by decide +kernel, by decide +kernel⟩, List.mem_of_getElem? (i := 44) (by decide +kernel), List.mem_of_getElem? (i := 329) (by decide +kernel), List.mem_of_getElem? (i := 330) (by decide +kernel)⟩
theorem lw_p2 : lw_okq (⟨"ShireWays$Sight", "insertOrder", "(II)V"⟩, 11) := ⟨⟨by decide +kernel, by decide +kernel⟩, List.mem_of_getElem? (i := 44) (by decide +kernel), List.mem_of_getElem? (i := 345) (by decide +kernel), List.mem_of_getElem? (i := 346) (by decide +kernel)⟩
theorem lw_p3 : lw_okq (⟨"ShireWays$Sight", "rule", "(I)V"⟩, 11) := ⟨⟨by decide +kernel, by decide +kernel⟩, List.mem_of_getElem? (i := 44) (by decide +kernel), List.mem_of_getElem? (i := 349) (by decide +kernel), List.mem_of_getElem? (i := 350) (by decide +kernel)⟩
theorem lw_p4 : lw_okq (⟨"ShireWays$Sight", "judge", "()V"⟩, 11) := ⟨⟨by decide +kernel, by decide +kernel⟩, List.mem_of_getElem? (i := 44) (by decide +kernel), List.mem_of_getElem? (i := 357) (by decide +kernel), List.mem_of_getElem? (i := 358) (by decide +kernel)⟩
theorem lw_p5 : lw_okq (⟨"ShireWays$Sight", "latestGood", "(I)I"⟩, 11) := ⟨⟨by decide +kernel, by decide +kernel⟩, List.mem_of_getElem? (i := 44) (by decide +kernel), List.mem_of_getElem? (i := 365) (by decide +kernel), List.mem_of_getElem? (i := 366) (by decide +kernel)⟩
theorem lw_p6 : lw_okq (⟨"ShireWays$Leaning", "isNear", "(III)Z"⟩, 9) := ⟨⟨by decide +kernel, by decide +kernel⟩, List.mem_of_getElem? (i := 140) (by decide +kernel), List.mem_of_getElem? (i := 447) (by decide +kernel), List.mem_of_getElem? (i := 448) (by decide +kernel)⟩
theorem lw_p7 : lw_okq (⟨"ShireWays", "refusalFrom", "(IIII)I"⟩, 4) := ⟨⟨by decide +kernel, by decide +kernel⟩, List.mem_of_getElem? (i := 11) (by decide +kernel), List.mem_of_getElem? (i := 477) (by decide +kernel), List.mem_of_getElem? (i := 478) (by decide +kernel)⟩
theorem lw_p8 : lw_okq (⟨"ShireWays", "measure", "(IIII)V"⟩, 4) := ⟨⟨by decide +kernel, by decide +kernel⟩, List.mem_of_getElem? (i := 11) (by decide +kernel), List.mem_of_getElem? (i := 481) (by decide +kernel), List.mem_of_getElem? (i := 482) (by decide +kernel)⟩
theorem lw_p9 : lw_okq (⟨"ShireWays$Roads", "goOn", "(III)V"⟩, 5) := ⟨⟨by decide +kernel, by decide +kernel⟩, List.mem_of_getElem? (i := 117) (by decide +kernel), List.mem_of_getElem? (i := 496) (by decide +kernel), List.mem_of_getElem? (i := 497) (by decide +kernel)⟩
theorem lw_p10 : lw_okq (⟨"ShireWays", "goodOrders", "()I"⟩, 4) := ⟨⟨by decide +kernel, by decide +kernel⟩, List.mem_of_getElem? (i := 11) (by decide +kernel), List.mem_of_getElem? (i := 525) (by decide +kernel), List.mem_of_getElem? (i := 526) (by decide +kernel)⟩
theorem lw_p11 : lw_okq (⟨"ShireWaysModel", "noWay", "(I)Z"⟩, 23) := ⟨⟨by decide +kernel, by decide +kernel⟩, List.mem_of_getElem? (i := 529) (by decide +kernel), List.mem_of_getElem? (i := 622) (by decide +kernel), List.mem_of_getElem? (i := 623) (by decide +kernel)⟩
theorem lw_p12 : lw_okq (⟨"ShireWaysModel", "write", "(IIII)I"⟩, 23) := ⟨⟨by decide +kernel, by decide +kernel⟩, List.mem_of_getElem? (i := 529) (by decide +kernel), List.mem_of_getElem? (i := 630) (by decide +kernel), List.mem_of_getElem? (i := 631) (by decide +kernel)⟩
theorem lw_p13 : lw_okq (⟨"ShireWaysModel", "tell", "(II)V"⟩, 23) := ⟨⟨by decide +kernel, by decide +kernel⟩, List.mem_of_getElem? (i := 529) (by decide +kernel), List.mem_of_getElem? (i := 634) (by decide +kernel), List.mem_of_getElem? (i := 635) (by decide +kernel)⟩
theorem lw_p14 : lw_okq (⟨"ShireWaysModel", "ordered", "(IIIII)I"⟩, 23) := ⟨⟨by decide +kernel, by decide +kernel⟩, List.mem_of_getElem? (i := 529) (by decide +kernel), List.mem_of_getElem? (i := 655) (by decide +kernel), List.mem_of_getElem? (i := 656) (by decide +kernel)⟩
theorem lw_p15 : lw_okq (⟨"ShireWaysModel", "noPage", "(I)Z"⟩, 23) := ⟨⟨by decide +kernel, by decide +kernel⟩, List.mem_of_getElem? (i := 529) (by decide +kernel), List.mem_of_getElem? (i := 667) (by decide +kernel), List.mem_of_getElem? (i := 668) (by decide +kernel)⟩
def lw_privs_1 : List (MethodName × Nat) := [(⟨"ShireWays", "refusalOf", "(IIII)I"⟩, 4), (⟨"ShireWays$Sight", "take", "(I)V"⟩, 11), (⟨"ShireWays$Sight", "insertOrder", "(II)V"⟩, 11), (⟨"ShireWays$Sight", "rule", "(I)V"⟩, 11), (⟨"ShireWays$Sight", "judge", "()V"⟩, 11), (⟨"ShireWays$Sight", "latestGood", "(I)I"⟩, 11), (⟨"ShireWays$Leaning", "isNear", "(III)Z"⟩, 9), (⟨"ShireWays", "refusalFrom", "(IIII)I"⟩, 4), (⟨"ShireWays", "measure", "(IIII)V"⟩, 4), (⟨"ShireWays$Roads", "goOn", "(III)V"⟩, 5), (⟨"ShireWays", "goodOrders", "()I"⟩, 4), (⟨"ShireWaysModel", "noWay", "(I)Z"⟩, 23), (⟨"ShireWaysModel", "write", "(IIII)I"⟩, 23), (⟨"ShireWaysModel", "tell", "(II)V"⟩, 23), (⟨"ShireWaysModel", "ordered", "(IIIII)I"⟩, 23), (⟨"ShireWaysModel", "noPage", "(I)Z"⟩, 23)]
theorem lw_r1 : ∀ q ∈ lw_privs_1, lw_okq q := List.forall_mem_cons.mpr ⟨lw_p0, List.forall_mem_cons.mpr ⟨lw_p1, List.forall_mem_cons.mpr ⟨lw_p2, List.forall_mem_cons.mpr ⟨lw_p3, List.forall_mem_cons.mpr ⟨lw_p4, List.forall_mem_cons.mpr ⟨lw_p5, List.forall_mem_cons.mpr ⟨lw_p6, List.forall_mem_cons.mpr ⟨lw_p7, List.forall_mem_cons.mpr ⟨lw_p8, List.forall_mem_cons.mpr ⟨lw_p9, List.forall_mem_cons.mpr ⟨lw_p10, List.forall_mem_cons.mpr ⟨lw_p11, List.forall_mem_cons.mpr ⟨lw_p12, List.forall_mem_cons.mpr ⟨lw_p13, List.forall_mem_cons.mpr ⟨lw_p14, List.forall_mem_cons.mpr ⟨lw_p15, fun _ h => absurd h List.not_mem_nil⟩⟩⟩⟩⟩⟩⟩⟩⟩⟩⟩⟩⟩⟩⟩⟩
theorem lw_p16 : lw_okq (⟨"ShireWaysModel", "look", "(I)V"⟩, 23) := ⟨⟨by decide +kernel, by decide +kernel⟩, List.mem_of_getElem? (i := 529) (by decide +kernel), List.mem_of_getElem? (i := 671) (by decide +kernel), List.mem_of_getElem? (i := 672) (by decide +kernel)⟩
theorem lw_p17 : lw_okq (⟨"ShireWaysModel", "get", "(II)I"⟩, 23) := ⟨⟨by decide +kernel, by decide +kernel⟩, List.mem_of_getElem? (i := 529) (by decide +kernel), List.mem_of_getElem? (i := 675) (by decide +kernel), List.mem_of_getElem? (i := 676) (by decide +kernel)⟩
theorem lw_p18 : lw_okq (⟨"ShireWaysModel", "noAs", "(I)Z"⟩, 23) := ⟨⟨by decide +kernel, by decide +kernel⟩, List.mem_of_getElem? (i := 529) (by decide +kernel), List.mem_of_getElem? (i := 697) (by decide +kernel), List.mem_of_getElem? (i := 698) (by decide +kernel)⟩
theorem lw_p19 : lw_okq (⟨"ShireWaysModel", "no", "(IIII)I"⟩, 23) := ⟨⟨by decide +kernel, by decide +kernel⟩, List.mem_of_getElem? (i := 529) (by decide +kernel), List.mem_of_getElem? (i := 705) (by decide +kernel), List.mem_of_getElem? (i := 706) (by decide +kernel)⟩
theorem lw_p20 : lw_okq (⟨"ShireWaysModel", "walks", "(II)V"⟩, 23) := ⟨⟨by decide +kernel, by decide +kernel⟩, List.mem_of_getElem? (i := 529) (by decide +kernel), List.mem_of_getElem? (i := 709) (by decide +kernel), List.mem_of_getElem? (i := 710) (by decide +kernel)⟩
theorem lw_p21 : lw_okq (⟨"ShireWaysModel", "spans", "(I)V"⟩, 23) := ⟨⟨by decide +kernel, by decide +kernel⟩, List.mem_of_getElem? (i := 529) (by decide +kernel), List.mem_of_getElem? (i := 720) (by decide +kernel), List.mem_of_getElem? (i := 721) (by decide +kernel)⟩
theorem lw_p22 : lw_okq (⟨"ShireWaysModel", "breaks", "(I)V"⟩, 23) := ⟨⟨by decide +kernel, by decide +kernel⟩, List.mem_of_getElem? (i := 529) (by decide +kernel), List.mem_of_getElem? (i := 724) (by decide +kernel), List.mem_of_getElem? (i := 725) (by decide +kernel)⟩
theorem lw_p23 : lw_okq (⟨"ShireWaysModel", "few", "(I)I"⟩, 23) := ⟨⟨by decide +kernel, by decide +kernel⟩, List.mem_of_getElem? (i := 529) (by decide +kernel), List.mem_of_getElem? (i := 728) (by decide +kernel), List.mem_of_getElem? (i := 729) (by decide +kernel)⟩
theorem lw_p24 : lw_okq (⟨"ShireWaysModel", "papersOf", "(II)I"⟩, 23) := ⟨⟨by decide +kernel, by decide +kernel⟩, List.mem_of_getElem? (i := 529) (by decide +kernel), List.mem_of_getElem? (i := 740) (by decide +kernel), List.mem_of_getElem? (i := 741) (by decide +kernel)⟩
theorem lw_p25 : lw_okq (⟨"ShireWaysModel", "prepare", "(I)V"⟩, 23) := ⟨⟨by decide +kernel, by decide +kernel⟩, List.mem_of_getElem? (i := 529) (by decide +kernel), List.mem_of_getElem? (i := 748) (by decide +kernel), List.mem_of_getElem? (i := 749) (by decide +kernel)⟩
theorem lw_p26 : lw_okq (⟨"ShireWaysModel", "isAhead", "(II)Z"⟩, 23) := ⟨⟨by decide +kernel, by decide +kernel⟩, List.mem_of_getElem? (i := 529) (by decide +kernel), List.mem_of_getElem? (i := 752) (by decide +kernel), List.mem_of_getElem? (i := 753) (by decide +kernel)⟩
theorem lw_p27 : lw_okq (⟨"ShireWaysModel", "forceOf", "(III)I"⟩, 23) := ⟨⟨by decide +kernel, by decide +kernel⟩, List.mem_of_getElem? (i := 529) (by decide +kernel), List.mem_of_getElem? (i := 756) (by decide +kernel), List.mem_of_getElem? (i := 757) (by decide +kernel)⟩
theorem lw_p28 : lw_okq (⟨"ShireWaysModel", "goodOf", "(I)Z"⟩, 23) := ⟨⟨by decide +kernel, by decide +kernel⟩, List.mem_of_getElem? (i := 529) (by decide +kernel), List.mem_of_getElem? (i := 772) (by decide +kernel), List.mem_of_getElem? (i := 773) (by decide +kernel)⟩
theorem lw_p29 : lw_okq (⟨"ShireWaysModel", "forceAs", "(IIII)I"⟩, 23) := ⟨⟨by decide +kernel, by decide +kernel⟩, List.mem_of_getElem? (i := 529) (by decide +kernel), List.mem_of_getElem? (i := 780) (by decide +kernel), List.mem_of_getElem? (i := 781) (by decide +kernel)⟩
theorem lw_p30 : lw_okq (⟨"ShireWaysModel", "leansOn", "(IIIIII)Z"⟩, 23) := ⟨⟨by decide +kernel, by decide +kernel⟩, List.mem_of_getElem? (i := 529) (by decide +kernel), List.mem_of_getElem? (i := 784) (by decide +kernel), List.mem_of_getElem? (i := 785) (by decide +kernel)⟩
theorem lw_p31 : lw_okq (⟨"ShireWaysModel", "noWalk", "(IIIII)I"⟩, 23) := ⟨⟨by decide +kernel, by decide +kernel⟩, List.mem_of_getElem? (i := 529) (by decide +kernel), List.mem_of_getElem? (i := 796) (by decide +kernel), List.mem_of_getElem? (i := 797) (by decide +kernel)⟩
def lw_privs_2 : List (MethodName × Nat) := [(⟨"ShireWaysModel", "look", "(I)V"⟩, 23), (⟨"ShireWaysModel", "get", "(II)I"⟩, 23), (⟨"ShireWaysModel", "noAs", "(I)Z"⟩, 23), (⟨"ShireWaysModel", "no", "(IIII)I"⟩, 23), (⟨"ShireWaysModel", "walks", "(II)V"⟩, 23), (⟨"ShireWaysModel", "spans", "(I)V"⟩, 23), (⟨"ShireWaysModel", "breaks", "(I)V"⟩, 23), (⟨"ShireWaysModel", "few", "(I)I"⟩, 23), (⟨"ShireWaysModel", "papersOf", "(II)I"⟩, 23), (⟨"ShireWaysModel", "prepare", "(I)V"⟩, 23), (⟨"ShireWaysModel", "isAhead", "(II)Z"⟩, 23), (⟨"ShireWaysModel", "forceOf", "(III)I"⟩, 23), (⟨"ShireWaysModel", "goodOf", "(I)Z"⟩, 23), (⟨"ShireWaysModel", "forceAs", "(IIII)I"⟩, 23), (⟨"ShireWaysModel", "leansOn", "(IIIIII)Z"⟩, 23), (⟨"ShireWaysModel", "noWalk", "(IIIII)I"⟩, 23)]
theorem lw_r2 : ∀ q ∈ lw_privs_2, lw_okq q := List.forall_mem_cons.mpr ⟨lw_p16, List.forall_mem_cons.mpr ⟨lw_p17, List.forall_mem_cons.mpr ⟨lw_p18, List.forall_mem_cons.mpr ⟨lw_p19, List.forall_mem_cons.mpr ⟨lw_p20, List.forall_mem_cons.mpr ⟨lw_p21, List.forall_mem_cons.mpr ⟨lw_p22, List.forall_mem_cons.mpr ⟨lw_p23, List.forall_mem_cons.mpr ⟨lw_p24, List.forall_mem_cons.mpr ⟨lw_p25, List.forall_mem_cons.mpr ⟨lw_p26, List.forall_mem_cons.mpr ⟨lw_p27, List.forall_mem_cons.mpr ⟨lw_p28, List.forall_mem_cons.mpr ⟨lw_p29, List.forall_mem_cons.mpr ⟨lw_p30, List.forall_mem_cons.mpr ⟨lw_p31, fun _ h => absurd h List.not_mem_nil⟩⟩⟩⟩⟩⟩⟩⟩⟩⟩⟩⟩⟩⟩⟩⟩
theorem lw_p32 : lw_okq (⟨"ShireWaysModel", "spread", "(IIII)V"⟩, 23) := ⟨⟨by decide +kernel, by decide +kernel⟩, List.mem_of_getElem? (i := 529) (by decide +kernel), List.mem_of_getElem? (i := 800) (by decide +kernel), List.mem_of_getElem? (i := 801) (by decide +kernel)⟩
def lw_privs_3 : List (MethodName × Nat) := [(⟨"ShireWaysModel", "spread", "(IIII)V"⟩, 23)]
theorem lw_r3 : ∀ q ∈ lw_privs_3, lw_okq q := List.forall_mem_cons.mpr ⟨lw_p32, fun _ h => absurd h List.not_mem_nil⟩
def lw_privs : List (MethodName × Nat) := lw_privs_1 ++ (lw_privs_2 ++ (lw_privs_3))
def lw_tbl : List Cond := k2_sels lw_privs ++ tables_1
theorem lw_privs_ok : ∀ q ∈ lw_privs, lw_okq q := by
  show ∀ q ∈ lw_privs_1 ++ (lw_privs_2 ++ (lw_privs_3)), lw_okq q
  exact List.forall_mem_append.mpr ⟨lw_r1, List.forall_mem_append.mpr ⟨lw_r2, lw_r3⟩⟩
def RX0 : String := "ShireWays$Book"
def TX0 : u_T := fun k => match k with
  | 0 => ("ShireWays$Book", "told", "[I", true)
  | 1 => ("ShireWays$Book", "strikes", "[I", true)
  | 2 => ("ShireWays$Book", "size", "I", false)
  | 3 => ("ShireWays$Book", "orders", "I", false)
  | _ => ("ShireWays$Book", "struck", "I", false)
def tyX0 : Nat → FieldType := fun k => match k with
  | 0 => .array .int
  | 1 => .array .int
  | 2 => .int
  | 3 => .int
  | _ => .int
theorem nmX0 : ∀ a, a < 5 → ∀ b, b < 5 → a ≠ b → (TX0 a).2.1 ≠ (TX0 b).2.1 := by decide +kernel
theorem tyX0_ok : ∀ k, k < 5 → parseFieldDescriptor (TX0 k).2.2.1 = some (tyX0 k) := by decide +kernel
abbrev cX0_init : ByteArray := prog_2_method_1_code
def yX0_init : MethodName := ⟨RX0, "<init>", "()V"⟩
abbrev cX0_has : ByteArray := prog_2_method_2_code
def yX0_has : MethodName := ⟨RX0, "has", "(I)Z"⟩
abbrev cX0_hasAs : ByteArray := prog_2_method_3_code
def yX0_hasAs : MethodName := ⟨RX0, "hasAs", "(I)Z"⟩
abbrev cX0_lastOf : ByteArray := prog_2_method_4_code
def yX0_lastOf : MethodName := ⟨RX0, "lastOf", "(I)I"⟩
abbrev cX0_add : ByteArray := prog_2_method_5_code
def yX0_add : MethodName := ⟨RX0, "add", "(I)I"⟩
abbrev cX0_addStrike : ByteArray := prog_2_method_6_code
def yX0_addStrike : MethodName := ⟨RX0, "addStrike", "(I)I"⟩
abbrev cX0_tell : ByteArray := prog_2_method_7_code
def yX0_tell : MethodName := ⟨RX0, "tell", "(III)V"⟩
abbrev cX0_read : ByteArray := prog_2_method_8_code
def yX0_read : MethodName := ⟨RX0, "read", "(II)I"⟩
abbrev cX0_strikeOn : ByteArray := prog_2_method_9_code
def yX0_strikeOn : MethodName := ⟨RX0, "strikeOn", "(I)I"⟩
abbrev cX0_isCounted : ByteArray := prog_2_method_10_code
def yX0_isCounted : MethodName := ⟨RX0, "isCounted", "(III)Z"⟩
abbrev cX0_bearsOn : ByteArray := prog_2_method_11_code
def yX0_bearsOn : MethodName := ⟨RX0, "bearsOn", "(II)Z"⟩
def RX1 : String := "ShireWays$Leaning"
def TX1 : u_T := fun k => match k with
  | 0 => ("ShireWays$Leaning", "book", "LShireWays$Book;", true)
  | 1 => ("ShireWays$Leaning", "whole", "LShireWays$Sight;", true)
  | 2 => ("ShireWays$Leaning", "lessened", "LShireWays$Sight;", true)
  | 3 => ("ShireWays$Leaning", "pages", "[I", true)
  | 4 => ("ShireWays$Leaning", "size", "I", false)
  | 5 => ("ShireWays$Leaning", "way", "I", false)
  | 6 => ("ShireWays$Leaning", "kind", "I", false)
  | 7 => ("ShireWays$Leaning", "year", "I", false)
  | _ => ("ShireWays$Leaning", "last", "I", false)
def tyX1 : Nat → FieldType := fun k => match k with
  | 0 => .object "ShireWays$Book"
  | 1 => .object "ShireWays$Sight"
  | 2 => .object "ShireWays$Sight"
  | 3 => .array .int
  | 4 => .int
  | 5 => .int
  | 6 => .int
  | 7 => .int
  | _ => .int
theorem nmX1 : ∀ a, a < 9 → ∀ b, b < 9 → a ≠ b → (TX1 a).2.1 ≠ (TX1 b).2.1 := by decide +kernel
theorem tyX1_ok : ∀ k, k < 9 → parseFieldDescriptor (TX1 k).2.2.1 = some (tyX1 k) := by decide +kernel
abbrev cX1_init : ByteArray := prog_3_method_1_code
def yX1_init : MethodName := ⟨RX1, "<init>", "(LShireWays$Book;LShireWays$Sight;)V"⟩
abbrev cX1_isOn : ByteArray := prog_3_method_2_code
def yX1_isOn : MethodName := ⟨RX1, "isOn", "(IIIII)Z"⟩
abbrev cX1_find : ByteArray := prog_3_method_3_code
def yX1_find : MethodName := ⟨RX1, "find", "(IIII)V"⟩
abbrev cX1_isNear : ByteArray := prog_3_method_4_code
def yX1_isNear : MethodName := ⟨RX1, "isNear", "(III)Z"⟩
abbrev cX1_pageAt : ByteArray := prog_3_method_5_code
def yX1_pageAt : MethodName := ⟨RX1, "pageAt", "(I)I"⟩
def RX2 : String := "ShireWays$Roads"
def TX2 : u_T := fun k => match k with
  | 0 => ("ShireWays$Roads", "starts", "[I", true)
  | 1 => ("ShireWays$Roads", "ends", "[I", true)
  | 2 => ("ShireWays$Roads", "opened", "[I", true)
  | 3 => ("ShireWays$Roads", "far", "[I", true)
  | _ => ("ShireWays$Roads", "size", "I", false)
def tyX2 : Nat → FieldType := fun k => match k with
  | 0 => .array .int
  | 1 => .array .int
  | 2 => .array .int
  | 3 => .array .int
  | _ => .int
theorem nmX2 : ∀ a, a < 5 → ∀ b, b < 5 → a ≠ b → (TX2 a).2.1 ≠ (TX2 b).2.1 := by decide +kernel
theorem tyX2_ok : ∀ k, k < 5 → parseFieldDescriptor (TX2 k).2.2.1 = some (tyX2 k) := by decide +kernel
abbrev cX2_init : ByteArray := prog_4_method_1_code
def yX2_init : MethodName := ⟨RX2, "<init>", "()V"⟩
abbrev cX2_has : ByteArray := prog_4_method_2_code
def yX2_has : MethodName := ⟨RX2, "has", "(I)Z"⟩
abbrev cX2_add : ByteArray := prog_4_method_3_code
def yX2_add : MethodName := ⟨RX2, "add", "(II)I"⟩
abbrev cX2_open : ByteArray := prog_4_method_4_code
def yX2_open : MethodName := ⟨RX2, "open", "(IZ)V"⟩
abbrev cX2_measureFrom : ByteArray := prog_4_method_5_code
def yX2_measureFrom : MethodName := ⟨RX2, "measureFrom", "(I)V"⟩
abbrev cX2_goOn : ByteArray := prog_4_method_6_code
def yX2_goOn : MethodName := ⟨RX2, "goOn", "(III)V"⟩
abbrev cX2_farOf : ByteArray := prog_4_method_7_code
def yX2_farOf : MethodName := ⟨RX2, "farOf", "(I)I"⟩
abbrev cX2_wayNearer : ByteArray := prog_4_method_8_code
def yX2_wayNearer : MethodName := ⟨RX2, "wayNearer", "(I)I"⟩
abbrev cX2_comeTo : ByteArray := prog_4_method_9_code
def yX2_comeTo : MethodName := ⟨RX2, "comeTo", "()I"⟩
def RX3 : String := "ShireWays$Sight"
def TX3 : u_T := fun k => match k with
  | 0 => ("ShireWays$Sight", "book", "LShireWays$Book;", true)
  | 1 => ("ShireWays$Sight", "spans", "LShireWays$Spans;", true)
  | 2 => ("ShireWays$Sight", "weights", "[I", true)
  | 3 => ("ShireWays$Sight", "orders", "[I", true)
  | 4 => ("ShireWays$Sight", "goods", "[I", true)
  | 5 => ("ShireWays$Sight", "orderCount", "I", false)
  | 6 => ("ShireWays$Sight", "goodCount", "I", false)
  | 7 => ("ShireWays$Sight", "weightNeeded", "I", false)
  | 8 => ("ShireWays$Sight", "way", "I", false)
  | 9 => ("ShireWays$Sight", "last", "I", false)
  | _ => ("ShireWays$Sight", "without", "I", false)
def tyX3 : Nat → FieldType := fun k => match k with
  | 0 => .object "ShireWays$Book"
  | 1 => .object "ShireWays$Spans"
  | 2 => .array .int
  | 3 => .array .int
  | 4 => .array .int
  | 5 => .int
  | 6 => .int
  | 7 => .int
  | 8 => .int
  | 9 => .int
  | _ => .int
theorem nmX3 : ∀ a, a < 11 → ∀ b, b < 11 → a ≠ b → (TX3 a).2.1 ≠ (TX3 b).2.1 := by decide +kernel
theorem tyX3_ok : ∀ k, k < 11 → parseFieldDescriptor (TX3 k).2.2.1 = some (tyX3 k) := by decide +kernel
abbrev cX3_init : ByteArray := prog_5_method_1_code
def yX3_init : MethodName := ⟨RX3, "<init>", "(LShireWays$Book;)V"⟩
abbrev cX3_look : ByteArray := prog_5_method_2_code
def yX3_look : MethodName := ⟨RX3, "look", "(III)V"⟩
abbrev cX3_take : ByteArray := prog_5_method_3_code
def yX3_take : MethodName := ⟨RX3, "take", "(I)V"⟩
abbrev cX3_insertOrder : ByteArray := prog_5_method_4_code
def yX3_insertOrder : MethodName := ⟨RX3, "insertOrder", "(II)V"⟩
abbrev cX3_rule : ByteArray := prog_5_method_5_code
def yX3_rule : MethodName := ⟨RX3, "rule", "(I)V"⟩
abbrev cX3_judge : ByteArray := prog_5_method_6_code
def yX3_judge : MethodName := ⟨RX3, "judge", "()V"⟩
abbrev cX3_hasGood : ByteArray := prog_5_method_7_code
def yX3_hasGood : MethodName := ⟨RX3, "hasGood", "(I)Z"⟩
abbrev cX3_weightOf : ByteArray := prog_5_method_8_code
def yX3_weightOf : MethodName := ⟨RX3, "weightOf", "(I)I"⟩
abbrev cX3_ground : ByteArray := prog_5_method_9_code
def yX3_ground : MethodName := ⟨RX3, "ground", "(II)I"⟩
abbrev cX3_latestGood : ByteArray := prog_5_method_10_code
def yX3_latestGood : MethodName := ⟨RX3, "latestGood", "(I)I"⟩
def RX4 : String := "ShireWays$Spans"
def TX4 : u_T := fun k => match k with
  | 0 => ("ShireWays$Spans", "went", "[I", true)
  | 1 => ("ShireWays$Spans", "lacks", "[I", true)
  | 2 => ("ShireWays$Spans", "ends", "[I", true)
  | 3 => ("ShireWays$Spans", "reckoned", "[I", true)
  | 4 => ("ShireWays$Spans", "breaks", "[I", true)
  | 5 => ("ShireWays$Spans", "needs", "I", false)
  | 6 => ("ShireWays$Spans", "persons", "I", false)
  | _ => ("ShireWays$Spans", "gaps", "I", false)
def tyX4 : Nat → FieldType := fun k => match k with
  | 0 => .array .int
  | 1 => .array .int
  | 2 => .array .int
  | 3 => .array .int
  | 4 => .array .int
  | 5 => .int
  | 6 => .int
  | _ => .int
theorem nmX4 : ∀ a, a < 8 → ∀ b, b < 8 → a ≠ b → (TX4 a).2.1 ≠ (TX4 b).2.1 := by decide +kernel
theorem tyX4_ok : ∀ k, k < 8 → parseFieldDescriptor (TX4 k).2.2.1 = some (tyX4 k) := by decide +kernel
abbrev cX4_init : ByteArray := prog_6_method_1_code
def yX4_init : MethodName := ⟨RX4, "<init>", "()V"⟩
abbrev cX4_clear : ByteArray := prog_6_method_2_code
def yX4_clear : MethodName := ⟨RX4, "clear", "()V"⟩
abbrev cX4_rule : ByteArray := prog_6_method_3_code
def yX4_rule : MethodName := ⟨RX4, "rule", "(III)V"⟩
abbrev cX4_addWalk : ByteArray := prog_6_method_4_code
def yX4_addWalk : MethodName := ⟨RX4, "addWalk", "(IIII)V"⟩
abbrev cX4_addBreak : ByteArray := prog_6_method_5_code
def yX4_addBreak : MethodName := ⟨RX4, "addBreak", "(I)V"⟩
abbrev cX4_personsIn : ByteArray := prog_6_method_6_code
def yX4_personsIn : MethodName := ⟨RX4, "personsIn", "(II)I"⟩
abbrev cX4_reckon : ByteArray := prog_6_method_7_code
def yX4_reckon : MethodName := ⟨RX4, "reckon", "(I)V"⟩
abbrev cX4_fewIn : ByteArray := prog_6_method_8_code
def yX4_fewIn : MethodName := ⟨RX4, "fewIn", "(II)I"⟩
abbrev cX4_latestEnd : ByteArray := prog_6_method_9_code
def yX4_latestEnd : MethodName := ⟨RX4, "latestEnd", "(II)I"⟩
abbrev cX4_beginOf : ByteArray := prog_6_method_10_code
def yX4_beginOf : MethodName := ⟨RX4, "beginOf", "(I)I"⟩
def RX5 : String := "ShireWays"
def TX5 : u_T := fun k => match k with
  | 0 => ("ShireWays", "book", "LShireWays$Book;", true)
  | 1 => ("ShireWays", "roads", "LShireWays$Roads;", true)
  | 2 => ("ShireWays", "sight", "LShireWays$Sight;", true)
  | _ => ("ShireWays", "leaning", "LShireWays$Leaning;", true)
def tyX5 : Nat → FieldType := fun k => match k with
  | 0 => .object "ShireWays$Book"
  | 1 => .object "ShireWays$Roads"
  | 2 => .object "ShireWays$Sight"
  | _ => .object "ShireWays$Leaning"
theorem nmX5 : ∀ a, a < 4 → ∀ b, b < 4 → a ≠ b → (TX5 a).2.1 ≠ (TX5 b).2.1 := by decide +kernel
theorem tyX5_ok : ∀ k, k < 4 → parseFieldDescriptor (TX5 k).2.2.1 = some (tyX5 k) := by decide +kernel
abbrev cX5_init : ByteArray := prog_1_method_1_code
def yX5_init : MethodName := ⟨RX5, "<init>", "()V"⟩
abbrev cX5_way : ByteArray := prog_1_method_2_code
def yX5_way : MethodName := ⟨RX5, "way", "(II)I"⟩
abbrev cX5_walk : ByteArray := prog_1_method_3_code
def yX5_walk : MethodName := ⟨RX5, "walk", "(IIIII)I"⟩
abbrev cX5_paper : ByteArray := prog_1_method_4_code
def yX5_paper : MethodName := ⟨RX5, "paper", "(III)I"⟩
abbrev cX5_broke : ByteArray := prog_1_method_5_code
def yX5_broke : MethodName := ⟨RX5, "broke", "(II)I"⟩
abbrev cX5_stop : ByteArray := prog_1_method_6_code
def yX5_stop : MethodName := ⟨RX5, "stop", "(III)I"⟩
abbrev cX5_make : ByteArray := prog_1_method_7_code
def yX5_make : MethodName := ⟨RX5, "make", "(IIII)I"⟩
abbrev cX5_strike : ByteArray := prog_1_method_8_code
def yX5_strike : MethodName := ⟨RX5, "strike", "(I)I"⟩
abbrev cX5_statute : ByteArray := prog_1_method_9_code
def yX5_statute : MethodName := ⟨RX5, "statute", "(IIII)I"⟩
abbrev cX5_page : ByteArray := prog_1_method_10_code
def yX5_page : MethodName := ⟨RX5, "page", "(III)I"⟩
abbrev cX5_counts : ByteArray := prog_1_method_11_code
def yX5_counts : MethodName := ⟨RX5, "counts", "(II)I"⟩
abbrev cX5_persons : ByteArray := prog_1_method_12_code
def yX5_persons : MethodName := ⟨RX5, "persons", "(IIII)I"⟩
abbrev cX5_holds : ByteArray := prog_1_method_13_code
def yX5_holds : MethodName := ⟨RX5, "holds", "(IIII)I"⟩
abbrev cX5_lacking : ByteArray := prog_1_method_14_code
def yX5_lacking : MethodName := ⟨RX5, "lacking", "(IIII)I"⟩
abbrev cX5_papers : ByteArray := prog_1_method_15_code
def yX5_papers : MethodName := ⟨RX5, "papers", "(III)I"⟩
abbrev cX5_force : ByteArray := prog_1_method_16_code
def yX5_force : MethodName := ⟨RX5, "force", "(IIII)I"⟩
abbrev cX5_most : ByteArray := prog_1_method_17_code
def yX5_most : MethodName := ⟨RX5, "most", "(III)I"⟩
abbrev cX5_since : ByteArray := prog_1_method_18_code
def yX5_since : MethodName := ⟨RX5, "since", "(III)I"⟩
abbrev cX5_good : ByteArray := prog_1_method_19_code
def yX5_good : MethodName := ⟨RX5, "good", "(II)I"⟩
abbrev cX5_leans : ByteArray := prog_1_method_20_code
def yX5_leans : MethodName := ⟨RX5, "leans", "(IIIII)I"⟩
abbrev cX5_lean : ByteArray := prog_1_method_21_code
def yX5_lean : MethodName := ⟨RX5, "lean", "(IIIII)I"⟩
abbrev cX5_steps : ByteArray := prog_1_method_22_code
def yX5_steps : MethodName := ⟨RX5, "steps", "(IIIII)I"⟩
abbrev cX5_first : ByteArray := prog_1_method_23_code
def yX5_first : MethodName := ⟨RX5, "first", "(IIIII)I"⟩
abbrev cX5_reach : ByteArray := prog_1_method_24_code
def yX5_reach : MethodName := ⟨RX5, "reach", "(IIII)I"⟩
abbrev cX5_total : ByteArray := prog_1_method_25_code
def yX5_total : MethodName := ⟨RX5, "total", "(I)I"⟩
abbrev cX5_refusalOf : ByteArray := prog_1_method_26_code
def yX5_refusalOf : MethodName := ⟨RX5, "refusalOf", "(IIII)I"⟩
abbrev cX5_refusalFrom : ByteArray := prog_1_method_27_code
def yX5_refusalFrom : MethodName := ⟨RX5, "refusalFrom", "(IIII)I"⟩
abbrev cX5_measure : ByteArray := prog_1_method_28_code
def yX5_measure : MethodName := ⟨RX5, "measure", "(IIII)V"⟩
abbrev cX5_goodOrders : ByteArray := prog_1_method_29_code
def yX5_goodOrders : MethodName := ⟨RX5, "goodOrders", "()I"⟩
abbrev cX5_isWithin : ByteArray := prog_1_method_30_code
def yX5_isWithin : MethodName := ⟨RX5, "isWithin", "(III)Z"⟩
abbrev cX5_isPlace : ByteArray := prog_1_method_31_code
def yX5_isPlace : MethodName := ⟨RX5, "isPlace", "(I)Z"⟩
abbrev cX5_isKind : ByteArray := prog_1_method_32_code
def yX5_isKind : MethodName := ⟨RX5, "isKind", "(I)Z"⟩
abbrev cX5_isYear : ByteArray := prog_1_method_33_code
def yX5_isYear : MethodName := ⟨RX5, "isYear", "(I)Z"⟩
abbrev cX5_isOrder : ByteArray := prog_1_method_34_code
def yX5_isOrder : MethodName := ⟨RX5, "isOrder", "(I)Z"⟩
abbrev cX5_isTakenAs : ByteArray := prog_1_method_35_code
def yX5_isTakenAs : MethodName := ⟨RX5, "isTakenAs", "(II)Z"⟩
abbrev cX5_yes : ByteArray := prog_1_method_36_code
def yX5_yes : MethodName := ⟨RX5, "yes", "(Z)I"⟩
abbrev cX5_at : ByteArray := prog_1_method_37_code
def yX5_at : MethodName := ⟨RX5, "at", "([II)I"⟩
abbrev cX5_put : ByteArray := prog_1_method_38_code
def yX5_put : MethodName := ⟨RX5, "put", "([III)V"⟩
def RX6 : String := "ShireWaysModel"
def TX6 : u_T := fun k => match k with
  | 0 => ("ShireWaysModel", "thrown", "I", false)
  | 1 => ("ShireWaysModel", "ways", "I", false)
  | 2 => ("ShireWaysModel", "one", "[I", true)
  | 3 => ("ShireWaysModel", "two", "[I", true)
  | 4 => ("ShireWaysModel", "pages", "I", false)
  | 5 => ("ShireWaysModel", "orders", "I", false)
  | 6 => ("ShireWaysModel", "sort", "[I", true)
  | 7 => ("ShireWaysModel", "told", "[I", true)
  | 8 => ("ShireWaysModel", "last", "I", false)
  | 9 => ("ShireWaysModel", "without", "I", false)
  | 10 => ("ShireWaysModel", "isIn", "[Z", true)
  | 11 => ("ShireWaysModel", "needs", "I", false)
  | 12 => ("ShireWaysModel", "persons", "I", false)
  | 13 => ("ShireWaysModel", "gaps", "I", false)
  | 14 => ("ShireWaysModel", "weight", "I", false)
  | 15 => ("ShireWaysModel", "seen", "[I", true)
  | 16 => ("ShireWaysModel", "fewAhead", "[I", true)
  | 17 => ("ShireWaysModel", "brokenAhead", "[I", true)
  | 18 => ("ShireWaysModel", "holds", "[Z", true)
  | 19 => ("ShireWaysModel", "many", "I", false)
  | 20 => ("ShireWaysModel", "order", "[I", true)
  | 21 => ("ShireWaysModel", "isGood", "[Z", true)
  | _ => ("ShireWaysModel", "far", "[I", true)
def tyX6 : Nat → FieldType := fun k => match k with
  | 0 => .int
  | 1 => .int
  | 2 => .array .int
  | 3 => .array .int
  | 4 => .int
  | 5 => .int
  | 6 => .array .int
  | 7 => .array .int
  | 8 => .int
  | 9 => .int
  | 10 => .array .boolean
  | 11 => .int
  | 12 => .int
  | 13 => .int
  | 14 => .int
  | 15 => .array .int
  | 16 => .array .int
  | 17 => .array .int
  | 18 => .array .boolean
  | 19 => .int
  | 20 => .array .int
  | 21 => .array .boolean
  | _ => .array .int
theorem nmX6 : ∀ a, a < 23 → ∀ b, b < 23 → a ≠ b → (TX6 a).2.1 ≠ (TX6 b).2.1 := by decide +kernel
theorem tyX6_ok : ∀ k, k < 23 → parseFieldDescriptor (TX6 k).2.2.1 = some (tyX6 k) := by decide +kernel
abbrev cX6_init : ByteArray := prog_8_method_1_code
def yX6_init : MethodName := ⟨RX6, "<init>", "()V"⟩
abbrev cX6_in : ByteArray := prog_8_method_3_code
def yX6_in : MethodName := ⟨RX6, "in", "(JJJ)Z"⟩
abbrev cX6_noWay : ByteArray := prog_8_method_4_code
def yX6_noWay : MethodName := ⟨RX6, "noWay", "(I)Z"⟩
abbrev cX6_noPage : ByteArray := prog_8_method_5_code
def yX6_noPage : MethodName := ⟨RX6, "noPage", "(I)Z"⟩
abbrev cX6_noAs : ByteArray := prog_8_method_6_code
def yX6_noAs : MethodName := ⟨RX6, "noAs", "(I)Z"⟩
abbrev cX6_noPlace : ByteArray := prog_8_method_7_code
def yX6_noPlace : MethodName := ⟨RX6, "noPlace", "(I)Z"⟩
abbrev cX6_noKind : ByteArray := prog_8_method_8_code
def yX6_noKind : MethodName := ⟨RX6, "noKind", "(I)Z"⟩
abbrev cX6_noYear : ByteArray := prog_8_method_9_code
def yX6_noYear : MethodName := ⟨RX6, "noYear", "(I)Z"⟩
abbrev cX6_get : ByteArray := prog_8_method_10_code
def yX6_get : MethodName := ⟨RX6, "get", "(II)I"⟩
abbrev cX6_look : ByteArray := prog_8_method_11_code
def yX6_look : MethodName := ⟨RX6, "look", "(I)V"⟩
abbrev cX6_bits : ByteArray := prog_8_method_12_code
def yX6_bits : MethodName := ⟨RX6, "bits", "(I)I"⟩
abbrev cX6_walks : ByteArray := prog_8_method_13_code
def yX6_walks : MethodName := ⟨RX6, "walks", "(II)V"⟩
abbrev cX6_breaks : ByteArray := prog_8_method_14_code
def yX6_breaks : MethodName := ⟨RX6, "breaks", "(I)V"⟩
abbrev cX6_few : ByteArray := prog_8_method_15_code
def yX6_few : MethodName := ⟨RX6, "few", "(I)I"⟩
abbrev cX6_spans : ByteArray := prog_8_method_16_code
def yX6_spans : MethodName := ⟨RX6, "spans", "(I)V"⟩
abbrev cX6_papersOf : ByteArray := prog_8_method_17_code
def yX6_papersOf : MethodName := ⟨RX6, "papersOf", "(II)I"⟩
abbrev cX6_isAhead : ByteArray := prog_8_method_18_code
def yX6_isAhead : MethodName := ⟨RX6, "isAhead", "(II)Z"⟩
abbrev cX6_prepare : ByteArray := prog_8_method_19_code
def yX6_prepare : MethodName := ⟨RX6, "prepare", "(I)V"⟩
abbrev cX6_forceOf : ByteArray := prog_8_method_20_code
def yX6_forceOf : MethodName := ⟨RX6, "forceOf", "(III)I"⟩
abbrev cX6_way : ByteArray := prog_8_method_21_code
def yX6_way : MethodName := ⟨RX6, "way", "(II)I"⟩
abbrev cX6_write : ByteArray := prog_8_method_22_code
def yX6_write : MethodName := ⟨RX6, "write", "(IIII)I"⟩
abbrev cX6_tell : ByteArray := prog_8_method_23_code
def yX6_tell : MethodName := ⟨RX6, "tell", "(II)V"⟩
abbrev cX6_walk : ByteArray := prog_8_method_24_code
def yX6_walk : MethodName := ⟨RX6, "walk", "(IIIII)I"⟩
abbrev cX6_paper : ByteArray := prog_8_method_25_code
def yX6_paper : MethodName := ⟨RX6, "paper", "(III)I"⟩
abbrev cX6_broke : ByteArray := prog_8_method_26_code
def yX6_broke : MethodName := ⟨RX6, "broke", "(II)I"⟩
abbrev cX6_ordered : ByteArray := prog_8_method_27_code
def yX6_ordered : MethodName := ⟨RX6, "ordered", "(IIIII)I"⟩
abbrev cX6_stop : ByteArray := prog_8_method_28_code
def yX6_stop : MethodName := ⟨RX6, "stop", "(III)I"⟩
abbrev cX6_make : ByteArray := prog_8_method_29_code
def yX6_make : MethodName := ⟨RX6, "make", "(IIII)I"⟩
abbrev cX6_strike : ByteArray := prog_8_method_30_code
def yX6_strike : MethodName := ⟨RX6, "strike", "(I)I"⟩
abbrev cX6_statute : ByteArray := prog_8_method_31_code
def yX6_statute : MethodName := ⟨RX6, "statute", "(IIII)I"⟩
abbrev cX6_page : ByteArray := prog_8_method_32_code
def yX6_page : MethodName := ⟨RX6, "page", "(III)I"⟩
abbrev cX6_counts : ByteArray := prog_8_method_33_code
def yX6_counts : MethodName := ⟨RX6, "counts", "(II)I"⟩
abbrev cX6_no : ByteArray := prog_8_method_34_code
def yX6_no : MethodName := ⟨RX6, "no", "(IIII)I"⟩
abbrev cX6_persons : ByteArray := prog_8_method_35_code
def yX6_persons : MethodName := ⟨RX6, "persons", "(IIII)I"⟩
abbrev cX6_holds : ByteArray := prog_8_method_36_code
def yX6_holds : MethodName := ⟨RX6, "holds", "(IIII)I"⟩
abbrev cX6_lacking : ByteArray := prog_8_method_37_code
def yX6_lacking : MethodName := ⟨RX6, "lacking", "(IIII)I"⟩
abbrev cX6_papers : ByteArray := prog_8_method_38_code
def yX6_papers : MethodName := ⟨RX6, "papers", "(III)I"⟩
abbrev cX6_force : ByteArray := prog_8_method_39_code
def yX6_force : MethodName := ⟨RX6, "force", "(IIII)I"⟩
abbrev cX6_most : ByteArray := prog_8_method_40_code
def yX6_most : MethodName := ⟨RX6, "most", "(III)I"⟩
abbrev cX6_since : ByteArray := prog_8_method_41_code
def yX6_since : MethodName := ⟨RX6, "since", "(III)I"⟩
abbrev cX6_goodOf : ByteArray := prog_8_method_42_code
def yX6_goodOf : MethodName := ⟨RX6, "goodOf", "(I)Z"⟩
abbrev cX6_good : ByteArray := prog_8_method_43_code
def yX6_good : MethodName := ⟨RX6, "good", "(II)I"⟩
abbrev cX6_forceAs : ByteArray := prog_8_method_44_code
def yX6_forceAs : MethodName := ⟨RX6, "forceAs", "(IIII)I"⟩
abbrev cX6_leansOn : ByteArray := prog_8_method_45_code
def yX6_leansOn : MethodName := ⟨RX6, "leansOn", "(IIIIII)Z"⟩
abbrev cX6_leans : ByteArray := prog_8_method_46_code
def yX6_leans : MethodName := ⟨RX6, "leans", "(IIIII)I"⟩
abbrev cX6_lean : ByteArray := prog_8_method_47_code
def yX6_lean : MethodName := ⟨RX6, "lean", "(IIIII)I"⟩
abbrev cX6_spread : ByteArray := prog_8_method_48_code
def yX6_spread : MethodName := ⟨RX6, "spread", "(IIII)V"⟩
abbrev cX6_noWalk : ByteArray := prog_8_method_49_code
def yX6_noWalk : MethodName := ⟨RX6, "noWalk", "(IIIII)I"⟩
abbrev cX6_steps : ByteArray := prog_8_method_50_code
def yX6_steps : MethodName := ⟨RX6, "steps", "(IIIII)I"⟩
abbrev cX6_first : ByteArray := prog_8_method_51_code
def yX6_first : MethodName := ⟨RX6, "first", "(IIIII)I"⟩
abbrev cX6_reach : ByteArray := prog_8_method_52_code
def yX6_reach : MethodName := ⟨RX6, "reach", "(IIII)I"⟩
abbrev cX6_total : ByteArray := prog_8_method_53_code
def yX6_total : MethodName := ⟨RX6, "total", "(I)I"⟩
def RJ6 : String := "java/lang/Integer"
abbrev cJ6_bitCount_0f7a4 : ByteArray := prog_9_method_49_code
def yJ6_bitCount_0f7a4 : MethodName := ⟨RJ6, "bitCount", "(I)I"⟩
def RJ7 : String := "java/util/Arrays"
abbrev cJ7_fill_53178 : ByteArray := prog_10_method_103_code
def yJ7_fill_53178 : MethodName := ⟨RJ7, "fill", "([II)V"⟩
def RL : String := "ShireWaysLaw"
abbrev cL_law : ByteArray := code
