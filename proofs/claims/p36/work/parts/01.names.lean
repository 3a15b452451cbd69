-- ===== PART A: goes FIRST, ahead of the names: the tables' words, and 'selects' of the private methods out of them =====
/-- a private method of a class that the tables say can be made, by its rows of tables_1 -/
def lw_okq (q : MethodName × Nat) : Prop := (q.1.cls ≠ "java/lang/invoke/MethodHandle" ∧ q.1.cls ≠ "java/lang/invoke/VarHandle") ∧ Cond.instantiable q.1.cls q.2 ∈ tables_1 ∧ Cond.privateMethod q.1 ∈ tables_1 ∧ Cond.instanceMethod q.1 ∈ tables_1
theorem lw_p0 : lw_okq (⟨"EndowBook", "refuse", "(I)I"⟩, 13) := ⟨⟨by decide +kernel, by decide +kernel⟩, List.mem_of_getElem? (i := 30) (by decide +kernel), List.mem_of_getElem? (i := 28) (by decide +kernel), List.mem_of_getElem? (i := 29) (by decide +kernel)⟩
theorem lw_p1 : lw_okq (⟨"EndowBook", "deedAt", "(I)LEndowBook$Deed;"⟩, 13) := ⟨⟨by decide +kernel, by decide +kernel⟩, List.mem_of_getElem? (i := 30) (by decide +kernel), List.mem_of_getElem? (i := 55) (by decide +kernel), List.mem_of_getElem? (i := 56) (by decide +kernel)⟩
theorem lw_p2 : lw_okq (⟨"EndowBook", "hasDeed", "(I)Z"⟩, 13) := ⟨⟨by decide +kernel, by decide +kernel⟩, List.mem_of_getElem? (i := 30) (by decide +kernel), List.mem_of_getElem? (i := 59) (by decide +kernel), List.mem_of_getElem? (i := 60) (by decide +kernel)⟩
theorem lw_p3 : lw_okq (⟨"EndowBook", "splitNow", "(LEndowBook$Deed;I)V"⟩, 13) := ⟨⟨by decide +kernel, by decide +kernel⟩, List.mem_of_getElem? (i := 30) (by decide +kernel), List.mem_of_getElem? (i := 70) (by decide +kernel), List.mem_of_getElem? (i := 71) (by decide +kernel)⟩
theorem lw_p4 : lw_okq (⟨"EndowBook$Kin", "countLines", "()V"⟩, 10) := ⟨⟨by decide +kernel, by decide +kernel⟩, List.mem_of_getElem? (i := 80) (by decide +kernel), List.mem_of_getElem? (i := 78) (by decide +kernel), List.mem_of_getElem? (i := 79) (by decide +kernel)⟩
theorem lw_p5 : lw_okq (⟨"EndowBook$Split", "clear", "()V"⟩, 6) := ⟨⟨by decide +kernel, by decide +kernel⟩, List.mem_of_getElem? (i := 93) (by decide +kernel), List.mem_of_getElem? (i := 91) (by decide +kernel), List.mem_of_getElem? (i := 92) (by decide +kernel)⟩
theorem lw_p6 : lw_okq (⟨"EndowBook$Split", "judgeTests", "(LEndowBook$Kin;LEndowBook$Deed;II)V"⟩, 6) := ⟨⟨by decide +kernel, by decide +kernel⟩, List.mem_of_getElem? (i := 93) (by decide +kernel), List.mem_of_getElem? (i := 96) (by decide +kernel), List.mem_of_getElem? (i := 97) (by decide +kernel)⟩
theorem lw_p7 : lw_okq (⟨"EndowBook$Split", "payManager", "(LEndowBook$Kin;LEndowBook$Deed;I)I"⟩, 6) := ⟨⟨by decide +kernel, by decide +kernel⟩, List.mem_of_getElem? (i := 93) (by decide +kernel), List.mem_of_getElem? (i := 116) (by decide +kernel), List.mem_of_getElem? (i := 117) (by decide +kernel)⟩
theorem lw_p8 : lw_okq (⟨"EndowBook$Split", "payFixed", "(LEndowBook$Deed;I)I"⟩, 6) := ⟨⟨by decide +kernel, by decide +kernel⟩, List.mem_of_getElem? (i := 93) (by decide +kernel), List.mem_of_getElem? (i := 125) (by decide +kernel), List.mem_of_getElem? (i := 126) (by decide +kernel)⟩
theorem lw_p9 : lw_okq (⟨"EndowBook$Split", "payLine", "(LEndowBook$Kin;LEndowBook$Deed;I)I"⟩, 6) := ⟨⟨by decide +kernel, by decide +kernel⟩, List.mem_of_getElem? (i := 93) (by decide +kernel), List.mem_of_getElem? (i := 132) (by decide +kernel), List.mem_of_getElem? (i := 133) (by decide +kernel)⟩
theorem lw_p10 : lw_okq (⟨"EndowBook$Split", "shareByHeads", "(LEndowBook$Kin;I)V"⟩, 6) := ⟨⟨by decide +kernel, by decide +kernel⟩, List.mem_of_getElem? (i := 93) (by decide +kernel), List.mem_of_getElem? (i := 140) (by decide +kernel), List.mem_of_getElem? (i := 141) (by decide +kernel)⟩
theorem lw_p11 : lw_okq (⟨"EndowBook$Split", "shareByStem", "(LEndowBook$Kin;I)V"⟩, 6) := ⟨⟨by decide +kernel, by decide +kernel⟩, List.mem_of_getElem? (i := 93) (by decide +kernel), List.mem_of_getElem? (i := 144) (by decide +kernel), List.mem_of_getElem? (i := 145) (by decide +kernel)⟩
theorem lw_p12 : lw_okq (⟨"EndowBook", "goBy", "()V"⟩, 13) := ⟨⟨by decide +kernel, by decide +kernel⟩, List.mem_of_getElem? (i := 30) (by decide +kernel), List.mem_of_getElem? (i := 168) (by decide +kernel), List.mem_of_getElem? (i := 169) (by decide +kernel)⟩
theorem lw_p13 : lw_okq (⟨"EndowBook", "payOut", "(LEndowBook$Deed;)V"⟩, 13) := ⟨⟨by decide +kernel, by decide +kernel⟩, List.mem_of_getElem? (i := 30) (by decide +kernel), List.mem_of_getElem? (i := 172) (by decide +kernel), List.mem_of_getElem? (i := 173) (by decide +kernel)⟩
theorem lw_p14 : lw_okq (⟨"EndowBook$Tape", "readEnd", "(LEndowBook$Deed;I)Z"⟩, 4) := ⟨⟨by decide +kernel, by decide +kernel⟩, List.mem_of_getElem? (i := 287) (by decide +kernel), List.mem_of_getElem? (i := 817) (by decide +kernel), List.mem_of_getElem? (i := 818) (by decide +kernel)⟩
theorem lw_p15 : lw_okq (⟨"EndowBook$Tape", "next", "()I"⟩, 4) := ⟨⟨by decide +kernel, by decide +kernel⟩, List.mem_of_getElem? (i := 287) (by decide +kernel), List.mem_of_getElem? (i := 821) (by decide +kernel), List.mem_of_getElem? (i := 822) (by decide +kernel)⟩
def lw_privs_1 : List (MethodName × Nat) := [(⟨"EndowBook", "refuse", "(I)I"⟩, 13), (⟨"EndowBook", "deedAt", "(I)LEndowBook$Deed;"⟩, 13), (⟨"EndowBook", "hasDeed", "(I)Z"⟩, 13), (⟨"EndowBook", "splitNow", "(LEndowBook$Deed;I)V"⟩, 13), (⟨"EndowBook$Kin", "countLines", "()V"⟩, 10), (⟨"EndowBook$Split", "clear", "()V"⟩, 6), (⟨"EndowBook$Split", "judgeTests", "(LEndowBook$Kin;LEndowBook$Deed;II)V"⟩, 6), (⟨"EndowBook$Split", "payManager", "(LEndowBook$Kin;LEndowBook$Deed;I)I"⟩, 6), (⟨"EndowBook$Split", "payFixed", "(LEndowBook$Deed;I)I"⟩, 6), (⟨"EndowBook$Split", "payLine", "(LEndowBook$Kin;LEndowBook$Deed;I)I"⟩, 6), (⟨"EndowBook$Split", "shareByHeads", "(LEndowBook$Kin;I)V"⟩, 6), (⟨"EndowBook$Split", "shareByStem", "(LEndowBook$Kin;I)V"⟩, 6), (⟨"EndowBook", "goBy", "()V"⟩, 13), (⟨"EndowBook", "payOut", "(LEndowBook$Deed;)V"⟩, 13), (⟨"EndowBook$Tape", "readEnd", "(LEndowBook$Deed;I)Z"⟩, 4), (⟨"EndowBook$Tape", "next", "()I"⟩, 4)]
theorem lw_r1 : ∀ q ∈ lw_privs_1, lw_okq q := List.forall_mem_cons.mpr ⟨lw_p0, List.forall_mem_cons.mpr ⟨lw_p1, List.forall_mem_cons.mpr ⟨lw_p2, List.forall_mem_cons.mpr ⟨lw_p3, List.forall_mem_cons.mpr ⟨lw_p4, List.forall_mem_cons.mpr ⟨lw_p5, List.forall_mem_cons.mpr ⟨lw_p6, List.forall_mem_cons.mpr ⟨lw_p7, List.forall_mem_cons.mpr ⟨lw_p8, List.forall_mem_cons.mpr ⟨lw_p9, List.forall_mem_cons.mpr ⟨lw_p10, List.forall_mem_cons.mpr ⟨lw_p11, List.forall_mem_cons.mpr ⟨lw_p12, List.forall_mem_cons.mpr ⟨lw_p13, List.forall_mem_cons.mpr ⟨lw_p14, List.forall_mem_cons.mpr ⟨lw_p15, fun _ h => absurd h List.not_mem_nil⟩⟩⟩⟩⟩⟩⟩⟩⟩⟩⟩⟩⟩⟩⟩⟩
theorem lw_p16 : lw_okq (⟨"EndowBook$Tape", "readFixed", "(LEndowBook$Deed;I)Z"⟩, 4) := ⟨⟨by decide +kernel, by decide +kernel⟩, List.mem_of_getElem? (i := 287) (by decide +kernel), List.mem_of_getElem? (i := 825) (by decide +kernel), List.mem_of_getElem? (i := 826) (by decide +kernel)⟩
theorem lw_p17 : lw_okq (⟨"EndowBook$Tape", "readWord", "(Ljava/lang/String;)Z"⟩, 4) := ⟨⟨by decide +kernel, by decide +kernel⟩, List.mem_of_getElem? (i := 287) (by decide +kernel), List.mem_of_getElem? (i := 830) (by decide +kernel), List.mem_of_getElem? (i := 831) (by decide +kernel)⟩
theorem lw_p18 : lw_okq (⟨"EndowBook$Tape", "readNumber", "(I)Z"⟩, 4) := ⟨⟨by decide +kernel, by decide +kernel⟩, List.mem_of_getElem? (i := 287) (by decide +kernel), List.mem_of_getElem? (i := 836) (by decide +kernel), List.mem_of_getElem? (i := 837) (by decide +kernel)⟩
theorem lw_p19 : lw_okq (⟨"EndowBook$Tape", "readHouse", "(LEndowBook$Deed;I)Z"⟩, 4) := ⟨⟨by decide +kernel, by decide +kernel⟩, List.mem_of_getElem? (i := 287) (by decide +kernel), List.mem_of_getElem? (i := 841) (by decide +kernel), List.mem_of_getElem? (i := 842) (by decide +kernel)⟩
theorem lw_p20 : lw_okq (⟨"EndowBook$Tape", "readTest", "(LEndowBook$Deed;I)Z"⟩, 4) := ⟨⟨by decide +kernel, by decide +kernel⟩, List.mem_of_getElem? (i := 287) (by decide +kernel), List.mem_of_getElem? (i := 845) (by decide +kernel), List.mem_of_getElem? (i := 846) (by decide +kernel)⟩
theorem lw_p21 : lw_okq (⟨"EndowBook$Tape", "readField", "(LEndowBook$Deed;I)Z"⟩, 4) := ⟨⟨by decide +kernel, by decide +kernel⟩, List.mem_of_getElem? (i := 287) (by decide +kernel), List.mem_of_getElem? (i := 850) (by decide +kernel), List.mem_of_getElem? (i := 851) (by decide +kernel)⟩
theorem lw_p22 : lw_okq (⟨"EndowBook$Tape", "readLine", "(LEndowBook$Deed;I)Z"⟩, 4) := ⟨⟨by decide +kernel, by decide +kernel⟩, List.mem_of_getElem? (i := 287) (by decide +kernel), List.mem_of_getElem? (i := 858) (by decide +kernel), List.mem_of_getElem? (i := 859) (by decide +kernel)⟩
theorem lw_p23 : lw_okq (⟨"EndowBook$Tape", "readPerson", "(LEndowBook$Deed;I)Z"⟩, 4) := ⟨⟨by decide +kernel, by decide +kernel⟩, List.mem_of_getElem? (i := 287) (by decide +kernel), List.mem_of_getElem? (i := 863) (by decide +kernel), List.mem_of_getElem? (i := 864) (by decide +kernel)⟩
theorem lw_p24 : lw_okq (⟨"EndowBook$Tape", "readManager", "(LEndowBook$Deed;I)Z"⟩, 4) := ⟨⟨by decide +kernel, by decide +kernel⟩, List.mem_of_getElem? (i := 287) (by decide +kernel), List.mem_of_getElem? (i := 870) (by decide +kernel), List.mem_of_getElem? (i := 871) (by decide +kernel)⟩
theorem lw_p25 : lw_okq (⟨"EndowBook$Tape", "readRest", "(LEndowBook$Deed;I)Z"⟩, 4) := ⟨⟨by decide +kernel, by decide +kernel⟩, List.mem_of_getElem? (i := 287) (by decide +kernel), List.mem_of_getElem? (i := 875) (by decide +kernel), List.mem_of_getElem? (i := 876) (by decide +kernel)⟩
def lw_privs_2 : List (MethodName × Nat) := [(⟨"EndowBook$Tape", "readFixed", "(LEndowBook$Deed;I)Z"⟩, 4), (⟨"EndowBook$Tape", "readWord", "(Ljava/lang/String;)Z"⟩, 4), (⟨"EndowBook$Tape", "readNumber", "(I)Z"⟩, 4), (⟨"EndowBook$Tape", "readHouse", "(LEndowBook$Deed;I)Z"⟩, 4), (⟨"EndowBook$Tape", "readTest", "(LEndowBook$Deed;I)Z"⟩, 4), (⟨"EndowBook$Tape", "readField", "(LEndowBook$Deed;I)Z"⟩, 4), (⟨"EndowBook$Tape", "readLine", "(LEndowBook$Deed;I)Z"⟩, 4), (⟨"EndowBook$Tape", "readPerson", "(LEndowBook$Deed;I)Z"⟩, 4), (⟨"EndowBook$Tape", "readManager", "(LEndowBook$Deed;I)Z"⟩, 4), (⟨"EndowBook$Tape", "readRest", "(LEndowBook$Deed;I)Z"⟩, 4)]
theorem lw_r2 : ∀ q ∈ lw_privs_2, lw_okq q := List.forall_mem_cons.mpr ⟨lw_p16, List.forall_mem_cons.mpr ⟨lw_p17, List.forall_mem_cons.mpr ⟨lw_p18, List.forall_mem_cons.mpr ⟨lw_p19, List.forall_mem_cons.mpr ⟨lw_p20, List.forall_mem_cons.mpr ⟨lw_p21, List.forall_mem_cons.mpr ⟨lw_p22, List.forall_mem_cons.mpr ⟨lw_p23, List.forall_mem_cons.mpr ⟨lw_p24, List.forall_mem_cons.mpr ⟨lw_p25, fun _ h => absurd h List.not_mem_nil⟩⟩⟩⟩⟩⟩⟩⟩⟩⟩
def lw_privs : List (MethodName × Nat) := lw_privs_1 ++ (lw_privs_2)
def lw_tbl : List Cond := k2_sels lw_privs ++ tables_1
theorem lw_privs_ok : ∀ q ∈ lw_privs, lw_okq q := by
  show ∀ q ∈ lw_privs_1 ++ (lw_privs_2), lw_okq q
  exact List.forall_mem_append.mpr ⟨lw_r1, lw_r2⟩

def RX0 : String := "EndowBook$Deed"
def TX0 : u_T := fun k => match k with
  | 0 => ("EndowBook$Deed", "kind", "[I", true)
  | 1 => ("EndowBook$Deed", "number", "[I", true)
  | 2 => ("EndowBook$Deed", "root", "[I", true)
  | 3 => ("EndowBook$Deed", "house", "[I", true)
  | 4 => ("EndowBook$Deed", "byHeads", "[Z", true)
  | 5 => ("EndowBook$Deed", "field", "[I", true)
  | 6 => ("EndowBook$Deed", "sign", "[I", true)
  | 7 => ("EndowBook$Deed", "than", "[I", true)
  | _ => ("EndowBook$Deed", "ends", "I", false)
def tyX0 : Nat → FieldType := fun k => match k with
  | 0 => .array .int
  | 1 => .array .int
  | 2 => .array .int
  | 3 => .array .int
  | 4 => .array .boolean
  | 5 => .array .int
  | 6 => .array .int
  | 7 => .array .int
  | _ => .int
abbrev wsX00 : List Cond := u_ws RX0 TX0 9
theorem nmX0 : ∀ a, a < 9 → ∀ b, b < 9 → a ≠ b → (TX0 a).2.1 ≠ (TX0 b).2.1 := by decide +kernel
theorem tyX0_ok : ∀ k, k < 9 → parseFieldDescriptor (TX0 k).2.2.1 = some (tyX0 k) := by decide +kernel
abbrev cX0_init : ByteArray := prog_2_method_1_code
def yX0_init : MethodName := ⟨RX0, "<init>", "()V"⟩
abbrev cX0_hasEnd : ByteArray := prog_2_method_2_code
def yX0_hasEnd : MethodName := ⟨RX0, "hasEnd", "(I)Z"⟩
abbrev cX0_isSound : ByteArray := prog_2_method_3_code
def yX0_isSound : MethodName := ⟨RX0, "isSound", "(I)Z"⟩
abbrev cX0_testIsSo : ByteArray := prog_2_method_4_code
def yX0_testIsSo : MethodName := ⟨RX0, "testIsSo", "(IIII)Z"⟩
def RX1 : String := "EndowBook$Kin"
def TX1 : u_T := fun k => match k with
  | 0 => ("EndowBook$Kin", "parentOf", "[I", true)
  | 1 => ("EndowBook$Kin", "born", "[I", true)
  | 2 => ("EndowBook$Kin", "died", "[I", true)
  | 3 => ("EndowBook$Kin", "unsure", "[Z", true)
  | 4 => ("EndowBook$Kin", "takenToLive", "[Z", true)
  | 5 => ("EndowBook$Kin", "size", "I", false)
  | 6 => ("EndowBook$Kin", "alive", "[Z", true)
  | 7 => ("EndowBook$Kin", "aliveInLine", "[I", true)
  | 8 => ("EndowBook$Kin", "heirs", "[I", true)
  | _ => ("EndowBook$Kin", "inLine", "[Z", true)
def tyX1 : Nat → FieldType := fun k => match k with
  | 0 => .array .int
  | 1 => .array .int
  | 2 => .array .int
  | 3 => .array .boolean
  | 4 => .array .boolean
  | 5 => .int
  | 6 => .array .boolean
  | 7 => .array .int
  | 8 => .array .int
  | _ => .array .boolean
abbrev wsX10 : List Cond := u_ws RX1 TX1 10
theorem nmX1 : ∀ a, a < 10 → ∀ b, b < 10 → a ≠ b → (TX1 a).2.1 ≠ (TX1 b).2.1 := by decide +kernel
theorem tyX1_ok : ∀ k, k < 10 → parseFieldDescriptor (TX1 k).2.2.1 = some (tyX1 k) := by decide +kernel
abbrev cX1_init : ByteArray := prog_3_method_1_code
def yX1_init : MethodName := ⟨RX1, "<init>", "()V"⟩
abbrev cX1_has : ByteArray := prog_3_method_2_code
def yX1_has : MethodName := ⟨RX1, "has", "(I)Z"⟩
abbrev cX1_earliestBirth : ByteArray := prog_3_method_3_code
def yX1_earliestBirth : MethodName := ⟨RX1, "earliestBirth", "(I)I"⟩
abbrev cX1_add : ByteArray := prog_3_method_4_code
def yX1_add : MethodName := ⟨RX1, "add", "(II)I"⟩
abbrev cX1_settle : ByteArray := prog_3_method_5_code
def yX1_settle : MethodName := ⟨RX1, "settle", "(II)V"⟩
abbrev cX1_doubt : ByteArray := prog_3_method_6_code
def yX1_doubt : MethodName := ⟨RX1, "doubt", "(I)V"⟩
abbrev cX1_unsureCount : ByteArray := prog_3_method_7_code
def yX1_unsureCount : MethodName := ⟨RX1, "unsureCount", "()I"⟩
abbrev cX1_children : ByteArray := prog_3_method_9_code
def yX1_children : MethodName := ⟨RX1, "children", "(I)I"⟩
abbrev cX1_aliveCount : ByteArray := prog_3_method_10_code
def yX1_aliveCount : MethodName := ⟨RX1, "aliveCount", "()I"⟩
abbrev cX1_wake : ByteArray := prog_3_method_11_code
def yX1_wake : MethodName := ⟨RX1, "wake", "(II)V"⟩
abbrev cX1_countLines : ByteArray := prog_3_method_12_code
def yX1_countLines : MethodName := ⟨RX1, "countLines", "()V"⟩
abbrev cX1_clearLine : ByteArray := prog_3_method_13_code
def yX1_clearLine : MethodName := ⟨RX1, "clearLine", "()V"⟩
abbrev cX1_addLine : ByteArray := prog_3_method_14_code
def yX1_addLine : MethodName := ⟨RX1, "addLine", "(I)V"⟩
abbrev cX1_aliveMarked : ByteArray := prog_3_method_15_code
def yX1_aliveMarked : MethodName := ⟨RX1, "aliveMarked", "()I"⟩
abbrev cX1_firstBornMarked : ByteArray := prog_3_method_16_code
def yX1_firstBornMarked : MethodName := ⟨RX1, "firstBornMarked", "()I"⟩
def RX2 : String := "EndowBook$Leases"
def TX2 : u_T := fun k => match k with
  | 0 => ("EndowBook$Leases", "thingOf", "[I", true)
  | 1 => ("EndowBook$Leases", "from", "[I", true)
  | 2 => ("EndowBook$Leases", "years", "[I", true)
  | 3 => ("EndowBook$Leases", "holds", "[Z", true)
  | 4 => ("EndowBook$Leases", "size", "I", false)
  | _ => ("EndowBook$Leases", "longest", "I", false)
def tyX2 : Nat → FieldType := fun k => match k with
  | 0 => .array .int
  | 1 => .array .int
  | 2 => .array .int
  | 3 => .array .boolean
  | 4 => .int
  | _ => .int
abbrev wsX20 : List Cond := u_ws RX2 TX2 6
theorem nmX2 : ∀ a, a < 6 → ∀ b, b < 6 → a ≠ b → (TX2 a).2.1 ≠ (TX2 b).2.1 := by decide +kernel
theorem tyX2_ok : ∀ k, k < 6 → parseFieldDescriptor (TX2 k).2.2.1 = some (tyX2 k) := by decide +kernel
abbrev cX2_init : ByteArray := prog_4_method_1_code
def yX2_init : MethodName := ⟨RX2, "<init>", "()V"⟩
abbrev cX2_holding : ByteArray := prog_4_method_6_code
def yX2_holding : MethodName := ⟨RX2, "holding", "()I"⟩
def RX3 : String := "EndowBook$Split"
def TX3 : u_T := fun k => match k with
  | 0 => ("EndowBook$Split", "so", "[Z", true)
  | 1 => ("EndowBook$Split", "toEnd", "[I", true)
  | 2 => ("EndowBook$Split", "toPerson", "[I", true)
  | 3 => ("EndowBook$Split", "shareOf", "[I", true)
  | 4 => ("EndowBook$Split", "steward", "I", false)
  | _ => ("EndowBook$Split", "leftOver", "I", false)
def tyX3 : Nat → FieldType := fun k => match k with
  | 0 => .array .boolean
  | 1 => .array .int
  | 2 => .array .int
  | 3 => .array .int
  | 4 => .int
  | _ => .int
abbrev wsX30 : List Cond := u_ws RX3 TX3 6
theorem nmX3 : ∀ a, a < 6 → ∀ b, b < 6 → a ≠ b → (TX3 a).2.1 ≠ (TX3 b).2.1 := by decide +kernel
theorem tyX3_ok : ∀ k, k < 6 → parseFieldDescriptor (TX3 k).2.2.1 = some (tyX3 k) := by decide +kernel
abbrev cX3_init : ByteArray := prog_5_method_1_code
def yX3_init : MethodName := ⟨RX3, "<init>", "()V"⟩
abbrev cX3_reckon : ByteArray := prog_5_method_2_code
def yX3_reckon : MethodName := ⟨RX3, "reckon", "(LEndowBook$Kin;LEndowBook$Deed;II)V"⟩
abbrev cX3_clear : ByteArray := prog_5_method_3_code
def yX3_clear : MethodName := ⟨RX3, "clear", "()V"⟩
abbrev cX3_judgeTests : ByteArray := prog_5_method_4_code
def yX3_judgeTests : MethodName := ⟨RX3, "judgeTests", "(LEndowBook$Kin;LEndowBook$Deed;II)V"⟩
abbrev cX3_payManager : ByteArray := prog_5_method_5_code
def yX3_payManager : MethodName := ⟨RX3, "payManager", "(LEndowBook$Kin;LEndowBook$Deed;I)I"⟩
abbrev cX3_payFixed : ByteArray := prog_5_method_6_code
def yX3_payFixed : MethodName := ⟨RX3, "payFixed", "(LEndowBook$Deed;I)I"⟩
abbrev cX3_payLine : ByteArray := prog_5_method_7_code
def yX3_payLine : MethodName := ⟨RX3, "payLine", "(LEndowBook$Kin;LEndowBook$Deed;I)I"⟩
abbrev cX3_setShares : ByteArray := prog_5_method_8_code
def yX3_setShares : MethodName := ⟨RX3, "setShares", "(LEndowBook$Kin;IZ)V"⟩
abbrev cX3_shareByHeads : ByteArray := prog_5_method_9_code
def yX3_shareByHeads : MethodName := ⟨RX3, "shareByHeads", "(LEndowBook$Kin;I)V"⟩
abbrev cX3_shareByStem : ByteArray := prog_5_method_10_code
def yX3_shareByStem : MethodName := ⟨RX3, "shareByStem", "(LEndowBook$Kin;I)V"⟩
def RX4 : String := "EndowBook$Tape"
def TX4 : u_T := fun k => match k with
  | 0 => ("EndowBook$Tape", "bytes", "[I", true)
  | 1 => ("EndowBook$Tape", "length", "I", false)
  | 2 => ("EndowBook$Tape", "place", "I", false)
  | _ => ("EndowBook$Tape", "value", "I", false)
def tyX4 : Nat → FieldType := fun k => match k with
  | 0 => .array .int
  | 1 => .int
  | 2 => .int
  | _ => .int
abbrev wsX40 : List Cond := u_ws RX4 TX4 4
theorem nmX4 : ∀ a, a < 4 → ∀ b, b < 4 → a ≠ b → (TX4 a).2.1 ≠ (TX4 b).2.1 := by decide +kernel
theorem tyX4_ok : ∀ k, k < 4 → parseFieldDescriptor (TX4 k).2.2.1 = some (tyX4 k) := by decide +kernel
abbrev cX4_init : ByteArray := prog_6_method_1_code
def yX4_init : MethodName := ⟨RX4, "<init>", "()V"⟩
abbrev cX4_append : ByteArray := prog_6_method_2_code
def yX4_append : MethodName := ⟨RX4, "append", "(II)V"⟩
abbrev cX4_readDeed : ByteArray := prog_6_method_3_code
def yX4_readDeed : MethodName := ⟨RX4, "readDeed", "(LEndowBook$Deed;)Z"⟩
abbrev cX4_readEnd : ByteArray := prog_6_method_4_code
def yX4_readEnd : MethodName := ⟨RX4, "readEnd", "(LEndowBook$Deed;I)Z"⟩
abbrev cX4_readFixed : ByteArray := prog_6_method_5_code
def yX4_readFixed : MethodName := ⟨RX4, "readFixed", "(LEndowBook$Deed;I)Z"⟩
abbrev cX4_readLine : ByteArray := prog_6_method_6_code
def yX4_readLine : MethodName := ⟨RX4, "readLine", "(LEndowBook$Deed;I)Z"⟩
abbrev cX4_readManager : ByteArray := prog_6_method_7_code
def yX4_readManager : MethodName := ⟨RX4, "readManager", "(LEndowBook$Deed;I)Z"⟩
abbrev cX4_readRest : ByteArray := prog_6_method_8_code
def yX4_readRest : MethodName := ⟨RX4, "readRest", "(LEndowBook$Deed;I)Z"⟩
abbrev cX4_readTest : ByteArray := prog_6_method_9_code
def yX4_readTest : MethodName := ⟨RX4, "readTest", "(LEndowBook$Deed;I)Z"⟩
abbrev cX4_readField : ByteArray := prog_6_method_10_code
def yX4_readField : MethodName := ⟨RX4, "readField", "(LEndowBook$Deed;I)Z"⟩
abbrev cX4_readHouse : ByteArray := prog_6_method_11_code
def yX4_readHouse : MethodName := ⟨RX4, "readHouse", "(LEndowBook$Deed;I)Z"⟩
abbrev cX4_readPerson : ByteArray := prog_6_method_12_code
def yX4_readPerson : MethodName := ⟨RX4, "readPerson", "(LEndowBook$Deed;I)Z"⟩
abbrev cX4_readNumber : ByteArray := prog_6_method_13_code
def yX4_readNumber : MethodName := ⟨RX4, "readNumber", "(I)Z"⟩
abbrev cX4_readWord : ByteArray := prog_6_method_14_code
def yX4_readWord : MethodName := ⟨RX4, "readWord", "(Ljava/lang/String;)Z"⟩
abbrev cX4_next : ByteArray := prog_6_method_15_code
def yX4_next : MethodName := ⟨RX4, "next", "()I"⟩
def RX5 : String := "EndowBook$Things"
def TX5 : u_T := fun k => match k with
  | 0 => ("EndowBook$Things", "worth", "[I", true)
  | 1 => ("EndowBook$Things", "yearly", "[I", true)
  | 2 => ("EndowBook$Things", "ruined", "[Z", true)
  | 3 => ("EndowBook$Things", "given", "[I", true)
  | _ => ("EndowBook$Things", "size", "I", false)
def tyX5 : Nat → FieldType := fun k => match k with
  | 0 => .array .int
  | 1 => .array .int
  | 2 => .array .boolean
  | 3 => .array .int
  | _ => .int
abbrev wsX50 : List Cond := u_ws RX5 TX5 5
theorem nmX5 : ∀ a, a < 5 → ∀ b, b < 5 → a ≠ b → (TX5 a).2.1 ≠ (TX5 b).2.1 := by decide +kernel
theorem tyX5_ok : ∀ k, k < 5 → parseFieldDescriptor (TX5 k).2.2.1 = some (tyX5 k) := by decide +kernel
abbrev cX5_init : ByteArray := prog_7_method_1_code
def yX5_init : MethodName := ⟨RX5, "<init>", "()V"⟩
abbrev cX5_has : ByteArray := prog_7_method_2_code
def yX5_has : MethodName := ⟨RX5, "has", "(I)Z"⟩
abbrev cX5_add : ByteArray := prog_7_method_3_code
def yX5_add : MethodName := ⟨RX5, "add", "(II)I"⟩
abbrev cX5_ungiven : ByteArray := prog_7_method_4_code
def yX5_ungiven : MethodName := ⟨RX5, "ungiven", "(I)I"⟩
abbrev cX5_give : ByteArray := prog_7_method_5_code
def yX5_give : MethodName := ⟨RX5, "give", "(III)I"⟩
abbrev cX5_yieldOf : ByteArray := prog_7_method_6_code
def yX5_yieldOf : MethodName := ⟨RX5, "yieldOf", "(I)I"⟩
def RX6 : String := "EndowBook"
def TX6 : u_T := fun k => match k with
  | 0 => ("EndowBook", "kin", "LEndowBook$Kin;", true)
  | 1 => ("EndowBook", "things", "LEndowBook$Things;", true)
  | 2 => ("EndowBook", "tape", "LEndowBook$Tape;", true)
  | 3 => ("EndowBook", "deeds", "[LEndowBook$Deed;", true)
  | 4 => ("EndowBook", "split", "LEndowBook$Split;", true)
  | 5 => ("EndowBook", "leases", "LEndowBook$Leases;", true)
  | 6 => ("EndowBook", "personAccounts", "[J", true)
  | 7 => ("EndowBook", "houseAccounts", "[J", true)
  | 8 => ("EndowBook", "theRow", "[I", true)
  | 9 => ("EndowBook", "refusals", "[I", true)
  | 10 => ("EndowBook", "deedCount", "I", false)
  | 11 => ("EndowBook", "rowLength", "I", false)
  | _ => ("EndowBook", "now", "I", false)
def tyX6 : Nat → FieldType := fun k => match k with
  | 0 => .object "EndowBook$Kin"
  | 1 => .object "EndowBook$Things"
  | 2 => .object "EndowBook$Tape"
  | 3 => .array (.object "EndowBook$Deed")
  | 4 => .object "EndowBook$Split"
  | 5 => .object "EndowBook$Leases"
  | 6 => .array .long
  | 7 => .array .long
  | 8 => .array .int
  | 9 => .array .int
  | 10 => .int
  | 11 => .int
  | _ => .int
abbrev wsX60 : List Cond := u_ws RX6 TX6 13
theorem nmX6 : ∀ a, a < 13 → ∀ b, b < 13 → a ≠ b → (TX6 a).2.1 ≠ (TX6 b).2.1 := by decide +kernel
theorem tyX6_ok : ∀ k, k < 13 → parseFieldDescriptor (TX6 k).2.2.1 = some (tyX6 k) := by decide +kernel
abbrev cX6_init : ByteArray := prog_1_method_1_code
def yX6_init : MethodName := ⟨RX6, "<init>", "()V"⟩
abbrev cX6_person : ByteArray := prog_1_method_2_code
def yX6_person : MethodName := ⟨RX6, "person", "(II)I"⟩
abbrev cX6_death : ByteArray := prog_1_method_3_code
def yX6_death : MethodName := ⟨RX6, "death", "(II)I"⟩
abbrev cX6_unknown : ByteArray := prog_1_method_4_code
def yX6_unknown : MethodName := ⟨RX6, "unknown", "(II)I"⟩
abbrev cX6_taken : ByteArray := prog_1_method_5_code
def yX6_taken : MethodName := ⟨RX6, "taken", "(II)I"⟩
abbrev cX6_look : ByteArray := prog_1_method_6_code
def yX6_look : MethodName := ⟨RX6, "look", "(II)I"⟩
abbrev cX6_thing : ByteArray := prog_1_method_7_code
def yX6_thing : MethodName := ⟨RX6, "thing", "(II)I"⟩
abbrev cX6_tell : ByteArray := prog_1_method_8_code
def yX6_tell : MethodName := ⟨RX6, "tell", "(III)I"⟩
abbrev cX6_ruin : ByteArray := prog_1_method_9_code
def yX6_ruin : MethodName := ⟨RX6, "ruin", "(II)I"⟩
abbrev cX6_part : ByteArray := prog_1_method_10_code
def yX6_part : MethodName := ⟨RX6, "part", "(III)I"⟩
abbrev cX6_feed : ByteArray := prog_1_method_12_code
def yX6_feed : MethodName := ⟨RX6, "feed", "(II)I"⟩
abbrev cX6_wipe : ByteArray := prog_1_method_13_code
def yX6_wipe : MethodName := ⟨RX6, "wipe", "()I"⟩
abbrev cX6_deed : ByteArray := prog_1_method_14_code
def yX6_deed : MethodName := ⟨RX6, "deed", "()I"⟩
abbrev cX6_end : ByteArray := prog_1_method_15_code
def yX6_end : MethodName := ⟨RX6, "end", "(III)I"⟩
abbrev cX6_yields : ByteArray := prog_1_method_16_code
def yX6_yields : MethodName := ⟨RX6, "yields", "(I)I"⟩
abbrev cX6_left : ByteArray := prog_1_method_18_code
def yX6_left : MethodName := ⟨RX6, "left", "(I)I"⟩
abbrev cX6_gets : ByteArray := prog_1_method_19_code
def yX6_gets : MethodName := ⟨RX6, "gets", "(II)I"⟩
abbrev cX6_due : ByteArray := prog_1_method_20_code
def yX6_due : MethodName := ⟨RX6, "due", "(II)I"⟩
abbrev cX6_run : ByteArray := prog_1_method_23_code
def yX6_run : MethodName := ⟨RX6, "run", "(I)I"⟩
abbrev cX6_account : ByteArray := prog_1_method_24_code
def yX6_account : MethodName := ⟨RX6, "account", "(IZ)J"⟩
abbrev cX6_count : ByteArray := prog_1_method_29_code
def yX6_count : MethodName := ⟨RX6, "count", "(I)I"⟩
abbrev cX6_refuse : ByteArray := prog_1_method_35_code
def yX6_refuse : MethodName := ⟨RX6, "refuse", "(I)I"⟩
abbrev cX6_isFlag : ByteArray := prog_1_method_36_code
def yX6_isFlag : MethodName := ⟨RX6, "isFlag", "(I)Z"⟩
abbrev cX6_flag : ByteArray := prog_1_method_37_code
def yX6_flag : MethodName := ⟨RX6, "flag", "(Z)I"⟩
abbrev cX6_isWorth : ByteArray := prog_1_method_38_code
def yX6_isWorth : MethodName := ⟨RX6, "isWorth", "(I)Z"⟩
abbrev cX6_isYield : ByteArray := prog_1_method_39_code
def yX6_isYield : MethodName := ⟨RX6, "isYield", "(I)Z"⟩
abbrev cX6_hasDeed : ByteArray := prog_1_method_40_code
def yX6_hasDeed : MethodName := ⟨RX6, "hasDeed", "(I)Z"⟩
abbrev cX6_deedAt : ByteArray := prog_1_method_41_code
def yX6_deedAt : MethodName := ⟨RX6, "deedAt", "(I)LEndowBook$Deed;"⟩
abbrev cX6_splitNow : ByteArray := prog_1_method_42_code
def yX6_splitNow : MethodName := ⟨RX6, "splitNow", "(LEndowBook$Deed;I)V"⟩
abbrev cX6_goBy : ByteArray := prog_1_method_43_code
def yX6_goBy : MethodName := ⟨RX6, "goBy", "()V"⟩
abbrev cX6_payOut : ByteArray := prog_1_method_44_code
def yX6_payOut : MethodName := ⟨RX6, "payOut", "(LEndowBook$Deed;)V"⟩
def RX7 : String := "EndowBookModel"
def TX7 : u_T := fun k => match k with
  | _ => ("", "", "", false)
def tyX7 : Nat → FieldType := fun k => match k with
  | _ => .int
abbrev wsX70 : List Cond := u_ws RX7 TX7 0
theorem nmX7 : ∀ a, a < 0 → ∀ b, b < 0 → a ≠ b → (TX7 a).2.1 ≠ (TX7 b).2.1 := by decide +kernel
theorem tyX7_ok : ∀ k, k < 0 → parseFieldDescriptor (TX7 k).2.2.1 = some (tyX7 k) := by decide +kernel
def RJ5 : String := "java/lang/AbstractStringBuilder"
def TJ5 : u_T := fun k => match k with
  | _ => ("", "", "", false)
def tyJ5 : Nat → FieldType := fun k => match k with
  | _ => .int
abbrev cJ5_init_d00df : ByteArray := prog_10_method_2_code
def yJ5_init_d00df : MethodName := ⟨RJ5, "<init>", "(I)V"⟩
abbrev cJ5_length_8abf5 : ByteArray := prog_10_method_6_code
def yJ5_length_8abf5 : MethodName := ⟨RJ5, "length", "()I"⟩
abbrev cJ5_ensureCapacityInternal_d00df : ByteArray := prog_10_method_9_code
def yJ5_ensureCapacityInternal_d00df : MethodName := ⟨RJ5, "ensureCapacityInternal", "(I)V"⟩
abbrev cJ5_newCapacity_0f7a4 : ByteArray := prog_10_method_10_code
def yJ5_newCapacity_0f7a4 : MethodName := ⟨RJ5, "newCapacity", "(I)I"⟩
abbrev cJ5_inflate_da8c8 : ByteArray := prog_10_method_11_code
def yJ5_inflate_da8c8 : MethodName := ⟨RJ5, "inflate", "()V"⟩
abbrev cJ5_append_cf1ce : ByteArray := prog_10_method_22_code
def yJ5_append_cf1ce : MethodName := ⟨RJ5, "append", "(Ljava/lang/String;)Ljava/lang/AbstractStringBuilder;"⟩
abbrev cJ5_appendNull_278bc : ByteArray := prog_10_method_26_code
def yJ5_appendNull_278bc : MethodName := ⟨RJ5, "appendNull", "()Ljava/lang/AbstractStringBuilder;"⟩
abbrev cJ5_append_3fe6f : ByteArray := prog_10_method_31_code
def yJ5_append_3fe6f : MethodName := ⟨RJ5, "append", "(C)Ljava/lang/AbstractStringBuilder;"⟩
abbrev cJ5_append_c97b9 : ByteArray := prog_10_method_32_code
def yJ5_append_c97b9 : MethodName := ⟨RJ5, "append", "(I)Ljava/lang/AbstractStringBuilder;"⟩
abbrev cJ5_getValue_6d5f1 : ByteArray := prog_10_method_64_code
def yJ5_getValue_6d5f1 : MethodName := ⟨RJ5, "getValue", "()[B"⟩
abbrev cJ5_isLatin1_aae02 : ByteArray := prog_10_method_68_code
def yJ5_isLatin1_aae02 : MethodName := ⟨RJ5, "isLatin1", "()Z"⟩
abbrev cJ5_inflateIfNeededFor_a7421 : ByteArray := prog_10_method_71_code
def yJ5_inflateIfNeededFor_a7421 : MethodName := ⟨RJ5, "inflateIfNeededFor", "(Ljava/lang/String;)V"⟩
abbrev cJ5_putStringAt_47b60 : ByteArray := prog_10_method_73_code
def yJ5_putStringAt_47b60 : MethodName := ⟨RJ5, "putStringAt", "(ILjava/lang/String;)V"⟩
def RJ6 : String := "java/lang/Integer"
def TJ6 : u_T := fun k => match k with
  | _ => ("", "", "", false)
def tyJ6 : Nat → FieldType := fun k => match k with
  | _ => .int
abbrev cJ6_getChars_ba4f3 : ByteArray := prog_12_method_12_code
def yJ6_getChars_ba4f3 : MethodName := ⟨RJ6, "getChars", "(II[B)I"⟩
abbrev cJ6_stringSize_0f7a4 : ByteArray := prog_12_method_13_code
def yJ6_stringSize_0f7a4 : MethodName := ⟨RJ6, "stringSize", "(I)I"⟩
def RJ9 : String := "java/lang/Math"
def TJ9 : u_T := fun k => match k with
  | _ => ("", "", "", false)
def tyJ9 : Nat → FieldType := fun k => match k with
  | _ => .int
abbrev cJ9_max_7cf53 : ByteArray := prog_13_method_65_code
def yJ9_max_7cf53 : MethodName := ⟨RJ9, "max", "(II)I"⟩
abbrev cJ9_min_7cf53 : ByteArray := prog_13_method_69_code
def yJ9_min_7cf53 : MethodName := ⟨RJ9, "min", "(II)I"⟩
def RJ0 : String := "java/lang/String"
def TJ0 : u_T := fun k => match k with
  | 0 => ("java/lang/String", "value", "[B", true)
  | 1 => ("java/lang/String", "coder", "B", true)
  | 2 => ("java/lang/String", "hash", "I", false)
  | _ => ("java/lang/String", "hashIsZero", "Z", false)
def tyJ0 : Nat → FieldType := fun k => match k with
  | 0 => .array .byte
  | 1 => .byte
  | 2 => .int
  | _ => .boolean
abbrev wsJ00 : List Cond := u_ws RJ0 TJ0 4
theorem nmJ0 : ∀ a, a < 4 → ∀ b, b < 4 → a ≠ b → (TJ0 a).2.1 ≠ (TJ0 b).2.1 := by decide +kernel
theorem tyJ0_ok : ∀ k, k < 4 → parseFieldDescriptor (TJ0 k).2.2.1 = some (tyJ0 k) := by decide +kernel
abbrev cJ0_init_81219 : ByteArray := prog_14_method_53_code
def yJ0_init_81219 : MethodName := ⟨RJ0, "<init>", "(Ljava/lang/StringBuilder;)V"⟩
abbrev cJ0_length_8abf5 : ByteArray := prog_14_method_54_code
def yJ0_length_8abf5 : MethodName := ⟨RJ0, "length", "()I"⟩
abbrev cJ0_charAt_5068e : ByteArray := prog_14_method_56_code
def yJ0_charAt_5068e : MethodName := ⟨RJ0, "charAt", "(I)C"⟩
abbrev cJ0_getBytes_840e7 : ByteArray := prog_14_method_147_code
def yJ0_getBytes_840e7 : MethodName := ⟨RJ0, "getBytes", "([BIB)V"⟩
abbrev cJ0_init_db425 : ByteArray := prog_14_method_150_code
def yJ0_init_db425 : MethodName := ⟨RJ0, "<init>", "(Ljava/lang/AbstractStringBuilder;Ljava/lang/Void;)V"⟩
abbrev cJ0_coder_7d493 : ByteArray := prog_14_method_152_code
def yJ0_coder_7d493 : MethodName := ⟨RJ0, "coder", "()B"⟩
abbrev cJ0_isLatin1_aae02 : ByteArray := prog_14_method_154_code
def yJ0_isLatin1_aae02 : MethodName := ⟨RJ0, "isLatin1", "()Z"⟩
abbrev cJ0_checkIndex_df160 : ByteArray := prog_14_method_155_code
def yJ0_checkIndex_df160 : MethodName := ⟨RJ0, "checkIndex", "(II)V"⟩
abbrev cJ0_checkBoundsOffCount_cabcc : ByteArray := prog_14_method_157_code
def yJ0_checkBoundsOffCount_cabcc : MethodName := ⟨RJ0, "checkBoundsOffCount", "(III)I"⟩
abbrev cJ0_checkBoundsBeginEnd_23922 : ByteArray := prog_14_method_158_code
def yJ0_checkBoundsBeginEnd_23922 : MethodName := ⟨RJ0, "checkBoundsBeginEnd", "(III)V"⟩
def RJ4 : String := "java/lang/StringBuilder"
def TJ4 : u_T := fun k => match k with
  | 0 => ("java/lang/AbstractStringBuilder", "value", "[B", false)
  | 1 => ("java/lang/AbstractStringBuilder", "coder", "B", false)
  | 2 => ("java/lang/AbstractStringBuilder", "maybeLatin1", "Z", false)
  | _ => ("java/lang/AbstractStringBuilder", "count", "I", false)
def tyJ4 : Nat → FieldType := fun k => match k with
  | 0 => .array .byte
  | 1 => .byte
  | 2 => .boolean
  | _ => .int
abbrev wsJ40 : List Cond := u_ws RJ4 TJ4 4
theorem nmJ4 : ∀ a, a < 4 → ∀ b, b < 4 → a ≠ b → (TJ4 a).2.1 ≠ (TJ4 b).2.1 := by decide +kernel
theorem tyJ4_ok : ∀ k, k < 4 → parseFieldDescriptor (TJ4 k).2.2.1 = some (tyJ4 k) := by decide +kernel
abbrev cJ4_init_da8c8 : ByteArray := prog_15_method_1_code
def yJ4_init_da8c8 : MethodName := ⟨RJ4, "<init>", "()V"⟩
abbrev cJ4_append_15ec4 : ByteArray := prog_15_method_7_code
def yJ4_append_15ec4 : MethodName := ⟨RJ4, "append", "(Ljava/lang/String;)Ljava/lang/StringBuilder;"⟩
abbrev cJ4_append_cf468 : ByteArray := prog_15_method_14_code
def yJ4_append_cf468 : MethodName := ⟨RJ4, "append", "(C)Ljava/lang/StringBuilder;"⟩
abbrev cJ4_append_bf812 : ByteArray := prog_15_method_15_code
def yJ4_append_bf812 : MethodName := ⟨RJ4, "append", "(I)Ljava/lang/StringBuilder;"⟩
abbrev cJ4_toString_0e30d : ByteArray := prog_15_method_42_code
def yJ4_toString_0e30d : MethodName := ⟨RJ4, "toString", "()Ljava/lang/String;"⟩
abbrev cJ4_length_8abf5 : ByteArray := prog_15_method_93_code
def yJ4_length_8abf5 : MethodName := ⟨RJ4, "length", "()I"⟩
def RJ1 : String := "java/lang/StringLatin1"
def TJ1 : u_T := fun k => match k with
  | _ => ("", "", "", false)
def tyJ1 : Nat → FieldType := fun k => match k with
  | _ => .int
abbrev cJ1_charAt_3b067 : ByteArray := prog_16_method_2_code
def yJ1_charAt_3b067 : MethodName := ⟨RJ1, "charAt", "([BI)C"⟩
abbrev cJ1_canEncode_fc78d : ByteArray := prog_16_method_3_code
def yJ1_canEncode_fc78d : MethodName := ⟨RJ1, "canEncode", "(C)Z"⟩
abbrev cJ1_inflate_0e8fd : ByteArray := prog_16_method_50_code
def yJ1_inflate_0e8fd : MethodName := ⟨RJ1, "inflate", "([BI[BII)V"⟩
def RJ2 : String := "java/lang/StringUTF16"
def TJ2 : u_T := fun k => match k with
  | _ => ("", "", "", false)
def tyJ2 : Nat → FieldType := fun k => match k with
  | _ => .int
abbrev cJ2_newBytesFor_77867 : ByteArray := prog_17_method_2_code
def yJ2_newBytesFor_77867 : MethodName := ⟨RJ2, "newBytesFor", "(I)[B"⟩
abbrev cJ2_newBytesLength_0f7a4 : ByteArray := prog_17_method_3_code
def yJ2_newBytesLength_0f7a4 : MethodName := ⟨RJ2, "newBytesLength", "(I)I"⟩
abbrev cJ2_putChar_b72d1 : ByteArray := prog_17_method_4_code
def yJ2_putChar_b72d1 : MethodName := ⟨RJ2, "putChar", "([BII)V"⟩
abbrev cJ2_getChar_3b067 : ByteArray := prog_17_method_5_code
def yJ2_getChar_3b067 : MethodName := ⟨RJ2, "getChar", "([BI)C"⟩
abbrev cJ2_length_9d52b : ByteArray := prog_17_method_6_code
def yJ2_length_9d52b : MethodName := ⟨RJ2, "length", "([B)I"⟩
abbrev cJ2_coderFromArrayLen_85cad : ByteArray := prog_17_method_15_code
def yJ2_coderFromArrayLen_85cad : MethodName := ⟨RJ2, "coderFromArrayLen", "([BI)B"⟩
abbrev cJ2_compress_39247 : ByteArray := prog_17_method_17_code
def yJ2_compress_39247 : MethodName := ⟨RJ2, "compress", "([BII)[B"⟩
abbrev cJ2_compress_5af95 : ByteArray := prog_17_method_22_code
def yJ2_compress_5af95 : MethodName := ⟨RJ2, "compress", "([BI[BII)I"⟩
abbrev cJ2_putCharSB_b72d1 : ByteArray := prog_17_method_71_code
def yJ2_putCharSB_b72d1 : MethodName := ⟨RJ2, "putCharSB", "([BII)V"⟩
abbrev cJ2_getChars_46870 : ByteArray := prog_17_method_77_code
def yJ2_getChars_46870 : MethodName := ⟨RJ2, "getChars", "(III[B)I"⟩
abbrev cJ2_putCharsAt_cd4e5 : ByteArray := prog_17_method_81_code
def yJ2_putCharsAt_cd4e5 : MethodName := ⟨RJ2, "putCharsAt", "([BICCCC)I"⟩
abbrev cJ2_charAt_3b067 : ByteArray := prog_17_method_83_code
def yJ2_charAt_3b067 : MethodName := ⟨RJ2, "charAt", "([BI)C"⟩
abbrev cJ2_inflate_0e8fd : ByteArray := prog_17_method_86_code
def yJ2_inflate_0e8fd : MethodName := ⟨RJ2, "inflate", "([BI[BII)V"⟩
abbrev cJ2_getChars_ba4f3 : ByteArray := prog_17_method_89_code
def yJ2_getChars_ba4f3 : MethodName := ⟨RJ2, "getChars", "(II[B)I"⟩
abbrev cJ2_checkIndex_2214a : ByteArray := prog_17_method_91_code
def yJ2_checkIndex_2214a : MethodName := ⟨RJ2, "checkIndex", "(I[B)V"⟩
abbrev cJ2_checkBoundsBeginEnd_d044e : ByteArray := prog_17_method_93_code
def yJ2_checkBoundsBeginEnd_d044e : MethodName := ⟨RJ2, "checkBoundsBeginEnd", "(II[B)V"⟩
abbrev cJ2_checkBoundsOffCount_d044e : ByteArray := prog_17_method_94_code
def yJ2_checkBoundsOffCount_d044e : MethodName := ⟨RJ2, "checkBoundsOffCount", "(II[B)V"⟩
def RJ10 : String := "java/lang/System"
def TJ10 : u_T := fun k => match k with
  | _ => ("", "", "", false)
def tyJ10 : Nat → FieldType := fun k => match k with
  | _ => .int
def RJ7 : String := "java/util/Arrays"
def TJ7 : u_T := fun k => match k with
  | _ => ("", "", "", false)
def tyJ7 : Nat → FieldType := fun k => match k with
  | _ => .int
abbrev cJ7_copyOf_9075b : ByteArray := prog_19_method_121_code
def yJ7_copyOf_9075b : MethodName := ⟨RJ7, "copyOf", "([BI)[B"⟩
abbrev cJ7_checkLength_df160 : ByteArray := prog_19_method_131_code
def yJ7_checkLength_df160 : MethodName := ⟨RJ7, "checkLength", "(II)V"⟩
abbrev cJ7_copyOfRange_39247 : ByteArray := prog_19_method_132_code
def yJ7_copyOfRange_39247 : MethodName := ⟨RJ7, "copyOfRange", "([BII)[B"⟩
abbrev cJ7_copyOfRangeByte_39247 : ByteArray := prog_19_method_133_code
def yJ7_copyOfRangeByte_39247 : MethodName := ⟨RJ7, "copyOfRangeByte", "([BII)[B"⟩
def RJ8 : String := "jdk/internal/util/ArraysSupport"
def TJ8 : u_T := fun k => match k with
  | _ => ("", "", "", false)
def tyJ8 : Nat → FieldType := fun k => match k with
  | _ => .int
abbrev cJ8_newLength_cabcc : ByteArray := prog_20_method_27_code
def yJ8_newLength_cabcc : MethodName := ⟨RJ8, "newLength", "(III)I"⟩
abbrev cJ8_hugeLength_7cf53 : ByteArray := prog_20_method_28_code
def yJ8_hugeLength_7cf53 : MethodName := ⟨RJ8, "hugeLength", "(II)I"⟩
def RJ3 : String := "jdk/internal/util/Preconditions"
def TJ3 : u_T := fun k => match k with
  | _ => ("", "", "", false)
def tyJ3 : Nat → FieldType := fun k => match k with
  | _ => .int
abbrev cJ3_checkIndex_8e157 : ByteArray := prog_21_method_11_code
def yJ3_checkIndex_8e157 : MethodName := ⟨RJ3, "checkIndex", "(IILjava/util/function/BiFunction;)I"⟩
abbrev cJ3_checkFromToIndex_8c36e : ByteArray := prog_21_method_12_code
def yJ3_checkFromToIndex_8c36e : MethodName := ⟨RJ3, "checkFromToIndex", "(IIILjava/util/function/BiFunction;)I"⟩
abbrev cJ3_checkFromIndexSize_8c36e : ByteArray := prog_21_method_13_code
def yJ3_checkFromIndexSize_8c36e : MethodName := ⟨RJ3, "checkFromIndexSize", "(IIILjava/util/function/BiFunction;)I"⟩
def RL : String := "EndowBookLaw"
abbrev cL_at : ByteArray := method_2_code
def yL_at : MethodName := ⟨RL, "at", "([II)I"⟩
abbrev cL_text : ByteArray := method_3_code
def yL_text : MethodName := ⟨RL, "text", "(LEndowBook;Ljava/lang/String;)V"⟩
abbrev cL_words : ByteArray := method_4_code
def yL_words : MethodName := ⟨RL, "words", "(II)Ljava/lang/String;"⟩
abbrev cL_build : ByteArray := method_5_code
def yL_build : MethodName := ⟨RL, "build", "([I)LEndowBook;"⟩
abbrev cL_law : ByteArray := code
def yL_law : MethodName := ⟨RL, "law", "([I)Z"⟩
abbrev vwCl : List vw_C := [(RX0, TX0, 9), (RX1, TX1, 10), (RX2, TX2, 6), (RX3, TX3, 6), (RX4, TX4, 4), (RX5, TX5, 5), (RX6, TX6, 13), (RJ0, TJ0, 4), (RJ4, TJ4, 4)]
