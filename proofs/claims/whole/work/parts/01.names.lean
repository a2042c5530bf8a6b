-- ===== PART A: goes FIRST, ahead of the names: the tables' words, and 'selects' of the private methods out of them =====
/-- a private method of a class that the tables say can be made, by its rows of tables_1 -/
def lw_okq (q : MethodName × Nat) : Prop := (q.1.cls ≠ "java/lang/invoke/MethodHandle" ∧ q.1.cls ≠ "java/lang/invoke/VarHandle") ∧ Cond.instantiable q.1.cls q.2 ∈ tables_1 ∧ Cond.privateMethod q.1 ∈ tables_1 ∧ Cond.instanceMethod q.1 ∈ tables_1
theorem lw_p0 : lw_okq (⟨"MailRooms", "refuse", "(I)I"⟩, 11) := ⟨⟨by decide +kernel, by decide +kernel⟩, List.mem_of_getElem? (i := 11) (by decide +kernel), List.mem_of_getElem? (i := 77) (by decide +kernel), List.mem_of_getElem? (i := 78) (by decide +kernel)⟩
theorem lw_p1 : lw_okq (⟨"MailRooms", "accept", "(I)I"⟩, 11) := ⟨⟨by decide +kernel, by decide +kernel⟩, List.mem_of_getElem? (i := 11) (by decide +kernel), List.mem_of_getElem? (i := 142) (by decide +kernel), List.mem_of_getElem? (i := 143) (by decide +kernel)⟩
theorem lw_p2 : lw_okq (⟨"MailRooms", "numberRow", "(II)LMailRooms$NumberRow;"⟩, 11) := ⟨⟨by decide +kernel, by decide +kernel⟩, List.mem_of_getElem? (i := 11) (by decide +kernel), List.mem_of_getElem? (i := 150) (by decide +kernel), List.mem_of_getElem? (i := 151) (by decide +kernel)⟩
theorem lw_p3 : lw_okq (⟨"MailRooms", "findItem", "(I)LMailRooms$Item;"⟩, 11) := ⟨⟨by decide +kernel, by decide +kernel⟩, List.mem_of_getElem? (i := 11) (by decide +kernel), List.mem_of_getElem? (i := 154) (by decide +kernel), List.mem_of_getElem? (i := 155) (by decide +kernel)⟩
theorem lw_p4 : lw_okq (⟨"MailRooms$NumberRow", "fit", "(J)J"⟩, 3) := ⟨⟨by decide +kernel, by decide +kernel⟩, List.mem_of_getElem? (i := 115) (by decide +kernel), List.mem_of_getElem? (i := 166) (by decide +kernel), List.mem_of_getElem? (i := 167) (by decide +kernel)⟩
theorem lw_p5 : lw_okq (⟨"MailRooms$ThingRow", "takenForm", "()I"⟩, 3) := ⟨⟨by decide +kernel, by decide +kernel⟩, List.mem_of_getElem? (i := 128) (by decide +kernel), List.mem_of_getElem? (i := 194) (by decide +kernel), List.mem_of_getElem? (i := 195) (by decide +kernel)⟩
theorem lw_p6 : lw_okq (⟨"MailRooms", "findRoom", "(I)LMailRooms$Room;"⟩, 11) := ⟨⟨by decide +kernel, by decide +kernel⟩, List.mem_of_getElem? (i := 11) (by decide +kernel), List.mem_of_getElem? (i := 237) (by decide +kernel), List.mem_of_getElem? (i := 238) (by decide +kernel)⟩
theorem lw_p7 : lw_okq (⟨"MailRooms", "findDesk", "(II)LMailRooms$Desk;"⟩, 11) := ⟨⟨by decide +kernel, by decide +kernel⟩, List.mem_of_getElem? (i := 11) (by decide +kernel), List.mem_of_getElem? (i := 291) (by decide +kernel), List.mem_of_getElem? (i := 292) (by decide +kernel)⟩
theorem lw_p8 : lw_okq (⟨"MailRooms$Room", "findDesk", "(I)LMailRooms$Desk;"⟩, 2) := ⟨⟨by decide +kernel, by decide +kernel⟩, List.mem_of_getElem? (i := 22) (by decide +kernel), List.mem_of_getElem? (i := 295) (by decide +kernel), List.mem_of_getElem? (i := 296) (by decide +kernel)⟩
theorem lw_p9 : lw_okq (⟨"MailRooms", "pass", "(LMailRooms$Item;I)LMailRooms$Item;"⟩, 11) := ⟨⟨by decide +kernel, by decide +kernel⟩, List.mem_of_getElem? (i := 11) (by decide +kernel), List.mem_of_getElem? (i := 303) (by decide +kernel), List.mem_of_getElem? (i := 304) (by decide +kernel)⟩
theorem lw_p10 : lw_okq (⟨"MailRooms", "meet", "(LMailRooms$Desk;LMailRooms$Item;I)LMailRooms$Item;"⟩, 11) := ⟨⟨by decide +kernel, by decide +kernel⟩, List.mem_of_getElem? (i := 11) (by decide +kernel), List.mem_of_getElem? (i := 307) (by decide +kernel), List.mem_of_getElem? (i := 308) (by decide +kernel)⟩
theorem lw_p11 : lw_okq (⟨"MailRooms", "work", "(LMailRooms$Desk;LMailRooms$Item;I)LMailRooms$Item;"⟩, 11) := ⟨⟨by decide +kernel, by decide +kernel⟩, List.mem_of_getElem? (i := 11) (by decide +kernel), List.mem_of_getElem? (i := 311) (by decide +kernel), List.mem_of_getElem? (i := 312) (by decide +kernel)⟩
theorem lw_p12 : lw_okq (⟨"MailRooms", "split", "(LMailRooms$Item;I)V"⟩, 11) := ⟨⟨by decide +kernel, by decide +kernel⟩, List.mem_of_getElem? (i := 11) (by decide +kernel), List.mem_of_getElem? (i := 352) (by decide +kernel), List.mem_of_getElem? (i := 353) (by decide +kernel)⟩
theorem lw_p13 : lw_okq (⟨"MailRooms$Desk", "exchange", "(LMailRooms$Item;)LMailRooms$Item;"⟩, 9) := ⟨⟨by decide +kernel, by decide +kernel⟩, List.mem_of_getElem? (i := 244) (by decide +kernel), List.mem_of_getElem? (i := 356) (by decide +kernel), List.mem_of_getElem? (i := 357) (by decide +kernel)⟩
theorem lw_p14 : lw_okq (⟨"MailRooms$Desk", "giveBack", "(LMailRooms$Item;I)V"⟩, 9) := ⟨⟨by decide +kernel, by decide +kernel⟩, List.mem_of_getElem? (i := 244) (by decide +kernel), List.mem_of_getElem? (i := 360) (by decide +kernel), List.mem_of_getElem? (i := 361) (by decide +kernel)⟩
theorem lw_p15 : lw_okq (⟨"MailRoomsModel", "refuse", "(I)I"⟩, 27) := ⟨⟨by decide +kernel, by decide +kernel⟩, List.mem_of_getElem? (i := 380) (by decide +kernel), List.mem_of_getElem? (i := 480) (by decide +kernel), List.mem_of_getElem? (i := 481) (by decide +kernel)⟩
def lw_privs_1 : List (MethodName × Nat) := [(⟨"MailRooms", "refuse", "(I)I"⟩, 11), (⟨"MailRooms", "accept", "(I)I"⟩, 11), (⟨"MailRooms", "numberRow", "(II)LMailRooms$NumberRow;"⟩, 11), (⟨"MailRooms", "findItem", "(I)LMailRooms$Item;"⟩, 11), (⟨"MailRooms$NumberRow", "fit", "(J)J"⟩, 3), (⟨"MailRooms$ThingRow", "takenForm", "()I"⟩, 3), (⟨"MailRooms", "findRoom", "(I)LMailRooms$Room;"⟩, 11), (⟨"MailRooms", "findDesk", "(II)LMailRooms$Desk;"⟩, 11), (⟨"MailRooms$Room", "findDesk", "(I)LMailRooms$Desk;"⟩, 2), (⟨"MailRooms", "pass", "(LMailRooms$Item;I)LMailRooms$Item;"⟩, 11), (⟨"MailRooms", "meet", "(LMailRooms$Desk;LMailRooms$Item;I)LMailRooms$Item;"⟩, 11), (⟨"MailRooms", "work", "(LMailRooms$Desk;LMailRooms$Item;I)LMailRooms$Item;"⟩, 11), (⟨"MailRooms", "split", "(LMailRooms$Item;I)V"⟩, 11), (⟨"MailRooms$Desk", "exchange", "(LMailRooms$Item;)LMailRooms$Item;"⟩, 9), (⟨"MailRooms$Desk", "giveBack", "(LMailRooms$Item;I)V"⟩, 9), (⟨"MailRoomsModel", "refuse", "(I)I"⟩, 27)]
theorem lw_r1 : ∀ q ∈ lw_privs_1, lw_okq q := List.forall_mem_cons.mpr ⟨lw_p0, List.forall_mem_cons.mpr ⟨lw_p1, List.forall_mem_cons.mpr ⟨lw_p2, List.forall_mem_cons.mpr ⟨lw_p3, List.forall_mem_cons.mpr ⟨lw_p4, List.forall_mem_cons.mpr ⟨lw_p5, List.forall_mem_cons.mpr ⟨lw_p6, List.forall_mem_cons.mpr ⟨lw_p7, List.forall_mem_cons.mpr ⟨lw_p8, List.forall_mem_cons.mpr ⟨lw_p9, List.forall_mem_cons.mpr ⟨lw_p10, List.forall_mem_cons.mpr ⟨lw_p11, List.forall_mem_cons.mpr ⟨lw_p12, List.forall_mem_cons.mpr ⟨lw_p13, List.forall_mem_cons.mpr ⟨lw_p14, List.forall_mem_cons.mpr ⟨lw_p15, fun _ h => absurd h List.not_mem_nil⟩⟩⟩⟩⟩⟩⟩⟩⟩⟩⟩⟩⟩⟩⟩⟩
theorem lw_p16 : lw_okq (⟨"MailRoomsModel", "isItem", "(I)Z"⟩, 27) := ⟨⟨by decide +kernel, by decide +kernel⟩, List.mem_of_getElem? (i := 380) (by decide +kernel), List.mem_of_getElem? (i := 492) (by decide +kernel), List.mem_of_getElem? (i := 493) (by decide +kernel)⟩
theorem lw_p17 : lw_okq (⟨"MailRoomsModel", "wrongPlace", "(IIZ)I"⟩, 27) := ⟨⟨by decide +kernel, by decide +kernel⟩, List.mem_of_getElem? (i := 380) (by decide +kernel), List.mem_of_getElem? (i := 499) (by decide +kernel), List.mem_of_getElem? (i := 500) (by decide +kernel)⟩
theorem lw_p18 : lw_okq (⟨"MailRoomsModel", "settle", "(IIIZ)V"⟩, 27) := ⟨⟨by decide +kernel, by decide +kernel⟩, List.mem_of_getElem? (i := 380) (by decide +kernel), List.mem_of_getElem? (i := 545) (by decide +kernel), List.mem_of_getElem? (i := 546) (by decide +kernel)⟩
theorem lw_p19 : lw_okq (⟨"MailRoomsModel", "begin", "(II)V"⟩, 27) := ⟨⟨by decide +kernel, by decide +kernel⟩, List.mem_of_getElem? (i := 380) (by decide +kernel), List.mem_of_getElem? (i := 557) (by decide +kernel), List.mem_of_getElem? (i := 558) (by decide +kernel)⟩
theorem lw_p20 : lw_okq (⟨"MailRoomsModel", "split", "(I)V"⟩, 27) := ⟨⟨by decide +kernel, by decide +kernel⟩, List.mem_of_getElem? (i := 380) (by decide +kernel), List.mem_of_getElem? (i := 561) (by decide +kernel), List.mem_of_getElem? (i := 562) (by decide +kernel)⟩
theorem lw_p21 : lw_okq (⟨"MailRoomsModel", "ends", "(I)V"⟩, 27) := ⟨⟨by decide +kernel, by decide +kernel⟩, List.mem_of_getElem? (i := 380) (by decide +kernel), List.mem_of_getElem? (i := 565) (by decide +kernel), List.mem_of_getElem? (i := 566) (by decide +kernel)⟩
theorem lw_p22 : lw_okq (⟨"MailRoomsModel", "comes", "(I)V"⟩, 27) := ⟨⟨by decide +kernel, by decide +kernel⟩, List.mem_of_getElem? (i := 380) (by decide +kernel), List.mem_of_getElem? (i := 569) (by decide +kernel), List.mem_of_getElem? (i := 570) (by decide +kernel)⟩
theorem lw_p23 : lw_okq (⟨"MailRoomsModel", "work", "(II)V"⟩, 27) := ⟨⟨by decide +kernel, by decide +kernel⟩, List.mem_of_getElem? (i := 380) (by decide +kernel), List.mem_of_getElem? (i := 573) (by decide +kernel), List.mem_of_getElem? (i := 574) (by decide +kernel)⟩
theorem lw_p24 : lw_okq (⟨"MailRoomsModel", "turn", "(I)V"⟩, 27) := ⟨⟨by decide +kernel, by decide +kernel⟩, List.mem_of_getElem? (i := 380) (by decide +kernel), List.mem_of_getElem? (i := 577) (by decide +kernel), List.mem_of_getElem? (i := 578) (by decide +kernel)⟩
theorem lw_p25 : lw_okq (⟨"MailRoomsModel", "stampAll", "(I)V"⟩, 27) := ⟨⟨by decide +kernel, by decide +kernel⟩, List.mem_of_getElem? (i := 380) (by decide +kernel), List.mem_of_getElem? (i := 581) (by decide +kernel), List.mem_of_getElem? (i := 582) (by decide +kernel)⟩
theorem lw_p26 : lw_okq (⟨"MailRoomsModel", "stampRow", "(I)V"⟩, 27) := ⟨⟨by decide +kernel, by decide +kernel⟩, List.mem_of_getElem? (i := 380) (by decide +kernel), List.mem_of_getElem? (i := 585) (by decide +kernel), List.mem_of_getElem? (i := 586) (by decide +kernel)⟩
theorem lw_p27 : lw_okq (⟨"MailRoomsModel", "stampLow", "(I)V"⟩, 27) := ⟨⟨by decide +kernel, by decide +kernel⟩, List.mem_of_getElem? (i := 380) (by decide +kernel), List.mem_of_getElem? (i := 589) (by decide +kernel), List.mem_of_getElem? (i := 590) (by decide +kernel)⟩
def lw_privs_2 : List (MethodName × Nat) := [(⟨"MailRoomsModel", "isItem", "(I)Z"⟩, 27), (⟨"MailRoomsModel", "wrongPlace", "(IIZ)I"⟩, 27), (⟨"MailRoomsModel", "settle", "(IIIZ)V"⟩, 27), (⟨"MailRoomsModel", "begin", "(II)V"⟩, 27), (⟨"MailRoomsModel", "split", "(I)V"⟩, 27), (⟨"MailRoomsModel", "ends", "(I)V"⟩, 27), (⟨"MailRoomsModel", "comes", "(I)V"⟩, 27), (⟨"MailRoomsModel", "work", "(II)V"⟩, 27), (⟨"MailRoomsModel", "turn", "(I)V"⟩, 27), (⟨"MailRoomsModel", "stampAll", "(I)V"⟩, 27), (⟨"MailRoomsModel", "stampRow", "(I)V"⟩, 27), (⟨"MailRoomsModel", "stampLow", "(I)V"⟩, 27)]
theorem lw_r2 : ∀ q ∈ lw_privs_2, lw_okq q := List.forall_mem_cons.mpr ⟨lw_p16, List.forall_mem_cons.mpr ⟨lw_p17, List.forall_mem_cons.mpr ⟨lw_p18, List.forall_mem_cons.mpr ⟨lw_p19, List.forall_mem_cons.mpr ⟨lw_p20, List.forall_mem_cons.mpr ⟨lw_p21, List.forall_mem_cons.mpr ⟨lw_p22, List.forall_mem_cons.mpr ⟨lw_p23, List.forall_mem_cons.mpr ⟨lw_p24, List.forall_mem_cons.mpr ⟨lw_p25, List.forall_mem_cons.mpr ⟨lw_p26, List.forall_mem_cons.mpr ⟨lw_p27, fun _ h => absurd h List.not_mem_nil⟩⟩⟩⟩⟩⟩⟩⟩⟩⟩⟩⟩
def lw_privs : List (MethodName × Nat) := lw_privs_1 ++ (lw_privs_2)
def lw_tbl : List Cond := k2_sels lw_privs ++ tables_1
theorem lw_privs_ok : ∀ q ∈ lw_privs, lw_okq q := by
  show ∀ q ∈ lw_privs_1 ++ (lw_privs_2), lw_okq q
  exact List.forall_mem_append.mpr ⟨lw_r1, lw_r2⟩

def RX0 : String := "MailRooms$Desk"
def TX0 : u_T := fun k => match k with
  | 0 => ("MailRooms$Desk", "form", "I", false)
  | 1 => ("MailRooms$Desk", "act", "I", false)
  | 2 => ("MailRooms$Desk", "asks", "Z", false)
  | 3 => ("MailRooms$Desk", "tally", "I", false)
  | 4 => ("MailRooms$Desk", "worked", "I", false)
  | 5 => ("MailRooms$Desk", "held", "LMailRooms$Item;", false)
  | 6 => ("MailRooms$Desk", "givenBackCount", "I", false)
  | 7 => ("MailRooms$Desk", "latestGivenBack", "LMailRooms$Item;", false)
  | _ => ("MailRooms$Desk", "asksInHanding", "I", false)
def tyX0 : Nat → FieldType := fun k => match k with
  | 0 => .int
  | 1 => .int
  | 2 => .boolean
  | 3 => .int
  | 4 => .int
  | 5 => .object "MailRooms$Item"
  | 6 => .int
  | 7 => .object "MailRooms$Item"
  | _ => .int
abbrev wsX00 : List Cond := u_ws RX0 TX0 9
theorem nmX0 : ∀ a, a < 9 → ∀ b, b < 9 → a ≠ b → (TX0 a).2.1 ≠ (TX0 b).2.1 := by decide +kernel
theorem tyX0_ok : ∀ k, k < 9 → parseFieldDescriptor (TX0 k).2.2.1 = some (tyX0 k) := by decide +kernel
abbrev cX0_init : ByteArray := prog_2_method_1_code
def yX0_init : MethodName := ⟨RX0, "<init>", "(IIZ)V"⟩
abbrev cX0_giveBack : ByteArray := prog_2_method_2_code
def yX0_giveBack : MethodName := ⟨RX0, "giveBack", "(LMailRooms$Item;I)V"⟩
abbrev cX0_exchange : ByteArray := prog_2_method_3_code
def yX0_exchange : MethodName := ⟨RX0, "exchange", "(LMailRooms$Item;)LMailRooms$Item;"⟩
def RX1 : String := "MailRooms$Item"
def TX1 : u_T := fun k => match k with
  | _ => ("", "", "", false)
def tyX1 : Nat → FieldType := fun k => match k with
  | _ => .int
abbrev wsX10 : List Cond := u_ws RX1 TX1 0
theorem nmX1 : ∀ a, a < 0 → ∀ b, b < 0 → a ≠ b → (TX1 a).2.1 ≠ (TX1 b).2.1 := by decide +kernel
theorem tyX1_ok : ∀ k, k < 0 → parseFieldDescriptor (TX1 k).2.2.1 = some (tyX1 k) := by decide +kernel
abbrev cX1_init : ByteArray := prog_3_method_1_code
def yX1_init : MethodName := ⟨RX1, "<init>", "(II)V"⟩
abbrev cX1_isOf : ByteArray := prog_3_method_5_code
def yX1_isOf : MethodName := ⟨RX1, "isOf", "(I)Z"⟩
def RX2 : String := "MailRooms$NumberRow"
def TX2 : u_T := fun k => match k with
  | 0 => ("MailRooms$Item", "number", "I", true)
  | 1 => ("MailRooms$Item", "kind", "I", true)
  | _ => ("MailRooms$NumberRow", "numbers", "[J", true)
def tyX2 : Nat → FieldType := fun k => match k with
  | 0 => .int
  | 1 => .int
  | _ => .array .long
abbrev wsX20 : List Cond := u_ws RX2 TX2 3
theorem nmX2 : ∀ a, a < 3 → ∀ b, b < 3 → a ≠ b → (TX2 a).2.1 ≠ (TX2 b).2.1 := by decide +kernel
theorem tyX2_ok : ∀ k, k < 3 → parseFieldDescriptor (TX2 k).2.2.1 = some (tyX2 k) := by decide +kernel
abbrev cX2_init : ByteArray := prog_4_method_1_code
def yX2_init : MethodName := ⟨RX2, "<init>", "(III)V"⟩
abbrev cX2_hasPlace : ByteArray := prog_4_method_2_code
def yX2_hasPlace : MethodName := ⟨RX2, "hasPlace", "(I)Z"⟩
abbrev cX2_write : ByteArray := prog_4_method_3_code
def yX2_write : MethodName := ⟨RX2, "write", "(II)V"⟩
abbrev cX2_read : ByteArray := prog_4_method_4_code
def yX2_read : MethodName := ⟨RX2, "read", "(I)I"⟩
abbrev cX2_places : ByteArray := prog_4_method_5_code
def yX2_places : MethodName := ⟨RX2, "places", "()I"⟩
abbrev cX2_turn : ByteArray := prog_4_method_6_code
def yX2_turn : MethodName := ⟨RX2, "turn", "()V"⟩
abbrev cX2_grow : ByteArray := prog_4_method_7_code
def yX2_grow : MethodName := ⟨RX2, "grow", "(I)V"⟩
abbrev cX2_fit : ByteArray := prog_4_method_8_code
def yX2_fit : MethodName := ⟨RX2, "fit", "(J)J"⟩
def RX3 : String := "MailRooms$Piece"
def TX3 : u_T := fun k => match k with
  | 0 => ("MailRooms$Item", "number", "I", true)
  | 1 => ("MailRooms$Item", "kind", "I", true)
  | _ => ("MailRooms$Piece", "stampCount", "I", false)
def tyX3 : Nat → FieldType := fun k => match k with
  | 0 => .int
  | 1 => .int
  | _ => .int
abbrev wsX30 : List Cond := u_ws RX3 TX3 3
theorem nmX3 : ∀ a, a < 3 → ∀ b, b < 3 → a ≠ b → (TX3 a).2.1 ≠ (TX3 b).2.1 := by decide +kernel
theorem tyX3_ok : ∀ k, k < 3 → parseFieldDescriptor (TX3 k).2.2.1 = some (tyX3 k) := by decide +kernel
abbrev cX3_init : ByteArray := prog_5_method_1_code
def yX3_init : MethodName := ⟨RX3, "<init>", "(II)V"⟩
abbrev cX3_places : ByteArray := prog_5_method_2_code
def yX3_places : MethodName := ⟨RX3, "places", "()I"⟩
abbrev cX3_turn : ByteArray := prog_5_method_3_code
def yX3_turn : MethodName := ⟨RX3, "turn", "()V"⟩
abbrev cX3_grow : ByteArray := prog_5_method_4_code
def yX3_grow : MethodName := ⟨RX3, "grow", "(I)V"⟩
def RX4 : String := "MailRooms$Room"
def TX4 : u_T := fun k => match k with
  | 0 => ("MailRooms$Room", "desks", "[LMailRooms$Desk;", true)
  | _ => ("MailRooms$Room", "deskCount", "I", false)
def tyX4 : Nat → FieldType := fun k => match k with
  | 0 => .array (.object "MailRooms$Desk")
  | _ => .int
abbrev wsX40 : List Cond := u_ws RX4 TX4 2
theorem nmX4 : ∀ a, a < 2 → ∀ b, b < 2 → a ≠ b → (TX4 a).2.1 ≠ (TX4 b).2.1 := by decide +kernel
theorem tyX4_ok : ∀ k, k < 2 → parseFieldDescriptor (TX4 k).2.2.1 = some (tyX4 k) := by decide +kernel
abbrev cX4_init : ByteArray := prog_6_method_1_code
def yX4_init : MethodName := ⟨RX4, "<init>", "()V"⟩
abbrev cX4_findDesk : ByteArray := prog_6_method_2_code
def yX4_findDesk : MethodName := ⟨RX4, "findDesk", "(I)LMailRooms$Desk;"⟩
def RX5 : String := "MailRooms$ThingRow"
def TX5 : u_T := fun k => match k with
  | 0 => ("MailRooms$Item", "number", "I", true)
  | 1 => ("MailRooms$Item", "kind", "I", true)
  | _ => ("MailRooms$ThingRow", "things", "[LMailRooms$Item;", true)
def tyX5 : Nat → FieldType := fun k => match k with
  | 0 => .int
  | 1 => .int
  | _ => .array (.object "MailRooms$Item")
abbrev wsX50 : List Cond := u_ws RX5 TX5 3
theorem nmX5 : ∀ a, a < 3 → ∀ b, b < 3 → a ≠ b → (TX5 a).2.1 ≠ (TX5 b).2.1 := by decide +kernel
theorem tyX5_ok : ∀ k, k < 3 → parseFieldDescriptor (TX5 k).2.2.1 = some (tyX5 k) := by decide +kernel
abbrev cX5_init : ByteArray := prog_7_method_1_code
def yX5_init : MethodName := ⟨RX5, "<init>", "(III)V"⟩
abbrev cX5_hasPlace : ByteArray := prog_7_method_2_code
def yX5_hasPlace : MethodName := ⟨RX5, "hasPlace", "(I)Z"⟩
abbrev cX5_takes : ByteArray := prog_7_method_3_code
def yX5_takes : MethodName := ⟨RX5, "takes", "(LMailRooms$Item;)Z"⟩
abbrev cX5_canHold : ByteArray := prog_7_method_4_code
def yX5_canHold : MethodName := ⟨RX5, "canHold", "(LMailRooms$Item;)Z"⟩
abbrev cX5_takenForm : ByteArray := prog_7_method_5_code
def yX5_takenForm : MethodName := ⟨RX5, "takenForm", "()I"⟩
abbrev cX5_places : ByteArray := prog_7_method_6_code
def yX5_places : MethodName := ⟨RX5, "places", "()I"⟩
abbrev cX5_turn : ByteArray := prog_7_method_7_code
def yX5_turn : MethodName := ⟨RX5, "turn", "()V"⟩
abbrev cX5_grow : ByteArray := prog_7_method_8_code
def yX5_grow : MethodName := ⟨RX5, "grow", "(I)V"⟩
def RX6 : String := "MailRooms"
def TX6 : u_T := fun k => match k with
  | 0 => ("MailRooms", "items", "[LMailRooms$Item;", true)
  | 1 => ("MailRooms", "rooms", "[LMailRooms$Room;", true)
  | 2 => ("MailRooms", "itemCount", "I", false)
  | 3 => ("MailRooms", "handings", "I", false)
  | 4 => ("MailRooms", "works", "I", false)
  | 5 => ("MailRooms", "cameOut", "I", false)
  | 6 => ("MailRooms", "refusal", "I", false)
  | 7 => ("MailRooms", "casts", "I", false)
  | 8 => ("MailRooms", "indexes", "I", false)
  | 9 => ("MailRooms", "stores", "I", false)
  | _ => ("MailRooms", "givenBack", "I", false)
def tyX6 : Nat → FieldType := fun k => match k with
  | 0 => .array (.object "MailRooms$Item")
  | 1 => .array (.object "MailRooms$Room")
  | 2 => .int
  | 3 => .int
  | 4 => .int
  | 5 => .int
  | 6 => .int
  | 7 => .int
  | 8 => .int
  | 9 => .int
  | _ => .int
abbrev wsX60 : List Cond := u_ws RX6 TX6 11
theorem nmX6 : ∀ a, a < 11 → ∀ b, b < 11 → a ≠ b → (TX6 a).2.1 ≠ (TX6 b).2.1 := by decide +kernel
theorem tyX6_ok : ∀ k, k < 11 → parseFieldDescriptor (TX6 k).2.2.1 = some (tyX6 k) := by decide +kernel
abbrev cX6_init : ByteArray := prog_1_method_1_code
def yX6_init : MethodName := ⟨RX6, "<init>", "()V"⟩
abbrev cX6_make : ByteArray := prog_1_method_2_code
def yX6_make : MethodName := ⟨RX6, "make", "(II)I"⟩
abbrev cX6_put : ByteArray := prog_1_method_3_code
def yX6_put : MethodName := ⟨RX6, "put", "(III)I"⟩
abbrev cX6_get : ByteArray := prog_1_method_4_code
def yX6_get : MethodName := ⟨RX6, "get", "(II)I"⟩
abbrev cX6_lay : ByteArray := prog_1_method_5_code
def yX6_lay : MethodName := ⟨RX6, "lay", "(III)I"⟩
abbrev cX6_at : ByteArray := prog_1_method_6_code
def yX6_at : MethodName := ⟨RX6, "at", "(II)I"⟩
abbrev cX6_is : ByteArray := prog_1_method_7_code
def yX6_is : MethodName := ⟨RX6, "is", "(II)I"⟩
abbrev cX6_stamps : ByteArray := prog_1_method_8_code
def yX6_stamps : MethodName := ⟨RX6, "stamps", "(I)I"⟩
abbrev cX6_desk : ByteArray := prog_1_method_9_code
def yX6_desk : MethodName := ⟨RX6, "desk", "(IIIZ)I"⟩
abbrev cX6_change : ByteArray := prog_1_method_10_code
def yX6_change : MethodName := ⟨RX6, "change", "(IIIIZ)I"⟩
abbrev cX6_hand : ByteArray := prog_1_method_11_code
def yX6_hand : MethodName := ⟨RX6, "hand", "(II)I"⟩
abbrev cX6_out : ByteArray := prog_1_method_12_code
def yX6_out : MethodName := ⟨RX6, "out", "()I"⟩
abbrev cX6_told : ByteArray := prog_1_method_13_code
def yX6_told : MethodName := ⟨RX6, "told", "(III)I"⟩
abbrev cX6_count : ByteArray := prog_1_method_14_code
def yX6_count : MethodName := ⟨RX6, "count", "(I)I"⟩
abbrev cX6_refused : ByteArray := prog_1_method_15_code
def yX6_refused : MethodName := ⟨RX6, "refused", "()I"⟩
abbrev cX6_accept : ByteArray := prog_1_method_16_code
def yX6_accept : MethodName := ⟨RX6, "accept", "(I)I"⟩
abbrev cX6_refuse : ByteArray := prog_1_method_17_code
def yX6_refuse : MethodName := ⟨RX6, "refuse", "(I)I"⟩
abbrev cX6_numberRow : ByteArray := prog_1_method_18_code
def yX6_numberRow : MethodName := ⟨RX6, "numberRow", "(II)LMailRooms$NumberRow;"⟩
abbrev cX6_isForm : ByteArray := prog_1_method_19_code
def yX6_isForm : MethodName := ⟨RX6, "isForm", "(I)Z"⟩
abbrev cX6_isAct : ByteArray := prog_1_method_20_code
def yX6_isAct : MethodName := ⟨RX6, "isAct", "(I)Z"⟩
abbrev cX6_isPiece : ByteArray := prog_1_method_21_code
def yX6_isPiece : MethodName := ⟨RX6, "isPiece", "(I)Z"⟩
abbrev cX6_newItem : ByteArray := prog_1_method_22_code
def yX6_newItem : MethodName := ⟨RX6, "newItem", "(III)LMailRooms$Item;"⟩
abbrev cX6_findItem : ByteArray := prog_1_method_23_code
def yX6_findItem : MethodName := ⟨RX6, "findItem", "(I)LMailRooms$Item;"⟩
abbrev cX6_findRoom : ByteArray := prog_1_method_24_code
def yX6_findRoom : MethodName := ⟨RX6, "findRoom", "(I)LMailRooms$Room;"⟩
abbrev cX6_findDesk : ByteArray := prog_1_method_25_code
def yX6_findDesk : MethodName := ⟨RX6, "findDesk", "(II)LMailRooms$Desk;"⟩
abbrev cX6_numberOf : ByteArray := prog_1_method_26_code
def yX6_numberOf : MethodName := ⟨RX6, "numberOf", "(LMailRooms$Item;)I"⟩
abbrev cX6_pass : ByteArray := prog_1_method_27_code
def yX6_pass : MethodName := ⟨RX6, "pass", "(LMailRooms$Item;I)LMailRooms$Item;"⟩
abbrev cX6_meet : ByteArray := prog_1_method_28_code
def yX6_meet : MethodName := ⟨RX6, "meet", "(LMailRooms$Desk;LMailRooms$Item;I)LMailRooms$Item;"⟩
abbrev cX6_work : ByteArray := prog_1_method_29_code
def yX6_work : MethodName := ⟨RX6, "work", "(LMailRooms$Desk;LMailRooms$Item;I)LMailRooms$Item;"⟩
abbrev cX6_split : ByteArray := prog_1_method_30_code
def yX6_split : MethodName := ⟨RX6, "split", "(LMailRooms$Item;I)V"⟩
def RX7 : String := "MailRoomsModel"
def TX7 : u_T := fun k => match k with
  | 0 => ("MailRoomsModel", "items", "I", false)
  | 1 => ("MailRoomsModel", "kind", "[I", true)
  | 2 => ("MailRoomsModel", "size", "[I", true)
  | 3 => ("MailRoomsModel", "stamp", "[I", true)
  | 4 => ("MailRoomsModel", "cell", "[J", true)
  | 5 => ("MailRoomsModel", "desks", "[I", true)
  | 6 => ("MailRoomsModel", "form", "[I", true)
  | 7 => ("MailRoomsModel", "act", "[I", true)
  | 8 => ("MailRoomsModel", "asks", "[Z", true)
  | 9 => ("MailRoomsModel", "tally", "[I", true)
  | 10 => ("MailRoomsModel", "held", "[I", true)
  | 11 => ("MailRoomsModel", "worked", "[I", true)
  | 12 => ("MailRoomsModel", "gave", "[I", true)
  | 13 => ("MailRoomsModel", "gaveLast", "[I", true)
  | 14 => ("MailRoomsModel", "gaveNow", "[Z", true)
  | 15 => ("MailRoomsModel", "refused", "I", false)
  | 16 => ("MailRoomsModel", "casts", "I", false)
  | 17 => ("MailRoomsModel", "indexes", "I", false)
  | 18 => ("MailRoomsModel", "stores", "I", false)
  | 19 => ("MailRoomsModel", "givenBack", "I", false)
  | 20 => ("MailRoomsModel", "out", "I", false)
  | 21 => ("MailRoomsModel", "whose", "[I", true)
  | 22 => ("MailRoomsModel", "room", "[I", true)
  | 23 => ("MailRoomsModel", "at", "[I", true)
  | 24 => ("MailRoomsModel", "place", "[I", true)
  | 25 => ("MailRoomsModel", "depth", "I", false)
  | _ => ("MailRoomsModel", "works", "I", false)
def tyX7 : Nat → FieldType := fun k => match k with
  | 0 => .int
  | 1 => .array .int
  | 2 => .array .int
  | 3 => .array .int
  | 4 => .array .long
  | 5 => .array .int
  | 6 => .array .int
  | 7 => .array .int
  | 8 => .array .boolean
  | 9 => .array .int
  | 10 => .array .int
  | 11 => .array .int
  | 12 => .array .int
  | 13 => .array .int
  | 14 => .array .boolean
  | 15 => .int
  | 16 => .int
  | 17 => .int
  | 18 => .int
  | 19 => .int
  | 20 => .int
  | 21 => .array .int
  | 22 => .array .int
  | 23 => .array .int
  | 24 => .array .int
  | 25 => .int
  | _ => .int
abbrev wsX70 : List Cond := u_ws RX7 TX7 27
theorem nmX7 : ∀ a, a < 27 → ∀ b, b < 27 → a ≠ b → (TX7 a).2.1 ≠ (TX7 b).2.1 := by decide +kernel
theorem tyX7_ok : ∀ k, k < 27 → parseFieldDescriptor (TX7 k).2.2.1 = some (tyX7 k) := by decide +kernel
abbrev cX7_init : ByteArray := prog_9_method_1_code
def yX7_init : MethodName := ⟨RX7, "<init>", "()V"⟩
abbrev cX7_isIn : ByteArray := prog_9_method_2_code
def yX7_isIn : MethodName := ⟨RX7, "isIn", "(III)Z"⟩
abbrev cX7_isItem : ByteArray := prog_9_method_3_code
def yX7_isItem : MethodName := ⟨RX7, "isItem", "(I)Z"⟩
abbrev cX7_refuse : ByteArray := prog_9_method_4_code
def yX7_refuse : MethodName := ⟨RX7, "refuse", "(I)I"⟩
abbrev cX7_goes : ByteArray := prog_9_method_5_code
def yX7_goes : MethodName := ⟨RX7, "goes", "(II)Z"⟩
abbrev cX7_isOne : ByteArray := prog_9_method_6_code
def yX7_isOne : MethodName := ⟨RX7, "isOne", "(I)Z"⟩
abbrev cX7_isOfNumbers : ByteArray := prog_9_method_7_code
def yX7_isOfNumbers : MethodName := ⟨RX7, "isOfNumbers", "(I)Z"⟩
abbrev cX7_isOfThings : ByteArray := prog_9_method_8_code
def yX7_isOfThings : MethodName := ⟨RX7, "isOfThings", "(I)Z"⟩
abbrev cX7_make : ByteArray := prog_9_method_9_code
def yX7_make : MethodName := ⟨RX7, "make", "(II)I"⟩
abbrev cX7_kept : ByteArray := prog_9_method_10_code
def yX7_kept : MethodName := ⟨RX7, "kept", "(IJ)J"⟩
abbrev cX7_wrongPlace : ByteArray := prog_9_method_11_code
def yX7_wrongPlace : MethodName := ⟨RX7, "wrongPlace", "(IIZ)I"⟩
abbrev cX7_put : ByteArray := prog_9_method_12_code
def yX7_put : MethodName := ⟨RX7, "put", "(III)I"⟩
abbrev cX7_get : ByteArray := prog_9_method_13_code
def yX7_get : MethodName := ⟨RX7, "get", "(II)I"⟩
abbrev cX7_wanted : ByteArray := prog_9_method_14_code
def yX7_wanted : MethodName := ⟨RX7, "wanted", "(I)I"⟩
abbrev cX7_holds : ByteArray := prog_9_method_15_code
def yX7_holds : MethodName := ⟨RX7, "holds", "(I)I"⟩
abbrev cX7_lay : ByteArray := prog_9_method_16_code
def yX7_lay : MethodName := ⟨RX7, "lay", "(III)I"⟩
abbrev cX7_at : ByteArray := prog_9_method_17_code
def yX7_at : MethodName := ⟨RX7, "at", "(II)I"⟩
abbrev cX7_is : ByteArray := prog_9_method_18_code
def yX7_is : MethodName := ⟨RX7, "is", "(II)I"⟩
abbrev cX7_stamps : ByteArray := prog_9_method_19_code
def yX7_stamps : MethodName := ⟨RX7, "stamps", "(I)I"⟩
abbrev cX7_isRoom : ByteArray := prog_9_method_20_code
def yX7_isRoom : MethodName := ⟨RX7, "isRoom", "(I)Z"⟩
abbrev cX7_settle : ByteArray := prog_9_method_21_code
def yX7_settle : MethodName := ⟨RX7, "settle", "(IIIZ)V"⟩
abbrev cX7_desk : ByteArray := prog_9_method_22_code
def yX7_desk : MethodName := ⟨RX7, "desk", "(IIIZ)I"⟩
abbrev cX7_change : ByteArray := prog_9_method_23_code
def yX7_change : MethodName := ⟨RX7, "change", "(IIIIZ)I"⟩
abbrev cX7_turn : ByteArray := prog_9_method_24_code
def yX7_turn : MethodName := ⟨RX7, "turn", "(I)V"⟩
abbrev cX7_stampLow : ByteArray := prog_9_method_25_code
def yX7_stampLow : MethodName := ⟨RX7, "stampLow", "(I)V"⟩
abbrev cX7_stampRow : ByteArray := prog_9_method_26_code
def yX7_stampRow : MethodName := ⟨RX7, "stampRow", "(I)V"⟩
abbrev cX7_stampAll : ByteArray := prog_9_method_27_code
def yX7_stampAll : MethodName := ⟨RX7, "stampAll", "(I)V"⟩
abbrev cX7_begin : ByteArray := prog_9_method_28_code
def yX7_begin : MethodName := ⟨RX7, "begin", "(II)V"⟩
abbrev cX7_ends : ByteArray := prog_9_method_29_code
def yX7_ends : MethodName := ⟨RX7, "ends", "(I)V"⟩
abbrev cX7_split : ByteArray := prog_9_method_30_code
def yX7_split : MethodName := ⟨RX7, "split", "(I)V"⟩
abbrev cX7_work : ByteArray := prog_9_method_31_code
def yX7_work : MethodName := ⟨RX7, "work", "(II)V"⟩
abbrev cX7_comes : ByteArray := prog_9_method_32_code
def yX7_comes : MethodName := ⟨RX7, "comes", "(I)V"⟩
abbrev cX7_hand : ByteArray := prog_9_method_33_code
def yX7_hand : MethodName := ⟨RX7, "hand", "(II)I"⟩
abbrev cX7_out : ByteArray := prog_9_method_34_code
def yX7_out : MethodName := ⟨RX7, "out", "()I"⟩
abbrev cX7_told : ByteArray := prog_9_method_35_code
def yX7_told : MethodName := ⟨RX7, "told", "(III)I"⟩
abbrev cX7_count : ByteArray := prog_9_method_36_code
def yX7_count : MethodName := ⟨RX7, "count", "(I)I"⟩
abbrev cX7_refused : ByteArray := prog_9_method_37_code
def yX7_refused : MethodName := ⟨RX7, "refused", "()I"⟩
def RJ9 : String := "java/lang/Math"
def TJ9 : u_T := fun k => match k with
  | _ => ("", "", "", false)
def tyJ9 : Nat → FieldType := fun k => match k with
  | _ => .int
abbrev wsJ90 : List Cond := u_ws RJ9 TJ9 0
theorem nmJ9 : ∀ a, a < 0 → ∀ b, b < 0 → a ≠ b → (TJ9 a).2.1 ≠ (TJ9 b).2.1 := by decide +kernel
theorem tyJ9_ok : ∀ k, k < 0 → parseFieldDescriptor (TJ9 k).2.2.1 = some (tyJ9 k) := by decide +kernel
abbrev cJ9_max_f86c9 : ByteArray := prog_10_method_66_code
def yJ9_max_f86c9 : MethodName := ⟨RJ9, "max", "(JJ)J"⟩
abbrev cJ9_min_f86c9 : ByteArray := prog_10_method_70_code
def yJ9_min_f86c9 : MethodName := ⟨RJ9, "min", "(JJ)J"⟩
def RL : String := "MailRoomsLaw"
abbrev cL_law : ByteArray := code
def yL_law : MethodName := ⟨RL, "law", "([I)Z"⟩
abbrev vwCl : List vw_C := [(RX0, TX0, 9), (RX2, TX2, 3), (RX3, TX3, 3), (RX4, TX4, 2), (RX5, TX5, 3), (RX6, TX6, 11), (RX7, TX7, 27)]
theorem inX0 : ∀ w ∈ wsX00, w ∈ lw_tbl := by decide +kernel
theorem inX1 : ∀ w ∈ wsX10, w ∈ lw_tbl := by decide +kernel
theorem inX2 : ∀ w ∈ wsX20, w ∈ lw_tbl := by decide +kernel
theorem inX3 : ∀ w ∈ wsX30, w ∈ lw_tbl := by decide +kernel
theorem inX4 : ∀ w ∈ wsX40, w ∈ lw_tbl := by decide +kernel
theorem inX5 : ∀ w ∈ wsX50, w ∈ lw_tbl := by decide +kernel
theorem inX6 : ∀ w ∈ wsX60, w ∈ lw_tbl := by decide +kernel
theorem inX7 : ∀ w ∈ wsX70, w ∈ lw_tbl := by decide +kernel
