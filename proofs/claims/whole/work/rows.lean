section
-- ===== PART A: goes FIRST, ahead of the names: the tables' words, and 'selects' of the private methods out of them =====
/-- a private method of a class that the tables say can be made, by its rows of tables_1 -/
def lw_okq (q : MethodName × Nat) : Prop := (q.1.cls ≠ "java/lang/invoke/MethodHandle" ∧ q.1.cls ≠ "java/lang/invoke/VarHandle") ∧ Cond.instantiable q.1.cls q.2 ∈ tables_1 ∧ Cond.privateMethod q.1 ∈ tables_1 ∧ Cond.instanceMethod q.1 ∈ tables_1
theorem lw_p0 : lw_okq (⟨"SilentAfter$Text", "takes", "(I)Z"⟩, 8) := ⟨⟨by decide +kernel, by decide +kernel⟩, List.mem_of_getElem? (i := 97) (by decide +kernel), List.mem_of_getElem? (i := 235) (by decide +kernel), List.mem_of_getElem? (i := 236) (by decide +kernel)⟩
theorem lw_p1 : lw_okq (⟨"SilentAfter$Text", "beginsPart", "(I)Z"⟩, 8) := ⟨⟨by decide +kernel, by decide +kernel⟩, List.mem_of_getElem? (i := 97) (by decide +kernel), List.mem_of_getElem? (i := 240) (by decide +kernel), List.mem_of_getElem? (i := 241) (by decide +kernel)⟩
theorem lw_p2 : lw_okq (⟨"SilentAfter$Text", "addPart", "(II)V"⟩, 8) := ⟨⟨by decide +kernel, by decide +kernel⟩, List.mem_of_getElem? (i := 97) (by decide +kernel), List.mem_of_getElem? (i := 244) (by decide +kernel), List.mem_of_getElem? (i := 245) (by decide +kernel)⟩
theorem lw_p3 : lw_okq (⟨"SilentAfter", "refuseText", "()I"⟩, 7) := ⟨⟨by decide +kernel, by decide +kernel⟩, List.mem_of_getElem? (i := 11) (by decide +kernel), List.mem_of_getElem? (i := 252) (by decide +kernel), List.mem_of_getElem? (i := 253) (by decide +kernel)⟩
theorem lw_p4 : lw_okq (⟨"SilentAfter$Text", "partGoesBy", "(ILSilentAfter$Valley;[I)Z"⟩, 8) := ⟨⟨by decide +kernel, by decide +kernel⟩, List.mem_of_getElem? (i := 97) (by decide +kernel), List.mem_of_getElem? (i := 271) (by decide +kernel), List.mem_of_getElem? (i := 272) (by decide +kernel)⟩
theorem lw_p5 : lw_okq (⟨"SilentAfter$Valley", "pass", "(II)V"⟩, 4) := ⟨⟨by decide +kernel, by decide +kernel⟩, List.mem_of_getElem? (i := 25) (by decide +kernel), List.mem_of_getElem? (i := 286) (by decide +kernel), List.mem_of_getElem? (i := 287) (by decide +kernel)⟩
theorem lw_p6 : lw_okq (⟨"SilentAfter", "tryText", "()I"⟩, 7) := ⟨⟨by decide +kernel, by decide +kernel⟩, List.mem_of_getElem? (i := 11) (by decide +kernel), List.mem_of_getElem? (i := 315) (by decide +kernel), List.mem_of_getElem? (i := 316) (by decide +kernel)⟩
theorem lw_p7 : lw_okq (⟨"SilentAfter$Search", "valleyAt", "(I)LSilentAfter$Valley;"⟩, 8) := ⟨⟨by decide +kernel, by decide +kernel⟩, List.mem_of_getElem? (i := 130) (by decide +kernel), List.mem_of_getElem? (i := 387) (by decide +kernel), List.mem_of_getElem? (i := 388) (by decide +kernel)⟩
theorem lw_p8 : lw_okq (⟨"SilentAfter$Search", "goOn", "(LSilentAfter$Talk;I)V"⟩, 8) := ⟨⟨by decide +kernel, by decide +kernel⟩, List.mem_of_getElem? (i := 130) (by decide +kernel), List.mem_of_getElem? (i := 393) (by decide +kernel), List.mem_of_getElem? (i := 394) (by decide +kernel)⟩
theorem lw_p9 : lw_okq (⟨"SilentAfter$Search", "leastSeconds", "(LSilentAfter$Talk;LSilentAfter$Valley;)I"⟩, 8) := ⟨⟨by decide +kernel, by decide +kernel⟩, List.mem_of_getElem? (i := 130) (by decide +kernel), List.mem_of_getElem? (i := 397) (by decide +kernel), List.mem_of_getElem? (i := 398) (by decide +kernel)⟩
theorem lw_p10 : lw_okq (⟨"SilentAfter$Search", "mayBeSaid", "(LSilentAfter$Talk;I)Z"⟩, 8) := ⟨⟨by decide +kernel, by decide +kernel⟩, List.mem_of_getElem? (i := 130) (by decide +kernel), List.mem_of_getElem? (i := 416) (by decide +kernel), List.mem_of_getElem? (i := 417) (by decide +kernel)⟩
theorem lw_p11 : lw_okq (⟨"SilentAfter$Search", "sayNext", "(LSilentAfter$Talk;ILSilentAfter$Valley;I)V"⟩, 8) := ⟨⟨by decide +kernel, by decide +kernel⟩, List.mem_of_getElem? (i := 130) (by decide +kernel), List.mem_of_getElem? (i := 424) (by decide +kernel), List.mem_of_getElem? (i := 425) (by decide +kernel)⟩
theorem lw_p12 : lw_okq (⟨"SilentAfter", "writePeople", "(II)V"⟩, 7) := ⟨⟨by decide +kernel, by decide +kernel⟩, List.mem_of_getElem? (i := 11) (by decide +kernel), List.mem_of_getElem? (i := 485) (by decide +kernel), List.mem_of_getElem? (i := 486) (by decide +kernel)⟩
theorem lw_p13 : lw_okq (⟨"SilentAfter", "isFilledRightly", "()Z"⟩, 7) := ⟨⟨by decide +kernel, by decide +kernel⟩, List.mem_of_getElem? (i := 11) (by decide +kernel), List.mem_of_getElem? (i := 490) (by decide +kernel), List.mem_of_getElem? (i := 491) (by decide +kernel)⟩
theorem lw_p14 : lw_okq (⟨"SilentAfter", "imageOf", "(I)LSilentAfter$Scene;"⟩, 7) := ⟨⟨by decide +kernel, by decide +kernel⟩, List.mem_of_getElem? (i := 11) (by decide +kernel), List.mem_of_getElem? (i := 528) (by decide +kernel), List.mem_of_getElem? (i := 529) (by decide +kernel)⟩
theorem lw_p15 : lw_okq (⟨"SilentAfterModel", "faultOf", "()I"⟩, 20) := ⟨⟨by decide +kernel, by decide +kernel⟩, List.mem_of_getElem? (i := 563) (by decide +kernel), List.mem_of_getElem? (i := 650) (by decide +kernel), List.mem_of_getElem? (i := 651) (by decide +kernel)⟩
def lw_privs_1 : List (MethodName × Nat) := [(⟨"SilentAfter$Text", "takes", "(I)Z"⟩, 8), (⟨"SilentAfter$Text", "beginsPart", "(I)Z"⟩, 8), (⟨"SilentAfter$Text", "addPart", "(II)V"⟩, 8), (⟨"SilentAfter", "refuseText", "()I"⟩, 7), (⟨"SilentAfter$Text", "partGoesBy", "(ILSilentAfter$Valley;[I)Z"⟩, 8), (⟨"SilentAfter$Valley", "pass", "(II)V"⟩, 4), (⟨"SilentAfter", "tryText", "()I"⟩, 7), (⟨"SilentAfter$Search", "valleyAt", "(I)LSilentAfter$Valley;"⟩, 8), (⟨"SilentAfter$Search", "goOn", "(LSilentAfter$Talk;I)V"⟩, 8), (⟨"SilentAfter$Search", "leastSeconds", "(LSilentAfter$Talk;LSilentAfter$Valley;)I"⟩, 8), (⟨"SilentAfter$Search", "mayBeSaid", "(LSilentAfter$Talk;I)Z"⟩, 8), (⟨"SilentAfter$Search", "sayNext", "(LSilentAfter$Talk;ILSilentAfter$Valley;I)V"⟩, 8), (⟨"SilentAfter", "writePeople", "(II)V"⟩, 7), (⟨"SilentAfter", "isFilledRightly", "()Z"⟩, 7), (⟨"SilentAfter", "imageOf", "(I)LSilentAfter$Scene;"⟩, 7), (⟨"SilentAfterModel", "faultOf", "()I"⟩, 20)]
theorem lw_r1 : ∀ q ∈ lw_privs_1, lw_okq q := List.forall_mem_cons.mpr ⟨lw_p0, List.forall_mem_cons.mpr ⟨lw_p1, List.forall_mem_cons.mpr ⟨lw_p2, List.forall_mem_cons.mpr ⟨lw_p3, List.forall_mem_cons.mpr ⟨lw_p4, List.forall_mem_cons.mpr ⟨lw_p5, List.forall_mem_cons.mpr ⟨lw_p6, List.forall_mem_cons.mpr ⟨lw_p7, List.forall_mem_cons.mpr ⟨lw_p8, List.forall_mem_cons.mpr ⟨lw_p9, List.forall_mem_cons.mpr ⟨lw_p10, List.forall_mem_cons.mpr ⟨lw_p11, List.forall_mem_cons.mpr ⟨lw_p12, List.forall_mem_cons.mpr ⟨lw_p13, List.forall_mem_cons.mpr ⟨lw_p14, List.forall_mem_cons.mpr ⟨lw_p15, fun _ h => absurd h List.not_mem_nil⟩⟩⟩⟩⟩⟩⟩⟩⟩⟩⟩⟩⟩⟩⟩⟩
theorem lw_p16 : lw_okq (⟨"SilentAfterModel", "opens", "()I"⟩, 20) := ⟨⟨by decide +kernel, by decide +kernel⟩, List.mem_of_getElem? (i := 563) (by decide +kernel), List.mem_of_getElem? (i := 658) (by decide +kernel), List.mem_of_getElem? (i := 659) (by decide +kernel)⟩
theorem lw_p17 : lw_okq (⟨"SilentAfterModel", "goText", "(I)I"⟩, 20) := ⟨⟨by decide +kernel, by decide +kernel⟩, List.mem_of_getElem? (i := 563) (by decide +kernel), List.mem_of_getElem? (i := 662) (by decide +kernel), List.mem_of_getElem? (i := 663) (by decide +kernel)⟩
theorem lw_p18 : lw_okq (⟨"SilentAfterModel", "asNow", "()V"⟩, 20) := ⟨⟨by decide +kernel, by decide +kernel⟩, List.mem_of_getElem? (i := 563) (by decide +kernel), List.mem_of_getElem? (i := 666) (by decide +kernel), List.mem_of_getElem? (i := 667) (by decide +kernel)⟩
theorem lw_p19 : lw_okq (⟨"SilentAfterModel", "number", "(I)I"⟩, 20) := ⟨⟨by decide +kernel, by decide +kernel⟩, List.mem_of_getElem? (i := 563) (by decide +kernel), List.mem_of_getElem? (i := 670) (by decide +kernel), List.mem_of_getElem? (i := 671) (by decide +kernel)⟩
theorem lw_p20 : lw_okq (⟨"SilentAfterModel", "watch", "(II)V"⟩, 20) := ⟨⟨by decide +kernel, by decide +kernel⟩, List.mem_of_getElem? (i := 563) (by decide +kernel), List.mem_of_getElem? (i := 674) (by decide +kernel), List.mem_of_getElem? (i := 675) (by decide +kernel)⟩
theorem lw_p21 : lw_okq (⟨"SilentAfterModel", "pass", "(II)V"⟩, 20) := ⟨⟨by decide +kernel, by decide +kernel⟩, List.mem_of_getElem? (i := 563) (by decide +kernel), List.mem_of_getElem? (i := 678) (by decide +kernel), List.mem_of_getElem? (i := 679) (by decide +kernel)⟩
theorem lw_p22 : lw_okq (⟨"SilentAfterModel", "less", "(II)I"⟩, 20) := ⟨⟨by decide +kernel, by decide +kernel⟩, List.mem_of_getElem? (i := 563) (by decide +kernel), List.mem_of_getElem? (i := 682) (by decide +kernel), List.mem_of_getElem? (i := 683) (by decide +kernel)⟩
theorem lw_p23 : lw_okq (⟨"SilentAfterModel", "speak", "(III)V"⟩, 20) := ⟨⟨by decide +kernel, by decide +kernel⟩, List.mem_of_getElem? (i := 563) (by decide +kernel), List.mem_of_getElem? (i := 686) (by decide +kernel), List.mem_of_getElem? (i := 687) (by decide +kernel)⟩
theorem lw_p24 : lw_okq (⟨"SilentAfterModel", "barOfText", "()I"⟩, 20) := ⟨⟨by decide +kernel, by decide +kernel⟩, List.mem_of_getElem? (i := 563) (by decide +kernel), List.mem_of_getElem? (i := 694) (by decide +kernel), List.mem_of_getElem? (i := 695) (by decide +kernel)⟩
theorem lw_p25 : lw_okq (⟨"SilentAfterModel", "layTalk", "(II)V"⟩, 20) := ⟨⟨by decide +kernel, by decide +kernel⟩, List.mem_of_getElem? (i := 563) (by decide +kernel), List.mem_of_getElem? (i := 729) (by decide +kernel), List.mem_of_getElem? (i := 730) (by decide +kernel)⟩
theorem lw_p26 : lw_okq (⟨"SilentAfterModel", "keepsOrder", "()Z"⟩, 20) := ⟨⟨by decide +kernel, by decide +kernel⟩, List.mem_of_getElem? (i := 563) (by decide +kernel), List.mem_of_getElem? (i := 733) (by decide +kernel), List.mem_of_getElem? (i := 734) (by decide +kernel)⟩
theorem lw_p27 : lw_okq (⟨"SilentAfterModel", "nextRow", "(I)Z"⟩, 20) := ⟨⟨by decide +kernel, by decide +kernel⟩, List.mem_of_getElem? (i := 563) (by decide +kernel), List.mem_of_getElem? (i := 737) (by decide +kernel), List.mem_of_getElem? (i := 738) (by decide +kernel)⟩
theorem lw_p28 : lw_okq (⟨"SilentAfterModel", "change", "(II)V"⟩, 20) := ⟨⟨by decide +kernel, by decide +kernel⟩, List.mem_of_getElem? (i := 563) (by decide +kernel), List.mem_of_getElem? (i := 741) (by decide +kernel), List.mem_of_getElem? (i := 742) (by decide +kernel)⟩
theorem lw_p29 : lw_okq (⟨"SilentAfterModel", "allSeconds", "()I"⟩, 20) := ⟨⟨by decide +kernel, by decide +kernel⟩, List.mem_of_getElem? (i := 563) (by decide +kernel), List.mem_of_getElem? (i := 745) (by decide +kernel), List.mem_of_getElem? (i := 746) (by decide +kernel)⟩
def lw_privs_2 : List (MethodName × Nat) := [(⟨"SilentAfterModel", "opens", "()I"⟩, 20), (⟨"SilentAfterModel", "goText", "(I)I"⟩, 20), (⟨"SilentAfterModel", "asNow", "()V"⟩, 20), (⟨"SilentAfterModel", "number", "(I)I"⟩, 20), (⟨"SilentAfterModel", "watch", "(II)V"⟩, 20), (⟨"SilentAfterModel", "pass", "(II)V"⟩, 20), (⟨"SilentAfterModel", "less", "(II)I"⟩, 20), (⟨"SilentAfterModel", "speak", "(III)V"⟩, 20), (⟨"SilentAfterModel", "barOfText", "()I"⟩, 20), (⟨"SilentAfterModel", "layTalk", "(II)V"⟩, 20), (⟨"SilentAfterModel", "keepsOrder", "()Z"⟩, 20), (⟨"SilentAfterModel", "nextRow", "(I)Z"⟩, 20), (⟨"SilentAfterModel", "change", "(II)V"⟩, 20), (⟨"SilentAfterModel", "allSeconds", "()I"⟩, 20)]
theorem lw_r2 : ∀ q ∈ lw_privs_2, lw_okq q := List.forall_mem_cons.mpr ⟨lw_p16, List.forall_mem_cons.mpr ⟨lw_p17, List.forall_mem_cons.mpr ⟨lw_p18, List.forall_mem_cons.mpr ⟨lw_p19, List.forall_mem_cons.mpr ⟨lw_p20, List.forall_mem_cons.mpr ⟨lw_p21, List.forall_mem_cons.mpr ⟨lw_p22, List.forall_mem_cons.mpr ⟨lw_p23, List.forall_mem_cons.mpr ⟨lw_p24, List.forall_mem_cons.mpr ⟨lw_p25, List.forall_mem_cons.mpr ⟨lw_p26, List.forall_mem_cons.mpr ⟨lw_p27, List.forall_mem_cons.mpr ⟨lw_p28, List.forall_mem_cons.mpr ⟨lw_p29, fun _ h => absurd h List.not_mem_nil⟩⟩⟩⟩⟩⟩⟩⟩⟩⟩⟩⟩⟩⟩
def lw_privs : List (MethodName × Nat) := lw_privs_1 ++ (lw_privs_2)
def lw_tbl : List Cond := k2_sels lw_privs ++ tables_1
theorem lw_privs_ok : ∀ q ∈ lw_privs, lw_okq q := by
  show ∀ q ∈ lw_privs_1 ++ (lw_privs_2), lw_okq q
  exact List.forall_mem_append.mpr ⟨lw_r1, lw_r2⟩
end
section
def RX0 : String := "SilentAfter$Scene"
def TX0 : u_T := fun k => match k with
  | 0 => ("SilentAfter$Scene", "valley", "LSilentAfter$Valley;", true)
  | 1 => ("SilentAfter$Scene", "talk", "LSilentAfter$Talk;", true)
  | 2 => ("SilentAfter$Scene", "sights", "LSilentAfter$Sights;", true)
  | _ => ("SilentAfter$Scene", "kept", "Z", false)
def tyX0 : Nat → FieldType := fun k => match k with
  | 0 => .object "SilentAfter$Valley"
  | 1 => .object "SilentAfter$Talk"
  | 2 => .object "SilentAfter$Sights"
  | _ => .boolean
abbrev wsX00 : List Cond := u_ws RX0 TX0 4
theorem nmX0 : ∀ a, a < 4 → ∀ b, b < 4 → a ≠ b → (TX0 a).2.1 ≠ (TX0 b).2.1 := by decide +kernel
theorem tyX0_ok : ∀ k, k < 4 → parseFieldDescriptor (TX0 k).2.2.1 = some (tyX0 k) := by decide +kernel
abbrev cX0_init : ByteArray := prog_2_method_1_code
def yX0_init : MethodName := ⟨RX0, "<init>", "()V"⟩
abbrev cX0_copy : ByteArray := prog_2_method_2_code
def yX0_copy : MethodName := ⟨RX0, "copy", "(LSilentAfter$Scene;)V"⟩
def RX1 : String := "SilentAfter$Search"
def TX1 : u_T := fun k => match k with
  | 0 => ("SilentAfter$Search", "valleys", "[LSilentAfter$Valley;", true)
  | 1 => ("SilentAfter$Search", "said", "[I", true)
  | 2 => ("SilentAfter$Search", "order", "[I", true)
  | 3 => ("SilentAfter$Search", "bestOrder", "[I", true)
  | 4 => ("SilentAfter$Search", "left", "[I", true)
  | 5 => ("SilentAfter$Search", "longest", "[I", true)
  | 6 => ("SilentAfter$Search", "start", "I", false)
  | _ => ("SilentAfter$Search", "fewest", "I", false)
def tyX1 : Nat → FieldType := fun k => match k with
  | 0 => .array (.object "SilentAfter$Valley")
  | 1 => .array .int
  | 2 => .array .int
  | 3 => .array .int
  | 4 => .array .int
  | 5 => .array .int
  | 6 => .int
  | _ => .int
abbrev wsX10 : List Cond := u_ws RX1 TX1 8
theorem nmX1 : ∀ a, a < 8 → ∀ b, b < 8 → a ≠ b → (TX1 a).2.1 ≠ (TX1 b).2.1 := by decide +kernel
theorem tyX1_ok : ∀ k, k < 8 → parseFieldDescriptor (TX1 k).2.2.1 = some (tyX1 k) := by decide +kernel
abbrev cX1_init : ByteArray := prog_3_method_1_code
def yX1_init : MethodName := ⟨RX1, "<init>", "()V"⟩
abbrev cX1_fewestSeconds : ByteArray := prog_3_method_2_code
def yX1_fewestSeconds : MethodName := ⟨RX1, "fewestSeconds", "(LSilentAfter$Talk;LSilentAfter$Valley;I)I"⟩
abbrev cX1_placed : ByteArray := prog_3_method_3_code
def yX1_placed : MethodName := ⟨RX1, "placed", "(I)I"⟩
abbrev cX1_goOn : ByteArray := prog_3_method_4_code
def yX1_goOn : MethodName := ⟨RX1, "goOn", "(LSilentAfter$Talk;I)V"⟩
abbrev cX1_sayNext : ByteArray := prog_3_method_5_code
def yX1_sayNext : MethodName := ⟨RX1, "sayNext", "(LSilentAfter$Talk;ILSilentAfter$Valley;I)V"⟩
abbrev cX1_valleyAt : ByteArray := prog_3_method_6_code
def yX1_valleyAt : MethodName := ⟨RX1, "valleyAt", "(I)LSilentAfter$Valley;"⟩
abbrev cX1_mayBeSaid : ByteArray := prog_3_method_7_code
def yX1_mayBeSaid : MethodName := ⟨RX1, "mayBeSaid", "(LSilentAfter$Talk;I)Z"⟩
abbrev cX1_leastSeconds : ByteArray := prog_3_method_8_code
def yX1_leastSeconds : MethodName := ⟨RX1, "leastSeconds", "(LSilentAfter$Talk;LSilentAfter$Valley;)I"⟩
def RX2 : String := "SilentAfter$Sights"
def TX2 : u_T := fun k => match k with
  | 0 => ("SilentAfter$Sights", "people", "[I", true)
  | 1 => ("SilentAfter$Sights", "values", "[I", true)
  | _ => ("SilentAfter$Sights", "count", "I", false)
def tyX2 : Nat → FieldType := fun k => match k with
  | 0 => .array .int
  | 1 => .array .int
  | _ => .int
abbrev wsX20 : List Cond := u_ws RX2 TX2 3
theorem nmX2 : ∀ a, a < 3 → ∀ b, b < 3 → a ≠ b → (TX2 a).2.1 ≠ (TX2 b).2.1 := by decide +kernel
theorem tyX2_ok : ∀ k, k < 3 → parseFieldDescriptor (TX2 k).2.2.1 = some (tyX2 k) := by decide +kernel
abbrev cX2_init : ByteArray := prog_4_method_1_code
def yX2_init : MethodName := ⟨RX2, "<init>", "()V"⟩
abbrev cX2_count : ByteArray := prog_4_method_2_code
def yX2_count : MethodName := ⟨RX2, "count", "()I"⟩
abbrev cX2_append : ByteArray := prog_4_method_3_code
def yX2_append : MethodName := ⟨RX2, "append", "(II)Z"⟩
abbrev cX2_clear : ByteArray := prog_4_method_4_code
def yX2_clear : MethodName := ⟨RX2, "clear", "()I"⟩
abbrev cX2_hold : ByteArray := prog_4_method_5_code
def yX2_hold : MethodName := ⟨RX2, "hold", "(LSilentAfter$Valley;)Z"⟩
abbrev cX2_copy : ByteArray := prog_4_method_6_code
def yX2_copy : MethodName := ⟨RX2, "copy", "(LSilentAfter$Sights;)V"⟩
def RX3 : String := "SilentAfter$Talk"
def TX3 : u_T := fun k => match k with
  | 0 => ("SilentAfter$Talk", "speakers", "[I", true)
  | 1 => ("SilentAfter$Talk", "seconds", "[I", true)
  | 2 => ("SilentAfter$Talk", "aheads", "[I", true)
  | _ => ("SilentAfter$Talk", "count", "I", false)
def tyX3 : Nat → FieldType := fun k => match k with
  | 0 => .array .int
  | 1 => .array .int
  | 2 => .array .int
  | _ => .int
abbrev wsX30 : List Cond := u_ws RX3 TX3 4
theorem nmX3 : ∀ a, a < 4 → ∀ b, b < 4 → a ≠ b → (TX3 a).2.1 ≠ (TX3 b).2.1 := by decide +kernel
theorem tyX3_ok : ∀ k, k < 4 → parseFieldDescriptor (TX3 k).2.2.1 = some (tyX3 k) := by decide +kernel
abbrev cX3_init : ByteArray := prog_5_method_1_code
def yX3_init : MethodName := ⟨RX3, "<init>", "()V"⟩
abbrev cX3_count : ByteArray := prog_5_method_2_code
def yX3_count : MethodName := ⟨RX3, "count", "()I"⟩
abbrev cX3_speaker : ByteArray := prog_5_method_3_code
def yX3_speaker : MethodName := ⟨RX3, "speaker", "(I)I"⟩
abbrev cX3_seconds : ByteArray := prog_5_method_4_code
def yX3_seconds : MethodName := ⟨RX3, "seconds", "(I)I"⟩
abbrev cX3_ahead : ByteArray := prog_5_method_5_code
def yX3_ahead : MethodName := ⟨RX3, "ahead", "(I)I"⟩
abbrev cX3_speech : ByteArray := prog_5_method_6_code
def yX3_speech : MethodName := ⟨RX3, "speech", "()I"⟩
abbrev cX3_append : ByteArray := prog_5_method_7_code
def yX3_append : MethodName := ⟨RX3, "append", "(III)Z"⟩
abbrev cX3_clear : ByteArray := prog_5_method_8_code
def yX3_clear : MethodName := ⟨RX3, "clear", "()I"⟩
abbrev cX3_copy : ByteArray := prog_5_method_9_code
def yX3_copy : MethodName := ⟨RX3, "copy", "(LSilentAfter$Talk;)V"⟩
def RX4 : String := "SilentAfter$Text"
def TX4 : u_T := fun k => match k with
  | 0 => ("SilentAfter$Text", "signs", "[I", true)
  | 1 => ("SilentAfter$Text", "signCount", "I", false)
  | 2 => ("SilentAfter$Text", "speakers", "[I", true)
  | 3 => ("SilentAfter$Text", "fires", "[I", true)
  | 4 => ("SilentAfter$Text", "seconds", "[I", true)
  | 5 => ("SilentAfter$Text", "parts", "I", false)
  | 6 => ("SilentAfter$Text", "asked", "I", false)
  | _ => ("SilentAfter$Text", "next", "I", false)
def tyX4 : Nat → FieldType := fun k => match k with
  | 0 => .array .int
  | 1 => .int
  | 2 => .array .int
  | 3 => .array .int
  | 4 => .array .int
  | 5 => .int
  | 6 => .int
  | _ => .int
abbrev wsX40 : List Cond := u_ws RX4 TX4 8
theorem nmX4 : ∀ a, a < 8 → ∀ b, b < 8 → a ≠ b → (TX4 a).2.1 ≠ (TX4 b).2.1 := by decide +kernel
theorem tyX4_ok : ∀ k, k < 8 → parseFieldDescriptor (TX4 k).2.2.1 = some (tyX4 k) := by decide +kernel
abbrev cX4_init : ByteArray := prog_6_method_1_code
def yX4_init : MethodName := ⟨RX4, "<init>", "()V"⟩
abbrev cX4_signCount : ByteArray := prog_6_method_2_code
def yX4_signCount : MethodName := ⟨RX4, "signCount", "()I"⟩
abbrev cX4_asked : ByteArray := prog_6_method_3_code
def yX4_asked : MethodName := ⟨RX4, "asked", "()I"⟩
abbrev cX4_append : ByteArray := prog_6_method_4_code
def yX4_append : MethodName := ⟨RX4, "append", "(I)Z"⟩
abbrev cX4_clear : ByteArray := prog_6_method_5_code
def yX4_clear : MethodName := ⟨RX4, "clear", "()I"⟩
abbrev cX4_read : ByteArray := prog_6_method_6_code
def yX4_read : MethodName := ⟨RX4, "read", "()I"⟩
abbrev cX4_goesBy : ByteArray := prog_6_method_7_code
def yX4_goesBy : MethodName := ⟨RX4, "goesBy", "(LSilentAfter$Valley;[I)I"⟩
abbrev cX4_readySeconds : ByteArray := prog_6_method_8_code
def yX4_readySeconds : MethodName := ⟨RX4, "readySeconds", "(ILSilentAfter$Valley;[I)I"⟩
abbrev cX4_partGoesBy : ByteArray := prog_6_method_9_code
def yX4_partGoesBy : MethodName := ⟨RX4, "partGoesBy", "(ILSilentAfter$Valley;[I)Z"⟩
abbrev cX4_takes : ByteArray := prog_6_method_10_code
def yX4_takes : MethodName := ⟨RX4, "takes", "(I)Z"⟩
abbrev cX4_beginsPart : ByteArray := prog_6_method_11_code
def yX4_beginsPart : MethodName := ⟨RX4, "beginsPart", "(I)Z"⟩
abbrev cX4_addPart : ByteArray := prog_6_method_12_code
def yX4_addPart : MethodName := ⟨RX4, "addPart", "(II)V"⟩
def RX5 : String := "SilentAfter$Valley"
def TX5 : u_T := fun k => match k with
  | 0 => ("SilentAfter$Valley", "glasses", "[I", true)
  | 1 => ("SilentAfter$Valley", "time", "I", false)
  | 2 => ("SilentAfter$Valley", "bound", "I", false)
  | _ => ("SilentAfter$Valley", "fire", "I", false)
def tyX5 : Nat → FieldType := fun k => match k with
  | 0 => .array .int
  | 1 => .int
  | 2 => .int
  | _ => .int
abbrev wsX50 : List Cond := u_ws RX5 TX5 4
theorem nmX5 : ∀ a, a < 4 → ∀ b, b < 4 → a ≠ b → (TX5 a).2.1 ≠ (TX5 b).2.1 := by decide +kernel
theorem tyX5_ok : ∀ k, k < 4 → parseFieldDescriptor (TX5 k).2.2.1 = some (tyX5 k) := by decide +kernel
abbrev cX5_init : ByteArray := prog_7_method_1_code
def yX5_init : MethodName := ⟨RX5, "<init>", "()V"⟩
abbrev cX5_time : ByteArray := prog_7_method_2_code
def yX5_time : MethodName := ⟨RX5, "time", "()I"⟩
abbrev cX5_bound : ByteArray := prog_7_method_3_code
def yX5_bound : MethodName := ⟨RX5, "bound", "()I"⟩
abbrev cX5_fire : ByteArray := prog_7_method_4_code
def yX5_fire : MethodName := ⟨RX5, "fire", "()I"⟩
abbrev cX5_glass : ByteArray := prog_7_method_5_code
def yX5_glass : MethodName := ⟨RX5, "glass", "(I)I"⟩
abbrev cX5_changeBound : ByteArray := prog_7_method_6_code
def yX5_changeBound : MethodName := ⟨RX5, "changeBound", "(I)I"⟩
abbrev cX5_changeFire : ByteArray := prog_7_method_7_code
def yX5_changeFire : MethodName := ⟨RX5, "changeFire", "(I)I"⟩
abbrev cX5_isFree : ByteArray := prog_7_method_8_code
def yX5_isFree : MethodName := ⟨RX5, "isFree", "(I)Z"⟩
abbrev cX5_waitOf : ByteArray := prog_7_method_9_code
def yX5_waitOf : MethodName := ⟨RX5, "waitOf", "(I)I"⟩
abbrev cX5_speak : ByteArray := prog_7_method_10_code
def yX5_speak : MethodName := ⟨RX5, "speak", "(II)V"⟩
abbrev cX5_callFire : ByteArray := prog_7_method_11_code
def yX5_callFire : MethodName := ⟨RX5, "callFire", "(II)V"⟩
abbrev cX5_keepSilence : ByteArray := prog_7_method_12_code
def yX5_keepSilence : MethodName := ⟨RX5, "keepSilence", "(I)V"⟩
abbrev cX5_sleep : ByteArray := prog_7_method_13_code
def yX5_sleep : MethodName := ⟨RX5, "sleep", "()V"⟩
abbrev cX5_lend : ByteArray := prog_7_method_14_code
def yX5_lend : MethodName := ⟨RX5, "lend", "(II)V"⟩
abbrev cX5_receive : ByteArray := prog_7_method_15_code
def yX5_receive : MethodName := ⟨RX5, "receive", "(II)I"⟩
abbrev cX5_copy : ByteArray := prog_7_method_16_code
def yX5_copy : MethodName := ⟨RX5, "copy", "(LSilentAfter$Valley;)V"⟩
abbrev cX5_pass : ByteArray := prog_7_method_17_code
def yX5_pass : MethodName := ⟨RX5, "pass", "(II)V"⟩
def RX6 : String := "SilentAfter"
def TX6 : u_T := fun k => match k with
  | 0 => ("SilentAfter", "now", "LSilentAfter$Scene;", true)
  | 1 => ("SilentAfter", "firstImage", "LSilentAfter$Scene;", true)
  | 2 => ("SilentAfter", "secondImage", "LSilentAfter$Scene;", true)
  | 3 => ("SilentAfter", "text", "LSilentAfter$Text;", true)
  | 4 => ("SilentAfter", "trial", "LSilentAfter$Valley;", true)
  | 5 => ("SilentAfter", "search", "LSilentAfter$Search;", true)
  | _ => ("SilentAfter", "people", "[I", true)
def tyX6 : Nat → FieldType := fun k => match k with
  | 0 => .object "SilentAfter$Scene"
  | 1 => .object "SilentAfter$Scene"
  | 2 => .object "SilentAfter$Scene"
  | 3 => .object "SilentAfter$Text"
  | 4 => .object "SilentAfter$Valley"
  | 5 => .object "SilentAfter$Search"
  | _ => .array .int
abbrev wsX60 : List Cond := u_ws RX6 TX6 7
theorem nmX6 : ∀ a, a < 7 → ∀ b, b < 7 → a ≠ b → (TX6 a).2.1 ≠ (TX6 b).2.1 := by decide +kernel
theorem tyX6_ok : ∀ k, k < 7 → parseFieldDescriptor (TX6 k).2.2.1 = some (tyX6 k) := by decide +kernel
abbrev cX6_init : ByteArray := prog_1_method_1_code
def yX6_init : MethodName := ⟨RX6, "<init>", "()V"⟩
abbrev cX6_set : ByteArray := prog_1_method_2_code
def yX6_set : MethodName := ⟨RX6, "set", "(II)I"⟩
abbrev cX6_say : ByteArray := prog_1_method_3_code
def yX6_say : MethodName := ⟨RX6, "say", "(I)I"⟩
abbrev cX6_wipe : ByteArray := prog_1_method_4_code
def yX6_wipe : MethodName := ⟨RX6, "wipe", "()I"⟩
abbrev cX6_fault : ByteArray := prog_1_method_5_code
def yX6_fault : MethodName := ⟨RX6, "fault", "()I"⟩
abbrev cX6_judge : ByteArray := prog_1_method_6_code
def yX6_judge : MethodName := ⟨RX6, "judge", "()I"⟩
abbrev cX6_done : ByteArray := prog_1_method_7_code
def yX6_done : MethodName := ⟨RX6, "done", "()I"⟩
abbrev cX6_behind : ByteArray := prog_1_method_8_code
def yX6_behind : MethodName := ⟨RX6, "behind", "(I)I"⟩
abbrev cX6_free : ByteArray := prog_1_method_9_code
def yX6_free : MethodName := ⟨RX6, "free", "(I)I"⟩
abbrev cX6_answer : ByteArray := prog_1_method_10_code
def yX6_answer : MethodName := ⟨RX6, "answer", "(II)I"⟩
abbrev cX6_give : ByteArray := prog_1_method_11_code
def yX6_give : MethodName := ⟨RX6, "give", "(III)I"⟩
abbrev cX6_saying : ByteArray := prog_1_method_12_code
def yX6_saying : MethodName := ⟨RX6, "saying", "(III)I"⟩
abbrev cX6_drop : ByteArray := prog_1_method_13_code
def yX6_drop : MethodName := ⟨RX6, "drop", "()I"⟩
abbrev cX6_soonest : ByteArray := prog_1_method_14_code
def yX6_soonest : MethodName := ⟨RX6, "soonest", "(I)I"⟩
abbrev cX6_whom : ByteArray := prog_1_method_15_code
def yX6_whom : MethodName := ⟨RX6, "whom", "(II)I"⟩
abbrev cX6_quarrel : ByteArray := prog_1_method_16_code
def yX6_quarrel : MethodName := ⟨RX6, "quarrel", "(IIIIII)I"⟩
abbrev cX6_length : ByteArray := prog_1_method_17_code
def yX6_length : MethodName := ⟨RX6, "length", "(III)I"⟩
abbrev cX6_seen : ByteArray := prog_1_method_18_code
def yX6_seen : MethodName := ⟨RX6, "seen", "(II)I"⟩
abbrev cX6_forget : ByteArray := prog_1_method_19_code
def yX6_forget : MethodName := ⟨RX6, "forget", "()I"⟩
abbrev cX6_filled : ByteArray := prog_1_method_20_code
def yX6_filled : MethodName := ⟨RX6, "filled", "(I)I"⟩
abbrev cX6_burns : ByteArray := prog_1_method_21_code
def yX6_burns : MethodName := ⟨RX6, "burns", "(II)J"⟩
abbrev cX6_year : ByteArray := prog_1_method_22_code
def yX6_year : MethodName := ⟨RX6, "year", "(III)I"⟩
abbrev cX6_image : ByteArray := prog_1_method_23_code
def yX6_image : MethodName := ⟨RX6, "image", "(I)I"⟩
abbrev cX6_restore : ByteArray := prog_1_method_24_code
def yX6_restore : MethodName := ⟨RX6, "restore", "(I)I"⟩
abbrev cX6_told : ByteArray := prog_1_method_25_code
def yX6_told : MethodName := ⟨RX6, "told", "(I)I"⟩
abbrev cX6_refuseText : ByteArray := prog_1_method_26_code
def yX6_refuseText : MethodName := ⟨RX6, "refuseText", "()I"⟩
abbrev cX6_tryText : ByteArray := prog_1_method_27_code
def yX6_tryText : MethodName := ⟨RX6, "tryText", "()I"⟩
abbrev cX6_isFilledRightly : ByteArray := prog_1_method_28_code
def yX6_isFilledRightly : MethodName := ⟨RX6, "isFilledRightly", "()Z"⟩
abbrev cX6_writePeople : ByteArray := prog_1_method_29_code
def yX6_writePeople : MethodName := ⟨RX6, "writePeople", "(II)V"⟩
abbrev cX6_waysToWrite : ByteArray := prog_1_method_30_code
def yX6_waysToWrite : MethodName := ⟨RX6, "waysToWrite", "(I)I"⟩
abbrev cX6_spokenAlone : ByteArray := prog_1_method_31_code
def yX6_spokenAlone : MethodName := ⟨RX6, "spokenAlone", "(III)I"⟩
abbrev cX6_imageOf : ByteArray := prog_1_method_32_code
def yX6_imageOf : MethodName := ⟨RX6, "imageOf", "(I)LSilentAfter$Scene;"⟩
abbrev cX6_commonDivisor : ByteArray := prog_1_method_33_code
def yX6_commonDivisor : MethodName := ⟨RX6, "commonDivisor", "(II)I"⟩
abbrev cX6_isPerson : ByteArray := prog_1_method_34_code
def yX6_isPerson : MethodName := ⟨RX6, "isPerson", "(I)Z"⟩
abbrev cX6_isWithin : ByteArray := prog_1_method_35_code
def yX6_isWithin : MethodName := ⟨RX6, "isWithin", "(III)Z"⟩
abbrev cX6_at : ByteArray := prog_1_method_36_code
def yX6_at : MethodName := ⟨RX6, "at", "([II)I"⟩
abbrev cX6_put : ByteArray := prog_1_method_37_code
def yX6_put : MethodName := ⟨RX6, "put", "([III)V"⟩
abbrev cX6_copyRow : ByteArray := prog_1_method_38_code
def yX6_copyRow : MethodName := ⟨RX6, "copyRow", "([I[I)V"⟩
def RX7 : String := "SilentAfterModel"
def TX7 : u_T := fun k => match k with
  | 0 => ("SilentAfterModel", "bound", "I", false)
  | 1 => ("SilentAfterModel", "fire", "I", false)
  | 2 => ("SilentAfterModel", "time", "I", false)
  | 3 => ("SilentAfterModel", "glass", "[I", true)
  | 4 => ("SilentAfterModel", "sayings", "I", false)
  | 5 => ("SilentAfterModel", "talk", "[I", true)
  | 6 => ("SilentAfterModel", "sights", "I", false)
  | 7 => ("SilentAfterModel", "sight", "[I", true)
  | 8 => ("SilentAfterModel", "signs", "I", false)
  | 9 => ("SilentAfterModel", "pad", "[I", true)
  | 10 => ("SilentAfterModel", "now", "[I", true)
  | 11 => ("SilentAfterModel", "gone", "I", false)
  | 12 => ("SilentAfterModel", "watched", "I", false)
  | 13 => ("SilentAfterModel", "clear", "I", false)
  | 14 => ("SilentAfterModel", "read", "I", false)
  | 15 => ("SilentAfterModel", "row", "[I", true)
  | 16 => ("SilentAfterModel", "best", "[I", true)
  | 17 => ("SilentAfterModel", "fewest", "I", false)
  | 18 => ("SilentAfterModel", "image", "[I", true)
  | _ => ("SilentAfterModel", "isKept", "[Z", true)
def tyX7 : Nat → FieldType := fun k => match k with
  | 0 => .int
  | 1 => .int
  | 2 => .int
  | 3 => .array .int
  | 4 => .int
  | 5 => .array .int
  | 6 => .int
  | 7 => .array .int
  | 8 => .int
  | 9 => .array .int
  | 10 => .array .int
  | 11 => .int
  | 12 => .int
  | 13 => .int
  | 14 => .int
  | 15 => .array .int
  | 16 => .array .int
  | 17 => .int
  | 18 => .array .int
  | _ => .array .boolean
abbrev wsX70 : List Cond := u_ws RX7 TX7 20
theorem nmX7 : ∀ a, a < 20 → ∀ b, b < 20 → a ≠ b → (TX7 a).2.1 ≠ (TX7 b).2.1 := by decide +kernel
theorem tyX7_ok : ∀ k, k < 20 → parseFieldDescriptor (TX7 k).2.2.1 = some (tyX7 k) := by decide +kernel
abbrev cX7_init : ByteArray := prog_9_method_1_code
def yX7_init : MethodName := ⟨RX7, "<init>", "()V"⟩
abbrev cX7_in : ByteArray := prog_9_method_2_code
def yX7_in : MethodName := ⟨RX7, "in", "(III)Z"⟩
abbrev cX7_isPerson : ByteArray := prog_9_method_3_code
def yX7_isPerson : MethodName := ⟨RX7, "isPerson", "(I)Z"⟩
abbrev cX7_set : ByteArray := prog_9_method_4_code
def yX7_set : MethodName := ⟨RX7, "set", "(II)I"⟩
abbrev cX7_say : ByteArray := prog_9_method_5_code
def yX7_say : MethodName := ⟨RX7, "say", "(I)I"⟩
abbrev cX7_wipe : ByteArray := prog_9_method_6_code
def yX7_wipe : MethodName := ⟨RX7, "wipe", "()I"⟩
abbrev cX7_faultOf : ByteArray := prog_9_method_7_code
def yX7_faultOf : MethodName := ⟨RX7, "faultOf", "()I"⟩
abbrev cX7_fault : ByteArray := prog_9_method_8_code
def yX7_fault : MethodName := ⟨RX7, "fault", "()I"⟩
abbrev cX7_opens : ByteArray := prog_9_method_9_code
def yX7_opens : MethodName := ⟨RX7, "opens", "()I"⟩
abbrev cX7_asNow : ByteArray := prog_9_method_10_code
def yX7_asNow : MethodName := ⟨RX7, "asNow", "()V"⟩
abbrev cX7_less : ByteArray := prog_9_method_11_code
def yX7_less : MethodName := ⟨RX7, "less", "(II)I"⟩
abbrev cX7_pass : ByteArray := prog_9_method_12_code
def yX7_pass : MethodName := ⟨RX7, "pass", "(II)V"⟩
abbrev cX7_speak : ByteArray := prog_9_method_13_code
def yX7_speak : MethodName := ⟨RX7, "speak", "(III)V"⟩
abbrev cX7_watch : ByteArray := prog_9_method_14_code
def yX7_watch : MethodName := ⟨RX7, "watch", "(II)V"⟩
abbrev cX7_number : ByteArray := prog_9_method_15_code
def yX7_number : MethodName := ⟨RX7, "number", "(I)I"⟩
abbrev cX7_goText : ByteArray := prog_9_method_16_code
def yX7_goText : MethodName := ⟨RX7, "goText", "(I)I"⟩
abbrev cX7_judge : ByteArray := prog_9_method_17_code
def yX7_judge : MethodName := ⟨RX7, "judge", "()I"⟩
abbrev cX7_barOfText : ByteArray := prog_9_method_18_code
def yX7_barOfText : MethodName := ⟨RX7, "barOfText", "()I"⟩
abbrev cX7_done : ByteArray := prog_9_method_19_code
def yX7_done : MethodName := ⟨RX7, "done", "()I"⟩
abbrev cX7_behind : ByteArray := prog_9_method_20_code
def yX7_behind : MethodName := ⟨RX7, "behind", "(I)I"⟩
abbrev cX7_free : ByteArray := prog_9_method_21_code
def yX7_free : MethodName := ⟨RX7, "free", "(I)I"⟩
abbrev cX7_answer : ByteArray := prog_9_method_22_code
def yX7_answer : MethodName := ⟨RX7, "answer", "(II)I"⟩
abbrev cX7_give : ByteArray := prog_9_method_23_code
def yX7_give : MethodName := ⟨RX7, "give", "(III)I"⟩
abbrev cX7_saying : ByteArray := prog_9_method_24_code
def yX7_saying : MethodName := ⟨RX7, "saying", "(III)I"⟩
abbrev cX7_drop : ByteArray := prog_9_method_25_code
def yX7_drop : MethodName := ⟨RX7, "drop", "()I"⟩
abbrev cX7_nextRow : ByteArray := prog_9_method_26_code
def yX7_nextRow : MethodName := ⟨RX7, "nextRow", "(I)Z"⟩
abbrev cX7_change : ByteArray := prog_9_method_27_code
def yX7_change : MethodName := ⟨RX7, "change", "(II)V"⟩
abbrev cX7_keepsOrder : ByteArray := prog_9_method_28_code
def yX7_keepsOrder : MethodName := ⟨RX7, "keepsOrder", "()Z"⟩
abbrev cX7_layTalk : ByteArray := prog_9_method_29_code
def yX7_layTalk : MethodName := ⟨RX7, "layTalk", "(II)V"⟩
abbrev cX7_allSeconds : ByteArray := prog_9_method_30_code
def yX7_allSeconds : MethodName := ⟨RX7, "allSeconds", "()I"⟩
abbrev cX7_soonest : ByteArray := prog_9_method_31_code
def yX7_soonest : MethodName := ⟨RX7, "soonest", "(I)I"⟩
abbrev cX7_whom : ByteArray := prog_9_method_32_code
def yX7_whom : MethodName := ⟨RX7, "whom", "(II)I"⟩
abbrev cX7_quarrel : ByteArray := prog_9_method_33_code
def yX7_quarrel : MethodName := ⟨RX7, "quarrel", "(IIIIII)I"⟩
abbrev cX7_length : ByteArray := prog_9_method_34_code
def yX7_length : MethodName := ⟨RX7, "length", "(III)I"⟩
abbrev cX7_seen : ByteArray := prog_9_method_35_code
def yX7_seen : MethodName := ⟨RX7, "seen", "(II)I"⟩
abbrev cX7_forget : ByteArray := prog_9_method_36_code
def yX7_forget : MethodName := ⟨RX7, "forget", "()I"⟩
abbrev cX7_filled : ByteArray := prog_9_method_37_code
def yX7_filled : MethodName := ⟨RX7, "filled", "(I)I"⟩
abbrev cX7_burns : ByteArray := prog_9_method_38_code
def yX7_burns : MethodName := ⟨RX7, "burns", "(II)J"⟩
abbrev cX7_year : ByteArray := prog_9_method_39_code
def yX7_year : MethodName := ⟨RX7, "year", "(III)I"⟩
abbrev cX7_image : ByteArray := prog_9_method_40_code
def yX7_image : MethodName := ⟨RX7, "image", "(I)I"⟩
abbrev cX7_restore : ByteArray := prog_9_method_41_code
def yX7_restore : MethodName := ⟨RX7, "restore", "(I)I"⟩
abbrev cX7_told : ByteArray := prog_9_method_42_code
def yX7_told : MethodName := ⟨RX7, "told", "(I)I"⟩
def RL : String := "SilentAfterLaw"
abbrev cL_law : ByteArray := code
def yL_law : MethodName := ⟨RL, "law", "([I)Z"⟩
theorem inX0 : ∀ w ∈ wsX00, w ∈ lw_tbl := by decide +kernel
theorem inX1 : ∀ w ∈ wsX10, w ∈ lw_tbl := by decide +kernel
theorem inX2 : ∀ w ∈ wsX20, w ∈ lw_tbl := by decide +kernel
theorem inX3 : ∀ w ∈ wsX30, w ∈ lw_tbl := by decide +kernel
theorem inX4 : ∀ w ∈ wsX40, w ∈ lw_tbl := by decide +kernel
theorem inX5 : ∀ w ∈ wsX50, w ∈ lw_tbl := by decide +kernel
theorem inX6 : ∀ w ∈ wsX60, w ∈ lw_tbl := by decide +kernel
theorem inX7 : ∀ w ∈ wsX70, w ∈ lw_tbl := by decide +kernel
theorem dX0_init_0 : decode cX0_init 0 = .ok (.aload_n 0, 1) := by decide +kernel
theorem dX0_init_1 : decode cX0_init 1 = .ok (.invokespecial 1, 3) := by decide +kernel
theorem dX0_init_4 : decode cX0_init 4 = .ok (.aload_n 0, 1) := by decide +kernel
theorem dX0_init_5 : decode cX0_init 5 = .ok (.new 7, 3) := by decide +kernel
theorem dX0_init_8 : decode cX0_init 8 = .ok (.dup, 1) := by decide +kernel
theorem dX0_init_9 : decode cX0_init 9 = .ok (.invokespecial 9, 3) := by decide +kernel
theorem dX0_init_12 : decode cX0_init 12 = .ok (.putfield 10, 3) := by decide +kernel
theorem dX0_init_15 : decode cX0_init 15 = .ok (.aload_n 0, 1) := by decide +kernel
theorem dX0_init_16 : decode cX0_init 16 = .ok (.new 16, 3) := by decide +kernel
theorem dX0_init_19 : decode cX0_init 19 = .ok (.dup, 1) := by decide +kernel
theorem dX0_init_20 : decode cX0_init 20 = .ok (.invokespecial 18, 3) := by decide +kernel
theorem dX0_init_23 : decode cX0_init 23 = .ok (.putfield 19, 3) := by decide +kernel
theorem dX0_init_26 : decode cX0_init 26 = .ok (.aload_n 0, 1) := by decide +kernel
theorem dX0_init_27 : decode cX0_init 27 = .ok (.new 23, 3) := by decide +kernel
theorem dX0_init_30 : decode cX0_init 30 = .ok (.dup, 1) := by decide +kernel
theorem dX0_init_31 : decode cX0_init 31 = .ok (.invokespecial 25, 3) := by decide +kernel
theorem dX0_init_34 : decode cX0_init 34 = .ok (.putfield 26, 3) := by decide +kernel
theorem dX0_init_37 : decode cX0_init 37 = .ok (.aload_n 0, 1) := by decide +kernel
theorem dX0_init_38 : decode cX0_init 38 = .ok (.iconst 0, 1) := by decide +kernel
theorem dX0_init_39 : decode cX0_init 39 = .ok (.putfield 30, 3) := by decide +kernel
theorem dX0_init_42 : decode cX0_init 42 = .ok (.return_, 1) := by decide +kernel
theorem dX0_copy_0 : decode cX0_copy 0 = .ok (.aload_n 0, 1) := by decide +kernel
theorem dX0_copy_1 : decode cX0_copy 1 = .ok (.getfield 10, 3) := by decide +kernel
theorem dX0_copy_4 : decode cX0_copy 4 = .ok (.aload_n 1, 1) := by decide +kernel
theorem dX0_copy_5 : decode cX0_copy 5 = .ok (.getfield 10, 3) := by decide +kernel
theorem dX0_copy_8 : decode cX0_copy 8 = .ok (.invokevirtual 34, 3) := by decide +kernel
theorem dX0_copy_11 : decode cX0_copy 11 = .ok (.aload_n 0, 1) := by decide +kernel
theorem dX0_copy_12 : decode cX0_copy 12 = .ok (.getfield 19, 3) := by decide +kernel
theorem dX0_copy_15 : decode cX0_copy 15 = .ok (.aload_n 1, 1) := by decide +kernel
theorem dX0_copy_16 : decode cX0_copy 16 = .ok (.getfield 19, 3) := by decide +kernel
theorem dX0_copy_19 : decode cX0_copy 19 = .ok (.invokevirtual 38, 3) := by decide +kernel
theorem dX0_copy_22 : decode cX0_copy 22 = .ok (.aload_n 0, 1) := by decide +kernel
theorem dX0_copy_23 : decode cX0_copy 23 = .ok (.getfield 26, 3) := by decide +kernel
theorem dX0_copy_26 : decode cX0_copy 26 = .ok (.aload_n 1, 1) := by decide +kernel
theorem dX0_copy_27 : decode cX0_copy 27 = .ok (.getfield 26, 3) := by decide +kernel
theorem dX0_copy_30 : decode cX0_copy 30 = .ok (.invokevirtual 41, 3) := by decide +kernel
theorem dX0_copy_33 : decode cX0_copy 33 = .ok (.return_, 1) := by decide +kernel
theorem dX1_init_0 : decode cX1_init 0 = .ok (.aload_n 0, 1) := by decide +kernel
theorem dX1_init_1 : decode cX1_init 1 = .ok (.invokespecial 3, 3) := by decide +kernel
theorem dX1_init_4 : decode cX1_init 4 = .ok (.aload_n 0, 1) := by decide +kernel
theorem dX1_init_5 : decode cX1_init 5 = .ok (.bipush 8, 2) := by decide +kernel
theorem dX1_init_7 : decode cX1_init 7 = .ok (.anewarray 9, 3) := by decide +kernel
theorem dX1_init_10 : decode cX1_init 10 = .ok (.putfield 11, 3) := by decide +kernel
theorem dX1_init_13 : decode cX1_init 13 = .ok (.aload_n 0, 1) := by decide +kernel
theorem dX1_init_14 : decode cX1_init 14 = .ok (.bipush 7, 2) := by decide +kernel
theorem dX1_init_16 : decode cX1_init 16 = .ok (.newarray .int, 2) := by decide +kernel
theorem dX1_init_18 : decode cX1_init 18 = .ok (.putfield 17, 3) := by decide +kernel
theorem dX1_init_21 : decode cX1_init 21 = .ok (.aload_n 0, 1) := by decide +kernel
theorem dX1_init_22 : decode cX1_init 22 = .ok (.bipush 7, 2) := by decide +kernel
theorem dX1_init_24 : decode cX1_init 24 = .ok (.newarray .int, 2) := by decide +kernel
theorem dX1_init_26 : decode cX1_init 26 = .ok (.putfield 21, 3) := by decide +kernel
theorem dX1_init_29 : decode cX1_init 29 = .ok (.aload_n 0, 1) := by decide +kernel
theorem dX1_init_30 : decode cX1_init 30 = .ok (.bipush 7, 2) := by decide +kernel
theorem dX1_init_32 : decode cX1_init 32 = .ok (.newarray .int, 2) := by decide +kernel
theorem dX1_init_34 : decode cX1_init 34 = .ok (.putfield 24, 3) := by decide +kernel
theorem dX1_init_37 : decode cX1_init 37 = .ok (.aload_n 0, 1) := by decide +kernel
theorem dX1_init_38 : decode cX1_init 38 = .ok (.bipush 6, 2) := by decide +kernel
theorem dX1_init_40 : decode cX1_init 40 = .ok (.newarray .int, 2) := by decide +kernel
theorem dX1_init_42 : decode cX1_init 42 = .ok (.putfield 27, 3) := by decide +kernel
theorem dX1_init_45 : decode cX1_init 45 = .ok (.aload_n 0, 1) := by decide +kernel
theorem dX1_init_46 : decode cX1_init 46 = .ok (.bipush 6, 2) := by decide +kernel
theorem dX1_init_48 : decode cX1_init 48 = .ok (.newarray .int, 2) := by decide +kernel
theorem dX1_init_50 : decode cX1_init 50 = .ok (.putfield 30, 3) := by decide +kernel
theorem dX1_init_53 : decode cX1_init 53 = .ok (.aload_n 0, 1) := by decide +kernel
theorem dX1_init_54 : decode cX1_init 54 = .ok (.iconst 0, 1) := by decide +kernel
theorem dX1_init_55 : decode cX1_init 55 = .ok (.putfield 33, 3) := by decide +kernel
theorem dX1_init_58 : decode cX1_init 58 = .ok (.aload_n 0, 1) := by decide +kernel
theorem dX1_init_59 : decode cX1_init 59 = .ok (.iconst 0, 1) := by decide +kernel
theorem dX1_init_60 : decode cX1_init 60 = .ok (.putfield 37, 3) := by decide +kernel
theorem dX1_init_63 : decode cX1_init 63 = .ok (.iconst 0, 1) := by decide +kernel
theorem dX1_init_64 : decode cX1_init 64 = .ok (.istore_n 1, 1) := by decide +kernel
theorem dX1_init_65 : decode cX1_init 65 = .ok (.iload_n 1, 1) := by decide +kernel
theorem dX1_init_66 : decode cX1_init 66 = .ok (.aload_n 0, 1) := by decide +kernel
theorem dX1_init_67 : decode cX1_init 67 = .ok (.getfield 11, 3) := by decide +kernel
theorem dX1_init_70 : decode cX1_init 70 = .ok (.arraylength, 1) := by decide +kernel
theorem dX1_init_71 : decode cX1_init 71 = .ok (.if_icmp .ge 22, 3) := by decide +kernel
theorem dX1_init_74 : decode cX1_init 74 = .ok (.aload_n 0, 1) := by decide +kernel
theorem dX1_init_75 : decode cX1_init 75 = .ok (.getfield 11, 3) := by decide +kernel
theorem dX1_init_78 : decode cX1_init 78 = .ok (.iload_n 1, 1) := by decide +kernel
theorem dX1_init_79 : decode cX1_init 79 = .ok (.new 9, 3) := by decide +kernel
theorem dX1_init_82 : decode cX1_init 82 = .ok (.dup, 1) := by decide +kernel
theorem dX1_init_83 : decode cX1_init 83 = .ok (.invokespecial 40, 3) := by decide +kernel
theorem dX1_init_86 : decode cX1_init 86 = .ok (.aastore, 1) := by decide +kernel
theorem dX1_init_87 : decode cX1_init 87 = .ok (.iinc 1 1, 3) := by decide +kernel
theorem dX1_init_90 : decode cX1_init 90 = .ok (.goto (-25), 3) := by decide +kernel
theorem dX1_init_93 : decode cX1_init 93 = .ok (.return_, 1) := by decide +kernel
theorem dX1_fewestSeconds_0 : decode cX1_fewestSeconds 0 = .ok (.aload_n 0, 1) := by decide +kernel
theorem dX1_fewestSeconds_1 : decode cX1_fewestSeconds 1 = .ok (.iconst 0, 1) := by decide +kernel
theorem dX1_fewestSeconds_2 : decode cX1_fewestSeconds 2 = .ok (.invokevirtual 41, 3) := by decide +kernel
theorem dX1_fewestSeconds_5 : decode cX1_fewestSeconds 5 = .ok (.astore 4, 2) := by decide +kernel
theorem dX1_fewestSeconds_7 : decode cX1_fewestSeconds 7 = .ok (.aload 4, 2) := by decide +kernel
theorem dX1_fewestSeconds_9 : decode cX1_fewestSeconds 9 = .ok (.ifnonnull 5, 3) := by decide +kernel
theorem dX1_fewestSeconds_12 : decode cX1_fewestSeconds 12 = .ok (.iload_n 3, 1) := by decide +kernel
theorem dX1_fewestSeconds_13 : decode cX1_fewestSeconds 13 = .ok (.ireturn, 1) := by decide +kernel
theorem dX1_fewestSeconds_14 : decode cX1_fewestSeconds 14 = .ok (.aload 4, 2) := by decide +kernel
theorem dX1_fewestSeconds_16 : decode cX1_fewestSeconds 16 = .ok (.aload_n 2, 1) := by decide +kernel
theorem dX1_fewestSeconds_17 : decode cX1_fewestSeconds 17 = .ok (.invokevirtual 45, 3) := by decide +kernel
theorem dX1_fewestSeconds_20 : decode cX1_fewestSeconds 20 = .ok (.aload_n 0, 1) := by decide +kernel
theorem dX1_fewestSeconds_21 : decode cX1_fewestSeconds 21 = .ok (.aload_n 2, 1) := by decide +kernel
theorem dX1_fewestSeconds_22 : decode cX1_fewestSeconds 22 = .ok (.invokevirtual 49, 3) := by decide +kernel
theorem dX1_fewestSeconds_25 : decode cX1_fewestSeconds 25 = .ok (.putfield 33, 3) := by decide +kernel
theorem dX1_fewestSeconds_28 : decode cX1_fewestSeconds 28 = .ok (.aload_n 0, 1) := by decide +kernel
theorem dX1_fewestSeconds_29 : decode cX1_fewestSeconds 29 = .ok (.iload_n 3, 1) := by decide +kernel
theorem dX1_fewestSeconds_30 : decode cX1_fewestSeconds 30 = .ok (.putfield 37, 3) := by decide +kernel
theorem dX1_fewestSeconds_33 : decode cX1_fewestSeconds 33 = .ok (.aload_n 0, 1) := by decide +kernel
theorem dX1_fewestSeconds_34 : decode cX1_fewestSeconds 34 = .ok (.aload_n 1, 1) := by decide +kernel
theorem dX1_fewestSeconds_35 : decode cX1_fewestSeconds 35 = .ok (.iconst 0, 1) := by decide +kernel
theorem dX1_fewestSeconds_36 : decode cX1_fewestSeconds 36 = .ok (.invokevirtual 53, 3) := by decide +kernel
theorem dX1_fewestSeconds_39 : decode cX1_fewestSeconds 39 = .ok (.aload_n 0, 1) := by decide +kernel
theorem dX1_fewestSeconds_40 : decode cX1_fewestSeconds 40 = .ok (.getfield 37, 3) := by decide +kernel
theorem dX1_fewestSeconds_43 : decode cX1_fewestSeconds 43 = .ok (.ireturn, 1) := by decide +kernel
theorem dX1_placed_0 : decode cX1_placed 0 = .ok (.aload_n 0, 1) := by decide +kernel
theorem dX1_placed_1 : decode cX1_placed 1 = .ok (.getfield 24, 3) := by decide +kernel
theorem dX1_placed_4 : decode cX1_placed 4 = .ok (.iload_n 1, 1) := by decide +kernel
theorem dX1_placed_5 : decode cX1_placed 5 = .ok (.invokestatic 57, 3) := by decide +kernel
theorem dX1_placed_8 : decode cX1_placed 8 = .ok (.ireturn, 1) := by decide +kernel
theorem dX1_goOn_0 : decode cX1_goOn 0 = .ok (.aload_n 0, 1) := by decide +kernel
theorem dX1_goOn_1 : decode cX1_goOn 1 = .ok (.iload_n 2, 1) := by decide +kernel
theorem dX1_goOn_2 : decode cX1_goOn 2 = .ok (.invokevirtual 41, 3) := by decide +kernel
theorem dX1_goOn_5 : decode cX1_goOn 5 = .ok (.astore_n 3, 1) := by decide +kernel
theorem dX1_goOn_6 : decode cX1_goOn 6 = .ok (.aload_n 3, 1) := by decide +kernel
theorem dX1_goOn_7 : decode cX1_goOn 7 = .ok (.ifnull 16, 3) := by decide +kernel
theorem dX1_goOn_10 : decode cX1_goOn 10 = .ok (.aload_n 0, 1) := by decide +kernel
theorem dX1_goOn_11 : decode cX1_goOn 11 = .ok (.aload_n 1, 1) := by decide +kernel
theorem dX1_goOn_12 : decode cX1_goOn 12 = .ok (.aload_n 3, 1) := by decide +kernel
theorem dX1_goOn_13 : decode cX1_goOn 13 = .ok (.invokevirtual 61, 3) := by decide +kernel
theorem dX1_goOn_16 : decode cX1_goOn 16 = .ok (.aload_n 0, 1) := by decide +kernel
theorem dX1_goOn_17 : decode cX1_goOn 17 = .ok (.getfield 37, 3) := by decide +kernel
theorem dX1_goOn_20 : decode cX1_goOn 20 = .ok (.if_icmp .lt 4, 3) := by decide +kernel
theorem dX1_goOn_23 : decode cX1_goOn 23 = .ok (.return_, 1) := by decide +kernel
theorem dX1_goOn_24 : decode cX1_goOn 24 = .ok (.iload_n 2, 1) := by decide +kernel
theorem dX1_goOn_25 : decode cX1_goOn 25 = .ok (.aload_n 1, 1) := by decide +kernel
theorem dX1_goOn_26 : decode cX1_goOn 26 = .ok (.invokevirtual 65, 3) := by decide +kernel
theorem dX1_goOn_29 : decode cX1_goOn 29 = .ok (.if_icmp .lt 28, 3) := by decide +kernel
theorem dX1_goOn_32 : decode cX1_goOn 32 = .ok (.aload_n 0, 1) := by decide +kernel
theorem dX1_goOn_33 : decode cX1_goOn 33 = .ok (.aload_n 3, 1) := by decide +kernel
theorem dX1_goOn_34 : decode cX1_goOn 34 = .ok (.invokevirtual 49, 3) := by decide +kernel
theorem dX1_goOn_37 : decode cX1_goOn 37 = .ok (.aload_n 0, 1) := by decide +kernel
theorem dX1_goOn_38 : decode cX1_goOn 38 = .ok (.getfield 33, 3) := by decide +kernel
theorem dX1_goOn_41 : decode cX1_goOn 41 = .ok (.isub, 1) := by decide +kernel
theorem dX1_goOn_42 : decode cX1_goOn 42 = .ok (.putfield 37, 3) := by decide +kernel
theorem dX1_goOn_45 : decode cX1_goOn 45 = .ok (.aload_n 0, 1) := by decide +kernel
theorem dX1_goOn_46 : decode cX1_goOn 46 = .ok (.getfield 21, 3) := by decide +kernel
theorem dX1_goOn_49 : decode cX1_goOn 49 = .ok (.aload_n 0, 1) := by decide +kernel
theorem dX1_goOn_50 : decode cX1_goOn 50 = .ok (.getfield 24, 3) := by decide +kernel
theorem dX1_goOn_53 : decode cX1_goOn 53 = .ok (.invokestatic 70, 3) := by decide +kernel
theorem dX1_goOn_56 : decode cX1_goOn 56 = .ok (.return_, 1) := by decide +kernel
theorem dX1_goOn_57 : decode cX1_goOn 57 = .ok (.iconst 0, 1) := by decide +kernel
theorem dX1_goOn_58 : decode cX1_goOn 58 = .ok (.istore 4, 2) := by decide +kernel
theorem dX1_goOn_60 : decode cX1_goOn 60 = .ok (.iload 4, 2) := by decide +kernel
theorem dX1_goOn_62 : decode cX1_goOn 62 = .ok (.aload_n 1, 1) := by decide +kernel
theorem dX1_goOn_63 : decode cX1_goOn 63 = .ok (.invokevirtual 65, 3) := by decide +kernel
theorem dX1_goOn_66 : decode cX1_goOn 66 = .ok (.if_icmp .ge 28, 3) := by decide +kernel
theorem dX1_goOn_69 : decode cX1_goOn 69 = .ok (.aload_n 0, 1) := by decide +kernel
theorem dX1_goOn_70 : decode cX1_goOn 70 = .ok (.aload_n 1, 1) := by decide +kernel
theorem dX1_goOn_71 : decode cX1_goOn 71 = .ok (.iload 4, 2) := by decide +kernel
theorem dX1_goOn_73 : decode cX1_goOn 73 = .ok (.invokevirtual 74, 3) := by decide +kernel
theorem dX1_goOn_76 : decode cX1_goOn 76 = .ok (.ifCond .eq 12, 3) := by decide +kernel
theorem dX1_goOn_79 : decode cX1_goOn 79 = .ok (.aload_n 0, 1) := by decide +kernel
theorem dX1_goOn_80 : decode cX1_goOn 80 = .ok (.aload_n 1, 1) := by decide +kernel
theorem dX1_goOn_81 : decode cX1_goOn 81 = .ok (.iload 4, 2) := by decide +kernel
theorem dX1_goOn_83 : decode cX1_goOn 83 = .ok (.aload_n 3, 1) := by decide +kernel
theorem dX1_goOn_84 : decode cX1_goOn 84 = .ok (.iload_n 2, 1) := by decide +kernel
theorem dX1_goOn_85 : decode cX1_goOn 85 = .ok (.invokevirtual 78, 3) := by decide +kernel
theorem dX1_goOn_88 : decode cX1_goOn 88 = .ok (.iinc 4 1, 3) := by decide +kernel
theorem dX1_goOn_91 : decode cX1_goOn 91 = .ok (.goto (-31), 3) := by decide +kernel
theorem dX1_goOn_94 : decode cX1_goOn 94 = .ok (.return_, 1) := by decide +kernel
theorem dX1_sayNext_0 : decode cX1_sayNext 0 = .ok (.aload_n 0, 1) := by decide +kernel
theorem dX1_sayNext_1 : decode cX1_sayNext 1 = .ok (.iload 4, 2) := by decide +kernel
theorem dX1_sayNext_3 : decode cX1_sayNext 3 = .ok (.iconst 1, 1) := by decide +kernel
theorem dX1_sayNext_4 : decode cX1_sayNext 4 = .ok (.iadd, 1) := by decide +kernel
theorem dX1_sayNext_5 : decode cX1_sayNext 5 = .ok (.invokevirtual 41, 3) := by decide +kernel
theorem dX1_sayNext_8 : decode cX1_sayNext 8 = .ok (.astore 5, 2) := by decide +kernel
theorem dX1_sayNext_10 : decode cX1_sayNext 10 = .ok (.aload 5, 2) := by decide +kernel
theorem dX1_sayNext_12 : decode cX1_sayNext 12 = .ok (.ifnonnull 4, 3) := by decide +kernel
theorem dX1_sayNext_15 : decode cX1_sayNext 15 = .ok (.return_, 1) := by decide +kernel
theorem dX1_sayNext_16 : decode cX1_sayNext 16 = .ok (.aload_n 1, 1) := by decide +kernel
theorem dX1_sayNext_17 : decode cX1_sayNext 17 = .ok (.iload_n 2, 1) := by decide +kernel
theorem dX1_sayNext_18 : decode cX1_sayNext 18 = .ok (.invokevirtual 82, 3) := by decide +kernel
theorem dX1_sayNext_21 : decode cX1_sayNext 21 = .ok (.istore 6, 2) := by decide +kernel
theorem dX1_sayNext_23 : decode cX1_sayNext 23 = .ok (.aload 5, 2) := by decide +kernel
theorem dX1_sayNext_25 : decode cX1_sayNext 25 = .ok (.aload_n 3, 1) := by decide +kernel
theorem dX1_sayNext_26 : decode cX1_sayNext 26 = .ok (.invokevirtual 45, 3) := by decide +kernel
theorem dX1_sayNext_29 : decode cX1_sayNext 29 = .ok (.aload 5, 2) := by decide +kernel
theorem dX1_sayNext_31 : decode cX1_sayNext 31 = .ok (.aload 5, 2) := by decide +kernel
theorem dX1_sayNext_33 : decode cX1_sayNext 33 = .ok (.iload 6, 2) := by decide +kernel
theorem dX1_sayNext_35 : decode cX1_sayNext 35 = .ok (.invokevirtual 86, 3) := by decide +kernel
theorem dX1_sayNext_38 : decode cX1_sayNext 38 = .ok (.invokevirtual 89, 3) := by decide +kernel
theorem dX1_sayNext_41 : decode cX1_sayNext 41 = .ok (.aload 5, 2) := by decide +kernel
theorem dX1_sayNext_43 : decode cX1_sayNext 43 = .ok (.iload 6, 2) := by decide +kernel
theorem dX1_sayNext_45 : decode cX1_sayNext 45 = .ok (.aload_n 1, 1) := by decide +kernel
theorem dX1_sayNext_46 : decode cX1_sayNext 46 = .ok (.iload_n 2, 1) := by decide +kernel
theorem dX1_sayNext_47 : decode cX1_sayNext 47 = .ok (.invokevirtual 93, 3) := by decide +kernel
theorem dX1_sayNext_50 : decode cX1_sayNext 50 = .ok (.invokevirtual 96, 3) := by decide +kernel
theorem dX1_sayNext_53 : decode cX1_sayNext 53 = .ok (.aload_n 0, 1) := by decide +kernel
theorem dX1_sayNext_54 : decode cX1_sayNext 54 = .ok (.getfield 21, 3) := by decide +kernel
theorem dX1_sayNext_57 : decode cX1_sayNext 57 = .ok (.iload 4, 2) := by decide +kernel
theorem dX1_sayNext_59 : decode cX1_sayNext 59 = .ok (.iload_n 2, 1) := by decide +kernel
theorem dX1_sayNext_60 : decode cX1_sayNext 60 = .ok (.invokestatic 100, 3) := by decide +kernel
theorem dX1_sayNext_63 : decode cX1_sayNext 63 = .ok (.aload_n 0, 1) := by decide +kernel
theorem dX1_sayNext_64 : decode cX1_sayNext 64 = .ok (.getfield 17, 3) := by decide +kernel
theorem dX1_sayNext_67 : decode cX1_sayNext 67 = .ok (.iload_n 2, 1) := by decide +kernel
theorem dX1_sayNext_68 : decode cX1_sayNext 68 = .ok (.iconst 1, 1) := by decide +kernel
theorem dX1_sayNext_69 : decode cX1_sayNext 69 = .ok (.invokestatic 100, 3) := by decide +kernel
theorem dX1_sayNext_72 : decode cX1_sayNext 72 = .ok (.aload_n 0, 1) := by decide +kernel
theorem dX1_sayNext_73 : decode cX1_sayNext 73 = .ok (.aload_n 1, 1) := by decide +kernel
theorem dX1_sayNext_74 : decode cX1_sayNext 74 = .ok (.iload 4, 2) := by decide +kernel
theorem dX1_sayNext_76 : decode cX1_sayNext 76 = .ok (.iconst 1, 1) := by decide +kernel
theorem dX1_sayNext_77 : decode cX1_sayNext 77 = .ok (.iadd, 1) := by decide +kernel
theorem dX1_sayNext_78 : decode cX1_sayNext 78 = .ok (.invokevirtual 53, 3) := by decide +kernel
theorem dX1_sayNext_81 : decode cX1_sayNext 81 = .ok (.aload_n 0, 1) := by decide +kernel
theorem dX1_sayNext_82 : decode cX1_sayNext 82 = .ok (.getfield 17, 3) := by decide +kernel
theorem dX1_sayNext_85 : decode cX1_sayNext 85 = .ok (.iload_n 2, 1) := by decide +kernel
theorem dX1_sayNext_86 : decode cX1_sayNext 86 = .ok (.iconst 0, 1) := by decide +kernel
theorem dX1_sayNext_87 : decode cX1_sayNext 87 = .ok (.invokestatic 100, 3) := by decide +kernel
theorem dX1_sayNext_90 : decode cX1_sayNext 90 = .ok (.return_, 1) := by decide +kernel
theorem dX1_valleyAt_0 : decode cX1_valleyAt 0 = .ok (.iload_n 1, 1) := by decide +kernel
theorem dX1_valleyAt_1 : decode cX1_valleyAt 1 = .ok (.ifCond .lt 21, 3) := by decide +kernel
theorem dX1_valleyAt_4 : decode cX1_valleyAt 4 = .ok (.iload_n 1, 1) := by decide +kernel
theorem dX1_valleyAt_5 : decode cX1_valleyAt 5 = .ok (.aload_n 0, 1) := by decide +kernel
theorem dX1_valleyAt_6 : decode cX1_valleyAt 6 = .ok (.getfield 11, 3) := by decide +kernel
theorem dX1_valleyAt_9 : decode cX1_valleyAt 9 = .ok (.arraylength, 1) := by decide +kernel
theorem dX1_valleyAt_10 : decode cX1_valleyAt 10 = .ok (.if_icmp .ge 12, 3) := by decide +kernel
theorem dX1_valleyAt_13 : decode cX1_valleyAt 13 = .ok (.aload_n 0, 1) := by decide +kernel
theorem dX1_valleyAt_14 : decode cX1_valleyAt 14 = .ok (.getfield 11, 3) := by decide +kernel
theorem dX1_valleyAt_17 : decode cX1_valleyAt 17 = .ok (.iload_n 1, 1) := by decide +kernel
theorem dX1_valleyAt_18 : decode cX1_valleyAt 18 = .ok (.aaload, 1) := by decide +kernel
theorem dX1_valleyAt_19 : decode cX1_valleyAt 19 = .ok (.goto 4, 3) := by decide +kernel
theorem dX1_valleyAt_22 : decode cX1_valleyAt 22 = .ok (.aconst_null, 1) := by decide +kernel
theorem dX1_valleyAt_23 : decode cX1_valleyAt 23 = .ok (.areturn, 1) := by decide +kernel
theorem dX1_mayBeSaid_0 : decode cX1_mayBeSaid 0 = .ok (.aload_n 1, 1) := by decide +kernel
theorem dX1_mayBeSaid_1 : decode cX1_mayBeSaid 1 = .ok (.iload_n 2, 1) := by decide +kernel
theorem dX1_mayBeSaid_2 : decode cX1_mayBeSaid 2 = .ok (.invokevirtual 104, 3) := by decide +kernel
theorem dX1_mayBeSaid_5 : decode cX1_mayBeSaid 5 = .ok (.istore_n 3, 1) := by decide +kernel
theorem dX1_mayBeSaid_6 : decode cX1_mayBeSaid 6 = .ok (.aload_n 0, 1) := by decide +kernel
theorem dX1_mayBeSaid_7 : decode cX1_mayBeSaid 7 = .ok (.getfield 17, 3) := by decide +kernel
theorem dX1_mayBeSaid_10 : decode cX1_mayBeSaid 10 = .ok (.iload_n 2, 1) := by decide +kernel
theorem dX1_mayBeSaid_11 : decode cX1_mayBeSaid 11 = .ok (.invokestatic 57, 3) := by decide +kernel
theorem dX1_mayBeSaid_14 : decode cX1_mayBeSaid 14 = .ok (.ifCond .ne 24, 3) := by decide +kernel
theorem dX1_mayBeSaid_17 : decode cX1_mayBeSaid 17 = .ok (.iload_n 3, 1) := by decide +kernel
theorem dX1_mayBeSaid_18 : decode cX1_mayBeSaid 18 = .ok (.iconst (-1), 1) := by decide +kernel
theorem dX1_mayBeSaid_19 : decode cX1_mayBeSaid 19 = .ok (.if_icmp .eq 15, 3) := by decide +kernel
theorem dX1_mayBeSaid_22 : decode cX1_mayBeSaid 22 = .ok (.aload_n 0, 1) := by decide +kernel
theorem dX1_mayBeSaid_23 : decode cX1_mayBeSaid 23 = .ok (.getfield 17, 3) := by decide +kernel
theorem dX1_mayBeSaid_26 : decode cX1_mayBeSaid 26 = .ok (.iload_n 3, 1) := by decide +kernel
theorem dX1_mayBeSaid_27 : decode cX1_mayBeSaid 27 = .ok (.invokestatic 57, 3) := by decide +kernel
theorem dX1_mayBeSaid_30 : decode cX1_mayBeSaid 30 = .ok (.iconst 1, 1) := by decide +kernel
theorem dX1_mayBeSaid_31 : decode cX1_mayBeSaid 31 = .ok (.if_icmp .ne 7, 3) := by decide +kernel
theorem dX1_mayBeSaid_34 : decode cX1_mayBeSaid 34 = .ok (.iconst 1, 1) := by decide +kernel
theorem dX1_mayBeSaid_35 : decode cX1_mayBeSaid 35 = .ok (.goto 4, 3) := by decide +kernel
theorem dX1_mayBeSaid_38 : decode cX1_mayBeSaid 38 = .ok (.iconst 0, 1) := by decide +kernel
theorem dX1_mayBeSaid_39 : decode cX1_mayBeSaid 39 = .ok (.ireturn, 1) := by decide +kernel
theorem dX1_leastSeconds_0 : decode cX1_leastSeconds 0 = .ok (.iconst 0, 1) := by decide +kernel
theorem dX1_leastSeconds_1 : decode cX1_leastSeconds 1 = .ok (.istore_n 3, 1) := by decide +kernel
theorem dX1_leastSeconds_2 : decode cX1_leastSeconds 2 = .ok (.iload_n 3, 1) := by decide +kernel
theorem dX1_leastSeconds_3 : decode cX1_leastSeconds 3 = .ok (.bipush 6, 2) := by decide +kernel
theorem dX1_leastSeconds_5 : decode cX1_leastSeconds 5 = .ok (.if_icmp .ge 27, 3) := by decide +kernel
theorem dX1_leastSeconds_8 : decode cX1_leastSeconds 8 = .ok (.aload_n 0, 1) := by decide +kernel
theorem dX1_leastSeconds_9 : decode cX1_leastSeconds 9 = .ok (.getfield 27, 3) := by decide +kernel
theorem dX1_leastSeconds_12 : decode cX1_leastSeconds 12 = .ok (.iload_n 3, 1) := by decide +kernel
theorem dX1_leastSeconds_13 : decode cX1_leastSeconds 13 = .ok (.iconst 0, 1) := by decide +kernel
theorem dX1_leastSeconds_14 : decode cX1_leastSeconds 14 = .ok (.invokestatic 100, 3) := by decide +kernel
theorem dX1_leastSeconds_17 : decode cX1_leastSeconds 17 = .ok (.aload_n 0, 1) := by decide +kernel
theorem dX1_leastSeconds_18 : decode cX1_leastSeconds 18 = .ok (.getfield 30, 3) := by decide +kernel
theorem dX1_leastSeconds_21 : decode cX1_leastSeconds 21 = .ok (.iload_n 3, 1) := by decide +kernel
theorem dX1_leastSeconds_22 : decode cX1_leastSeconds 22 = .ok (.iconst 0, 1) := by decide +kernel
theorem dX1_leastSeconds_23 : decode cX1_leastSeconds 23 = .ok (.invokestatic 100, 3) := by decide +kernel
theorem dX1_leastSeconds_26 : decode cX1_leastSeconds 26 = .ok (.iinc 3 1, 3) := by decide +kernel
theorem dX1_leastSeconds_29 : decode cX1_leastSeconds 29 = .ok (.goto (-27), 3) := by decide +kernel
theorem dX1_leastSeconds_32 : decode cX1_leastSeconds 32 = .ok (.iconst 0, 1) := by decide +kernel
theorem dX1_leastSeconds_33 : decode cX1_leastSeconds 33 = .ok (.istore_n 3, 1) := by decide +kernel
theorem dX1_leastSeconds_34 : decode cX1_leastSeconds 34 = .ok (.iconst 0, 1) := by decide +kernel
theorem dX1_leastSeconds_35 : decode cX1_leastSeconds 35 = .ok (.istore 4, 2) := by decide +kernel
theorem dX1_leastSeconds_37 : decode cX1_leastSeconds 37 = .ok (.iload 4, 2) := by decide +kernel
theorem dX1_leastSeconds_39 : decode cX1_leastSeconds 39 = .ok (.aload_n 1, 1) := by decide +kernel
theorem dX1_leastSeconds_40 : decode cX1_leastSeconds 40 = .ok (.invokevirtual 65, 3) := by decide +kernel
theorem dX1_leastSeconds_43 : decode cX1_leastSeconds 43 = .ok (.if_icmp .ge 86, 3) := by decide +kernel
theorem dX1_leastSeconds_46 : decode cX1_leastSeconds 46 = .ok (.aload_n 0, 1) := by decide +kernel
theorem dX1_leastSeconds_47 : decode cX1_leastSeconds 47 = .ok (.getfield 17, 3) := by decide +kernel
theorem dX1_leastSeconds_50 : decode cX1_leastSeconds 50 = .ok (.iload 4, 2) := by decide +kernel
theorem dX1_leastSeconds_52 : decode cX1_leastSeconds 52 = .ok (.invokestatic 57, 3) := by decide +kernel
theorem dX1_leastSeconds_55 : decode cX1_leastSeconds 55 = .ok (.ifCond .ne 68, 3) := by decide +kernel
theorem dX1_leastSeconds_58 : decode cX1_leastSeconds 58 = .ok (.aload_n 1, 1) := by decide +kernel
theorem dX1_leastSeconds_59 : decode cX1_leastSeconds 59 = .ok (.iload 4, 2) := by decide +kernel
theorem dX1_leastSeconds_61 : decode cX1_leastSeconds 61 = .ok (.invokevirtual 82, 3) := by decide +kernel
theorem dX1_leastSeconds_64 : decode cX1_leastSeconds 64 = .ok (.istore 5, 2) := by decide +kernel
theorem dX1_leastSeconds_66 : decode cX1_leastSeconds 66 = .ok (.aload_n 1, 1) := by decide +kernel
theorem dX1_leastSeconds_67 : decode cX1_leastSeconds 67 = .ok (.iload 4, 2) := by decide +kernel
theorem dX1_leastSeconds_69 : decode cX1_leastSeconds 69 = .ok (.invokevirtual 93, 3) := by decide +kernel
theorem dX1_leastSeconds_72 : decode cX1_leastSeconds 72 = .ok (.istore 6, 2) := by decide +kernel
theorem dX1_leastSeconds_74 : decode cX1_leastSeconds 74 = .ok (.aload_n 0, 1) := by decide +kernel
theorem dX1_leastSeconds_75 : decode cX1_leastSeconds 75 = .ok (.getfield 27, 3) := by decide +kernel
theorem dX1_leastSeconds_78 : decode cX1_leastSeconds 78 = .ok (.iload 5, 2) := by decide +kernel
theorem dX1_leastSeconds_80 : decode cX1_leastSeconds 80 = .ok (.aload_n 0, 1) := by decide +kernel
theorem dX1_leastSeconds_81 : decode cX1_leastSeconds 81 = .ok (.getfield 27, 3) := by decide +kernel
theorem dX1_leastSeconds_84 : decode cX1_leastSeconds 84 = .ok (.iload 5, 2) := by decide +kernel
theorem dX1_leastSeconds_86 : decode cX1_leastSeconds 86 = .ok (.invokestatic 57, 3) := by decide +kernel
theorem dX1_leastSeconds_89 : decode cX1_leastSeconds 89 = .ok (.iload 6, 2) := by decide +kernel
theorem dX1_leastSeconds_91 : decode cX1_leastSeconds 91 = .ok (.iadd, 1) := by decide +kernel
theorem dX1_leastSeconds_92 : decode cX1_leastSeconds 92 = .ok (.invokestatic 100, 3) := by decide +kernel
theorem dX1_leastSeconds_95 : decode cX1_leastSeconds 95 = .ok (.aload_n 0, 1) := by decide +kernel
theorem dX1_leastSeconds_96 : decode cX1_leastSeconds 96 = .ok (.getfield 30, 3) := by decide +kernel
theorem dX1_leastSeconds_99 : decode cX1_leastSeconds 99 = .ok (.iload 5, 2) := by decide +kernel
theorem dX1_leastSeconds_101 : decode cX1_leastSeconds 101 = .ok (.aload_n 0, 1) := by decide +kernel
theorem dX1_leastSeconds_102 : decode cX1_leastSeconds 102 = .ok (.getfield 30, 3) := by decide +kernel
theorem dX1_leastSeconds_105 : decode cX1_leastSeconds 105 = .ok (.iload 5, 2) := by decide +kernel
theorem dX1_leastSeconds_107 : decode cX1_leastSeconds 107 = .ok (.invokestatic 57, 3) := by decide +kernel
theorem dX1_leastSeconds_110 : decode cX1_leastSeconds 110 = .ok (.iload 6, 2) := by decide +kernel
theorem dX1_leastSeconds_112 : decode cX1_leastSeconds 112 = .ok (.invokestatic 107, 3) := by decide +kernel
theorem dX1_leastSeconds_115 : decode cX1_leastSeconds 115 = .ok (.invokestatic 100, 3) := by decide +kernel
theorem dX1_leastSeconds_118 : decode cX1_leastSeconds 118 = .ok (.iload_n 3, 1) := by decide +kernel
theorem dX1_leastSeconds_119 : decode cX1_leastSeconds 119 = .ok (.iload 6, 2) := by decide +kernel
theorem dX1_leastSeconds_121 : decode cX1_leastSeconds 121 = .ok (.iadd, 1) := by decide +kernel
theorem dX1_leastSeconds_122 : decode cX1_leastSeconds 122 = .ok (.istore_n 3, 1) := by decide +kernel
theorem dX1_leastSeconds_123 : decode cX1_leastSeconds 123 = .ok (.iinc 4 1, 3) := by decide +kernel
theorem dX1_leastSeconds_126 : decode cX1_leastSeconds 126 = .ok (.goto (-89), 3) := by decide +kernel
theorem dX1_leastSeconds_129 : decode cX1_leastSeconds 129 = .ok (.iconst 0, 1) := by decide +kernel
theorem dX1_leastSeconds_130 : decode cX1_leastSeconds 130 = .ok (.istore 4, 2) := by decide +kernel
theorem dX1_leastSeconds_132 : decode cX1_leastSeconds 132 = .ok (.iload 4, 2) := by decide +kernel
theorem dX1_leastSeconds_134 : decode cX1_leastSeconds 134 = .ok (.bipush 6, 2) := by decide +kernel
theorem dX1_leastSeconds_136 : decode cX1_leastSeconds 136 = .ok (.if_icmp .ge 70, 3) := by decide +kernel
theorem dX1_leastSeconds_139 : decode cX1_leastSeconds 139 = .ok (.aload_n 0, 1) := by decide +kernel
theorem dX1_leastSeconds_140 : decode cX1_leastSeconds 140 = .ok (.getfield 27, 3) := by decide +kernel
theorem dX1_leastSeconds_143 : decode cX1_leastSeconds 143 = .ok (.iload 4, 2) := by decide +kernel
theorem dX1_leastSeconds_145 : decode cX1_leastSeconds 145 = .ok (.invokestatic 57, 3) := by decide +kernel
theorem dX1_leastSeconds_148 : decode cX1_leastSeconds 148 = .ok (.ifCond .le 52, 3) := by decide +kernel
theorem dX1_leastSeconds_151 : decode cX1_leastSeconds 151 = .ok (.aload_n 2, 1) := by decide +kernel
theorem dX1_leastSeconds_152 : decode cX1_leastSeconds 152 = .ok (.iload 4, 2) := by decide +kernel
theorem dX1_leastSeconds_154 : decode cX1_leastSeconds 154 = .ok (.invokevirtual 113, 3) := by decide +kernel
theorem dX1_leastSeconds_157 : decode cX1_leastSeconds 157 = .ok (.aload_n 0, 1) := by decide +kernel
theorem dX1_leastSeconds_158 : decode cX1_leastSeconds 158 = .ok (.getfield 27, 3) := by decide +kernel
theorem dX1_leastSeconds_161 : decode cX1_leastSeconds 161 = .ok (.iload 4, 2) := by decide +kernel
theorem dX1_leastSeconds_163 : decode cX1_leastSeconds 163 = .ok (.invokestatic 57, 3) := by decide +kernel
theorem dX1_leastSeconds_166 : decode cX1_leastSeconds 166 = .ok (.iadd, 1) := by decide +kernel
theorem dX1_leastSeconds_167 : decode cX1_leastSeconds 167 = .ok (.aload_n 0, 1) := by decide +kernel
theorem dX1_leastSeconds_168 : decode cX1_leastSeconds 168 = .ok (.getfield 30, 3) := by decide +kernel
theorem dX1_leastSeconds_171 : decode cX1_leastSeconds 171 = .ok (.iload 4, 2) := by decide +kernel
theorem dX1_leastSeconds_173 : decode cX1_leastSeconds 173 = .ok (.invokestatic 57, 3) := by decide +kernel
theorem dX1_leastSeconds_176 : decode cX1_leastSeconds 176 = .ok (.isub, 1) := by decide +kernel
theorem dX1_leastSeconds_177 : decode cX1_leastSeconds 177 = .ok (.istore 5, 2) := by decide +kernel
theorem dX1_leastSeconds_179 : decode cX1_leastSeconds 179 = .ok (.iload_n 3, 1) := by decide +kernel
theorem dX1_leastSeconds_180 : decode cX1_leastSeconds 180 = .ok (.aload_n 0, 1) := by decide +kernel
theorem dX1_leastSeconds_181 : decode cX1_leastSeconds 181 = .ok (.getfield 27, 3) := by decide +kernel
theorem dX1_leastSeconds_184 : decode cX1_leastSeconds 184 = .ok (.iload 4, 2) := by decide +kernel
theorem dX1_leastSeconds_186 : decode cX1_leastSeconds 186 = .ok (.invokestatic 57, 3) := by decide +kernel
theorem dX1_leastSeconds_189 : decode cX1_leastSeconds 189 = .ok (.iload 5, 2) := by decide +kernel
theorem dX1_leastSeconds_191 : decode cX1_leastSeconds 191 = .ok (.iconst 0, 1) := by decide +kernel
theorem dX1_leastSeconds_192 : decode cX1_leastSeconds 192 = .ok (.invokestatic 107, 3) := by decide +kernel
theorem dX1_leastSeconds_195 : decode cX1_leastSeconds 195 = .ok (.iadd, 1) := by decide +kernel
theorem dX1_leastSeconds_196 : decode cX1_leastSeconds 196 = .ok (.invokestatic 107, 3) := by decide +kernel
theorem dX1_leastSeconds_199 : decode cX1_leastSeconds 199 = .ok (.istore_n 3, 1) := by decide +kernel
theorem dX1_leastSeconds_200 : decode cX1_leastSeconds 200 = .ok (.iinc 4 1, 3) := by decide +kernel
theorem dX1_leastSeconds_203 : decode cX1_leastSeconds 203 = .ok (.goto (-71), 3) := by decide +kernel
theorem dX1_leastSeconds_206 : decode cX1_leastSeconds 206 = .ok (.aload_n 2, 1) := by decide +kernel
theorem dX1_leastSeconds_207 : decode cX1_leastSeconds 207 = .ok (.invokevirtual 49, 3) := by decide +kernel
theorem dX1_leastSeconds_210 : decode cX1_leastSeconds 210 = .ok (.aload_n 0, 1) := by decide +kernel
theorem dX1_leastSeconds_211 : decode cX1_leastSeconds 211 = .ok (.getfield 33, 3) := by decide +kernel
theorem dX1_leastSeconds_214 : decode cX1_leastSeconds 214 = .ok (.isub, 1) := by decide +kernel
theorem dX1_leastSeconds_215 : decode cX1_leastSeconds 215 = .ok (.iload_n 3, 1) := by decide +kernel
theorem dX1_leastSeconds_216 : decode cX1_leastSeconds 216 = .ok (.iadd, 1) := by decide +kernel
theorem dX1_leastSeconds_217 : decode cX1_leastSeconds 217 = .ok (.ireturn, 1) := by decide +kernel
theorem dX2_init_0 : decode cX2_init 0 = .ok (.aload_n 0, 1) := by decide +kernel
theorem dX2_init_1 : decode cX2_init 1 = .ok (.invokespecial 3, 3) := by decide +kernel
theorem dX2_init_4 : decode cX2_init 4 = .ok (.aload_n 0, 1) := by decide +kernel
theorem dX2_init_5 : decode cX2_init 5 = .ok (.bipush 6, 2) := by decide +kernel
theorem dX2_init_7 : decode cX2_init 7 = .ok (.newarray .int, 2) := by decide +kernel
theorem dX2_init_9 : decode cX2_init 9 = .ok (.putfield 9, 3) := by decide +kernel
theorem dX2_init_12 : decode cX2_init 12 = .ok (.aload_n 0, 1) := by decide +kernel
theorem dX2_init_13 : decode cX2_init 13 = .ok (.bipush 6, 2) := by decide +kernel
theorem dX2_init_15 : decode cX2_init 15 = .ok (.newarray .int, 2) := by decide +kernel
theorem dX2_init_17 : decode cX2_init 17 = .ok (.putfield 15, 3) := by decide +kernel
theorem dX2_init_20 : decode cX2_init 20 = .ok (.aload_n 0, 1) := by decide +kernel
theorem dX2_init_21 : decode cX2_init 21 = .ok (.iconst 0, 1) := by decide +kernel
theorem dX2_init_22 : decode cX2_init 22 = .ok (.putfield 18, 3) := by decide +kernel
theorem dX2_init_25 : decode cX2_init 25 = .ok (.return_, 1) := by decide +kernel
theorem dX2_count_0 : decode cX2_count 0 = .ok (.aload_n 0, 1) := by decide +kernel
theorem dX2_count_1 : decode cX2_count 1 = .ok (.getfield 18, 3) := by decide +kernel
theorem dX2_count_4 : decode cX2_count 4 = .ok (.ireturn, 1) := by decide +kernel
theorem dX2_append_0 : decode cX2_append 0 = .ok (.aload_n 0, 1) := by decide +kernel
theorem dX2_append_1 : decode cX2_append 1 = .ok (.getfield 18, 3) := by decide +kernel
theorem dX2_append_4 : decode cX2_append 4 = .ok (.bipush 6, 2) := by decide +kernel
theorem dX2_append_6 : decode cX2_append 6 = .ok (.if_icmp .lt 5, 3) := by decide +kernel
theorem dX2_append_9 : decode cX2_append 9 = .ok (.iconst 0, 1) := by decide +kernel
theorem dX2_append_10 : decode cX2_append 10 = .ok (.ireturn, 1) := by decide +kernel
theorem dX2_append_11 : decode cX2_append 11 = .ok (.aload_n 0, 1) := by decide +kernel
theorem dX2_append_12 : decode cX2_append 12 = .ok (.getfield 9, 3) := by decide +kernel
theorem dX2_append_15 : decode cX2_append 15 = .ok (.aload_n 0, 1) := by decide +kernel
theorem dX2_append_16 : decode cX2_append 16 = .ok (.getfield 18, 3) := by decide +kernel
theorem dX2_append_19 : decode cX2_append 19 = .ok (.iload_n 1, 1) := by decide +kernel
theorem dX2_append_20 : decode cX2_append 20 = .ok (.invokestatic 22, 3) := by decide +kernel
theorem dX2_append_23 : decode cX2_append 23 = .ok (.aload_n 0, 1) := by decide +kernel
theorem dX2_append_24 : decode cX2_append 24 = .ok (.getfield 15, 3) := by decide +kernel
theorem dX2_append_27 : decode cX2_append 27 = .ok (.aload_n 0, 1) := by decide +kernel
theorem dX2_append_28 : decode cX2_append 28 = .ok (.getfield 18, 3) := by decide +kernel
theorem dX2_append_31 : decode cX2_append 31 = .ok (.iload_n 2, 1) := by decide +kernel
theorem dX2_append_32 : decode cX2_append 32 = .ok (.invokestatic 22, 3) := by decide +kernel
theorem dX2_append_35 : decode cX2_append 35 = .ok (.aload_n 0, 1) := by decide +kernel
theorem dX2_append_36 : decode cX2_append 36 = .ok (.dup, 1) := by decide +kernel
theorem dX2_append_37 : decode cX2_append 37 = .ok (.getfield 18, 3) := by decide +kernel
theorem dX2_append_40 : decode cX2_append 40 = .ok (.iconst 1, 1) := by decide +kernel
theorem dX2_append_41 : decode cX2_append 41 = .ok (.iadd, 1) := by decide +kernel
theorem dX2_append_42 : decode cX2_append 42 = .ok (.putfield 18, 3) := by decide +kernel
theorem dX2_append_45 : decode cX2_append 45 = .ok (.iconst 1, 1) := by decide +kernel
theorem dX2_append_46 : decode cX2_append 46 = .ok (.ireturn, 1) := by decide +kernel
theorem dX2_clear_0 : decode cX2_clear 0 = .ok (.aload_n 0, 1) := by decide +kernel
theorem dX2_clear_1 : decode cX2_clear 1 = .ok (.getfield 18, 3) := by decide +kernel
theorem dX2_clear_4 : decode cX2_clear 4 = .ok (.istore_n 1, 1) := by decide +kernel
theorem dX2_clear_5 : decode cX2_clear 5 = .ok (.aload_n 0, 1) := by decide +kernel
theorem dX2_clear_6 : decode cX2_clear 6 = .ok (.iconst 0, 1) := by decide +kernel
theorem dX2_clear_7 : decode cX2_clear 7 = .ok (.putfield 18, 3) := by decide +kernel
theorem dX2_clear_10 : decode cX2_clear 10 = .ok (.iload_n 1, 1) := by decide +kernel
theorem dX2_clear_11 : decode cX2_clear 11 = .ok (.ireturn, 1) := by decide +kernel
theorem dX2_hold_0 : decode cX2_hold 0 = .ok (.iconst 0, 1) := by decide +kernel
theorem dX2_hold_1 : decode cX2_hold 1 = .ok (.istore_n 2, 1) := by decide +kernel
theorem dX2_hold_2 : decode cX2_hold 2 = .ok (.iload_n 2, 1) := by decide +kernel
theorem dX2_hold_3 : decode cX2_hold 3 = .ok (.aload_n 0, 1) := by decide +kernel
theorem dX2_hold_4 : decode cX2_hold 4 = .ok (.getfield 18, 3) := by decide +kernel
theorem dX2_hold_7 : decode cX2_hold 7 = .ok (.if_icmp .ge 34, 3) := by decide +kernel
theorem dX2_hold_10 : decode cX2_hold 10 = .ok (.aload_n 1, 1) := by decide +kernel
theorem dX2_hold_11 : decode cX2_hold 11 = .ok (.aload_n 0, 1) := by decide +kernel
theorem dX2_hold_12 : decode cX2_hold 12 = .ok (.getfield 9, 3) := by decide +kernel
theorem dX2_hold_15 : decode cX2_hold 15 = .ok (.iload_n 2, 1) := by decide +kernel
theorem dX2_hold_16 : decode cX2_hold 16 = .ok (.invokestatic 26, 3) := by decide +kernel
theorem dX2_hold_19 : decode cX2_hold 19 = .ok (.invokevirtual 30, 3) := by decide +kernel
theorem dX2_hold_22 : decode cX2_hold 22 = .ok (.aload_n 0, 1) := by decide +kernel
theorem dX2_hold_23 : decode cX2_hold 23 = .ok (.getfield 15, 3) := by decide +kernel
theorem dX2_hold_26 : decode cX2_hold 26 = .ok (.iload_n 2, 1) := by decide +kernel
theorem dX2_hold_27 : decode cX2_hold 27 = .ok (.invokestatic 26, 3) := by decide +kernel
theorem dX2_hold_30 : decode cX2_hold 30 = .ok (.if_icmp .eq 5, 3) := by decide +kernel
theorem dX2_hold_33 : decode cX2_hold 33 = .ok (.iconst 0, 1) := by decide +kernel
theorem dX2_hold_34 : decode cX2_hold 34 = .ok (.ireturn, 1) := by decide +kernel
theorem dX2_hold_35 : decode cX2_hold 35 = .ok (.iinc 2 1, 3) := by decide +kernel
theorem dX2_hold_38 : decode cX2_hold 38 = .ok (.goto (-36), 3) := by decide +kernel
theorem dX2_hold_41 : decode cX2_hold 41 = .ok (.iconst 1, 1) := by decide +kernel
theorem dX2_hold_42 : decode cX2_hold 42 = .ok (.ireturn, 1) := by decide +kernel
theorem dX2_copy_0 : decode cX2_copy 0 = .ok (.aload_n 1, 1) := by decide +kernel
theorem dX2_copy_1 : decode cX2_copy 1 = .ok (.getfield 9, 3) := by decide +kernel
theorem dX2_copy_4 : decode cX2_copy 4 = .ok (.aload_n 0, 1) := by decide +kernel
theorem dX2_copy_5 : decode cX2_copy 5 = .ok (.getfield 9, 3) := by decide +kernel
theorem dX2_copy_8 : decode cX2_copy 8 = .ok (.invokestatic 36, 3) := by decide +kernel
theorem dX2_copy_11 : decode cX2_copy 11 = .ok (.aload_n 1, 1) := by decide +kernel
theorem dX2_copy_12 : decode cX2_copy 12 = .ok (.getfield 15, 3) := by decide +kernel
theorem dX2_copy_15 : decode cX2_copy 15 = .ok (.aload_n 0, 1) := by decide +kernel
theorem dX2_copy_16 : decode cX2_copy 16 = .ok (.getfield 15, 3) := by decide +kernel
theorem dX2_copy_19 : decode cX2_copy 19 = .ok (.invokestatic 36, 3) := by decide +kernel
theorem dX2_copy_22 : decode cX2_copy 22 = .ok (.aload_n 0, 1) := by decide +kernel
theorem dX2_copy_23 : decode cX2_copy 23 = .ok (.aload_n 1, 1) := by decide +kernel
theorem dX2_copy_24 : decode cX2_copy 24 = .ok (.getfield 18, 3) := by decide +kernel
theorem dX2_copy_27 : decode cX2_copy 27 = .ok (.putfield 18, 3) := by decide +kernel
theorem dX2_copy_30 : decode cX2_copy 30 = .ok (.return_, 1) := by decide +kernel
theorem dX3_init_0 : decode cX3_init 0 = .ok (.aload_n 0, 1) := by decide +kernel
theorem dX3_init_1 : decode cX3_init 1 = .ok (.invokespecial 3, 3) := by decide +kernel
theorem dX3_init_4 : decode cX3_init 4 = .ok (.aload_n 0, 1) := by decide +kernel
theorem dX3_init_5 : decode cX3_init 5 = .ok (.bipush 7, 2) := by decide +kernel
theorem dX3_init_7 : decode cX3_init 7 = .ok (.newarray .int, 2) := by decide +kernel
theorem dX3_init_9 : decode cX3_init 9 = .ok (.putfield 9, 3) := by decide +kernel
theorem dX3_init_12 : decode cX3_init 12 = .ok (.aload_n 0, 1) := by decide +kernel
theorem dX3_init_13 : decode cX3_init 13 = .ok (.bipush 7, 2) := by decide +kernel
theorem dX3_init_15 : decode cX3_init 15 = .ok (.newarray .int, 2) := by decide +kernel
theorem dX3_init_17 : decode cX3_init 17 = .ok (.putfield 15, 3) := by decide +kernel
theorem dX3_init_20 : decode cX3_init 20 = .ok (.aload_n 0, 1) := by decide +kernel
theorem dX3_init_21 : decode cX3_init 21 = .ok (.bipush 7, 2) := by decide +kernel
theorem dX3_init_23 : decode cX3_init 23 = .ok (.newarray .int, 2) := by decide +kernel
theorem dX3_init_25 : decode cX3_init 25 = .ok (.putfield 18, 3) := by decide +kernel
theorem dX3_init_28 : decode cX3_init 28 = .ok (.aload_n 0, 1) := by decide +kernel
theorem dX3_init_29 : decode cX3_init 29 = .ok (.iconst 0, 1) := by decide +kernel
theorem dX3_init_30 : decode cX3_init 30 = .ok (.putfield 21, 3) := by decide +kernel
theorem dX3_init_33 : decode cX3_init 33 = .ok (.return_, 1) := by decide +kernel
theorem dX3_count_0 : decode cX3_count 0 = .ok (.aload_n 0, 1) := by decide +kernel
theorem dX3_count_1 : decode cX3_count 1 = .ok (.getfield 21, 3) := by decide +kernel
theorem dX3_count_4 : decode cX3_count 4 = .ok (.ireturn, 1) := by decide +kernel
theorem dX3_speaker_0 : decode cX3_speaker 0 = .ok (.aload_n 0, 1) := by decide +kernel
theorem dX3_speaker_1 : decode cX3_speaker 1 = .ok (.getfield 9, 3) := by decide +kernel
theorem dX3_speaker_4 : decode cX3_speaker 4 = .ok (.iload_n 1, 1) := by decide +kernel
theorem dX3_speaker_5 : decode cX3_speaker 5 = .ok (.invokestatic 25, 3) := by decide +kernel
theorem dX3_speaker_8 : decode cX3_speaker 8 = .ok (.ireturn, 1) := by decide +kernel
theorem dX3_seconds_0 : decode cX3_seconds 0 = .ok (.aload_n 0, 1) := by decide +kernel
theorem dX3_seconds_1 : decode cX3_seconds 1 = .ok (.getfield 15, 3) := by decide +kernel
theorem dX3_seconds_4 : decode cX3_seconds 4 = .ok (.iload_n 1, 1) := by decide +kernel
theorem dX3_seconds_5 : decode cX3_seconds 5 = .ok (.invokestatic 25, 3) := by decide +kernel
theorem dX3_seconds_8 : decode cX3_seconds 8 = .ok (.ireturn, 1) := by decide +kernel
theorem dX3_ahead_0 : decode cX3_ahead 0 = .ok (.aload_n 0, 1) := by decide +kernel
theorem dX3_ahead_1 : decode cX3_ahead 1 = .ok (.getfield 18, 3) := by decide +kernel
theorem dX3_ahead_4 : decode cX3_ahead 4 = .ok (.iload_n 1, 1) := by decide +kernel
theorem dX3_ahead_5 : decode cX3_ahead 5 = .ok (.invokestatic 25, 3) := by decide +kernel
theorem dX3_ahead_8 : decode cX3_ahead 8 = .ok (.ireturn, 1) := by decide +kernel
theorem dX3_speech_0 : decode cX3_speech 0 = .ok (.iconst 0, 1) := by decide +kernel
theorem dX3_speech_1 : decode cX3_speech 1 = .ok (.istore_n 1, 1) := by decide +kernel
theorem dX3_speech_2 : decode cX3_speech 2 = .ok (.iconst 0, 1) := by decide +kernel
theorem dX3_speech_3 : decode cX3_speech 3 = .ok (.istore_n 2, 1) := by decide +kernel
theorem dX3_speech_4 : decode cX3_speech 4 = .ok (.iload_n 2, 1) := by decide +kernel
theorem dX3_speech_5 : decode cX3_speech 5 = .ok (.aload_n 0, 1) := by decide +kernel
theorem dX3_speech_6 : decode cX3_speech 6 = .ok (.getfield 21, 3) := by decide +kernel
theorem dX3_speech_9 : decode cX3_speech 9 = .ok (.if_icmp .ge 20, 3) := by decide +kernel
theorem dX3_speech_12 : decode cX3_speech 12 = .ok (.iload_n 1, 1) := by decide +kernel
theorem dX3_speech_13 : decode cX3_speech 13 = .ok (.aload_n 0, 1) := by decide +kernel
theorem dX3_speech_14 : decode cX3_speech 14 = .ok (.getfield 15, 3) := by decide +kernel
theorem dX3_speech_17 : decode cX3_speech 17 = .ok (.iload_n 2, 1) := by decide +kernel
theorem dX3_speech_18 : decode cX3_speech 18 = .ok (.invokestatic 25, 3) := by decide +kernel
theorem dX3_speech_21 : decode cX3_speech 21 = .ok (.iadd, 1) := by decide +kernel
theorem dX3_speech_22 : decode cX3_speech 22 = .ok (.istore_n 1, 1) := by decide +kernel
theorem dX3_speech_23 : decode cX3_speech 23 = .ok (.iinc 2 1, 3) := by decide +kernel
theorem dX3_speech_26 : decode cX3_speech 26 = .ok (.goto (-22), 3) := by decide +kernel
theorem dX3_speech_29 : decode cX3_speech 29 = .ok (.iload_n 1, 1) := by decide +kernel
theorem dX3_speech_30 : decode cX3_speech 30 = .ok (.ireturn, 1) := by decide +kernel
theorem dX3_append_0 : decode cX3_append 0 = .ok (.aload_n 0, 1) := by decide +kernel
theorem dX3_append_1 : decode cX3_append 1 = .ok (.getfield 21, 3) := by decide +kernel
theorem dX3_append_4 : decode cX3_append 4 = .ok (.bipush 7, 2) := by decide +kernel
theorem dX3_append_6 : decode cX3_append 6 = .ok (.if_icmp .lt 5, 3) := by decide +kernel
theorem dX3_append_9 : decode cX3_append 9 = .ok (.iconst 0, 1) := by decide +kernel
theorem dX3_append_10 : decode cX3_append 10 = .ok (.ireturn, 1) := by decide +kernel
theorem dX3_append_11 : decode cX3_append 11 = .ok (.aload_n 0, 1) := by decide +kernel
theorem dX3_append_12 : decode cX3_append 12 = .ok (.getfield 9, 3) := by decide +kernel
theorem dX3_append_15 : decode cX3_append 15 = .ok (.aload_n 0, 1) := by decide +kernel
theorem dX3_append_16 : decode cX3_append 16 = .ok (.getfield 21, 3) := by decide +kernel
theorem dX3_append_19 : decode cX3_append 19 = .ok (.iload_n 1, 1) := by decide +kernel
theorem dX3_append_20 : decode cX3_append 20 = .ok (.invokestatic 29, 3) := by decide +kernel
theorem dX3_append_23 : decode cX3_append 23 = .ok (.aload_n 0, 1) := by decide +kernel
theorem dX3_append_24 : decode cX3_append 24 = .ok (.getfield 15, 3) := by decide +kernel
theorem dX3_append_27 : decode cX3_append 27 = .ok (.aload_n 0, 1) := by decide +kernel
theorem dX3_append_28 : decode cX3_append 28 = .ok (.getfield 21, 3) := by decide +kernel
theorem dX3_append_31 : decode cX3_append 31 = .ok (.iload_n 2, 1) := by decide +kernel
theorem dX3_append_32 : decode cX3_append 32 = .ok (.invokestatic 29, 3) := by decide +kernel
theorem dX3_append_35 : decode cX3_append 35 = .ok (.aload_n 0, 1) := by decide +kernel
theorem dX3_append_36 : decode cX3_append 36 = .ok (.getfield 18, 3) := by decide +kernel
theorem dX3_append_39 : decode cX3_append 39 = .ok (.aload_n 0, 1) := by decide +kernel
theorem dX3_append_40 : decode cX3_append 40 = .ok (.getfield 21, 3) := by decide +kernel
theorem dX3_append_43 : decode cX3_append 43 = .ok (.iload_n 3, 1) := by decide +kernel
theorem dX3_append_44 : decode cX3_append 44 = .ok (.invokestatic 29, 3) := by decide +kernel
theorem dX3_append_47 : decode cX3_append 47 = .ok (.aload_n 0, 1) := by decide +kernel
theorem dX3_append_48 : decode cX3_append 48 = .ok (.dup, 1) := by decide +kernel
theorem dX3_append_49 : decode cX3_append 49 = .ok (.getfield 21, 3) := by decide +kernel
theorem dX3_append_52 : decode cX3_append 52 = .ok (.iconst 1, 1) := by decide +kernel
theorem dX3_append_53 : decode cX3_append 53 = .ok (.iadd, 1) := by decide +kernel
theorem dX3_append_54 : decode cX3_append 54 = .ok (.putfield 21, 3) := by decide +kernel
theorem dX3_append_57 : decode cX3_append 57 = .ok (.iconst 1, 1) := by decide +kernel
theorem dX3_append_58 : decode cX3_append 58 = .ok (.ireturn, 1) := by decide +kernel
theorem dX3_clear_0 : decode cX3_clear 0 = .ok (.aload_n 0, 1) := by decide +kernel
theorem dX3_clear_1 : decode cX3_clear 1 = .ok (.getfield 21, 3) := by decide +kernel
theorem dX3_clear_4 : decode cX3_clear 4 = .ok (.istore_n 1, 1) := by decide +kernel
theorem dX3_clear_5 : decode cX3_clear 5 = .ok (.aload_n 0, 1) := by decide +kernel
theorem dX3_clear_6 : decode cX3_clear 6 = .ok (.iconst 0, 1) := by decide +kernel
theorem dX3_clear_7 : decode cX3_clear 7 = .ok (.putfield 21, 3) := by decide +kernel
theorem dX3_clear_10 : decode cX3_clear 10 = .ok (.iload_n 1, 1) := by decide +kernel
theorem dX3_clear_11 : decode cX3_clear 11 = .ok (.ireturn, 1) := by decide +kernel
theorem dX3_copy_0 : decode cX3_copy 0 = .ok (.aload_n 1, 1) := by decide +kernel
theorem dX3_copy_1 : decode cX3_copy 1 = .ok (.getfield 9, 3) := by decide +kernel
theorem dX3_copy_4 : decode cX3_copy 4 = .ok (.aload_n 0, 1) := by decide +kernel
theorem dX3_copy_5 : decode cX3_copy 5 = .ok (.getfield 9, 3) := by decide +kernel
theorem dX3_copy_8 : decode cX3_copy 8 = .ok (.invokestatic 33, 3) := by decide +kernel
theorem dX3_copy_11 : decode cX3_copy 11 = .ok (.aload_n 1, 1) := by decide +kernel
theorem dX3_copy_12 : decode cX3_copy 12 = .ok (.getfield 15, 3) := by decide +kernel
theorem dX3_copy_15 : decode cX3_copy 15 = .ok (.aload_n 0, 1) := by decide +kernel
theorem dX3_copy_16 : decode cX3_copy 16 = .ok (.getfield 15, 3) := by decide +kernel
theorem dX3_copy_19 : decode cX3_copy 19 = .ok (.invokestatic 33, 3) := by decide +kernel
theorem dX3_copy_22 : decode cX3_copy 22 = .ok (.aload_n 1, 1) := by decide +kernel
theorem dX3_copy_23 : decode cX3_copy 23 = .ok (.getfield 18, 3) := by decide +kernel
theorem dX3_copy_26 : decode cX3_copy 26 = .ok (.aload_n 0, 1) := by decide +kernel
theorem dX3_copy_27 : decode cX3_copy 27 = .ok (.getfield 18, 3) := by decide +kernel
theorem dX3_copy_30 : decode cX3_copy 30 = .ok (.invokestatic 33, 3) := by decide +kernel
theorem dX3_copy_33 : decode cX3_copy 33 = .ok (.aload_n 0, 1) := by decide +kernel
theorem dX3_copy_34 : decode cX3_copy 34 = .ok (.aload_n 1, 1) := by decide +kernel
theorem dX3_copy_35 : decode cX3_copy 35 = .ok (.getfield 21, 3) := by decide +kernel
theorem dX3_copy_38 : decode cX3_copy 38 = .ok (.putfield 21, 3) := by decide +kernel
theorem dX3_copy_41 : decode cX3_copy 41 = .ok (.return_, 1) := by decide +kernel
theorem dX4_init_0 : decode cX4_init 0 = .ok (.aload_n 0, 1) := by decide +kernel
theorem dX4_init_1 : decode cX4_init 1 = .ok (.invokespecial 3, 3) := by decide +kernel
theorem dX4_init_4 : decode cX4_init 4 = .ok (.aload_n 0, 1) := by decide +kernel
theorem dX4_init_5 : decode cX4_init 5 = .ok (.bipush 60, 2) := by decide +kernel
theorem dX4_init_7 : decode cX4_init 7 = .ok (.newarray .int, 2) := by decide +kernel
theorem dX4_init_9 : decode cX4_init 9 = .ok (.putfield 9, 3) := by decide +kernel
theorem dX4_init_12 : decode cX4_init 12 = .ok (.aload_n 0, 1) := by decide +kernel
theorem dX4_init_13 : decode cX4_init 13 = .ok (.iconst 0, 1) := by decide +kernel
theorem dX4_init_14 : decode cX4_init 14 = .ok (.putfield 15, 3) := by decide +kernel
theorem dX4_init_17 : decode cX4_init 17 = .ok (.aload_n 0, 1) := by decide +kernel
theorem dX4_init_18 : decode cX4_init 18 = .ok (.bipush 60, 2) := by decide +kernel
theorem dX4_init_20 : decode cX4_init 20 = .ok (.newarray .int, 2) := by decide +kernel
theorem dX4_init_22 : decode cX4_init 22 = .ok (.putfield 19, 3) := by decide +kernel
theorem dX4_init_25 : decode cX4_init 25 = .ok (.aload_n 0, 1) := by decide +kernel
theorem dX4_init_26 : decode cX4_init 26 = .ok (.bipush 60, 2) := by decide +kernel
theorem dX4_init_28 : decode cX4_init 28 = .ok (.newarray .int, 2) := by decide +kernel
theorem dX4_init_30 : decode cX4_init 30 = .ok (.putfield 22, 3) := by decide +kernel
theorem dX4_init_33 : decode cX4_init 33 = .ok (.aload_n 0, 1) := by decide +kernel
theorem dX4_init_34 : decode cX4_init 34 = .ok (.bipush 60, 2) := by decide +kernel
theorem dX4_init_36 : decode cX4_init 36 = .ok (.newarray .int, 2) := by decide +kernel
theorem dX4_init_38 : decode cX4_init 38 = .ok (.putfield 25, 3) := by decide +kernel
theorem dX4_init_41 : decode cX4_init 41 = .ok (.aload_n 0, 1) := by decide +kernel
theorem dX4_init_42 : decode cX4_init 42 = .ok (.iconst 0, 1) := by decide +kernel
theorem dX4_init_43 : decode cX4_init 43 = .ok (.putfield 28, 3) := by decide +kernel
theorem dX4_init_46 : decode cX4_init 46 = .ok (.aload_n 0, 1) := by decide +kernel
theorem dX4_init_47 : decode cX4_init 47 = .ok (.iconst 0, 1) := by decide +kernel
theorem dX4_init_48 : decode cX4_init 48 = .ok (.putfield 31, 3) := by decide +kernel
theorem dX4_init_51 : decode cX4_init 51 = .ok (.aload_n 0, 1) := by decide +kernel
theorem dX4_init_52 : decode cX4_init 52 = .ok (.iconst 0, 1) := by decide +kernel
theorem dX4_init_53 : decode cX4_init 53 = .ok (.putfield 34, 3) := by decide +kernel
theorem dX4_init_56 : decode cX4_init 56 = .ok (.return_, 1) := by decide +kernel
theorem dX4_signCount_0 : decode cX4_signCount 0 = .ok (.aload_n 0, 1) := by decide +kernel
theorem dX4_signCount_1 : decode cX4_signCount 1 = .ok (.getfield 15, 3) := by decide +kernel
theorem dX4_signCount_4 : decode cX4_signCount 4 = .ok (.ireturn, 1) := by decide +kernel
theorem dX4_asked_0 : decode cX4_asked 0 = .ok (.aload_n 0, 1) := by decide +kernel
theorem dX4_asked_1 : decode cX4_asked 1 = .ok (.getfield 31, 3) := by decide +kernel
theorem dX4_asked_4 : decode cX4_asked 4 = .ok (.ireturn, 1) := by decide +kernel
theorem dX4_append_0 : decode cX4_append 0 = .ok (.aload_n 0, 1) := by decide +kernel
theorem dX4_append_1 : decode cX4_append 1 = .ok (.getfield 15, 3) := by decide +kernel
theorem dX4_append_4 : decode cX4_append 4 = .ok (.bipush 60, 2) := by decide +kernel
theorem dX4_append_6 : decode cX4_append 6 = .ok (.if_icmp .lt 5, 3) := by decide +kernel
theorem dX4_append_9 : decode cX4_append 9 = .ok (.iconst 0, 1) := by decide +kernel
theorem dX4_append_10 : decode cX4_append 10 = .ok (.ireturn, 1) := by decide +kernel
theorem dX4_append_11 : decode cX4_append 11 = .ok (.aload_n 0, 1) := by decide +kernel
theorem dX4_append_12 : decode cX4_append 12 = .ok (.getfield 9, 3) := by decide +kernel
theorem dX4_append_15 : decode cX4_append 15 = .ok (.aload_n 0, 1) := by decide +kernel
theorem dX4_append_16 : decode cX4_append 16 = .ok (.getfield 15, 3) := by decide +kernel
theorem dX4_append_19 : decode cX4_append 19 = .ok (.iload_n 1, 1) := by decide +kernel
theorem dX4_append_20 : decode cX4_append 20 = .ok (.invokestatic 37, 3) := by decide +kernel
theorem dX4_append_23 : decode cX4_append 23 = .ok (.aload_n 0, 1) := by decide +kernel
theorem dX4_append_24 : decode cX4_append 24 = .ok (.dup, 1) := by decide +kernel
theorem dX4_append_25 : decode cX4_append 25 = .ok (.getfield 15, 3) := by decide +kernel
theorem dX4_append_28 : decode cX4_append 28 = .ok (.iconst 1, 1) := by decide +kernel
theorem dX4_append_29 : decode cX4_append 29 = .ok (.iadd, 1) := by decide +kernel
theorem dX4_append_30 : decode cX4_append 30 = .ok (.putfield 15, 3) := by decide +kernel
theorem dX4_append_33 : decode cX4_append 33 = .ok (.iconst 1, 1) := by decide +kernel
theorem dX4_append_34 : decode cX4_append 34 = .ok (.ireturn, 1) := by decide +kernel
theorem dX4_clear_0 : decode cX4_clear 0 = .ok (.aload_n 0, 1) := by decide +kernel
theorem dX4_clear_1 : decode cX4_clear 1 = .ok (.getfield 15, 3) := by decide +kernel
theorem dX4_clear_4 : decode cX4_clear 4 = .ok (.istore_n 1, 1) := by decide +kernel
theorem dX4_clear_5 : decode cX4_clear 5 = .ok (.aload_n 0, 1) := by decide +kernel
theorem dX4_clear_6 : decode cX4_clear 6 = .ok (.iconst 0, 1) := by decide +kernel
theorem dX4_clear_7 : decode cX4_clear 7 = .ok (.putfield 15, 3) := by decide +kernel
theorem dX4_clear_10 : decode cX4_clear 10 = .ok (.iload_n 1, 1) := by decide +kernel
theorem dX4_clear_11 : decode cX4_clear 11 = .ok (.ireturn, 1) := by decide +kernel
theorem dX4_read_0 : decode cX4_read 0 = .ok (.aload_n 0, 1) := by decide +kernel
theorem dX4_read_1 : decode cX4_read 1 = .ok (.iconst 0, 1) := by decide +kernel
theorem dX4_read_2 : decode cX4_read 2 = .ok (.putfield 28, 3) := by decide +kernel
theorem dX4_read_5 : decode cX4_read 5 = .ok (.aload_n 0, 1) := by decide +kernel
theorem dX4_read_6 : decode cX4_read 6 = .ok (.iconst 0, 1) := by decide +kernel
theorem dX4_read_7 : decode cX4_read 7 = .ok (.putfield 31, 3) := by decide +kernel
theorem dX4_read_10 : decode cX4_read 10 = .ok (.aload_n 0, 1) := by decide +kernel
theorem dX4_read_11 : decode cX4_read 11 = .ok (.iconst 0, 1) := by decide +kernel
theorem dX4_read_12 : decode cX4_read 12 = .ok (.putfield 34, 3) := by decide +kernel
theorem dX4_read_15 : decode cX4_read 15 = .ok (.iconst 0, 1) := by decide +kernel
theorem dX4_read_16 : decode cX4_read 16 = .ok (.istore_n 1, 1) := by decide +kernel
theorem dX4_read_17 : decode cX4_read 17 = .ok (.iload_n 1, 1) := by decide +kernel
theorem dX4_read_18 : decode cX4_read 18 = .ok (.aload_n 0, 1) := by decide +kernel
theorem dX4_read_19 : decode cX4_read 19 = .ok (.getfield 15, 3) := by decide +kernel
theorem dX4_read_22 : decode cX4_read 22 = .ok (.if_icmp .ge 26, 3) := by decide +kernel
theorem dX4_read_25 : decode cX4_read 25 = .ok (.aload_n 0, 1) := by decide +kernel
theorem dX4_read_26 : decode cX4_read 26 = .ok (.aload_n 0, 1) := by decide +kernel
theorem dX4_read_27 : decode cX4_read 27 = .ok (.getfield 9, 3) := by decide +kernel
theorem dX4_read_30 : decode cX4_read 30 = .ok (.iload_n 1, 1) := by decide +kernel
theorem dX4_read_31 : decode cX4_read 31 = .ok (.invokestatic 41, 3) := by decide +kernel
theorem dX4_read_34 : decode cX4_read 34 = .ok (.invokevirtual 45, 3) := by decide +kernel
theorem dX4_read_37 : decode cX4_read 37 = .ok (.ifCond .ne 5, 3) := by decide +kernel
theorem dX4_read_40 : decode cX4_read 40 = .ok (.iload_n 1, 1) := by decide +kernel
theorem dX4_read_41 : decode cX4_read 41 = .ok (.ireturn, 1) := by decide +kernel
theorem dX4_read_42 : decode cX4_read 42 = .ok (.iinc 1 1, 3) := by decide +kernel
theorem dX4_read_45 : decode cX4_read 45 = .ok (.goto (-28), 3) := by decide +kernel
theorem dX4_read_48 : decode cX4_read 48 = .ok (.aload_n 0, 1) := by decide +kernel
theorem dX4_read_49 : decode cX4_read 49 = .ok (.getfield 34, 3) := by decide +kernel
theorem dX4_read_52 : decode cX4_read 52 = .ok (.ifCond .eq 11, 3) := by decide +kernel
theorem dX4_read_55 : decode cX4_read 55 = .ok (.aload_n 0, 1) := by decide +kernel
theorem dX4_read_56 : decode cX4_read 56 = .ok (.getfield 34, 3) := by decide +kernel
theorem dX4_read_59 : decode cX4_read 59 = .ok (.iconst 1, 1) := by decide +kernel
theorem dX4_read_60 : decode cX4_read 60 = .ok (.if_icmp .ne 8, 3) := by decide +kernel
theorem dX4_read_63 : decode cX4_read 63 = .ok (.bipush (-6), 2) := by decide +kernel
theorem dX4_read_65 : decode cX4_read 65 = .ok (.goto 7, 3) := by decide +kernel
theorem dX4_read_68 : decode cX4_read 68 = .ok (.aload_n 0, 1) := by decide +kernel
theorem dX4_read_69 : decode cX4_read 69 = .ok (.getfield 15, 3) := by decide +kernel
theorem dX4_read_72 : decode cX4_read 72 = .ok (.ireturn, 1) := by decide +kernel
theorem dX4_goesBy_0 : decode cX4_goesBy 0 = .ok (.iconst 0, 1) := by decide +kernel
theorem dX4_goesBy_1 : decode cX4_goesBy 1 = .ok (.istore_n 3, 1) := by decide +kernel
theorem dX4_goesBy_2 : decode cX4_goesBy 2 = .ok (.iload_n 3, 1) := by decide +kernel
theorem dX4_goesBy_3 : decode cX4_goesBy 3 = .ok (.aload_n 0, 1) := by decide +kernel
theorem dX4_goesBy_4 : decode cX4_goesBy 4 = .ok (.getfield 28, 3) := by decide +kernel
theorem dX4_goesBy_7 : decode cX4_goesBy 7 = .ok (.if_icmp .ge 21, 3) := by decide +kernel
theorem dX4_goesBy_10 : decode cX4_goesBy 10 = .ok (.aload_n 0, 1) := by decide +kernel
theorem dX4_goesBy_11 : decode cX4_goesBy 11 = .ok (.iload_n 3, 1) := by decide +kernel
theorem dX4_goesBy_12 : decode cX4_goesBy 12 = .ok (.aload_n 1, 1) := by decide +kernel
theorem dX4_goesBy_13 : decode cX4_goesBy 13 = .ok (.aload_n 2, 1) := by decide +kernel
theorem dX4_goesBy_14 : decode cX4_goesBy 14 = .ok (.invokevirtual 49, 3) := by decide +kernel
theorem dX4_goesBy_17 : decode cX4_goesBy 17 = .ok (.ifCond .ne 5, 3) := by decide +kernel
theorem dX4_goesBy_20 : decode cX4_goesBy 20 = .ok (.iload_n 3, 1) := by decide +kernel
theorem dX4_goesBy_21 : decode cX4_goesBy 21 = .ok (.ireturn, 1) := by decide +kernel
theorem dX4_goesBy_22 : decode cX4_goesBy 22 = .ok (.iinc 3 1, 3) := by decide +kernel
theorem dX4_goesBy_25 : decode cX4_goesBy 25 = .ok (.goto (-23), 3) := by decide +kernel
theorem dX4_goesBy_28 : decode cX4_goesBy 28 = .ok (.bipush (-6), 2) := by decide +kernel
theorem dX4_goesBy_30 : decode cX4_goesBy 30 = .ok (.ireturn, 1) := by decide +kernel
theorem dX4_readySeconds_0 : decode cX4_readySeconds 0 = .ok (.iconst 0, 1) := by decide +kernel
theorem dX4_readySeconds_1 : decode cX4_readySeconds 1 = .ok (.istore 4, 2) := by decide +kernel
theorem dX4_readySeconds_3 : decode cX4_readySeconds 3 = .ok (.iconst 0, 1) := by decide +kernel
theorem dX4_readySeconds_4 : decode cX4_readySeconds 4 = .ok (.istore 5, 2) := by decide +kernel
theorem dX4_readySeconds_6 : decode cX4_readySeconds 6 = .ok (.iload 5, 2) := by decide +kernel
theorem dX4_readySeconds_8 : decode cX4_readySeconds 8 = .ok (.aload_n 0, 1) := by decide +kernel
theorem dX4_readySeconds_9 : decode cX4_readySeconds 9 = .ok (.getfield 28, 3) := by decide +kernel
theorem dX4_readySeconds_12 : decode cX4_readySeconds 12 = .ok (.if_icmp .ge 55, 3) := by decide +kernel
theorem dX4_readySeconds_15 : decode cX4_readySeconds 15 = .ok (.aload_n 0, 1) := by decide +kernel
theorem dX4_readySeconds_16 : decode cX4_readySeconds 16 = .ok (.getfield 19, 3) := by decide +kernel
theorem dX4_readySeconds_19 : decode cX4_readySeconds 19 = .ok (.iload 5, 2) := by decide +kernel
theorem dX4_readySeconds_21 : decode cX4_readySeconds 21 = .ok (.invokestatic 41, 3) := by decide +kernel
theorem dX4_readySeconds_24 : decode cX4_readySeconds 24 = .ok (.iload_n 1, 1) := by decide +kernel
theorem dX4_readySeconds_25 : decode cX4_readySeconds 25 = .ok (.if_icmp .eq 27, 3) := by decide +kernel
theorem dX4_readySeconds_28 : decode cX4_readySeconds 28 = .ok (.iload 4, 2) := by decide +kernel
theorem dX4_readySeconds_30 : decode cX4_readySeconds 30 = .ok (.aload_n 0, 1) := by decide +kernel
theorem dX4_readySeconds_31 : decode cX4_readySeconds 31 = .ok (.getfield 25, 3) := by decide +kernel
theorem dX4_readySeconds_34 : decode cX4_readySeconds 34 = .ok (.iload 5, 2) := by decide +kernel
theorem dX4_readySeconds_36 : decode cX4_readySeconds 36 = .ok (.invokestatic 41, 3) := by decide +kernel
theorem dX4_readySeconds_39 : decode cX4_readySeconds 39 = .ok (.aload_n 2, 1) := by decide +kernel
theorem dX4_readySeconds_40 : decode cX4_readySeconds 40 = .ok (.iload_n 1, 1) := by decide +kernel
theorem dX4_readySeconds_41 : decode cX4_readySeconds 41 = .ok (.invokevirtual 53, 3) := by decide +kernel
theorem dX4_readySeconds_44 : decode cX4_readySeconds 44 = .ok (.isub, 1) := by decide +kernel
theorem dX4_readySeconds_45 : decode cX4_readySeconds 45 = .ok (.iconst 0, 1) := by decide +kernel
theorem dX4_readySeconds_46 : decode cX4_readySeconds 46 = .ok (.invokestatic 59, 3) := by decide +kernel
theorem dX4_readySeconds_49 : decode cX4_readySeconds 49 = .ok (.iadd, 1) := by decide +kernel
theorem dX4_readySeconds_50 : decode cX4_readySeconds 50 = .ok (.istore 4, 2) := by decide +kernel
theorem dX4_readySeconds_52 : decode cX4_readySeconds 52 = .ok (.aload_n 0, 1) := by decide +kernel
theorem dX4_readySeconds_53 : decode cX4_readySeconds 53 = .ok (.iload 5, 2) := by decide +kernel
theorem dX4_readySeconds_55 : decode cX4_readySeconds 55 = .ok (.aload_n 2, 1) := by decide +kernel
theorem dX4_readySeconds_56 : decode cX4_readySeconds 56 = .ok (.aload_n 3, 1) := by decide +kernel
theorem dX4_readySeconds_57 : decode cX4_readySeconds 57 = .ok (.invokevirtual 49, 3) := by decide +kernel
theorem dX4_readySeconds_60 : decode cX4_readySeconds 60 = .ok (.pop, 1) := by decide +kernel
theorem dX4_readySeconds_61 : decode cX4_readySeconds 61 = .ok (.iinc 5 1, 3) := by decide +kernel
theorem dX4_readySeconds_64 : decode cX4_readySeconds 64 = .ok (.goto (-58), 3) := by decide +kernel
theorem dX4_readySeconds_67 : decode cX4_readySeconds 67 = .ok (.iload 4, 2) := by decide +kernel
theorem dX4_readySeconds_69 : decode cX4_readySeconds 69 = .ok (.ireturn, 1) := by decide +kernel
theorem dX4_partGoesBy_0 : decode cX4_partGoesBy 0 = .ok (.aload_n 0, 1) := by decide +kernel
theorem dX4_partGoesBy_1 : decode cX4_partGoesBy 1 = .ok (.getfield 19, 3) := by decide +kernel
theorem dX4_partGoesBy_4 : decode cX4_partGoesBy 4 = .ok (.iload_n 1, 1) := by decide +kernel
theorem dX4_partGoesBy_5 : decode cX4_partGoesBy 5 = .ok (.invokestatic 41, 3) := by decide +kernel
theorem dX4_partGoesBy_8 : decode cX4_partGoesBy 8 = .ok (.istore 4, 2) := by decide +kernel
theorem dX4_partGoesBy_10 : decode cX4_partGoesBy 10 = .ok (.aload_n 0, 1) := by decide +kernel
theorem dX4_partGoesBy_11 : decode cX4_partGoesBy 11 = .ok (.getfield 25, 3) := by decide +kernel
theorem dX4_partGoesBy_14 : decode cX4_partGoesBy 14 = .ok (.iload_n 1, 1) := by decide +kernel
theorem dX4_partGoesBy_15 : decode cX4_partGoesBy 15 = .ok (.invokestatic 41, 3) := by decide +kernel
theorem dX4_partGoesBy_18 : decode cX4_partGoesBy 18 = .ok (.istore 5, 2) := by decide +kernel
theorem dX4_partGoesBy_20 : decode cX4_partGoesBy 20 = .ok (.iload 4, 2) := by decide +kernel
theorem dX4_partGoesBy_22 : decode cX4_partGoesBy 22 = .ok (.bipush (-2), 2) := by decide +kernel
theorem dX4_partGoesBy_24 : decode cX4_partGoesBy 24 = .ok (.if_icmp .ne 9, 3) := by decide +kernel
theorem dX4_partGoesBy_27 : decode cX4_partGoesBy 27 = .ok (.aload_n 2, 1) := by decide +kernel
theorem dX4_partGoesBy_28 : decode cX4_partGoesBy 28 = .ok (.invokevirtual 65, 3) := by decide +kernel
theorem dX4_partGoesBy_31 : decode cX4_partGoesBy 31 = .ok (.iconst 1, 1) := by decide +kernel
theorem dX4_partGoesBy_32 : decode cX4_partGoesBy 32 = .ok (.ireturn, 1) := by decide +kernel
theorem dX4_partGoesBy_33 : decode cX4_partGoesBy 33 = .ok (.iload 4, 2) := by decide +kernel
theorem dX4_partGoesBy_35 : decode cX4_partGoesBy 35 = .ok (.iconst (-1), 1) := by decide +kernel
theorem dX4_partGoesBy_36 : decode cX4_partGoesBy 36 = .ok (.if_icmp .ne 11, 3) := by decide +kernel
theorem dX4_partGoesBy_39 : decode cX4_partGoesBy 39 = .ok (.aload_n 2, 1) := by decide +kernel
theorem dX4_partGoesBy_40 : decode cX4_partGoesBy 40 = .ok (.iload 5, 2) := by decide +kernel
theorem dX4_partGoesBy_42 : decode cX4_partGoesBy 42 = .ok (.invokevirtual 68, 3) := by decide +kernel
theorem dX4_partGoesBy_45 : decode cX4_partGoesBy 45 = .ok (.iconst 1, 1) := by decide +kernel
theorem dX4_partGoesBy_46 : decode cX4_partGoesBy 46 = .ok (.ireturn, 1) := by decide +kernel
theorem dX4_partGoesBy_47 : decode cX4_partGoesBy 47 = .ok (.iload 4, 2) := by decide +kernel
theorem dX4_partGoesBy_49 : decode cX4_partGoesBy 49 = .ok (.bipush 6, 2) := by decide +kernel
theorem dX4_partGoesBy_51 : decode cX4_partGoesBy 51 = .ok (.if_icmp .lt 15, 3) := by decide +kernel
theorem dX4_partGoesBy_54 : decode cX4_partGoesBy 54 = .ok (.aload_n 3, 1) := by decide +kernel
theorem dX4_partGoesBy_55 : decode cX4_partGoesBy 55 = .ok (.iload 4, 2) := by decide +kernel
theorem dX4_partGoesBy_57 : decode cX4_partGoesBy 57 = .ok (.bipush 6, 2) := by decide +kernel
theorem dX4_partGoesBy_59 : decode cX4_partGoesBy 59 = .ok (.isub, 1) := by decide +kernel
theorem dX4_partGoesBy_60 : decode cX4_partGoesBy 60 = .ok (.invokestatic 41, 3) := by decide +kernel
theorem dX4_partGoesBy_63 : decode cX4_partGoesBy 63 = .ok (.goto 5, 3) := by decide +kernel
theorem dX4_partGoesBy_66 : decode cX4_partGoesBy 66 = .ok (.iload 4, 2) := by decide +kernel
theorem dX4_partGoesBy_68 : decode cX4_partGoesBy 68 = .ok (.istore 6, 2) := by decide +kernel
theorem dX4_partGoesBy_70 : decode cX4_partGoesBy 70 = .ok (.aload_n 0, 1) := by decide +kernel
theorem dX4_partGoesBy_71 : decode cX4_partGoesBy 71 = .ok (.getfield 22, 3) := by decide +kernel
theorem dX4_partGoesBy_74 : decode cX4_partGoesBy 74 = .ok (.iload_n 1, 1) := by decide +kernel
theorem dX4_partGoesBy_75 : decode cX4_partGoesBy 75 = .ok (.invokestatic 41, 3) := by decide +kernel
theorem dX4_partGoesBy_78 : decode cX4_partGoesBy 78 = .ok (.iconst 1, 1) := by decide +kernel
theorem dX4_partGoesBy_79 : decode cX4_partGoesBy 79 = .ok (.if_icmp .ne 13, 3) := by decide +kernel
theorem dX4_partGoesBy_82 : decode cX4_partGoesBy 82 = .ok (.aload_n 2, 1) := by decide +kernel
theorem dX4_partGoesBy_83 : decode cX4_partGoesBy 83 = .ok (.iload 6, 2) := by decide +kernel
theorem dX4_partGoesBy_85 : decode cX4_partGoesBy 85 = .ok (.iload 5, 2) := by decide +kernel
theorem dX4_partGoesBy_87 : decode cX4_partGoesBy 87 = .ok (.invokevirtual 72, 3) := by decide +kernel
theorem dX4_partGoesBy_90 : decode cX4_partGoesBy 90 = .ok (.iconst 1, 1) := by decide +kernel
theorem dX4_partGoesBy_91 : decode cX4_partGoesBy 91 = .ok (.ireturn, 1) := by decide +kernel
theorem dX4_partGoesBy_92 : decode cX4_partGoesBy 92 = .ok (.aload_n 2, 1) := by decide +kernel
theorem dX4_partGoesBy_93 : decode cX4_partGoesBy 93 = .ok (.iload 6, 2) := by decide +kernel
theorem dX4_partGoesBy_95 : decode cX4_partGoesBy 95 = .ok (.invokevirtual 76, 3) := by decide +kernel
theorem dX4_partGoesBy_98 : decode cX4_partGoesBy 98 = .ok (.ifCond .ne 5, 3) := by decide +kernel
theorem dX4_partGoesBy_101 : decode cX4_partGoesBy 101 = .ok (.iconst 0, 1) := by decide +kernel
theorem dX4_partGoesBy_102 : decode cX4_partGoesBy 102 = .ok (.ireturn, 1) := by decide +kernel
theorem dX4_partGoesBy_103 : decode cX4_partGoesBy 103 = .ok (.aload_n 2, 1) := by decide +kernel
theorem dX4_partGoesBy_104 : decode cX4_partGoesBy 104 = .ok (.iload 6, 2) := by decide +kernel
theorem dX4_partGoesBy_106 : decode cX4_partGoesBy 106 = .ok (.iload 5, 2) := by decide +kernel
theorem dX4_partGoesBy_108 : decode cX4_partGoesBy 108 = .ok (.invokevirtual 79, 3) := by decide +kernel
theorem dX4_partGoesBy_111 : decode cX4_partGoesBy 111 = .ok (.iconst 1, 1) := by decide +kernel
theorem dX4_partGoesBy_112 : decode cX4_partGoesBy 112 = .ok (.ireturn, 1) := by decide +kernel
theorem dX4_takes_0 : decode cX4_takes 0 = .ok (.aload_n 0, 1) := by decide +kernel
theorem dX4_takes_1 : decode cX4_takes 1 = .ok (.getfield 34, 3) := by decide +kernel
theorem dX4_takes_4 : decode cX4_takes 4 = .ok (.iconst 1, 1) := by decide +kernel
theorem dX4_takes_5 : decode cX4_takes 5 = .ok (.if_icmp .ne 55, 3) := by decide +kernel
theorem dX4_takes_8 : decode cX4_takes 8 = .ok (.iload_n 1, 1) := by decide +kernel
theorem dX4_takes_9 : decode cX4_takes 9 = .ok (.bipush 48, 2) := by decide +kernel
theorem dX4_takes_11 : decode cX4_takes 11 = .ok (.bipush 57, 2) := by decide +kernel
theorem dX4_takes_13 : decode cX4_takes 13 = .ok (.invokestatic 82, 3) := by decide +kernel
theorem dX4_takes_16 : decode cX4_takes 16 = .ok (.ifCond .eq 44, 3) := by decide +kernel
theorem dX4_takes_19 : decode cX4_takes 19 = .ok (.aload_n 0, 1) := by decide +kernel
theorem dX4_takes_20 : decode cX4_takes 20 = .ok (.getfield 25, 3) := by decide +kernel
theorem dX4_takes_23 : decode cX4_takes 23 = .ok (.aload_n 0, 1) := by decide +kernel
theorem dX4_takes_24 : decode cX4_takes 24 = .ok (.getfield 28, 3) := by decide +kernel
theorem dX4_takes_27 : decode cX4_takes 27 = .ok (.iconst 1, 1) := by decide +kernel
theorem dX4_takes_28 : decode cX4_takes 28 = .ok (.isub, 1) := by decide +kernel
theorem dX4_takes_29 : decode cX4_takes 29 = .ok (.bipush 10, 2) := by decide +kernel
theorem dX4_takes_31 : decode cX4_takes 31 = .ok (.aload_n 0, 1) := by decide +kernel
theorem dX4_takes_32 : decode cX4_takes 32 = .ok (.getfield 25, 3) := by decide +kernel
theorem dX4_takes_35 : decode cX4_takes 35 = .ok (.aload_n 0, 1) := by decide +kernel
theorem dX4_takes_36 : decode cX4_takes 36 = .ok (.getfield 28, 3) := by decide +kernel
theorem dX4_takes_39 : decode cX4_takes 39 = .ok (.iconst 1, 1) := by decide +kernel
theorem dX4_takes_40 : decode cX4_takes 40 = .ok (.isub, 1) := by decide +kernel
theorem dX4_takes_41 : decode cX4_takes 41 = .ok (.invokestatic 41, 3) := by decide +kernel
theorem dX4_takes_44 : decode cX4_takes 44 = .ok (.imul, 1) := by decide +kernel
theorem dX4_takes_45 : decode cX4_takes 45 = .ok (.iload_n 1, 1) := by decide +kernel
theorem dX4_takes_46 : decode cX4_takes 46 = .ok (.iadd, 1) := by decide +kernel
theorem dX4_takes_47 : decode cX4_takes 47 = .ok (.bipush 48, 2) := by decide +kernel
theorem dX4_takes_49 : decode cX4_takes 49 = .ok (.isub, 1) := by decide +kernel
theorem dX4_takes_50 : decode cX4_takes 50 = .ok (.invokestatic 37, 3) := by decide +kernel
theorem dX4_takes_53 : decode cX4_takes 53 = .ok (.aload_n 0, 1) := by decide +kernel
theorem dX4_takes_54 : decode cX4_takes 54 = .ok (.iconst 0, 1) := by decide +kernel
theorem dX4_takes_55 : decode cX4_takes 55 = .ok (.putfield 34, 3) := by decide +kernel
theorem dX4_takes_58 : decode cX4_takes 58 = .ok (.iconst 1, 1) := by decide +kernel
theorem dX4_takes_59 : decode cX4_takes 59 = .ok (.ireturn, 1) := by decide +kernel
theorem dX4_takes_60 : decode cX4_takes 60 = .ok (.aload_n 0, 1) := by decide +kernel
theorem dX4_takes_61 : decode cX4_takes 61 = .ok (.getfield 34, 3) := by decide +kernel
theorem dX4_takes_64 : decode cX4_takes 64 = .ok (.ifCond .eq 11, 3) := by decide +kernel
theorem dX4_takes_67 : decode cX4_takes 67 = .ok (.aload_n 0, 1) := by decide +kernel
theorem dX4_takes_68 : decode cX4_takes 68 = .ok (.getfield 34, 3) := by decide +kernel
theorem dX4_takes_71 : decode cX4_takes 71 = .ok (.iconst 1, 1) := by decide +kernel
theorem dX4_takes_72 : decode cX4_takes 72 = .ok (.if_icmp .ne 9, 3) := by decide +kernel
theorem dX4_takes_75 : decode cX4_takes 75 = .ok (.aload_n 0, 1) := by decide +kernel
theorem dX4_takes_76 : decode cX4_takes 76 = .ok (.iload_n 1, 1) := by decide +kernel
theorem dX4_takes_77 : decode cX4_takes 77 = .ok (.invokevirtual 86, 3) := by decide +kernel
theorem dX4_takes_80 : decode cX4_takes 80 = .ok (.ireturn, 1) := by decide +kernel
theorem dX4_takes_81 : decode cX4_takes 81 = .ok (.aload_n 0, 1) := by decide +kernel
theorem dX4_takes_82 : decode cX4_takes 82 = .ok (.getfield 34, 3) := by decide +kernel
theorem dX4_takes_85 : decode cX4_takes 85 = .ok (.iconst 2, 1) := by decide +kernel
theorem dX4_takes_86 : decode cX4_takes 86 = .ok (.if_icmp .ne 30, 3) := by decide +kernel
theorem dX4_takes_89 : decode cX4_takes 89 = .ok (.iload_n 1, 1) := by decide +kernel
theorem dX4_takes_90 : decode cX4_takes 90 = .ok (.bipush 33, 2) := by decide +kernel
theorem dX4_takes_92 : decode cX4_takes 92 = .ok (.if_icmp .ne 24, 3) := by decide +kernel
theorem dX4_takes_95 : decode cX4_takes 95 = .ok (.aload_n 0, 1) := by decide +kernel
theorem dX4_takes_96 : decode cX4_takes 96 = .ok (.getfield 22, 3) := by decide +kernel
theorem dX4_takes_99 : decode cX4_takes 99 = .ok (.aload_n 0, 1) := by decide +kernel
theorem dX4_takes_100 : decode cX4_takes 100 = .ok (.getfield 28, 3) := by decide +kernel
theorem dX4_takes_103 : decode cX4_takes 103 = .ok (.iconst 1, 1) := by decide +kernel
theorem dX4_takes_104 : decode cX4_takes 104 = .ok (.isub, 1) := by decide +kernel
theorem dX4_takes_105 : decode cX4_takes 105 = .ok (.iconst 1, 1) := by decide +kernel
theorem dX4_takes_106 : decode cX4_takes 106 = .ok (.invokestatic 37, 3) := by decide +kernel
theorem dX4_takes_109 : decode cX4_takes 109 = .ok (.aload_n 0, 1) := by decide +kernel
theorem dX4_takes_110 : decode cX4_takes 110 = .ok (.iconst 3, 1) := by decide +kernel
theorem dX4_takes_111 : decode cX4_takes 111 = .ok (.putfield 34, 3) := by decide +kernel
theorem dX4_takes_114 : decode cX4_takes 114 = .ok (.iconst 1, 1) := by decide +kernel
theorem dX4_takes_115 : decode cX4_takes 115 = .ok (.ireturn, 1) := by decide +kernel
theorem dX4_takes_116 : decode cX4_takes 116 = .ok (.iload_n 1, 1) := by decide +kernel
theorem dX4_takes_117 : decode cX4_takes 117 = .ok (.bipush 49, 2) := by decide +kernel
theorem dX4_takes_119 : decode cX4_takes 119 = .ok (.bipush 57, 2) := by decide +kernel
theorem dX4_takes_121 : decode cX4_takes 121 = .ok (.invokestatic 82, 3) := by decide +kernel
theorem dX4_takes_124 : decode cX4_takes 124 = .ok (.ifCond .ne 5, 3) := by decide +kernel
theorem dX4_takes_127 : decode cX4_takes 127 = .ok (.iconst 0, 1) := by decide +kernel
theorem dX4_takes_128 : decode cX4_takes 128 = .ok (.ireturn, 1) := by decide +kernel
theorem dX4_takes_129 : decode cX4_takes 129 = .ok (.aload_n 0, 1) := by decide +kernel
theorem dX4_takes_130 : decode cX4_takes 130 = .ok (.getfield 25, 3) := by decide +kernel
theorem dX4_takes_133 : decode cX4_takes 133 = .ok (.aload_n 0, 1) := by decide +kernel
theorem dX4_takes_134 : decode cX4_takes 134 = .ok (.getfield 28, 3) := by decide +kernel
theorem dX4_takes_137 : decode cX4_takes 137 = .ok (.iconst 1, 1) := by decide +kernel
theorem dX4_takes_138 : decode cX4_takes 138 = .ok (.isub, 1) := by decide +kernel
theorem dX4_takes_139 : decode cX4_takes 139 = .ok (.iload_n 1, 1) := by decide +kernel
theorem dX4_takes_140 : decode cX4_takes 140 = .ok (.bipush 48, 2) := by decide +kernel
theorem dX4_takes_142 : decode cX4_takes 142 = .ok (.isub, 1) := by decide +kernel
theorem dX4_takes_143 : decode cX4_takes 143 = .ok (.invokestatic 37, 3) := by decide +kernel
theorem dX4_takes_146 : decode cX4_takes 146 = .ok (.aload_n 0, 1) := by decide +kernel
theorem dX4_takes_147 : decode cX4_takes 147 = .ok (.iconst 1, 1) := by decide +kernel
theorem dX4_takes_148 : decode cX4_takes 148 = .ok (.putfield 34, 3) := by decide +kernel
theorem dX4_takes_151 : decode cX4_takes 151 = .ok (.iconst 1, 1) := by decide +kernel
theorem dX4_takes_152 : decode cX4_takes 152 = .ok (.ireturn, 1) := by decide +kernel
theorem dX4_beginsPart_0 : decode cX4_beginsPart 0 = .ok (.iload_n 1, 1) := by decide +kernel
theorem dX4_beginsPart_1 : decode cX4_beginsPart 1 = .ok (.bipush 65, 2) := by decide +kernel
theorem dX4_beginsPart_3 : decode cX4_beginsPart 3 = .ok (.bipush 70, 2) := by decide +kernel
theorem dX4_beginsPart_5 : decode cX4_beginsPart 5 = .ok (.invokestatic 82, 3) := by decide +kernel
theorem dX4_beginsPart_8 : decode cX4_beginsPart 8 = .ok (.ifCond .eq 14, 3) := by decide +kernel
theorem dX4_beginsPart_11 : decode cX4_beginsPart 11 = .ok (.aload_n 0, 1) := by decide +kernel
theorem dX4_beginsPart_12 : decode cX4_beginsPart 12 = .ok (.iload_n 1, 1) := by decide +kernel
theorem dX4_beginsPart_13 : decode cX4_beginsPart 13 = .ok (.bipush 65, 2) := by decide +kernel
theorem dX4_beginsPart_15 : decode cX4_beginsPart 15 = .ok (.isub, 1) := by decide +kernel
theorem dX4_beginsPart_16 : decode cX4_beginsPart 16 = .ok (.iconst 2, 1) := by decide +kernel
theorem dX4_beginsPart_17 : decode cX4_beginsPart 17 = .ok (.invokevirtual 89, 3) := by decide +kernel
theorem dX4_beginsPart_20 : decode cX4_beginsPart 20 = .ok (.iconst 1, 1) := by decide +kernel
theorem dX4_beginsPart_21 : decode cX4_beginsPart 21 = .ok (.ireturn, 1) := by decide +kernel
theorem dX4_beginsPart_22 : decode cX4_beginsPart 22 = .ok (.iload_n 1, 1) := by decide +kernel
theorem dX4_beginsPart_23 : decode cX4_beginsPart 23 = .ok (.bipush 63, 2) := by decide +kernel
theorem dX4_beginsPart_25 : decode cX4_beginsPart 25 = .ok (.if_icmp .ne 35, 3) := by decide +kernel
theorem dX4_beginsPart_28 : decode cX4_beginsPart 28 = .ok (.aload_n 0, 1) := by decide +kernel
theorem dX4_beginsPart_29 : decode cX4_beginsPart 29 = .ok (.getfield 31, 3) := by decide +kernel
theorem dX4_beginsPart_32 : decode cX4_beginsPart 32 = .ok (.iconst 3, 1) := by decide +kernel
theorem dX4_beginsPart_33 : decode cX4_beginsPart 33 = .ok (.if_icmp .ge 27, 3) := by decide +kernel
theorem dX4_beginsPart_36 : decode cX4_beginsPart 36 = .ok (.aload_n 0, 1) := by decide +kernel
theorem dX4_beginsPart_37 : decode cX4_beginsPart 37 = .ok (.bipush 6, 2) := by decide +kernel
theorem dX4_beginsPart_39 : decode cX4_beginsPart 39 = .ok (.aload_n 0, 1) := by decide +kernel
theorem dX4_beginsPart_40 : decode cX4_beginsPart 40 = .ok (.getfield 31, 3) := by decide +kernel
theorem dX4_beginsPart_43 : decode cX4_beginsPart 43 = .ok (.iadd, 1) := by decide +kernel
theorem dX4_beginsPart_44 : decode cX4_beginsPart 44 = .ok (.iconst 2, 1) := by decide +kernel
theorem dX4_beginsPart_45 : decode cX4_beginsPart 45 = .ok (.invokevirtual 89, 3) := by decide +kernel
theorem dX4_beginsPart_48 : decode cX4_beginsPart 48 = .ok (.aload_n 0, 1) := by decide +kernel
theorem dX4_beginsPart_49 : decode cX4_beginsPart 49 = .ok (.dup, 1) := by decide +kernel
theorem dX4_beginsPart_50 : decode cX4_beginsPart 50 = .ok (.getfield 31, 3) := by decide +kernel
theorem dX4_beginsPart_53 : decode cX4_beginsPart 53 = .ok (.iconst 1, 1) := by decide +kernel
theorem dX4_beginsPart_54 : decode cX4_beginsPart 54 = .ok (.iadd, 1) := by decide +kernel
theorem dX4_beginsPart_55 : decode cX4_beginsPart 55 = .ok (.putfield 31, 3) := by decide +kernel
theorem dX4_beginsPart_58 : decode cX4_beginsPart 58 = .ok (.iconst 1, 1) := by decide +kernel
theorem dX4_beginsPart_59 : decode cX4_beginsPart 59 = .ok (.ireturn, 1) := by decide +kernel
theorem dX4_beginsPart_60 : decode cX4_beginsPart 60 = .ok (.iload_n 1, 1) := by decide +kernel
theorem dX4_beginsPart_61 : decode cX4_beginsPart 61 = .ok (.bipush 46, 2) := by decide +kernel
theorem dX4_beginsPart_63 : decode cX4_beginsPart 63 = .ok (.if_icmp .ne 11, 3) := by decide +kernel
theorem dX4_beginsPart_66 : decode cX4_beginsPart 66 = .ok (.aload_n 0, 1) := by decide +kernel
theorem dX4_beginsPart_67 : decode cX4_beginsPart 67 = .ok (.iconst (-1), 1) := by decide +kernel
theorem dX4_beginsPart_68 : decode cX4_beginsPart 68 = .ok (.iconst 3, 1) := by decide +kernel
theorem dX4_beginsPart_69 : decode cX4_beginsPart 69 = .ok (.invokevirtual 89, 3) := by decide +kernel
theorem dX4_beginsPart_72 : decode cX4_beginsPart 72 = .ok (.iconst 1, 1) := by decide +kernel
theorem dX4_beginsPart_73 : decode cX4_beginsPart 73 = .ok (.ireturn, 1) := by decide +kernel
theorem dX4_beginsPart_74 : decode cX4_beginsPart 74 = .ok (.iload_n 1, 1) := by decide +kernel
theorem dX4_beginsPart_75 : decode cX4_beginsPart 75 = .ok (.bipush 44, 2) := by decide +kernel
theorem dX4_beginsPart_77 : decode cX4_beginsPart 77 = .ok (.if_icmp .ne 12, 3) := by decide +kernel
theorem dX4_beginsPart_80 : decode cX4_beginsPart 80 = .ok (.aload_n 0, 1) := by decide +kernel
theorem dX4_beginsPart_81 : decode cX4_beginsPart 81 = .ok (.bipush (-2), 2) := by decide +kernel
theorem dX4_beginsPart_83 : decode cX4_beginsPart 83 = .ok (.iconst 0, 1) := by decide +kernel
theorem dX4_beginsPart_84 : decode cX4_beginsPart 84 = .ok (.invokevirtual 89, 3) := by decide +kernel
theorem dX4_beginsPart_87 : decode cX4_beginsPart 87 = .ok (.iconst 1, 1) := by decide +kernel
theorem dX4_beginsPart_88 : decode cX4_beginsPart 88 = .ok (.ireturn, 1) := by decide +kernel
theorem dX4_beginsPart_89 : decode cX4_beginsPart 89 = .ok (.iconst 0, 1) := by decide +kernel
theorem dX4_beginsPart_90 : decode cX4_beginsPart 90 = .ok (.ireturn, 1) := by decide +kernel
theorem dX4_addPart_0 : decode cX4_addPart 0 = .ok (.aload_n 0, 1) := by decide +kernel
theorem dX4_addPart_1 : decode cX4_addPart 1 = .ok (.getfield 19, 3) := by decide +kernel
theorem dX4_addPart_4 : decode cX4_addPart 4 = .ok (.aload_n 0, 1) := by decide +kernel
theorem dX4_addPart_5 : decode cX4_addPart 5 = .ok (.getfield 28, 3) := by decide +kernel
theorem dX4_addPart_8 : decode cX4_addPart 8 = .ok (.iload_n 1, 1) := by decide +kernel
theorem dX4_addPart_9 : decode cX4_addPart 9 = .ok (.invokestatic 37, 3) := by decide +kernel
theorem dX4_addPart_12 : decode cX4_addPart 12 = .ok (.aload_n 0, 1) := by decide +kernel
theorem dX4_addPart_13 : decode cX4_addPart 13 = .ok (.getfield 22, 3) := by decide +kernel
theorem dX4_addPart_16 : decode cX4_addPart 16 = .ok (.aload_n 0, 1) := by decide +kernel
theorem dX4_addPart_17 : decode cX4_addPart 17 = .ok (.getfield 28, 3) := by decide +kernel
theorem dX4_addPart_20 : decode cX4_addPart 20 = .ok (.iconst 0, 1) := by decide +kernel
theorem dX4_addPart_21 : decode cX4_addPart 21 = .ok (.invokestatic 37, 3) := by decide +kernel
theorem dX4_addPart_24 : decode cX4_addPart 24 = .ok (.aload_n 0, 1) := by decide +kernel
theorem dX4_addPart_25 : decode cX4_addPart 25 = .ok (.getfield 25, 3) := by decide +kernel
theorem dX4_addPart_28 : decode cX4_addPart 28 = .ok (.aload_n 0, 1) := by decide +kernel
theorem dX4_addPart_29 : decode cX4_addPart 29 = .ok (.getfield 28, 3) := by decide +kernel
theorem dX4_addPart_32 : decode cX4_addPart 32 = .ok (.iconst 0, 1) := by decide +kernel
theorem dX4_addPart_33 : decode cX4_addPart 33 = .ok (.invokestatic 37, 3) := by decide +kernel
theorem dX4_addPart_36 : decode cX4_addPart 36 = .ok (.aload_n 0, 1) := by decide +kernel
theorem dX4_addPart_37 : decode cX4_addPart 37 = .ok (.dup, 1) := by decide +kernel
theorem dX4_addPart_38 : decode cX4_addPart 38 = .ok (.getfield 28, 3) := by decide +kernel
theorem dX4_addPart_41 : decode cX4_addPart 41 = .ok (.iconst 1, 1) := by decide +kernel
theorem dX4_addPart_42 : decode cX4_addPart 42 = .ok (.iadd, 1) := by decide +kernel
theorem dX4_addPart_43 : decode cX4_addPart 43 = .ok (.putfield 28, 3) := by decide +kernel
theorem dX4_addPart_46 : decode cX4_addPart 46 = .ok (.aload_n 0, 1) := by decide +kernel
theorem dX4_addPart_47 : decode cX4_addPart 47 = .ok (.iload_n 2, 1) := by decide +kernel
theorem dX4_addPart_48 : decode cX4_addPart 48 = .ok (.putfield 34, 3) := by decide +kernel
theorem dX4_addPart_51 : decode cX4_addPart 51 = .ok (.return_, 1) := by decide +kernel
theorem dX5_init_0 : decode cX5_init 0 = .ok (.aload_n 0, 1) := by decide +kernel
theorem dX5_init_1 : decode cX5_init 1 = .ok (.invokespecial 3, 3) := by decide +kernel
theorem dX5_init_4 : decode cX5_init 4 = .ok (.aload_n 0, 1) := by decide +kernel
theorem dX5_init_5 : decode cX5_init 5 = .ok (.bipush 6, 2) := by decide +kernel
theorem dX5_init_7 : decode cX5_init 7 = .ok (.newarray .int, 2) := by decide +kernel
theorem dX5_init_9 : decode cX5_init 9 = .ok (.putfield 9, 3) := by decide +kernel
theorem dX5_init_12 : decode cX5_init 12 = .ok (.aload_n 0, 1) := by decide +kernel
theorem dX5_init_13 : decode cX5_init 13 = .ok (.iconst 0, 1) := by decide +kernel
theorem dX5_init_14 : decode cX5_init 14 = .ok (.putfield 15, 3) := by decide +kernel
theorem dX5_init_17 : decode cX5_init 17 = .ok (.aload_n 0, 1) := by decide +kernel
theorem dX5_init_18 : decode cX5_init 18 = .ok (.bipush 9, 2) := by decide +kernel
theorem dX5_init_20 : decode cX5_init 20 = .ok (.putfield 19, 3) := by decide +kernel
theorem dX5_init_23 : decode cX5_init 23 = .ok (.aload_n 0, 1) := by decide +kernel
theorem dX5_init_24 : decode cX5_init 24 = .ok (.iconst 2, 1) := by decide +kernel
theorem dX5_init_25 : decode cX5_init 25 = .ok (.putfield 22, 3) := by decide +kernel
theorem dX5_init_28 : decode cX5_init 28 = .ok (.return_, 1) := by decide +kernel
theorem dX5_time_0 : decode cX5_time 0 = .ok (.aload_n 0, 1) := by decide +kernel
theorem dX5_time_1 : decode cX5_time 1 = .ok (.getfield 15, 3) := by decide +kernel
theorem dX5_time_4 : decode cX5_time 4 = .ok (.ireturn, 1) := by decide +kernel
theorem dX5_bound_0 : decode cX5_bound 0 = .ok (.aload_n 0, 1) := by decide +kernel
theorem dX5_bound_1 : decode cX5_bound 1 = .ok (.getfield 19, 3) := by decide +kernel
theorem dX5_bound_4 : decode cX5_bound 4 = .ok (.ireturn, 1) := by decide +kernel
theorem dX5_fire_0 : decode cX5_fire 0 = .ok (.aload_n 0, 1) := by decide +kernel
theorem dX5_fire_1 : decode cX5_fire 1 = .ok (.getfield 22, 3) := by decide +kernel
theorem dX5_fire_4 : decode cX5_fire 4 = .ok (.ireturn, 1) := by decide +kernel
theorem dX5_glass_0 : decode cX5_glass 0 = .ok (.aload_n 0, 1) := by decide +kernel
theorem dX5_glass_1 : decode cX5_glass 1 = .ok (.getfield 9, 3) := by decide +kernel
theorem dX5_glass_4 : decode cX5_glass 4 = .ok (.iload_n 1, 1) := by decide +kernel
theorem dX5_glass_5 : decode cX5_glass 5 = .ok (.invokestatic 25, 3) := by decide +kernel
theorem dX5_glass_8 : decode cX5_glass 8 = .ok (.ireturn, 1) := by decide +kernel
theorem dX5_changeBound_0 : decode cX5_changeBound 0 = .ok (.aload_n 0, 1) := by decide +kernel
theorem dX5_changeBound_1 : decode cX5_changeBound 1 = .ok (.getfield 19, 3) := by decide +kernel
theorem dX5_changeBound_4 : decode cX5_changeBound 4 = .ok (.istore_n 2, 1) := by decide +kernel
theorem dX5_changeBound_5 : decode cX5_changeBound 5 = .ok (.aload_n 0, 1) := by decide +kernel
theorem dX5_changeBound_6 : decode cX5_changeBound 6 = .ok (.iload_n 1, 1) := by decide +kernel
theorem dX5_changeBound_7 : decode cX5_changeBound 7 = .ok (.putfield 19, 3) := by decide +kernel
theorem dX5_changeBound_10 : decode cX5_changeBound 10 = .ok (.iload_n 2, 1) := by decide +kernel
theorem dX5_changeBound_11 : decode cX5_changeBound 11 = .ok (.ireturn, 1) := by decide +kernel
theorem dX5_changeFire_0 : decode cX5_changeFire 0 = .ok (.aload_n 0, 1) := by decide +kernel
theorem dX5_changeFire_1 : decode cX5_changeFire 1 = .ok (.getfield 22, 3) := by decide +kernel
theorem dX5_changeFire_4 : decode cX5_changeFire 4 = .ok (.istore_n 2, 1) := by decide +kernel
theorem dX5_changeFire_5 : decode cX5_changeFire 5 = .ok (.aload_n 0, 1) := by decide +kernel
theorem dX5_changeFire_6 : decode cX5_changeFire 6 = .ok (.iload_n 1, 1) := by decide +kernel
theorem dX5_changeFire_7 : decode cX5_changeFire 7 = .ok (.putfield 22, 3) := by decide +kernel
theorem dX5_changeFire_10 : decode cX5_changeFire 10 = .ok (.iload_n 2, 1) := by decide +kernel
theorem dX5_changeFire_11 : decode cX5_changeFire 11 = .ok (.ireturn, 1) := by decide +kernel
theorem dX5_isFree_0 : decode cX5_isFree 0 = .ok (.aload_n 0, 1) := by decide +kernel
theorem dX5_isFree_1 : decode cX5_isFree 1 = .ok (.iload_n 1, 1) := by decide +kernel
theorem dX5_isFree_2 : decode cX5_isFree 2 = .ok (.invokevirtual 29, 3) := by decide +kernel
theorem dX5_isFree_5 : decode cX5_isFree 5 = .ok (.ifCond .gt 7, 3) := by decide +kernel
theorem dX5_isFree_8 : decode cX5_isFree 8 = .ok (.iconst 1, 1) := by decide +kernel
theorem dX5_isFree_9 : decode cX5_isFree 9 = .ok (.goto 4, 3) := by decide +kernel
theorem dX5_isFree_12 : decode cX5_isFree 12 = .ok (.iconst 0, 1) := by decide +kernel
theorem dX5_isFree_13 : decode cX5_isFree 13 = .ok (.ireturn, 1) := by decide +kernel
theorem dX5_waitOf_0 : decode cX5_waitOf 0 = .ok (.aload_n 0, 1) := by decide +kernel
theorem dX5_waitOf_1 : decode cX5_waitOf 1 = .ok (.iload_n 1, 1) := by decide +kernel
theorem dX5_waitOf_2 : decode cX5_waitOf 2 = .ok (.invokevirtual 29, 3) := by decide +kernel
theorem dX5_waitOf_5 : decode cX5_waitOf 5 = .ok (.iconst 0, 1) := by decide +kernel
theorem dX5_waitOf_6 : decode cX5_waitOf 6 = .ok (.invokestatic 33, 3) := by decide +kernel
theorem dX5_waitOf_9 : decode cX5_waitOf 9 = .ok (.ireturn, 1) := by decide +kernel
theorem dX5_speak_0 : decode cX5_speak 0 = .ok (.aload_n 0, 1) := by decide +kernel
theorem dX5_speak_1 : decode cX5_speak 1 = .ok (.iload_n 2, 1) := by decide +kernel
theorem dX5_speak_2 : decode cX5_speak 2 = .ok (.iload_n 1, 1) := by decide +kernel
theorem dX5_speak_3 : decode cX5_speak 3 = .ok (.invokevirtual 39, 3) := by decide +kernel
theorem dX5_speak_6 : decode cX5_speak 6 = .ok (.aload_n 0, 1) := by decide +kernel
theorem dX5_speak_7 : decode cX5_speak 7 = .ok (.getfield 9, 3) := by decide +kernel
theorem dX5_speak_10 : decode cX5_speak 10 = .ok (.iload_n 1, 1) := by decide +kernel
theorem dX5_speak_11 : decode cX5_speak 11 = .ok (.aload_n 0, 1) := by decide +kernel
theorem dX5_speak_12 : decode cX5_speak 12 = .ok (.iload_n 1, 1) := by decide +kernel
theorem dX5_speak_13 : decode cX5_speak 13 = .ok (.invokevirtual 29, 3) := by decide +kernel
theorem dX5_speak_16 : decode cX5_speak 16 = .ok (.iload_n 2, 1) := by decide +kernel
theorem dX5_speak_17 : decode cX5_speak 17 = .ok (.iadd, 1) := by decide +kernel
theorem dX5_speak_18 : decode cX5_speak 18 = .ok (.invokestatic 43, 3) := by decide +kernel
theorem dX5_speak_21 : decode cX5_speak 21 = .ok (.return_, 1) := by decide +kernel
theorem dX5_callFire_0 : decode cX5_callFire 0 = .ok (.aload_n 0, 1) := by decide +kernel
theorem dX5_callFire_1 : decode cX5_callFire 1 = .ok (.iload_n 2, 1) := by decide +kernel
theorem dX5_callFire_2 : decode cX5_callFire 2 = .ok (.iload_n 1, 1) := by decide +kernel
theorem dX5_callFire_3 : decode cX5_callFire 3 = .ok (.invokevirtual 39, 3) := by decide +kernel
theorem dX5_callFire_6 : decode cX5_callFire 6 = .ok (.aload_n 0, 1) := by decide +kernel
theorem dX5_callFire_7 : decode cX5_callFire 7 = .ok (.getfield 9, 3) := by decide +kernel
theorem dX5_callFire_10 : decode cX5_callFire 10 = .ok (.iload_n 1, 1) := by decide +kernel
theorem dX5_callFire_11 : decode cX5_callFire 11 = .ok (.aload_n 0, 1) := by decide +kernel
theorem dX5_callFire_12 : decode cX5_callFire 12 = .ok (.iload_n 1, 1) := by decide +kernel
theorem dX5_callFire_13 : decode cX5_callFire 13 = .ok (.invokevirtual 29, 3) := by decide +kernel
theorem dX5_callFire_16 : decode cX5_callFire 16 = .ok (.aload_n 0, 1) := by decide +kernel
theorem dX5_callFire_17 : decode cX5_callFire 17 = .ok (.getfield 22, 3) := by decide +kernel
theorem dX5_callFire_20 : decode cX5_callFire 20 = .ok (.iload_n 2, 1) := by decide +kernel
theorem dX5_callFire_21 : decode cX5_callFire 21 = .ok (.imul, 1) := by decide +kernel
theorem dX5_callFire_22 : decode cX5_callFire 22 = .ok (.iadd, 1) := by decide +kernel
theorem dX5_callFire_23 : decode cX5_callFire 23 = .ok (.invokestatic 43, 3) := by decide +kernel
theorem dX5_callFire_26 : decode cX5_callFire 26 = .ok (.return_, 1) := by decide +kernel
theorem dX5_keepSilence_0 : decode cX5_keepSilence 0 = .ok (.aload_n 0, 1) := by decide +kernel
theorem dX5_keepSilence_1 : decode cX5_keepSilence 1 = .ok (.iload_n 1, 1) := by decide +kernel
theorem dX5_keepSilence_2 : decode cX5_keepSilence 2 = .ok (.iconst (-1), 1) := by decide +kernel
theorem dX5_keepSilence_3 : decode cX5_keepSilence 3 = .ok (.invokevirtual 39, 3) := by decide +kernel
theorem dX5_keepSilence_6 : decode cX5_keepSilence 6 = .ok (.return_, 1) := by decide +kernel
theorem dX5_sleep_0 : decode cX5_sleep 0 = .ok (.iconst 0, 1) := by decide +kernel
theorem dX5_sleep_1 : decode cX5_sleep 1 = .ok (.istore_n 1, 1) := by decide +kernel
theorem dX5_sleep_2 : decode cX5_sleep 2 = .ok (.iload_n 1, 1) := by decide +kernel
theorem dX5_sleep_3 : decode cX5_sleep 3 = .ok (.aload_n 0, 1) := by decide +kernel
theorem dX5_sleep_4 : decode cX5_sleep 4 = .ok (.getfield 9, 3) := by decide +kernel
theorem dX5_sleep_7 : decode cX5_sleep 7 = .ok (.arraylength, 1) := by decide +kernel
theorem dX5_sleep_8 : decode cX5_sleep 8 = .ok (.if_icmp .ge 25, 3) := by decide +kernel
theorem dX5_sleep_11 : decode cX5_sleep 11 = .ok (.aload_n 0, 1) := by decide +kernel
theorem dX5_sleep_12 : decode cX5_sleep 12 = .ok (.getfield 9, 3) := by decide +kernel
theorem dX5_sleep_15 : decode cX5_sleep 15 = .ok (.iload_n 1, 1) := by decide +kernel
theorem dX5_sleep_16 : decode cX5_sleep 16 = .ok (.aload_n 0, 1) := by decide +kernel
theorem dX5_sleep_17 : decode cX5_sleep 17 = .ok (.getfield 9, 3) := by decide +kernel
theorem dX5_sleep_20 : decode cX5_sleep 20 = .ok (.iload_n 1, 1) := by decide +kernel
theorem dX5_sleep_21 : decode cX5_sleep 21 = .ok (.iaload, 1) := by decide +kernel
theorem dX5_sleep_22 : decode cX5_sleep 22 = .ok (.iconst 0, 1) := by decide +kernel
theorem dX5_sleep_23 : decode cX5_sleep 23 = .ok (.invokestatic 47, 3) := by decide +kernel
theorem dX5_sleep_26 : decode cX5_sleep 26 = .ok (.iastore, 1) := by decide +kernel
theorem dX5_sleep_27 : decode cX5_sleep 27 = .ok (.iinc 1 1, 3) := by decide +kernel
theorem dX5_sleep_30 : decode cX5_sleep 30 = .ok (.goto (-28), 3) := by decide +kernel
theorem dX5_sleep_33 : decode cX5_sleep 33 = .ok (.return_, 1) := by decide +kernel
theorem dX5_lend_0 : decode cX5_lend 0 = .ok (.aload_n 0, 1) := by decide +kernel
theorem dX5_lend_1 : decode cX5_lend 1 = .ok (.getfield 9, 3) := by decide +kernel
theorem dX5_lend_4 : decode cX5_lend 4 = .ok (.iload_n 1, 1) := by decide +kernel
theorem dX5_lend_5 : decode cX5_lend 5 = .ok (.aload_n 0, 1) := by decide +kernel
theorem dX5_lend_6 : decode cX5_lend 6 = .ok (.iload_n 1, 1) := by decide +kernel
theorem dX5_lend_7 : decode cX5_lend 7 = .ok (.invokevirtual 29, 3) := by decide +kernel
theorem dX5_lend_10 : decode cX5_lend 10 = .ok (.iload_n 2, 1) := by decide +kernel
theorem dX5_lend_11 : decode cX5_lend 11 = .ok (.iadd, 1) := by decide +kernel
theorem dX5_lend_12 : decode cX5_lend 12 = .ok (.invokestatic 43, 3) := by decide +kernel
theorem dX5_lend_15 : decode cX5_lend 15 = .ok (.return_, 1) := by decide +kernel
theorem dX5_receive_0 : decode cX5_receive 0 = .ok (.aload_n 0, 1) := by decide +kernel
theorem dX5_receive_1 : decode cX5_receive 1 = .ok (.iload_n 1, 1) := by decide +kernel
theorem dX5_receive_2 : decode cX5_receive 2 = .ok (.invokevirtual 29, 3) := by decide +kernel
theorem dX5_receive_5 : decode cX5_receive 5 = .ok (.aload_n 0, 1) := by decide +kernel
theorem dX5_receive_6 : decode cX5_receive 6 = .ok (.getfield 19, 3) := by decide +kernel
theorem dX5_receive_9 : decode cX5_receive 9 = .ok (.iadd, 1) := by decide +kernel
theorem dX5_receive_10 : decode cX5_receive 10 = .ok (.iconst 0, 1) := by decide +kernel
theorem dX5_receive_11 : decode cX5_receive 11 = .ok (.invokestatic 33, 3) := by decide +kernel
theorem dX5_receive_14 : decode cX5_receive 14 = .ok (.istore_n 3, 1) := by decide +kernel
theorem dX5_receive_15 : decode cX5_receive 15 = .ok (.iload_n 2, 1) := by decide +kernel
theorem dX5_receive_16 : decode cX5_receive 16 = .ok (.iload_n 3, 1) := by decide +kernel
theorem dX5_receive_17 : decode cX5_receive 17 = .ok (.invokestatic 47, 3) := by decide +kernel
theorem dX5_receive_20 : decode cX5_receive 20 = .ok (.istore 4, 2) := by decide +kernel
theorem dX5_receive_22 : decode cX5_receive 22 = .ok (.aload_n 0, 1) := by decide +kernel
theorem dX5_receive_23 : decode cX5_receive 23 = .ok (.getfield 9, 3) := by decide +kernel
theorem dX5_receive_26 : decode cX5_receive 26 = .ok (.iload_n 1, 1) := by decide +kernel
theorem dX5_receive_27 : decode cX5_receive 27 = .ok (.aload_n 0, 1) := by decide +kernel
theorem dX5_receive_28 : decode cX5_receive 28 = .ok (.iload_n 1, 1) := by decide +kernel
theorem dX5_receive_29 : decode cX5_receive 29 = .ok (.invokevirtual 29, 3) := by decide +kernel
theorem dX5_receive_32 : decode cX5_receive 32 = .ok (.iload 4, 2) := by decide +kernel
theorem dX5_receive_34 : decode cX5_receive 34 = .ok (.isub, 1) := by decide +kernel
theorem dX5_receive_35 : decode cX5_receive 35 = .ok (.invokestatic 43, 3) := by decide +kernel
theorem dX5_receive_38 : decode cX5_receive 38 = .ok (.iload_n 2, 1) := by decide +kernel
theorem dX5_receive_39 : decode cX5_receive 39 = .ok (.iload 4, 2) := by decide +kernel
theorem dX5_receive_41 : decode cX5_receive 41 = .ok (.isub, 1) := by decide +kernel
theorem dX5_receive_42 : decode cX5_receive 42 = .ok (.ireturn, 1) := by decide +kernel
theorem dX5_copy_0 : decode cX5_copy 0 = .ok (.aload_n 1, 1) := by decide +kernel
theorem dX5_copy_1 : decode cX5_copy 1 = .ok (.getfield 9, 3) := by decide +kernel
theorem dX5_copy_4 : decode cX5_copy 4 = .ok (.aload_n 0, 1) := by decide +kernel
theorem dX5_copy_5 : decode cX5_copy 5 = .ok (.getfield 9, 3) := by decide +kernel
theorem dX5_copy_8 : decode cX5_copy 8 = .ok (.invokestatic 50, 3) := by decide +kernel
theorem dX5_copy_11 : decode cX5_copy 11 = .ok (.aload_n 0, 1) := by decide +kernel
theorem dX5_copy_12 : decode cX5_copy 12 = .ok (.aload_n 1, 1) := by decide +kernel
theorem dX5_copy_13 : decode cX5_copy 13 = .ok (.getfield 15, 3) := by decide +kernel
theorem dX5_copy_16 : decode cX5_copy 16 = .ok (.putfield 15, 3) := by decide +kernel
theorem dX5_copy_19 : decode cX5_copy 19 = .ok (.aload_n 0, 1) := by decide +kernel
theorem dX5_copy_20 : decode cX5_copy 20 = .ok (.aload_n 1, 1) := by decide +kernel
theorem dX5_copy_21 : decode cX5_copy 21 = .ok (.getfield 19, 3) := by decide +kernel
theorem dX5_copy_24 : decode cX5_copy 24 = .ok (.putfield 19, 3) := by decide +kernel
theorem dX5_copy_27 : decode cX5_copy 27 = .ok (.aload_n 0, 1) := by decide +kernel
theorem dX5_copy_28 : decode cX5_copy 28 = .ok (.aload_n 1, 1) := by decide +kernel
theorem dX5_copy_29 : decode cX5_copy 29 = .ok (.getfield 22, 3) := by decide +kernel
theorem dX5_copy_32 : decode cX5_copy 32 = .ok (.putfield 22, 3) := by decide +kernel
theorem dX5_copy_35 : decode cX5_copy 35 = .ok (.return_, 1) := by decide +kernel
theorem dX5_pass_0 : decode cX5_pass 0 = .ok (.iconst 0, 1) := by decide +kernel
theorem dX5_pass_1 : decode cX5_pass 1 = .ok (.istore_n 3, 1) := by decide +kernel
theorem dX5_pass_2 : decode cX5_pass 2 = .ok (.iload_n 3, 1) := by decide +kernel
theorem dX5_pass_3 : decode cX5_pass 3 = .ok (.aload_n 0, 1) := by decide +kernel
theorem dX5_pass_4 : decode cX5_pass 4 = .ok (.getfield 9, 3) := by decide +kernel
theorem dX5_pass_7 : decode cX5_pass 7 = .ok (.arraylength, 1) := by decide +kernel
theorem dX5_pass_8 : decode cX5_pass 8 = .ok (.if_icmp .ge 50, 3) := by decide +kernel
theorem dX5_pass_11 : decode cX5_pass 11 = .ok (.iload_n 3, 1) := by decide +kernel
theorem dX5_pass_12 : decode cX5_pass 12 = .ok (.iload_n 2, 1) := by decide +kernel
theorem dX5_pass_13 : decode cX5_pass 13 = .ok (.if_icmp .eq 39, 3) := by decide +kernel
theorem dX5_pass_16 : decode cX5_pass 16 = .ok (.aload_n 0, 1) := by decide +kernel
theorem dX5_pass_17 : decode cX5_pass 17 = .ok (.getfield 9, 3) := by decide +kernel
theorem dX5_pass_20 : decode cX5_pass 20 = .ok (.iload_n 3, 1) := by decide +kernel
theorem dX5_pass_21 : decode cX5_pass 21 = .ok (.iaload, 1) := by decide +kernel
theorem dX5_pass_22 : decode cX5_pass 22 = .ok (.aload_n 0, 1) := by decide +kernel
theorem dX5_pass_23 : decode cX5_pass 23 = .ok (.getfield 19, 3) := by decide +kernel
theorem dX5_pass_26 : decode cX5_pass 26 = .ok (.ineg, 1) := by decide +kernel
theorem dX5_pass_27 : decode cX5_pass 27 = .ok (.if_icmp .le 25, 3) := by decide +kernel
theorem dX5_pass_30 : decode cX5_pass 30 = .ok (.aload_n 0, 1) := by decide +kernel
theorem dX5_pass_31 : decode cX5_pass 31 = .ok (.getfield 9, 3) := by decide +kernel
theorem dX5_pass_34 : decode cX5_pass 34 = .ok (.iload_n 3, 1) := by decide +kernel
theorem dX5_pass_35 : decode cX5_pass 35 = .ok (.aload_n 0, 1) := by decide +kernel
theorem dX5_pass_36 : decode cX5_pass 36 = .ok (.getfield 9, 3) := by decide +kernel
theorem dX5_pass_39 : decode cX5_pass 39 = .ok (.iload_n 3, 1) := by decide +kernel
theorem dX5_pass_40 : decode cX5_pass 40 = .ok (.iaload, 1) := by decide +kernel
theorem dX5_pass_41 : decode cX5_pass 41 = .ok (.iload_n 1, 1) := by decide +kernel
theorem dX5_pass_42 : decode cX5_pass 42 = .ok (.isub, 1) := by decide +kernel
theorem dX5_pass_43 : decode cX5_pass 43 = .ok (.aload_n 0, 1) := by decide +kernel
theorem dX5_pass_44 : decode cX5_pass 44 = .ok (.getfield 19, 3) := by decide +kernel
theorem dX5_pass_47 : decode cX5_pass 47 = .ok (.ineg, 1) := by decide +kernel
theorem dX5_pass_48 : decode cX5_pass 48 = .ok (.invokestatic 33, 3) := by decide +kernel
theorem dX5_pass_51 : decode cX5_pass 51 = .ok (.iastore, 1) := by decide +kernel
theorem dX5_pass_52 : decode cX5_pass 52 = .ok (.iinc 3 1, 3) := by decide +kernel
theorem dX5_pass_55 : decode cX5_pass 55 = .ok (.goto (-53), 3) := by decide +kernel
theorem dX5_pass_58 : decode cX5_pass 58 = .ok (.aload_n 0, 1) := by decide +kernel
theorem dX5_pass_59 : decode cX5_pass 59 = .ok (.dup, 1) := by decide +kernel
theorem dX5_pass_60 : decode cX5_pass 60 = .ok (.getfield 15, 3) := by decide +kernel
theorem dX5_pass_63 : decode cX5_pass 63 = .ok (.iload_n 1, 1) := by decide +kernel
theorem dX5_pass_64 : decode cX5_pass 64 = .ok (.iadd, 1) := by decide +kernel
theorem dX5_pass_65 : decode cX5_pass 65 = .ok (.putfield 15, 3) := by decide +kernel
theorem dX5_pass_68 : decode cX5_pass 68 = .ok (.return_, 1) := by decide +kernel
theorem dX6_init_0 : decode cX6_init 0 = .ok (.aload_n 0, 1) := by decide +kernel
theorem dX6_init_1 : decode cX6_init 1 = .ok (.invokespecial 1, 3) := by decide +kernel
theorem dX6_init_4 : decode cX6_init 4 = .ok (.aload_n 0, 1) := by decide +kernel
theorem dX6_init_5 : decode cX6_init 5 = .ok (.new 7, 3) := by decide +kernel
theorem dX6_init_8 : decode cX6_init 8 = .ok (.dup, 1) := by decide +kernel
theorem dX6_init_9 : decode cX6_init 9 = .ok (.invokespecial 9, 3) := by decide +kernel
theorem dX6_init_12 : decode cX6_init 12 = .ok (.putfield 10, 3) := by decide +kernel
theorem dX6_init_15 : decode cX6_init 15 = .ok (.aload_n 0, 1) := by decide +kernel
theorem dX6_init_16 : decode cX6_init 16 = .ok (.new 7, 3) := by decide +kernel
theorem dX6_init_19 : decode cX6_init 19 = .ok (.dup, 1) := by decide +kernel
theorem dX6_init_20 : decode cX6_init 20 = .ok (.invokespecial 9, 3) := by decide +kernel
theorem dX6_init_23 : decode cX6_init 23 = .ok (.putfield 16, 3) := by decide +kernel
theorem dX6_init_26 : decode cX6_init 26 = .ok (.aload_n 0, 1) := by decide +kernel
theorem dX6_init_27 : decode cX6_init 27 = .ok (.new 7, 3) := by decide +kernel
theorem dX6_init_30 : decode cX6_init 30 = .ok (.dup, 1) := by decide +kernel
theorem dX6_init_31 : decode cX6_init 31 = .ok (.invokespecial 9, 3) := by decide +kernel
theorem dX6_init_34 : decode cX6_init 34 = .ok (.putfield 19, 3) := by decide +kernel
theorem dX6_init_37 : decode cX6_init 37 = .ok (.aload_n 0, 1) := by decide +kernel
theorem dX6_init_38 : decode cX6_init 38 = .ok (.new 22, 3) := by decide +kernel
theorem dX6_init_41 : decode cX6_init 41 = .ok (.dup, 1) := by decide +kernel
theorem dX6_init_42 : decode cX6_init 42 = .ok (.invokespecial 24, 3) := by decide +kernel
theorem dX6_init_45 : decode cX6_init 45 = .ok (.putfield 25, 3) := by decide +kernel
theorem dX6_init_48 : decode cX6_init 48 = .ok (.aload_n 0, 1) := by decide +kernel
theorem dX6_init_49 : decode cX6_init 49 = .ok (.new 29, 3) := by decide +kernel
theorem dX6_init_52 : decode cX6_init 52 = .ok (.dup, 1) := by decide +kernel
theorem dX6_init_53 : decode cX6_init 53 = .ok (.invokespecial 31, 3) := by decide +kernel
theorem dX6_init_56 : decode cX6_init 56 = .ok (.putfield 32, 3) := by decide +kernel
theorem dX6_init_59 : decode cX6_init 59 = .ok (.aload_n 0, 1) := by decide +kernel
theorem dX6_init_60 : decode cX6_init 60 = .ok (.new 36, 3) := by decide +kernel
theorem dX6_init_63 : decode cX6_init 63 = .ok (.dup, 1) := by decide +kernel
theorem dX6_init_64 : decode cX6_init 64 = .ok (.invokespecial 38, 3) := by decide +kernel
theorem dX6_init_67 : decode cX6_init 67 = .ok (.putfield 39, 3) := by decide +kernel
theorem dX6_init_70 : decode cX6_init 70 = .ok (.aload_n 0, 1) := by decide +kernel
theorem dX6_init_71 : decode cX6_init 71 = .ok (.iconst 3, 1) := by decide +kernel
theorem dX6_init_72 : decode cX6_init 72 = .ok (.newarray .int, 2) := by decide +kernel
theorem dX6_init_74 : decode cX6_init 74 = .ok (.putfield 43, 3) := by decide +kernel
theorem dX6_init_77 : decode cX6_init 77 = .ok (.return_, 1) := by decide +kernel
theorem dX6_set_0 : decode cX6_set 0 = .ok (.iload_n 1, 1) := by decide +kernel
theorem dX6_set_1 : decode cX6_set 1 = .ok (.ifCond .ne 25, 3) := by decide +kernel
theorem dX6_set_4 : decode cX6_set 4 = .ok (.iload_n 2, 1) := by decide +kernel
theorem dX6_set_5 : decode cX6_set 5 = .ok (.iconst 0, 1) := by decide +kernel
theorem dX6_set_6 : decode cX6_set 6 = .ok (.bipush 99, 2) := by decide +kernel
theorem dX6_set_8 : decode cX6_set 8 = .ok (.invokestatic 47, 3) := by decide +kernel
theorem dX6_set_11 : decode cX6_set 11 = .ok (.ifCond .eq 15, 3) := by decide +kernel
theorem dX6_set_14 : decode cX6_set 14 = .ok (.aload_n 0, 1) := by decide +kernel
theorem dX6_set_15 : decode cX6_set 15 = .ok (.getfield 10, 3) := by decide +kernel
theorem dX6_set_18 : decode cX6_set 18 = .ok (.getfield 51, 3) := by decide +kernel
theorem dX6_set_21 : decode cX6_set 21 = .ok (.iload_n 2, 1) := by decide +kernel
theorem dX6_set_22 : decode cX6_set 22 = .ok (.invokevirtual 54, 3) := by decide +kernel
theorem dX6_set_25 : decode cX6_set 25 = .ok (.ireturn, 1) := by decide +kernel
theorem dX6_set_26 : decode cX6_set 26 = .ok (.iload_n 1, 1) := by decide +kernel
theorem dX6_set_27 : decode cX6_set 27 = .ok (.iconst 1, 1) := by decide +kernel
theorem dX6_set_28 : decode cX6_set 28 = .ok (.if_icmp .ne 24, 3) := by decide +kernel
theorem dX6_set_31 : decode cX6_set 31 = .ok (.iload_n 2, 1) := by decide +kernel
theorem dX6_set_32 : decode cX6_set 32 = .ok (.iconst 1, 1) := by decide +kernel
theorem dX6_set_33 : decode cX6_set 33 = .ok (.iconst 4, 1) := by decide +kernel
theorem dX6_set_34 : decode cX6_set 34 = .ok (.invokestatic 47, 3) := by decide +kernel
theorem dX6_set_37 : decode cX6_set 37 = .ok (.ifCond .eq 15, 3) := by decide +kernel
theorem dX6_set_40 : decode cX6_set 40 = .ok (.aload_n 0, 1) := by decide +kernel
theorem dX6_set_41 : decode cX6_set 41 = .ok (.getfield 10, 3) := by decide +kernel
theorem dX6_set_44 : decode cX6_set 44 = .ok (.getfield 51, 3) := by decide +kernel
theorem dX6_set_47 : decode cX6_set 47 = .ok (.iload_n 2, 1) := by decide +kernel
theorem dX6_set_48 : decode cX6_set 48 = .ok (.invokevirtual 58, 3) := by decide +kernel
theorem dX6_set_51 : decode cX6_set 51 = .ok (.ireturn, 1) := by decide +kernel
theorem dX6_set_52 : decode cX6_set 52 = .ok (.bipush (-2), 2) := by decide +kernel
theorem dX6_set_54 : decode cX6_set 54 = .ok (.ireturn, 1) := by decide +kernel
theorem dX6_say_0 : decode cX6_say 0 = .ok (.iload_n 1, 1) := by decide +kernel
theorem dX6_say_1 : decode cX6_say 1 = .ok (.bipush 33, 2) := by decide +kernel
theorem dX6_say_3 : decode cX6_say 3 = .ok (.bipush 126, 2) := by decide +kernel
theorem dX6_say_5 : decode cX6_say 5 = .ok (.invokestatic 47, 3) := by decide +kernel
theorem dX6_say_8 : decode cX6_say 8 = .ok (.ifCond .ne 6, 3) := by decide +kernel
theorem dX6_say_11 : decode cX6_say 11 = .ok (.bipush (-2), 2) := by decide +kernel
theorem dX6_say_13 : decode cX6_say 13 = .ok (.ireturn, 1) := by decide +kernel
theorem dX6_say_14 : decode cX6_say 14 = .ok (.aload_n 0, 1) := by decide +kernel
theorem dX6_say_15 : decode cX6_say 15 = .ok (.getfield 25, 3) := by decide +kernel
theorem dX6_say_18 : decode cX6_say 18 = .ok (.iload_n 1, 1) := by decide +kernel
theorem dX6_say_19 : decode cX6_say 19 = .ok (.invokevirtual 61, 3) := by decide +kernel
theorem dX6_say_22 : decode cX6_say 22 = .ok (.ifCond .eq 13, 3) := by decide +kernel
theorem dX6_say_25 : decode cX6_say 25 = .ok (.aload_n 0, 1) := by decide +kernel
theorem dX6_say_26 : decode cX6_say 26 = .ok (.getfield 25, 3) := by decide +kernel
theorem dX6_say_29 : decode cX6_say 29 = .ok (.invokevirtual 65, 3) := by decide +kernel
theorem dX6_say_32 : decode cX6_say 32 = .ok (.goto 5, 3) := by decide +kernel
theorem dX6_say_35 : decode cX6_say 35 = .ok (.bipush (-4), 2) := by decide +kernel
theorem dX6_say_37 : decode cX6_say 37 = .ok (.ireturn, 1) := by decide +kernel
theorem dX6_wipe_0 : decode cX6_wipe 0 = .ok (.aload_n 0, 1) := by decide +kernel
theorem dX6_wipe_1 : decode cX6_wipe 1 = .ok (.getfield 25, 3) := by decide +kernel
theorem dX6_wipe_4 : decode cX6_wipe 4 = .ok (.invokevirtual 69, 3) := by decide +kernel
theorem dX6_wipe_7 : decode cX6_wipe 7 = .ok (.ireturn, 1) := by decide +kernel
theorem dX6_fault_0 : decode cX6_fault 0 = .ok (.aload_n 0, 1) := by decide +kernel
theorem dX6_fault_1 : decode cX6_fault 1 = .ok (.getfield 25, 3) := by decide +kernel
theorem dX6_fault_4 : decode cX6_fault 4 = .ok (.invokevirtual 72, 3) := by decide +kernel
theorem dX6_fault_7 : decode cX6_fault 7 = .ok (.ireturn, 1) := by decide +kernel
theorem dX6_judge_0 : decode cX6_judge 0 = .ok (.aload_n 0, 1) := by decide +kernel
theorem dX6_judge_1 : decode cX6_judge 1 = .ok (.invokevirtual 75, 3) := by decide +kernel
theorem dX6_judge_4 : decode cX6_judge 4 = .ok (.istore_n 1, 1) := by decide +kernel
theorem dX6_judge_5 : decode cX6_judge 5 = .ok (.iload_n 1, 1) := by decide +kernel
theorem dX6_judge_6 : decode cX6_judge 6 = .ok (.ifCond .eq 5, 3) := by decide +kernel
theorem dX6_judge_9 : decode cX6_judge 9 = .ok (.iload_n 1, 1) := by decide +kernel
theorem dX6_judge_10 : decode cX6_judge 10 = .ok (.ireturn, 1) := by decide +kernel
theorem dX6_judge_11 : decode cX6_judge 11 = .ok (.aload_n 0, 1) := by decide +kernel
theorem dX6_judge_12 : decode cX6_judge 12 = .ok (.getfield 32, 3) := by decide +kernel
theorem dX6_judge_15 : decode cX6_judge 15 = .ok (.aload_n 0, 1) := by decide +kernel
theorem dX6_judge_16 : decode cX6_judge 16 = .ok (.getfield 10, 3) := by decide +kernel
theorem dX6_judge_19 : decode cX6_judge 19 = .ok (.getfield 51, 3) := by decide +kernel
theorem dX6_judge_22 : decode cX6_judge 22 = .ok (.invokevirtual 78, 3) := by decide +kernel
theorem dX6_judge_25 : decode cX6_judge 25 = .ok (.aload_n 0, 1) := by decide +kernel
theorem dX6_judge_26 : decode cX6_judge 26 = .ok (.getfield 25, 3) := by decide +kernel
theorem dX6_judge_29 : decode cX6_judge 29 = .ok (.aload_n 0, 1) := by decide +kernel
theorem dX6_judge_30 : decode cX6_judge 30 = .ok (.getfield 32, 3) := by decide +kernel
theorem dX6_judge_33 : decode cX6_judge 33 = .ok (.aload_n 0, 1) := by decide +kernel
theorem dX6_judge_34 : decode cX6_judge 34 = .ok (.getfield 43, 3) := by decide +kernel
theorem dX6_judge_37 : decode cX6_judge 37 = .ok (.invokevirtual 82, 3) := by decide +kernel
theorem dX6_judge_40 : decode cX6_judge 40 = .ok (.ireturn, 1) := by decide +kernel
theorem dX6_done_0 : decode cX6_done 0 = .ok (.aload_n 0, 1) := by decide +kernel
theorem dX6_done_1 : decode cX6_done 1 = .ok (.invokevirtual 86, 3) := by decide +kernel
theorem dX6_done_4 : decode cX6_done 4 = .ok (.istore_n 1, 1) := by decide +kernel
theorem dX6_done_5 : decode cX6_done 5 = .ok (.iload_n 1, 1) := by decide +kernel
theorem dX6_done_6 : decode cX6_done 6 = .ok (.ifCond .eq 5, 3) := by decide +kernel
theorem dX6_done_9 : decode cX6_done 9 = .ok (.iload_n 1, 1) := by decide +kernel
theorem dX6_done_10 : decode cX6_done 10 = .ok (.ireturn, 1) := by decide +kernel
theorem dX6_done_11 : decode cX6_done 11 = .ok (.aload_n 0, 1) := by decide +kernel
theorem dX6_done_12 : decode cX6_done 12 = .ok (.getfield 32, 3) := by decide +kernel
theorem dX6_done_15 : decode cX6_done 15 = .ok (.invokevirtual 89, 3) := by decide +kernel
theorem dX6_done_18 : decode cX6_done 18 = .ok (.aload_n 0, 1) := by decide +kernel
theorem dX6_done_19 : decode cX6_done 19 = .ok (.getfield 10, 3) := by decide +kernel
theorem dX6_done_22 : decode cX6_done 22 = .ok (.getfield 51, 3) := by decide +kernel
theorem dX6_done_25 : decode cX6_done 25 = .ok (.invokevirtual 89, 3) := by decide +kernel
theorem dX6_done_28 : decode cX6_done 28 = .ok (.isub, 1) := by decide +kernel
theorem dX6_done_29 : decode cX6_done 29 = .ok (.istore_n 2, 1) := by decide +kernel
theorem dX6_done_30 : decode cX6_done 30 = .ok (.aload_n 0, 1) := by decide +kernel
theorem dX6_done_31 : decode cX6_done 31 = .ok (.getfield 10, 3) := by decide +kernel
theorem dX6_done_34 : decode cX6_done 34 = .ok (.getfield 51, 3) := by decide +kernel
theorem dX6_done_37 : decode cX6_done 37 = .ok (.aload_n 0, 1) := by decide +kernel
theorem dX6_done_38 : decode cX6_done 38 = .ok (.getfield 32, 3) := by decide +kernel
theorem dX6_done_41 : decode cX6_done 41 = .ok (.invokevirtual 78, 3) := by decide +kernel
theorem dX6_done_44 : decode cX6_done 44 = .ok (.aload_n 0, 1) := by decide +kernel
theorem dX6_done_45 : decode cX6_done 45 = .ok (.getfield 25, 3) := by decide +kernel
theorem dX6_done_48 : decode cX6_done 48 = .ok (.invokevirtual 69, 3) := by decide +kernel
theorem dX6_done_51 : decode cX6_done 51 = .ok (.pop, 1) := by decide +kernel
theorem dX6_done_52 : decode cX6_done 52 = .ok (.iload_n 2, 1) := by decide +kernel
theorem dX6_done_53 : decode cX6_done 53 = .ok (.ireturn, 1) := by decide +kernel
theorem dX6_behind_0 : decode cX6_behind 0 = .ok (.iload_n 1, 1) := by decide +kernel
theorem dX6_behind_1 : decode cX6_behind 1 = .ok (.iconst (-1), 1) := by decide +kernel
theorem dX6_behind_2 : decode cX6_behind 2 = .ok (.if_icmp .eq 12, 3) := by decide +kernel
theorem dX6_behind_5 : decode cX6_behind 5 = .ok (.iload_n 1, 1) := by decide +kernel
theorem dX6_behind_6 : decode cX6_behind 6 = .ok (.invokestatic 92, 3) := by decide +kernel
theorem dX6_behind_9 : decode cX6_behind 9 = .ok (.ifCond .ne 5, 3) := by decide +kernel
theorem dX6_behind_12 : decode cX6_behind 12 = .ok (.iconst (-1), 1) := by decide +kernel
theorem dX6_behind_13 : decode cX6_behind 13 = .ok (.ireturn, 1) := by decide +kernel
theorem dX6_behind_14 : decode cX6_behind 14 = .ok (.aload_n 0, 1) := by decide +kernel
theorem dX6_behind_15 : decode cX6_behind 15 = .ok (.invokevirtual 86, 3) := by decide +kernel
theorem dX6_behind_18 : decode cX6_behind 18 = .ok (.istore_n 2, 1) := by decide +kernel
theorem dX6_behind_19 : decode cX6_behind 19 = .ok (.iload_n 2, 1) := by decide +kernel
theorem dX6_behind_20 : decode cX6_behind 20 = .ok (.ifCond .eq 5, 3) := by decide +kernel
theorem dX6_behind_23 : decode cX6_behind 23 = .ok (.iload_n 2, 1) := by decide +kernel
theorem dX6_behind_24 : decode cX6_behind 24 = .ok (.ireturn, 1) := by decide +kernel
theorem dX6_behind_25 : decode cX6_behind 25 = .ok (.iload_n 1, 1) := by decide +kernel
theorem dX6_behind_26 : decode cX6_behind 26 = .ok (.iconst (-1), 1) := by decide +kernel
theorem dX6_behind_27 : decode cX6_behind 27 = .ok (.if_icmp .ne 24, 3) := by decide +kernel
theorem dX6_behind_30 : decode cX6_behind 30 = .ok (.aload_n 0, 1) := by decide +kernel
theorem dX6_behind_31 : decode cX6_behind 31 = .ok (.getfield 32, 3) := by decide +kernel
theorem dX6_behind_34 : decode cX6_behind 34 = .ok (.invokevirtual 89, 3) := by decide +kernel
theorem dX6_behind_37 : decode cX6_behind 37 = .ok (.aload_n 0, 1) := by decide +kernel
theorem dX6_behind_38 : decode cX6_behind 38 = .ok (.getfield 10, 3) := by decide +kernel
theorem dX6_behind_41 : decode cX6_behind 41 = .ok (.getfield 51, 3) := by decide +kernel
theorem dX6_behind_44 : decode cX6_behind 44 = .ok (.invokevirtual 89, 3) := by decide +kernel
theorem dX6_behind_47 : decode cX6_behind 47 = .ok (.isub, 1) := by decide +kernel
theorem dX6_behind_48 : decode cX6_behind 48 = .ok (.goto 15, 3) := by decide +kernel
theorem dX6_behind_51 : decode cX6_behind 51 = .ok (.aload_n 0, 1) := by decide +kernel
theorem dX6_behind_52 : decode cX6_behind 52 = .ok (.getfield 32, 3) := by decide +kernel
theorem dX6_behind_55 : decode cX6_behind 55 = .ok (.iload_n 1, 1) := by decide +kernel
theorem dX6_behind_56 : decode cX6_behind 56 = .ok (.invokevirtual 95, 3) := by decide +kernel
theorem dX6_behind_59 : decode cX6_behind 59 = .ok (.sipush 1000, 3) := by decide +kernel
theorem dX6_behind_62 : decode cX6_behind 62 = .ok (.iadd, 1) := by decide +kernel
theorem dX6_behind_63 : decode cX6_behind 63 = .ok (.ireturn, 1) := by decide +kernel
theorem dX6_free_0 : decode cX6_free 0 = .ok (.iload_n 1, 1) := by decide +kernel
theorem dX6_free_1 : decode cX6_free 1 = .ok (.invokestatic 92, 3) := by decide +kernel
theorem dX6_free_4 : decode cX6_free 4 = .ok (.ifCond .eq 17, 3) := by decide +kernel
theorem dX6_free_7 : decode cX6_free 7 = .ok (.aload_n 0, 1) := by decide +kernel
theorem dX6_free_8 : decode cX6_free 8 = .ok (.getfield 10, 3) := by decide +kernel
theorem dX6_free_11 : decode cX6_free 11 = .ok (.getfield 51, 3) := by decide +kernel
theorem dX6_free_14 : decode cX6_free 14 = .ok (.iload_n 1, 1) := by decide +kernel
theorem dX6_free_15 : decode cX6_free 15 = .ok (.invokevirtual 98, 3) := by decide +kernel
theorem dX6_free_18 : decode cX6_free 18 = .ok (.goto 4, 3) := by decide +kernel
theorem dX6_free_21 : decode cX6_free 21 = .ok (.iconst (-1), 1) := by decide +kernel
theorem dX6_free_22 : decode cX6_free 22 = .ok (.ireturn, 1) := by decide +kernel
theorem dX6_answer_0 : decode cX6_answer 0 = .ok (.iload_n 1, 1) := by decide +kernel
theorem dX6_answer_1 : decode cX6_answer 1 = .ok (.invokestatic 92, 3) := by decide +kernel
theorem dX6_answer_4 : decode cX6_answer 4 = .ok (.ifCond .ne 5, 3) := by decide +kernel
theorem dX6_answer_7 : decode cX6_answer 7 = .ok (.iconst (-1), 1) := by decide +kernel
theorem dX6_answer_8 : decode cX6_answer 8 = .ok (.ireturn, 1) := by decide +kernel
theorem dX6_answer_9 : decode cX6_answer 9 = .ok (.iload_n 2, 1) := by decide +kernel
theorem dX6_answer_10 : decode cX6_answer 10 = .ok (.iconst 1, 1) := by decide +kernel
theorem dX6_answer_11 : decode cX6_answer 11 = .ok (.bipush 99, 2) := by decide +kernel
theorem dX6_answer_13 : decode cX6_answer 13 = .ok (.invokestatic 47, 3) := by decide +kernel
theorem dX6_answer_16 : decode cX6_answer 16 = .ok (.ifCond .ne 6, 3) := by decide +kernel
theorem dX6_answer_19 : decode cX6_answer 19 = .ok (.bipush (-2), 2) := by decide +kernel
theorem dX6_answer_21 : decode cX6_answer 21 = .ok (.ireturn, 1) := by decide +kernel
theorem dX6_answer_22 : decode cX6_answer 22 = .ok (.aload_n 0, 1) := by decide +kernel
theorem dX6_answer_23 : decode cX6_answer 23 = .ok (.getfield 10, 3) := by decide +kernel
theorem dX6_answer_26 : decode cX6_answer 26 = .ok (.getfield 51, 3) := by decide +kernel
theorem dX6_answer_29 : decode cX6_answer 29 = .ok (.iload_n 1, 1) := by decide +kernel
theorem dX6_answer_30 : decode cX6_answer 30 = .ok (.invokevirtual 101, 3) := by decide +kernel
theorem dX6_answer_33 : decode cX6_answer 33 = .ok (.ifCond .ne 6, 3) := by decide +kernel
theorem dX6_answer_36 : decode cX6_answer 36 = .ok (.bipush (-3), 2) := by decide +kernel
theorem dX6_answer_38 : decode cX6_answer 38 = .ok (.ireturn, 1) := by decide +kernel
theorem dX6_answer_39 : decode cX6_answer 39 = .ok (.aload_n 0, 1) := by decide +kernel
theorem dX6_answer_40 : decode cX6_answer 40 = .ok (.getfield 32, 3) := by decide +kernel
theorem dX6_answer_43 : decode cX6_answer 43 = .ok (.aload_n 0, 1) := by decide +kernel
theorem dX6_answer_44 : decode cX6_answer 44 = .ok (.getfield 10, 3) := by decide +kernel
theorem dX6_answer_47 : decode cX6_answer 47 = .ok (.getfield 51, 3) := by decide +kernel
theorem dX6_answer_50 : decode cX6_answer 50 = .ok (.invokevirtual 78, 3) := by decide +kernel
theorem dX6_answer_53 : decode cX6_answer 53 = .ok (.aload_n 0, 1) := by decide +kernel
theorem dX6_answer_54 : decode cX6_answer 54 = .ok (.getfield 32, 3) := by decide +kernel
theorem dX6_answer_57 : decode cX6_answer 57 = .ok (.iload_n 1, 1) := by decide +kernel
theorem dX6_answer_58 : decode cX6_answer 58 = .ok (.iload_n 2, 1) := by decide +kernel
theorem dX6_answer_59 : decode cX6_answer 59 = .ok (.invokevirtual 104, 3) := by decide +kernel
theorem dX6_answer_62 : decode cX6_answer 62 = .ok (.iconst 0, 1) := by decide +kernel
theorem dX6_answer_63 : decode cX6_answer 63 = .ok (.istore_n 3, 1) := by decide +kernel
theorem dX6_answer_64 : decode cX6_answer 64 = .ok (.iconst 0, 1) := by decide +kernel
theorem dX6_answer_65 : decode cX6_answer 65 = .ok (.istore 4, 2) := by decide +kernel
theorem dX6_answer_67 : decode cX6_answer 67 = .ok (.iload 4, 2) := by decide +kernel
theorem dX6_answer_69 : decode cX6_answer 69 = .ok (.bipush 6, 2) := by decide +kernel
theorem dX6_answer_71 : decode cX6_answer 71 = .ok (.if_icmp .ge 28, 3) := by decide +kernel
theorem dX6_answer_74 : decode cX6_answer 74 = .ok (.aload_n 0, 1) := by decide +kernel
theorem dX6_answer_75 : decode cX6_answer 75 = .ok (.getfield 32, 3) := by decide +kernel
theorem dX6_answer_78 : decode cX6_answer 78 = .ok (.iload 4, 2) := by decide +kernel
theorem dX6_answer_80 : decode cX6_answer 80 = .ok (.invokevirtual 101, 3) := by decide +kernel
theorem dX6_answer_83 : decode cX6_answer 83 = .ok (.ifCond .eq 10, 3) := by decide +kernel
theorem dX6_answer_86 : decode cX6_answer 86 = .ok (.iload_n 3, 1) := by decide +kernel
theorem dX6_answer_87 : decode cX6_answer 87 = .ok (.iconst 1, 1) := by decide +kernel
theorem dX6_answer_88 : decode cX6_answer 88 = .ok (.iload 4, 2) := by decide +kernel
theorem dX6_answer_90 : decode cX6_answer 90 = .ok (.ishl, 1) := by decide +kernel
theorem dX6_answer_91 : decode cX6_answer 91 = .ok (.ior, 1) := by decide +kernel
theorem dX6_answer_92 : decode cX6_answer 92 = .ok (.istore_n 3, 1) := by decide +kernel
theorem dX6_answer_93 : decode cX6_answer 93 = .ok (.iinc 4 1, 3) := by decide +kernel
theorem dX6_answer_96 : decode cX6_answer 96 = .ok (.goto (-29), 3) := by decide +kernel
theorem dX6_answer_99 : decode cX6_answer 99 = .ok (.iload_n 3, 1) := by decide +kernel
theorem dX6_answer_100 : decode cX6_answer 100 = .ok (.ireturn, 1) := by decide +kernel
theorem dX6_give_0 : decode cX6_give 0 = .ok (.iload_n 1, 1) := by decide +kernel
theorem dX6_give_1 : decode cX6_give 1 = .ok (.invokestatic 92, 3) := by decide +kernel
theorem dX6_give_4 : decode cX6_give 4 = .ok (.ifCond .eq 15, 3) := by decide +kernel
theorem dX6_give_7 : decode cX6_give 7 = .ok (.iload_n 2, 1) := by decide +kernel
theorem dX6_give_8 : decode cX6_give 8 = .ok (.invokestatic 92, 3) := by decide +kernel
theorem dX6_give_11 : decode cX6_give 11 = .ok (.ifCond .eq 8, 3) := by decide +kernel
theorem dX6_give_14 : decode cX6_give 14 = .ok (.iload_n 1, 1) := by decide +kernel
theorem dX6_give_15 : decode cX6_give 15 = .ok (.iload_n 2, 1) := by decide +kernel
theorem dX6_give_16 : decode cX6_give 16 = .ok (.if_icmp .ne 5, 3) := by decide +kernel
theorem dX6_give_19 : decode cX6_give 19 = .ok (.iconst (-1), 1) := by decide +kernel
theorem dX6_give_20 : decode cX6_give 20 = .ok (.ireturn, 1) := by decide +kernel
theorem dX6_give_21 : decode cX6_give 21 = .ok (.iload_n 3, 1) := by decide +kernel
theorem dX6_give_22 : decode cX6_give 22 = .ok (.iconst 1, 1) := by decide +kernel
theorem dX6_give_23 : decode cX6_give 23 = .ok (.bipush 99, 2) := by decide +kernel
theorem dX6_give_25 : decode cX6_give 25 = .ok (.invokestatic 47, 3) := by decide +kernel
theorem dX6_give_28 : decode cX6_give 28 = .ok (.ifCond .ne 6, 3) := by decide +kernel
theorem dX6_give_31 : decode cX6_give 31 = .ok (.bipush (-2), 2) := by decide +kernel
theorem dX6_give_33 : decode cX6_give 33 = .ok (.ireturn, 1) := by decide +kernel
theorem dX6_give_34 : decode cX6_give 34 = .ok (.aload_n 0, 1) := by decide +kernel
theorem dX6_give_35 : decode cX6_give 35 = .ok (.getfield 10, 3) := by decide +kernel
theorem dX6_give_38 : decode cX6_give 38 = .ok (.getfield 51, 3) := by decide +kernel
theorem dX6_give_41 : decode cX6_give 41 = .ok (.iload_n 1, 1) := by decide +kernel
theorem dX6_give_42 : decode cX6_give 42 = .ok (.invokevirtual 95, 3) := by decide +kernel
theorem dX6_give_45 : decode cX6_give 45 = .ok (.iload_n 3, 1) := by decide +kernel
theorem dX6_give_46 : decode cX6_give 46 = .ok (.ineg, 1) := by decide +kernel
theorem dX6_give_47 : decode cX6_give 47 = .ok (.if_icmp .le 6, 3) := by decide +kernel
theorem dX6_give_50 : decode cX6_give 50 = .ok (.bipush (-3), 2) := by decide +kernel
theorem dX6_give_52 : decode cX6_give 52 = .ok (.ireturn, 1) := by decide +kernel
theorem dX6_give_53 : decode cX6_give 53 = .ok (.aload_n 0, 1) := by decide +kernel
theorem dX6_give_54 : decode cX6_give 54 = .ok (.getfield 10, 3) := by decide +kernel
theorem dX6_give_57 : decode cX6_give 57 = .ok (.getfield 51, 3) := by decide +kernel
theorem dX6_give_60 : decode cX6_give 60 = .ok (.iload_n 1, 1) := by decide +kernel
theorem dX6_give_61 : decode cX6_give 61 = .ok (.iload_n 3, 1) := by decide +kernel
theorem dX6_give_62 : decode cX6_give 62 = .ok (.invokevirtual 108, 3) := by decide +kernel
theorem dX6_give_65 : decode cX6_give 65 = .ok (.aload_n 0, 1) := by decide +kernel
theorem dX6_give_66 : decode cX6_give 66 = .ok (.getfield 10, 3) := by decide +kernel
theorem dX6_give_69 : decode cX6_give 69 = .ok (.getfield 51, 3) := by decide +kernel
theorem dX6_give_72 : decode cX6_give 72 = .ok (.iload_n 2, 1) := by decide +kernel
theorem dX6_give_73 : decode cX6_give 73 = .ok (.iload_n 3, 1) := by decide +kernel
theorem dX6_give_74 : decode cX6_give 74 = .ok (.invokevirtual 111, 3) := by decide +kernel
theorem dX6_give_77 : decode cX6_give 77 = .ok (.ireturn, 1) := by decide +kernel
theorem dX6_saying_0 : decode cX6_saying 0 = .ok (.iload_n 1, 1) := by decide +kernel
theorem dX6_saying_1 : decode cX6_saying 1 = .ok (.invokestatic 92, 3) := by decide +kernel
theorem dX6_saying_4 : decode cX6_saying 4 = .ok (.ifCond .eq 28, 3) := by decide +kernel
theorem dX6_saying_7 : decode cX6_saying 7 = .ok (.iload_n 3, 1) := by decide +kernel
theorem dX6_saying_8 : decode cX6_saying 8 = .ok (.iconst (-1), 1) := by decide +kernel
theorem dX6_saying_9 : decode cX6_saying 9 = .ok (.if_icmp .eq 25, 3) := by decide +kernel
theorem dX6_saying_12 : decode cX6_saying 12 = .ok (.iload_n 3, 1) := by decide +kernel
theorem dX6_saying_13 : decode cX6_saying 13 = .ok (.iconst 0, 1) := by decide +kernel
theorem dX6_saying_14 : decode cX6_saying 14 = .ok (.aload_n 0, 1) := by decide +kernel
theorem dX6_saying_15 : decode cX6_saying 15 = .ok (.getfield 10, 3) := by decide +kernel
theorem dX6_saying_18 : decode cX6_saying 18 = .ok (.getfield 115, 3) := by decide +kernel
theorem dX6_saying_21 : decode cX6_saying 21 = .ok (.invokevirtual 119, 3) := by decide +kernel
theorem dX6_saying_24 : decode cX6_saying 24 = .ok (.iconst 1, 1) := by decide +kernel
theorem dX6_saying_25 : decode cX6_saying 25 = .ok (.isub, 1) := by decide +kernel
theorem dX6_saying_26 : decode cX6_saying 26 = .ok (.invokestatic 47, 3) := by decide +kernel
theorem dX6_saying_29 : decode cX6_saying 29 = .ok (.ifCond .ne 5, 3) := by decide +kernel
theorem dX6_saying_32 : decode cX6_saying 32 = .ok (.iconst (-1), 1) := by decide +kernel
theorem dX6_saying_33 : decode cX6_saying 33 = .ok (.ireturn, 1) := by decide +kernel
theorem dX6_saying_34 : decode cX6_saying 34 = .ok (.iload_n 2, 1) := by decide +kernel
theorem dX6_saying_35 : decode cX6_saying 35 = .ok (.iconst 1, 1) := by decide +kernel
theorem dX6_saying_36 : decode cX6_saying 36 = .ok (.bipush 99, 2) := by decide +kernel
theorem dX6_saying_38 : decode cX6_saying 38 = .ok (.invokestatic 47, 3) := by decide +kernel
theorem dX6_saying_41 : decode cX6_saying 41 = .ok (.ifCond .ne 6, 3) := by decide +kernel
theorem dX6_saying_44 : decode cX6_saying 44 = .ok (.bipush (-2), 2) := by decide +kernel
theorem dX6_saying_46 : decode cX6_saying 46 = .ok (.ireturn, 1) := by decide +kernel
theorem dX6_saying_47 : decode cX6_saying 47 = .ok (.aload_n 0, 1) := by decide +kernel
theorem dX6_saying_48 : decode cX6_saying 48 = .ok (.getfield 10, 3) := by decide +kernel
theorem dX6_saying_51 : decode cX6_saying 51 = .ok (.getfield 115, 3) := by decide +kernel
theorem dX6_saying_54 : decode cX6_saying 54 = .ok (.iload_n 1, 1) := by decide +kernel
theorem dX6_saying_55 : decode cX6_saying 55 = .ok (.iload_n 2, 1) := by decide +kernel
theorem dX6_saying_56 : decode cX6_saying 56 = .ok (.iload_n 3, 1) := by decide +kernel
theorem dX6_saying_57 : decode cX6_saying 57 = .ok (.invokevirtual 124, 3) := by decide +kernel
theorem dX6_saying_60 : decode cX6_saying 60 = .ok (.ifCond .eq 16, 3) := by decide +kernel
theorem dX6_saying_63 : decode cX6_saying 63 = .ok (.aload_n 0, 1) := by decide +kernel
theorem dX6_saying_64 : decode cX6_saying 64 = .ok (.getfield 10, 3) := by decide +kernel
theorem dX6_saying_67 : decode cX6_saying 67 = .ok (.getfield 115, 3) := by decide +kernel
theorem dX6_saying_70 : decode cX6_saying 70 = .ok (.invokevirtual 119, 3) := by decide +kernel
theorem dX6_saying_73 : decode cX6_saying 73 = .ok (.goto 5, 3) := by decide +kernel
theorem dX6_saying_76 : decode cX6_saying 76 = .ok (.bipush (-4), 2) := by decide +kernel
theorem dX6_saying_78 : decode cX6_saying 78 = .ok (.ireturn, 1) := by decide +kernel
theorem dX6_drop_0 : decode cX6_drop 0 = .ok (.aload_n 0, 1) := by decide +kernel
theorem dX6_drop_1 : decode cX6_drop 1 = .ok (.getfield 10, 3) := by decide +kernel
theorem dX6_drop_4 : decode cX6_drop 4 = .ok (.getfield 115, 3) := by decide +kernel
theorem dX6_drop_7 : decode cX6_drop 7 = .ok (.invokevirtual 126, 3) := by decide +kernel
theorem dX6_drop_10 : decode cX6_drop 10 = .ok (.ireturn, 1) := by decide +kernel
theorem dX6_soonest_0 : decode cX6_soonest 0 = .ok (.iload_n 1, 1) := by decide +kernel
theorem dX6_soonest_1 : decode cX6_soonest 1 = .ok (.bipush (-2), 2) := by decide +kernel
theorem dX6_soonest_3 : decode cX6_soonest 3 = .ok (.aload_n 0, 1) := by decide +kernel
theorem dX6_soonest_4 : decode cX6_soonest 4 = .ok (.getfield 10, 3) := by decide +kernel
theorem dX6_soonest_7 : decode cX6_soonest 7 = .ok (.getfield 115, 3) := by decide +kernel
theorem dX6_soonest_10 : decode cX6_soonest 10 = .ok (.invokevirtual 119, 3) := by decide +kernel
theorem dX6_soonest_13 : decode cX6_soonest 13 = .ok (.iconst 1, 1) := by decide +kernel
theorem dX6_soonest_14 : decode cX6_soonest 14 = .ok (.isub, 1) := by decide +kernel
theorem dX6_soonest_15 : decode cX6_soonest 15 = .ok (.invokestatic 47, 3) := by decide +kernel
theorem dX6_soonest_18 : decode cX6_soonest 18 = .ok (.ifCond .ne 6, 3) := by decide +kernel
theorem dX6_soonest_21 : decode cX6_soonest 21 = .ok (.bipush (-6), 2) := by decide +kernel
theorem dX6_soonest_23 : decode cX6_soonest 23 = .ok (.ireturn, 1) := by decide +kernel
theorem dX6_soonest_24 : decode cX6_soonest 24 = .ok (.aload_n 0, 1) := by decide +kernel
theorem dX6_soonest_25 : decode cX6_soonest 25 = .ok (.getfield 39, 3) := by decide +kernel
theorem dX6_soonest_28 : decode cX6_soonest 28 = .ok (.aload_n 0, 1) := by decide +kernel
theorem dX6_soonest_29 : decode cX6_soonest 29 = .ok (.getfield 10, 3) := by decide +kernel
theorem dX6_soonest_32 : decode cX6_soonest 32 = .ok (.getfield 115, 3) := by decide +kernel
theorem dX6_soonest_35 : decode cX6_soonest 35 = .ok (.aload_n 0, 1) := by decide +kernel
theorem dX6_soonest_36 : decode cX6_soonest 36 = .ok (.getfield 10, 3) := by decide +kernel
theorem dX6_soonest_39 : decode cX6_soonest 39 = .ok (.getfield 51, 3) := by decide +kernel
theorem dX6_soonest_42 : decode cX6_soonest 42 = .ok (.ldc 127, 2) := by decide +kernel
theorem dX6_soonest_44 : decode cX6_soonest 44 = .ok (.invokevirtual 128, 3) := by decide +kernel
theorem dX6_soonest_47 : decode cX6_soonest 47 = .ok (.istore_n 2, 1) := by decide +kernel
theorem dX6_soonest_48 : decode cX6_soonest 48 = .ok (.iload_n 1, 1) := by decide +kernel
theorem dX6_soonest_49 : decode cX6_soonest 49 = .ok (.iconst (-1), 1) := by decide +kernel
theorem dX6_soonest_50 : decode cX6_soonest 50 = .ok (.if_icmp .ne 5, 3) := by decide +kernel
theorem dX6_soonest_53 : decode cX6_soonest 53 = .ok (.iload_n 2, 1) := by decide +kernel
theorem dX6_soonest_54 : decode cX6_soonest 54 = .ok (.ireturn, 1) := by decide +kernel
theorem dX6_soonest_55 : decode cX6_soonest 55 = .ok (.iload_n 1, 1) := by decide +kernel
theorem dX6_soonest_56 : decode cX6_soonest 56 = .ok (.bipush (-2), 2) := by decide +kernel
theorem dX6_soonest_58 : decode cX6_soonest 58 = .ok (.if_icmp .ne 18, 3) := by decide +kernel
theorem dX6_soonest_61 : decode cX6_soonest 61 = .ok (.iload_n 2, 1) := by decide +kernel
theorem dX6_soonest_62 : decode cX6_soonest 62 = .ok (.aload_n 0, 1) := by decide +kernel
theorem dX6_soonest_63 : decode cX6_soonest 63 = .ok (.getfield 10, 3) := by decide +kernel
theorem dX6_soonest_66 : decode cX6_soonest 66 = .ok (.getfield 115, 3) := by decide +kernel
theorem dX6_soonest_69 : decode cX6_soonest 69 = .ok (.invokevirtual 132, 3) := by decide +kernel
theorem dX6_soonest_72 : decode cX6_soonest 72 = .ok (.isub, 1) := by decide +kernel
theorem dX6_soonest_73 : decode cX6_soonest 73 = .ok (.goto 11, 3) := by decide +kernel
theorem dX6_soonest_76 : decode cX6_soonest 76 = .ok (.aload_n 0, 1) := by decide +kernel
theorem dX6_soonest_77 : decode cX6_soonest 77 = .ok (.getfield 39, 3) := by decide +kernel
theorem dX6_soonest_80 : decode cX6_soonest 80 = .ok (.iload_n 1, 1) := by decide +kernel
theorem dX6_soonest_81 : decode cX6_soonest 81 = .ok (.invokevirtual 135, 3) := by decide +kernel
theorem dX6_soonest_84 : decode cX6_soonest 84 = .ok (.ireturn, 1) := by decide +kernel
theorem dX6_whom_0 : decode cX6_whom 0 = .ok (.iload_n 1, 1) := by decide +kernel
theorem dX6_whom_1 : decode cX6_whom 1 = .ok (.iconst 1, 1) := by decide +kernel
theorem dX6_whom_2 : decode cX6_whom 2 = .ok (.bipush 99, 2) := by decide +kernel
theorem dX6_whom_4 : decode cX6_whom 4 = .ok (.invokestatic 47, 3) := by decide +kernel
theorem dX6_whom_7 : decode cX6_whom 7 = .ok (.ifCond .eq 12, 3) := by decide +kernel
theorem dX6_whom_10 : decode cX6_whom 10 = .ok (.iload_n 2, 1) := by decide +kernel
theorem dX6_whom_11 : decode cX6_whom 11 = .ok (.iconst 0, 1) := by decide +kernel
theorem dX6_whom_12 : decode cX6_whom 12 = .ok (.iconst 1, 1) := by decide +kernel
theorem dX6_whom_13 : decode cX6_whom 13 = .ok (.invokestatic 47, 3) := by decide +kernel
theorem dX6_whom_16 : decode cX6_whom 16 = .ok (.ifCond .ne 6, 3) := by decide +kernel
theorem dX6_whom_19 : decode cX6_whom 19 = .ok (.bipush (-2), 2) := by decide +kernel
theorem dX6_whom_21 : decode cX6_whom 21 = .ok (.ireturn, 1) := by decide +kernel
theorem dX6_whom_22 : decode cX6_whom 22 = .ok (.ldc 127, 2) := by decide +kernel
theorem dX6_whom_24 : decode cX6_whom 24 = .ok (.istore_n 3, 1) := by decide +kernel
theorem dX6_whom_25 : decode cX6_whom 25 = .ok (.iconst 0, 1) := by decide +kernel
theorem dX6_whom_26 : decode cX6_whom 26 = .ok (.istore 4, 2) := by decide +kernel
theorem dX6_whom_28 : decode cX6_whom 28 = .ok (.iconst 0, 1) := by decide +kernel
theorem dX6_whom_29 : decode cX6_whom 29 = .ok (.istore 5, 2) := by decide +kernel
theorem dX6_whom_31 : decode cX6_whom 31 = .ok (.iload 5, 2) := by decide +kernel
theorem dX6_whom_33 : decode cX6_whom 33 = .ok (.bipush 6, 2) := by decide +kernel
theorem dX6_whom_35 : decode cX6_whom 35 = .ok (.if_icmp .ge 68, 3) := by decide +kernel
theorem dX6_whom_38 : decode cX6_whom 38 = .ok (.aload_n 0, 1) := by decide +kernel
theorem dX6_whom_39 : decode cX6_whom 39 = .ok (.getfield 32, 3) := by decide +kernel
theorem dX6_whom_42 : decode cX6_whom 42 = .ok (.aload_n 0, 1) := by decide +kernel
theorem dX6_whom_43 : decode cX6_whom 43 = .ok (.getfield 10, 3) := by decide +kernel
theorem dX6_whom_46 : decode cX6_whom 46 = .ok (.getfield 51, 3) := by decide +kernel
theorem dX6_whom_49 : decode cX6_whom 49 = .ok (.invokevirtual 78, 3) := by decide +kernel
theorem dX6_whom_52 : decode cX6_whom 52 = .ok (.aload_n 0, 1) := by decide +kernel
theorem dX6_whom_53 : decode cX6_whom 53 = .ok (.getfield 32, 3) := by decide +kernel
theorem dX6_whom_56 : decode cX6_whom 56 = .ok (.iload 5, 2) := by decide +kernel
theorem dX6_whom_58 : decode cX6_whom 58 = .ok (.iload_n 1, 1) := by decide +kernel
theorem dX6_whom_59 : decode cX6_whom 59 = .ok (.invokevirtual 111, 3) := by decide +kernel
theorem dX6_whom_62 : decode cX6_whom 62 = .ok (.pop, 1) := by decide +kernel
theorem dX6_whom_63 : decode cX6_whom 63 = .ok (.aload_n 0, 1) := by decide +kernel
theorem dX6_whom_64 : decode cX6_whom 64 = .ok (.getfield 39, 3) := by decide +kernel
theorem dX6_whom_67 : decode cX6_whom 67 = .ok (.aload_n 0, 1) := by decide +kernel
theorem dX6_whom_68 : decode cX6_whom 68 = .ok (.getfield 10, 3) := by decide +kernel
theorem dX6_whom_71 : decode cX6_whom 71 = .ok (.getfield 115, 3) := by decide +kernel
theorem dX6_whom_74 : decode cX6_whom 74 = .ok (.aload_n 0, 1) := by decide +kernel
theorem dX6_whom_75 : decode cX6_whom 75 = .ok (.getfield 32, 3) := by decide +kernel
theorem dX6_whom_78 : decode cX6_whom 78 = .ok (.iload_n 3, 1) := by decide +kernel
theorem dX6_whom_79 : decode cX6_whom 79 = .ok (.invokevirtual 128, 3) := by decide +kernel
theorem dX6_whom_82 : decode cX6_whom 82 = .ok (.istore 6, 2) := by decide +kernel
theorem dX6_whom_84 : decode cX6_whom 84 = .ok (.iload 6, 2) := by decide +kernel
theorem dX6_whom_86 : decode cX6_whom 86 = .ok (.iload_n 3, 1) := by decide +kernel
theorem dX6_whom_87 : decode cX6_whom 87 = .ok (.if_icmp .ge 10, 3) := by decide +kernel
theorem dX6_whom_90 : decode cX6_whom 90 = .ok (.iload 6, 2) := by decide +kernel
theorem dX6_whom_92 : decode cX6_whom 92 = .ok (.istore_n 3, 1) := by decide +kernel
theorem dX6_whom_93 : decode cX6_whom 93 = .ok (.iload 5, 2) := by decide +kernel
theorem dX6_whom_95 : decode cX6_whom 95 = .ok (.istore 4, 2) := by decide +kernel
theorem dX6_whom_97 : decode cX6_whom 97 = .ok (.iinc 5 1, 3) := by decide +kernel
theorem dX6_whom_100 : decode cX6_whom 100 = .ok (.goto (-69), 3) := by decide +kernel
theorem dX6_whom_103 : decode cX6_whom 103 = .ok (.iload_n 2, 1) := by decide +kernel
theorem dX6_whom_104 : decode cX6_whom 104 = .ok (.ifCond .ne 8, 3) := by decide +kernel
theorem dX6_whom_107 : decode cX6_whom 107 = .ok (.iload 4, 2) := by decide +kernel
theorem dX6_whom_109 : decode cX6_whom 109 = .ok (.goto 4, 3) := by decide +kernel
theorem dX6_whom_112 : decode cX6_whom 112 = .ok (.iload_n 3, 1) := by decide +kernel
theorem dX6_whom_113 : decode cX6_whom 113 = .ok (.ireturn, 1) := by decide +kernel
theorem dX6_quarrel_0 : decode cX6_quarrel 0 = .ok (.iload_n 1, 1) := by decide +kernel
theorem dX6_quarrel_1 : decode cX6_quarrel 1 = .ok (.invokestatic 92, 3) := by decide +kernel
theorem dX6_quarrel_4 : decode cX6_quarrel 4 = .ok (.ifCond .eq 15, 3) := by decide +kernel
theorem dX6_quarrel_7 : decode cX6_quarrel 7 = .ok (.iload_n 3, 1) := by decide +kernel
theorem dX6_quarrel_8 : decode cX6_quarrel 8 = .ok (.invokestatic 92, 3) := by decide +kernel
theorem dX6_quarrel_11 : decode cX6_quarrel 11 = .ok (.ifCond .eq 8, 3) := by decide +kernel
theorem dX6_quarrel_14 : decode cX6_quarrel 14 = .ok (.iload_n 1, 1) := by decide +kernel
theorem dX6_quarrel_15 : decode cX6_quarrel 15 = .ok (.iload_n 3, 1) := by decide +kernel
theorem dX6_quarrel_16 : decode cX6_quarrel 16 = .ok (.if_icmp .ne 5, 3) := by decide +kernel
theorem dX6_quarrel_19 : decode cX6_quarrel 19 = .ok (.iconst (-1), 1) := by decide +kernel
theorem dX6_quarrel_20 : decode cX6_quarrel 20 = .ok (.ireturn, 1) := by decide +kernel
theorem dX6_quarrel_21 : decode cX6_quarrel 21 = .ok (.iload_n 2, 1) := by decide +kernel
theorem dX6_quarrel_22 : decode cX6_quarrel 22 = .ok (.iconst 1, 1) := by decide +kernel
theorem dX6_quarrel_23 : decode cX6_quarrel 23 = .ok (.bipush 99, 2) := by decide +kernel
theorem dX6_quarrel_25 : decode cX6_quarrel 25 = .ok (.invokestatic 47, 3) := by decide +kernel
theorem dX6_quarrel_28 : decode cX6_quarrel 28 = .ok (.ifCond .eq 36, 3) := by decide +kernel
theorem dX6_quarrel_31 : decode cX6_quarrel 31 = .ok (.iload 4, 2) := by decide +kernel
theorem dX6_quarrel_33 : decode cX6_quarrel 33 = .ok (.iconst 1, 1) := by decide +kernel
theorem dX6_quarrel_34 : decode cX6_quarrel 34 = .ok (.bipush 99, 2) := by decide +kernel
theorem dX6_quarrel_36 : decode cX6_quarrel 36 = .ok (.invokestatic 47, 3) := by decide +kernel
theorem dX6_quarrel_39 : decode cX6_quarrel 39 = .ok (.ifCond .eq 25, 3) := by decide +kernel
theorem dX6_quarrel_42 : decode cX6_quarrel 42 = .ok (.iload 5, 2) := by decide +kernel
theorem dX6_quarrel_44 : decode cX6_quarrel 44 = .ok (.iconst 0, 1) := by decide +kernel
theorem dX6_quarrel_45 : decode cX6_quarrel 45 = .ok (.sipush 999, 3) := by decide +kernel
theorem dX6_quarrel_48 : decode cX6_quarrel 48 = .ok (.invokestatic 47, 3) := by decide +kernel
theorem dX6_quarrel_51 : decode cX6_quarrel 51 = .ok (.ifCond .eq 13, 3) := by decide +kernel
theorem dX6_quarrel_54 : decode cX6_quarrel 54 = .ok (.iload 6, 2) := by decide +kernel
theorem dX6_quarrel_56 : decode cX6_quarrel 56 = .ok (.iconst 0, 1) := by decide +kernel
theorem dX6_quarrel_57 : decode cX6_quarrel 57 = .ok (.iconst 1, 1) := by decide +kernel
theorem dX6_quarrel_58 : decode cX6_quarrel 58 = .ok (.invokestatic 47, 3) := by decide +kernel
theorem dX6_quarrel_61 : decode cX6_quarrel 61 = .ok (.ifCond .ne 6, 3) := by decide +kernel
theorem dX6_quarrel_64 : decode cX6_quarrel 64 = .ok (.bipush (-2), 2) := by decide +kernel
theorem dX6_quarrel_66 : decode cX6_quarrel 66 = .ok (.ireturn, 1) := by decide +kernel
theorem dX6_quarrel_67 : decode cX6_quarrel 67 = .ok (.aload_n 0, 1) := by decide +kernel
theorem dX6_quarrel_68 : decode cX6_quarrel 68 = .ok (.getfield 32, 3) := by decide +kernel
theorem dX6_quarrel_71 : decode cX6_quarrel 71 = .ok (.aload_n 0, 1) := by decide +kernel
theorem dX6_quarrel_72 : decode cX6_quarrel 72 = .ok (.getfield 10, 3) := by decide +kernel
theorem dX6_quarrel_75 : decode cX6_quarrel 75 = .ok (.getfield 51, 3) := by decide +kernel
theorem dX6_quarrel_78 : decode cX6_quarrel 78 = .ok (.invokevirtual 78, 3) := by decide +kernel
theorem dX6_quarrel_81 : decode cX6_quarrel 81 = .ok (.aload_n 0, 1) := by decide +kernel
theorem dX6_quarrel_82 : decode cX6_quarrel 82 = .ok (.getfield 10, 3) := by decide +kernel
theorem dX6_quarrel_85 : decode cX6_quarrel 85 = .ok (.getfield 51, 3) := by decide +kernel
theorem dX6_quarrel_88 : decode cX6_quarrel 88 = .ok (.invokevirtual 89, 3) := by decide +kernel
theorem dX6_quarrel_91 : decode cX6_quarrel 91 = .ok (.iload 5, 2) := by decide +kernel
theorem dX6_quarrel_93 : decode cX6_quarrel 93 = .ok (.iadd, 1) := by decide +kernel
theorem dX6_quarrel_94 : decode cX6_quarrel 94 = .ok (.istore 7, 2) := by decide +kernel
theorem dX6_quarrel_96 : decode cX6_quarrel 96 = .ok (.iconst 0, 1) := by decide +kernel
theorem dX6_quarrel_97 : decode cX6_quarrel 97 = .ok (.istore 8, 2) := by decide +kernel
theorem dX6_quarrel_99 : decode cX6_quarrel 99 = .ok (.iconst 0, 1) := by decide +kernel
theorem dX6_quarrel_100 : decode cX6_quarrel 100 = .ok (.istore 9, 2) := by decide +kernel
theorem dX6_quarrel_102 : decode cX6_quarrel 102 = .ok (.iconst 0, 1) := by decide +kernel
theorem dX6_quarrel_103 : decode cX6_quarrel 103 = .ok (.istore 10, 2) := by decide +kernel
theorem dX6_quarrel_105 : decode cX6_quarrel 105 = .ok (.iload 10, 2) := by decide +kernel
theorem dX6_quarrel_107 : decode cX6_quarrel 107 = .ok (.iload 5, 2) := by decide +kernel
theorem dX6_quarrel_109 : decode cX6_quarrel 109 = .ok (.if_icmp .ge 109, 3) := by decide +kernel
theorem dX6_quarrel_112 : decode cX6_quarrel 112 = .ok (.iload 10, 2) := by decide +kernel
theorem dX6_quarrel_114 : decode cX6_quarrel 114 = .ok (.iconst 2, 1) := by decide +kernel
theorem dX6_quarrel_115 : decode cX6_quarrel 115 = .ok (.irem, 1) := by decide +kernel
theorem dX6_quarrel_116 : decode cX6_quarrel 116 = .ok (.ifCond .ne 7, 3) := by decide +kernel
theorem dX6_quarrel_119 : decode cX6_quarrel 119 = .ok (.iload_n 1, 1) := by decide +kernel
theorem dX6_quarrel_120 : decode cX6_quarrel 120 = .ok (.goto 4, 3) := by decide +kernel
theorem dX6_quarrel_123 : decode cX6_quarrel 123 = .ok (.iload_n 3, 1) := by decide +kernel
theorem dX6_quarrel_124 : decode cX6_quarrel 124 = .ok (.istore 11, 2) := by decide +kernel
theorem dX6_quarrel_126 : decode cX6_quarrel 126 = .ok (.iload 10, 2) := by decide +kernel
theorem dX6_quarrel_128 : decode cX6_quarrel 128 = .ok (.iconst 2, 1) := by decide +kernel
theorem dX6_quarrel_129 : decode cX6_quarrel 129 = .ok (.irem, 1) := by decide +kernel
theorem dX6_quarrel_130 : decode cX6_quarrel 130 = .ok (.ifCond .ne 7, 3) := by decide +kernel
theorem dX6_quarrel_133 : decode cX6_quarrel 133 = .ok (.iload_n 2, 1) := by decide +kernel
theorem dX6_quarrel_134 : decode cX6_quarrel 134 = .ok (.goto 5, 3) := by decide +kernel
theorem dX6_quarrel_137 : decode cX6_quarrel 137 = .ok (.iload 4, 2) := by decide +kernel
theorem dX6_quarrel_139 : decode cX6_quarrel 139 = .ok (.istore 12, 2) := by decide +kernel
theorem dX6_quarrel_141 : decode cX6_quarrel 141 = .ok (.iload 7, 2) := by decide +kernel
theorem dX6_quarrel_143 : decode cX6_quarrel 143 = .ok (.aload_n 0, 1) := by decide +kernel
theorem dX6_quarrel_144 : decode cX6_quarrel 144 = .ok (.getfield 32, 3) := by decide +kernel
theorem dX6_quarrel_147 : decode cX6_quarrel 147 = .ok (.invokevirtual 89, 3) := by decide +kernel
theorem dX6_quarrel_150 : decode cX6_quarrel 150 = .ok (.isub, 1) := by decide +kernel
theorem dX6_quarrel_151 : decode cX6_quarrel 151 = .ok (.istore 13, 2) := by decide +kernel
theorem dX6_quarrel_153 : decode cX6_quarrel 153 = .ok (.aload_n 0, 1) := by decide +kernel
theorem dX6_quarrel_154 : decode cX6_quarrel 154 = .ok (.getfield 32, 3) := by decide +kernel
theorem dX6_quarrel_157 : decode cX6_quarrel 157 = .ok (.iload 11, 2) := by decide +kernel
theorem dX6_quarrel_159 : decode cX6_quarrel 159 = .ok (.invokevirtual 98, 3) := by decide +kernel
theorem dX6_quarrel_162 : decode cX6_quarrel 162 = .ok (.istore 14, 2) := by decide +kernel
theorem dX6_quarrel_164 : decode cX6_quarrel 164 = .ok (.iload 9, 2) := by decide +kernel
theorem dX6_quarrel_166 : decode cX6_quarrel 166 = .ok (.iload 14, 2) := by decide +kernel
theorem dX6_quarrel_168 : decode cX6_quarrel 168 = .ok (.iload 13, 2) := by decide +kernel
theorem dX6_quarrel_170 : decode cX6_quarrel 170 = .ok (.invokestatic 138, 3) := by decide +kernel
theorem dX6_quarrel_173 : decode cX6_quarrel 173 = .ok (.iadd, 1) := by decide +kernel
theorem dX6_quarrel_174 : decode cX6_quarrel 174 = .ok (.istore 9, 2) := by decide +kernel
theorem dX6_quarrel_176 : decode cX6_quarrel 176 = .ok (.iload 14, 2) := by decide +kernel
theorem dX6_quarrel_178 : decode cX6_quarrel 178 = .ok (.iload 12, 2) := by decide +kernel
theorem dX6_quarrel_180 : decode cX6_quarrel 180 = .ok (.iadd, 1) := by decide +kernel
theorem dX6_quarrel_181 : decode cX6_quarrel 181 = .ok (.iload 13, 2) := by decide +kernel
theorem dX6_quarrel_183 : decode cX6_quarrel 183 = .ok (.if_icmp .le 6, 3) := by decide +kernel
theorem dX6_quarrel_186 : decode cX6_quarrel 186 = .ok (.goto 32, 3) := by decide +kernel
theorem dX6_quarrel_189 : decode cX6_quarrel 189 = .ok (.aload_n 0, 1) := by decide +kernel
theorem dX6_quarrel_190 : decode cX6_quarrel 190 = .ok (.getfield 32, 3) := by decide +kernel
theorem dX6_quarrel_193 : decode cX6_quarrel 193 = .ok (.iload 14, 2) := by decide +kernel
theorem dX6_quarrel_195 : decode cX6_quarrel 195 = .ok (.invokevirtual 143, 3) := by decide +kernel
theorem dX6_quarrel_198 : decode cX6_quarrel 198 = .ok (.aload_n 0, 1) := by decide +kernel
theorem dX6_quarrel_199 : decode cX6_quarrel 199 = .ok (.getfield 32, 3) := by decide +kernel
theorem dX6_quarrel_202 : decode cX6_quarrel 202 = .ok (.iload 11, 2) := by decide +kernel
theorem dX6_quarrel_204 : decode cX6_quarrel 204 = .ok (.iload 12, 2) := by decide +kernel
theorem dX6_quarrel_206 : decode cX6_quarrel 206 = .ok (.invokevirtual 104, 3) := by decide +kernel
theorem dX6_quarrel_209 : decode cX6_quarrel 209 = .ok (.iinc 8 1, 3) := by decide +kernel
theorem dX6_quarrel_212 : decode cX6_quarrel 212 = .ok (.iinc 10 1, 3) := by decide +kernel
theorem dX6_quarrel_215 : decode cX6_quarrel 215 = .ok (.goto (-110), 3) := by decide +kernel
theorem dX6_quarrel_218 : decode cX6_quarrel 218 = .ok (.iload 6, 2) := by decide +kernel
theorem dX6_quarrel_220 : decode cX6_quarrel 220 = .ok (.ifCond .ne 8, 3) := by decide +kernel
theorem dX6_quarrel_223 : decode cX6_quarrel 223 = .ok (.iload 8, 2) := by decide +kernel
theorem dX6_quarrel_225 : decode cX6_quarrel 225 = .ok (.goto 5, 3) := by decide +kernel
theorem dX6_quarrel_228 : decode cX6_quarrel 228 = .ok (.iload 9, 2) := by decide +kernel
theorem dX6_quarrel_230 : decode cX6_quarrel 230 = .ok (.ireturn, 1) := by decide +kernel
theorem dX6_length_0 : decode cX6_length 0 = .ok (.iload_n 1, 1) := by decide +kernel
theorem dX6_length_1 : decode cX6_length 1 = .ok (.invokestatic 92, 3) := by decide +kernel
theorem dX6_length_4 : decode cX6_length 4 = .ok (.ifCond .ne 5, 3) := by decide +kernel
theorem dX6_length_7 : decode cX6_length 7 = .ok (.iconst (-1), 1) := by decide +kernel
theorem dX6_length_8 : decode cX6_length 8 = .ok (.ireturn, 1) := by decide +kernel
theorem dX6_length_9 : decode cX6_length 9 = .ok (.iload_n 2, 1) := by decide +kernel
theorem dX6_length_10 : decode cX6_length 10 = .ok (.iconst 0, 1) := by decide +kernel
theorem dX6_length_11 : decode cX6_length 11 = .ok (.sipush 999, 3) := by decide +kernel
theorem dX6_length_14 : decode cX6_length 14 = .ok (.invokestatic 47, 3) := by decide +kernel
theorem dX6_length_17 : decode cX6_length 17 = .ok (.ifCond .eq 12, 3) := by decide +kernel
theorem dX6_length_20 : decode cX6_length 20 = .ok (.iload_n 3, 1) := by decide +kernel
theorem dX6_length_21 : decode cX6_length 21 = .ok (.iconst 0, 1) := by decide +kernel
theorem dX6_length_22 : decode cX6_length 22 = .ok (.iconst 1, 1) := by decide +kernel
theorem dX6_length_23 : decode cX6_length 23 = .ok (.invokestatic 47, 3) := by decide +kernel
theorem dX6_length_26 : decode cX6_length 26 = .ok (.ifCond .ne 6, 3) := by decide +kernel
theorem dX6_length_29 : decode cX6_length 29 = .ok (.bipush (-2), 2) := by decide +kernel
theorem dX6_length_31 : decode cX6_length 31 = .ok (.ireturn, 1) := by decide +kernel
theorem dX6_length_32 : decode cX6_length 32 = .ok (.bipush (-6), 2) := by decide +kernel
theorem dX6_length_34 : decode cX6_length 34 = .ok (.istore 4, 2) := by decide +kernel
theorem dX6_length_36 : decode cX6_length 36 = .ok (.iconst 0, 1) := by decide +kernel
theorem dX6_length_37 : decode cX6_length 37 = .ok (.istore 5, 2) := by decide +kernel
theorem dX6_length_39 : decode cX6_length 39 = .ok (.iconst 1, 1) := by decide +kernel
theorem dX6_length_40 : decode cX6_length 40 = .ok (.istore 6, 2) := by decide +kernel
theorem dX6_length_42 : decode cX6_length 42 = .ok (.iload 6, 2) := by decide +kernel
theorem dX6_length_44 : decode cX6_length 44 = .ok (.bipush 99, 2) := by decide +kernel
theorem dX6_length_46 : decode cX6_length 46 = .ok (.if_icmp .gt 43, 3) := by decide +kernel
theorem dX6_length_49 : decode cX6_length 49 = .ok (.aload_n 0, 1) := by decide +kernel
theorem dX6_length_50 : decode cX6_length 50 = .ok (.getfield 10, 3) := by decide +kernel
theorem dX6_length_53 : decode cX6_length 53 = .ok (.getfield 51, 3) := by decide +kernel
theorem dX6_length_56 : decode cX6_length 56 = .ok (.iload_n 1, 1) := by decide +kernel
theorem dX6_length_57 : decode cX6_length 57 = .ok (.invokevirtual 95, 3) := by decide +kernel
theorem dX6_length_60 : decode cX6_length 60 = .ok (.iload 6, 2) := by decide +kernel
theorem dX6_length_62 : decode cX6_length 62 = .ok (.iload_n 2, 1) := by decide +kernel
theorem dX6_length_63 : decode cX6_length 63 = .ok (.invokestatic 147, 3) := by decide +kernel
theorem dX6_length_66 : decode cX6_length 66 = .ok (.istore 7, 2) := by decide +kernel
theorem dX6_length_68 : decode cX6_length 68 = .ok (.iload 7, 2) := by decide +kernel
theorem dX6_length_70 : decode cX6_length 70 = .ok (.iload 5, 2) := by decide +kernel
theorem dX6_length_72 : decode cX6_length 72 = .ok (.if_icmp .le 11, 3) := by decide +kernel
theorem dX6_length_75 : decode cX6_length 75 = .ok (.iload 7, 2) := by decide +kernel
theorem dX6_length_77 : decode cX6_length 77 = .ok (.istore 5, 2) := by decide +kernel
theorem dX6_length_79 : decode cX6_length 79 = .ok (.iload 6, 2) := by decide +kernel
theorem dX6_length_81 : decode cX6_length 81 = .ok (.istore 4, 2) := by decide +kernel
theorem dX6_length_83 : decode cX6_length 83 = .ok (.iinc 6 1, 3) := by decide +kernel
theorem dX6_length_86 : decode cX6_length 86 = .ok (.goto (-44), 3) := by decide +kernel
theorem dX6_length_89 : decode cX6_length 89 = .ok (.iload_n 3, 1) := by decide +kernel
theorem dX6_length_90 : decode cX6_length 90 = .ok (.ifCond .ne 8, 3) := by decide +kernel
theorem dX6_length_93 : decode cX6_length 93 = .ok (.iload 4, 2) := by decide +kernel
theorem dX6_length_95 : decode cX6_length 95 = .ok (.goto 5, 3) := by decide +kernel
theorem dX6_length_98 : decode cX6_length 98 = .ok (.iload 5, 2) := by decide +kernel
theorem dX6_length_100 : decode cX6_length 100 = .ok (.ireturn, 1) := by decide +kernel
theorem dX6_seen_0 : decode cX6_seen 0 = .ok (.iload_n 1, 1) := by decide +kernel
theorem dX6_seen_1 : decode cX6_seen 1 = .ok (.invokestatic 92, 3) := by decide +kernel
theorem dX6_seen_4 : decode cX6_seen 4 = .ok (.ifCond .ne 5, 3) := by decide +kernel
theorem dX6_seen_7 : decode cX6_seen 7 = .ok (.iconst (-1), 1) := by decide +kernel
theorem dX6_seen_8 : decode cX6_seen 8 = .ok (.ireturn, 1) := by decide +kernel
theorem dX6_seen_9 : decode cX6_seen 9 = .ok (.iload_n 2, 1) := by decide +kernel
theorem dX6_seen_10 : decode cX6_seen 10 = .ok (.bipush (-99), 2) := by decide +kernel
theorem dX6_seen_12 : decode cX6_seen 12 = .ok (.sipush 999, 3) := by decide +kernel
theorem dX6_seen_15 : decode cX6_seen 15 = .ok (.invokestatic 47, 3) := by decide +kernel
theorem dX6_seen_18 : decode cX6_seen 18 = .ok (.ifCond .ne 6, 3) := by decide +kernel
theorem dX6_seen_21 : decode cX6_seen 21 = .ok (.bipush (-2), 2) := by decide +kernel
theorem dX6_seen_23 : decode cX6_seen 23 = .ok (.ireturn, 1) := by decide +kernel
theorem dX6_seen_24 : decode cX6_seen 24 = .ok (.aload_n 0, 1) := by decide +kernel
theorem dX6_seen_25 : decode cX6_seen 25 = .ok (.getfield 10, 3) := by decide +kernel
theorem dX6_seen_28 : decode cX6_seen 28 = .ok (.getfield 151, 3) := by decide +kernel
theorem dX6_seen_31 : decode cX6_seen 31 = .ok (.iload_n 1, 1) := by decide +kernel
theorem dX6_seen_32 : decode cX6_seen 32 = .ok (.iload_n 2, 1) := by decide +kernel
theorem dX6_seen_33 : decode cX6_seen 33 = .ok (.invokevirtual 155, 3) := by decide +kernel
theorem dX6_seen_36 : decode cX6_seen 36 = .ok (.ifCond .eq 16, 3) := by decide +kernel
theorem dX6_seen_39 : decode cX6_seen 39 = .ok (.aload_n 0, 1) := by decide +kernel
theorem dX6_seen_40 : decode cX6_seen 40 = .ok (.getfield 10, 3) := by decide +kernel
theorem dX6_seen_43 : decode cX6_seen 43 = .ok (.getfield 151, 3) := by decide +kernel
theorem dX6_seen_46 : decode cX6_seen 46 = .ok (.invokevirtual 160, 3) := by decide +kernel
theorem dX6_seen_49 : decode cX6_seen 49 = .ok (.goto 5, 3) := by decide +kernel
theorem dX6_seen_52 : decode cX6_seen 52 = .ok (.bipush (-4), 2) := by decide +kernel
theorem dX6_seen_54 : decode cX6_seen 54 = .ok (.ireturn, 1) := by decide +kernel
theorem dX6_forget_0 : decode cX6_forget 0 = .ok (.aload_n 0, 1) := by decide +kernel
theorem dX6_forget_1 : decode cX6_forget 1 = .ok (.getfield 10, 3) := by decide +kernel
theorem dX6_forget_4 : decode cX6_forget 4 = .ok (.getfield 151, 3) := by decide +kernel
theorem dX6_forget_7 : decode cX6_forget 7 = .ok (.invokevirtual 161, 3) := by decide +kernel
theorem dX6_forget_10 : decode cX6_forget 10 = .ok (.ireturn, 1) := by decide +kernel
theorem dX6_filled_0 : decode cX6_filled 0 = .ok (.aload_n 0, 1) := by decide +kernel
theorem dX6_filled_1 : decode cX6_filled 1 = .ok (.getfield 25, 3) := by decide +kernel
theorem dX6_filled_4 : decode cX6_filled 4 = .ok (.invokevirtual 72, 3) := by decide +kernel
theorem dX6_filled_7 : decode cX6_filled 7 = .ok (.bipush (-6), 2) := by decide +kernel
theorem dX6_filled_9 : decode cX6_filled 9 = .ok (.if_icmp .eq 6, 3) := by decide +kernel
theorem dX6_filled_12 : decode cX6_filled 12 = .ok (.bipush (-5), 2) := by decide +kernel
theorem dX6_filled_14 : decode cX6_filled 14 = .ok (.ireturn, 1) := by decide +kernel
theorem dX6_filled_15 : decode cX6_filled 15 = .ok (.aload_n 0, 1) := by decide +kernel
theorem dX6_filled_16 : decode cX6_filled 16 = .ok (.getfield 25, 3) := by decide +kernel
theorem dX6_filled_19 : decode cX6_filled 19 = .ok (.invokevirtual 162, 3) := by decide +kernel
theorem dX6_filled_22 : decode cX6_filled 22 = .ok (.istore_n 2, 1) := by decide +kernel
theorem dX6_filled_23 : decode cX6_filled 23 = .ok (.iload_n 2, 1) := by decide +kernel
theorem dX6_filled_24 : decode cX6_filled 24 = .ok (.invokestatic 165, 3) := by decide +kernel
theorem dX6_filled_27 : decode cX6_filled 27 = .ok (.istore_n 3, 1) := by decide +kernel
theorem dX6_filled_28 : decode cX6_filled 28 = .ok (.iconst 0, 1) := by decide +kernel
theorem dX6_filled_29 : decode cX6_filled 29 = .ok (.istore 4, 2) := by decide +kernel
theorem dX6_filled_31 : decode cX6_filled 31 = .ok (.bipush (-6), 2) := by decide +kernel
theorem dX6_filled_33 : decode cX6_filled 33 = .ok (.istore 5, 2) := by decide +kernel
theorem dX6_filled_35 : decode cX6_filled 35 = .ok (.iconst 0, 1) := by decide +kernel
theorem dX6_filled_36 : decode cX6_filled 36 = .ok (.istore 6, 2) := by decide +kernel
theorem dX6_filled_38 : decode cX6_filled 38 = .ok (.iload 6, 2) := by decide +kernel
theorem dX6_filled_40 : decode cX6_filled 40 = .ok (.iload_n 3, 1) := by decide +kernel
theorem dX6_filled_41 : decode cX6_filled 41 = .ok (.if_icmp .ge 55, 3) := by decide +kernel
theorem dX6_filled_44 : decode cX6_filled 44 = .ok (.aload_n 0, 1) := by decide +kernel
theorem dX6_filled_45 : decode cX6_filled 45 = .ok (.iload 6, 2) := by decide +kernel
theorem dX6_filled_47 : decode cX6_filled 47 = .ok (.iload_n 2, 1) := by decide +kernel
theorem dX6_filled_48 : decode cX6_filled 48 = .ok (.invokevirtual 168, 3) := by decide +kernel
theorem dX6_filled_51 : decode cX6_filled 51 = .ok (.aload_n 0, 1) := by decide +kernel
theorem dX6_filled_52 : decode cX6_filled 52 = .ok (.invokevirtual 171, 3) := by decide +kernel
theorem dX6_filled_55 : decode cX6_filled 55 = .ok (.ifCond .ne 6, 3) := by decide +kernel
theorem dX6_filled_58 : decode cX6_filled 58 = .ok (.goto 32, 3) := by decide +kernel
theorem dX6_filled_61 : decode cX6_filled 61 = .ok (.iload 4, 2) := by decide +kernel
theorem dX6_filled_63 : decode cX6_filled 63 = .ok (.ifCond .ne 24, 3) := by decide +kernel
theorem dX6_filled_66 : decode cX6_filled 66 = .ok (.iload_n 1, 1) := by decide +kernel
theorem dX6_filled_67 : decode cX6_filled 67 = .ok (.iconst 0, 1) := by decide +kernel
theorem dX6_filled_68 : decode cX6_filled 68 = .ok (.iload_n 2, 1) := by decide +kernel
theorem dX6_filled_69 : decode cX6_filled 69 = .ok (.iconst 1, 1) := by decide +kernel
theorem dX6_filled_70 : decode cX6_filled 70 = .ok (.isub, 1) := by decide +kernel
theorem dX6_filled_71 : decode cX6_filled 71 = .ok (.invokestatic 47, 3) := by decide +kernel
theorem dX6_filled_74 : decode cX6_filled 74 = .ok (.ifCond .eq 13, 3) := by decide +kernel
theorem dX6_filled_77 : decode cX6_filled 77 = .ok (.aload_n 0, 1) := by decide +kernel
theorem dX6_filled_78 : decode cX6_filled 78 = .ok (.getfield 43, 3) := by decide +kernel
theorem dX6_filled_81 : decode cX6_filled 81 = .ok (.iload_n 1, 1) := by decide +kernel
theorem dX6_filled_82 : decode cX6_filled 82 = .ok (.invokestatic 175, 3) := by decide +kernel
theorem dX6_filled_85 : decode cX6_filled 85 = .ok (.istore 5, 2) := by decide +kernel
theorem dX6_filled_87 : decode cX6_filled 87 = .ok (.iinc 4 1, 3) := by decide +kernel
theorem dX6_filled_90 : decode cX6_filled 90 = .ok (.iinc 6 1, 3) := by decide +kernel
theorem dX6_filled_93 : decode cX6_filled 93 = .ok (.goto (-55), 3) := by decide +kernel
theorem dX6_filled_96 : decode cX6_filled 96 = .ok (.iload_n 1, 1) := by decide +kernel
theorem dX6_filled_97 : decode cX6_filled 97 = .ok (.iconst (-1), 1) := by decide +kernel
theorem dX6_filled_98 : decode cX6_filled 98 = .ok (.if_icmp .ne 8, 3) := by decide +kernel
theorem dX6_filled_101 : decode cX6_filled 101 = .ok (.iload 4, 2) := by decide +kernel
theorem dX6_filled_103 : decode cX6_filled 103 = .ok (.goto 5, 3) := by decide +kernel
theorem dX6_filled_106 : decode cX6_filled 106 = .ok (.iload 5, 2) := by decide +kernel
theorem dX6_filled_108 : decode cX6_filled 108 = .ok (.ireturn, 1) := by decide +kernel
theorem dX6_burns_0 : decode cX6_burns 0 = .ok (.iload_n 1, 1) := by decide +kernel
theorem dX6_burns_1 : decode cX6_burns 1 = .ok (.invokestatic 92, 3) := by decide +kernel
theorem dX6_burns_4 : decode cX6_burns 4 = .ok (.ifCond .ne 7, 3) := by decide +kernel
theorem dX6_burns_7 : decode cX6_burns 7 = .ok (.ldc2_w 179, 3) := by decide +kernel
theorem dX6_burns_10 : decode cX6_burns 10 = .ok (.lreturn, 1) := by decide +kernel
theorem dX6_burns_11 : decode cX6_burns 11 = .ok (.iload_n 2, 1) := by decide +kernel
theorem dX6_burns_12 : decode cX6_burns 12 = .ok (.iconst 0, 1) := by decide +kernel
theorem dX6_burns_13 : decode cX6_burns 13 = .ok (.iconst 1, 1) := by decide +kernel
theorem dX6_burns_14 : decode cX6_burns 14 = .ok (.invokestatic 47, 3) := by decide +kernel
theorem dX6_burns_17 : decode cX6_burns 17 = .ok (.ifCond .ne 7, 3) := by decide +kernel
theorem dX6_burns_20 : decode cX6_burns 20 = .ok (.ldc2_w 181, 3) := by decide +kernel
theorem dX6_burns_23 : decode cX6_burns 23 = .ok (.lreturn, 1) := by decide +kernel
theorem dX6_burns_24 : decode cX6_burns 24 = .ok (.aload_n 0, 1) := by decide +kernel
theorem dX6_burns_25 : decode cX6_burns 25 = .ok (.invokevirtual 86, 3) := by decide +kernel
theorem dX6_burns_28 : decode cX6_burns 28 = .ok (.istore_n 3, 1) := by decide +kernel
theorem dX6_burns_29 : decode cX6_burns 29 = .ok (.iload_n 3, 1) := by decide +kernel
theorem dX6_burns_30 : decode cX6_burns 30 = .ok (.ifCond .eq 10, 3) := by decide +kernel
theorem dX6_burns_33 : decode cX6_burns 33 = .ok (.ldc2_w 183, 3) := by decide +kernel
theorem dX6_burns_36 : decode cX6_burns 36 = .ok (.iload_n 3, 1) := by decide +kernel
theorem dX6_burns_37 : decode cX6_burns 37 = .ok (.i2l, 1) := by decide +kernel
theorem dX6_burns_38 : decode cX6_burns 38 = .ok (.ladd, 1) := by decide +kernel
theorem dX6_burns_39 : decode cX6_burns 39 = .ok (.lreturn, 1) := by decide +kernel
theorem dX6_burns_40 : decode cX6_burns 40 = .ok (.aload_n 0, 1) := by decide +kernel
theorem dX6_burns_41 : decode cX6_burns 41 = .ok (.getfield 32, 3) := by decide +kernel
theorem dX6_burns_44 : decode cX6_burns 44 = .ok (.invokevirtual 89, 3) := by decide +kernel
theorem dX6_burns_47 : decode cX6_burns 47 = .ok (.aload_n 0, 1) := by decide +kernel
theorem dX6_burns_48 : decode cX6_burns 48 = .ok (.getfield 10, 3) := by decide +kernel
theorem dX6_burns_51 : decode cX6_burns 51 = .ok (.getfield 51, 3) := by decide +kernel
theorem dX6_burns_54 : decode cX6_burns 54 = .ok (.invokevirtual 89, 3) := by decide +kernel
theorem dX6_burns_57 : decode cX6_burns 57 = .ok (.isub, 1) := by decide +kernel
theorem dX6_burns_58 : decode cX6_burns 58 = .ok (.istore 4, 2) := by decide +kernel
theorem dX6_burns_60 : decode cX6_burns 60 = .ok (.aload_n 0, 1) := by decide +kernel
theorem dX6_burns_61 : decode cX6_burns 61 = .ok (.getfield 32, 3) := by decide +kernel
theorem dX6_burns_64 : decode cX6_burns 64 = .ok (.aload_n 0, 1) := by decide +kernel
theorem dX6_burns_65 : decode cX6_burns 65 = .ok (.getfield 10, 3) := by decide +kernel
theorem dX6_burns_68 : decode cX6_burns 68 = .ok (.getfield 51, 3) := by decide +kernel
theorem dX6_burns_71 : decode cX6_burns 71 = .ok (.invokevirtual 78, 3) := by decide +kernel
theorem dX6_burns_74 : decode cX6_burns 74 = .ok (.aload_n 0, 1) := by decide +kernel
theorem dX6_burns_75 : decode cX6_burns 75 = .ok (.getfield 25, 3) := by decide +kernel
theorem dX6_burns_78 : decode cX6_burns 78 = .ok (.iload_n 1, 1) := by decide +kernel
theorem dX6_burns_79 : decode cX6_burns 79 = .ok (.aload_n 0, 1) := by decide +kernel
theorem dX6_burns_80 : decode cX6_burns 80 = .ok (.getfield 32, 3) := by decide +kernel
theorem dX6_burns_83 : decode cX6_burns 83 = .ok (.aload_n 0, 1) := by decide +kernel
theorem dX6_burns_84 : decode cX6_burns 84 = .ok (.getfield 43, 3) := by decide +kernel
theorem dX6_burns_87 : decode cX6_burns 87 = .ok (.invokevirtual 185, 3) := by decide +kernel
theorem dX6_burns_90 : decode cX6_burns 90 = .ok (.istore 5, 2) := by decide +kernel
theorem dX6_burns_92 : decode cX6_burns 92 = .ok (.iload 5, 2) := by decide +kernel
theorem dX6_burns_94 : decode cX6_burns 94 = .ok (.iload 4, 2) := by decide +kernel
theorem dX6_burns_96 : decode cX6_burns 96 = .ok (.invokestatic 189, 3) := by decide +kernel
theorem dX6_burns_99 : decode cX6_burns 99 = .ok (.istore 6, 2) := by decide +kernel
theorem dX6_burns_101 : decode cX6_burns 101 = .ok (.iload 6, 2) := by decide +kernel
theorem dX6_burns_103 : decode cX6_burns 103 = .ok (.ifCond .gt 7, 3) := by decide +kernel
theorem dX6_burns_106 : decode cX6_burns 106 = .ok (.ldc2_w 192, 3) := by decide +kernel
theorem dX6_burns_109 : decode cX6_burns 109 = .ok (.lreturn, 1) := by decide +kernel
theorem dX6_burns_110 : decode cX6_burns 110 = .ok (.iload_n 2, 1) := by decide +kernel
theorem dX6_burns_111 : decode cX6_burns 111 = .ok (.ifCond .ne 8, 3) := by decide +kernel
theorem dX6_burns_114 : decode cX6_burns 114 = .ok (.iload 5, 2) := by decide +kernel
theorem dX6_burns_116 : decode cX6_burns 116 = .ok (.goto 5, 3) := by decide +kernel
theorem dX6_burns_119 : decode cX6_burns 119 = .ok (.iload 4, 2) := by decide +kernel
theorem dX6_burns_121 : decode cX6_burns 121 = .ok (.iload 6, 2) := by decide +kernel
theorem dX6_burns_123 : decode cX6_burns 123 = .ok (.idiv, 1) := by decide +kernel
theorem dX6_burns_124 : decode cX6_burns 124 = .ok (.i2l, 1) := by decide +kernel
theorem dX6_burns_125 : decode cX6_burns 125 = .ok (.lreturn, 1) := by decide +kernel
theorem dX6_year_0 : decode cX6_year 0 = .ok (.iload_n 3, 1) := by decide +kernel
theorem dX6_year_1 : decode cX6_year 1 = .ok (.invokestatic 92, 3) := by decide +kernel
theorem dX6_year_4 : decode cX6_year 4 = .ok (.ifCond .ne 5, 3) := by decide +kernel
theorem dX6_year_7 : decode cX6_year 7 = .ok (.iconst (-1), 1) := by decide +kernel
theorem dX6_year_8 : decode cX6_year 8 = .ok (.ireturn, 1) := by decide +kernel
theorem dX6_year_9 : decode cX6_year 9 = .ok (.iload_n 1, 1) := by decide +kernel
theorem dX6_year_10 : decode cX6_year 10 = .ok (.iconst 0, 1) := by decide +kernel
theorem dX6_year_11 : decode cX6_year 11 = .ok (.sipush 9999, 3) := by decide +kernel
theorem dX6_year_14 : decode cX6_year 14 = .ok (.invokestatic 47, 3) := by decide +kernel
theorem dX6_year_17 : decode cX6_year 17 = .ok (.ifCond .eq 13, 3) := by decide +kernel
theorem dX6_year_20 : decode cX6_year 20 = .ok (.iload_n 2, 1) := by decide +kernel
theorem dX6_year_21 : decode cX6_year 21 = .ok (.iconst 1, 1) := by decide +kernel
theorem dX6_year_22 : decode cX6_year 22 = .ok (.bipush 99, 2) := by decide +kernel
theorem dX6_year_24 : decode cX6_year 24 = .ok (.invokestatic 47, 3) := by decide +kernel
theorem dX6_year_27 : decode cX6_year 27 = .ok (.ifCond .ne 6, 3) := by decide +kernel
theorem dX6_year_30 : decode cX6_year 30 = .ok (.bipush (-2), 2) := by decide +kernel
theorem dX6_year_32 : decode cX6_year 32 = .ok (.ireturn, 1) := by decide +kernel
theorem dX6_year_33 : decode cX6_year 33 = .ok (.aload_n 0, 1) := by decide +kernel
theorem dX6_year_34 : decode cX6_year 34 = .ok (.getfield 32, 3) := by decide +kernel
theorem dX6_year_37 : decode cX6_year 37 = .ok (.aload_n 0, 1) := by decide +kernel
theorem dX6_year_38 : decode cX6_year 38 = .ok (.getfield 10, 3) := by decide +kernel
theorem dX6_year_41 : decode cX6_year 41 = .ok (.getfield 51, 3) := by decide +kernel
theorem dX6_year_44 : decode cX6_year 44 = .ok (.invokevirtual 78, 3) := by decide +kernel
theorem dX6_year_47 : decode cX6_year 47 = .ok (.iload_n 1, 1) := by decide +kernel
theorem dX6_year_48 : decode cX6_year 48 = .ok (.istore 4, 2) := by decide +kernel
theorem dX6_year_50 : decode cX6_year 50 = .ok (.iconst 0, 1) := by decide +kernel
theorem dX6_year_51 : decode cX6_year 51 = .ok (.istore 5, 2) := by decide +kernel
theorem dX6_year_53 : decode cX6_year 53 = .ok (.iconst 0, 1) := by decide +kernel
theorem dX6_year_54 : decode cX6_year 54 = .ok (.istore 6, 2) := by decide +kernel
theorem dX6_year_56 : decode cX6_year 56 = .ok (.iload 6, 2) := by decide +kernel
theorem dX6_year_58 : decode cX6_year 58 = .ok (.iload_n 2, 1) := by decide +kernel
theorem dX6_year_59 : decode cX6_year 59 = .ok (.if_icmp .ge 80, 3) := by decide +kernel
theorem dX6_year_62 : decode cX6_year 62 = .ok (.bipush 75, 2) := by decide +kernel
theorem dX6_year_64 : decode cX6_year 64 = .ok (.iload 4, 2) := by decide +kernel
theorem dX6_year_66 : decode cX6_year 66 = .ok (.imul, 1) := by decide +kernel
theorem dX6_year_67 : decode cX6_year 67 = .ok (.bipush 74, 2) := by decide +kernel
theorem dX6_year_69 : decode cX6_year 69 = .ok (.iadd, 1) := by decide +kernel
theorem dX6_year_70 : decode cX6_year 70 = .ok (.ldc 194, 2) := by decide +kernel
theorem dX6_year_72 : decode cX6_year 72 = .ok (.irem, 1) := by decide +kernel
theorem dX6_year_73 : decode cX6_year 73 = .ok (.istore 4, 2) := by decide +kernel
theorem dX6_year_75 : decode cX6_year 75 = .ok (.iload 4, 2) := by decide +kernel
theorem dX6_year_77 : decode cX6_year 77 = .ok (.bipush 6, 2) := by decide +kernel
theorem dX6_year_79 : decode cX6_year 79 = .ok (.irem, 1) := by decide +kernel
theorem dX6_year_80 : decode cX6_year 80 = .ok (.istore 7, 2) := by decide +kernel
theorem dX6_year_82 : decode cX6_year 82 = .ok (.aload_n 0, 1) := by decide +kernel
theorem dX6_year_83 : decode cX6_year 83 = .ok (.getfield 32, 3) := by decide +kernel
theorem dX6_year_86 : decode cX6_year 86 = .ok (.iload 7, 2) := by decide +kernel
theorem dX6_year_88 : decode cX6_year 88 = .ok (.invokevirtual 101, 3) := by decide +kernel
theorem dX6_year_91 : decode cX6_year 91 = .ok (.ifCond .ne 14, 3) := by decide +kernel
theorem dX6_year_94 : decode cX6_year 94 = .ok (.aload_n 0, 1) := by decide +kernel
theorem dX6_year_95 : decode cX6_year 95 = .ok (.getfield 32, 3) := by decide +kernel
theorem dX6_year_98 : decode cX6_year 98 = .ok (.iconst 1, 1) := by decide +kernel
theorem dX6_year_99 : decode cX6_year 99 = .ok (.invokevirtual 143, 3) := by decide +kernel
theorem dX6_year_102 : decode cX6_year 102 = .ok (.goto 31, 3) := by decide +kernel
theorem dX6_year_105 : decode cX6_year 105 = .ok (.aload_n 0, 1) := by decide +kernel
theorem dX6_year_106 : decode cX6_year 106 = .ok (.getfield 32, 3) := by decide +kernel
theorem dX6_year_109 : decode cX6_year 109 = .ok (.iload 7, 2) := by decide +kernel
theorem dX6_year_111 : decode cX6_year 111 = .ok (.iconst 1, 1) := by decide +kernel
theorem dX6_year_112 : decode cX6_year 112 = .ok (.iload 4, 2) := by decide +kernel
theorem dX6_year_114 : decode cX6_year 114 = .ok (.bipush 6, 2) := by decide +kernel
theorem dX6_year_116 : decode cX6_year 116 = .ok (.idiv, 1) := by decide +kernel
theorem dX6_year_117 : decode cX6_year 117 = .ok (.bipush 9, 2) := by decide +kernel
theorem dX6_year_119 : decode cX6_year 119 = .ok (.irem, 1) := by decide +kernel
theorem dX6_year_120 : decode cX6_year 120 = .ok (.iadd, 1) := by decide +kernel
theorem dX6_year_121 : decode cX6_year 121 = .ok (.invokevirtual 104, 3) := by decide +kernel
theorem dX6_year_124 : decode cX6_year 124 = .ok (.iload 7, 2) := by decide +kernel
theorem dX6_year_126 : decode cX6_year 126 = .ok (.iload_n 3, 1) := by decide +kernel
theorem dX6_year_127 : decode cX6_year 127 = .ok (.if_icmp .ne 6, 3) := by decide +kernel
theorem dX6_year_130 : decode cX6_year 130 = .ok (.iinc 5 1, 3) := by decide +kernel
theorem dX6_year_133 : decode cX6_year 133 = .ok (.iinc 6 1, 3) := by decide +kernel
theorem dX6_year_136 : decode cX6_year 136 = .ok (.goto (-80), 3) := by decide +kernel
theorem dX6_year_139 : decode cX6_year 139 = .ok (.iload 5, 2) := by decide +kernel
theorem dX6_year_141 : decode cX6_year 141 = .ok (.ireturn, 1) := by decide +kernel
theorem dX6_image_0 : decode cX6_image 0 = .ok (.iload_n 1, 1) := by decide +kernel
theorem dX6_image_1 : decode cX6_image 1 = .ok (.iconst 0, 1) := by decide +kernel
theorem dX6_image_2 : decode cX6_image 2 = .ok (.iconst 1, 1) := by decide +kernel
theorem dX6_image_3 : decode cX6_image 3 = .ok (.invokestatic 47, 3) := by decide +kernel
theorem dX6_image_6 : decode cX6_image 6 = .ok (.ifCond .ne 6, 3) := by decide +kernel
theorem dX6_image_9 : decode cX6_image 9 = .ok (.bipush (-2), 2) := by decide +kernel
theorem dX6_image_11 : decode cX6_image 11 = .ok (.ireturn, 1) := by decide +kernel
theorem dX6_image_12 : decode cX6_image 12 = .ok (.aload_n 0, 1) := by decide +kernel
theorem dX6_image_13 : decode cX6_image 13 = .ok (.iload_n 1, 1) := by decide +kernel
theorem dX6_image_14 : decode cX6_image 14 = .ok (.invokevirtual 195, 3) := by decide +kernel
theorem dX6_image_17 : decode cX6_image 17 = .ok (.aload_n 0, 1) := by decide +kernel
theorem dX6_image_18 : decode cX6_image 18 = .ok (.getfield 10, 3) := by decide +kernel
theorem dX6_image_21 : decode cX6_image 21 = .ok (.invokevirtual 199, 3) := by decide +kernel
theorem dX6_image_24 : decode cX6_image 24 = .ok (.aload_n 0, 1) := by decide +kernel
theorem dX6_image_25 : decode cX6_image 25 = .ok (.iload_n 1, 1) := by decide +kernel
theorem dX6_image_26 : decode cX6_image 26 = .ok (.invokevirtual 195, 3) := by decide +kernel
theorem dX6_image_29 : decode cX6_image 29 = .ok (.iconst 1, 1) := by decide +kernel
theorem dX6_image_30 : decode cX6_image 30 = .ok (.putfield 202, 3) := by decide +kernel
theorem dX6_image_33 : decode cX6_image 33 = .ok (.iconst 1, 1) := by decide +kernel
theorem dX6_image_34 : decode cX6_image 34 = .ok (.ireturn, 1) := by decide +kernel
theorem dX6_restore_0 : decode cX6_restore 0 = .ok (.iload_n 1, 1) := by decide +kernel
theorem dX6_restore_1 : decode cX6_restore 1 = .ok (.iconst 0, 1) := by decide +kernel
theorem dX6_restore_2 : decode cX6_restore 2 = .ok (.iconst 1, 1) := by decide +kernel
theorem dX6_restore_3 : decode cX6_restore 3 = .ok (.invokestatic 47, 3) := by decide +kernel
theorem dX6_restore_6 : decode cX6_restore 6 = .ok (.ifCond .ne 6, 3) := by decide +kernel
theorem dX6_restore_9 : decode cX6_restore 9 = .ok (.bipush (-2), 2) := by decide +kernel
theorem dX6_restore_11 : decode cX6_restore 11 = .ok (.ireturn, 1) := by decide +kernel
theorem dX6_restore_12 : decode cX6_restore 12 = .ok (.aload_n 0, 1) := by decide +kernel
theorem dX6_restore_13 : decode cX6_restore 13 = .ok (.iload_n 1, 1) := by decide +kernel
theorem dX6_restore_14 : decode cX6_restore 14 = .ok (.invokevirtual 195, 3) := by decide +kernel
theorem dX6_restore_17 : decode cX6_restore 17 = .ok (.getfield 202, 3) := by decide +kernel
theorem dX6_restore_20 : decode cX6_restore 20 = .ok (.ifCond .ne 6, 3) := by decide +kernel
theorem dX6_restore_23 : decode cX6_restore 23 = .ok (.bipush (-3), 2) := by decide +kernel
theorem dX6_restore_25 : decode cX6_restore 25 = .ok (.ireturn, 1) := by decide +kernel
theorem dX6_restore_26 : decode cX6_restore 26 = .ok (.aload_n 0, 1) := by decide +kernel
theorem dX6_restore_27 : decode cX6_restore 27 = .ok (.getfield 10, 3) := by decide +kernel
theorem dX6_restore_30 : decode cX6_restore 30 = .ok (.aload_n 0, 1) := by decide +kernel
theorem dX6_restore_31 : decode cX6_restore 31 = .ok (.iload_n 1, 1) := by decide +kernel
theorem dX6_restore_32 : decode cX6_restore 32 = .ok (.invokevirtual 195, 3) := by decide +kernel
theorem dX6_restore_35 : decode cX6_restore 35 = .ok (.invokevirtual 199, 3) := by decide +kernel
theorem dX6_restore_38 : decode cX6_restore 38 = .ok (.iconst 1, 1) := by decide +kernel
theorem dX6_restore_39 : decode cX6_restore 39 = .ok (.ireturn, 1) := by decide +kernel
theorem dX6_told_0 : decode cX6_told 0 = .ok (.iload_n 1, 1) := by decide +kernel
theorem dX6_told_1 : decode cX6_told 1 = .ok (.tableswitch 102 0 5 #[39, 47, 58, 69, 80, 91], 39) := by decide +kernel
theorem dX6_told_40 : decode cX6_told 40 = .ok (.aload_n 0, 1) := by decide +kernel
theorem dX6_told_41 : decode cX6_told 41 = .ok (.getfield 25, 3) := by decide +kernel
theorem dX6_told_44 : decode cX6_told 44 = .ok (.invokevirtual 65, 3) := by decide +kernel
theorem dX6_told_47 : decode cX6_told 47 = .ok (.ireturn, 1) := by decide +kernel
theorem dX6_told_48 : decode cX6_told 48 = .ok (.aload_n 0, 1) := by decide +kernel
theorem dX6_told_49 : decode cX6_told 49 = .ok (.getfield 10, 3) := by decide +kernel
theorem dX6_told_52 : decode cX6_told 52 = .ok (.getfield 51, 3) := by decide +kernel
theorem dX6_told_55 : decode cX6_told 55 = .ok (.invokevirtual 89, 3) := by decide +kernel
theorem dX6_told_58 : decode cX6_told 58 = .ok (.ireturn, 1) := by decide +kernel
theorem dX6_told_59 : decode cX6_told 59 = .ok (.aload_n 0, 1) := by decide +kernel
theorem dX6_told_60 : decode cX6_told 60 = .ok (.getfield 10, 3) := by decide +kernel
theorem dX6_told_63 : decode cX6_told 63 = .ok (.getfield 51, 3) := by decide +kernel
theorem dX6_told_66 : decode cX6_told 66 = .ok (.invokevirtual 206, 3) := by decide +kernel
theorem dX6_told_69 : decode cX6_told 69 = .ok (.ireturn, 1) := by decide +kernel
theorem dX6_told_70 : decode cX6_told 70 = .ok (.aload_n 0, 1) := by decide +kernel
theorem dX6_told_71 : decode cX6_told 71 = .ok (.getfield 10, 3) := by decide +kernel
theorem dX6_told_74 : decode cX6_told 74 = .ok (.getfield 51, 3) := by decide +kernel
theorem dX6_told_77 : decode cX6_told 77 = .ok (.invokevirtual 209, 3) := by decide +kernel
theorem dX6_told_80 : decode cX6_told 80 = .ok (.ireturn, 1) := by decide +kernel
theorem dX6_told_81 : decode cX6_told 81 = .ok (.aload_n 0, 1) := by decide +kernel
theorem dX6_told_82 : decode cX6_told 82 = .ok (.getfield 10, 3) := by decide +kernel
theorem dX6_told_85 : decode cX6_told 85 = .ok (.getfield 115, 3) := by decide +kernel
theorem dX6_told_88 : decode cX6_told 88 = .ok (.invokevirtual 119, 3) := by decide +kernel
theorem dX6_told_91 : decode cX6_told 91 = .ok (.ireturn, 1) := by decide +kernel
theorem dX6_told_92 : decode cX6_told 92 = .ok (.aload_n 0, 1) := by decide +kernel
theorem dX6_told_93 : decode cX6_told 93 = .ok (.getfield 10, 3) := by decide +kernel
theorem dX6_told_96 : decode cX6_told 96 = .ok (.getfield 151, 3) := by decide +kernel
theorem dX6_told_99 : decode cX6_told 99 = .ok (.invokevirtual 160, 3) := by decide +kernel
theorem dX6_told_102 : decode cX6_told 102 = .ok (.ireturn, 1) := by decide +kernel
theorem dX6_told_103 : decode cX6_told 103 = .ok (.iload_n 1, 1) := by decide +kernel
theorem dX6_told_104 : decode cX6_told 104 = .ok (.bipush 10, 2) := by decide +kernel
theorem dX6_told_106 : decode cX6_told 106 = .ok (.bipush 15, 2) := by decide +kernel
theorem dX6_told_108 : decode cX6_told 108 = .ok (.invokestatic 47, 3) := by decide +kernel
theorem dX6_told_111 : decode cX6_told 111 = .ok (.ifCond .eq 24, 3) := by decide +kernel
theorem dX6_told_114 : decode cX6_told 114 = .ok (.aload_n 0, 1) := by decide +kernel
theorem dX6_told_115 : decode cX6_told 115 = .ok (.getfield 10, 3) := by decide +kernel
theorem dX6_told_118 : decode cX6_told 118 = .ok (.getfield 51, 3) := by decide +kernel
theorem dX6_told_121 : decode cX6_told 121 = .ok (.iload_n 1, 1) := by decide +kernel
theorem dX6_told_122 : decode cX6_told 122 = .ok (.bipush 10, 2) := by decide +kernel
theorem dX6_told_124 : decode cX6_told 124 = .ok (.isub, 1) := by decide +kernel
theorem dX6_told_125 : decode cX6_told 125 = .ok (.invokevirtual 95, 3) := by decide +kernel
theorem dX6_told_128 : decode cX6_told 128 = .ok (.sipush 1000, 3) := by decide +kernel
theorem dX6_told_131 : decode cX6_told 131 = .ok (.iadd, 1) := by decide +kernel
theorem dX6_told_132 : decode cX6_told 132 = .ok (.goto 5, 3) := by decide +kernel
theorem dX6_told_135 : decode cX6_told 135 = .ok (.bipush (-2), 2) := by decide +kernel
theorem dX6_told_137 : decode cX6_told 137 = .ok (.ireturn, 1) := by decide +kernel
theorem dX6_refuseText_0 : decode cX6_refuseText 0 = .ok (.aload_n 0, 1) := by decide +kernel
theorem dX6_refuseText_1 : decode cX6_refuseText 1 = .ok (.getfield 25, 3) := by decide +kernel
theorem dX6_refuseText_4 : decode cX6_refuseText 4 = .ok (.invokevirtual 72, 3) := by decide +kernel
theorem dX6_refuseText_7 : decode cX6_refuseText 7 = .ok (.bipush (-6), 2) := by decide +kernel
theorem dX6_refuseText_9 : decode cX6_refuseText 9 = .ok (.if_icmp .eq 6, 3) := by decide +kernel
theorem dX6_refuseText_12 : decode cX6_refuseText 12 = .ok (.bipush (-5), 2) := by decide +kernel
theorem dX6_refuseText_14 : decode cX6_refuseText 14 = .ok (.ireturn, 1) := by decide +kernel
theorem dX6_refuseText_15 : decode cX6_refuseText 15 = .ok (.aload_n 0, 1) := by decide +kernel
theorem dX6_refuseText_16 : decode cX6_refuseText 16 = .ok (.getfield 25, 3) := by decide +kernel
theorem dX6_refuseText_19 : decode cX6_refuseText 19 = .ok (.invokevirtual 162, 3) := by decide +kernel
theorem dX6_refuseText_22 : decode cX6_refuseText 22 = .ok (.ifCond .le 8, 3) := by decide +kernel
theorem dX6_refuseText_25 : decode cX6_refuseText 25 = .ok (.bipush (-3), 2) := by decide +kernel
theorem dX6_refuseText_27 : decode cX6_refuseText 27 = .ok (.goto 4, 3) := by decide +kernel
theorem dX6_refuseText_30 : decode cX6_refuseText 30 = .ok (.iconst 0, 1) := by decide +kernel
theorem dX6_refuseText_31 : decode cX6_refuseText 31 = .ok (.ireturn, 1) := by decide +kernel
theorem dX6_tryText_0 : decode cX6_tryText 0 = .ok (.aload_n 0, 1) := by decide +kernel
theorem dX6_tryText_1 : decode cX6_tryText 1 = .ok (.invokevirtual 75, 3) := by decide +kernel
theorem dX6_tryText_4 : decode cX6_tryText 4 = .ok (.istore_n 1, 1) := by decide +kernel
theorem dX6_tryText_5 : decode cX6_tryText 5 = .ok (.iload_n 1, 1) := by decide +kernel
theorem dX6_tryText_6 : decode cX6_tryText 6 = .ok (.ifCond .eq 5, 3) := by decide +kernel
theorem dX6_tryText_9 : decode cX6_tryText 9 = .ok (.iload_n 1, 1) := by decide +kernel
theorem dX6_tryText_10 : decode cX6_tryText 10 = .ok (.ireturn, 1) := by decide +kernel
theorem dX6_tryText_11 : decode cX6_tryText 11 = .ok (.aload_n 0, 1) := by decide +kernel
theorem dX6_tryText_12 : decode cX6_tryText 12 = .ok (.getfield 32, 3) := by decide +kernel
theorem dX6_tryText_15 : decode cX6_tryText 15 = .ok (.aload_n 0, 1) := by decide +kernel
theorem dX6_tryText_16 : decode cX6_tryText 16 = .ok (.getfield 10, 3) := by decide +kernel
theorem dX6_tryText_19 : decode cX6_tryText 19 = .ok (.getfield 51, 3) := by decide +kernel
theorem dX6_tryText_22 : decode cX6_tryText 22 = .ok (.invokevirtual 78, 3) := by decide +kernel
theorem dX6_tryText_25 : decode cX6_tryText 25 = .ok (.aload_n 0, 1) := by decide +kernel
theorem dX6_tryText_26 : decode cX6_tryText 26 = .ok (.getfield 25, 3) := by decide +kernel
theorem dX6_tryText_29 : decode cX6_tryText 29 = .ok (.aload_n 0, 1) := by decide +kernel
theorem dX6_tryText_30 : decode cX6_tryText 30 = .ok (.getfield 32, 3) := by decide +kernel
theorem dX6_tryText_33 : decode cX6_tryText 33 = .ok (.aload_n 0, 1) := by decide +kernel
theorem dX6_tryText_34 : decode cX6_tryText 34 = .ok (.getfield 43, 3) := by decide +kernel
theorem dX6_tryText_37 : decode cX6_tryText 37 = .ok (.invokevirtual 82, 3) := by decide +kernel
theorem dX6_tryText_40 : decode cX6_tryText 40 = .ok (.bipush (-6), 2) := by decide +kernel
theorem dX6_tryText_42 : decode cX6_tryText 42 = .ok (.if_icmp .ne 7, 3) := by decide +kernel
theorem dX6_tryText_45 : decode cX6_tryText 45 = .ok (.iconst 0, 1) := by decide +kernel
theorem dX6_tryText_46 : decode cX6_tryText 46 = .ok (.goto 5, 3) := by decide +kernel
theorem dX6_tryText_49 : decode cX6_tryText 49 = .ok (.bipush (-5), 2) := by decide +kernel
theorem dX6_tryText_51 : decode cX6_tryText 51 = .ok (.ireturn, 1) := by decide +kernel
theorem dX6_isFilledRightly_0 : decode cX6_isFilledRightly 0 = .ok (.aload_n 0, 1) := by decide +kernel
theorem dX6_isFilledRightly_1 : decode cX6_isFilledRightly 1 = .ok (.getfield 32, 3) := by decide +kernel
theorem dX6_isFilledRightly_4 : decode cX6_isFilledRightly 4 = .ok (.aload_n 0, 1) := by decide +kernel
theorem dX6_isFilledRightly_5 : decode cX6_isFilledRightly 5 = .ok (.getfield 10, 3) := by decide +kernel
theorem dX6_isFilledRightly_8 : decode cX6_isFilledRightly 8 = .ok (.getfield 51, 3) := by decide +kernel
theorem dX6_isFilledRightly_11 : decode cX6_isFilledRightly 11 = .ok (.invokevirtual 78, 3) := by decide +kernel
theorem dX6_isFilledRightly_14 : decode cX6_isFilledRightly 14 = .ok (.aload_n 0, 1) := by decide +kernel
theorem dX6_isFilledRightly_15 : decode cX6_isFilledRightly 15 = .ok (.getfield 25, 3) := by decide +kernel
theorem dX6_isFilledRightly_18 : decode cX6_isFilledRightly 18 = .ok (.aload_n 0, 1) := by decide +kernel
theorem dX6_isFilledRightly_19 : decode cX6_isFilledRightly 19 = .ok (.getfield 32, 3) := by decide +kernel
theorem dX6_isFilledRightly_22 : decode cX6_isFilledRightly 22 = .ok (.aload_n 0, 1) := by decide +kernel
theorem dX6_isFilledRightly_23 : decode cX6_isFilledRightly 23 = .ok (.getfield 43, 3) := by decide +kernel
theorem dX6_isFilledRightly_26 : decode cX6_isFilledRightly 26 = .ok (.invokevirtual 82, 3) := by decide +kernel
theorem dX6_isFilledRightly_29 : decode cX6_isFilledRightly 29 = .ok (.bipush (-6), 2) := by decide +kernel
theorem dX6_isFilledRightly_31 : decode cX6_isFilledRightly 31 = .ok (.if_icmp .ne 24, 3) := by decide +kernel
theorem dX6_isFilledRightly_34 : decode cX6_isFilledRightly 34 = .ok (.aload_n 0, 1) := by decide +kernel
theorem dX6_isFilledRightly_35 : decode cX6_isFilledRightly 35 = .ok (.getfield 10, 3) := by decide +kernel
theorem dX6_isFilledRightly_38 : decode cX6_isFilledRightly 38 = .ok (.getfield 151, 3) := by decide +kernel
theorem dX6_isFilledRightly_41 : decode cX6_isFilledRightly 41 = .ok (.aload_n 0, 1) := by decide +kernel
theorem dX6_isFilledRightly_42 : decode cX6_isFilledRightly 42 = .ok (.getfield 32, 3) := by decide +kernel
theorem dX6_isFilledRightly_45 : decode cX6_isFilledRightly 45 = .ok (.invokevirtual 212, 3) := by decide +kernel
theorem dX6_isFilledRightly_48 : decode cX6_isFilledRightly 48 = .ok (.ifCond .eq 7, 3) := by decide +kernel
theorem dX6_isFilledRightly_51 : decode cX6_isFilledRightly 51 = .ok (.iconst 1, 1) := by decide +kernel
theorem dX6_isFilledRightly_52 : decode cX6_isFilledRightly 52 = .ok (.goto 4, 3) := by decide +kernel
theorem dX6_isFilledRightly_55 : decode cX6_isFilledRightly 55 = .ok (.iconst 0, 1) := by decide +kernel
theorem dX6_isFilledRightly_56 : decode cX6_isFilledRightly 56 = .ok (.ireturn, 1) := by decide +kernel
theorem dX6_writePeople_0 : decode cX6_writePeople 0 = .ok (.iload_n 1, 1) := by decide +kernel
theorem dX6_writePeople_1 : decode cX6_writePeople 1 = .ok (.istore_n 3, 1) := by decide +kernel
theorem dX6_writePeople_2 : decode cX6_writePeople 2 = .ok (.iload_n 2, 1) := by decide +kernel
theorem dX6_writePeople_3 : decode cX6_writePeople 3 = .ok (.iconst 1, 1) := by decide +kernel
theorem dX6_writePeople_4 : decode cX6_writePeople 4 = .ok (.isub, 1) := by decide +kernel
theorem dX6_writePeople_5 : decode cX6_writePeople 5 = .ok (.istore 4, 2) := by decide +kernel
theorem dX6_writePeople_7 : decode cX6_writePeople 7 = .ok (.iload 4, 2) := by decide +kernel
theorem dX6_writePeople_9 : decode cX6_writePeople 9 = .ok (.ifCond .lt 27, 3) := by decide +kernel
theorem dX6_writePeople_12 : decode cX6_writePeople 12 = .ok (.aload_n 0, 1) := by decide +kernel
theorem dX6_writePeople_13 : decode cX6_writePeople 13 = .ok (.getfield 43, 3) := by decide +kernel
theorem dX6_writePeople_16 : decode cX6_writePeople 16 = .ok (.iload 4, 2) := by decide +kernel
theorem dX6_writePeople_18 : decode cX6_writePeople 18 = .ok (.iload_n 3, 1) := by decide +kernel
theorem dX6_writePeople_19 : decode cX6_writePeople 19 = .ok (.bipush 6, 2) := by decide +kernel
theorem dX6_writePeople_21 : decode cX6_writePeople 21 = .ok (.irem, 1) := by decide +kernel
theorem dX6_writePeople_22 : decode cX6_writePeople 22 = .ok (.invokestatic 216, 3) := by decide +kernel
theorem dX6_writePeople_25 : decode cX6_writePeople 25 = .ok (.iload_n 3, 1) := by decide +kernel
theorem dX6_writePeople_26 : decode cX6_writePeople 26 = .ok (.bipush 6, 2) := by decide +kernel
theorem dX6_writePeople_28 : decode cX6_writePeople 28 = .ok (.idiv, 1) := by decide +kernel
theorem dX6_writePeople_29 : decode cX6_writePeople 29 = .ok (.istore_n 3, 1) := by decide +kernel
theorem dX6_writePeople_30 : decode cX6_writePeople 30 = .ok (.iinc 4 (-1), 3) := by decide +kernel
theorem dX6_writePeople_33 : decode cX6_writePeople 33 = .ok (.goto (-26), 3) := by decide +kernel
theorem dX6_writePeople_36 : decode cX6_writePeople 36 = .ok (.return_, 1) := by decide +kernel
theorem dX6_waysToWrite_0 : decode cX6_waysToWrite 0 = .ok (.iconst 1, 1) := by decide +kernel
theorem dX6_waysToWrite_1 : decode cX6_waysToWrite 1 = .ok (.istore_n 1, 1) := by decide +kernel
theorem dX6_waysToWrite_2 : decode cX6_waysToWrite 2 = .ok (.iconst 0, 1) := by decide +kernel
theorem dX6_waysToWrite_3 : decode cX6_waysToWrite 3 = .ok (.istore_n 2, 1) := by decide +kernel
theorem dX6_waysToWrite_4 : decode cX6_waysToWrite 4 = .ok (.iload_n 2, 1) := by decide +kernel
theorem dX6_waysToWrite_5 : decode cX6_waysToWrite 5 = .ok (.iload_n 0, 1) := by decide +kernel
theorem dX6_waysToWrite_6 : decode cX6_waysToWrite 6 = .ok (.if_icmp .ge 14, 3) := by decide +kernel
theorem dX6_waysToWrite_9 : decode cX6_waysToWrite 9 = .ok (.iload_n 1, 1) := by decide +kernel
theorem dX6_waysToWrite_10 : decode cX6_waysToWrite 10 = .ok (.bipush 6, 2) := by decide +kernel
theorem dX6_waysToWrite_12 : decode cX6_waysToWrite 12 = .ok (.imul, 1) := by decide +kernel
theorem dX6_waysToWrite_13 : decode cX6_waysToWrite 13 = .ok (.istore_n 1, 1) := by decide +kernel
theorem dX6_waysToWrite_14 : decode cX6_waysToWrite 14 = .ok (.iinc 2 1, 3) := by decide +kernel
theorem dX6_waysToWrite_17 : decode cX6_waysToWrite 17 = .ok (.goto (-13), 3) := by decide +kernel
theorem dX6_waysToWrite_20 : decode cX6_waysToWrite 20 = .ok (.iload_n 1, 1) := by decide +kernel
theorem dX6_waysToWrite_21 : decode cX6_waysToWrite 21 = .ok (.ireturn, 1) := by decide +kernel
theorem dX6_spokenAlone_0 : decode cX6_spokenAlone 0 = .ok (.iload_n 0, 1) := by decide +kernel
theorem dX6_spokenAlone_1 : decode cX6_spokenAlone 1 = .ok (.istore_n 3, 1) := by decide +kernel
theorem dX6_spokenAlone_2 : decode cX6_spokenAlone 2 = .ok (.iconst 0, 1) := by decide +kernel
theorem dX6_spokenAlone_3 : decode cX6_spokenAlone 3 = .ok (.istore 4, 2) := by decide +kernel
theorem dX6_spokenAlone_5 : decode cX6_spokenAlone 5 = .ok (.iconst 0, 1) := by decide +kernel
theorem dX6_spokenAlone_6 : decode cX6_spokenAlone 6 = .ok (.istore 5, 2) := by decide +kernel
theorem dX6_spokenAlone_8 : decode cX6_spokenAlone 8 = .ok (.iconst 0, 1) := by decide +kernel
theorem dX6_spokenAlone_9 : decode cX6_spokenAlone 9 = .ok (.istore 6, 2) := by decide +kernel
theorem dX6_spokenAlone_11 : decode cX6_spokenAlone 11 = .ok (.iload 6, 2) := by decide +kernel
theorem dX6_spokenAlone_13 : decode cX6_spokenAlone 13 = .ok (.iload_n 2, 1) := by decide +kernel
theorem dX6_spokenAlone_14 : decode cX6_spokenAlone 14 = .ok (.if_icmp .ge 52, 3) := by decide +kernel
theorem dX6_spokenAlone_17 : decode cX6_spokenAlone 17 = .ok (.iload_n 3, 1) := by decide +kernel
theorem dX6_spokenAlone_18 : decode cX6_spokenAlone 18 = .ok (.iconst 0, 1) := by decide +kernel
theorem dX6_spokenAlone_19 : decode cX6_spokenAlone 19 = .ok (.invokestatic 220, 3) := by decide +kernel
theorem dX6_spokenAlone_22 : decode cX6_spokenAlone 22 = .ok (.istore 7, 2) := by decide +kernel
theorem dX6_spokenAlone_24 : decode cX6_spokenAlone 24 = .ok (.iload 4, 2) := by decide +kernel
theorem dX6_spokenAlone_26 : decode cX6_spokenAlone 26 = .ok (.iload 7, 2) := by decide +kernel
theorem dX6_spokenAlone_28 : decode cX6_spokenAlone 28 = .ok (.iadd, 1) := by decide +kernel
theorem dX6_spokenAlone_29 : decode cX6_spokenAlone 29 = .ok (.iload_n 1, 1) := by decide +kernel
theorem dX6_spokenAlone_30 : decode cX6_spokenAlone 30 = .ok (.iadd, 1) := by decide +kernel
theorem dX6_spokenAlone_31 : decode cX6_spokenAlone 31 = .ok (.iload_n 2, 1) := by decide +kernel
theorem dX6_spokenAlone_32 : decode cX6_spokenAlone 32 = .ok (.if_icmp .le 6, 3) := by decide +kernel
theorem dX6_spokenAlone_35 : decode cX6_spokenAlone 35 = .ok (.goto 31, 3) := by decide +kernel
theorem dX6_spokenAlone_38 : decode cX6_spokenAlone 38 = .ok (.iload 4, 2) := by decide +kernel
theorem dX6_spokenAlone_40 : decode cX6_spokenAlone 40 = .ok (.iload 7, 2) := by decide +kernel
theorem dX6_spokenAlone_42 : decode cX6_spokenAlone 42 = .ok (.iload_n 1, 1) := by decide +kernel
theorem dX6_spokenAlone_43 : decode cX6_spokenAlone 43 = .ok (.iadd, 1) := by decide +kernel
theorem dX6_spokenAlone_44 : decode cX6_spokenAlone 44 = .ok (.iadd, 1) := by decide +kernel
theorem dX6_spokenAlone_45 : decode cX6_spokenAlone 45 = .ok (.istore 4, 2) := by decide +kernel
theorem dX6_spokenAlone_47 : decode cX6_spokenAlone 47 = .ok (.iload_n 3, 1) := by decide +kernel
theorem dX6_spokenAlone_48 : decode cX6_spokenAlone 48 = .ok (.iload_n 1, 1) := by decide +kernel
theorem dX6_spokenAlone_49 : decode cX6_spokenAlone 49 = .ok (.iload 7, 2) := by decide +kernel
theorem dX6_spokenAlone_51 : decode cX6_spokenAlone 51 = .ok (.isub, 1) := by decide +kernel
theorem dX6_spokenAlone_52 : decode cX6_spokenAlone 52 = .ok (.iadd, 1) := by decide +kernel
theorem dX6_spokenAlone_53 : decode cX6_spokenAlone 53 = .ok (.istore_n 3, 1) := by decide +kernel
theorem dX6_spokenAlone_54 : decode cX6_spokenAlone 54 = .ok (.iload 5, 2) := by decide +kernel
theorem dX6_spokenAlone_56 : decode cX6_spokenAlone 56 = .ok (.iload_n 1, 1) := by decide +kernel
theorem dX6_spokenAlone_57 : decode cX6_spokenAlone 57 = .ok (.iadd, 1) := by decide +kernel
theorem dX6_spokenAlone_58 : decode cX6_spokenAlone 58 = .ok (.istore 5, 2) := by decide +kernel
theorem dX6_spokenAlone_60 : decode cX6_spokenAlone 60 = .ok (.iinc 6 1, 3) := by decide +kernel
theorem dX6_spokenAlone_63 : decode cX6_spokenAlone 63 = .ok (.goto (-52), 3) := by decide +kernel
theorem dX6_spokenAlone_66 : decode cX6_spokenAlone 66 = .ok (.iload 5, 2) := by decide +kernel
theorem dX6_spokenAlone_68 : decode cX6_spokenAlone 68 = .ok (.ireturn, 1) := by decide +kernel
theorem dX6_imageOf_0 : decode cX6_imageOf 0 = .ok (.iload_n 1, 1) := by decide +kernel
theorem dX6_imageOf_1 : decode cX6_imageOf 1 = .ok (.ifCond .ne 10, 3) := by decide +kernel
theorem dX6_imageOf_4 : decode cX6_imageOf 4 = .ok (.aload_n 0, 1) := by decide +kernel
theorem dX6_imageOf_5 : decode cX6_imageOf 5 = .ok (.getfield 16, 3) := by decide +kernel
theorem dX6_imageOf_8 : decode cX6_imageOf 8 = .ok (.goto 7, 3) := by decide +kernel
theorem dX6_imageOf_11 : decode cX6_imageOf 11 = .ok (.aload_n 0, 1) := by decide +kernel
theorem dX6_imageOf_12 : decode cX6_imageOf 12 = .ok (.getfield 19, 3) := by decide +kernel
theorem dX6_imageOf_15 : decode cX6_imageOf 15 = .ok (.areturn, 1) := by decide +kernel
theorem dX6_commonDivisor_0 : decode cX6_commonDivisor 0 = .ok (.iload_n 0, 1) := by decide +kernel
theorem dX6_commonDivisor_1 : decode cX6_commonDivisor 1 = .ok (.istore_n 2, 1) := by decide +kernel
theorem dX6_commonDivisor_2 : decode cX6_commonDivisor 2 = .ok (.iload_n 1, 1) := by decide +kernel
theorem dX6_commonDivisor_3 : decode cX6_commonDivisor 3 = .ok (.istore_n 3, 1) := by decide +kernel
theorem dX6_commonDivisor_4 : decode cX6_commonDivisor 4 = .ok (.iconst 0, 1) := by decide +kernel
theorem dX6_commonDivisor_5 : decode cX6_commonDivisor 5 = .ok (.istore 4, 2) := by decide +kernel
theorem dX6_commonDivisor_7 : decode cX6_commonDivisor 7 = .ok (.iload 4, 2) := by decide +kernel
theorem dX6_commonDivisor_9 : decode cX6_commonDivisor 9 = .ok (.ldc 223, 2) := by decide +kernel
theorem dX6_commonDivisor_11 : decode cX6_commonDivisor 11 = .ok (.if_icmp .ge 23, 3) := by decide +kernel
theorem dX6_commonDivisor_14 : decode cX6_commonDivisor 14 = .ok (.iload_n 3, 1) := by decide +kernel
theorem dX6_commonDivisor_15 : decode cX6_commonDivisor 15 = .ok (.ifCond .le 19, 3) := by decide +kernel
theorem dX6_commonDivisor_18 : decode cX6_commonDivisor 18 = .ok (.iload_n 2, 1) := by decide +kernel
theorem dX6_commonDivisor_19 : decode cX6_commonDivisor 19 = .ok (.iload_n 3, 1) := by decide +kernel
theorem dX6_commonDivisor_20 : decode cX6_commonDivisor 20 = .ok (.irem, 1) := by decide +kernel
theorem dX6_commonDivisor_21 : decode cX6_commonDivisor 21 = .ok (.istore 5, 2) := by decide +kernel
theorem dX6_commonDivisor_23 : decode cX6_commonDivisor 23 = .ok (.iload_n 3, 1) := by decide +kernel
theorem dX6_commonDivisor_24 : decode cX6_commonDivisor 24 = .ok (.istore_n 2, 1) := by decide +kernel
theorem dX6_commonDivisor_25 : decode cX6_commonDivisor 25 = .ok (.iload 5, 2) := by decide +kernel
theorem dX6_commonDivisor_27 : decode cX6_commonDivisor 27 = .ok (.istore_n 3, 1) := by decide +kernel
theorem dX6_commonDivisor_28 : decode cX6_commonDivisor 28 = .ok (.iinc 4 1, 3) := by decide +kernel
theorem dX6_commonDivisor_31 : decode cX6_commonDivisor 31 = .ok (.goto (-24), 3) := by decide +kernel
theorem dX6_commonDivisor_34 : decode cX6_commonDivisor 34 = .ok (.iload_n 2, 1) := by decide +kernel
theorem dX6_commonDivisor_35 : decode cX6_commonDivisor 35 = .ok (.ireturn, 1) := by decide +kernel
theorem dX6_isPerson_0 : decode cX6_isPerson 0 = .ok (.iload_n 0, 1) := by decide +kernel
theorem dX6_isPerson_1 : decode cX6_isPerson 1 = .ok (.iconst 0, 1) := by decide +kernel
theorem dX6_isPerson_2 : decode cX6_isPerson 2 = .ok (.iconst 5, 1) := by decide +kernel
theorem dX6_isPerson_3 : decode cX6_isPerson 3 = .ok (.invokestatic 47, 3) := by decide +kernel
theorem dX6_isPerson_6 : decode cX6_isPerson 6 = .ok (.ireturn, 1) := by decide +kernel
theorem dX6_isWithin_0 : decode cX6_isWithin 0 = .ok (.iload_n 0, 1) := by decide +kernel
theorem dX6_isWithin_1 : decode cX6_isWithin 1 = .ok (.iload_n 1, 1) := by decide +kernel
theorem dX6_isWithin_2 : decode cX6_isWithin 2 = .ok (.if_icmp .lt 12, 3) := by decide +kernel
theorem dX6_isWithin_5 : decode cX6_isWithin 5 = .ok (.iload_n 0, 1) := by decide +kernel
theorem dX6_isWithin_6 : decode cX6_isWithin 6 = .ok (.iload_n 2, 1) := by decide +kernel
theorem dX6_isWithin_7 : decode cX6_isWithin 7 = .ok (.if_icmp .gt 7, 3) := by decide +kernel
theorem dX6_isWithin_10 : decode cX6_isWithin 10 = .ok (.iconst 1, 1) := by decide +kernel
theorem dX6_isWithin_11 : decode cX6_isWithin 11 = .ok (.goto 4, 3) := by decide +kernel
theorem dX6_isWithin_14 : decode cX6_isWithin 14 = .ok (.iconst 0, 1) := by decide +kernel
theorem dX6_isWithin_15 : decode cX6_isWithin 15 = .ok (.ireturn, 1) := by decide +kernel
theorem dX6_at_0 : decode cX6_at 0 = .ok (.iload_n 1, 1) := by decide +kernel
theorem dX6_at_1 : decode cX6_at 1 = .ok (.ifCond .lt 15, 3) := by decide +kernel
theorem dX6_at_4 : decode cX6_at 4 = .ok (.iload_n 1, 1) := by decide +kernel
theorem dX6_at_5 : decode cX6_at 5 = .ok (.aload_n 0, 1) := by decide +kernel
theorem dX6_at_6 : decode cX6_at 6 = .ok (.arraylength, 1) := by decide +kernel
theorem dX6_at_7 : decode cX6_at 7 = .ok (.if_icmp .ge 9, 3) := by decide +kernel
theorem dX6_at_10 : decode cX6_at 10 = .ok (.aload_n 0, 1) := by decide +kernel
theorem dX6_at_11 : decode cX6_at 11 = .ok (.iload_n 1, 1) := by decide +kernel
theorem dX6_at_12 : decode cX6_at 12 = .ok (.iaload, 1) := by decide +kernel
theorem dX6_at_13 : decode cX6_at 13 = .ok (.goto 4, 3) := by decide +kernel
theorem dX6_at_16 : decode cX6_at 16 = .ok (.iconst 0, 1) := by decide +kernel
theorem dX6_at_17 : decode cX6_at 17 = .ok (.ireturn, 1) := by decide +kernel
theorem dX6_put_0 : decode cX6_put 0 = .ok (.iload_n 1, 1) := by decide +kernel
theorem dX6_put_1 : decode cX6_put 1 = .ok (.ifCond .lt 13, 3) := by decide +kernel
theorem dX6_put_4 : decode cX6_put 4 = .ok (.iload_n 1, 1) := by decide +kernel
theorem dX6_put_5 : decode cX6_put 5 = .ok (.aload_n 0, 1) := by decide +kernel
theorem dX6_put_6 : decode cX6_put 6 = .ok (.arraylength, 1) := by decide +kernel
theorem dX6_put_7 : decode cX6_put 7 = .ok (.if_icmp .ge 7, 3) := by decide +kernel
theorem dX6_put_10 : decode cX6_put 10 = .ok (.aload_n 0, 1) := by decide +kernel
theorem dX6_put_11 : decode cX6_put 11 = .ok (.iload_n 1, 1) := by decide +kernel
theorem dX6_put_12 : decode cX6_put 12 = .ok (.iload_n 2, 1) := by decide +kernel
theorem dX6_put_13 : decode cX6_put 13 = .ok (.iastore, 1) := by decide +kernel
theorem dX6_put_14 : decode cX6_put 14 = .ok (.return_, 1) := by decide +kernel
theorem dX6_copyRow_0 : decode cX6_copyRow 0 = .ok (.iconst 0, 1) := by decide +kernel
theorem dX6_copyRow_1 : decode cX6_copyRow 1 = .ok (.istore_n 2, 1) := by decide +kernel
theorem dX6_copyRow_2 : decode cX6_copyRow 2 = .ok (.iload_n 2, 1) := by decide +kernel
theorem dX6_copyRow_3 : decode cX6_copyRow 3 = .ok (.aload_n 1, 1) := by decide +kernel
theorem dX6_copyRow_4 : decode cX6_copyRow 4 = .ok (.arraylength, 1) := by decide +kernel
theorem dX6_copyRow_5 : decode cX6_copyRow 5 = .ok (.if_icmp .ge 21, 3) := by decide +kernel
theorem dX6_copyRow_8 : decode cX6_copyRow 8 = .ok (.iload_n 2, 1) := by decide +kernel
theorem dX6_copyRow_9 : decode cX6_copyRow 9 = .ok (.aload_n 0, 1) := by decide +kernel
theorem dX6_copyRow_10 : decode cX6_copyRow 10 = .ok (.arraylength, 1) := by decide +kernel
theorem dX6_copyRow_11 : decode cX6_copyRow 11 = .ok (.if_icmp .ge 15, 3) := by decide +kernel
theorem dX6_copyRow_14 : decode cX6_copyRow 14 = .ok (.aload_n 1, 1) := by decide +kernel
theorem dX6_copyRow_15 : decode cX6_copyRow 15 = .ok (.iload_n 2, 1) := by decide +kernel
theorem dX6_copyRow_16 : decode cX6_copyRow 16 = .ok (.aload_n 0, 1) := by decide +kernel
theorem dX6_copyRow_17 : decode cX6_copyRow 17 = .ok (.iload_n 2, 1) := by decide +kernel
theorem dX6_copyRow_18 : decode cX6_copyRow 18 = .ok (.iaload, 1) := by decide +kernel
theorem dX6_copyRow_19 : decode cX6_copyRow 19 = .ok (.iastore, 1) := by decide +kernel
theorem dX6_copyRow_20 : decode cX6_copyRow 20 = .ok (.iinc 2 1, 3) := by decide +kernel
theorem dX6_copyRow_23 : decode cX6_copyRow 23 = .ok (.goto (-21), 3) := by decide +kernel
theorem dX6_copyRow_26 : decode cX6_copyRow 26 = .ok (.return_, 1) := by decide +kernel
theorem dX7_init_0 : decode cX7_init 0 = .ok (.aload_n 0, 1) := by decide +kernel
theorem dX7_init_1 : decode cX7_init 1 = .ok (.invokespecial 1, 3) := by decide +kernel
theorem dX7_init_4 : decode cX7_init 4 = .ok (.aload_n 0, 1) := by decide +kernel
theorem dX7_init_5 : decode cX7_init 5 = .ok (.bipush 9, 2) := by decide +kernel
theorem dX7_init_7 : decode cX7_init 7 = .ok (.putfield 7, 3) := by decide +kernel
theorem dX7_init_10 : decode cX7_init 10 = .ok (.aload_n 0, 1) := by decide +kernel
theorem dX7_init_11 : decode cX7_init 11 = .ok (.iconst 2, 1) := by decide +kernel
theorem dX7_init_12 : decode cX7_init 12 = .ok (.putfield 13, 3) := by decide +kernel
theorem dX7_init_15 : decode cX7_init 15 = .ok (.aload_n 0, 1) := by decide +kernel
theorem dX7_init_16 : decode cX7_init 16 = .ok (.bipush 6, 2) := by decide +kernel
theorem dX7_init_18 : decode cX7_init 18 = .ok (.newarray .int, 2) := by decide +kernel
theorem dX7_init_20 : decode cX7_init 20 = .ok (.putfield 16, 3) := by decide +kernel
theorem dX7_init_23 : decode cX7_init 23 = .ok (.aload_n 0, 1) := by decide +kernel
theorem dX7_init_24 : decode cX7_init 24 = .ok (.bipush 21, 2) := by decide +kernel
theorem dX7_init_26 : decode cX7_init 26 = .ok (.newarray .int, 2) := by decide +kernel
theorem dX7_init_28 : decode cX7_init 28 = .ok (.putfield 20, 3) := by decide +kernel
theorem dX7_init_31 : decode cX7_init 31 = .ok (.aload_n 0, 1) := by decide +kernel
theorem dX7_init_32 : decode cX7_init 32 = .ok (.bipush 12, 2) := by decide +kernel
theorem dX7_init_34 : decode cX7_init 34 = .ok (.newarray .int, 2) := by decide +kernel
theorem dX7_init_36 : decode cX7_init 36 = .ok (.putfield 23, 3) := by decide +kernel
theorem dX7_init_39 : decode cX7_init 39 = .ok (.aload_n 0, 1) := by decide +kernel
theorem dX7_init_40 : decode cX7_init 40 = .ok (.bipush 60, 2) := by decide +kernel
theorem dX7_init_42 : decode cX7_init 42 = .ok (.newarray .int, 2) := by decide +kernel
theorem dX7_init_44 : decode cX7_init 44 = .ok (.putfield 26, 3) := by decide +kernel
theorem dX7_init_47 : decode cX7_init 47 = .ok (.aload_n 0, 1) := by decide +kernel
theorem dX7_init_48 : decode cX7_init 48 = .ok (.bipush 6, 2) := by decide +kernel
theorem dX7_init_50 : decode cX7_init 50 = .ok (.newarray .int, 2) := by decide +kernel
theorem dX7_init_52 : decode cX7_init 52 = .ok (.putfield 29, 3) := by decide +kernel
theorem dX7_init_55 : decode cX7_init 55 = .ok (.aload_n 0, 1) := by decide +kernel
theorem dX7_init_56 : decode cX7_init 56 = .ok (.bipush 7, 2) := by decide +kernel
theorem dX7_init_58 : decode cX7_init 58 = .ok (.newarray .int, 2) := by decide +kernel
theorem dX7_init_60 : decode cX7_init 60 = .ok (.putfield 32, 3) := by decide +kernel
theorem dX7_init_63 : decode cX7_init 63 = .ok (.aload_n 0, 1) := by decide +kernel
theorem dX7_init_64 : decode cX7_init 64 = .ok (.bipush 7, 2) := by decide +kernel
theorem dX7_init_66 : decode cX7_init 66 = .ok (.newarray .int, 2) := by decide +kernel
theorem dX7_init_68 : decode cX7_init 68 = .ok (.putfield 35, 3) := by decide +kernel
theorem dX7_init_71 : decode cX7_init 71 = .ok (.aload_n 0, 1) := by decide +kernel
theorem dX7_init_72 : decode cX7_init 72 = .ok (.bipush 96, 2) := by decide +kernel
theorem dX7_init_74 : decode cX7_init 74 = .ok (.newarray .int, 2) := by decide +kernel
theorem dX7_init_76 : decode cX7_init 76 = .ok (.putfield 38, 3) := by decide +kernel
theorem dX7_init_79 : decode cX7_init 79 = .ok (.aload_n 0, 1) := by decide +kernel
theorem dX7_init_80 : decode cX7_init 80 = .ok (.iconst 2, 1) := by decide +kernel
theorem dX7_init_81 : decode cX7_init 81 = .ok (.newarray .boolean, 2) := by decide +kernel
theorem dX7_init_83 : decode cX7_init 83 = .ok (.putfield 41, 3) := by decide +kernel
theorem dX7_init_86 : decode cX7_init 86 = .ok (.aload_n 0, 1) := by decide +kernel
theorem dX7_init_87 : decode cX7_init 87 = .ok (.iconst 0, 1) := by decide +kernel
theorem dX7_init_88 : decode cX7_init 88 = .ok (.putfield 45, 3) := by decide +kernel
theorem dX7_init_91 : decode cX7_init 91 = .ok (.return_, 1) := by decide +kernel
theorem dX7_in_0 : decode cX7_in 0 = .ok (.iload_n 0, 1) := by decide +kernel
theorem dX7_in_1 : decode cX7_in 1 = .ok (.iload_n 1, 1) := by decide +kernel
theorem dX7_in_2 : decode cX7_in 2 = .ok (.if_icmp .lt 12, 3) := by decide +kernel
theorem dX7_in_5 : decode cX7_in 5 = .ok (.iload_n 0, 1) := by decide +kernel
theorem dX7_in_6 : decode cX7_in 6 = .ok (.iload_n 2, 1) := by decide +kernel
theorem dX7_in_7 : decode cX7_in 7 = .ok (.if_icmp .gt 7, 3) := by decide +kernel
theorem dX7_in_10 : decode cX7_in 10 = .ok (.iconst 1, 1) := by decide +kernel
theorem dX7_in_11 : decode cX7_in 11 = .ok (.goto 4, 3) := by decide +kernel
theorem dX7_in_14 : decode cX7_in 14 = .ok (.iconst 0, 1) := by decide +kernel
theorem dX7_in_15 : decode cX7_in 15 = .ok (.ireturn, 1) := by decide +kernel
theorem dX7_isPerson_0 : decode cX7_isPerson 0 = .ok (.iload_n 0, 1) := by decide +kernel
theorem dX7_isPerson_1 : decode cX7_isPerson 1 = .ok (.iconst 0, 1) := by decide +kernel
theorem dX7_isPerson_2 : decode cX7_isPerson 2 = .ok (.iconst 5, 1) := by decide +kernel
theorem dX7_isPerson_3 : decode cX7_isPerson 3 = .ok (.invokestatic 48, 3) := by decide +kernel
theorem dX7_isPerson_6 : decode cX7_isPerson 6 = .ok (.ireturn, 1) := by decide +kernel
theorem dX7_set_0 : decode cX7_set 0 = .ok (.iload_n 1, 1) := by decide +kernel
theorem dX7_set_1 : decode cX7_set 1 = .ok (.ifCond .ne 13, 3) := by decide +kernel
theorem dX7_set_4 : decode cX7_set 4 = .ok (.iload_n 2, 1) := by decide +kernel
theorem dX7_set_5 : decode cX7_set 5 = .ok (.iconst 0, 1) := by decide +kernel
theorem dX7_set_6 : decode cX7_set 6 = .ok (.bipush 99, 2) := by decide +kernel
theorem dX7_set_8 : decode cX7_set 8 = .ok (.invokestatic 48, 3) := by decide +kernel
theorem dX7_set_11 : decode cX7_set 11 = .ok (.goto 22, 3) := by decide +kernel
theorem dX7_set_14 : decode cX7_set 14 = .ok (.iload_n 1, 1) := by decide +kernel
theorem dX7_set_15 : decode cX7_set 15 = .ok (.iconst 1, 1) := by decide +kernel
theorem dX7_set_16 : decode cX7_set 16 = .ok (.if_icmp .ne 16, 3) := by decide +kernel
theorem dX7_set_19 : decode cX7_set 19 = .ok (.iload_n 2, 1) := by decide +kernel
theorem dX7_set_20 : decode cX7_set 20 = .ok (.iconst 1, 1) := by decide +kernel
theorem dX7_set_21 : decode cX7_set 21 = .ok (.iconst 4, 1) := by decide +kernel
theorem dX7_set_22 : decode cX7_set 22 = .ok (.invokestatic 48, 3) := by decide +kernel
theorem dX7_set_25 : decode cX7_set 25 = .ok (.ifCond .eq 7, 3) := by decide +kernel
theorem dX7_set_28 : decode cX7_set 28 = .ok (.iconst 1, 1) := by decide +kernel
theorem dX7_set_29 : decode cX7_set 29 = .ok (.goto 4, 3) := by decide +kernel
theorem dX7_set_32 : decode cX7_set 32 = .ok (.iconst 0, 1) := by decide +kernel
theorem dX7_set_33 : decode cX7_set 33 = .ok (.istore_n 3, 1) := by decide +kernel
theorem dX7_set_34 : decode cX7_set 34 = .ok (.iload_n 3, 1) := by decide +kernel
theorem dX7_set_35 : decode cX7_set 35 = .ok (.ifCond .ne 6, 3) := by decide +kernel
theorem dX7_set_38 : decode cX7_set 38 = .ok (.bipush (-2), 2) := by decide +kernel
theorem dX7_set_40 : decode cX7_set 40 = .ok (.ireturn, 1) := by decide +kernel
theorem dX7_set_41 : decode cX7_set 41 = .ok (.iload_n 1, 1) := by decide +kernel
theorem dX7_set_42 : decode cX7_set 42 = .ok (.ifCond .ne 10, 3) := by decide +kernel
theorem dX7_set_45 : decode cX7_set 45 = .ok (.aload_n 0, 1) := by decide +kernel
theorem dX7_set_46 : decode cX7_set 46 = .ok (.getfield 7, 3) := by decide +kernel
theorem dX7_set_49 : decode cX7_set 49 = .ok (.goto 7, 3) := by decide +kernel
theorem dX7_set_52 : decode cX7_set 52 = .ok (.aload_n 0, 1) := by decide +kernel
theorem dX7_set_53 : decode cX7_set 53 = .ok (.getfield 13, 3) := by decide +kernel
theorem dX7_set_56 : decode cX7_set 56 = .ok (.istore 4, 2) := by decide +kernel
theorem dX7_set_58 : decode cX7_set 58 = .ok (.aload_n 0, 1) := by decide +kernel
theorem dX7_set_59 : decode cX7_set 59 = .ok (.iload_n 1, 1) := by decide +kernel
theorem dX7_set_60 : decode cX7_set 60 = .ok (.ifCond .ne 7, 3) := by decide +kernel
theorem dX7_set_63 : decode cX7_set 63 = .ok (.iload_n 2, 1) := by decide +kernel
theorem dX7_set_64 : decode cX7_set 64 = .ok (.goto 7, 3) := by decide +kernel
theorem dX7_set_67 : decode cX7_set 67 = .ok (.aload_n 0, 1) := by decide +kernel
theorem dX7_set_68 : decode cX7_set 68 = .ok (.getfield 7, 3) := by decide +kernel
theorem dX7_set_71 : decode cX7_set 71 = .ok (.putfield 7, 3) := by decide +kernel
theorem dX7_set_74 : decode cX7_set 74 = .ok (.aload_n 0, 1) := by decide +kernel
theorem dX7_set_75 : decode cX7_set 75 = .ok (.iload_n 1, 1) := by decide +kernel
theorem dX7_set_76 : decode cX7_set 76 = .ok (.iconst 1, 1) := by decide +kernel
theorem dX7_set_77 : decode cX7_set 77 = .ok (.if_icmp .ne 7, 3) := by decide +kernel
theorem dX7_set_80 : decode cX7_set 80 = .ok (.iload_n 2, 1) := by decide +kernel
theorem dX7_set_81 : decode cX7_set 81 = .ok (.goto 7, 3) := by decide +kernel
theorem dX7_set_84 : decode cX7_set 84 = .ok (.aload_n 0, 1) := by decide +kernel
theorem dX7_set_85 : decode cX7_set 85 = .ok (.getfield 13, 3) := by decide +kernel
theorem dX7_set_88 : decode cX7_set 88 = .ok (.putfield 13, 3) := by decide +kernel
theorem dX7_set_91 : decode cX7_set 91 = .ok (.iload 4, 2) := by decide +kernel
theorem dX7_set_93 : decode cX7_set 93 = .ok (.ireturn, 1) := by decide +kernel
theorem dX7_say_0 : decode cX7_say 0 = .ok (.iload_n 1, 1) := by decide +kernel
theorem dX7_say_1 : decode cX7_say 1 = .ok (.bipush 33, 2) := by decide +kernel
theorem dX7_say_3 : decode cX7_say 3 = .ok (.bipush 126, 2) := by decide +kernel
theorem dX7_say_5 : decode cX7_say 5 = .ok (.invokestatic 48, 3) := by decide +kernel
theorem dX7_say_8 : decode cX7_say 8 = .ok (.ifCond .ne 6, 3) := by decide +kernel
theorem dX7_say_11 : decode cX7_say 11 = .ok (.bipush (-2), 2) := by decide +kernel
theorem dX7_say_13 : decode cX7_say 13 = .ok (.ireturn, 1) := by decide +kernel
theorem dX7_say_14 : decode cX7_say 14 = .ok (.aload_n 0, 1) := by decide +kernel
theorem dX7_say_15 : decode cX7_say 15 = .ok (.getfield 52, 3) := by decide +kernel
theorem dX7_say_18 : decode cX7_say 18 = .ok (.bipush 60, 2) := by decide +kernel
theorem dX7_say_20 : decode cX7_say 20 = .ok (.if_icmp .ne 6, 3) := by decide +kernel
theorem dX7_say_23 : decode cX7_say 23 = .ok (.bipush (-4), 2) := by decide +kernel
theorem dX7_say_25 : decode cX7_say 25 = .ok (.ireturn, 1) := by decide +kernel
theorem dX7_say_26 : decode cX7_say 26 = .ok (.aload_n 0, 1) := by decide +kernel
theorem dX7_say_27 : decode cX7_say 27 = .ok (.getfield 26, 3) := by decide +kernel
theorem dX7_say_30 : decode cX7_say 30 = .ok (.aload_n 0, 1) := by decide +kernel
theorem dX7_say_31 : decode cX7_say 31 = .ok (.getfield 52, 3) := by decide +kernel
theorem dX7_say_34 : decode cX7_say 34 = .ok (.iload_n 1, 1) := by decide +kernel
theorem dX7_say_35 : decode cX7_say 35 = .ok (.iastore, 1) := by decide +kernel
theorem dX7_say_36 : decode cX7_say 36 = .ok (.aload_n 0, 1) := by decide +kernel
theorem dX7_say_37 : decode cX7_say 37 = .ok (.dup, 1) := by decide +kernel
theorem dX7_say_38 : decode cX7_say 38 = .ok (.getfield 52, 3) := by decide +kernel
theorem dX7_say_41 : decode cX7_say 41 = .ok (.iconst 1, 1) := by decide +kernel
theorem dX7_say_42 : decode cX7_say 42 = .ok (.iadd, 1) := by decide +kernel
theorem dX7_say_43 : decode cX7_say 43 = .ok (.putfield 52, 3) := by decide +kernel
theorem dX7_say_46 : decode cX7_say 46 = .ok (.aload_n 0, 1) := by decide +kernel
theorem dX7_say_47 : decode cX7_say 47 = .ok (.getfield 52, 3) := by decide +kernel
theorem dX7_say_50 : decode cX7_say 50 = .ok (.ireturn, 1) := by decide +kernel
theorem dX7_wipe_0 : decode cX7_wipe 0 = .ok (.aload_n 0, 1) := by decide +kernel
theorem dX7_wipe_1 : decode cX7_wipe 1 = .ok (.getfield 52, 3) := by decide +kernel
theorem dX7_wipe_4 : decode cX7_wipe 4 = .ok (.istore_n 1, 1) := by decide +kernel
theorem dX7_wipe_5 : decode cX7_wipe 5 = .ok (.aload_n 0, 1) := by decide +kernel
theorem dX7_wipe_6 : decode cX7_wipe 6 = .ok (.iconst 0, 1) := by decide +kernel
theorem dX7_wipe_7 : decode cX7_wipe 7 = .ok (.putfield 52, 3) := by decide +kernel
theorem dX7_wipe_10 : decode cX7_wipe 10 = .ok (.iload_n 1, 1) := by decide +kernel
theorem dX7_wipe_11 : decode cX7_wipe 11 = .ok (.ireturn, 1) := by decide +kernel
theorem dX7_faultOf_0 : decode cX7_faultOf 0 = .ok (.iconst 0, 1) := by decide +kernel
theorem dX7_faultOf_1 : decode cX7_faultOf 1 = .ok (.istore_n 1, 1) := by decide +kernel
theorem dX7_faultOf_2 : decode cX7_faultOf 2 = .ok (.iconst 0, 1) := by decide +kernel
theorem dX7_faultOf_3 : decode cX7_faultOf 3 = .ok (.istore_n 2, 1) := by decide +kernel
theorem dX7_faultOf_4 : decode cX7_faultOf 4 = .ok (.iconst 0, 1) := by decide +kernel
theorem dX7_faultOf_5 : decode cX7_faultOf 5 = .ok (.istore_n 3, 1) := by decide +kernel
theorem dX7_faultOf_6 : decode cX7_faultOf 6 = .ok (.iload_n 3, 1) := by decide +kernel
theorem dX7_faultOf_7 : decode cX7_faultOf 7 = .ok (.aload_n 0, 1) := by decide +kernel
theorem dX7_faultOf_8 : decode cX7_faultOf 8 = .ok (.getfield 52, 3) := by decide +kernel
theorem dX7_faultOf_11 : decode cX7_faultOf 11 = .ok (.if_icmp .ge 188, 3) := by decide +kernel
theorem dX7_faultOf_14 : decode cX7_faultOf 14 = .ok (.aload_n 0, 1) := by decide +kernel
theorem dX7_faultOf_15 : decode cX7_faultOf 15 = .ok (.getfield 26, 3) := by decide +kernel
theorem dX7_faultOf_18 : decode cX7_faultOf 18 = .ok (.iload_n 3, 1) := by decide +kernel
theorem dX7_faultOf_19 : decode cX7_faultOf 19 = .ok (.iaload, 1) := by decide +kernel
theorem dX7_faultOf_20 : decode cX7_faultOf 20 = .ok (.istore 4, 2) := by decide +kernel
theorem dX7_faultOf_22 : decode cX7_faultOf 22 = .ok (.iload_n 1, 1) := by decide +kernel
theorem dX7_faultOf_23 : decode cX7_faultOf 23 = .ok (.iconst 3, 1) := by decide +kernel
theorem dX7_faultOf_24 : decode cX7_faultOf 24 = .ok (.if_icmp .ne 23, 3) := by decide +kernel
theorem dX7_faultOf_27 : decode cX7_faultOf 27 = .ok (.iload 4, 2) := by decide +kernel
theorem dX7_faultOf_29 : decode cX7_faultOf 29 = .ok (.bipush 48, 2) := by decide +kernel
theorem dX7_faultOf_31 : decode cX7_faultOf 31 = .ok (.bipush 57, 2) := by decide +kernel
theorem dX7_faultOf_33 : decode cX7_faultOf 33 = .ok (.invokestatic 48, 3) := by decide +kernel
theorem dX7_faultOf_36 : decode cX7_faultOf 36 = .ok (.ifCond .eq 11, 3) := by decide +kernel
theorem dX7_faultOf_39 : decode cX7_faultOf 39 = .ok (.iconst 1, 1) := by decide +kernel
theorem dX7_faultOf_40 : decode cX7_faultOf 40 = .ok (.istore 5, 2) := by decide +kernel
theorem dX7_faultOf_42 : decode cX7_faultOf 42 = .ok (.iconst 0, 1) := by decide +kernel
theorem dX7_faultOf_43 : decode cX7_faultOf 43 = .ok (.istore_n 1, 1) := by decide +kernel
theorem dX7_faultOf_44 : decode cX7_faultOf 44 = .ok (.goto 142, 3) := by decide +kernel
theorem dX7_faultOf_47 : decode cX7_faultOf 47 = .ok (.iload_n 1, 1) := by decide +kernel
theorem dX7_faultOf_48 : decode cX7_faultOf 48 = .ok (.ifCond .eq 8, 3) := by decide +kernel
theorem dX7_faultOf_51 : decode cX7_faultOf 51 = .ok (.iload_n 1, 1) := by decide +kernel
theorem dX7_faultOf_52 : decode cX7_faultOf 52 = .ok (.iconst 3, 1) := by decide +kernel
theorem dX7_faultOf_53 : decode cX7_faultOf 53 = .ok (.if_icmp .ne 100, 3) := by decide +kernel
theorem dX7_faultOf_56 : decode cX7_faultOf 56 = .ok (.iload 4, 2) := by decide +kernel
theorem dX7_faultOf_58 : decode cX7_faultOf 58 = .ok (.bipush 65, 2) := by decide +kernel
theorem dX7_faultOf_60 : decode cX7_faultOf 60 = .ok (.bipush 70, 2) := by decide +kernel
theorem dX7_faultOf_62 : decode cX7_faultOf 62 = .ok (.invokestatic 48, 3) := by decide +kernel
theorem dX7_faultOf_65 : decode cX7_faultOf 65 = .ok (.ifCond .ne 10, 3) := by decide +kernel
theorem dX7_faultOf_68 : decode cX7_faultOf 68 = .ok (.iload 4, 2) := by decide +kernel
theorem dX7_faultOf_70 : decode cX7_faultOf 70 = .ok (.bipush 63, 2) := by decide +kernel
theorem dX7_faultOf_72 : decode cX7_faultOf 72 = .ok (.if_icmp .ne 7, 3) := by decide +kernel
theorem dX7_faultOf_75 : decode cX7_faultOf 75 = .ok (.iconst 1, 1) := by decide +kernel
theorem dX7_faultOf_76 : decode cX7_faultOf 76 = .ok (.goto 4, 3) := by decide +kernel
theorem dX7_faultOf_79 : decode cX7_faultOf 79 = .ok (.iconst 0, 1) := by decide +kernel
theorem dX7_faultOf_80 : decode cX7_faultOf 80 = .ok (.istore 6, 2) := by decide +kernel
theorem dX7_faultOf_82 : decode cX7_faultOf 82 = .ok (.iload_n 2, 1) := by decide +kernel
theorem dX7_faultOf_83 : decode cX7_faultOf 83 = .ok (.iload 4, 2) := by decide +kernel
theorem dX7_faultOf_85 : decode cX7_faultOf 85 = .ok (.bipush 63, 2) := by decide +kernel
theorem dX7_faultOf_87 : decode cX7_faultOf 87 = .ok (.if_icmp .ne 7, 3) := by decide +kernel
theorem dX7_faultOf_90 : decode cX7_faultOf 90 = .ok (.iconst 1, 1) := by decide +kernel
theorem dX7_faultOf_91 : decode cX7_faultOf 91 = .ok (.goto 4, 3) := by decide +kernel
theorem dX7_faultOf_94 : decode cX7_faultOf 94 = .ok (.iconst 0, 1) := by decide +kernel
theorem dX7_faultOf_95 : decode cX7_faultOf 95 = .ok (.iadd, 1) := by decide +kernel
theorem dX7_faultOf_96 : decode cX7_faultOf 96 = .ok (.istore_n 2, 1) := by decide +kernel
theorem dX7_faultOf_97 : decode cX7_faultOf 97 = .ok (.iload 4, 2) := by decide +kernel
theorem dX7_faultOf_99 : decode cX7_faultOf 99 = .ok (.bipush 46, 2) := by decide +kernel
theorem dX7_faultOf_101 : decode cX7_faultOf 101 = .ok (.if_icmp .eq 20, 3) := by decide +kernel
theorem dX7_faultOf_104 : decode cX7_faultOf 104 = .ok (.iload 4, 2) := by decide +kernel
theorem dX7_faultOf_106 : decode cX7_faultOf 106 = .ok (.bipush 44, 2) := by decide +kernel
theorem dX7_faultOf_108 : decode cX7_faultOf 108 = .ok (.if_icmp .eq 13, 3) := by decide +kernel
theorem dX7_faultOf_111 : decode cX7_faultOf 111 = .ok (.iload 6, 2) := by decide +kernel
theorem dX7_faultOf_113 : decode cX7_faultOf 113 = .ok (.ifCond .eq 12, 3) := by decide +kernel
theorem dX7_faultOf_116 : decode cX7_faultOf 116 = .ok (.iload_n 2, 1) := by decide +kernel
theorem dX7_faultOf_117 : decode cX7_faultOf 117 = .ok (.iconst 4, 1) := by decide +kernel
theorem dX7_faultOf_118 : decode cX7_faultOf 118 = .ok (.if_icmp .ge 7, 3) := by decide +kernel
theorem dX7_faultOf_121 : decode cX7_faultOf 121 = .ok (.iconst 1, 1) := by decide +kernel
theorem dX7_faultOf_122 : decode cX7_faultOf 122 = .ok (.goto 4, 3) := by decide +kernel
theorem dX7_faultOf_125 : decode cX7_faultOf 125 = .ok (.iconst 0, 1) := by decide +kernel
theorem dX7_faultOf_126 : decode cX7_faultOf 126 = .ok (.istore 5, 2) := by decide +kernel
theorem dX7_faultOf_128 : decode cX7_faultOf 128 = .ok (.iload 6, 2) := by decide +kernel
theorem dX7_faultOf_130 : decode cX7_faultOf 130 = .ok (.ifCond .eq 7, 3) := by decide +kernel
theorem dX7_faultOf_133 : decode cX7_faultOf 133 = .ok (.iconst 1, 1) := by decide +kernel
theorem dX7_faultOf_134 : decode cX7_faultOf 134 = .ok (.goto 15, 3) := by decide +kernel
theorem dX7_faultOf_137 : decode cX7_faultOf 137 = .ok (.iload 4, 2) := by decide +kernel
theorem dX7_faultOf_139 : decode cX7_faultOf 139 = .ok (.bipush 46, 2) := by decide +kernel
theorem dX7_faultOf_141 : decode cX7_faultOf 141 = .ok (.if_icmp .ne 7, 3) := by decide +kernel
theorem dX7_faultOf_144 : decode cX7_faultOf 144 = .ok (.iconst 2, 1) := by decide +kernel
theorem dX7_faultOf_145 : decode cX7_faultOf 145 = .ok (.goto 4, 3) := by decide +kernel
theorem dX7_faultOf_148 : decode cX7_faultOf 148 = .ok (.iconst 0, 1) := by decide +kernel
theorem dX7_faultOf_149 : decode cX7_faultOf 149 = .ok (.istore_n 1, 1) := by decide +kernel
theorem dX7_faultOf_150 : decode cX7_faultOf 150 = .ok (.goto 36, 3) := by decide +kernel
theorem dX7_faultOf_153 : decode cX7_faultOf 153 = .ok (.iload_n 1, 1) := by decide +kernel
theorem dX7_faultOf_154 : decode cX7_faultOf 154 = .ok (.iconst 1, 1) := by decide +kernel
theorem dX7_faultOf_155 : decode cX7_faultOf 155 = .ok (.if_icmp .ne 18, 3) := by decide +kernel
theorem dX7_faultOf_158 : decode cX7_faultOf 158 = .ok (.iload 4, 2) := by decide +kernel
theorem dX7_faultOf_160 : decode cX7_faultOf 160 = .ok (.bipush 33, 2) := by decide +kernel
theorem dX7_faultOf_162 : decode cX7_faultOf 162 = .ok (.if_icmp .ne 11, 3) := by decide +kernel
theorem dX7_faultOf_165 : decode cX7_faultOf 165 = .ok (.iconst 1, 1) := by decide +kernel
theorem dX7_faultOf_166 : decode cX7_faultOf 166 = .ok (.istore 5, 2) := by decide +kernel
theorem dX7_faultOf_168 : decode cX7_faultOf 168 = .ok (.iconst 2, 1) := by decide +kernel
theorem dX7_faultOf_169 : decode cX7_faultOf 169 = .ok (.istore_n 1, 1) := by decide +kernel
theorem dX7_faultOf_170 : decode cX7_faultOf 170 = .ok (.goto 16, 3) := by decide +kernel
theorem dX7_faultOf_173 : decode cX7_faultOf 173 = .ok (.iload 4, 2) := by decide +kernel
theorem dX7_faultOf_175 : decode cX7_faultOf 175 = .ok (.bipush 49, 2) := by decide +kernel
theorem dX7_faultOf_177 : decode cX7_faultOf 177 = .ok (.bipush 57, 2) := by decide +kernel
theorem dX7_faultOf_179 : decode cX7_faultOf 179 = .ok (.invokestatic 48, 3) := by decide +kernel
theorem dX7_faultOf_182 : decode cX7_faultOf 182 = .ok (.istore 5, 2) := by decide +kernel
theorem dX7_faultOf_184 : decode cX7_faultOf 184 = .ok (.iconst 3, 1) := by decide +kernel
theorem dX7_faultOf_185 : decode cX7_faultOf 185 = .ok (.istore_n 1, 1) := by decide +kernel
theorem dX7_faultOf_186 : decode cX7_faultOf 186 = .ok (.iload 5, 2) := by decide +kernel
theorem dX7_faultOf_188 : decode cX7_faultOf 188 = .ok (.ifCond .ne 5, 3) := by decide +kernel
theorem dX7_faultOf_191 : decode cX7_faultOf 191 = .ok (.iload_n 3, 1) := by decide +kernel
theorem dX7_faultOf_192 : decode cX7_faultOf 192 = .ok (.ireturn, 1) := by decide +kernel
theorem dX7_faultOf_193 : decode cX7_faultOf 193 = .ok (.iinc 3 1, 3) := by decide +kernel
theorem dX7_faultOf_196 : decode cX7_faultOf 196 = .ok (.goto (-190), 3) := by decide +kernel
theorem dX7_faultOf_199 : decode cX7_faultOf 199 = .ok (.iload_n 1, 1) := by decide +kernel
theorem dX7_faultOf_200 : decode cX7_faultOf 200 = .ok (.ifCond .eq 8, 3) := by decide +kernel
theorem dX7_faultOf_203 : decode cX7_faultOf 203 = .ok (.iload_n 1, 1) := by decide +kernel
theorem dX7_faultOf_204 : decode cX7_faultOf 204 = .ok (.iconst 3, 1) := by decide +kernel
theorem dX7_faultOf_205 : decode cX7_faultOf 205 = .ok (.if_icmp .ne 8, 3) := by decide +kernel
theorem dX7_faultOf_208 : decode cX7_faultOf 208 = .ok (.bipush (-6), 2) := by decide +kernel
theorem dX7_faultOf_210 : decode cX7_faultOf 210 = .ok (.goto 7, 3) := by decide +kernel
theorem dX7_faultOf_213 : decode cX7_faultOf 213 = .ok (.aload_n 0, 1) := by decide +kernel
theorem dX7_faultOf_214 : decode cX7_faultOf 214 = .ok (.getfield 52, 3) := by decide +kernel
theorem dX7_faultOf_217 : decode cX7_faultOf 217 = .ok (.ireturn, 1) := by decide +kernel
theorem dX7_fault_0 : decode cX7_fault 0 = .ok (.aload_n 0, 1) := by decide +kernel
theorem dX7_fault_1 : decode cX7_fault 1 = .ok (.invokevirtual 55, 3) := by decide +kernel
theorem dX7_fault_4 : decode cX7_fault 4 = .ok (.ireturn, 1) := by decide +kernel
theorem dX7_opens_0 : decode cX7_opens 0 = .ok (.iconst 0, 1) := by decide +kernel
theorem dX7_opens_1 : decode cX7_opens 1 = .ok (.istore_n 1, 1) := by decide +kernel
theorem dX7_opens_2 : decode cX7_opens 2 = .ok (.iconst 0, 1) := by decide +kernel
theorem dX7_opens_3 : decode cX7_opens 3 = .ok (.istore_n 2, 1) := by decide +kernel
theorem dX7_opens_4 : decode cX7_opens 4 = .ok (.iload_n 2, 1) := by decide +kernel
theorem dX7_opens_5 : decode cX7_opens 5 = .ok (.aload_n 0, 1) := by decide +kernel
theorem dX7_opens_6 : decode cX7_opens 6 = .ok (.getfield 52, 3) := by decide +kernel
theorem dX7_opens_9 : decode cX7_opens 9 = .ok (.if_icmp .ge 28, 3) := by decide +kernel
theorem dX7_opens_12 : decode cX7_opens 12 = .ok (.iload_n 1, 1) := by decide +kernel
theorem dX7_opens_13 : decode cX7_opens 13 = .ok (.aload_n 0, 1) := by decide +kernel
theorem dX7_opens_14 : decode cX7_opens 14 = .ok (.getfield 26, 3) := by decide +kernel
theorem dX7_opens_17 : decode cX7_opens 17 = .ok (.iload_n 2, 1) := by decide +kernel
theorem dX7_opens_18 : decode cX7_opens 18 = .ok (.iaload, 1) := by decide +kernel
theorem dX7_opens_19 : decode cX7_opens 19 = .ok (.bipush 63, 2) := by decide +kernel
theorem dX7_opens_21 : decode cX7_opens 21 = .ok (.if_icmp .ne 7, 3) := by decide +kernel
theorem dX7_opens_24 : decode cX7_opens 24 = .ok (.iconst 1, 1) := by decide +kernel
theorem dX7_opens_25 : decode cX7_opens 25 = .ok (.goto 4, 3) := by decide +kernel
theorem dX7_opens_28 : decode cX7_opens 28 = .ok (.iconst 0, 1) := by decide +kernel
theorem dX7_opens_29 : decode cX7_opens 29 = .ok (.iadd, 1) := by decide +kernel
theorem dX7_opens_30 : decode cX7_opens 30 = .ok (.istore_n 1, 1) := by decide +kernel
theorem dX7_opens_31 : decode cX7_opens 31 = .ok (.iinc 2 1, 3) := by decide +kernel
theorem dX7_opens_34 : decode cX7_opens 34 = .ok (.goto (-30), 3) := by decide +kernel
theorem dX7_opens_37 : decode cX7_opens 37 = .ok (.iload_n 1, 1) := by decide +kernel
theorem dX7_opens_38 : decode cX7_opens 38 = .ok (.ireturn, 1) := by decide +kernel
theorem dX7_asNow_0 : decode cX7_asNow 0 = .ok (.aload_n 0, 1) := by decide +kernel
theorem dX7_asNow_1 : decode cX7_asNow 1 = .ok (.iconst 0, 1) := by decide +kernel
theorem dX7_asNow_2 : decode cX7_asNow 2 = .ok (.putfield 59, 3) := by decide +kernel
theorem dX7_asNow_5 : decode cX7_asNow 5 = .ok (.iconst 0, 1) := by decide +kernel
theorem dX7_asNow_6 : decode cX7_asNow 6 = .ok (.istore_n 1, 1) := by decide +kernel
theorem dX7_asNow_7 : decode cX7_asNow 7 = .ok (.iload_n 1, 1) := by decide +kernel
theorem dX7_asNow_8 : decode cX7_asNow 8 = .ok (.bipush 6, 2) := by decide +kernel
theorem dX7_asNow_10 : decode cX7_asNow 10 = .ok (.if_icmp .ge 21, 3) := by decide +kernel
theorem dX7_asNow_13 : decode cX7_asNow 13 = .ok (.aload_n 0, 1) := by decide +kernel
theorem dX7_asNow_14 : decode cX7_asNow 14 = .ok (.getfield 29, 3) := by decide +kernel
theorem dX7_asNow_17 : decode cX7_asNow 17 = .ok (.iload_n 1, 1) := by decide +kernel
theorem dX7_asNow_18 : decode cX7_asNow 18 = .ok (.aload_n 0, 1) := by decide +kernel
theorem dX7_asNow_19 : decode cX7_asNow 19 = .ok (.getfield 16, 3) := by decide +kernel
theorem dX7_asNow_22 : decode cX7_asNow 22 = .ok (.iload_n 1, 1) := by decide +kernel
theorem dX7_asNow_23 : decode cX7_asNow 23 = .ok (.iaload, 1) := by decide +kernel
theorem dX7_asNow_24 : decode cX7_asNow 24 = .ok (.iastore, 1) := by decide +kernel
theorem dX7_asNow_25 : decode cX7_asNow 25 = .ok (.iinc 1 1, 3) := by decide +kernel
theorem dX7_asNow_28 : decode cX7_asNow 28 = .ok (.goto (-21), 3) := by decide +kernel
theorem dX7_asNow_31 : decode cX7_asNow 31 = .ok (.return_, 1) := by decide +kernel
theorem dX7_less_0 : decode cX7_less 0 = .ok (.iload_n 1, 1) := by decide +kernel
theorem dX7_less_1 : decode cX7_less 1 = .ok (.aload_n 0, 1) := by decide +kernel
theorem dX7_less_2 : decode cX7_less 2 = .ok (.getfield 7, 3) := by decide +kernel
theorem dX7_less_5 : decode cX7_less 5 = .ok (.ineg, 1) := by decide +kernel
theorem dX7_less_6 : decode cX7_less 6 = .ok (.if_icmp .gt 7, 3) := by decide +kernel
theorem dX7_less_9 : decode cX7_less 9 = .ok (.iload_n 1, 1) := by decide +kernel
theorem dX7_less_10 : decode cX7_less 10 = .ok (.goto 25, 3) := by decide +kernel
theorem dX7_less_13 : decode cX7_less 13 = .ok (.iload_n 1, 1) := by decide +kernel
theorem dX7_less_14 : decode cX7_less 14 = .ok (.iload_n 2, 1) := by decide +kernel
theorem dX7_less_15 : decode cX7_less 15 = .ok (.isub, 1) := by decide +kernel
theorem dX7_less_16 : decode cX7_less 16 = .ok (.aload_n 0, 1) := by decide +kernel
theorem dX7_less_17 : decode cX7_less 17 = .ok (.getfield 7, 3) := by decide +kernel
theorem dX7_less_20 : decode cX7_less 20 = .ok (.ineg, 1) := by decide +kernel
theorem dX7_less_21 : decode cX7_less 21 = .ok (.if_icmp .ge 11, 3) := by decide +kernel
theorem dX7_less_24 : decode cX7_less 24 = .ok (.aload_n 0, 1) := by decide +kernel
theorem dX7_less_25 : decode cX7_less 25 = .ok (.getfield 7, 3) := by decide +kernel
theorem dX7_less_28 : decode cX7_less 28 = .ok (.ineg, 1) := by decide +kernel
theorem dX7_less_29 : decode cX7_less 29 = .ok (.goto 6, 3) := by decide +kernel
theorem dX7_less_32 : decode cX7_less 32 = .ok (.iload_n 1, 1) := by decide +kernel
theorem dX7_less_33 : decode cX7_less 33 = .ok (.iload_n 2, 1) := by decide +kernel
theorem dX7_less_34 : decode cX7_less 34 = .ok (.isub, 1) := by decide +kernel
theorem dX7_less_35 : decode cX7_less 35 = .ok (.ireturn, 1) := by decide +kernel
theorem dX7_pass_0 : decode cX7_pass 0 = .ok (.iconst 0, 1) := by decide +kernel
theorem dX7_pass_1 : decode cX7_pass 1 = .ok (.istore_n 3, 1) := by decide +kernel
theorem dX7_pass_2 : decode cX7_pass 2 = .ok (.iload_n 3, 1) := by decide +kernel
theorem dX7_pass_3 : decode cX7_pass 3 = .ok (.bipush 6, 2) := by decide +kernel
theorem dX7_pass_5 : decode cX7_pass 5 = .ok (.if_icmp .ge 40, 3) := by decide +kernel
theorem dX7_pass_8 : decode cX7_pass 8 = .ok (.aload_n 0, 1) := by decide +kernel
theorem dX7_pass_9 : decode cX7_pass 9 = .ok (.getfield 29, 3) := by decide +kernel
theorem dX7_pass_12 : decode cX7_pass 12 = .ok (.iload_n 3, 1) := by decide +kernel
theorem dX7_pass_13 : decode cX7_pass 13 = .ok (.iload_n 3, 1) := by decide +kernel
theorem dX7_pass_14 : decode cX7_pass 14 = .ok (.iload_n 2, 1) := by decide +kernel
theorem dX7_pass_15 : decode cX7_pass 15 = .ok (.if_icmp .ne 12, 3) := by decide +kernel
theorem dX7_pass_18 : decode cX7_pass 18 = .ok (.aload_n 0, 1) := by decide +kernel
theorem dX7_pass_19 : decode cX7_pass 19 = .ok (.getfield 29, 3) := by decide +kernel
theorem dX7_pass_22 : decode cX7_pass 22 = .ok (.iload_n 3, 1) := by decide +kernel
theorem dX7_pass_23 : decode cX7_pass 23 = .ok (.iaload, 1) := by decide +kernel
theorem dX7_pass_24 : decode cX7_pass 24 = .ok (.goto 14, 3) := by decide +kernel
theorem dX7_pass_27 : decode cX7_pass 27 = .ok (.aload_n 0, 1) := by decide +kernel
theorem dX7_pass_28 : decode cX7_pass 28 = .ok (.aload_n 0, 1) := by decide +kernel
theorem dX7_pass_29 : decode cX7_pass 29 = .ok (.getfield 29, 3) := by decide +kernel
theorem dX7_pass_32 : decode cX7_pass 32 = .ok (.iload_n 3, 1) := by decide +kernel
theorem dX7_pass_33 : decode cX7_pass 33 = .ok (.iaload, 1) := by decide +kernel
theorem dX7_pass_34 : decode cX7_pass 34 = .ok (.iload_n 1, 1) := by decide +kernel
theorem dX7_pass_35 : decode cX7_pass 35 = .ok (.invokevirtual 62, 3) := by decide +kernel
theorem dX7_pass_38 : decode cX7_pass 38 = .ok (.iastore, 1) := by decide +kernel
theorem dX7_pass_39 : decode cX7_pass 39 = .ok (.iinc 3 1, 3) := by decide +kernel
theorem dX7_pass_42 : decode cX7_pass 42 = .ok (.goto (-40), 3) := by decide +kernel
theorem dX7_pass_45 : decode cX7_pass 45 = .ok (.aload_n 0, 1) := by decide +kernel
theorem dX7_pass_46 : decode cX7_pass 46 = .ok (.dup, 1) := by decide +kernel
theorem dX7_pass_47 : decode cX7_pass 47 = .ok (.getfield 59, 3) := by decide +kernel
theorem dX7_pass_50 : decode cX7_pass 50 = .ok (.iload_n 1, 1) := by decide +kernel
theorem dX7_pass_51 : decode cX7_pass 51 = .ok (.iadd, 1) := by decide +kernel
theorem dX7_pass_52 : decode cX7_pass 52 = .ok (.putfield 59, 3) := by decide +kernel
theorem dX7_pass_55 : decode cX7_pass 55 = .ok (.return_, 1) := by decide +kernel
theorem dX7_speak_0 : decode cX7_speak 0 = .ok (.aload_n 0, 1) := by decide +kernel
theorem dX7_speak_1 : decode cX7_speak 1 = .ok (.iload_n 2, 1) := by decide +kernel
theorem dX7_speak_2 : decode cX7_speak 2 = .ok (.iload_n 1, 1) := by decide +kernel
theorem dX7_speak_3 : decode cX7_speak 3 = .ok (.invokevirtual 66, 3) := by decide +kernel
theorem dX7_speak_6 : decode cX7_speak 6 = .ok (.aload_n 0, 1) := by decide +kernel
theorem dX7_speak_7 : decode cX7_speak 7 = .ok (.getfield 29, 3) := by decide +kernel
theorem dX7_speak_10 : decode cX7_speak 10 = .ok (.iload_n 1, 1) := by decide +kernel
theorem dX7_speak_11 : decode cX7_speak 11 = .ok (.dup2, 1) := by decide +kernel
theorem dX7_speak_12 : decode cX7_speak 12 = .ok (.iaload, 1) := by decide +kernel
theorem dX7_speak_13 : decode cX7_speak 13 = .ok (.iload_n 3, 1) := by decide +kernel
theorem dX7_speak_14 : decode cX7_speak 14 = .ok (.iload_n 2, 1) := by decide +kernel
theorem dX7_speak_15 : decode cX7_speak 15 = .ok (.imul, 1) := by decide +kernel
theorem dX7_speak_16 : decode cX7_speak 16 = .ok (.iadd, 1) := by decide +kernel
theorem dX7_speak_17 : decode cX7_speak 17 = .ok (.iastore, 1) := by decide +kernel
theorem dX7_speak_18 : decode cX7_speak 18 = .ok (.return_, 1) := by decide +kernel
theorem dX7_watch_0 : decode cX7_watch 0 = .ok (.aload_n 0, 1) := by decide +kernel
theorem dX7_watch_1 : decode cX7_watch 1 = .ok (.getfield 70, 3) := by decide +kernel
theorem dX7_watch_4 : decode cX7_watch 4 = .ok (.ifCond .lt 58, 3) := by decide +kernel
theorem dX7_watch_7 : decode cX7_watch 7 = .ok (.aload_n 0, 1) := by decide +kernel
theorem dX7_watch_8 : decode cX7_watch 8 = .ok (.getfield 70, 3) := by decide +kernel
theorem dX7_watch_11 : decode cX7_watch 11 = .ok (.iload_n 2, 1) := by decide +kernel
theorem dX7_watch_12 : decode cX7_watch 12 = .ok (.if_icmp .eq 50, 3) := by decide +kernel
theorem dX7_watch_15 : decode cX7_watch 15 = .ok (.aload_n 0, 1) := by decide +kernel
theorem dX7_watch_16 : decode cX7_watch 16 = .ok (.getfield 29, 3) := by decide +kernel
theorem dX7_watch_19 : decode cX7_watch 19 = .ok (.aload_n 0, 1) := by decide +kernel
theorem dX7_watch_20 : decode cX7_watch 20 = .ok (.getfield 70, 3) := by decide +kernel
theorem dX7_watch_23 : decode cX7_watch 23 = .ok (.iaload, 1) := by decide +kernel
theorem dX7_watch_24 : decode cX7_watch 24 = .ok (.ifCond .le 15, 3) := by decide +kernel
theorem dX7_watch_27 : decode cX7_watch 27 = .ok (.aload_n 0, 1) := by decide +kernel
theorem dX7_watch_28 : decode cX7_watch 28 = .ok (.getfield 29, 3) := by decide +kernel
theorem dX7_watch_31 : decode cX7_watch 31 = .ok (.aload_n 0, 1) := by decide +kernel
theorem dX7_watch_32 : decode cX7_watch 32 = .ok (.getfield 70, 3) := by decide +kernel
theorem dX7_watch_35 : decode cX7_watch 35 = .ok (.iaload, 1) := by decide +kernel
theorem dX7_watch_36 : decode cX7_watch 36 = .ok (.goto 4, 3) := by decide +kernel
theorem dX7_watch_39 : decode cX7_watch 39 = .ok (.iconst 0, 1) := by decide +kernel
theorem dX7_watch_40 : decode cX7_watch 40 = .ok (.istore_n 3, 1) := by decide +kernel
theorem dX7_watch_41 : decode cX7_watch 41 = .ok (.aload_n 0, 1) := by decide +kernel
theorem dX7_watch_42 : decode cX7_watch 42 = .ok (.dup, 1) := by decide +kernel
theorem dX7_watch_43 : decode cX7_watch 43 = .ok (.getfield 73, 3) := by decide +kernel
theorem dX7_watch_46 : decode cX7_watch 46 = .ok (.iload_n 1, 1) := by decide +kernel
theorem dX7_watch_47 : decode cX7_watch 47 = .ok (.iload_n 3, 1) := by decide +kernel
theorem dX7_watch_48 : decode cX7_watch 48 = .ok (.if_icmp .le 9, 3) := by decide +kernel
theorem dX7_watch_51 : decode cX7_watch 51 = .ok (.iload_n 1, 1) := by decide +kernel
theorem dX7_watch_52 : decode cX7_watch 52 = .ok (.iload_n 3, 1) := by decide +kernel
theorem dX7_watch_53 : decode cX7_watch 53 = .ok (.isub, 1) := by decide +kernel
theorem dX7_watch_54 : decode cX7_watch 54 = .ok (.goto 4, 3) := by decide +kernel
theorem dX7_watch_57 : decode cX7_watch 57 = .ok (.iconst 0, 1) := by decide +kernel
theorem dX7_watch_58 : decode cX7_watch 58 = .ok (.iadd, 1) := by decide +kernel
theorem dX7_watch_59 : decode cX7_watch 59 = .ok (.putfield 73, 3) := by decide +kernel
theorem dX7_watch_62 : decode cX7_watch 62 = .ok (.return_, 1) := by decide +kernel
theorem dX7_number_0 : decode cX7_number 0 = .ok (.aload_n 0, 1) := by decide +kernel
theorem dX7_number_1 : decode cX7_number 1 = .ok (.getfield 26, 3) := by decide +kernel
theorem dX7_number_4 : decode cX7_number 4 = .ok (.iload_n 1, 1) := by decide +kernel
theorem dX7_number_5 : decode cX7_number 5 = .ok (.iaload, 1) := by decide +kernel
theorem dX7_number_6 : decode cX7_number 6 = .ok (.bipush 48, 2) := by decide +kernel
theorem dX7_number_8 : decode cX7_number 8 = .ok (.isub, 1) := by decide +kernel
theorem dX7_number_9 : decode cX7_number 9 = .ok (.istore_n 2, 1) := by decide +kernel
theorem dX7_number_10 : decode cX7_number 10 = .ok (.aload_n 0, 1) := by decide +kernel
theorem dX7_number_11 : decode cX7_number 11 = .ok (.iload_n 1, 1) := by decide +kernel
theorem dX7_number_12 : decode cX7_number 12 = .ok (.iconst 1, 1) := by decide +kernel
theorem dX7_number_13 : decode cX7_number 13 = .ok (.iadd, 1) := by decide +kernel
theorem dX7_number_14 : decode cX7_number 14 = .ok (.putfield 76, 3) := by decide +kernel
theorem dX7_number_17 : decode cX7_number 17 = .ok (.aload_n 0, 1) := by decide +kernel
theorem dX7_number_18 : decode cX7_number 18 = .ok (.getfield 76, 3) := by decide +kernel
theorem dX7_number_21 : decode cX7_number 21 = .ok (.aload_n 0, 1) := by decide +kernel
theorem dX7_number_22 : decode cX7_number 22 = .ok (.getfield 52, 3) := by decide +kernel
theorem dX7_number_25 : decode cX7_number 25 = .ok (.if_icmp .ge 50, 3) := by decide +kernel
theorem dX7_number_28 : decode cX7_number 28 = .ok (.aload_n 0, 1) := by decide +kernel
theorem dX7_number_29 : decode cX7_number 29 = .ok (.getfield 26, 3) := by decide +kernel
theorem dX7_number_32 : decode cX7_number 32 = .ok (.aload_n 0, 1) := by decide +kernel
theorem dX7_number_33 : decode cX7_number 33 = .ok (.getfield 76, 3) := by decide +kernel
theorem dX7_number_36 : decode cX7_number 36 = .ok (.iaload, 1) := by decide +kernel
theorem dX7_number_37 : decode cX7_number 37 = .ok (.bipush 48, 2) := by decide +kernel
theorem dX7_number_39 : decode cX7_number 39 = .ok (.bipush 57, 2) := by decide +kernel
theorem dX7_number_41 : decode cX7_number 41 = .ok (.invokestatic 48, 3) := by decide +kernel
theorem dX7_number_44 : decode cX7_number 44 = .ok (.ifCond .eq 31, 3) := by decide +kernel
theorem dX7_number_47 : decode cX7_number 47 = .ok (.bipush 10, 2) := by decide +kernel
theorem dX7_number_49 : decode cX7_number 49 = .ok (.iload_n 2, 1) := by decide +kernel
theorem dX7_number_50 : decode cX7_number 50 = .ok (.imul, 1) := by decide +kernel
theorem dX7_number_51 : decode cX7_number 51 = .ok (.aload_n 0, 1) := by decide +kernel
theorem dX7_number_52 : decode cX7_number 52 = .ok (.getfield 26, 3) := by decide +kernel
theorem dX7_number_55 : decode cX7_number 55 = .ok (.aload_n 0, 1) := by decide +kernel
theorem dX7_number_56 : decode cX7_number 56 = .ok (.getfield 76, 3) := by decide +kernel
theorem dX7_number_59 : decode cX7_number 59 = .ok (.iaload, 1) := by decide +kernel
theorem dX7_number_60 : decode cX7_number 60 = .ok (.iadd, 1) := by decide +kernel
theorem dX7_number_61 : decode cX7_number 61 = .ok (.bipush 48, 2) := by decide +kernel
theorem dX7_number_63 : decode cX7_number 63 = .ok (.isub, 1) := by decide +kernel
theorem dX7_number_64 : decode cX7_number 64 = .ok (.istore_n 2, 1) := by decide +kernel
theorem dX7_number_65 : decode cX7_number 65 = .ok (.aload_n 0, 1) := by decide +kernel
theorem dX7_number_66 : decode cX7_number 66 = .ok (.dup, 1) := by decide +kernel
theorem dX7_number_67 : decode cX7_number 67 = .ok (.getfield 76, 3) := by decide +kernel
theorem dX7_number_70 : decode cX7_number 70 = .ok (.iconst 1, 1) := by decide +kernel
theorem dX7_number_71 : decode cX7_number 71 = .ok (.iadd, 1) := by decide +kernel
theorem dX7_number_72 : decode cX7_number 72 = .ok (.putfield 76, 3) := by decide +kernel
theorem dX7_number_75 : decode cX7_number 75 = .ok (.iload_n 2, 1) := by decide +kernel
theorem dX7_number_76 : decode cX7_number 76 = .ok (.ireturn, 1) := by decide +kernel
theorem dX7_goText_0 : decode cX7_goText 0 = .ok (.aload_n 0, 1) := by decide +kernel
theorem dX7_goText_1 : decode cX7_goText 1 = .ok (.invokevirtual 79, 3) := by decide +kernel
theorem dX7_goText_4 : decode cX7_goText 4 = .ok (.aload_n 0, 1) := by decide +kernel
theorem dX7_goText_5 : decode cX7_goText 5 = .ok (.iconst 0, 1) := by decide +kernel
theorem dX7_goText_6 : decode cX7_goText 6 = .ok (.putfield 73, 3) := by decide +kernel
theorem dX7_goText_9 : decode cX7_goText 9 = .ok (.iconst 1, 1) := by decide +kernel
theorem dX7_goText_10 : decode cX7_goText 10 = .ok (.istore_n 2, 1) := by decide +kernel
theorem dX7_goText_11 : decode cX7_goText 11 = .ok (.iconst 1, 1) := by decide +kernel
theorem dX7_goText_12 : decode cX7_goText 12 = .ok (.istore_n 3, 1) := by decide +kernel
theorem dX7_goText_13 : decode cX7_goText 13 = .ok (.iload_n 3, 1) := by decide +kernel
theorem dX7_goText_14 : decode cX7_goText 14 = .ok (.aload_n 0, 1) := by decide +kernel
theorem dX7_goText_15 : decode cX7_goText 15 = .ok (.invokevirtual 82, 3) := by decide +kernel
theorem dX7_goText_18 : decode cX7_goText 18 = .ok (.if_icmp .ge 14, 3) := by decide +kernel
theorem dX7_goText_21 : decode cX7_goText 21 = .ok (.iload_n 2, 1) := by decide +kernel
theorem dX7_goText_22 : decode cX7_goText 22 = .ok (.bipush 6, 2) := by decide +kernel
theorem dX7_goText_24 : decode cX7_goText 24 = .ok (.imul, 1) := by decide +kernel
theorem dX7_goText_25 : decode cX7_goText 25 = .ok (.istore_n 2, 1) := by decide +kernel
theorem dX7_goText_26 : decode cX7_goText 26 = .ok (.iinc 3 1, 3) := by decide +kernel
theorem dX7_goText_29 : decode cX7_goText 29 = .ok (.goto (-16), 3) := by decide +kernel
theorem dX7_goText_32 : decode cX7_goText 32 = .ok (.iconst 0, 1) := by decide +kernel
theorem dX7_goText_33 : decode cX7_goText 33 = .ok (.istore_n 3, 1) := by decide +kernel
theorem dX7_goText_34 : decode cX7_goText 34 = .ok (.iconst 0, 1) := by decide +kernel
theorem dX7_goText_35 : decode cX7_goText 35 = .ok (.istore 4, 2) := by decide +kernel
theorem dX7_goText_37 : decode cX7_goText 37 = .ok (.iload 4, 2) := by decide +kernel
theorem dX7_goText_39 : decode cX7_goText 39 = .ok (.aload_n 0, 1) := by decide +kernel
theorem dX7_goText_40 : decode cX7_goText 40 = .ok (.getfield 52, 3) := by decide +kernel
theorem dX7_goText_43 : decode cX7_goText 43 = .ok (.if_icmp .ge 272, 3) := by decide +kernel
theorem dX7_goText_46 : decode cX7_goText 46 = .ok (.aload_n 0, 1) := by decide +kernel
theorem dX7_goText_47 : decode cX7_goText 47 = .ok (.getfield 26, 3) := by decide +kernel
theorem dX7_goText_50 : decode cX7_goText 50 = .ok (.iload 4, 2) := by decide +kernel
theorem dX7_goText_52 : decode cX7_goText 52 = .ok (.iaload, 1) := by decide +kernel
theorem dX7_goText_53 : decode cX7_goText 53 = .ok (.bipush 44, 2) := by decide +kernel
theorem dX7_goText_55 : decode cX7_goText 55 = .ok (.if_icmp .ne 53, 3) := by decide +kernel
theorem dX7_goText_58 : decode cX7_goText 58 = .ok (.iconst 0, 1) := by decide +kernel
theorem dX7_goText_59 : decode cX7_goText 59 = .ok (.istore 5, 2) := by decide +kernel
theorem dX7_goText_61 : decode cX7_goText 61 = .ok (.iload 5, 2) := by decide +kernel
theorem dX7_goText_63 : decode cX7_goText 63 = .ok (.bipush 6, 2) := by decide +kernel
theorem dX7_goText_65 : decode cX7_goText 65 = .ok (.if_icmp .ge 37, 3) := by decide +kernel
theorem dX7_goText_68 : decode cX7_goText 68 = .ok (.aload_n 0, 1) := by decide +kernel
theorem dX7_goText_69 : decode cX7_goText 69 = .ok (.getfield 29, 3) := by decide +kernel
theorem dX7_goText_72 : decode cX7_goText 72 = .ok (.iload 5, 2) := by decide +kernel
theorem dX7_goText_74 : decode cX7_goText 74 = .ok (.aload_n 0, 1) := by decide +kernel
theorem dX7_goText_75 : decode cX7_goText 75 = .ok (.getfield 29, 3) := by decide +kernel
theorem dX7_goText_78 : decode cX7_goText 78 = .ok (.iload 5, 2) := by decide +kernel
theorem dX7_goText_80 : decode cX7_goText 80 = .ok (.iaload, 1) := by decide +kernel
theorem dX7_goText_81 : decode cX7_goText 81 = .ok (.ifCond .le 7, 3) := by decide +kernel
theorem dX7_goText_84 : decode cX7_goText 84 = .ok (.iconst 0, 1) := by decide +kernel
theorem dX7_goText_85 : decode cX7_goText 85 = .ok (.goto 10, 3) := by decide +kernel
theorem dX7_goText_88 : decode cX7_goText 88 = .ok (.aload_n 0, 1) := by decide +kernel
theorem dX7_goText_89 : decode cX7_goText 89 = .ok (.getfield 29, 3) := by decide +kernel
theorem dX7_goText_92 : decode cX7_goText 92 = .ok (.iload 5, 2) := by decide +kernel
theorem dX7_goText_94 : decode cX7_goText 94 = .ok (.iaload, 1) := by decide +kernel
theorem dX7_goText_95 : decode cX7_goText 95 = .ok (.iastore, 1) := by decide +kernel
theorem dX7_goText_96 : decode cX7_goText 96 = .ok (.iinc 5 1, 3) := by decide +kernel
theorem dX7_goText_99 : decode cX7_goText 99 = .ok (.goto (-38), 3) := by decide +kernel
theorem dX7_goText_102 : decode cX7_goText 102 = .ok (.iinc 4 1, 3) := by decide +kernel
theorem dX7_goText_105 : decode cX7_goText 105 = .ok (.goto 204, 3) := by decide +kernel
theorem dX7_goText_108 : decode cX7_goText 108 = .ok (.aload_n 0, 1) := by decide +kernel
theorem dX7_goText_109 : decode cX7_goText 109 = .ok (.getfield 26, 3) := by decide +kernel
theorem dX7_goText_112 : decode cX7_goText 112 = .ok (.iload 4, 2) := by decide +kernel
theorem dX7_goText_114 : decode cX7_goText 114 = .ok (.iaload, 1) := by decide +kernel
theorem dX7_goText_115 : decode cX7_goText 115 = .ok (.bipush 46, 2) := by decide +kernel
theorem dX7_goText_117 : decode cX7_goText 117 = .ok (.if_icmp .ne 38, 3) := by decide +kernel
theorem dX7_goText_120 : decode cX7_goText 120 = .ok (.aload_n 0, 1) := by decide +kernel
theorem dX7_goText_121 : decode cX7_goText 121 = .ok (.iload 4, 2) := by decide +kernel
theorem dX7_goText_123 : decode cX7_goText 123 = .ok (.iconst 1, 1) := by decide +kernel
theorem dX7_goText_124 : decode cX7_goText 124 = .ok (.iadd, 1) := by decide +kernel
theorem dX7_goText_125 : decode cX7_goText 125 = .ok (.invokevirtual 85, 3) := by decide +kernel
theorem dX7_goText_128 : decode cX7_goText 128 = .ok (.istore 5, 2) := by decide +kernel
theorem dX7_goText_130 : decode cX7_goText 130 = .ok (.aload_n 0, 1) := by decide +kernel
theorem dX7_goText_131 : decode cX7_goText 131 = .ok (.getfield 76, 3) := by decide +kernel
theorem dX7_goText_134 : decode cX7_goText 134 = .ok (.istore 4, 2) := by decide +kernel
theorem dX7_goText_136 : decode cX7_goText 136 = .ok (.aload_n 0, 1) := by decide +kernel
theorem dX7_goText_137 : decode cX7_goText 137 = .ok (.iload 5, 2) := by decide +kernel
theorem dX7_goText_139 : decode cX7_goText 139 = .ok (.bipush (-6), 2) := by decide +kernel
theorem dX7_goText_141 : decode cX7_goText 141 = .ok (.invokevirtual 89, 3) := by decide +kernel
theorem dX7_goText_144 : decode cX7_goText 144 = .ok (.aload_n 0, 1) := by decide +kernel
theorem dX7_goText_145 : decode cX7_goText 145 = .ok (.iload 5, 2) := by decide +kernel
theorem dX7_goText_147 : decode cX7_goText 147 = .ok (.bipush (-6), 2) := by decide +kernel
theorem dX7_goText_149 : decode cX7_goText 149 = .ok (.invokevirtual 66, 3) := by decide +kernel
theorem dX7_goText_152 : decode cX7_goText 152 = .ok (.goto 157, 3) := by decide +kernel
theorem dX7_goText_155 : decode cX7_goText 155 = .ok (.aload_n 0, 1) := by decide +kernel
theorem dX7_goText_156 : decode cX7_goText 156 = .ok (.getfield 26, 3) := by decide +kernel
theorem dX7_goText_159 : decode cX7_goText 159 = .ok (.iload 4, 2) := by decide +kernel
theorem dX7_goText_161 : decode cX7_goText 161 = .ok (.iaload, 1) := by decide +kernel
theorem dX7_goText_162 : decode cX7_goText 162 = .ok (.bipush 63, 2) := by decide +kernel
theorem dX7_goText_164 : decode cX7_goText 164 = .ok (.if_icmp .ne 12, 3) := by decide +kernel
theorem dX7_goText_167 : decode cX7_goText 167 = .ok (.iload_n 1, 1) := by decide +kernel
theorem dX7_goText_168 : decode cX7_goText 168 = .ok (.iload_n 2, 1) := by decide +kernel
theorem dX7_goText_169 : decode cX7_goText 169 = .ok (.idiv, 1) := by decide +kernel
theorem dX7_goText_170 : decode cX7_goText 170 = .ok (.bipush 6, 2) := by decide +kernel
theorem dX7_goText_172 : decode cX7_goText 172 = .ok (.irem, 1) := by decide +kernel
theorem dX7_goText_173 : decode cX7_goText 173 = .ok (.goto 13, 3) := by decide +kernel
theorem dX7_goText_176 : decode cX7_goText 176 = .ok (.aload_n 0, 1) := by decide +kernel
theorem dX7_goText_177 : decode cX7_goText 177 = .ok (.getfield 26, 3) := by decide +kernel
theorem dX7_goText_180 : decode cX7_goText 180 = .ok (.iload 4, 2) := by decide +kernel
theorem dX7_goText_182 : decode cX7_goText 182 = .ok (.iaload, 1) := by decide +kernel
theorem dX7_goText_183 : decode cX7_goText 183 = .ok (.bipush 65, 2) := by decide +kernel
theorem dX7_goText_185 : decode cX7_goText 185 = .ok (.isub, 1) := by decide +kernel
theorem dX7_goText_186 : decode cX7_goText 186 = .ok (.istore 5, 2) := by decide +kernel
theorem dX7_goText_188 : decode cX7_goText 188 = .ok (.aload_n 0, 1) := by decide +kernel
theorem dX7_goText_189 : decode cX7_goText 189 = .ok (.getfield 26, 3) := by decide +kernel
theorem dX7_goText_192 : decode cX7_goText 192 = .ok (.iload 4, 2) := by decide +kernel
theorem dX7_goText_194 : decode cX7_goText 194 = .ok (.iaload, 1) := by decide +kernel
theorem dX7_goText_195 : decode cX7_goText 195 = .ok (.bipush 63, 2) := by decide +kernel
theorem dX7_goText_197 : decode cX7_goText 197 = .ok (.if_icmp .ne 15, 3) := by decide +kernel
theorem dX7_goText_200 : decode cX7_goText 200 = .ok (.iload_n 2, 1) := by decide +kernel
theorem dX7_goText_201 : decode cX7_goText 201 = .ok (.iconst 1, 1) := by decide +kernel
theorem dX7_goText_202 : decode cX7_goText 202 = .ok (.if_icmp .le 10, 3) := by decide +kernel
theorem dX7_goText_205 : decode cX7_goText 205 = .ok (.iload_n 2, 1) := by decide +kernel
theorem dX7_goText_206 : decode cX7_goText 206 = .ok (.bipush 6, 2) := by decide +kernel
theorem dX7_goText_208 : decode cX7_goText 208 = .ok (.idiv, 1) := by decide +kernel
theorem dX7_goText_209 : decode cX7_goText 209 = .ok (.goto 4, 3) := by decide +kernel
theorem dX7_goText_212 : decode cX7_goText 212 = .ok (.iload_n 2, 1) := by decide +kernel
theorem dX7_goText_213 : decode cX7_goText 213 = .ok (.istore_n 2, 1) := by decide +kernel
theorem dX7_goText_214 : decode cX7_goText 214 = .ok (.aload_n 0, 1) := by decide +kernel
theorem dX7_goText_215 : decode cX7_goText 215 = .ok (.getfield 26, 3) := by decide +kernel
theorem dX7_goText_218 : decode cX7_goText 218 = .ok (.iload 4, 2) := by decide +kernel
theorem dX7_goText_220 : decode cX7_goText 220 = .ok (.iconst 1, 1) := by decide +kernel
theorem dX7_goText_221 : decode cX7_goText 221 = .ok (.iadd, 1) := by decide +kernel
theorem dX7_goText_222 : decode cX7_goText 222 = .ok (.iaload, 1) := by decide +kernel
theorem dX7_goText_223 : decode cX7_goText 223 = .ok (.bipush 33, 2) := by decide +kernel
theorem dX7_goText_225 : decode cX7_goText 225 = .ok (.if_icmp .ne 7, 3) := by decide +kernel
theorem dX7_goText_228 : decode cX7_goText 228 = .ok (.iconst 1, 1) := by decide +kernel
theorem dX7_goText_229 : decode cX7_goText 229 = .ok (.goto 4, 3) := by decide +kernel
theorem dX7_goText_232 : decode cX7_goText 232 = .ok (.iconst 0, 1) := by decide +kernel
theorem dX7_goText_233 : decode cX7_goText 233 = .ok (.istore 6, 2) := by decide +kernel
theorem dX7_goText_235 : decode cX7_goText 235 = .ok (.aload_n 0, 1) := by decide +kernel
theorem dX7_goText_236 : decode cX7_goText 236 = .ok (.iload 6, 2) := by decide +kernel
theorem dX7_goText_238 : decode cX7_goText 238 = .ok (.ifCond .eq 10, 3) := by decide +kernel
theorem dX7_goText_241 : decode cX7_goText 241 = .ok (.iload 4, 2) := by decide +kernel
theorem dX7_goText_243 : decode cX7_goText 243 = .ok (.iconst 2, 1) := by decide +kernel
theorem dX7_goText_244 : decode cX7_goText 244 = .ok (.iadd, 1) := by decide +kernel
theorem dX7_goText_245 : decode cX7_goText 245 = .ok (.goto 7, 3) := by decide +kernel
theorem dX7_goText_248 : decode cX7_goText 248 = .ok (.iload 4, 2) := by decide +kernel
theorem dX7_goText_250 : decode cX7_goText 250 = .ok (.iconst 1, 1) := by decide +kernel
theorem dX7_goText_251 : decode cX7_goText 251 = .ok (.iadd, 1) := by decide +kernel
theorem dX7_goText_252 : decode cX7_goText 252 = .ok (.invokevirtual 85, 3) := by decide +kernel
theorem dX7_goText_255 : decode cX7_goText 255 = .ok (.istore 7, 2) := by decide +kernel
theorem dX7_goText_257 : decode cX7_goText 257 = .ok (.aload_n 0, 1) := by decide +kernel
theorem dX7_goText_258 : decode cX7_goText 258 = .ok (.getfield 76, 3) := by decide +kernel
theorem dX7_goText_261 : decode cX7_goText 261 = .ok (.istore 4, 2) := by decide +kernel
theorem dX7_goText_263 : decode cX7_goText 263 = .ok (.iload 6, 2) := by decide +kernel
theorem dX7_goText_265 : decode cX7_goText 265 = .ok (.ifCond .ne 15, 3) := by decide +kernel
theorem dX7_goText_268 : decode cX7_goText 268 = .ok (.aload_n 0, 1) := by decide +kernel
theorem dX7_goText_269 : decode cX7_goText 269 = .ok (.getfield 29, 3) := by decide +kernel
theorem dX7_goText_272 : decode cX7_goText 272 = .ok (.iload 5, 2) := by decide +kernel
theorem dX7_goText_274 : decode cX7_goText 274 = .ok (.iaload, 1) := by decide +kernel
theorem dX7_goText_275 : decode cX7_goText 275 = .ok (.ifCond .le 5, 3) := by decide +kernel
theorem dX7_goText_278 : decode cX7_goText 278 = .ok (.iload_n 3, 1) := by decide +kernel
theorem dX7_goText_279 : decode cX7_goText 279 = .ok (.ireturn, 1) := by decide +kernel
theorem dX7_goText_280 : decode cX7_goText 280 = .ok (.aload_n 0, 1) := by decide +kernel
theorem dX7_goText_281 : decode cX7_goText 281 = .ok (.iload 7, 2) := by decide +kernel
theorem dX7_goText_283 : decode cX7_goText 283 = .ok (.iload 5, 2) := by decide +kernel
theorem dX7_goText_285 : decode cX7_goText 285 = .ok (.invokevirtual 89, 3) := by decide +kernel
theorem dX7_goText_288 : decode cX7_goText 288 = .ok (.aload_n 0, 1) := by decide +kernel
theorem dX7_goText_289 : decode cX7_goText 289 = .ok (.iload 5, 2) := by decide +kernel
theorem dX7_goText_291 : decode cX7_goText 291 = .ok (.iload 7, 2) := by decide +kernel
theorem dX7_goText_293 : decode cX7_goText 293 = .ok (.iload 6, 2) := by decide +kernel
theorem dX7_goText_295 : decode cX7_goText 295 = .ok (.ifCond .eq 10, 3) := by decide +kernel
theorem dX7_goText_298 : decode cX7_goText 298 = .ok (.aload_n 0, 1) := by decide +kernel
theorem dX7_goText_299 : decode cX7_goText 299 = .ok (.getfield 13, 3) := by decide +kernel
theorem dX7_goText_302 : decode cX7_goText 302 = .ok (.goto 4, 3) := by decide +kernel
theorem dX7_goText_305 : decode cX7_goText 305 = .ok (.iconst 1, 1) := by decide +kernel
theorem dX7_goText_306 : decode cX7_goText 306 = .ok (.invokevirtual 92, 3) := by decide +kernel
theorem dX7_goText_309 : decode cX7_goText 309 = .ok (.iinc 3 1, 3) := by decide +kernel
theorem dX7_goText_312 : decode cX7_goText 312 = .ok (.goto (-275), 3) := by decide +kernel
theorem dX7_goText_315 : decode cX7_goText 315 = .ok (.bipush (-6), 2) := by decide +kernel
theorem dX7_goText_317 : decode cX7_goText 317 = .ok (.ireturn, 1) := by decide +kernel
theorem dX7_judge_0 : decode cX7_judge 0 = .ok (.aload_n 0, 1) := by decide +kernel
theorem dX7_judge_1 : decode cX7_judge 1 = .ok (.invokevirtual 55, 3) := by decide +kernel
theorem dX7_judge_4 : decode cX7_judge 4 = .ok (.ifCond .lt 6, 3) := by decide +kernel
theorem dX7_judge_7 : decode cX7_judge 7 = .ok (.bipush (-5), 2) := by decide +kernel
theorem dX7_judge_9 : decode cX7_judge 9 = .ok (.ireturn, 1) := by decide +kernel
theorem dX7_judge_10 : decode cX7_judge 10 = .ok (.aload_n 0, 1) := by decide +kernel
theorem dX7_judge_11 : decode cX7_judge 11 = .ok (.invokevirtual 82, 3) := by decide +kernel
theorem dX7_judge_14 : decode cX7_judge 14 = .ok (.ifCond .le 8, 3) := by decide +kernel
theorem dX7_judge_17 : decode cX7_judge 17 = .ok (.bipush (-3), 2) := by decide +kernel
theorem dX7_judge_19 : decode cX7_judge 19 = .ok (.goto 8, 3) := by decide +kernel
theorem dX7_judge_22 : decode cX7_judge 22 = .ok (.aload_n 0, 1) := by decide +kernel
theorem dX7_judge_23 : decode cX7_judge 23 = .ok (.iconst 0, 1) := by decide +kernel
theorem dX7_judge_24 : decode cX7_judge 24 = .ok (.invokevirtual 96, 3) := by decide +kernel
theorem dX7_judge_27 : decode cX7_judge 27 = .ok (.ireturn, 1) := by decide +kernel
theorem dX7_barOfText_0 : decode cX7_barOfText 0 = .ok (.aload_n 0, 1) := by decide +kernel
theorem dX7_barOfText_1 : decode cX7_barOfText 1 = .ok (.bipush (-6), 2) := by decide +kernel
theorem dX7_barOfText_3 : decode cX7_barOfText 3 = .ok (.putfield 70, 3) := by decide +kernel
theorem dX7_barOfText_6 : decode cX7_barOfText 6 = .ok (.aload_n 0, 1) := by decide +kernel
theorem dX7_barOfText_7 : decode cX7_barOfText 7 = .ok (.invokevirtual 55, 3) := by decide +kernel
theorem dX7_barOfText_10 : decode cX7_barOfText 10 = .ok (.ifCond .lt 8, 3) := by decide +kernel
theorem dX7_barOfText_13 : decode cX7_barOfText 13 = .ok (.bipush (-5), 2) := by decide +kernel
theorem dX7_barOfText_15 : decode cX7_barOfText 15 = .ok (.goto 29, 3) := by decide +kernel
theorem dX7_barOfText_18 : decode cX7_barOfText 18 = .ok (.aload_n 0, 1) := by decide +kernel
theorem dX7_barOfText_19 : decode cX7_barOfText 19 = .ok (.invokevirtual 82, 3) := by decide +kernel
theorem dX7_barOfText_22 : decode cX7_barOfText 22 = .ok (.ifCond .le 8, 3) := by decide +kernel
theorem dX7_barOfText_25 : decode cX7_barOfText 25 = .ok (.bipush (-3), 2) := by decide +kernel
theorem dX7_barOfText_27 : decode cX7_barOfText 27 = .ok (.goto 17, 3) := by decide +kernel
theorem dX7_barOfText_30 : decode cX7_barOfText 30 = .ok (.aload_n 0, 1) := by decide +kernel
theorem dX7_barOfText_31 : decode cX7_barOfText 31 = .ok (.iconst 0, 1) := by decide +kernel
theorem dX7_barOfText_32 : decode cX7_barOfText 32 = .ok (.invokevirtual 96, 3) := by decide +kernel
theorem dX7_barOfText_35 : decode cX7_barOfText 35 = .ok (.ifCond .lt 8, 3) := by decide +kernel
theorem dX7_barOfText_38 : decode cX7_barOfText 38 = .ok (.bipush (-5), 2) := by decide +kernel
theorem dX7_barOfText_40 : decode cX7_barOfText 40 = .ok (.goto 4, 3) := by decide +kernel
theorem dX7_barOfText_43 : decode cX7_barOfText 43 = .ok (.iconst 0, 1) := by decide +kernel
theorem dX7_barOfText_44 : decode cX7_barOfText 44 = .ok (.ireturn, 1) := by decide +kernel
theorem dX7_done_0 : decode cX7_done 0 = .ok (.aload_n 0, 1) := by decide +kernel
theorem dX7_done_1 : decode cX7_done 1 = .ok (.invokevirtual 99, 3) := by decide +kernel
theorem dX7_done_4 : decode cX7_done 4 = .ok (.istore_n 1, 1) := by decide +kernel
theorem dX7_done_5 : decode cX7_done 5 = .ok (.iload_n 1, 1) := by decide +kernel
theorem dX7_done_6 : decode cX7_done 6 = .ok (.ifCond .ge 5, 3) := by decide +kernel
theorem dX7_done_9 : decode cX7_done 9 = .ok (.iload_n 1, 1) := by decide +kernel
theorem dX7_done_10 : decode cX7_done 10 = .ok (.ireturn, 1) := by decide +kernel
theorem dX7_done_11 : decode cX7_done 11 = .ok (.iconst 0, 1) := by decide +kernel
theorem dX7_done_12 : decode cX7_done 12 = .ok (.istore_n 2, 1) := by decide +kernel
theorem dX7_done_13 : decode cX7_done 13 = .ok (.iload_n 2, 1) := by decide +kernel
theorem dX7_done_14 : decode cX7_done 14 = .ok (.bipush 6, 2) := by decide +kernel
theorem dX7_done_16 : decode cX7_done 16 = .ok (.if_icmp .ge 21, 3) := by decide +kernel
theorem dX7_done_19 : decode cX7_done 19 = .ok (.aload_n 0, 1) := by decide +kernel
theorem dX7_done_20 : decode cX7_done 20 = .ok (.getfield 16, 3) := by decide +kernel
theorem dX7_done_23 : decode cX7_done 23 = .ok (.iload_n 2, 1) := by decide +kernel
theorem dX7_done_24 : decode cX7_done 24 = .ok (.aload_n 0, 1) := by decide +kernel
theorem dX7_done_25 : decode cX7_done 25 = .ok (.getfield 29, 3) := by decide +kernel
theorem dX7_done_28 : decode cX7_done 28 = .ok (.iload_n 2, 1) := by decide +kernel
theorem dX7_done_29 : decode cX7_done 29 = .ok (.iaload, 1) := by decide +kernel
theorem dX7_done_30 : decode cX7_done 30 = .ok (.iastore, 1) := by decide +kernel
theorem dX7_done_31 : decode cX7_done 31 = .ok (.iinc 2 1, 3) := by decide +kernel
theorem dX7_done_34 : decode cX7_done 34 = .ok (.goto (-21), 3) := by decide +kernel
theorem dX7_done_37 : decode cX7_done 37 = .ok (.aload_n 0, 1) := by decide +kernel
theorem dX7_done_38 : decode cX7_done 38 = .ok (.dup, 1) := by decide +kernel
theorem dX7_done_39 : decode cX7_done 39 = .ok (.getfield 45, 3) := by decide +kernel
theorem dX7_done_42 : decode cX7_done 42 = .ok (.aload_n 0, 1) := by decide +kernel
theorem dX7_done_43 : decode cX7_done 43 = .ok (.getfield 59, 3) := by decide +kernel
theorem dX7_done_46 : decode cX7_done 46 = .ok (.iadd, 1) := by decide +kernel
theorem dX7_done_47 : decode cX7_done 47 = .ok (.putfield 45, 3) := by decide +kernel
theorem dX7_done_50 : decode cX7_done 50 = .ok (.aload_n 0, 1) := by decide +kernel
theorem dX7_done_51 : decode cX7_done 51 = .ok (.iconst 0, 1) := by decide +kernel
theorem dX7_done_52 : decode cX7_done 52 = .ok (.putfield 52, 3) := by decide +kernel
theorem dX7_done_55 : decode cX7_done 55 = .ok (.aload_n 0, 1) := by decide +kernel
theorem dX7_done_56 : decode cX7_done 56 = .ok (.getfield 59, 3) := by decide +kernel
theorem dX7_done_59 : decode cX7_done 59 = .ok (.ireturn, 1) := by decide +kernel
theorem dX7_behind_0 : decode cX7_behind 0 = .ok (.iload_n 1, 1) := by decide +kernel
theorem dX7_behind_1 : decode cX7_behind 1 = .ok (.iconst (-1), 1) := by decide +kernel
theorem dX7_behind_2 : decode cX7_behind 2 = .ok (.if_icmp .eq 12, 3) := by decide +kernel
theorem dX7_behind_5 : decode cX7_behind 5 = .ok (.iload_n 1, 1) := by decide +kernel
theorem dX7_behind_6 : decode cX7_behind 6 = .ok (.invokestatic 102, 3) := by decide +kernel
theorem dX7_behind_9 : decode cX7_behind 9 = .ok (.ifCond .ne 5, 3) := by decide +kernel
theorem dX7_behind_12 : decode cX7_behind 12 = .ok (.iconst (-1), 1) := by decide +kernel
theorem dX7_behind_13 : decode cX7_behind 13 = .ok (.ireturn, 1) := by decide +kernel
theorem dX7_behind_14 : decode cX7_behind 14 = .ok (.aload_n 0, 1) := by decide +kernel
theorem dX7_behind_15 : decode cX7_behind 15 = .ok (.invokevirtual 99, 3) := by decide +kernel
theorem dX7_behind_18 : decode cX7_behind 18 = .ok (.istore_n 2, 1) := by decide +kernel
theorem dX7_behind_19 : decode cX7_behind 19 = .ok (.iload_n 2, 1) := by decide +kernel
theorem dX7_behind_20 : decode cX7_behind 20 = .ok (.ifCond .ge 7, 3) := by decide +kernel
theorem dX7_behind_23 : decode cX7_behind 23 = .ok (.iload_n 2, 1) := by decide +kernel
theorem dX7_behind_24 : decode cX7_behind 24 = .ok (.goto 24, 3) := by decide +kernel
theorem dX7_behind_27 : decode cX7_behind 27 = .ok (.iload_n 1, 1) := by decide +kernel
theorem dX7_behind_28 : decode cX7_behind 28 = .ok (.ifCond .ge 10, 3) := by decide +kernel
theorem dX7_behind_31 : decode cX7_behind 31 = .ok (.aload_n 0, 1) := by decide +kernel
theorem dX7_behind_32 : decode cX7_behind 32 = .ok (.getfield 59, 3) := by decide +kernel
theorem dX7_behind_35 : decode cX7_behind 35 = .ok (.goto 13, 3) := by decide +kernel
theorem dX7_behind_38 : decode cX7_behind 38 = .ok (.aload_n 0, 1) := by decide +kernel
theorem dX7_behind_39 : decode cX7_behind 39 = .ok (.getfield 29, 3) := by decide +kernel
theorem dX7_behind_42 : decode cX7_behind 42 = .ok (.iload_n 1, 1) := by decide +kernel
theorem dX7_behind_43 : decode cX7_behind 43 = .ok (.iaload, 1) := by decide +kernel
theorem dX7_behind_44 : decode cX7_behind 44 = .ok (.sipush 1000, 3) := by decide +kernel
theorem dX7_behind_47 : decode cX7_behind 47 = .ok (.iadd, 1) := by decide +kernel
theorem dX7_behind_48 : decode cX7_behind 48 = .ok (.ireturn, 1) := by decide +kernel
theorem dX7_free_0 : decode cX7_free 0 = .ok (.iload_n 1, 1) := by decide +kernel
theorem dX7_free_1 : decode cX7_free 1 = .ok (.invokestatic 102, 3) := by decide +kernel
theorem dX7_free_4 : decode cX7_free 4 = .ok (.ifCond .ne 7, 3) := by decide +kernel
theorem dX7_free_7 : decode cX7_free 7 = .ok (.iconst (-1), 1) := by decide +kernel
theorem dX7_free_8 : decode cX7_free 8 = .ok (.goto 22, 3) := by decide +kernel
theorem dX7_free_11 : decode cX7_free 11 = .ok (.aload_n 0, 1) := by decide +kernel
theorem dX7_free_12 : decode cX7_free 12 = .ok (.getfield 16, 3) := by decide +kernel
theorem dX7_free_15 : decode cX7_free 15 = .ok (.iload_n 1, 1) := by decide +kernel
theorem dX7_free_16 : decode cX7_free 16 = .ok (.iaload, 1) := by decide +kernel
theorem dX7_free_17 : decode cX7_free 17 = .ok (.ifCond .le 12, 3) := by decide +kernel
theorem dX7_free_20 : decode cX7_free 20 = .ok (.aload_n 0, 1) := by decide +kernel
theorem dX7_free_21 : decode cX7_free 21 = .ok (.getfield 16, 3) := by decide +kernel
theorem dX7_free_24 : decode cX7_free 24 = .ok (.iload_n 1, 1) := by decide +kernel
theorem dX7_free_25 : decode cX7_free 25 = .ok (.iaload, 1) := by decide +kernel
theorem dX7_free_26 : decode cX7_free 26 = .ok (.goto 4, 3) := by decide +kernel
theorem dX7_free_29 : decode cX7_free 29 = .ok (.iconst 0, 1) := by decide +kernel
theorem dX7_free_30 : decode cX7_free 30 = .ok (.ireturn, 1) := by decide +kernel
theorem dX7_answer_0 : decode cX7_answer 0 = .ok (.iload_n 1, 1) := by decide +kernel
theorem dX7_answer_1 : decode cX7_answer 1 = .ok (.invokestatic 102, 3) := by decide +kernel
theorem dX7_answer_4 : decode cX7_answer 4 = .ok (.ifCond .ne 5, 3) := by decide +kernel
theorem dX7_answer_7 : decode cX7_answer 7 = .ok (.iconst (-1), 1) := by decide +kernel
theorem dX7_answer_8 : decode cX7_answer 8 = .ok (.ireturn, 1) := by decide +kernel
theorem dX7_answer_9 : decode cX7_answer 9 = .ok (.iload_n 2, 1) := by decide +kernel
theorem dX7_answer_10 : decode cX7_answer 10 = .ok (.iconst 1, 1) := by decide +kernel
theorem dX7_answer_11 : decode cX7_answer 11 = .ok (.bipush 99, 2) := by decide +kernel
theorem dX7_answer_13 : decode cX7_answer 13 = .ok (.invokestatic 48, 3) := by decide +kernel
theorem dX7_answer_16 : decode cX7_answer 16 = .ok (.ifCond .ne 6, 3) := by decide +kernel
theorem dX7_answer_19 : decode cX7_answer 19 = .ok (.bipush (-2), 2) := by decide +kernel
theorem dX7_answer_21 : decode cX7_answer 21 = .ok (.ireturn, 1) := by decide +kernel
theorem dX7_answer_22 : decode cX7_answer 22 = .ok (.aload_n 0, 1) := by decide +kernel
theorem dX7_answer_23 : decode cX7_answer 23 = .ok (.getfield 16, 3) := by decide +kernel
theorem dX7_answer_26 : decode cX7_answer 26 = .ok (.iload_n 1, 1) := by decide +kernel
theorem dX7_answer_27 : decode cX7_answer 27 = .ok (.iaload, 1) := by decide +kernel
theorem dX7_answer_28 : decode cX7_answer 28 = .ok (.ifCond .le 6, 3) := by decide +kernel
theorem dX7_answer_31 : decode cX7_answer 31 = .ok (.bipush (-3), 2) := by decide +kernel
theorem dX7_answer_33 : decode cX7_answer 33 = .ok (.ireturn, 1) := by decide +kernel
theorem dX7_answer_34 : decode cX7_answer 34 = .ok (.aload_n 0, 1) := by decide +kernel
theorem dX7_answer_35 : decode cX7_answer 35 = .ok (.invokevirtual 79, 3) := by decide +kernel
theorem dX7_answer_38 : decode cX7_answer 38 = .ok (.aload_n 0, 1) := by decide +kernel
theorem dX7_answer_39 : decode cX7_answer 39 = .ok (.iload_n 1, 1) := by decide +kernel
theorem dX7_answer_40 : decode cX7_answer 40 = .ok (.iload_n 2, 1) := by decide +kernel
theorem dX7_answer_41 : decode cX7_answer 41 = .ok (.iconst 1, 1) := by decide +kernel
theorem dX7_answer_42 : decode cX7_answer 42 = .ok (.invokevirtual 92, 3) := by decide +kernel
theorem dX7_answer_45 : decode cX7_answer 45 = .ok (.iconst 0, 1) := by decide +kernel
theorem dX7_answer_46 : decode cX7_answer 46 = .ok (.istore_n 3, 1) := by decide +kernel
theorem dX7_answer_47 : decode cX7_answer 47 = .ok (.iconst 0, 1) := by decide +kernel
theorem dX7_answer_48 : decode cX7_answer 48 = .ok (.istore 4, 2) := by decide +kernel
theorem dX7_answer_50 : decode cX7_answer 50 = .ok (.iload 4, 2) := by decide +kernel
theorem dX7_answer_52 : decode cX7_answer 52 = .ok (.bipush 6, 2) := by decide +kernel
theorem dX7_answer_54 : decode cX7_answer 54 = .ok (.if_icmp .ge 30, 3) := by decide +kernel
theorem dX7_answer_57 : decode cX7_answer 57 = .ok (.iload_n 3, 1) := by decide +kernel
theorem dX7_answer_58 : decode cX7_answer 58 = .ok (.aload_n 0, 1) := by decide +kernel
theorem dX7_answer_59 : decode cX7_answer 59 = .ok (.getfield 29, 3) := by decide +kernel
theorem dX7_answer_62 : decode cX7_answer 62 = .ok (.iload 4, 2) := by decide +kernel
theorem dX7_answer_64 : decode cX7_answer 64 = .ok (.iaload, 1) := by decide +kernel
theorem dX7_answer_65 : decode cX7_answer 65 = .ok (.ifCond .gt 10, 3) := by decide +kernel
theorem dX7_answer_68 : decode cX7_answer 68 = .ok (.iconst 1, 1) := by decide +kernel
theorem dX7_answer_69 : decode cX7_answer 69 = .ok (.iload 4, 2) := by decide +kernel
theorem dX7_answer_71 : decode cX7_answer 71 = .ok (.ishl, 1) := by decide +kernel
theorem dX7_answer_72 : decode cX7_answer 72 = .ok (.goto 4, 3) := by decide +kernel
theorem dX7_answer_75 : decode cX7_answer 75 = .ok (.iconst 0, 1) := by decide +kernel
theorem dX7_answer_76 : decode cX7_answer 76 = .ok (.ior, 1) := by decide +kernel
theorem dX7_answer_77 : decode cX7_answer 77 = .ok (.istore_n 3, 1) := by decide +kernel
theorem dX7_answer_78 : decode cX7_answer 78 = .ok (.iinc 4 1, 3) := by decide +kernel
theorem dX7_answer_81 : decode cX7_answer 81 = .ok (.goto (-31), 3) := by decide +kernel
theorem dX7_answer_84 : decode cX7_answer 84 = .ok (.iload_n 3, 1) := by decide +kernel
theorem dX7_answer_85 : decode cX7_answer 85 = .ok (.ireturn, 1) := by decide +kernel
theorem dX7_give_0 : decode cX7_give 0 = .ok (.iload_n 1, 1) := by decide +kernel
theorem dX7_give_1 : decode cX7_give 1 = .ok (.invokestatic 102, 3) := by decide +kernel
theorem dX7_give_4 : decode cX7_give 4 = .ok (.ifCond .eq 15, 3) := by decide +kernel
theorem dX7_give_7 : decode cX7_give 7 = .ok (.iload_n 2, 1) := by decide +kernel
theorem dX7_give_8 : decode cX7_give 8 = .ok (.invokestatic 102, 3) := by decide +kernel
theorem dX7_give_11 : decode cX7_give 11 = .ok (.ifCond .eq 8, 3) := by decide +kernel
theorem dX7_give_14 : decode cX7_give 14 = .ok (.iload_n 1, 1) := by decide +kernel
theorem dX7_give_15 : decode cX7_give 15 = .ok (.iload_n 2, 1) := by decide +kernel
theorem dX7_give_16 : decode cX7_give 16 = .ok (.if_icmp .ne 5, 3) := by decide +kernel
theorem dX7_give_19 : decode cX7_give 19 = .ok (.iconst (-1), 1) := by decide +kernel
theorem dX7_give_20 : decode cX7_give 20 = .ok (.ireturn, 1) := by decide +kernel
theorem dX7_give_21 : decode cX7_give 21 = .ok (.iload_n 3, 1) := by decide +kernel
theorem dX7_give_22 : decode cX7_give 22 = .ok (.iconst 1, 1) := by decide +kernel
theorem dX7_give_23 : decode cX7_give 23 = .ok (.bipush 99, 2) := by decide +kernel
theorem dX7_give_25 : decode cX7_give 25 = .ok (.invokestatic 48, 3) := by decide +kernel
theorem dX7_give_28 : decode cX7_give 28 = .ok (.ifCond .ne 6, 3) := by decide +kernel
theorem dX7_give_31 : decode cX7_give 31 = .ok (.bipush (-2), 2) := by decide +kernel
theorem dX7_give_33 : decode cX7_give 33 = .ok (.ireturn, 1) := by decide +kernel
theorem dX7_give_34 : decode cX7_give 34 = .ok (.aload_n 0, 1) := by decide +kernel
theorem dX7_give_35 : decode cX7_give 35 = .ok (.getfield 16, 3) := by decide +kernel
theorem dX7_give_38 : decode cX7_give 38 = .ok (.iload_n 1, 1) := by decide +kernel
theorem dX7_give_39 : decode cX7_give 39 = .ok (.iaload, 1) := by decide +kernel
theorem dX7_give_40 : decode cX7_give 40 = .ok (.ineg, 1) := by decide +kernel
theorem dX7_give_41 : decode cX7_give 41 = .ok (.iload_n 3, 1) := by decide +kernel
theorem dX7_give_42 : decode cX7_give 42 = .ok (.if_icmp .ge 6, 3) := by decide +kernel
theorem dX7_give_45 : decode cX7_give 45 = .ok (.bipush (-3), 2) := by decide +kernel
theorem dX7_give_47 : decode cX7_give 47 = .ok (.ireturn, 1) := by decide +kernel
theorem dX7_give_48 : decode cX7_give 48 = .ok (.aload_n 0, 1) := by decide +kernel
theorem dX7_give_49 : decode cX7_give 49 = .ok (.getfield 16, 3) := by decide +kernel
theorem dX7_give_52 : decode cX7_give 52 = .ok (.iload_n 2, 1) := by decide +kernel
theorem dX7_give_53 : decode cX7_give 53 = .ok (.iaload, 1) := by decide +kernel
theorem dX7_give_54 : decode cX7_give 54 = .ok (.istore 4, 2) := by decide +kernel
theorem dX7_give_56 : decode cX7_give 56 = .ok (.aload_n 0, 1) := by decide +kernel
theorem dX7_give_57 : decode cX7_give 57 = .ok (.getfield 16, 3) := by decide +kernel
theorem dX7_give_60 : decode cX7_give 60 = .ok (.iload_n 1, 1) := by decide +kernel
theorem dX7_give_61 : decode cX7_give 61 = .ok (.dup2, 1) := by decide +kernel
theorem dX7_give_62 : decode cX7_give 62 = .ok (.iaload, 1) := by decide +kernel
theorem dX7_give_63 : decode cX7_give 63 = .ok (.iload_n 3, 1) := by decide +kernel
theorem dX7_give_64 : decode cX7_give 64 = .ok (.iadd, 1) := by decide +kernel
theorem dX7_give_65 : decode cX7_give 65 = .ok (.iastore, 1) := by decide +kernel
theorem dX7_give_66 : decode cX7_give 66 = .ok (.aload_n 0, 1) := by decide +kernel
theorem dX7_give_67 : decode cX7_give 67 = .ok (.getfield 16, 3) := by decide +kernel
theorem dX7_give_70 : decode cX7_give 70 = .ok (.iload_n 2, 1) := by decide +kernel
theorem dX7_give_71 : decode cX7_give 71 = .ok (.aload_n 0, 1) := by decide +kernel
theorem dX7_give_72 : decode cX7_give 72 = .ok (.iload 4, 2) := by decide +kernel
theorem dX7_give_74 : decode cX7_give 74 = .ok (.iload_n 3, 1) := by decide +kernel
theorem dX7_give_75 : decode cX7_give 75 = .ok (.invokevirtual 62, 3) := by decide +kernel
theorem dX7_give_78 : decode cX7_give 78 = .ok (.iastore, 1) := by decide +kernel
theorem dX7_give_79 : decode cX7_give 79 = .ok (.iload_n 3, 1) := by decide +kernel
theorem dX7_give_80 : decode cX7_give 80 = .ok (.iload 4, 2) := by decide +kernel
theorem dX7_give_82 : decode cX7_give 82 = .ok (.aload_n 0, 1) := by decide +kernel
theorem dX7_give_83 : decode cX7_give 83 = .ok (.getfield 16, 3) := by decide +kernel
theorem dX7_give_86 : decode cX7_give 86 = .ok (.iload_n 2, 1) := by decide +kernel
theorem dX7_give_87 : decode cX7_give 87 = .ok (.iaload, 1) := by decide +kernel
theorem dX7_give_88 : decode cX7_give 88 = .ok (.isub, 1) := by decide +kernel
theorem dX7_give_89 : decode cX7_give 89 = .ok (.isub, 1) := by decide +kernel
theorem dX7_give_90 : decode cX7_give 90 = .ok (.ireturn, 1) := by decide +kernel
theorem dX7_saying_0 : decode cX7_saying 0 = .ok (.iload_n 1, 1) := by decide +kernel
theorem dX7_saying_1 : decode cX7_saying 1 = .ok (.invokestatic 102, 3) := by decide +kernel
theorem dX7_saying_4 : decode cX7_saying 4 = .ok (.ifCond .eq 17, 3) := by decide +kernel
theorem dX7_saying_7 : decode cX7_saying 7 = .ok (.iload_n 3, 1) := by decide +kernel
theorem dX7_saying_8 : decode cX7_saying 8 = .ok (.iconst (-1), 1) := by decide +kernel
theorem dX7_saying_9 : decode cX7_saying 9 = .ok (.aload_n 0, 1) := by decide +kernel
theorem dX7_saying_10 : decode cX7_saying 10 = .ok (.getfield 106, 3) := by decide +kernel
theorem dX7_saying_13 : decode cX7_saying 13 = .ok (.iconst 1, 1) := by decide +kernel
theorem dX7_saying_14 : decode cX7_saying 14 = .ok (.isub, 1) := by decide +kernel
theorem dX7_saying_15 : decode cX7_saying 15 = .ok (.invokestatic 48, 3) := by decide +kernel
theorem dX7_saying_18 : decode cX7_saying 18 = .ok (.ifCond .ne 5, 3) := by decide +kernel
theorem dX7_saying_21 : decode cX7_saying 21 = .ok (.iconst (-1), 1) := by decide +kernel
theorem dX7_saying_22 : decode cX7_saying 22 = .ok (.ireturn, 1) := by decide +kernel
theorem dX7_saying_23 : decode cX7_saying 23 = .ok (.iload_n 2, 1) := by decide +kernel
theorem dX7_saying_24 : decode cX7_saying 24 = .ok (.iconst 1, 1) := by decide +kernel
theorem dX7_saying_25 : decode cX7_saying 25 = .ok (.bipush 99, 2) := by decide +kernel
theorem dX7_saying_27 : decode cX7_saying 27 = .ok (.invokestatic 48, 3) := by decide +kernel
theorem dX7_saying_30 : decode cX7_saying 30 = .ok (.ifCond .ne 6, 3) := by decide +kernel
theorem dX7_saying_33 : decode cX7_saying 33 = .ok (.bipush (-2), 2) := by decide +kernel
theorem dX7_saying_35 : decode cX7_saying 35 = .ok (.ireturn, 1) := by decide +kernel
theorem dX7_saying_36 : decode cX7_saying 36 = .ok (.aload_n 0, 1) := by decide +kernel
theorem dX7_saying_37 : decode cX7_saying 37 = .ok (.getfield 106, 3) := by decide +kernel
theorem dX7_saying_40 : decode cX7_saying 40 = .ok (.bipush 7, 2) := by decide +kernel
theorem dX7_saying_42 : decode cX7_saying 42 = .ok (.if_icmp .ne 6, 3) := by decide +kernel
theorem dX7_saying_45 : decode cX7_saying 45 = .ok (.bipush (-4), 2) := by decide +kernel
theorem dX7_saying_47 : decode cX7_saying 47 = .ok (.ireturn, 1) := by decide +kernel
theorem dX7_saying_48 : decode cX7_saying 48 = .ok (.aload_n 0, 1) := by decide +kernel
theorem dX7_saying_49 : decode cX7_saying 49 = .ok (.getfield 20, 3) := by decide +kernel
theorem dX7_saying_52 : decode cX7_saying 52 = .ok (.iconst 3, 1) := by decide +kernel
theorem dX7_saying_53 : decode cX7_saying 53 = .ok (.aload_n 0, 1) := by decide +kernel
theorem dX7_saying_54 : decode cX7_saying 54 = .ok (.getfield 106, 3) := by decide +kernel
theorem dX7_saying_57 : decode cX7_saying 57 = .ok (.imul, 1) := by decide +kernel
theorem dX7_saying_58 : decode cX7_saying 58 = .ok (.iload_n 1, 1) := by decide +kernel
theorem dX7_saying_59 : decode cX7_saying 59 = .ok (.iastore, 1) := by decide +kernel
theorem dX7_saying_60 : decode cX7_saying 60 = .ok (.aload_n 0, 1) := by decide +kernel
theorem dX7_saying_61 : decode cX7_saying 61 = .ok (.getfield 20, 3) := by decide +kernel
theorem dX7_saying_64 : decode cX7_saying 64 = .ok (.iconst 3, 1) := by decide +kernel
theorem dX7_saying_65 : decode cX7_saying 65 = .ok (.aload_n 0, 1) := by decide +kernel
theorem dX7_saying_66 : decode cX7_saying 66 = .ok (.getfield 106, 3) := by decide +kernel
theorem dX7_saying_69 : decode cX7_saying 69 = .ok (.imul, 1) := by decide +kernel
theorem dX7_saying_70 : decode cX7_saying 70 = .ok (.iconst 1, 1) := by decide +kernel
theorem dX7_saying_71 : decode cX7_saying 71 = .ok (.iadd, 1) := by decide +kernel
theorem dX7_saying_72 : decode cX7_saying 72 = .ok (.iload_n 2, 1) := by decide +kernel
theorem dX7_saying_73 : decode cX7_saying 73 = .ok (.iastore, 1) := by decide +kernel
theorem dX7_saying_74 : decode cX7_saying 74 = .ok (.aload_n 0, 1) := by decide +kernel
theorem dX7_saying_75 : decode cX7_saying 75 = .ok (.getfield 20, 3) := by decide +kernel
theorem dX7_saying_78 : decode cX7_saying 78 = .ok (.iconst 3, 1) := by decide +kernel
theorem dX7_saying_79 : decode cX7_saying 79 = .ok (.aload_n 0, 1) := by decide +kernel
theorem dX7_saying_80 : decode cX7_saying 80 = .ok (.getfield 106, 3) := by decide +kernel
theorem dX7_saying_83 : decode cX7_saying 83 = .ok (.imul, 1) := by decide +kernel
theorem dX7_saying_84 : decode cX7_saying 84 = .ok (.iconst 2, 1) := by decide +kernel
theorem dX7_saying_85 : decode cX7_saying 85 = .ok (.iadd, 1) := by decide +kernel
theorem dX7_saying_86 : decode cX7_saying 86 = .ok (.iload_n 3, 1) := by decide +kernel
theorem dX7_saying_87 : decode cX7_saying 87 = .ok (.iastore, 1) := by decide +kernel
theorem dX7_saying_88 : decode cX7_saying 88 = .ok (.aload_n 0, 1) := by decide +kernel
theorem dX7_saying_89 : decode cX7_saying 89 = .ok (.dup, 1) := by decide +kernel
theorem dX7_saying_90 : decode cX7_saying 90 = .ok (.getfield 106, 3) := by decide +kernel
theorem dX7_saying_93 : decode cX7_saying 93 = .ok (.iconst 1, 1) := by decide +kernel
theorem dX7_saying_94 : decode cX7_saying 94 = .ok (.iadd, 1) := by decide +kernel
theorem dX7_saying_95 : decode cX7_saying 95 = .ok (.putfield 106, 3) := by decide +kernel
theorem dX7_saying_98 : decode cX7_saying 98 = .ok (.aload_n 0, 1) := by decide +kernel
theorem dX7_saying_99 : decode cX7_saying 99 = .ok (.getfield 106, 3) := by decide +kernel
theorem dX7_saying_102 : decode cX7_saying 102 = .ok (.ireturn, 1) := by decide +kernel
theorem dX7_drop_0 : decode cX7_drop 0 = .ok (.aload_n 0, 1) := by decide +kernel
theorem dX7_drop_1 : decode cX7_drop 1 = .ok (.getfield 106, 3) := by decide +kernel
theorem dX7_drop_4 : decode cX7_drop 4 = .ok (.istore_n 1, 1) := by decide +kernel
theorem dX7_drop_5 : decode cX7_drop 5 = .ok (.aload_n 0, 1) := by decide +kernel
theorem dX7_drop_6 : decode cX7_drop 6 = .ok (.iconst 0, 1) := by decide +kernel
theorem dX7_drop_7 : decode cX7_drop 7 = .ok (.putfield 106, 3) := by decide +kernel
theorem dX7_drop_10 : decode cX7_drop 10 = .ok (.iload_n 1, 1) := by decide +kernel
theorem dX7_drop_11 : decode cX7_drop 11 = .ok (.ireturn, 1) := by decide +kernel
theorem dX7_nextRow_0 : decode cX7_nextRow 0 = .ok (.iload_n 1, 1) := by decide +kernel
theorem dX7_nextRow_1 : decode cX7_nextRow 1 = .ok (.iconst 2, 1) := by decide +kernel
theorem dX7_nextRow_2 : decode cX7_nextRow 2 = .ok (.isub, 1) := by decide +kernel
theorem dX7_nextRow_3 : decode cX7_nextRow 3 = .ok (.istore_n 2, 1) := by decide +kernel
theorem dX7_nextRow_4 : decode cX7_nextRow 4 = .ok (.iload_n 2, 1) := by decide +kernel
theorem dX7_nextRow_5 : decode cX7_nextRow 5 = .ok (.ifCond .lt 26, 3) := by decide +kernel
theorem dX7_nextRow_8 : decode cX7_nextRow 8 = .ok (.aload_n 0, 1) := by decide +kernel
theorem dX7_nextRow_9 : decode cX7_nextRow 9 = .ok (.getfield 32, 3) := by decide +kernel
theorem dX7_nextRow_12 : decode cX7_nextRow 12 = .ok (.iload_n 2, 1) := by decide +kernel
theorem dX7_nextRow_13 : decode cX7_nextRow 13 = .ok (.iaload, 1) := by decide +kernel
theorem dX7_nextRow_14 : decode cX7_nextRow 14 = .ok (.aload_n 0, 1) := by decide +kernel
theorem dX7_nextRow_15 : decode cX7_nextRow 15 = .ok (.getfield 32, 3) := by decide +kernel
theorem dX7_nextRow_18 : decode cX7_nextRow 18 = .ok (.iload_n 2, 1) := by decide +kernel
theorem dX7_nextRow_19 : decode cX7_nextRow 19 = .ok (.iconst 1, 1) := by decide +kernel
theorem dX7_nextRow_20 : decode cX7_nextRow 20 = .ok (.iadd, 1) := by decide +kernel
theorem dX7_nextRow_21 : decode cX7_nextRow 21 = .ok (.iaload, 1) := by decide +kernel
theorem dX7_nextRow_22 : decode cX7_nextRow 22 = .ok (.if_icmp .le 9, 3) := by decide +kernel
theorem dX7_nextRow_25 : decode cX7_nextRow 25 = .ok (.iinc 2 (-1), 3) := by decide +kernel
theorem dX7_nextRow_28 : decode cX7_nextRow 28 = .ok (.goto (-24), 3) := by decide +kernel
theorem dX7_nextRow_31 : decode cX7_nextRow 31 = .ok (.iload_n 2, 1) := by decide +kernel
theorem dX7_nextRow_32 : decode cX7_nextRow 32 = .ok (.ifCond .ge 5, 3) := by decide +kernel
theorem dX7_nextRow_35 : decode cX7_nextRow 35 = .ok (.iconst 0, 1) := by decide +kernel
theorem dX7_nextRow_36 : decode cX7_nextRow 36 = .ok (.ireturn, 1) := by decide +kernel
theorem dX7_nextRow_37 : decode cX7_nextRow 37 = .ok (.iload_n 1, 1) := by decide +kernel
theorem dX7_nextRow_38 : decode cX7_nextRow 38 = .ok (.iconst 1, 1) := by decide +kernel
theorem dX7_nextRow_39 : decode cX7_nextRow 39 = .ok (.isub, 1) := by decide +kernel
theorem dX7_nextRow_40 : decode cX7_nextRow 40 = .ok (.istore_n 3, 1) := by decide +kernel
theorem dX7_nextRow_41 : decode cX7_nextRow 41 = .ok (.aload_n 0, 1) := by decide +kernel
theorem dX7_nextRow_42 : decode cX7_nextRow 42 = .ok (.getfield 32, 3) := by decide +kernel
theorem dX7_nextRow_45 : decode cX7_nextRow 45 = .ok (.iload_n 3, 1) := by decide +kernel
theorem dX7_nextRow_46 : decode cX7_nextRow 46 = .ok (.iaload, 1) := by decide +kernel
theorem dX7_nextRow_47 : decode cX7_nextRow 47 = .ok (.aload_n 0, 1) := by decide +kernel
theorem dX7_nextRow_48 : decode cX7_nextRow 48 = .ok (.getfield 32, 3) := by decide +kernel
theorem dX7_nextRow_51 : decode cX7_nextRow 51 = .ok (.iload_n 2, 1) := by decide +kernel
theorem dX7_nextRow_52 : decode cX7_nextRow 52 = .ok (.iaload, 1) := by decide +kernel
theorem dX7_nextRow_53 : decode cX7_nextRow 53 = .ok (.if_icmp .ge 9, 3) := by decide +kernel
theorem dX7_nextRow_56 : decode cX7_nextRow 56 = .ok (.iinc 3 (-1), 3) := by decide +kernel
theorem dX7_nextRow_59 : decode cX7_nextRow 59 = .ok (.goto (-18), 3) := by decide +kernel
theorem dX7_nextRow_62 : decode cX7_nextRow 62 = .ok (.aload_n 0, 1) := by decide +kernel
theorem dX7_nextRow_63 : decode cX7_nextRow 63 = .ok (.iload_n 2, 1) := by decide +kernel
theorem dX7_nextRow_64 : decode cX7_nextRow 64 = .ok (.iload_n 3, 1) := by decide +kernel
theorem dX7_nextRow_65 : decode cX7_nextRow 65 = .ok (.invokevirtual 109, 3) := by decide +kernel
theorem dX7_nextRow_68 : decode cX7_nextRow 68 = .ok (.iload_n 2, 1) := by decide +kernel
theorem dX7_nextRow_69 : decode cX7_nextRow 69 = .ok (.iconst 1, 1) := by decide +kernel
theorem dX7_nextRow_70 : decode cX7_nextRow 70 = .ok (.iadd, 1) := by decide +kernel
theorem dX7_nextRow_71 : decode cX7_nextRow 71 = .ok (.istore 4, 2) := by decide +kernel
theorem dX7_nextRow_73 : decode cX7_nextRow 73 = .ok (.iload_n 1, 1) := by decide +kernel
theorem dX7_nextRow_74 : decode cX7_nextRow 74 = .ok (.iconst 1, 1) := by decide +kernel
theorem dX7_nextRow_75 : decode cX7_nextRow 75 = .ok (.isub, 1) := by decide +kernel
theorem dX7_nextRow_76 : decode cX7_nextRow 76 = .ok (.istore 5, 2) := by decide +kernel
theorem dX7_nextRow_78 : decode cX7_nextRow 78 = .ok (.iload 4, 2) := by decide +kernel
theorem dX7_nextRow_80 : decode cX7_nextRow 80 = .ok (.iload 5, 2) := by decide +kernel
theorem dX7_nextRow_82 : decode cX7_nextRow 82 = .ok (.if_icmp .ge 20, 3) := by decide +kernel
theorem dX7_nextRow_85 : decode cX7_nextRow 85 = .ok (.aload_n 0, 1) := by decide +kernel
theorem dX7_nextRow_86 : decode cX7_nextRow 86 = .ok (.iload 4, 2) := by decide +kernel
theorem dX7_nextRow_88 : decode cX7_nextRow 88 = .ok (.iload 5, 2) := by decide +kernel
theorem dX7_nextRow_90 : decode cX7_nextRow 90 = .ok (.invokevirtual 109, 3) := by decide +kernel
theorem dX7_nextRow_93 : decode cX7_nextRow 93 = .ok (.iinc 4 1, 3) := by decide +kernel
theorem dX7_nextRow_96 : decode cX7_nextRow 96 = .ok (.iinc 5 (-1), 3) := by decide +kernel
theorem dX7_nextRow_99 : decode cX7_nextRow 99 = .ok (.goto (-21), 3) := by decide +kernel
theorem dX7_nextRow_102 : decode cX7_nextRow 102 = .ok (.iconst 1, 1) := by decide +kernel
theorem dX7_nextRow_103 : decode cX7_nextRow 103 = .ok (.ireturn, 1) := by decide +kernel
theorem dX7_change_0 : decode cX7_change 0 = .ok (.aload_n 0, 1) := by decide +kernel
theorem dX7_change_1 : decode cX7_change 1 = .ok (.getfield 32, 3) := by decide +kernel
theorem dX7_change_4 : decode cX7_change 4 = .ok (.iload_n 1, 1) := by decide +kernel
theorem dX7_change_5 : decode cX7_change 5 = .ok (.iaload, 1) := by decide +kernel
theorem dX7_change_6 : decode cX7_change 6 = .ok (.istore_n 3, 1) := by decide +kernel
theorem dX7_change_7 : decode cX7_change 7 = .ok (.aload_n 0, 1) := by decide +kernel
theorem dX7_change_8 : decode cX7_change 8 = .ok (.getfield 32, 3) := by decide +kernel
theorem dX7_change_11 : decode cX7_change 11 = .ok (.iload_n 1, 1) := by decide +kernel
theorem dX7_change_12 : decode cX7_change 12 = .ok (.aload_n 0, 1) := by decide +kernel
theorem dX7_change_13 : decode cX7_change 13 = .ok (.getfield 32, 3) := by decide +kernel
theorem dX7_change_16 : decode cX7_change 16 = .ok (.iload_n 2, 1) := by decide +kernel
theorem dX7_change_17 : decode cX7_change 17 = .ok (.iaload, 1) := by decide +kernel
theorem dX7_change_18 : decode cX7_change 18 = .ok (.iastore, 1) := by decide +kernel
theorem dX7_change_19 : decode cX7_change 19 = .ok (.aload_n 0, 1) := by decide +kernel
theorem dX7_change_20 : decode cX7_change 20 = .ok (.getfield 32, 3) := by decide +kernel
theorem dX7_change_23 : decode cX7_change 23 = .ok (.iload_n 2, 1) := by decide +kernel
theorem dX7_change_24 : decode cX7_change 24 = .ok (.iload_n 3, 1) := by decide +kernel
theorem dX7_change_25 : decode cX7_change 25 = .ok (.iastore, 1) := by decide +kernel
theorem dX7_change_26 : decode cX7_change 26 = .ok (.return_, 1) := by decide +kernel
theorem dX7_keepsOrder_0 : decode cX7_keepsOrder 0 = .ok (.iconst 1, 1) := by decide +kernel
theorem dX7_keepsOrder_1 : decode cX7_keepsOrder 1 = .ok (.istore_n 1, 1) := by decide +kernel
theorem dX7_keepsOrder_2 : decode cX7_keepsOrder 2 = .ok (.iconst 0, 1) := by decide +kernel
theorem dX7_keepsOrder_3 : decode cX7_keepsOrder 3 = .ok (.istore_n 2, 1) := by decide +kernel
theorem dX7_keepsOrder_4 : decode cX7_keepsOrder 4 = .ok (.iconst 0, 1) := by decide +kernel
theorem dX7_keepsOrder_5 : decode cX7_keepsOrder 5 = .ok (.istore_n 3, 1) := by decide +kernel
theorem dX7_keepsOrder_6 : decode cX7_keepsOrder 6 = .ok (.iload_n 3, 1) := by decide +kernel
theorem dX7_keepsOrder_7 : decode cX7_keepsOrder 7 = .ok (.aload_n 0, 1) := by decide +kernel
theorem dX7_keepsOrder_8 : decode cX7_keepsOrder 8 = .ok (.getfield 106, 3) := by decide +kernel
theorem dX7_keepsOrder_11 : decode cX7_keepsOrder 11 = .ok (.if_icmp .ge 62, 3) := by decide +kernel
theorem dX7_keepsOrder_14 : decode cX7_keepsOrder 14 = .ok (.aload_n 0, 1) := by decide +kernel
theorem dX7_keepsOrder_15 : decode cX7_keepsOrder 15 = .ok (.getfield 20, 3) := by decide +kernel
theorem dX7_keepsOrder_18 : decode cX7_keepsOrder 18 = .ok (.iconst 3, 1) := by decide +kernel
theorem dX7_keepsOrder_19 : decode cX7_keepsOrder 19 = .ok (.aload_n 0, 1) := by decide +kernel
theorem dX7_keepsOrder_20 : decode cX7_keepsOrder 20 = .ok (.getfield 32, 3) := by decide +kernel
theorem dX7_keepsOrder_23 : decode cX7_keepsOrder 23 = .ok (.iload_n 3, 1) := by decide +kernel
theorem dX7_keepsOrder_24 : decode cX7_keepsOrder 24 = .ok (.iaload, 1) := by decide +kernel
theorem dX7_keepsOrder_25 : decode cX7_keepsOrder 25 = .ok (.imul, 1) := by decide +kernel
theorem dX7_keepsOrder_26 : decode cX7_keepsOrder 26 = .ok (.iconst 2, 1) := by decide +kernel
theorem dX7_keepsOrder_27 : decode cX7_keepsOrder 27 = .ok (.iadd, 1) := by decide +kernel
theorem dX7_keepsOrder_28 : decode cX7_keepsOrder 28 = .ok (.iaload, 1) := by decide +kernel
theorem dX7_keepsOrder_29 : decode cX7_keepsOrder 29 = .ok (.istore 4, 2) := by decide +kernel
theorem dX7_keepsOrder_31 : decode cX7_keepsOrder 31 = .ok (.iload_n 1, 1) := by decide +kernel
theorem dX7_keepsOrder_32 : decode cX7_keepsOrder 32 = .ok (.ifCond .eq 22, 3) := by decide +kernel
theorem dX7_keepsOrder_35 : decode cX7_keepsOrder 35 = .ok (.iload 4, 2) := by decide +kernel
theorem dX7_keepsOrder_37 : decode cX7_keepsOrder 37 = .ok (.ifCond .lt 13, 3) := by decide +kernel
theorem dX7_keepsOrder_40 : decode cX7_keepsOrder 40 = .ok (.iload_n 2, 1) := by decide +kernel
theorem dX7_keepsOrder_41 : decode cX7_keepsOrder 41 = .ok (.iload 4, 2) := by decide +kernel
theorem dX7_keepsOrder_43 : decode cX7_keepsOrder 43 = .ok (.ishr, 1) := by decide +kernel
theorem dX7_keepsOrder_44 : decode cX7_keepsOrder 44 = .ok (.iconst 1, 1) := by decide +kernel
theorem dX7_keepsOrder_45 : decode cX7_keepsOrder 45 = .ok (.iand, 1) := by decide +kernel
theorem dX7_keepsOrder_46 : decode cX7_keepsOrder 46 = .ok (.iconst 1, 1) := by decide +kernel
theorem dX7_keepsOrder_47 : decode cX7_keepsOrder 47 = .ok (.if_icmp .ne 7, 3) := by decide +kernel
theorem dX7_keepsOrder_50 : decode cX7_keepsOrder 50 = .ok (.iconst 1, 1) := by decide +kernel
theorem dX7_keepsOrder_51 : decode cX7_keepsOrder 51 = .ok (.goto 4, 3) := by decide +kernel
theorem dX7_keepsOrder_54 : decode cX7_keepsOrder 54 = .ok (.iconst 0, 1) := by decide +kernel
theorem dX7_keepsOrder_55 : decode cX7_keepsOrder 55 = .ok (.istore_n 1, 1) := by decide +kernel
theorem dX7_keepsOrder_56 : decode cX7_keepsOrder 56 = .ok (.iload_n 2, 1) := by decide +kernel
theorem dX7_keepsOrder_57 : decode cX7_keepsOrder 57 = .ok (.iconst 1, 1) := by decide +kernel
theorem dX7_keepsOrder_58 : decode cX7_keepsOrder 58 = .ok (.aload_n 0, 1) := by decide +kernel
theorem dX7_keepsOrder_59 : decode cX7_keepsOrder 59 = .ok (.getfield 32, 3) := by decide +kernel
theorem dX7_keepsOrder_62 : decode cX7_keepsOrder 62 = .ok (.iload_n 3, 1) := by decide +kernel
theorem dX7_keepsOrder_63 : decode cX7_keepsOrder 63 = .ok (.iaload, 1) := by decide +kernel
theorem dX7_keepsOrder_64 : decode cX7_keepsOrder 64 = .ok (.ishl, 1) := by decide +kernel
theorem dX7_keepsOrder_65 : decode cX7_keepsOrder 65 = .ok (.ior, 1) := by decide +kernel
theorem dX7_keepsOrder_66 : decode cX7_keepsOrder 66 = .ok (.istore_n 2, 1) := by decide +kernel
theorem dX7_keepsOrder_67 : decode cX7_keepsOrder 67 = .ok (.iinc 3 1, 3) := by decide +kernel
theorem dX7_keepsOrder_70 : decode cX7_keepsOrder 70 = .ok (.goto (-64), 3) := by decide +kernel
theorem dX7_keepsOrder_73 : decode cX7_keepsOrder 73 = .ok (.iload_n 1, 1) := by decide +kernel
theorem dX7_keepsOrder_74 : decode cX7_keepsOrder 74 = .ok (.ireturn, 1) := by decide +kernel
theorem dX7_layTalk_0 : decode cX7_layTalk 0 = .ok (.aload_n 0, 1) := by decide +kernel
theorem dX7_layTalk_1 : decode cX7_layTalk 1 = .ok (.bipush (-6), 2) := by decide +kernel
theorem dX7_layTalk_3 : decode cX7_layTalk 3 = .ok (.putfield 112, 3) := by decide +kernel
theorem dX7_layTalk_6 : decode cX7_layTalk 6 = .ok (.iconst 0, 1) := by decide +kernel
theorem dX7_layTalk_7 : decode cX7_layTalk 7 = .ok (.istore_n 3, 1) := by decide +kernel
theorem dX7_layTalk_8 : decode cX7_layTalk 8 = .ok (.iload_n 3, 1) := by decide +kernel
theorem dX7_layTalk_9 : decode cX7_layTalk 9 = .ok (.bipush 7, 2) := by decide +kernel
theorem dX7_layTalk_11 : decode cX7_layTalk 11 = .ok (.if_icmp .ge 16, 3) := by decide +kernel
theorem dX7_layTalk_14 : decode cX7_layTalk 14 = .ok (.aload_n 0, 1) := by decide +kernel
theorem dX7_layTalk_15 : decode cX7_layTalk 15 = .ok (.getfield 32, 3) := by decide +kernel
theorem dX7_layTalk_18 : decode cX7_layTalk 18 = .ok (.iload_n 3, 1) := by decide +kernel
theorem dX7_layTalk_19 : decode cX7_layTalk 19 = .ok (.iload_n 3, 1) := by decide +kernel
theorem dX7_layTalk_20 : decode cX7_layTalk 20 = .ok (.iastore, 1) := by decide +kernel
theorem dX7_layTalk_21 : decode cX7_layTalk 21 = .ok (.iinc 3 1, 3) := by decide +kernel
theorem dX7_layTalk_24 : decode cX7_layTalk 24 = .ok (.goto (-16), 3) := by decide +kernel
theorem dX7_layTalk_27 : decode cX7_layTalk 27 = .ok (.iconst 1, 1) := by decide +kernel
theorem dX7_layTalk_28 : decode cX7_layTalk 28 = .ok (.istore_n 3, 1) := by decide +kernel
theorem dX7_layTalk_29 : decode cX7_layTalk 29 = .ok (.iload_n 3, 1) := by decide +kernel
theorem dX7_layTalk_30 : decode cX7_layTalk 30 = .ok (.ifCond .eq 183, 3) := by decide +kernel
theorem dX7_layTalk_33 : decode cX7_layTalk 33 = .ok (.aload_n 0, 1) := by decide +kernel
theorem dX7_layTalk_34 : decode cX7_layTalk 34 = .ok (.invokevirtual 115, 3) := by decide +kernel
theorem dX7_layTalk_37 : decode cX7_layTalk 37 = .ok (.ifCond .eq 164, 3) := by decide +kernel
theorem dX7_layTalk_40 : decode cX7_layTalk 40 = .ok (.aload_n 0, 1) := by decide +kernel
theorem dX7_layTalk_41 : decode cX7_layTalk 41 = .ok (.invokevirtual 79, 3) := by decide +kernel
theorem dX7_layTalk_44 : decode cX7_layTalk 44 = .ok (.iload_n 1, 1) := by decide +kernel
theorem dX7_layTalk_45 : decode cX7_layTalk 45 = .ok (.ifCond .lt 20, 3) := by decide +kernel
theorem dX7_layTalk_48 : decode cX7_layTalk 48 = .ok (.aload_n 0, 1) := by decide +kernel
theorem dX7_layTalk_49 : decode cX7_layTalk 49 = .ok (.getfield 29, 3) := by decide +kernel
theorem dX7_layTalk_52 : decode cX7_layTalk 52 = .ok (.iload_n 1, 1) := by decide +kernel
theorem dX7_layTalk_53 : decode cX7_layTalk 53 = .ok (.aload_n 0, 1) := by decide +kernel
theorem dX7_layTalk_54 : decode cX7_layTalk 54 = .ok (.aload_n 0, 1) := by decide +kernel
theorem dX7_layTalk_55 : decode cX7_layTalk 55 = .ok (.getfield 29, 3) := by decide +kernel
theorem dX7_layTalk_58 : decode cX7_layTalk 58 = .ok (.iload_n 1, 1) := by decide +kernel
theorem dX7_layTalk_59 : decode cX7_layTalk 59 = .ok (.iaload, 1) := by decide +kernel
theorem dX7_layTalk_60 : decode cX7_layTalk 60 = .ok (.iload_n 2, 1) := by decide +kernel
theorem dX7_layTalk_61 : decode cX7_layTalk 61 = .ok (.invokevirtual 62, 3) := by decide +kernel
theorem dX7_layTalk_64 : decode cX7_layTalk 64 = .ok (.iastore, 1) := by decide +kernel
theorem dX7_layTalk_65 : decode cX7_layTalk 65 = .ok (.iconst 0, 1) := by decide +kernel
theorem dX7_layTalk_66 : decode cX7_layTalk 66 = .ok (.istore 4, 2) := by decide +kernel
theorem dX7_layTalk_68 : decode cX7_layTalk 68 = .ok (.iload 4, 2) := by decide +kernel
theorem dX7_layTalk_70 : decode cX7_layTalk 70 = .ok (.aload_n 0, 1) := by decide +kernel
theorem dX7_layTalk_71 : decode cX7_layTalk 71 = .ok (.getfield 106, 3) := by decide +kernel
theorem dX7_layTalk_74 : decode cX7_layTalk 74 = .ok (.if_icmp .ge 71, 3) := by decide +kernel
theorem dX7_layTalk_77 : decode cX7_layTalk 77 = .ok (.aload_n 0, 1) := by decide +kernel
theorem dX7_layTalk_78 : decode cX7_layTalk 78 = .ok (.getfield 20, 3) := by decide +kernel
theorem dX7_layTalk_81 : decode cX7_layTalk 81 = .ok (.iconst 3, 1) := by decide +kernel
theorem dX7_layTalk_82 : decode cX7_layTalk 82 = .ok (.aload_n 0, 1) := by decide +kernel
theorem dX7_layTalk_83 : decode cX7_layTalk 83 = .ok (.getfield 32, 3) := by decide +kernel
theorem dX7_layTalk_86 : decode cX7_layTalk 86 = .ok (.iload 4, 2) := by decide +kernel
theorem dX7_layTalk_88 : decode cX7_layTalk 88 = .ok (.iaload, 1) := by decide +kernel
theorem dX7_layTalk_89 : decode cX7_layTalk 89 = .ok (.imul, 1) := by decide +kernel
theorem dX7_layTalk_90 : decode cX7_layTalk 90 = .ok (.iaload, 1) := by decide +kernel
theorem dX7_layTalk_91 : decode cX7_layTalk 91 = .ok (.istore 5, 2) := by decide +kernel
theorem dX7_layTalk_93 : decode cX7_layTalk 93 = .ok (.aload_n 0, 1) := by decide +kernel
theorem dX7_layTalk_94 : decode cX7_layTalk 94 = .ok (.getfield 29, 3) := by decide +kernel
theorem dX7_layTalk_97 : decode cX7_layTalk 97 = .ok (.iload 5, 2) := by decide +kernel
theorem dX7_layTalk_99 : decode cX7_layTalk 99 = .ok (.iaload, 1) := by decide +kernel
theorem dX7_layTalk_100 : decode cX7_layTalk 100 = .ok (.ifCond .le 16, 3) := by decide +kernel
theorem dX7_layTalk_103 : decode cX7_layTalk 103 = .ok (.aload_n 0, 1) := by decide +kernel
theorem dX7_layTalk_104 : decode cX7_layTalk 104 = .ok (.aload_n 0, 1) := by decide +kernel
theorem dX7_layTalk_105 : decode cX7_layTalk 105 = .ok (.getfield 29, 3) := by decide +kernel
theorem dX7_layTalk_108 : decode cX7_layTalk 108 = .ok (.iload 5, 2) := by decide +kernel
theorem dX7_layTalk_110 : decode cX7_layTalk 110 = .ok (.iaload, 1) := by decide +kernel
theorem dX7_layTalk_111 : decode cX7_layTalk 111 = .ok (.bipush (-6), 2) := by decide +kernel
theorem dX7_layTalk_113 : decode cX7_layTalk 113 = .ok (.invokevirtual 66, 3) := by decide +kernel
theorem dX7_layTalk_116 : decode cX7_layTalk 116 = .ok (.aload_n 0, 1) := by decide +kernel
theorem dX7_layTalk_117 : decode cX7_layTalk 117 = .ok (.iload 5, 2) := by decide +kernel
theorem dX7_layTalk_119 : decode cX7_layTalk 119 = .ok (.aload_n 0, 1) := by decide +kernel
theorem dX7_layTalk_120 : decode cX7_layTalk 120 = .ok (.getfield 20, 3) := by decide +kernel
theorem dX7_layTalk_123 : decode cX7_layTalk 123 = .ok (.iconst 3, 1) := by decide +kernel
theorem dX7_layTalk_124 : decode cX7_layTalk 124 = .ok (.aload_n 0, 1) := by decide +kernel
theorem dX7_layTalk_125 : decode cX7_layTalk 125 = .ok (.getfield 32, 3) := by decide +kernel
theorem dX7_layTalk_128 : decode cX7_layTalk 128 = .ok (.iload 4, 2) := by decide +kernel
theorem dX7_layTalk_130 : decode cX7_layTalk 130 = .ok (.iaload, 1) := by decide +kernel
theorem dX7_layTalk_131 : decode cX7_layTalk 131 = .ok (.imul, 1) := by decide +kernel
theorem dX7_layTalk_132 : decode cX7_layTalk 132 = .ok (.iconst 1, 1) := by decide +kernel
theorem dX7_layTalk_133 : decode cX7_layTalk 133 = .ok (.iadd, 1) := by decide +kernel
theorem dX7_layTalk_134 : decode cX7_layTalk 134 = .ok (.iaload, 1) := by decide +kernel
theorem dX7_layTalk_135 : decode cX7_layTalk 135 = .ok (.iconst 1, 1) := by decide +kernel
theorem dX7_layTalk_136 : decode cX7_layTalk 136 = .ok (.invokevirtual 92, 3) := by decide +kernel
theorem dX7_layTalk_139 : decode cX7_layTalk 139 = .ok (.iinc 4 1, 3) := by decide +kernel
theorem dX7_layTalk_142 : decode cX7_layTalk 142 = .ok (.goto (-74), 3) := by decide +kernel
theorem dX7_layTalk_145 : decode cX7_layTalk 145 = .ok (.aload_n 0, 1) := by decide +kernel
theorem dX7_layTalk_146 : decode cX7_layTalk 146 = .ok (.getfield 112, 3) := by decide +kernel
theorem dX7_layTalk_149 : decode cX7_layTalk 149 = .ok (.ifCond .lt 14, 3) := by decide +kernel
theorem dX7_layTalk_152 : decode cX7_layTalk 152 = .ok (.aload_n 0, 1) := by decide +kernel
theorem dX7_layTalk_153 : decode cX7_layTalk 153 = .ok (.getfield 59, 3) := by decide +kernel
theorem dX7_layTalk_156 : decode cX7_layTalk 156 = .ok (.aload_n 0, 1) := by decide +kernel
theorem dX7_layTalk_157 : decode cX7_layTalk 157 = .ok (.getfield 112, 3) := by decide +kernel
theorem dX7_layTalk_160 : decode cX7_layTalk 160 = .ok (.if_icmp .ge 41, 3) := by decide +kernel
theorem dX7_layTalk_163 : decode cX7_layTalk 163 = .ok (.aload_n 0, 1) := by decide +kernel
theorem dX7_layTalk_164 : decode cX7_layTalk 164 = .ok (.aload_n 0, 1) := by decide +kernel
theorem dX7_layTalk_165 : decode cX7_layTalk 165 = .ok (.getfield 59, 3) := by decide +kernel
theorem dX7_layTalk_168 : decode cX7_layTalk 168 = .ok (.putfield 112, 3) := by decide +kernel
theorem dX7_layTalk_171 : decode cX7_layTalk 171 = .ok (.iconst 0, 1) := by decide +kernel
theorem dX7_layTalk_172 : decode cX7_layTalk 172 = .ok (.istore 4, 2) := by decide +kernel
theorem dX7_layTalk_174 : decode cX7_layTalk 174 = .ok (.iload 4, 2) := by decide +kernel
theorem dX7_layTalk_176 : decode cX7_layTalk 176 = .ok (.bipush 7, 2) := by decide +kernel
theorem dX7_layTalk_178 : decode cX7_layTalk 178 = .ok (.if_icmp .ge 23, 3) := by decide +kernel
theorem dX7_layTalk_181 : decode cX7_layTalk 181 = .ok (.aload_n 0, 1) := by decide +kernel
theorem dX7_layTalk_182 : decode cX7_layTalk 182 = .ok (.getfield 35, 3) := by decide +kernel
theorem dX7_layTalk_185 : decode cX7_layTalk 185 = .ok (.iload 4, 2) := by decide +kernel
theorem dX7_layTalk_187 : decode cX7_layTalk 187 = .ok (.aload_n 0, 1) := by decide +kernel
theorem dX7_layTalk_188 : decode cX7_layTalk 188 = .ok (.getfield 32, 3) := by decide +kernel
theorem dX7_layTalk_191 : decode cX7_layTalk 191 = .ok (.iload 4, 2) := by decide +kernel
theorem dX7_layTalk_193 : decode cX7_layTalk 193 = .ok (.iaload, 1) := by decide +kernel
theorem dX7_layTalk_194 : decode cX7_layTalk 194 = .ok (.iastore, 1) := by decide +kernel
theorem dX7_layTalk_195 : decode cX7_layTalk 195 = .ok (.iinc 4 1, 3) := by decide +kernel
theorem dX7_layTalk_198 : decode cX7_layTalk 198 = .ok (.goto (-24), 3) := by decide +kernel
theorem dX7_layTalk_201 : decode cX7_layTalk 201 = .ok (.aload_n 0, 1) := by decide +kernel
theorem dX7_layTalk_202 : decode cX7_layTalk 202 = .ok (.aload_n 0, 1) := by decide +kernel
theorem dX7_layTalk_203 : decode cX7_layTalk 203 = .ok (.getfield 106, 3) := by decide +kernel
theorem dX7_layTalk_206 : decode cX7_layTalk 206 = .ok (.invokevirtual 119, 3) := by decide +kernel
theorem dX7_layTalk_209 : decode cX7_layTalk 209 = .ok (.istore_n 3, 1) := by decide +kernel
theorem dX7_layTalk_210 : decode cX7_layTalk 210 = .ok (.goto (-181), 3) := by decide +kernel
theorem dX7_layTalk_213 : decode cX7_layTalk 213 = .ok (.return_, 1) := by decide +kernel
theorem dX7_allSeconds_0 : decode cX7_allSeconds 0 = .ok (.iconst 0, 1) := by decide +kernel
theorem dX7_allSeconds_1 : decode cX7_allSeconds 1 = .ok (.istore_n 1, 1) := by decide +kernel
theorem dX7_allSeconds_2 : decode cX7_allSeconds 2 = .ok (.iconst 0, 1) := by decide +kernel
theorem dX7_allSeconds_3 : decode cX7_allSeconds 3 = .ok (.istore_n 2, 1) := by decide +kernel
theorem dX7_allSeconds_4 : decode cX7_allSeconds 4 = .ok (.iload_n 2, 1) := by decide +kernel
theorem dX7_allSeconds_5 : decode cX7_allSeconds 5 = .ok (.aload_n 0, 1) := by decide +kernel
theorem dX7_allSeconds_6 : decode cX7_allSeconds 6 = .ok (.getfield 106, 3) := by decide +kernel
theorem dX7_allSeconds_9 : decode cX7_allSeconds 9 = .ok (.if_icmp .ge 22, 3) := by decide +kernel
theorem dX7_allSeconds_12 : decode cX7_allSeconds 12 = .ok (.iload_n 1, 1) := by decide +kernel
theorem dX7_allSeconds_13 : decode cX7_allSeconds 13 = .ok (.aload_n 0, 1) := by decide +kernel
theorem dX7_allSeconds_14 : decode cX7_allSeconds 14 = .ok (.getfield 20, 3) := by decide +kernel
theorem dX7_allSeconds_17 : decode cX7_allSeconds 17 = .ok (.iconst 3, 1) := by decide +kernel
theorem dX7_allSeconds_18 : decode cX7_allSeconds 18 = .ok (.iload_n 2, 1) := by decide +kernel
theorem dX7_allSeconds_19 : decode cX7_allSeconds 19 = .ok (.imul, 1) := by decide +kernel
theorem dX7_allSeconds_20 : decode cX7_allSeconds 20 = .ok (.iconst 1, 1) := by decide +kernel
theorem dX7_allSeconds_21 : decode cX7_allSeconds 21 = .ok (.iadd, 1) := by decide +kernel
theorem dX7_allSeconds_22 : decode cX7_allSeconds 22 = .ok (.iaload, 1) := by decide +kernel
theorem dX7_allSeconds_23 : decode cX7_allSeconds 23 = .ok (.iadd, 1) := by decide +kernel
theorem dX7_allSeconds_24 : decode cX7_allSeconds 24 = .ok (.istore_n 1, 1) := by decide +kernel
theorem dX7_allSeconds_25 : decode cX7_allSeconds 25 = .ok (.iinc 2 1, 3) := by decide +kernel
theorem dX7_allSeconds_28 : decode cX7_allSeconds 28 = .ok (.goto (-24), 3) := by decide +kernel
theorem dX7_allSeconds_31 : decode cX7_allSeconds 31 = .ok (.iload_n 1, 1) := by decide +kernel
theorem dX7_allSeconds_32 : decode cX7_allSeconds 32 = .ok (.ireturn, 1) := by decide +kernel
theorem dX7_soonest_0 : decode cX7_soonest 0 = .ok (.aload_n 0, 1) := by decide +kernel
theorem dX7_soonest_1 : decode cX7_soonest 1 = .ok (.bipush (-6), 2) := by decide +kernel
theorem dX7_soonest_3 : decode cX7_soonest 3 = .ok (.iconst 0, 1) := by decide +kernel
theorem dX7_soonest_4 : decode cX7_soonest 4 = .ok (.invokevirtual 122, 3) := by decide +kernel
theorem dX7_soonest_7 : decode cX7_soonest 7 = .ok (.iload_n 1, 1) := by decide +kernel
theorem dX7_soonest_8 : decode cX7_soonest 8 = .ok (.iconst (-1), 1) := by decide +kernel
theorem dX7_soonest_9 : decode cX7_soonest 9 = .ok (.if_icmp .ne 10, 3) := by decide +kernel
theorem dX7_soonest_12 : decode cX7_soonest 12 = .ok (.aload_n 0, 1) := by decide +kernel
theorem dX7_soonest_13 : decode cX7_soonest 13 = .ok (.getfield 112, 3) := by decide +kernel
theorem dX7_soonest_16 : decode cX7_soonest 16 = .ok (.goto 46, 3) := by decide +kernel
theorem dX7_soonest_19 : decode cX7_soonest 19 = .ok (.iload_n 1, 1) := by decide +kernel
theorem dX7_soonest_20 : decode cX7_soonest 20 = .ok (.bipush (-2), 2) := by decide +kernel
theorem dX7_soonest_22 : decode cX7_soonest 22 = .ok (.if_icmp .ne 15, 3) := by decide +kernel
theorem dX7_soonest_25 : decode cX7_soonest 25 = .ok (.aload_n 0, 1) := by decide +kernel
theorem dX7_soonest_26 : decode cX7_soonest 26 = .ok (.getfield 112, 3) := by decide +kernel
theorem dX7_soonest_29 : decode cX7_soonest 29 = .ok (.aload_n 0, 1) := by decide +kernel
theorem dX7_soonest_30 : decode cX7_soonest 30 = .ok (.invokevirtual 125, 3) := by decide +kernel
theorem dX7_soonest_33 : decode cX7_soonest 33 = .ok (.isub, 1) := by decide +kernel
theorem dX7_soonest_34 : decode cX7_soonest 34 = .ok (.goto 28, 3) := by decide +kernel
theorem dX7_soonest_37 : decode cX7_soonest 37 = .ok (.iload_n 1, 1) := by decide +kernel
theorem dX7_soonest_38 : decode cX7_soonest 38 = .ok (.iconst 0, 1) := by decide +kernel
theorem dX7_soonest_39 : decode cX7_soonest 39 = .ok (.aload_n 0, 1) := by decide +kernel
theorem dX7_soonest_40 : decode cX7_soonest 40 = .ok (.getfield 106, 3) := by decide +kernel
theorem dX7_soonest_43 : decode cX7_soonest 43 = .ok (.iconst 1, 1) := by decide +kernel
theorem dX7_soonest_44 : decode cX7_soonest 44 = .ok (.isub, 1) := by decide +kernel
theorem dX7_soonest_45 : decode cX7_soonest 45 = .ok (.invokestatic 48, 3) := by decide +kernel
theorem dX7_soonest_48 : decode cX7_soonest 48 = .ok (.ifCond .eq 12, 3) := by decide +kernel
theorem dX7_soonest_51 : decode cX7_soonest 51 = .ok (.aload_n 0, 1) := by decide +kernel
theorem dX7_soonest_52 : decode cX7_soonest 52 = .ok (.getfield 35, 3) := by decide +kernel
theorem dX7_soonest_55 : decode cX7_soonest 55 = .ok (.iload_n 1, 1) := by decide +kernel
theorem dX7_soonest_56 : decode cX7_soonest 56 = .ok (.iaload, 1) := by decide +kernel
theorem dX7_soonest_57 : decode cX7_soonest 57 = .ok (.goto 5, 3) := by decide +kernel
theorem dX7_soonest_60 : decode cX7_soonest 60 = .ok (.bipush (-6), 2) := by decide +kernel
theorem dX7_soonest_62 : decode cX7_soonest 62 = .ok (.ireturn, 1) := by decide +kernel
theorem dX7_whom_0 : decode cX7_whom 0 = .ok (.iload_n 1, 1) := by decide +kernel
theorem dX7_whom_1 : decode cX7_whom 1 = .ok (.iconst 1, 1) := by decide +kernel
theorem dX7_whom_2 : decode cX7_whom 2 = .ok (.bipush 99, 2) := by decide +kernel
theorem dX7_whom_4 : decode cX7_whom 4 = .ok (.invokestatic 48, 3) := by decide +kernel
theorem dX7_whom_7 : decode cX7_whom 7 = .ok (.ifCond .eq 12, 3) := by decide +kernel
theorem dX7_whom_10 : decode cX7_whom 10 = .ok (.iload_n 2, 1) := by decide +kernel
theorem dX7_whom_11 : decode cX7_whom 11 = .ok (.iconst 0, 1) := by decide +kernel
theorem dX7_whom_12 : decode cX7_whom 12 = .ok (.iconst 1, 1) := by decide +kernel
theorem dX7_whom_13 : decode cX7_whom 13 = .ok (.invokestatic 48, 3) := by decide +kernel
theorem dX7_whom_16 : decode cX7_whom 16 = .ok (.ifCond .ne 6, 3) := by decide +kernel
theorem dX7_whom_19 : decode cX7_whom 19 = .ok (.bipush (-2), 2) := by decide +kernel
theorem dX7_whom_21 : decode cX7_whom 21 = .ok (.ireturn, 1) := by decide +kernel
theorem dX7_whom_22 : decode cX7_whom 22 = .ok (.bipush (-6), 2) := by decide +kernel
theorem dX7_whom_24 : decode cX7_whom 24 = .ok (.istore_n 3, 1) := by decide +kernel
theorem dX7_whom_25 : decode cX7_whom 25 = .ok (.bipush (-6), 2) := by decide +kernel
theorem dX7_whom_27 : decode cX7_whom 27 = .ok (.istore 4, 2) := by decide +kernel
theorem dX7_whom_29 : decode cX7_whom 29 = .ok (.iconst 0, 1) := by decide +kernel
theorem dX7_whom_30 : decode cX7_whom 30 = .ok (.istore 5, 2) := by decide +kernel
theorem dX7_whom_32 : decode cX7_whom 32 = .ok (.iload 5, 2) := by decide +kernel
theorem dX7_whom_34 : decode cX7_whom 34 = .ok (.bipush 6, 2) := by decide +kernel
theorem dX7_whom_36 : decode cX7_whom 36 = .ok (.if_icmp .ge 38, 3) := by decide +kernel
theorem dX7_whom_39 : decode cX7_whom 39 = .ok (.aload_n 0, 1) := by decide +kernel
theorem dX7_whom_40 : decode cX7_whom 40 = .ok (.iload 5, 2) := by decide +kernel
theorem dX7_whom_42 : decode cX7_whom 42 = .ok (.iload_n 1, 1) := by decide +kernel
theorem dX7_whom_43 : decode cX7_whom 43 = .ok (.invokevirtual 122, 3) := by decide +kernel
theorem dX7_whom_46 : decode cX7_whom 46 = .ok (.iload_n 3, 1) := by decide +kernel
theorem dX7_whom_47 : decode cX7_whom 47 = .ok (.ifCond .lt 12, 3) := by decide +kernel
theorem dX7_whom_50 : decode cX7_whom 50 = .ok (.aload_n 0, 1) := by decide +kernel
theorem dX7_whom_51 : decode cX7_whom 51 = .ok (.getfield 112, 3) := by decide +kernel
theorem dX7_whom_54 : decode cX7_whom 54 = .ok (.iload 4, 2) := by decide +kernel
theorem dX7_whom_56 : decode cX7_whom 56 = .ok (.if_icmp .ge 12, 3) := by decide +kernel
theorem dX7_whom_59 : decode cX7_whom 59 = .ok (.iload 5, 2) := by decide +kernel
theorem dX7_whom_61 : decode cX7_whom 61 = .ok (.istore_n 3, 1) := by decide +kernel
theorem dX7_whom_62 : decode cX7_whom 62 = .ok (.aload_n 0, 1) := by decide +kernel
theorem dX7_whom_63 : decode cX7_whom 63 = .ok (.getfield 112, 3) := by decide +kernel
theorem dX7_whom_66 : decode cX7_whom 66 = .ok (.istore 4, 2) := by decide +kernel
theorem dX7_whom_68 : decode cX7_whom 68 = .ok (.iinc 5 1, 3) := by decide +kernel
theorem dX7_whom_71 : decode cX7_whom 71 = .ok (.goto (-39), 3) := by decide +kernel
theorem dX7_whom_74 : decode cX7_whom 74 = .ok (.iload_n 2, 1) := by decide +kernel
theorem dX7_whom_75 : decode cX7_whom 75 = .ok (.ifCond .ne 7, 3) := by decide +kernel
theorem dX7_whom_78 : decode cX7_whom 78 = .ok (.iload_n 3, 1) := by decide +kernel
theorem dX7_whom_79 : decode cX7_whom 79 = .ok (.goto 5, 3) := by decide +kernel
theorem dX7_whom_82 : decode cX7_whom 82 = .ok (.iload 4, 2) := by decide +kernel
theorem dX7_whom_84 : decode cX7_whom 84 = .ok (.ireturn, 1) := by decide +kernel
theorem dX7_quarrel_0 : decode cX7_quarrel 0 = .ok (.iload_n 1, 1) := by decide +kernel
theorem dX7_quarrel_1 : decode cX7_quarrel 1 = .ok (.invokestatic 102, 3) := by decide +kernel
theorem dX7_quarrel_4 : decode cX7_quarrel 4 = .ok (.ifCond .eq 15, 3) := by decide +kernel
theorem dX7_quarrel_7 : decode cX7_quarrel 7 = .ok (.iload_n 3, 1) := by decide +kernel
theorem dX7_quarrel_8 : decode cX7_quarrel 8 = .ok (.invokestatic 102, 3) := by decide +kernel
theorem dX7_quarrel_11 : decode cX7_quarrel 11 = .ok (.ifCond .eq 8, 3) := by decide +kernel
theorem dX7_quarrel_14 : decode cX7_quarrel 14 = .ok (.iload_n 1, 1) := by decide +kernel
theorem dX7_quarrel_15 : decode cX7_quarrel 15 = .ok (.iload_n 3, 1) := by decide +kernel
theorem dX7_quarrel_16 : decode cX7_quarrel 16 = .ok (.if_icmp .ne 5, 3) := by decide +kernel
theorem dX7_quarrel_19 : decode cX7_quarrel 19 = .ok (.iconst (-1), 1) := by decide +kernel
theorem dX7_quarrel_20 : decode cX7_quarrel 20 = .ok (.ireturn, 1) := by decide +kernel
theorem dX7_quarrel_21 : decode cX7_quarrel 21 = .ok (.iload_n 2, 1) := by decide +kernel
theorem dX7_quarrel_22 : decode cX7_quarrel 22 = .ok (.iconst 1, 1) := by decide +kernel
theorem dX7_quarrel_23 : decode cX7_quarrel 23 = .ok (.bipush 99, 2) := by decide +kernel
theorem dX7_quarrel_25 : decode cX7_quarrel 25 = .ok (.invokestatic 48, 3) := by decide +kernel
theorem dX7_quarrel_28 : decode cX7_quarrel 28 = .ok (.ifCond .eq 36, 3) := by decide +kernel
theorem dX7_quarrel_31 : decode cX7_quarrel 31 = .ok (.iload 4, 2) := by decide +kernel
theorem dX7_quarrel_33 : decode cX7_quarrel 33 = .ok (.iconst 1, 1) := by decide +kernel
theorem dX7_quarrel_34 : decode cX7_quarrel 34 = .ok (.bipush 99, 2) := by decide +kernel
theorem dX7_quarrel_36 : decode cX7_quarrel 36 = .ok (.invokestatic 48, 3) := by decide +kernel
theorem dX7_quarrel_39 : decode cX7_quarrel 39 = .ok (.ifCond .eq 25, 3) := by decide +kernel
theorem dX7_quarrel_42 : decode cX7_quarrel 42 = .ok (.iload 5, 2) := by decide +kernel
theorem dX7_quarrel_44 : decode cX7_quarrel 44 = .ok (.iconst 0, 1) := by decide +kernel
theorem dX7_quarrel_45 : decode cX7_quarrel 45 = .ok (.sipush 999, 3) := by decide +kernel
theorem dX7_quarrel_48 : decode cX7_quarrel 48 = .ok (.invokestatic 48, 3) := by decide +kernel
theorem dX7_quarrel_51 : decode cX7_quarrel 51 = .ok (.ifCond .eq 13, 3) := by decide +kernel
theorem dX7_quarrel_54 : decode cX7_quarrel 54 = .ok (.iload 6, 2) := by decide +kernel
theorem dX7_quarrel_56 : decode cX7_quarrel 56 = .ok (.iconst 0, 1) := by decide +kernel
theorem dX7_quarrel_57 : decode cX7_quarrel 57 = .ok (.iconst 1, 1) := by decide +kernel
theorem dX7_quarrel_58 : decode cX7_quarrel 58 = .ok (.invokestatic 48, 3) := by decide +kernel
theorem dX7_quarrel_61 : decode cX7_quarrel 61 = .ok (.ifCond .ne 6, 3) := by decide +kernel
theorem dX7_quarrel_64 : decode cX7_quarrel 64 = .ok (.bipush (-2), 2) := by decide +kernel
theorem dX7_quarrel_66 : decode cX7_quarrel 66 = .ok (.ireturn, 1) := by decide +kernel
theorem dX7_quarrel_67 : decode cX7_quarrel 67 = .ok (.aload_n 0, 1) := by decide +kernel
theorem dX7_quarrel_68 : decode cX7_quarrel 68 = .ok (.invokevirtual 79, 3) := by decide +kernel
theorem dX7_quarrel_71 : decode cX7_quarrel 71 = .ok (.iconst 0, 1) := by decide +kernel
theorem dX7_quarrel_72 : decode cX7_quarrel 72 = .ok (.istore 7, 2) := by decide +kernel
theorem dX7_quarrel_74 : decode cX7_quarrel 74 = .ok (.iconst 0, 1) := by decide +kernel
theorem dX7_quarrel_75 : decode cX7_quarrel 75 = .ok (.istore 8, 2) := by decide +kernel
theorem dX7_quarrel_77 : decode cX7_quarrel 77 = .ok (.iconst 1, 1) := by decide +kernel
theorem dX7_quarrel_78 : decode cX7_quarrel 78 = .ok (.istore 9, 2) := by decide +kernel
theorem dX7_quarrel_80 : decode cX7_quarrel 80 = .ok (.aload_n 0, 1) := by decide +kernel
theorem dX7_quarrel_81 : decode cX7_quarrel 81 = .ok (.getfield 59, 3) := by decide +kernel
theorem dX7_quarrel_84 : decode cX7_quarrel 84 = .ok (.iload 5, 2) := by decide +kernel
theorem dX7_quarrel_86 : decode cX7_quarrel 86 = .ok (.if_icmp .ge 145, 3) := by decide +kernel
theorem dX7_quarrel_89 : decode cX7_quarrel 89 = .ok (.iload 9, 2) := by decide +kernel
theorem dX7_quarrel_91 : decode cX7_quarrel 91 = .ok (.ifCond .eq 7, 3) := by decide +kernel
theorem dX7_quarrel_94 : decode cX7_quarrel 94 = .ok (.iload_n 1, 1) := by decide +kernel
theorem dX7_quarrel_95 : decode cX7_quarrel 95 = .ok (.goto 4, 3) := by decide +kernel
theorem dX7_quarrel_98 : decode cX7_quarrel 98 = .ok (.iload_n 3, 1) := by decide +kernel
theorem dX7_quarrel_99 : decode cX7_quarrel 99 = .ok (.istore 10, 2) := by decide +kernel
theorem dX7_quarrel_101 : decode cX7_quarrel 101 = .ok (.iload 9, 2) := by decide +kernel
theorem dX7_quarrel_103 : decode cX7_quarrel 103 = .ok (.ifCond .eq 7, 3) := by decide +kernel
theorem dX7_quarrel_106 : decode cX7_quarrel 106 = .ok (.iload_n 2, 1) := by decide +kernel
theorem dX7_quarrel_107 : decode cX7_quarrel 107 = .ok (.goto 5, 3) := by decide +kernel
theorem dX7_quarrel_110 : decode cX7_quarrel 110 = .ok (.iload 4, 2) := by decide +kernel
theorem dX7_quarrel_112 : decode cX7_quarrel 112 = .ok (.istore 11, 2) := by decide +kernel
theorem dX7_quarrel_114 : decode cX7_quarrel 114 = .ok (.aload_n 0, 1) := by decide +kernel
theorem dX7_quarrel_115 : decode cX7_quarrel 115 = .ok (.getfield 29, 3) := by decide +kernel
theorem dX7_quarrel_118 : decode cX7_quarrel 118 = .ok (.iload 10, 2) := by decide +kernel
theorem dX7_quarrel_120 : decode cX7_quarrel 120 = .ok (.iaload, 1) := by decide +kernel
theorem dX7_quarrel_121 : decode cX7_quarrel 121 = .ok (.ifCond .le 13, 3) := by decide +kernel
theorem dX7_quarrel_124 : decode cX7_quarrel 124 = .ok (.aload_n 0, 1) := by decide +kernel
theorem dX7_quarrel_125 : decode cX7_quarrel 125 = .ok (.getfield 29, 3) := by decide +kernel
theorem dX7_quarrel_128 : decode cX7_quarrel 128 = .ok (.iload 10, 2) := by decide +kernel
theorem dX7_quarrel_130 : decode cX7_quarrel 130 = .ok (.iaload, 1) := by decide +kernel
theorem dX7_quarrel_131 : decode cX7_quarrel 131 = .ok (.goto 4, 3) := by decide +kernel
theorem dX7_quarrel_134 : decode cX7_quarrel 134 = .ok (.iconst 0, 1) := by decide +kernel
theorem dX7_quarrel_135 : decode cX7_quarrel 135 = .ok (.istore 12, 2) := by decide +kernel
theorem dX7_quarrel_137 : decode cX7_quarrel 137 = .ok (.iload 8, 2) := by decide +kernel
theorem dX7_quarrel_139 : decode cX7_quarrel 139 = .ok (.aload_n 0, 1) := by decide +kernel
theorem dX7_quarrel_140 : decode cX7_quarrel 140 = .ok (.getfield 59, 3) := by decide +kernel
theorem dX7_quarrel_143 : decode cX7_quarrel 143 = .ok (.iload 12, 2) := by decide +kernel
theorem dX7_quarrel_145 : decode cX7_quarrel 145 = .ok (.iadd, 1) := by decide +kernel
theorem dX7_quarrel_146 : decode cX7_quarrel 146 = .ok (.iload 5, 2) := by decide +kernel
theorem dX7_quarrel_148 : decode cX7_quarrel 148 = .ok (.if_icmp .le 13, 3) := by decide +kernel
theorem dX7_quarrel_151 : decode cX7_quarrel 151 = .ok (.iload 5, 2) := by decide +kernel
theorem dX7_quarrel_153 : decode cX7_quarrel 153 = .ok (.aload_n 0, 1) := by decide +kernel
theorem dX7_quarrel_154 : decode cX7_quarrel 154 = .ok (.getfield 59, 3) := by decide +kernel
theorem dX7_quarrel_157 : decode cX7_quarrel 157 = .ok (.isub, 1) := by decide +kernel
theorem dX7_quarrel_158 : decode cX7_quarrel 158 = .ok (.goto 5, 3) := by decide +kernel
theorem dX7_quarrel_161 : decode cX7_quarrel 161 = .ok (.iload 12, 2) := by decide +kernel
theorem dX7_quarrel_163 : decode cX7_quarrel 163 = .ok (.iadd, 1) := by decide +kernel
theorem dX7_quarrel_164 : decode cX7_quarrel 164 = .ok (.istore 8, 2) := by decide +kernel
theorem dX7_quarrel_166 : decode cX7_quarrel 166 = .ok (.iload 12, 2) := by decide +kernel
theorem dX7_quarrel_168 : decode cX7_quarrel 168 = .ok (.ifCond .le 11, 3) := by decide +kernel
theorem dX7_quarrel_171 : decode cX7_quarrel 171 = .ok (.aload_n 0, 1) := by decide +kernel
theorem dX7_quarrel_172 : decode cX7_quarrel 172 = .ok (.iload 12, 2) := by decide +kernel
theorem dX7_quarrel_174 : decode cX7_quarrel 174 = .ok (.bipush (-6), 2) := by decide +kernel
theorem dX7_quarrel_176 : decode cX7_quarrel 176 = .ok (.invokevirtual 66, 3) := by decide +kernel
theorem dX7_quarrel_179 : decode cX7_quarrel 179 = .ok (.aload_n 0, 1) := by decide +kernel
theorem dX7_quarrel_180 : decode cX7_quarrel 180 = .ok (.getfield 59, 3) := by decide +kernel
theorem dX7_quarrel_183 : decode cX7_quarrel 183 = .ok (.iload 5, 2) := by decide +kernel
theorem dX7_quarrel_185 : decode cX7_quarrel 185 = .ok (.if_icmp .ge 31, 3) := by decide +kernel
theorem dX7_quarrel_188 : decode cX7_quarrel 188 = .ok (.aload_n 0, 1) := by decide +kernel
theorem dX7_quarrel_189 : decode cX7_quarrel 189 = .ok (.iload 10, 2) := by decide +kernel
theorem dX7_quarrel_191 : decode cX7_quarrel 191 = .ok (.iload 11, 2) := by decide +kernel
theorem dX7_quarrel_193 : decode cX7_quarrel 193 = .ok (.iconst 1, 1) := by decide +kernel
theorem dX7_quarrel_194 : decode cX7_quarrel 194 = .ok (.invokevirtual 92, 3) := by decide +kernel
theorem dX7_quarrel_197 : decode cX7_quarrel 197 = .ok (.iload 7, 2) := by decide +kernel
theorem dX7_quarrel_199 : decode cX7_quarrel 199 = .ok (.aload_n 0, 1) := by decide +kernel
theorem dX7_quarrel_200 : decode cX7_quarrel 200 = .ok (.getfield 59, 3) := by decide +kernel
theorem dX7_quarrel_203 : decode cX7_quarrel 203 = .ok (.iload 5, 2) := by decide +kernel
theorem dX7_quarrel_205 : decode cX7_quarrel 205 = .ok (.if_icmp .gt 7, 3) := by decide +kernel
theorem dX7_quarrel_208 : decode cX7_quarrel 208 = .ok (.iconst 1, 1) := by decide +kernel
theorem dX7_quarrel_209 : decode cX7_quarrel 209 = .ok (.goto 4, 3) := by decide +kernel
theorem dX7_quarrel_212 : decode cX7_quarrel 212 = .ok (.iconst 0, 1) := by decide +kernel
theorem dX7_quarrel_213 : decode cX7_quarrel 213 = .ok (.iadd, 1) := by decide +kernel
theorem dX7_quarrel_214 : decode cX7_quarrel 214 = .ok (.istore 7, 2) := by decide +kernel
theorem dX7_quarrel_216 : decode cX7_quarrel 216 = .ok (.iload 9, 2) := by decide +kernel
theorem dX7_quarrel_218 : decode cX7_quarrel 218 = .ok (.ifCond .ne 7, 3) := by decide +kernel
theorem dX7_quarrel_221 : decode cX7_quarrel 221 = .ok (.iconst 1, 1) := by decide +kernel
theorem dX7_quarrel_222 : decode cX7_quarrel 222 = .ok (.goto 4, 3) := by decide +kernel
theorem dX7_quarrel_225 : decode cX7_quarrel 225 = .ok (.iconst 0, 1) := by decide +kernel
theorem dX7_quarrel_226 : decode cX7_quarrel 226 = .ok (.istore 9, 2) := by decide +kernel
theorem dX7_quarrel_228 : decode cX7_quarrel 228 = .ok (.goto (-148), 3) := by decide +kernel
theorem dX7_quarrel_231 : decode cX7_quarrel 231 = .ok (.iload 6, 2) := by decide +kernel
theorem dX7_quarrel_233 : decode cX7_quarrel 233 = .ok (.ifCond .ne 8, 3) := by decide +kernel
theorem dX7_quarrel_236 : decode cX7_quarrel 236 = .ok (.iload 7, 2) := by decide +kernel
theorem dX7_quarrel_238 : decode cX7_quarrel 238 = .ok (.goto 5, 3) := by decide +kernel
theorem dX7_quarrel_241 : decode cX7_quarrel 241 = .ok (.iload 8, 2) := by decide +kernel
theorem dX7_quarrel_243 : decode cX7_quarrel 243 = .ok (.ireturn, 1) := by decide +kernel
theorem dX7_length_0 : decode cX7_length 0 = .ok (.iload_n 1, 1) := by decide +kernel
theorem dX7_length_1 : decode cX7_length 1 = .ok (.invokestatic 102, 3) := by decide +kernel
theorem dX7_length_4 : decode cX7_length 4 = .ok (.ifCond .ne 5, 3) := by decide +kernel
theorem dX7_length_7 : decode cX7_length 7 = .ok (.iconst (-1), 1) := by decide +kernel
theorem dX7_length_8 : decode cX7_length 8 = .ok (.ireturn, 1) := by decide +kernel
theorem dX7_length_9 : decode cX7_length 9 = .ok (.iload_n 2, 1) := by decide +kernel
theorem dX7_length_10 : decode cX7_length 10 = .ok (.iconst 0, 1) := by decide +kernel
theorem dX7_length_11 : decode cX7_length 11 = .ok (.sipush 999, 3) := by decide +kernel
theorem dX7_length_14 : decode cX7_length 14 = .ok (.invokestatic 48, 3) := by decide +kernel
theorem dX7_length_17 : decode cX7_length 17 = .ok (.ifCond .eq 12, 3) := by decide +kernel
theorem dX7_length_20 : decode cX7_length 20 = .ok (.iload_n 3, 1) := by decide +kernel
theorem dX7_length_21 : decode cX7_length 21 = .ok (.iconst 0, 1) := by decide +kernel
theorem dX7_length_22 : decode cX7_length 22 = .ok (.iconst 1, 1) := by decide +kernel
theorem dX7_length_23 : decode cX7_length 23 = .ok (.invokestatic 48, 3) := by decide +kernel
theorem dX7_length_26 : decode cX7_length 26 = .ok (.ifCond .ne 6, 3) := by decide +kernel
theorem dX7_length_29 : decode cX7_length 29 = .ok (.bipush (-2), 2) := by decide +kernel
theorem dX7_length_31 : decode cX7_length 31 = .ok (.ireturn, 1) := by decide +kernel
theorem dX7_length_32 : decode cX7_length 32 = .ok (.bipush (-6), 2) := by decide +kernel
theorem dX7_length_34 : decode cX7_length 34 = .ok (.istore 4, 2) := by decide +kernel
theorem dX7_length_36 : decode cX7_length 36 = .ok (.iconst 0, 1) := by decide +kernel
theorem dX7_length_37 : decode cX7_length 37 = .ok (.istore 5, 2) := by decide +kernel
theorem dX7_length_39 : decode cX7_length 39 = .ok (.iconst 1, 1) := by decide +kernel
theorem dX7_length_40 : decode cX7_length 40 = .ok (.istore 6, 2) := by decide +kernel
theorem dX7_length_42 : decode cX7_length 42 = .ok (.iload 6, 2) := by decide +kernel
theorem dX7_length_44 : decode cX7_length 44 = .ok (.bipush 100, 2) := by decide +kernel
theorem dX7_length_46 : decode cX7_length 46 = .ok (.if_icmp .ge 90, 3) := by decide +kernel
theorem dX7_length_49 : decode cX7_length 49 = .ok (.aload_n 0, 1) := by decide +kernel
theorem dX7_length_50 : decode cX7_length 50 = .ok (.invokevirtual 79, 3) := by decide +kernel
theorem dX7_length_53 : decode cX7_length 53 = .ok (.iconst 0, 1) := by decide +kernel
theorem dX7_length_54 : decode cX7_length 54 = .ok (.istore 7, 2) := by decide +kernel
theorem dX7_length_56 : decode cX7_length 56 = .ok (.aload_n 0, 1) := by decide +kernel
theorem dX7_length_57 : decode cX7_length 57 = .ok (.getfield 59, 3) := by decide +kernel
theorem dX7_length_60 : decode cX7_length 60 = .ok (.iload_n 2, 1) := by decide +kernel
theorem dX7_length_61 : decode cX7_length 61 = .ok (.if_icmp .ge 54, 3) := by decide +kernel
theorem dX7_length_64 : decode cX7_length 64 = .ok (.aload_n 0, 1) := by decide +kernel
theorem dX7_length_65 : decode cX7_length 65 = .ok (.getfield 29, 3) := by decide +kernel
theorem dX7_length_68 : decode cX7_length 68 = .ok (.iload_n 1, 1) := by decide +kernel
theorem dX7_length_69 : decode cX7_length 69 = .ok (.iaload, 1) := by decide +kernel
theorem dX7_length_70 : decode cX7_length 70 = .ok (.ifCond .le 15, 3) := by decide +kernel
theorem dX7_length_73 : decode cX7_length 73 = .ok (.aload_n 0, 1) := by decide +kernel
theorem dX7_length_74 : decode cX7_length 74 = .ok (.aload_n 0, 1) := by decide +kernel
theorem dX7_length_75 : decode cX7_length 75 = .ok (.getfield 29, 3) := by decide +kernel
theorem dX7_length_78 : decode cX7_length 78 = .ok (.iload_n 1, 1) := by decide +kernel
theorem dX7_length_79 : decode cX7_length 79 = .ok (.iaload, 1) := by decide +kernel
theorem dX7_length_80 : decode cX7_length 80 = .ok (.bipush (-6), 2) := by decide +kernel
theorem dX7_length_82 : decode cX7_length 82 = .ok (.invokevirtual 66, 3) := by decide +kernel
theorem dX7_length_85 : decode cX7_length 85 = .ok (.aload_n 0, 1) := by decide +kernel
theorem dX7_length_86 : decode cX7_length 86 = .ok (.iload_n 1, 1) := by decide +kernel
theorem dX7_length_87 : decode cX7_length 87 = .ok (.iload 6, 2) := by decide +kernel
theorem dX7_length_89 : decode cX7_length 89 = .ok (.iconst 1, 1) := by decide +kernel
theorem dX7_length_90 : decode cX7_length 90 = .ok (.invokevirtual 92, 3) := by decide +kernel
theorem dX7_length_93 : decode cX7_length 93 = .ok (.iload 7, 2) := by decide +kernel
theorem dX7_length_95 : decode cX7_length 95 = .ok (.aload_n 0, 1) := by decide +kernel
theorem dX7_length_96 : decode cX7_length 96 = .ok (.getfield 59, 3) := by decide +kernel
theorem dX7_length_99 : decode cX7_length 99 = .ok (.iload_n 2, 1) := by decide +kernel
theorem dX7_length_100 : decode cX7_length 100 = .ok (.if_icmp .gt 8, 3) := by decide +kernel
theorem dX7_length_103 : decode cX7_length 103 = .ok (.iload 6, 2) := by decide +kernel
theorem dX7_length_105 : decode cX7_length 105 = .ok (.goto 4, 3) := by decide +kernel
theorem dX7_length_108 : decode cX7_length 108 = .ok (.iconst 0, 1) := by decide +kernel
theorem dX7_length_109 : decode cX7_length 109 = .ok (.iadd, 1) := by decide +kernel
theorem dX7_length_110 : decode cX7_length 110 = .ok (.istore 7, 2) := by decide +kernel
theorem dX7_length_112 : decode cX7_length 112 = .ok (.goto (-56), 3) := by decide +kernel
theorem dX7_length_115 : decode cX7_length 115 = .ok (.iload 7, 2) := by decide +kernel
theorem dX7_length_117 : decode cX7_length 117 = .ok (.iload 5, 2) := by decide +kernel
theorem dX7_length_119 : decode cX7_length 119 = .ok (.if_icmp .le 11, 3) := by decide +kernel
theorem dX7_length_122 : decode cX7_length 122 = .ok (.iload 7, 2) := by decide +kernel
theorem dX7_length_124 : decode cX7_length 124 = .ok (.istore 5, 2) := by decide +kernel
theorem dX7_length_126 : decode cX7_length 126 = .ok (.iload 6, 2) := by decide +kernel
theorem dX7_length_128 : decode cX7_length 128 = .ok (.istore 4, 2) := by decide +kernel
theorem dX7_length_130 : decode cX7_length 130 = .ok (.iinc 6 1, 3) := by decide +kernel
theorem dX7_length_133 : decode cX7_length 133 = .ok (.goto (-91), 3) := by decide +kernel
theorem dX7_length_136 : decode cX7_length 136 = .ok (.iload_n 3, 1) := by decide +kernel
theorem dX7_length_137 : decode cX7_length 137 = .ok (.ifCond .ne 8, 3) := by decide +kernel
theorem dX7_length_140 : decode cX7_length 140 = .ok (.iload 4, 2) := by decide +kernel
theorem dX7_length_142 : decode cX7_length 142 = .ok (.goto 5, 3) := by decide +kernel
theorem dX7_length_145 : decode cX7_length 145 = .ok (.iload 5, 2) := by decide +kernel
theorem dX7_length_147 : decode cX7_length 147 = .ok (.ireturn, 1) := by decide +kernel
theorem dX7_seen_0 : decode cX7_seen 0 = .ok (.iload_n 1, 1) := by decide +kernel
theorem dX7_seen_1 : decode cX7_seen 1 = .ok (.invokestatic 102, 3) := by decide +kernel
theorem dX7_seen_4 : decode cX7_seen 4 = .ok (.ifCond .ne 5, 3) := by decide +kernel
theorem dX7_seen_7 : decode cX7_seen 7 = .ok (.iconst (-1), 1) := by decide +kernel
theorem dX7_seen_8 : decode cX7_seen 8 = .ok (.ireturn, 1) := by decide +kernel
theorem dX7_seen_9 : decode cX7_seen 9 = .ok (.iload_n 2, 1) := by decide +kernel
theorem dX7_seen_10 : decode cX7_seen 10 = .ok (.bipush (-99), 2) := by decide +kernel
theorem dX7_seen_12 : decode cX7_seen 12 = .ok (.sipush 999, 3) := by decide +kernel
theorem dX7_seen_15 : decode cX7_seen 15 = .ok (.invokestatic 48, 3) := by decide +kernel
theorem dX7_seen_18 : decode cX7_seen 18 = .ok (.ifCond .ne 6, 3) := by decide +kernel
theorem dX7_seen_21 : decode cX7_seen 21 = .ok (.bipush (-2), 2) := by decide +kernel
theorem dX7_seen_23 : decode cX7_seen 23 = .ok (.ireturn, 1) := by decide +kernel
theorem dX7_seen_24 : decode cX7_seen 24 = .ok (.aload_n 0, 1) := by decide +kernel
theorem dX7_seen_25 : decode cX7_seen 25 = .ok (.getfield 128, 3) := by decide +kernel
theorem dX7_seen_28 : decode cX7_seen 28 = .ok (.bipush 6, 2) := by decide +kernel
theorem dX7_seen_30 : decode cX7_seen 30 = .ok (.if_icmp .ne 6, 3) := by decide +kernel
theorem dX7_seen_33 : decode cX7_seen 33 = .ok (.bipush (-4), 2) := by decide +kernel
theorem dX7_seen_35 : decode cX7_seen 35 = .ok (.ireturn, 1) := by decide +kernel
theorem dX7_seen_36 : decode cX7_seen 36 = .ok (.aload_n 0, 1) := by decide +kernel
theorem dX7_seen_37 : decode cX7_seen 37 = .ok (.getfield 23, 3) := by decide +kernel
theorem dX7_seen_40 : decode cX7_seen 40 = .ok (.iconst 2, 1) := by decide +kernel
theorem dX7_seen_41 : decode cX7_seen 41 = .ok (.aload_n 0, 1) := by decide +kernel
theorem dX7_seen_42 : decode cX7_seen 42 = .ok (.getfield 128, 3) := by decide +kernel
theorem dX7_seen_45 : decode cX7_seen 45 = .ok (.imul, 1) := by decide +kernel
theorem dX7_seen_46 : decode cX7_seen 46 = .ok (.iload_n 1, 1) := by decide +kernel
theorem dX7_seen_47 : decode cX7_seen 47 = .ok (.iastore, 1) := by decide +kernel
theorem dX7_seen_48 : decode cX7_seen 48 = .ok (.aload_n 0, 1) := by decide +kernel
theorem dX7_seen_49 : decode cX7_seen 49 = .ok (.getfield 23, 3) := by decide +kernel
theorem dX7_seen_52 : decode cX7_seen 52 = .ok (.iconst 2, 1) := by decide +kernel
theorem dX7_seen_53 : decode cX7_seen 53 = .ok (.aload_n 0, 1) := by decide +kernel
theorem dX7_seen_54 : decode cX7_seen 54 = .ok (.getfield 128, 3) := by decide +kernel
theorem dX7_seen_57 : decode cX7_seen 57 = .ok (.imul, 1) := by decide +kernel
theorem dX7_seen_58 : decode cX7_seen 58 = .ok (.iconst 1, 1) := by decide +kernel
theorem dX7_seen_59 : decode cX7_seen 59 = .ok (.iadd, 1) := by decide +kernel
theorem dX7_seen_60 : decode cX7_seen 60 = .ok (.iload_n 2, 1) := by decide +kernel
theorem dX7_seen_61 : decode cX7_seen 61 = .ok (.iastore, 1) := by decide +kernel
theorem dX7_seen_62 : decode cX7_seen 62 = .ok (.aload_n 0, 1) := by decide +kernel
theorem dX7_seen_63 : decode cX7_seen 63 = .ok (.dup, 1) := by decide +kernel
theorem dX7_seen_64 : decode cX7_seen 64 = .ok (.getfield 128, 3) := by decide +kernel
theorem dX7_seen_67 : decode cX7_seen 67 = .ok (.iconst 1, 1) := by decide +kernel
theorem dX7_seen_68 : decode cX7_seen 68 = .ok (.iadd, 1) := by decide +kernel
theorem dX7_seen_69 : decode cX7_seen 69 = .ok (.putfield 128, 3) := by decide +kernel
theorem dX7_seen_72 : decode cX7_seen 72 = .ok (.aload_n 0, 1) := by decide +kernel
theorem dX7_seen_73 : decode cX7_seen 73 = .ok (.getfield 128, 3) := by decide +kernel
theorem dX7_seen_76 : decode cX7_seen 76 = .ok (.ireturn, 1) := by decide +kernel
theorem dX7_forget_0 : decode cX7_forget 0 = .ok (.aload_n 0, 1) := by decide +kernel
theorem dX7_forget_1 : decode cX7_forget 1 = .ok (.getfield 128, 3) := by decide +kernel
theorem dX7_forget_4 : decode cX7_forget 4 = .ok (.istore_n 1, 1) := by decide +kernel
theorem dX7_forget_5 : decode cX7_forget 5 = .ok (.aload_n 0, 1) := by decide +kernel
theorem dX7_forget_6 : decode cX7_forget 6 = .ok (.iconst 0, 1) := by decide +kernel
theorem dX7_forget_7 : decode cX7_forget 7 = .ok (.putfield 128, 3) := by decide +kernel
theorem dX7_forget_10 : decode cX7_forget 10 = .ok (.iload_n 1, 1) := by decide +kernel
theorem dX7_forget_11 : decode cX7_forget 11 = .ok (.ireturn, 1) := by decide +kernel
theorem dX7_filled_0 : decode cX7_filled 0 = .ok (.aload_n 0, 1) := by decide +kernel
theorem dX7_filled_1 : decode cX7_filled 1 = .ok (.invokevirtual 55, 3) := by decide +kernel
theorem dX7_filled_4 : decode cX7_filled 4 = .ok (.ifCond .lt 6, 3) := by decide +kernel
theorem dX7_filled_7 : decode cX7_filled 7 = .ok (.bipush (-5), 2) := by decide +kernel
theorem dX7_filled_9 : decode cX7_filled 9 = .ok (.ireturn, 1) := by decide +kernel
theorem dX7_filled_10 : decode cX7_filled 10 = .ok (.aload_n 0, 1) := by decide +kernel
theorem dX7_filled_11 : decode cX7_filled 11 = .ok (.bipush (-6), 2) := by decide +kernel
theorem dX7_filled_13 : decode cX7_filled 13 = .ok (.putfield 70, 3) := by decide +kernel
theorem dX7_filled_16 : decode cX7_filled 16 = .ok (.iconst 1, 1) := by decide +kernel
theorem dX7_filled_17 : decode cX7_filled 17 = .ok (.istore_n 2, 1) := by decide +kernel
theorem dX7_filled_18 : decode cX7_filled 18 = .ok (.iconst 0, 1) := by decide +kernel
theorem dX7_filled_19 : decode cX7_filled 19 = .ok (.istore_n 3, 1) := by decide +kernel
theorem dX7_filled_20 : decode cX7_filled 20 = .ok (.iload_n 3, 1) := by decide +kernel
theorem dX7_filled_21 : decode cX7_filled 21 = .ok (.aload_n 0, 1) := by decide +kernel
theorem dX7_filled_22 : decode cX7_filled 22 = .ok (.invokevirtual 82, 3) := by decide +kernel
theorem dX7_filled_25 : decode cX7_filled 25 = .ok (.if_icmp .ge 14, 3) := by decide +kernel
theorem dX7_filled_28 : decode cX7_filled 28 = .ok (.iload_n 2, 1) := by decide +kernel
theorem dX7_filled_29 : decode cX7_filled 29 = .ok (.bipush 6, 2) := by decide +kernel
theorem dX7_filled_31 : decode cX7_filled 31 = .ok (.imul, 1) := by decide +kernel
theorem dX7_filled_32 : decode cX7_filled 32 = .ok (.istore_n 2, 1) := by decide +kernel
theorem dX7_filled_33 : decode cX7_filled 33 = .ok (.iinc 3 1, 3) := by decide +kernel
theorem dX7_filled_36 : decode cX7_filled 36 = .ok (.goto (-16), 3) := by decide +kernel
theorem dX7_filled_39 : decode cX7_filled 39 = .ok (.iconst 0, 1) := by decide +kernel
theorem dX7_filled_40 : decode cX7_filled 40 = .ok (.istore_n 3, 1) := by decide +kernel
theorem dX7_filled_41 : decode cX7_filled 41 = .ok (.bipush (-6), 2) := by decide +kernel
theorem dX7_filled_43 : decode cX7_filled 43 = .ok (.istore 4, 2) := by decide +kernel
theorem dX7_filled_45 : decode cX7_filled 45 = .ok (.iconst 0, 1) := by decide +kernel
theorem dX7_filled_46 : decode cX7_filled 46 = .ok (.istore 5, 2) := by decide +kernel
theorem dX7_filled_48 : decode cX7_filled 48 = .ok (.iload 5, 2) := by decide +kernel
theorem dX7_filled_50 : decode cX7_filled 50 = .ok (.iload_n 2, 1) := by decide +kernel
theorem dX7_filled_51 : decode cX7_filled 51 = .ok (.if_icmp .ge 105, 3) := by decide +kernel
theorem dX7_filled_54 : decode cX7_filled 54 = .ok (.aload_n 0, 1) := by decide +kernel
theorem dX7_filled_55 : decode cX7_filled 55 = .ok (.iload 5, 2) := by decide +kernel
theorem dX7_filled_57 : decode cX7_filled 57 = .ok (.invokevirtual 96, 3) := by decide +kernel
theorem dX7_filled_60 : decode cX7_filled 60 = .ok (.ifCond .ge 7, 3) := by decide +kernel
theorem dX7_filled_63 : decode cX7_filled 63 = .ok (.iconst 1, 1) := by decide +kernel
theorem dX7_filled_64 : decode cX7_filled 64 = .ok (.goto 4, 3) := by decide +kernel
theorem dX7_filled_67 : decode cX7_filled 67 = .ok (.iconst 0, 1) := by decide +kernel
theorem dX7_filled_68 : decode cX7_filled 68 = .ok (.istore 6, 2) := by decide +kernel
theorem dX7_filled_70 : decode cX7_filled 70 = .ok (.iconst 0, 1) := by decide +kernel
theorem dX7_filled_71 : decode cX7_filled 71 = .ok (.istore 7, 2) := by decide +kernel
theorem dX7_filled_73 : decode cX7_filled 73 = .ok (.iload 7, 2) := by decide +kernel
theorem dX7_filled_75 : decode cX7_filled 75 = .ok (.aload_n 0, 1) := by decide +kernel
theorem dX7_filled_76 : decode cX7_filled 76 = .ok (.getfield 128, 3) := by decide +kernel
theorem dX7_filled_79 : decode cX7_filled 79 = .ok (.if_icmp .ge 49, 3) := by decide +kernel
theorem dX7_filled_82 : decode cX7_filled 82 = .ok (.iload 6, 2) := by decide +kernel
theorem dX7_filled_84 : decode cX7_filled 84 = .ok (.ifCond .eq 44, 3) := by decide +kernel
theorem dX7_filled_87 : decode cX7_filled 87 = .ok (.aload_n 0, 1) := by decide +kernel
theorem dX7_filled_88 : decode cX7_filled 88 = .ok (.getfield 29, 3) := by decide +kernel
theorem dX7_filled_91 : decode cX7_filled 91 = .ok (.aload_n 0, 1) := by decide +kernel
theorem dX7_filled_92 : decode cX7_filled 92 = .ok (.getfield 23, 3) := by decide +kernel
theorem dX7_filled_95 : decode cX7_filled 95 = .ok (.iconst 2, 1) := by decide +kernel
theorem dX7_filled_96 : decode cX7_filled 96 = .ok (.iload 7, 2) := by decide +kernel
theorem dX7_filled_98 : decode cX7_filled 98 = .ok (.imul, 1) := by decide +kernel
theorem dX7_filled_99 : decode cX7_filled 99 = .ok (.iaload, 1) := by decide +kernel
theorem dX7_filled_100 : decode cX7_filled 100 = .ok (.iaload, 1) := by decide +kernel
theorem dX7_filled_101 : decode cX7_filled 101 = .ok (.aload_n 0, 1) := by decide +kernel
theorem dX7_filled_102 : decode cX7_filled 102 = .ok (.getfield 23, 3) := by decide +kernel
theorem dX7_filled_105 : decode cX7_filled 105 = .ok (.iconst 2, 1) := by decide +kernel
theorem dX7_filled_106 : decode cX7_filled 106 = .ok (.iload 7, 2) := by decide +kernel
theorem dX7_filled_108 : decode cX7_filled 108 = .ok (.imul, 1) := by decide +kernel
theorem dX7_filled_109 : decode cX7_filled 109 = .ok (.iconst 1, 1) := by decide +kernel
theorem dX7_filled_110 : decode cX7_filled 110 = .ok (.iadd, 1) := by decide +kernel
theorem dX7_filled_111 : decode cX7_filled 111 = .ok (.iaload, 1) := by decide +kernel
theorem dX7_filled_112 : decode cX7_filled 112 = .ok (.if_icmp .ne 7, 3) := by decide +kernel
theorem dX7_filled_115 : decode cX7_filled 115 = .ok (.iconst 1, 1) := by decide +kernel
theorem dX7_filled_116 : decode cX7_filled 116 = .ok (.goto 4, 3) := by decide +kernel
theorem dX7_filled_119 : decode cX7_filled 119 = .ok (.iconst 0, 1) := by decide +kernel
theorem dX7_filled_120 : decode cX7_filled 120 = .ok (.istore 6, 2) := by decide +kernel
theorem dX7_filled_122 : decode cX7_filled 122 = .ok (.iinc 7 1, 3) := by decide +kernel
theorem dX7_filled_125 : decode cX7_filled 125 = .ok (.goto (-52), 3) := by decide +kernel
theorem dX7_filled_128 : decode cX7_filled 128 = .ok (.iload 6, 2) := by decide +kernel
theorem dX7_filled_130 : decode cX7_filled 130 = .ok (.ifCond .eq 20, 3) := by decide +kernel
theorem dX7_filled_133 : decode cX7_filled 133 = .ok (.iload 4, 2) := by decide +kernel
theorem dX7_filled_135 : decode cX7_filled 135 = .ok (.ifCond .ge 8, 3) := by decide +kernel
theorem dX7_filled_138 : decode cX7_filled 138 = .ok (.iload 5, 2) := by decide +kernel
theorem dX7_filled_140 : decode cX7_filled 140 = .ok (.goto 5, 3) := by decide +kernel
theorem dX7_filled_143 : decode cX7_filled 143 = .ok (.iload 4, 2) := by decide +kernel
theorem dX7_filled_145 : decode cX7_filled 145 = .ok (.istore 4, 2) := by decide +kernel
theorem dX7_filled_147 : decode cX7_filled 147 = .ok (.iinc 3 1, 3) := by decide +kernel
theorem dX7_filled_150 : decode cX7_filled 150 = .ok (.iinc 5 1, 3) := by decide +kernel
theorem dX7_filled_153 : decode cX7_filled 153 = .ok (.goto (-105), 3) := by decide +kernel
theorem dX7_filled_156 : decode cX7_filled 156 = .ok (.iload_n 1, 1) := by decide +kernel
theorem dX7_filled_157 : decode cX7_filled 157 = .ok (.iconst (-1), 1) := by decide +kernel
theorem dX7_filled_158 : decode cX7_filled 158 = .ok (.if_icmp .ne 5, 3) := by decide +kernel
theorem dX7_filled_161 : decode cX7_filled 161 = .ok (.iload_n 3, 1) := by decide +kernel
theorem dX7_filled_162 : decode cX7_filled 162 = .ok (.ireturn, 1) := by decide +kernel
theorem dX7_filled_163 : decode cX7_filled 163 = .ok (.iload 4, 2) := by decide +kernel
theorem dX7_filled_165 : decode cX7_filled 165 = .ok (.ifCond .lt 17, 3) := by decide +kernel
theorem dX7_filled_168 : decode cX7_filled 168 = .ok (.iload_n 1, 1) := by decide +kernel
theorem dX7_filled_169 : decode cX7_filled 169 = .ok (.iconst 0, 1) := by decide +kernel
theorem dX7_filled_170 : decode cX7_filled 170 = .ok (.aload_n 0, 1) := by decide +kernel
theorem dX7_filled_171 : decode cX7_filled 171 = .ok (.invokevirtual 82, 3) := by decide +kernel
theorem dX7_filled_174 : decode cX7_filled 174 = .ok (.iconst 1, 1) := by decide +kernel
theorem dX7_filled_175 : decode cX7_filled 175 = .ok (.isub, 1) := by decide +kernel
theorem dX7_filled_176 : decode cX7_filled 176 = .ok (.invokestatic 48, 3) := by decide +kernel
theorem dX7_filled_179 : decode cX7_filled 179 = .ok (.ifCond .ne 6, 3) := by decide +kernel
theorem dX7_filled_182 : decode cX7_filled 182 = .ok (.bipush (-6), 2) := by decide +kernel
theorem dX7_filled_184 : decode cX7_filled 184 = .ok (.ireturn, 1) := by decide +kernel
theorem dX7_filled_185 : decode cX7_filled 185 = .ok (.iload 4, 2) := by decide +kernel
theorem dX7_filled_187 : decode cX7_filled 187 = .ok (.istore 5, 2) := by decide +kernel
theorem dX7_filled_189 : decode cX7_filled 189 = .ok (.aload_n 0, 1) := by decide +kernel
theorem dX7_filled_190 : decode cX7_filled 190 = .ok (.invokevirtual 82, 3) := by decide +kernel
theorem dX7_filled_193 : decode cX7_filled 193 = .ok (.iconst 1, 1) := by decide +kernel
theorem dX7_filled_194 : decode cX7_filled 194 = .ok (.isub, 1) := by decide +kernel
theorem dX7_filled_195 : decode cX7_filled 195 = .ok (.istore 6, 2) := by decide +kernel
theorem dX7_filled_197 : decode cX7_filled 197 = .ok (.iload 6, 2) := by decide +kernel
theorem dX7_filled_199 : decode cX7_filled 199 = .ok (.iload_n 1, 1) := by decide +kernel
theorem dX7_filled_200 : decode cX7_filled 200 = .ok (.if_icmp .le 16, 3) := by decide +kernel
theorem dX7_filled_203 : decode cX7_filled 203 = .ok (.iload 5, 2) := by decide +kernel
theorem dX7_filled_205 : decode cX7_filled 205 = .ok (.bipush 6, 2) := by decide +kernel
theorem dX7_filled_207 : decode cX7_filled 207 = .ok (.idiv, 1) := by decide +kernel
theorem dX7_filled_208 : decode cX7_filled 208 = .ok (.istore 5, 2) := by decide +kernel
theorem dX7_filled_210 : decode cX7_filled 210 = .ok (.iinc 6 (-1), 3) := by decide +kernel
theorem dX7_filled_213 : decode cX7_filled 213 = .ok (.goto (-16), 3) := by decide +kernel
theorem dX7_filled_216 : decode cX7_filled 216 = .ok (.iload 5, 2) := by decide +kernel
theorem dX7_filled_218 : decode cX7_filled 218 = .ok (.bipush 6, 2) := by decide +kernel
theorem dX7_filled_220 : decode cX7_filled 220 = .ok (.irem, 1) := by decide +kernel
theorem dX7_filled_221 : decode cX7_filled 221 = .ok (.ireturn, 1) := by decide +kernel
theorem dX7_burns_0 : decode cX7_burns 0 = .ok (.iload_n 1, 1) := by decide +kernel
theorem dX7_burns_1 : decode cX7_burns 1 = .ok (.invokestatic 102, 3) := by decide +kernel
theorem dX7_burns_4 : decode cX7_burns 4 = .ok (.ifCond .ne 7, 3) := by decide +kernel
theorem dX7_burns_7 : decode cX7_burns 7 = .ok (.ldc2_w 131, 3) := by decide +kernel
theorem dX7_burns_10 : decode cX7_burns 10 = .ok (.lreturn, 1) := by decide +kernel
theorem dX7_burns_11 : decode cX7_burns 11 = .ok (.iload_n 2, 1) := by decide +kernel
theorem dX7_burns_12 : decode cX7_burns 12 = .ok (.iconst 0, 1) := by decide +kernel
theorem dX7_burns_13 : decode cX7_burns 13 = .ok (.iconst 1, 1) := by decide +kernel
theorem dX7_burns_14 : decode cX7_burns 14 = .ok (.invokestatic 48, 3) := by decide +kernel
theorem dX7_burns_17 : decode cX7_burns 17 = .ok (.ifCond .ne 7, 3) := by decide +kernel
theorem dX7_burns_20 : decode cX7_burns 20 = .ok (.ldc2_w 133, 3) := by decide +kernel
theorem dX7_burns_23 : decode cX7_burns 23 = .ok (.lreturn, 1) := by decide +kernel
theorem dX7_burns_24 : decode cX7_burns 24 = .ok (.aload_n 0, 1) := by decide +kernel
theorem dX7_burns_25 : decode cX7_burns 25 = .ok (.invokevirtual 99, 3) := by decide +kernel
theorem dX7_burns_28 : decode cX7_burns 28 = .ok (.istore_n 3, 1) := by decide +kernel
theorem dX7_burns_29 : decode cX7_burns 29 = .ok (.iload_n 3, 1) := by decide +kernel
theorem dX7_burns_30 : decode cX7_burns 30 = .ok (.ifCond .ge 10, 3) := by decide +kernel
theorem dX7_burns_33 : decode cX7_burns 33 = .ok (.ldc2_w 135, 3) := by decide +kernel
theorem dX7_burns_36 : decode cX7_burns 36 = .ok (.iload_n 3, 1) := by decide +kernel
theorem dX7_burns_37 : decode cX7_burns 37 = .ok (.i2l, 1) := by decide +kernel
theorem dX7_burns_38 : decode cX7_burns 38 = .ok (.ladd, 1) := by decide +kernel
theorem dX7_burns_39 : decode cX7_burns 39 = .ok (.lreturn, 1) := by decide +kernel
theorem dX7_burns_40 : decode cX7_burns 40 = .ok (.aload_n 0, 1) := by decide +kernel
theorem dX7_burns_41 : decode cX7_burns 41 = .ok (.getfield 59, 3) := by decide +kernel
theorem dX7_burns_44 : decode cX7_burns 44 = .ok (.ifCond .ne 7, 3) := by decide +kernel
theorem dX7_burns_47 : decode cX7_burns 47 = .ok (.ldc2_w 137, 3) := by decide +kernel
theorem dX7_burns_50 : decode cX7_burns 50 = .ok (.lreturn, 1) := by decide +kernel
theorem dX7_burns_51 : decode cX7_burns 51 = .ok (.aload_n 0, 1) := by decide +kernel
theorem dX7_burns_52 : decode cX7_burns 52 = .ok (.iload_n 1, 1) := by decide +kernel
theorem dX7_burns_53 : decode cX7_burns 53 = .ok (.putfield 70, 3) := by decide +kernel
theorem dX7_burns_56 : decode cX7_burns 56 = .ok (.aload_n 0, 1) := by decide +kernel
theorem dX7_burns_57 : decode cX7_burns 57 = .ok (.iconst 0, 1) := by decide +kernel
theorem dX7_burns_58 : decode cX7_burns 58 = .ok (.invokevirtual 96, 3) := by decide +kernel
theorem dX7_burns_61 : decode cX7_burns 61 = .ok (.istore 4, 2) := by decide +kernel
theorem dX7_burns_63 : decode cX7_burns 63 = .ok (.iload 4, 2) := by decide +kernel
theorem dX7_burns_65 : decode cX7_burns 65 = .ok (.ifCond .ge 10, 3) := by decide +kernel
theorem dX7_burns_68 : decode cX7_burns 68 = .ok (.aload_n 0, 1) := by decide +kernel
theorem dX7_burns_69 : decode cX7_burns 69 = .ok (.getfield 73, 3) := by decide +kernel
theorem dX7_burns_72 : decode cX7_burns 72 = .ok (.goto 4, 3) := by decide +kernel
theorem dX7_burns_75 : decode cX7_burns 75 = .ok (.iconst 0, 1) := by decide +kernel
theorem dX7_burns_76 : decode cX7_burns 76 = .ok (.istore 5, 2) := by decide +kernel
theorem dX7_burns_78 : decode cX7_burns 78 = .ok (.aload_n 0, 1) := by decide +kernel
theorem dX7_burns_79 : decode cX7_burns 79 = .ok (.getfield 59, 3) := by decide +kernel
theorem dX7_burns_82 : decode cX7_burns 82 = .ok (.istore 6, 2) := by decide +kernel
theorem dX7_burns_84 : decode cX7_burns 84 = .ok (.iload 6, 2) := by decide +kernel
theorem dX7_burns_86 : decode cX7_burns 86 = .ok (.ifCond .eq 21, 3) := by decide +kernel
theorem dX7_burns_89 : decode cX7_burns 89 = .ok (.iload 5, 2) := by decide +kernel
theorem dX7_burns_91 : decode cX7_burns 91 = .ok (.iload 6, 2) := by decide +kernel
theorem dX7_burns_93 : decode cX7_burns 93 = .ok (.irem, 1) := by decide +kernel
theorem dX7_burns_94 : decode cX7_burns 94 = .ok (.istore 7, 2) := by decide +kernel
theorem dX7_burns_96 : decode cX7_burns 96 = .ok (.iload 6, 2) := by decide +kernel
theorem dX7_burns_98 : decode cX7_burns 98 = .ok (.istore 5, 2) := by decide +kernel
theorem dX7_burns_100 : decode cX7_burns 100 = .ok (.iload 7, 2) := by decide +kernel
theorem dX7_burns_102 : decode cX7_burns 102 = .ok (.istore 6, 2) := by decide +kernel
theorem dX7_burns_104 : decode cX7_burns 104 = .ok (.goto (-20), 3) := by decide +kernel
theorem dX7_burns_107 : decode cX7_burns 107 = .ok (.iload_n 2, 1) := by decide +kernel
theorem dX7_burns_108 : decode cX7_burns 108 = .ok (.ifCond .ne 14, 3) := by decide +kernel
theorem dX7_burns_111 : decode cX7_burns 111 = .ok (.aload_n 0, 1) := by decide +kernel
theorem dX7_burns_112 : decode cX7_burns 112 = .ok (.getfield 73, 3) := by decide +kernel
theorem dX7_burns_115 : decode cX7_burns 115 = .ok (.iload 5, 2) := by decide +kernel
theorem dX7_burns_117 : decode cX7_burns 117 = .ok (.idiv, 1) := by decide +kernel
theorem dX7_burns_118 : decode cX7_burns 118 = .ok (.i2l, 1) := by decide +kernel
theorem dX7_burns_119 : decode cX7_burns 119 = .ok (.goto 11, 3) := by decide +kernel
theorem dX7_burns_122 : decode cX7_burns 122 = .ok (.aload_n 0, 1) := by decide +kernel
theorem dX7_burns_123 : decode cX7_burns 123 = .ok (.getfield 59, 3) := by decide +kernel
theorem dX7_burns_126 : decode cX7_burns 126 = .ok (.iload 5, 2) := by decide +kernel
theorem dX7_burns_128 : decode cX7_burns 128 = .ok (.idiv, 1) := by decide +kernel
theorem dX7_burns_129 : decode cX7_burns 129 = .ok (.i2l, 1) := by decide +kernel
theorem dX7_burns_130 : decode cX7_burns 130 = .ok (.lreturn, 1) := by decide +kernel
theorem dX7_year_0 : decode cX7_year 0 = .ok (.iload_n 3, 1) := by decide +kernel
theorem dX7_year_1 : decode cX7_year 1 = .ok (.invokestatic 102, 3) := by decide +kernel
theorem dX7_year_4 : decode cX7_year 4 = .ok (.ifCond .ne 5, 3) := by decide +kernel
theorem dX7_year_7 : decode cX7_year 7 = .ok (.iconst (-1), 1) := by decide +kernel
theorem dX7_year_8 : decode cX7_year 8 = .ok (.ireturn, 1) := by decide +kernel
theorem dX7_year_9 : decode cX7_year 9 = .ok (.iload_n 1, 1) := by decide +kernel
theorem dX7_year_10 : decode cX7_year 10 = .ok (.iconst 0, 1) := by decide +kernel
theorem dX7_year_11 : decode cX7_year 11 = .ok (.sipush 9999, 3) := by decide +kernel
theorem dX7_year_14 : decode cX7_year 14 = .ok (.invokestatic 48, 3) := by decide +kernel
theorem dX7_year_17 : decode cX7_year 17 = .ok (.ifCond .eq 13, 3) := by decide +kernel
theorem dX7_year_20 : decode cX7_year 20 = .ok (.iload_n 2, 1) := by decide +kernel
theorem dX7_year_21 : decode cX7_year 21 = .ok (.iconst 1, 1) := by decide +kernel
theorem dX7_year_22 : decode cX7_year 22 = .ok (.bipush 99, 2) := by decide +kernel
theorem dX7_year_24 : decode cX7_year 24 = .ok (.invokestatic 48, 3) := by decide +kernel
theorem dX7_year_27 : decode cX7_year 27 = .ok (.ifCond .ne 6, 3) := by decide +kernel
theorem dX7_year_30 : decode cX7_year 30 = .ok (.bipush (-2), 2) := by decide +kernel
theorem dX7_year_32 : decode cX7_year 32 = .ok (.ireturn, 1) := by decide +kernel
theorem dX7_year_33 : decode cX7_year 33 = .ok (.aload_n 0, 1) := by decide +kernel
theorem dX7_year_34 : decode cX7_year 34 = .ok (.invokevirtual 79, 3) := by decide +kernel
theorem dX7_year_37 : decode cX7_year 37 = .ok (.iload_n 1, 1) := by decide +kernel
theorem dX7_year_38 : decode cX7_year 38 = .ok (.istore 4, 2) := by decide +kernel
theorem dX7_year_40 : decode cX7_year 40 = .ok (.iconst 0, 1) := by decide +kernel
theorem dX7_year_41 : decode cX7_year 41 = .ok (.istore 5, 2) := by decide +kernel
theorem dX7_year_43 : decode cX7_year 43 = .ok (.iconst 0, 1) := by decide +kernel
theorem dX7_year_44 : decode cX7_year 44 = .ok (.istore 6, 2) := by decide +kernel
theorem dX7_year_46 : decode cX7_year 46 = .ok (.iload 6, 2) := by decide +kernel
theorem dX7_year_48 : decode cX7_year 48 = .ok (.iload_n 2, 1) := by decide +kernel
theorem dX7_year_49 : decode cX7_year 49 = .ok (.if_icmp .ge 82, 3) := by decide +kernel
theorem dX7_year_52 : decode cX7_year 52 = .ok (.bipush 75, 2) := by decide +kernel
theorem dX7_year_54 : decode cX7_year 54 = .ok (.iload 4, 2) := by decide +kernel
theorem dX7_year_56 : decode cX7_year 56 = .ok (.imul, 1) := by decide +kernel
theorem dX7_year_57 : decode cX7_year 57 = .ok (.bipush 74, 2) := by decide +kernel
theorem dX7_year_59 : decode cX7_year 59 = .ok (.iadd, 1) := by decide +kernel
theorem dX7_year_60 : decode cX7_year 60 = .ok (.ldc 139, 2) := by decide +kernel
theorem dX7_year_62 : decode cX7_year 62 = .ok (.irem, 1) := by decide +kernel
theorem dX7_year_63 : decode cX7_year 63 = .ok (.istore 4, 2) := by decide +kernel
theorem dX7_year_65 : decode cX7_year 65 = .ok (.iload 4, 2) := by decide +kernel
theorem dX7_year_67 : decode cX7_year 67 = .ok (.bipush 6, 2) := by decide +kernel
theorem dX7_year_69 : decode cX7_year 69 = .ok (.irem, 1) := by decide +kernel
theorem dX7_year_70 : decode cX7_year 70 = .ok (.istore 7, 2) := by decide +kernel
theorem dX7_year_72 : decode cX7_year 72 = .ok (.aload_n 0, 1) := by decide +kernel
theorem dX7_year_73 : decode cX7_year 73 = .ok (.getfield 29, 3) := by decide +kernel
theorem dX7_year_76 : decode cX7_year 76 = .ok (.iload 7, 2) := by decide +kernel
theorem dX7_year_78 : decode cX7_year 78 = .ok (.iaload, 1) := by decide +kernel
theorem dX7_year_79 : decode cX7_year 79 = .ok (.ifCond .gt 39, 3) := by decide +kernel
theorem dX7_year_82 : decode cX7_year 82 = .ok (.aload_n 0, 1) := by decide +kernel
theorem dX7_year_83 : decode cX7_year 83 = .ok (.iload 7, 2) := by decide +kernel
theorem dX7_year_85 : decode cX7_year 85 = .ok (.iconst 1, 1) := by decide +kernel
theorem dX7_year_86 : decode cX7_year 86 = .ok (.iload 4, 2) := by decide +kernel
theorem dX7_year_88 : decode cX7_year 88 = .ok (.bipush 6, 2) := by decide +kernel
theorem dX7_year_90 : decode cX7_year 90 = .ok (.idiv, 1) := by decide +kernel
theorem dX7_year_91 : decode cX7_year 91 = .ok (.bipush 9, 2) := by decide +kernel
theorem dX7_year_93 : decode cX7_year 93 = .ok (.irem, 1) := by decide +kernel
theorem dX7_year_94 : decode cX7_year 94 = .ok (.iadd, 1) := by decide +kernel
theorem dX7_year_95 : decode cX7_year 95 = .ok (.iconst 1, 1) := by decide +kernel
theorem dX7_year_96 : decode cX7_year 96 = .ok (.invokevirtual 92, 3) := by decide +kernel
theorem dX7_year_99 : decode cX7_year 99 = .ok (.iload 5, 2) := by decide +kernel
theorem dX7_year_101 : decode cX7_year 101 = .ok (.iload 7, 2) := by decide +kernel
theorem dX7_year_103 : decode cX7_year 103 = .ok (.iload_n 3, 1) := by decide +kernel
theorem dX7_year_104 : decode cX7_year 104 = .ok (.if_icmp .ne 7, 3) := by decide +kernel
theorem dX7_year_107 : decode cX7_year 107 = .ok (.iconst 1, 1) := by decide +kernel
theorem dX7_year_108 : decode cX7_year 108 = .ok (.goto 4, 3) := by decide +kernel
theorem dX7_year_111 : decode cX7_year 111 = .ok (.iconst 0, 1) := by decide +kernel
theorem dX7_year_112 : decode cX7_year 112 = .ok (.iadd, 1) := by decide +kernel
theorem dX7_year_113 : decode cX7_year 113 = .ok (.istore 5, 2) := by decide +kernel
theorem dX7_year_115 : decode cX7_year 115 = .ok (.goto 10, 3) := by decide +kernel
theorem dX7_year_118 : decode cX7_year 118 = .ok (.aload_n 0, 1) := by decide +kernel
theorem dX7_year_119 : decode cX7_year 119 = .ok (.iconst 1, 1) := by decide +kernel
theorem dX7_year_120 : decode cX7_year 120 = .ok (.bipush (-6), 2) := by decide +kernel
theorem dX7_year_122 : decode cX7_year 122 = .ok (.invokevirtual 66, 3) := by decide +kernel
theorem dX7_year_125 : decode cX7_year 125 = .ok (.iinc 6 1, 3) := by decide +kernel
theorem dX7_year_128 : decode cX7_year 128 = .ok (.goto (-82), 3) := by decide +kernel
theorem dX7_year_131 : decode cX7_year 131 = .ok (.iload 5, 2) := by decide +kernel
theorem dX7_year_133 : decode cX7_year 133 = .ok (.ireturn, 1) := by decide +kernel
theorem dX7_image_0 : decode cX7_image 0 = .ok (.iload_n 1, 1) := by decide +kernel
theorem dX7_image_1 : decode cX7_image 1 = .ok (.iconst 0, 1) := by decide +kernel
theorem dX7_image_2 : decode cX7_image 2 = .ok (.iconst 1, 1) := by decide +kernel
theorem dX7_image_3 : decode cX7_image 3 = .ok (.invokestatic 48, 3) := by decide +kernel
theorem dX7_image_6 : decode cX7_image 6 = .ok (.ifCond .ne 6, 3) := by decide +kernel
theorem dX7_image_9 : decode cX7_image 9 = .ok (.bipush (-2), 2) := by decide +kernel
theorem dX7_image_11 : decode cX7_image 11 = .ok (.ireturn, 1) := by decide +kernel
theorem dX7_image_12 : decode cX7_image 12 = .ok (.bipush 48, 2) := by decide +kernel
theorem dX7_image_14 : decode cX7_image 14 = .ok (.iload_n 1, 1) := by decide +kernel
theorem dX7_image_15 : decode cX7_image 15 = .ok (.imul, 1) := by decide +kernel
theorem dX7_image_16 : decode cX7_image 16 = .ok (.istore_n 2, 1) := by decide +kernel
theorem dX7_image_17 : decode cX7_image 17 = .ok (.iconst 0, 1) := by decide +kernel
theorem dX7_image_18 : decode cX7_image 18 = .ok (.istore_n 3, 1) := by decide +kernel
theorem dX7_image_19 : decode cX7_image 19 = .ok (.iload_n 3, 1) := by decide +kernel
theorem dX7_image_20 : decode cX7_image 20 = .ok (.bipush 6, 2) := by decide +kernel
theorem dX7_image_22 : decode cX7_image 22 = .ok (.if_icmp .ge 23, 3) := by decide +kernel
theorem dX7_image_25 : decode cX7_image 25 = .ok (.aload_n 0, 1) := by decide +kernel
theorem dX7_image_26 : decode cX7_image 26 = .ok (.getfield 38, 3) := by decide +kernel
theorem dX7_image_29 : decode cX7_image 29 = .ok (.iload_n 2, 1) := by decide +kernel
theorem dX7_image_30 : decode cX7_image 30 = .ok (.iload_n 3, 1) := by decide +kernel
theorem dX7_image_31 : decode cX7_image 31 = .ok (.iadd, 1) := by decide +kernel
theorem dX7_image_32 : decode cX7_image 32 = .ok (.aload_n 0, 1) := by decide +kernel
theorem dX7_image_33 : decode cX7_image 33 = .ok (.getfield 16, 3) := by decide +kernel
theorem dX7_image_36 : decode cX7_image 36 = .ok (.iload_n 3, 1) := by decide +kernel
theorem dX7_image_37 : decode cX7_image 37 = .ok (.iaload, 1) := by decide +kernel
theorem dX7_image_38 : decode cX7_image 38 = .ok (.iastore, 1) := by decide +kernel
theorem dX7_image_39 : decode cX7_image 39 = .ok (.iinc 3 1, 3) := by decide +kernel
theorem dX7_image_42 : decode cX7_image 42 = .ok (.goto (-23), 3) := by decide +kernel
theorem dX7_image_45 : decode cX7_image 45 = .ok (.iconst 0, 1) := by decide +kernel
theorem dX7_image_46 : decode cX7_image 46 = .ok (.istore_n 3, 1) := by decide +kernel
theorem dX7_image_47 : decode cX7_image 47 = .ok (.iload_n 3, 1) := by decide +kernel
theorem dX7_image_48 : decode cX7_image 48 = .ok (.bipush 21, 2) := by decide +kernel
theorem dX7_image_50 : decode cX7_image 50 = .ok (.if_icmp .ge 26, 3) := by decide +kernel
theorem dX7_image_53 : decode cX7_image 53 = .ok (.aload_n 0, 1) := by decide +kernel
theorem dX7_image_54 : decode cX7_image 54 = .ok (.getfield 38, 3) := by decide +kernel
theorem dX7_image_57 : decode cX7_image 57 = .ok (.iload_n 2, 1) := by decide +kernel
theorem dX7_image_58 : decode cX7_image 58 = .ok (.bipush 6, 2) := by decide +kernel
theorem dX7_image_60 : decode cX7_image 60 = .ok (.iadd, 1) := by decide +kernel
theorem dX7_image_61 : decode cX7_image 61 = .ok (.iload_n 3, 1) := by decide +kernel
theorem dX7_image_62 : decode cX7_image 62 = .ok (.iadd, 1) := by decide +kernel
theorem dX7_image_63 : decode cX7_image 63 = .ok (.aload_n 0, 1) := by decide +kernel
theorem dX7_image_64 : decode cX7_image 64 = .ok (.getfield 20, 3) := by decide +kernel
theorem dX7_image_67 : decode cX7_image 67 = .ok (.iload_n 3, 1) := by decide +kernel
theorem dX7_image_68 : decode cX7_image 68 = .ok (.iaload, 1) := by decide +kernel
theorem dX7_image_69 : decode cX7_image 69 = .ok (.iastore, 1) := by decide +kernel
theorem dX7_image_70 : decode cX7_image 70 = .ok (.iinc 3 1, 3) := by decide +kernel
theorem dX7_image_73 : decode cX7_image 73 = .ok (.goto (-26), 3) := by decide +kernel
theorem dX7_image_76 : decode cX7_image 76 = .ok (.iconst 0, 1) := by decide +kernel
theorem dX7_image_77 : decode cX7_image 77 = .ok (.istore_n 3, 1) := by decide +kernel
theorem dX7_image_78 : decode cX7_image 78 = .ok (.iload_n 3, 1) := by decide +kernel
theorem dX7_image_79 : decode cX7_image 79 = .ok (.bipush 12, 2) := by decide +kernel
theorem dX7_image_81 : decode cX7_image 81 = .ok (.if_icmp .ge 26, 3) := by decide +kernel
theorem dX7_image_84 : decode cX7_image 84 = .ok (.aload_n 0, 1) := by decide +kernel
theorem dX7_image_85 : decode cX7_image 85 = .ok (.getfield 38, 3) := by decide +kernel
theorem dX7_image_88 : decode cX7_image 88 = .ok (.iload_n 2, 1) := by decide +kernel
theorem dX7_image_89 : decode cX7_image 89 = .ok (.bipush 27, 2) := by decide +kernel
theorem dX7_image_91 : decode cX7_image 91 = .ok (.iadd, 1) := by decide +kernel
theorem dX7_image_92 : decode cX7_image 92 = .ok (.iload_n 3, 1) := by decide +kernel
theorem dX7_image_93 : decode cX7_image 93 = .ok (.iadd, 1) := by decide +kernel
theorem dX7_image_94 : decode cX7_image 94 = .ok (.aload_n 0, 1) := by decide +kernel
theorem dX7_image_95 : decode cX7_image 95 = .ok (.getfield 23, 3) := by decide +kernel
theorem dX7_image_98 : decode cX7_image 98 = .ok (.iload_n 3, 1) := by decide +kernel
theorem dX7_image_99 : decode cX7_image 99 = .ok (.iaload, 1) := by decide +kernel
theorem dX7_image_100 : decode cX7_image 100 = .ok (.iastore, 1) := by decide +kernel
theorem dX7_image_101 : decode cX7_image 101 = .ok (.iinc 3 1, 3) := by decide +kernel
theorem dX7_image_104 : decode cX7_image 104 = .ok (.goto (-26), 3) := by decide +kernel
theorem dX7_image_107 : decode cX7_image 107 = .ok (.aload_n 0, 1) := by decide +kernel
theorem dX7_image_108 : decode cX7_image 108 = .ok (.getfield 38, 3) := by decide +kernel
theorem dX7_image_111 : decode cX7_image 111 = .ok (.iload_n 2, 1) := by decide +kernel
theorem dX7_image_112 : decode cX7_image 112 = .ok (.bipush 39, 2) := by decide +kernel
theorem dX7_image_114 : decode cX7_image 114 = .ok (.iadd, 1) := by decide +kernel
theorem dX7_image_115 : decode cX7_image 115 = .ok (.aload_n 0, 1) := by decide +kernel
theorem dX7_image_116 : decode cX7_image 116 = .ok (.getfield 7, 3) := by decide +kernel
theorem dX7_image_119 : decode cX7_image 119 = .ok (.iastore, 1) := by decide +kernel
theorem dX7_image_120 : decode cX7_image 120 = .ok (.aload_n 0, 1) := by decide +kernel
theorem dX7_image_121 : decode cX7_image 121 = .ok (.getfield 38, 3) := by decide +kernel
theorem dX7_image_124 : decode cX7_image 124 = .ok (.iload_n 2, 1) := by decide +kernel
theorem dX7_image_125 : decode cX7_image 125 = .ok (.bipush 40, 2) := by decide +kernel
theorem dX7_image_127 : decode cX7_image 127 = .ok (.iadd, 1) := by decide +kernel
theorem dX7_image_128 : decode cX7_image 128 = .ok (.aload_n 0, 1) := by decide +kernel
theorem dX7_image_129 : decode cX7_image 129 = .ok (.getfield 13, 3) := by decide +kernel
theorem dX7_image_132 : decode cX7_image 132 = .ok (.iastore, 1) := by decide +kernel
theorem dX7_image_133 : decode cX7_image 133 = .ok (.aload_n 0, 1) := by decide +kernel
theorem dX7_image_134 : decode cX7_image 134 = .ok (.getfield 38, 3) := by decide +kernel
theorem dX7_image_137 : decode cX7_image 137 = .ok (.iload_n 2, 1) := by decide +kernel
theorem dX7_image_138 : decode cX7_image 138 = .ok (.bipush 41, 2) := by decide +kernel
theorem dX7_image_140 : decode cX7_image 140 = .ok (.iadd, 1) := by decide +kernel
theorem dX7_image_141 : decode cX7_image 141 = .ok (.aload_n 0, 1) := by decide +kernel
theorem dX7_image_142 : decode cX7_image 142 = .ok (.getfield 45, 3) := by decide +kernel
theorem dX7_image_145 : decode cX7_image 145 = .ok (.iastore, 1) := by decide +kernel
theorem dX7_image_146 : decode cX7_image 146 = .ok (.aload_n 0, 1) := by decide +kernel
theorem dX7_image_147 : decode cX7_image 147 = .ok (.getfield 38, 3) := by decide +kernel
theorem dX7_image_150 : decode cX7_image 150 = .ok (.iload_n 2, 1) := by decide +kernel
theorem dX7_image_151 : decode cX7_image 151 = .ok (.bipush 42, 2) := by decide +kernel
theorem dX7_image_153 : decode cX7_image 153 = .ok (.iadd, 1) := by decide +kernel
theorem dX7_image_154 : decode cX7_image 154 = .ok (.aload_n 0, 1) := by decide +kernel
theorem dX7_image_155 : decode cX7_image 155 = .ok (.getfield 106, 3) := by decide +kernel
theorem dX7_image_158 : decode cX7_image 158 = .ok (.iastore, 1) := by decide +kernel
theorem dX7_image_159 : decode cX7_image 159 = .ok (.aload_n 0, 1) := by decide +kernel
theorem dX7_image_160 : decode cX7_image 160 = .ok (.getfield 38, 3) := by decide +kernel
theorem dX7_image_163 : decode cX7_image 163 = .ok (.iload_n 2, 1) := by decide +kernel
theorem dX7_image_164 : decode cX7_image 164 = .ok (.bipush 43, 2) := by decide +kernel
theorem dX7_image_166 : decode cX7_image 166 = .ok (.iadd, 1) := by decide +kernel
theorem dX7_image_167 : decode cX7_image 167 = .ok (.aload_n 0, 1) := by decide +kernel
theorem dX7_image_168 : decode cX7_image 168 = .ok (.getfield 128, 3) := by decide +kernel
theorem dX7_image_171 : decode cX7_image 171 = .ok (.iastore, 1) := by decide +kernel
theorem dX7_image_172 : decode cX7_image 172 = .ok (.aload_n 0, 1) := by decide +kernel
theorem dX7_image_173 : decode cX7_image 173 = .ok (.getfield 41, 3) := by decide +kernel
theorem dX7_image_176 : decode cX7_image 176 = .ok (.iload_n 1, 1) := by decide +kernel
theorem dX7_image_177 : decode cX7_image 177 = .ok (.iconst 1, 1) := by decide +kernel
theorem dX7_image_178 : decode cX7_image 178 = .ok (.bastore, 1) := by decide +kernel
theorem dX7_image_179 : decode cX7_image 179 = .ok (.iconst 1, 1) := by decide +kernel
theorem dX7_image_180 : decode cX7_image 180 = .ok (.ireturn, 1) := by decide +kernel
theorem dX7_restore_0 : decode cX7_restore 0 = .ok (.iload_n 1, 1) := by decide +kernel
theorem dX7_restore_1 : decode cX7_restore 1 = .ok (.iconst 0, 1) := by decide +kernel
theorem dX7_restore_2 : decode cX7_restore 2 = .ok (.iconst 1, 1) := by decide +kernel
theorem dX7_restore_3 : decode cX7_restore 3 = .ok (.invokestatic 48, 3) := by decide +kernel
theorem dX7_restore_6 : decode cX7_restore 6 = .ok (.ifCond .ne 6, 3) := by decide +kernel
theorem dX7_restore_9 : decode cX7_restore 9 = .ok (.bipush (-2), 2) := by decide +kernel
theorem dX7_restore_11 : decode cX7_restore 11 = .ok (.ireturn, 1) := by decide +kernel
theorem dX7_restore_12 : decode cX7_restore 12 = .ok (.aload_n 0, 1) := by decide +kernel
theorem dX7_restore_13 : decode cX7_restore 13 = .ok (.getfield 41, 3) := by decide +kernel
theorem dX7_restore_16 : decode cX7_restore 16 = .ok (.iload_n 1, 1) := by decide +kernel
theorem dX7_restore_17 : decode cX7_restore 17 = .ok (.baload, 1) := by decide +kernel
theorem dX7_restore_18 : decode cX7_restore 18 = .ok (.ifCond .ne 6, 3) := by decide +kernel
theorem dX7_restore_21 : decode cX7_restore 21 = .ok (.bipush (-3), 2) := by decide +kernel
theorem dX7_restore_23 : decode cX7_restore 23 = .ok (.ireturn, 1) := by decide +kernel
theorem dX7_restore_24 : decode cX7_restore 24 = .ok (.bipush 48, 2) := by decide +kernel
theorem dX7_restore_26 : decode cX7_restore 26 = .ok (.iload_n 1, 1) := by decide +kernel
theorem dX7_restore_27 : decode cX7_restore 27 = .ok (.imul, 1) := by decide +kernel
theorem dX7_restore_28 : decode cX7_restore 28 = .ok (.istore_n 2, 1) := by decide +kernel
theorem dX7_restore_29 : decode cX7_restore 29 = .ok (.iconst 0, 1) := by decide +kernel
theorem dX7_restore_30 : decode cX7_restore 30 = .ok (.istore_n 3, 1) := by decide +kernel
theorem dX7_restore_31 : decode cX7_restore 31 = .ok (.iload_n 3, 1) := by decide +kernel
theorem dX7_restore_32 : decode cX7_restore 32 = .ok (.bipush 6, 2) := by decide +kernel
theorem dX7_restore_34 : decode cX7_restore 34 = .ok (.if_icmp .ge 23, 3) := by decide +kernel
theorem dX7_restore_37 : decode cX7_restore 37 = .ok (.aload_n 0, 1) := by decide +kernel
theorem dX7_restore_38 : decode cX7_restore 38 = .ok (.getfield 16, 3) := by decide +kernel
theorem dX7_restore_41 : decode cX7_restore 41 = .ok (.iload_n 3, 1) := by decide +kernel
theorem dX7_restore_42 : decode cX7_restore 42 = .ok (.aload_n 0, 1) := by decide +kernel
theorem dX7_restore_43 : decode cX7_restore 43 = .ok (.getfield 38, 3) := by decide +kernel
theorem dX7_restore_46 : decode cX7_restore 46 = .ok (.iload_n 2, 1) := by decide +kernel
theorem dX7_restore_47 : decode cX7_restore 47 = .ok (.iload_n 3, 1) := by decide +kernel
theorem dX7_restore_48 : decode cX7_restore 48 = .ok (.iadd, 1) := by decide +kernel
theorem dX7_restore_49 : decode cX7_restore 49 = .ok (.iaload, 1) := by decide +kernel
theorem dX7_restore_50 : decode cX7_restore 50 = .ok (.iastore, 1) := by decide +kernel
theorem dX7_restore_51 : decode cX7_restore 51 = .ok (.iinc 3 1, 3) := by decide +kernel
theorem dX7_restore_54 : decode cX7_restore 54 = .ok (.goto (-23), 3) := by decide +kernel
theorem dX7_restore_57 : decode cX7_restore 57 = .ok (.iconst 0, 1) := by decide +kernel
theorem dX7_restore_58 : decode cX7_restore 58 = .ok (.istore_n 3, 1) := by decide +kernel
theorem dX7_restore_59 : decode cX7_restore 59 = .ok (.iload_n 3, 1) := by decide +kernel
theorem dX7_restore_60 : decode cX7_restore 60 = .ok (.bipush 21, 2) := by decide +kernel
theorem dX7_restore_62 : decode cX7_restore 62 = .ok (.if_icmp .ge 26, 3) := by decide +kernel
theorem dX7_restore_65 : decode cX7_restore 65 = .ok (.aload_n 0, 1) := by decide +kernel
theorem dX7_restore_66 : decode cX7_restore 66 = .ok (.getfield 20, 3) := by decide +kernel
theorem dX7_restore_69 : decode cX7_restore 69 = .ok (.iload_n 3, 1) := by decide +kernel
theorem dX7_restore_70 : decode cX7_restore 70 = .ok (.aload_n 0, 1) := by decide +kernel
theorem dX7_restore_71 : decode cX7_restore 71 = .ok (.getfield 38, 3) := by decide +kernel
theorem dX7_restore_74 : decode cX7_restore 74 = .ok (.iload_n 2, 1) := by decide +kernel
theorem dX7_restore_75 : decode cX7_restore 75 = .ok (.bipush 6, 2) := by decide +kernel
theorem dX7_restore_77 : decode cX7_restore 77 = .ok (.iadd, 1) := by decide +kernel
theorem dX7_restore_78 : decode cX7_restore 78 = .ok (.iload_n 3, 1) := by decide +kernel
theorem dX7_restore_79 : decode cX7_restore 79 = .ok (.iadd, 1) := by decide +kernel
theorem dX7_restore_80 : decode cX7_restore 80 = .ok (.iaload, 1) := by decide +kernel
theorem dX7_restore_81 : decode cX7_restore 81 = .ok (.iastore, 1) := by decide +kernel
theorem dX7_restore_82 : decode cX7_restore 82 = .ok (.iinc 3 1, 3) := by decide +kernel
theorem dX7_restore_85 : decode cX7_restore 85 = .ok (.goto (-26), 3) := by decide +kernel
theorem dX7_restore_88 : decode cX7_restore 88 = .ok (.iconst 0, 1) := by decide +kernel
theorem dX7_restore_89 : decode cX7_restore 89 = .ok (.istore_n 3, 1) := by decide +kernel
theorem dX7_restore_90 : decode cX7_restore 90 = .ok (.iload_n 3, 1) := by decide +kernel
theorem dX7_restore_91 : decode cX7_restore 91 = .ok (.bipush 12, 2) := by decide +kernel
theorem dX7_restore_93 : decode cX7_restore 93 = .ok (.if_icmp .ge 26, 3) := by decide +kernel
theorem dX7_restore_96 : decode cX7_restore 96 = .ok (.aload_n 0, 1) := by decide +kernel
theorem dX7_restore_97 : decode cX7_restore 97 = .ok (.getfield 23, 3) := by decide +kernel
theorem dX7_restore_100 : decode cX7_restore 100 = .ok (.iload_n 3, 1) := by decide +kernel
theorem dX7_restore_101 : decode cX7_restore 101 = .ok (.aload_n 0, 1) := by decide +kernel
theorem dX7_restore_102 : decode cX7_restore 102 = .ok (.getfield 38, 3) := by decide +kernel
theorem dX7_restore_105 : decode cX7_restore 105 = .ok (.iload_n 2, 1) := by decide +kernel
theorem dX7_restore_106 : decode cX7_restore 106 = .ok (.bipush 27, 2) := by decide +kernel
theorem dX7_restore_108 : decode cX7_restore 108 = .ok (.iadd, 1) := by decide +kernel
theorem dX7_restore_109 : decode cX7_restore 109 = .ok (.iload_n 3, 1) := by decide +kernel
theorem dX7_restore_110 : decode cX7_restore 110 = .ok (.iadd, 1) := by decide +kernel
theorem dX7_restore_111 : decode cX7_restore 111 = .ok (.iaload, 1) := by decide +kernel
theorem dX7_restore_112 : decode cX7_restore 112 = .ok (.iastore, 1) := by decide +kernel
theorem dX7_restore_113 : decode cX7_restore 113 = .ok (.iinc 3 1, 3) := by decide +kernel
theorem dX7_restore_116 : decode cX7_restore 116 = .ok (.goto (-26), 3) := by decide +kernel
theorem dX7_restore_119 : decode cX7_restore 119 = .ok (.aload_n 0, 1) := by decide +kernel
theorem dX7_restore_120 : decode cX7_restore 120 = .ok (.aload_n 0, 1) := by decide +kernel
theorem dX7_restore_121 : decode cX7_restore 121 = .ok (.getfield 38, 3) := by decide +kernel
theorem dX7_restore_124 : decode cX7_restore 124 = .ok (.iload_n 2, 1) := by decide +kernel
theorem dX7_restore_125 : decode cX7_restore 125 = .ok (.bipush 39, 2) := by decide +kernel
theorem dX7_restore_127 : decode cX7_restore 127 = .ok (.iadd, 1) := by decide +kernel
theorem dX7_restore_128 : decode cX7_restore 128 = .ok (.iaload, 1) := by decide +kernel
theorem dX7_restore_129 : decode cX7_restore 129 = .ok (.putfield 7, 3) := by decide +kernel
theorem dX7_restore_132 : decode cX7_restore 132 = .ok (.aload_n 0, 1) := by decide +kernel
theorem dX7_restore_133 : decode cX7_restore 133 = .ok (.aload_n 0, 1) := by decide +kernel
theorem dX7_restore_134 : decode cX7_restore 134 = .ok (.getfield 38, 3) := by decide +kernel
theorem dX7_restore_137 : decode cX7_restore 137 = .ok (.iload_n 2, 1) := by decide +kernel
theorem dX7_restore_138 : decode cX7_restore 138 = .ok (.bipush 40, 2) := by decide +kernel
theorem dX7_restore_140 : decode cX7_restore 140 = .ok (.iadd, 1) := by decide +kernel
theorem dX7_restore_141 : decode cX7_restore 141 = .ok (.iaload, 1) := by decide +kernel
theorem dX7_restore_142 : decode cX7_restore 142 = .ok (.putfield 13, 3) := by decide +kernel
theorem dX7_restore_145 : decode cX7_restore 145 = .ok (.aload_n 0, 1) := by decide +kernel
theorem dX7_restore_146 : decode cX7_restore 146 = .ok (.aload_n 0, 1) := by decide +kernel
theorem dX7_restore_147 : decode cX7_restore 147 = .ok (.getfield 38, 3) := by decide +kernel
theorem dX7_restore_150 : decode cX7_restore 150 = .ok (.iload_n 2, 1) := by decide +kernel
theorem dX7_restore_151 : decode cX7_restore 151 = .ok (.bipush 41, 2) := by decide +kernel
theorem dX7_restore_153 : decode cX7_restore 153 = .ok (.iadd, 1) := by decide +kernel
theorem dX7_restore_154 : decode cX7_restore 154 = .ok (.iaload, 1) := by decide +kernel
theorem dX7_restore_155 : decode cX7_restore 155 = .ok (.putfield 45, 3) := by decide +kernel
theorem dX7_restore_158 : decode cX7_restore 158 = .ok (.aload_n 0, 1) := by decide +kernel
theorem dX7_restore_159 : decode cX7_restore 159 = .ok (.aload_n 0, 1) := by decide +kernel
theorem dX7_restore_160 : decode cX7_restore 160 = .ok (.getfield 38, 3) := by decide +kernel
theorem dX7_restore_163 : decode cX7_restore 163 = .ok (.iload_n 2, 1) := by decide +kernel
theorem dX7_restore_164 : decode cX7_restore 164 = .ok (.bipush 42, 2) := by decide +kernel
theorem dX7_restore_166 : decode cX7_restore 166 = .ok (.iadd, 1) := by decide +kernel
theorem dX7_restore_167 : decode cX7_restore 167 = .ok (.iaload, 1) := by decide +kernel
theorem dX7_restore_168 : decode cX7_restore 168 = .ok (.putfield 106, 3) := by decide +kernel
theorem dX7_restore_171 : decode cX7_restore 171 = .ok (.aload_n 0, 1) := by decide +kernel
theorem dX7_restore_172 : decode cX7_restore 172 = .ok (.aload_n 0, 1) := by decide +kernel
theorem dX7_restore_173 : decode cX7_restore 173 = .ok (.getfield 38, 3) := by decide +kernel
theorem dX7_restore_176 : decode cX7_restore 176 = .ok (.iload_n 2, 1) := by decide +kernel
theorem dX7_restore_177 : decode cX7_restore 177 = .ok (.bipush 43, 2) := by decide +kernel
theorem dX7_restore_179 : decode cX7_restore 179 = .ok (.iadd, 1) := by decide +kernel
theorem dX7_restore_180 : decode cX7_restore 180 = .ok (.iaload, 1) := by decide +kernel
theorem dX7_restore_181 : decode cX7_restore 181 = .ok (.putfield 128, 3) := by decide +kernel
theorem dX7_restore_184 : decode cX7_restore 184 = .ok (.iconst 1, 1) := by decide +kernel
theorem dX7_restore_185 : decode cX7_restore 185 = .ok (.ireturn, 1) := by decide +kernel
theorem dX7_told_0 : decode cX7_told 0 = .ok (.iload_n 1, 1) := by decide +kernel
theorem dX7_told_1 : decode cX7_told 1 = .ok (.bipush 10, 2) := by decide +kernel
theorem dX7_told_3 : decode cX7_told 3 = .ok (.bipush 15, 2) := by decide +kernel
theorem dX7_told_5 : decode cX7_told 5 = .ok (.invokestatic 48, 3) := by decide +kernel
theorem dX7_told_8 : decode cX7_told 8 = .ok (.ifCond .eq 17, 3) := by decide +kernel
theorem dX7_told_11 : decode cX7_told 11 = .ok (.aload_n 0, 1) := by decide +kernel
theorem dX7_told_12 : decode cX7_told 12 = .ok (.getfield 16, 3) := by decide +kernel
theorem dX7_told_15 : decode cX7_told 15 = .ok (.iload_n 1, 1) := by decide +kernel
theorem dX7_told_16 : decode cX7_told 16 = .ok (.bipush 10, 2) := by decide +kernel
theorem dX7_told_18 : decode cX7_told 18 = .ok (.isub, 1) := by decide +kernel
theorem dX7_told_19 : decode cX7_told 19 = .ok (.iaload, 1) := by decide +kernel
theorem dX7_told_20 : decode cX7_told 20 = .ok (.sipush 1000, 3) := by decide +kernel
theorem dX7_told_23 : decode cX7_told 23 = .ok (.iadd, 1) := by decide +kernel
theorem dX7_told_24 : decode cX7_told 24 = .ok (.ireturn, 1) := by decide +kernel
theorem dX7_told_25 : decode cX7_told 25 = .ok (.iload_n 1, 1) := by decide +kernel
theorem dX7_told_26 : decode cX7_told 26 = .ok (.tableswitch 59 0 4 #[34, 39, 44, 49, 54], 34) := by decide +kernel
theorem dX7_told_60 : decode cX7_told 60 = .ok (.aload_n 0, 1) := by decide +kernel
theorem dX7_told_61 : decode cX7_told 61 = .ok (.getfield 52, 3) := by decide +kernel
theorem dX7_told_64 : decode cX7_told 64 = .ok (.ireturn, 1) := by decide +kernel
theorem dX7_told_65 : decode cX7_told 65 = .ok (.aload_n 0, 1) := by decide +kernel
theorem dX7_told_66 : decode cX7_told 66 = .ok (.getfield 45, 3) := by decide +kernel
theorem dX7_told_69 : decode cX7_told 69 = .ok (.ireturn, 1) := by decide +kernel
theorem dX7_told_70 : decode cX7_told 70 = .ok (.aload_n 0, 1) := by decide +kernel
theorem dX7_told_71 : decode cX7_told 71 = .ok (.getfield 7, 3) := by decide +kernel
theorem dX7_told_74 : decode cX7_told 74 = .ok (.ireturn, 1) := by decide +kernel
theorem dX7_told_75 : decode cX7_told 75 = .ok (.aload_n 0, 1) := by decide +kernel
theorem dX7_told_76 : decode cX7_told 76 = .ok (.getfield 13, 3) := by decide +kernel
theorem dX7_told_79 : decode cX7_told 79 = .ok (.ireturn, 1) := by decide +kernel
theorem dX7_told_80 : decode cX7_told 80 = .ok (.aload_n 0, 1) := by decide +kernel
theorem dX7_told_81 : decode cX7_told 81 = .ok (.getfield 106, 3) := by decide +kernel
theorem dX7_told_84 : decode cX7_told 84 = .ok (.ireturn, 1) := by decide +kernel
theorem dX7_told_85 : decode cX7_told 85 = .ok (.iload_n 1, 1) := by decide +kernel
theorem dX7_told_86 : decode cX7_told 86 = .ok (.iconst 5, 1) := by decide +kernel
theorem dX7_told_87 : decode cX7_told 87 = .ok (.if_icmp .ne 10, 3) := by decide +kernel
theorem dX7_told_90 : decode cX7_told 90 = .ok (.aload_n 0, 1) := by decide +kernel
theorem dX7_told_91 : decode cX7_told 91 = .ok (.getfield 128, 3) := by decide +kernel
theorem dX7_told_94 : decode cX7_told 94 = .ok (.goto 5, 3) := by decide +kernel
theorem dX7_told_97 : decode cX7_told 97 = .ok (.bipush (-2), 2) := by decide +kernel
theorem dX7_told_99 : decode cX7_told 99 = .ok (.ireturn, 1) := by decide +kernel
theorem dL_law_0 : decode cL_law 0 = .ok (.new 7, 3) := by decide +kernel
theorem dL_law_3 : decode cL_law 3 = .ok (.dup, 1) := by decide +kernel
theorem dL_law_4 : decode cL_law 4 = .ok (.invokespecial 9, 3) := by decide +kernel
theorem dL_law_7 : decode cL_law 7 = .ok (.astore_n 1, 1) := by decide +kernel
theorem dL_law_8 : decode cL_law 8 = .ok (.new 10, 3) := by decide +kernel
theorem dL_law_11 : decode cL_law 11 = .ok (.dup, 1) := by decide +kernel
theorem dL_law_12 : decode cL_law 12 = .ok (.invokespecial 12, 3) := by decide +kernel
theorem dL_law_15 : decode cL_law 15 = .ok (.astore_n 2, 1) := by decide +kernel
theorem dL_law_16 : decode cL_law 16 = .ok (.iconst 0, 1) := by decide +kernel
theorem dL_law_17 : decode cL_law 17 = .ok (.istore_n 3, 1) := by decide +kernel
theorem dL_law_18 : decode cL_law 18 = .ok (.iload_n 3, 1) := by decide +kernel
theorem dL_law_19 : decode cL_law 19 = .ok (.aload_n 0, 1) := by decide +kernel
theorem dL_law_20 : decode cL_law 20 = .ok (.arraylength, 1) := by decide +kernel
theorem dL_law_21 : decode cL_law 21 = .ok (.bipush 7, 2) := by decide +kernel
theorem dL_law_23 : decode cL_law 23 = .ok (.isub, 1) := by decide +kernel
theorem dL_law_24 : decode cL_law 24 = .ok (.if_icmp .gt 801, 3) := by decide +kernel
theorem dL_law_27 : decode cL_law 27 = .ok (.aload_n 0, 1) := by decide +kernel
theorem dL_law_28 : decode cL_law 28 = .ok (.iload_n 3, 1) := by decide +kernel
theorem dL_law_29 : decode cL_law 29 = .ok (.iaload, 1) := by decide +kernel
theorem dL_law_30 : decode cL_law 30 = .ok (.bipush 31, 2) := by decide +kernel
theorem dL_law_32 : decode cL_law 32 = .ok (.iand, 1) := by decide +kernel
theorem dL_law_33 : decode cL_law 33 = .ok (.tableswitch 786 0 23 #[111, 144, 167, 180, 193, 206, 219, 242, 265, 298, 341, 384, 397, 420, 453, 528, 571, 604, 617, 640, 674, 717, 740, 763], 111) := by decide +kernel
theorem dL_law_144 : decode cL_law 144 = .ok (.aload_n 1, 1) := by decide +kernel
theorem dL_law_145 : decode cL_law 145 = .ok (.aload_n 0, 1) := by decide +kernel
theorem dL_law_146 : decode cL_law 146 = .ok (.iload_n 3, 1) := by decide +kernel
theorem dL_law_147 : decode cL_law 147 = .ok (.iconst 1, 1) := by decide +kernel
theorem dL_law_148 : decode cL_law 148 = .ok (.iadd, 1) := by decide +kernel
theorem dL_law_149 : decode cL_law 149 = .ok (.iaload, 1) := by decide +kernel
theorem dL_law_150 : decode cL_law 150 = .ok (.aload_n 0, 1) := by decide +kernel
theorem dL_law_151 : decode cL_law 151 = .ok (.iload_n 3, 1) := by decide +kernel
theorem dL_law_152 : decode cL_law 152 = .ok (.iconst 2, 1) := by decide +kernel
theorem dL_law_153 : decode cL_law 153 = .ok (.iadd, 1) := by decide +kernel
theorem dL_law_154 : decode cL_law 154 = .ok (.iaload, 1) := by decide +kernel
theorem dL_law_155 : decode cL_law 155 = .ok (.invokevirtual 13, 3) := by decide +kernel
theorem dL_law_158 : decode cL_law 158 = .ok (.aload_n 2, 1) := by decide +kernel
theorem dL_law_159 : decode cL_law 159 = .ok (.aload_n 0, 1) := by decide +kernel
theorem dL_law_160 : decode cL_law 160 = .ok (.iload_n 3, 1) := by decide +kernel
theorem dL_law_161 : decode cL_law 161 = .ok (.iconst 1, 1) := by decide +kernel
theorem dL_law_162 : decode cL_law 162 = .ok (.iadd, 1) := by decide +kernel
theorem dL_law_163 : decode cL_law 163 = .ok (.iaload, 1) := by decide +kernel
theorem dL_law_164 : decode cL_law 164 = .ok (.aload_n 0, 1) := by decide +kernel
theorem dL_law_165 : decode cL_law 165 = .ok (.iload_n 3, 1) := by decide +kernel
theorem dL_law_166 : decode cL_law 166 = .ok (.iconst 2, 1) := by decide +kernel
theorem dL_law_167 : decode cL_law 167 = .ok (.iadd, 1) := by decide +kernel
theorem dL_law_168 : decode cL_law 168 = .ok (.iaload, 1) := by decide +kernel
theorem dL_law_169 : decode cL_law 169 = .ok (.invokevirtual 17, 3) := by decide +kernel
theorem dL_law_172 : decode cL_law 172 = .ok (.if_icmp .eq 647, 3) := by decide +kernel
theorem dL_law_175 : decode cL_law 175 = .ok (.iconst 0, 1) := by decide +kernel
theorem dL_law_176 : decode cL_law 176 = .ok (.ireturn, 1) := by decide +kernel
theorem dL_law_177 : decode cL_law 177 = .ok (.aload_n 1, 1) := by decide +kernel
theorem dL_law_178 : decode cL_law 178 = .ok (.aload_n 0, 1) := by decide +kernel
theorem dL_law_179 : decode cL_law 179 = .ok (.iload_n 3, 1) := by decide +kernel
theorem dL_law_180 : decode cL_law 180 = .ok (.iconst 1, 1) := by decide +kernel
theorem dL_law_181 : decode cL_law 181 = .ok (.iadd, 1) := by decide +kernel
theorem dL_law_182 : decode cL_law 182 = .ok (.iaload, 1) := by decide +kernel
theorem dL_law_183 : decode cL_law 183 = .ok (.invokevirtual 18, 3) := by decide +kernel
theorem dL_law_186 : decode cL_law 186 = .ok (.aload_n 2, 1) := by decide +kernel
theorem dL_law_187 : decode cL_law 187 = .ok (.aload_n 0, 1) := by decide +kernel
theorem dL_law_188 : decode cL_law 188 = .ok (.iload_n 3, 1) := by decide +kernel
theorem dL_law_189 : decode cL_law 189 = .ok (.iconst 1, 1) := by decide +kernel
theorem dL_law_190 : decode cL_law 190 = .ok (.iadd, 1) := by decide +kernel
theorem dL_law_191 : decode cL_law 191 = .ok (.iaload, 1) := by decide +kernel
theorem dL_law_192 : decode cL_law 192 = .ok (.invokevirtual 22, 3) := by decide +kernel
theorem dL_law_195 : decode cL_law 195 = .ok (.if_icmp .eq 624, 3) := by decide +kernel
theorem dL_law_198 : decode cL_law 198 = .ok (.iconst 0, 1) := by decide +kernel
theorem dL_law_199 : decode cL_law 199 = .ok (.ireturn, 1) := by decide +kernel
theorem dL_law_200 : decode cL_law 200 = .ok (.aload_n 1, 1) := by decide +kernel
theorem dL_law_201 : decode cL_law 201 = .ok (.invokevirtual 23, 3) := by decide +kernel
theorem dL_law_204 : decode cL_law 204 = .ok (.aload_n 2, 1) := by decide +kernel
theorem dL_law_205 : decode cL_law 205 = .ok (.invokevirtual 27, 3) := by decide +kernel
theorem dL_law_208 : decode cL_law 208 = .ok (.if_icmp .eq 611, 3) := by decide +kernel
theorem dL_law_211 : decode cL_law 211 = .ok (.iconst 0, 1) := by decide +kernel
theorem dL_law_212 : decode cL_law 212 = .ok (.ireturn, 1) := by decide +kernel
theorem dL_law_213 : decode cL_law 213 = .ok (.aload_n 1, 1) := by decide +kernel
theorem dL_law_214 : decode cL_law 214 = .ok (.invokevirtual 28, 3) := by decide +kernel
theorem dL_law_217 : decode cL_law 217 = .ok (.aload_n 2, 1) := by decide +kernel
theorem dL_law_218 : decode cL_law 218 = .ok (.invokevirtual 31, 3) := by decide +kernel
theorem dL_law_221 : decode cL_law 221 = .ok (.if_icmp .eq 598, 3) := by decide +kernel
theorem dL_law_224 : decode cL_law 224 = .ok (.iconst 0, 1) := by decide +kernel
theorem dL_law_225 : decode cL_law 225 = .ok (.ireturn, 1) := by decide +kernel
theorem dL_law_226 : decode cL_law 226 = .ok (.aload_n 1, 1) := by decide +kernel
theorem dL_law_227 : decode cL_law 227 = .ok (.invokevirtual 32, 3) := by decide +kernel
theorem dL_law_230 : decode cL_law 230 = .ok (.aload_n 2, 1) := by decide +kernel
theorem dL_law_231 : decode cL_law 231 = .ok (.invokevirtual 35, 3) := by decide +kernel
theorem dL_law_234 : decode cL_law 234 = .ok (.if_icmp .eq 585, 3) := by decide +kernel
theorem dL_law_237 : decode cL_law 237 = .ok (.iconst 0, 1) := by decide +kernel
theorem dL_law_238 : decode cL_law 238 = .ok (.ireturn, 1) := by decide +kernel
theorem dL_law_239 : decode cL_law 239 = .ok (.aload_n 1, 1) := by decide +kernel
theorem dL_law_240 : decode cL_law 240 = .ok (.invokevirtual 36, 3) := by decide +kernel
theorem dL_law_243 : decode cL_law 243 = .ok (.aload_n 2, 1) := by decide +kernel
theorem dL_law_244 : decode cL_law 244 = .ok (.invokevirtual 39, 3) := by decide +kernel
theorem dL_law_247 : decode cL_law 247 = .ok (.if_icmp .eq 572, 3) := by decide +kernel
theorem dL_law_250 : decode cL_law 250 = .ok (.iconst 0, 1) := by decide +kernel
theorem dL_law_251 : decode cL_law 251 = .ok (.ireturn, 1) := by decide +kernel
theorem dL_law_252 : decode cL_law 252 = .ok (.aload_n 1, 1) := by decide +kernel
theorem dL_law_253 : decode cL_law 253 = .ok (.aload_n 0, 1) := by decide +kernel
theorem dL_law_254 : decode cL_law 254 = .ok (.iload_n 3, 1) := by decide +kernel
theorem dL_law_255 : decode cL_law 255 = .ok (.iconst 1, 1) := by decide +kernel
theorem dL_law_256 : decode cL_law 256 = .ok (.iadd, 1) := by decide +kernel
theorem dL_law_257 : decode cL_law 257 = .ok (.iaload, 1) := by decide +kernel
theorem dL_law_258 : decode cL_law 258 = .ok (.invokevirtual 40, 3) := by decide +kernel
theorem dL_law_261 : decode cL_law 261 = .ok (.aload_n 2, 1) := by decide +kernel
theorem dL_law_262 : decode cL_law 262 = .ok (.aload_n 0, 1) := by decide +kernel
theorem dL_law_263 : decode cL_law 263 = .ok (.iload_n 3, 1) := by decide +kernel
theorem dL_law_264 : decode cL_law 264 = .ok (.iconst 1, 1) := by decide +kernel
theorem dL_law_265 : decode cL_law 265 = .ok (.iadd, 1) := by decide +kernel
theorem dL_law_266 : decode cL_law 266 = .ok (.iaload, 1) := by decide +kernel
theorem dL_law_267 : decode cL_law 267 = .ok (.invokevirtual 43, 3) := by decide +kernel
theorem dL_law_270 : decode cL_law 270 = .ok (.if_icmp .eq 549, 3) := by decide +kernel
theorem dL_law_273 : decode cL_law 273 = .ok (.iconst 0, 1) := by decide +kernel
theorem dL_law_274 : decode cL_law 274 = .ok (.ireturn, 1) := by decide +kernel
theorem dL_law_275 : decode cL_law 275 = .ok (.aload_n 1, 1) := by decide +kernel
theorem dL_law_276 : decode cL_law 276 = .ok (.aload_n 0, 1) := by decide +kernel
theorem dL_law_277 : decode cL_law 277 = .ok (.iload_n 3, 1) := by decide +kernel
theorem dL_law_278 : decode cL_law 278 = .ok (.iconst 1, 1) := by decide +kernel
theorem dL_law_279 : decode cL_law 279 = .ok (.iadd, 1) := by decide +kernel
theorem dL_law_280 : decode cL_law 280 = .ok (.iaload, 1) := by decide +kernel
theorem dL_law_281 : decode cL_law 281 = .ok (.invokevirtual 44, 3) := by decide +kernel
theorem dL_law_284 : decode cL_law 284 = .ok (.aload_n 2, 1) := by decide +kernel
theorem dL_law_285 : decode cL_law 285 = .ok (.aload_n 0, 1) := by decide +kernel
theorem dL_law_286 : decode cL_law 286 = .ok (.iload_n 3, 1) := by decide +kernel
theorem dL_law_287 : decode cL_law 287 = .ok (.iconst 1, 1) := by decide +kernel
theorem dL_law_288 : decode cL_law 288 = .ok (.iadd, 1) := by decide +kernel
theorem dL_law_289 : decode cL_law 289 = .ok (.iaload, 1) := by decide +kernel
theorem dL_law_290 : decode cL_law 290 = .ok (.invokevirtual 47, 3) := by decide +kernel
theorem dL_law_293 : decode cL_law 293 = .ok (.if_icmp .eq 526, 3) := by decide +kernel
theorem dL_law_296 : decode cL_law 296 = .ok (.iconst 0, 1) := by decide +kernel
theorem dL_law_297 : decode cL_law 297 = .ok (.ireturn, 1) := by decide +kernel
theorem dL_law_298 : decode cL_law 298 = .ok (.aload_n 1, 1) := by decide +kernel
theorem dL_law_299 : decode cL_law 299 = .ok (.aload_n 0, 1) := by decide +kernel
theorem dL_law_300 : decode cL_law 300 = .ok (.iload_n 3, 1) := by decide +kernel
theorem dL_law_301 : decode cL_law 301 = .ok (.iconst 1, 1) := by decide +kernel
theorem dL_law_302 : decode cL_law 302 = .ok (.iadd, 1) := by decide +kernel
theorem dL_law_303 : decode cL_law 303 = .ok (.iaload, 1) := by decide +kernel
theorem dL_law_304 : decode cL_law 304 = .ok (.aload_n 0, 1) := by decide +kernel
theorem dL_law_305 : decode cL_law 305 = .ok (.iload_n 3, 1) := by decide +kernel
theorem dL_law_306 : decode cL_law 306 = .ok (.iconst 2, 1) := by decide +kernel
theorem dL_law_307 : decode cL_law 307 = .ok (.iadd, 1) := by decide +kernel
theorem dL_law_308 : decode cL_law 308 = .ok (.iaload, 1) := by decide +kernel
theorem dL_law_309 : decode cL_law 309 = .ok (.invokevirtual 48, 3) := by decide +kernel
theorem dL_law_312 : decode cL_law 312 = .ok (.aload_n 2, 1) := by decide +kernel
theorem dL_law_313 : decode cL_law 313 = .ok (.aload_n 0, 1) := by decide +kernel
theorem dL_law_314 : decode cL_law 314 = .ok (.iload_n 3, 1) := by decide +kernel
theorem dL_law_315 : decode cL_law 315 = .ok (.iconst 1, 1) := by decide +kernel
theorem dL_law_316 : decode cL_law 316 = .ok (.iadd, 1) := by decide +kernel
theorem dL_law_317 : decode cL_law 317 = .ok (.iaload, 1) := by decide +kernel
theorem dL_law_318 : decode cL_law 318 = .ok (.aload_n 0, 1) := by decide +kernel
theorem dL_law_319 : decode cL_law 319 = .ok (.iload_n 3, 1) := by decide +kernel
theorem dL_law_320 : decode cL_law 320 = .ok (.iconst 2, 1) := by decide +kernel
theorem dL_law_321 : decode cL_law 321 = .ok (.iadd, 1) := by decide +kernel
theorem dL_law_322 : decode cL_law 322 = .ok (.iaload, 1) := by decide +kernel
theorem dL_law_323 : decode cL_law 323 = .ok (.invokevirtual 51, 3) := by decide +kernel
theorem dL_law_326 : decode cL_law 326 = .ok (.if_icmp .eq 493, 3) := by decide +kernel
theorem dL_law_329 : decode cL_law 329 = .ok (.iconst 0, 1) := by decide +kernel
theorem dL_law_330 : decode cL_law 330 = .ok (.ireturn, 1) := by decide +kernel
theorem dL_law_331 : decode cL_law 331 = .ok (.aload_n 1, 1) := by decide +kernel
theorem dL_law_332 : decode cL_law 332 = .ok (.aload_n 0, 1) := by decide +kernel
theorem dL_law_333 : decode cL_law 333 = .ok (.iload_n 3, 1) := by decide +kernel
theorem dL_law_334 : decode cL_law 334 = .ok (.iconst 1, 1) := by decide +kernel
theorem dL_law_335 : decode cL_law 335 = .ok (.iadd, 1) := by decide +kernel
theorem dL_law_336 : decode cL_law 336 = .ok (.iaload, 1) := by decide +kernel
theorem dL_law_337 : decode cL_law 337 = .ok (.aload_n 0, 1) := by decide +kernel
theorem dL_law_338 : decode cL_law 338 = .ok (.iload_n 3, 1) := by decide +kernel
theorem dL_law_339 : decode cL_law 339 = .ok (.iconst 2, 1) := by decide +kernel
theorem dL_law_340 : decode cL_law 340 = .ok (.iadd, 1) := by decide +kernel
theorem dL_law_341 : decode cL_law 341 = .ok (.iaload, 1) := by decide +kernel
theorem dL_law_342 : decode cL_law 342 = .ok (.aload_n 0, 1) := by decide +kernel
theorem dL_law_343 : decode cL_law 343 = .ok (.iload_n 3, 1) := by decide +kernel
theorem dL_law_344 : decode cL_law 344 = .ok (.iconst 3, 1) := by decide +kernel
theorem dL_law_345 : decode cL_law 345 = .ok (.iadd, 1) := by decide +kernel
theorem dL_law_346 : decode cL_law 346 = .ok (.iaload, 1) := by decide +kernel
theorem dL_law_347 : decode cL_law 347 = .ok (.invokevirtual 52, 3) := by decide +kernel
theorem dL_law_350 : decode cL_law 350 = .ok (.aload_n 2, 1) := by decide +kernel
theorem dL_law_351 : decode cL_law 351 = .ok (.aload_n 0, 1) := by decide +kernel
theorem dL_law_352 : decode cL_law 352 = .ok (.iload_n 3, 1) := by decide +kernel
theorem dL_law_353 : decode cL_law 353 = .ok (.iconst 1, 1) := by decide +kernel
theorem dL_law_354 : decode cL_law 354 = .ok (.iadd, 1) := by decide +kernel
theorem dL_law_355 : decode cL_law 355 = .ok (.iaload, 1) := by decide +kernel
theorem dL_law_356 : decode cL_law 356 = .ok (.aload_n 0, 1) := by decide +kernel
theorem dL_law_357 : decode cL_law 357 = .ok (.iload_n 3, 1) := by decide +kernel
theorem dL_law_358 : decode cL_law 358 = .ok (.iconst 2, 1) := by decide +kernel
theorem dL_law_359 : decode cL_law 359 = .ok (.iadd, 1) := by decide +kernel
theorem dL_law_360 : decode cL_law 360 = .ok (.iaload, 1) := by decide +kernel
theorem dL_law_361 : decode cL_law 361 = .ok (.aload_n 0, 1) := by decide +kernel
theorem dL_law_362 : decode cL_law 362 = .ok (.iload_n 3, 1) := by decide +kernel
theorem dL_law_363 : decode cL_law 363 = .ok (.iconst 3, 1) := by decide +kernel
theorem dL_law_364 : decode cL_law 364 = .ok (.iadd, 1) := by decide +kernel
theorem dL_law_365 : decode cL_law 365 = .ok (.iaload, 1) := by decide +kernel
theorem dL_law_366 : decode cL_law 366 = .ok (.invokevirtual 56, 3) := by decide +kernel
theorem dL_law_369 : decode cL_law 369 = .ok (.if_icmp .eq 450, 3) := by decide +kernel
theorem dL_law_372 : decode cL_law 372 = .ok (.iconst 0, 1) := by decide +kernel
theorem dL_law_373 : decode cL_law 373 = .ok (.ireturn, 1) := by decide +kernel
theorem dL_law_374 : decode cL_law 374 = .ok (.aload_n 1, 1) := by decide +kernel
theorem dL_law_375 : decode cL_law 375 = .ok (.aload_n 0, 1) := by decide +kernel
theorem dL_law_376 : decode cL_law 376 = .ok (.iload_n 3, 1) := by decide +kernel
theorem dL_law_377 : decode cL_law 377 = .ok (.iconst 1, 1) := by decide +kernel
theorem dL_law_378 : decode cL_law 378 = .ok (.iadd, 1) := by decide +kernel
theorem dL_law_379 : decode cL_law 379 = .ok (.iaload, 1) := by decide +kernel
theorem dL_law_380 : decode cL_law 380 = .ok (.aload_n 0, 1) := by decide +kernel
theorem dL_law_381 : decode cL_law 381 = .ok (.iload_n 3, 1) := by decide +kernel
theorem dL_law_382 : decode cL_law 382 = .ok (.iconst 2, 1) := by decide +kernel
theorem dL_law_383 : decode cL_law 383 = .ok (.iadd, 1) := by decide +kernel
theorem dL_law_384 : decode cL_law 384 = .ok (.iaload, 1) := by decide +kernel
theorem dL_law_385 : decode cL_law 385 = .ok (.aload_n 0, 1) := by decide +kernel
theorem dL_law_386 : decode cL_law 386 = .ok (.iload_n 3, 1) := by decide +kernel
theorem dL_law_387 : decode cL_law 387 = .ok (.iconst 3, 1) := by decide +kernel
theorem dL_law_388 : decode cL_law 388 = .ok (.iadd, 1) := by decide +kernel
theorem dL_law_389 : decode cL_law 389 = .ok (.iaload, 1) := by decide +kernel
theorem dL_law_390 : decode cL_law 390 = .ok (.invokevirtual 57, 3) := by decide +kernel
theorem dL_law_393 : decode cL_law 393 = .ok (.aload_n 2, 1) := by decide +kernel
theorem dL_law_394 : decode cL_law 394 = .ok (.aload_n 0, 1) := by decide +kernel
theorem dL_law_395 : decode cL_law 395 = .ok (.iload_n 3, 1) := by decide +kernel
theorem dL_law_396 : decode cL_law 396 = .ok (.iconst 1, 1) := by decide +kernel
theorem dL_law_397 : decode cL_law 397 = .ok (.iadd, 1) := by decide +kernel
theorem dL_law_398 : decode cL_law 398 = .ok (.iaload, 1) := by decide +kernel
theorem dL_law_399 : decode cL_law 399 = .ok (.aload_n 0, 1) := by decide +kernel
theorem dL_law_400 : decode cL_law 400 = .ok (.iload_n 3, 1) := by decide +kernel
theorem dL_law_401 : decode cL_law 401 = .ok (.iconst 2, 1) := by decide +kernel
theorem dL_law_402 : decode cL_law 402 = .ok (.iadd, 1) := by decide +kernel
theorem dL_law_403 : decode cL_law 403 = .ok (.iaload, 1) := by decide +kernel
theorem dL_law_404 : decode cL_law 404 = .ok (.aload_n 0, 1) := by decide +kernel
theorem dL_law_405 : decode cL_law 405 = .ok (.iload_n 3, 1) := by decide +kernel
theorem dL_law_406 : decode cL_law 406 = .ok (.iconst 3, 1) := by decide +kernel
theorem dL_law_407 : decode cL_law 407 = .ok (.iadd, 1) := by decide +kernel
theorem dL_law_408 : decode cL_law 408 = .ok (.iaload, 1) := by decide +kernel
theorem dL_law_409 : decode cL_law 409 = .ok (.invokevirtual 60, 3) := by decide +kernel
theorem dL_law_412 : decode cL_law 412 = .ok (.if_icmp .eq 407, 3) := by decide +kernel
theorem dL_law_415 : decode cL_law 415 = .ok (.iconst 0, 1) := by decide +kernel
theorem dL_law_416 : decode cL_law 416 = .ok (.ireturn, 1) := by decide +kernel
theorem dL_law_417 : decode cL_law 417 = .ok (.aload_n 1, 1) := by decide +kernel
theorem dL_law_418 : decode cL_law 418 = .ok (.invokevirtual 61, 3) := by decide +kernel
theorem dL_law_421 : decode cL_law 421 = .ok (.aload_n 2, 1) := by decide +kernel
theorem dL_law_422 : decode cL_law 422 = .ok (.invokevirtual 64, 3) := by decide +kernel
theorem dL_law_425 : decode cL_law 425 = .ok (.if_icmp .eq 394, 3) := by decide +kernel
theorem dL_law_428 : decode cL_law 428 = .ok (.iconst 0, 1) := by decide +kernel
theorem dL_law_429 : decode cL_law 429 = .ok (.ireturn, 1) := by decide +kernel
theorem dL_law_430 : decode cL_law 430 = .ok (.aload_n 1, 1) := by decide +kernel
theorem dL_law_431 : decode cL_law 431 = .ok (.aload_n 0, 1) := by decide +kernel
theorem dL_law_432 : decode cL_law 432 = .ok (.iload_n 3, 1) := by decide +kernel
theorem dL_law_433 : decode cL_law 433 = .ok (.iconst 1, 1) := by decide +kernel
theorem dL_law_434 : decode cL_law 434 = .ok (.iadd, 1) := by decide +kernel
theorem dL_law_435 : decode cL_law 435 = .ok (.iaload, 1) := by decide +kernel
theorem dL_law_436 : decode cL_law 436 = .ok (.invokevirtual 65, 3) := by decide +kernel
theorem dL_law_439 : decode cL_law 439 = .ok (.aload_n 2, 1) := by decide +kernel
theorem dL_law_440 : decode cL_law 440 = .ok (.aload_n 0, 1) := by decide +kernel
theorem dL_law_441 : decode cL_law 441 = .ok (.iload_n 3, 1) := by decide +kernel
theorem dL_law_442 : decode cL_law 442 = .ok (.iconst 1, 1) := by decide +kernel
theorem dL_law_443 : decode cL_law 443 = .ok (.iadd, 1) := by decide +kernel
theorem dL_law_444 : decode cL_law 444 = .ok (.iaload, 1) := by decide +kernel
theorem dL_law_445 : decode cL_law 445 = .ok (.invokevirtual 68, 3) := by decide +kernel
theorem dL_law_448 : decode cL_law 448 = .ok (.if_icmp .eq 371, 3) := by decide +kernel
theorem dL_law_451 : decode cL_law 451 = .ok (.iconst 0, 1) := by decide +kernel
theorem dL_law_452 : decode cL_law 452 = .ok (.ireturn, 1) := by decide +kernel
theorem dL_law_453 : decode cL_law 453 = .ok (.aload_n 1, 1) := by decide +kernel
theorem dL_law_454 : decode cL_law 454 = .ok (.aload_n 0, 1) := by decide +kernel
theorem dL_law_455 : decode cL_law 455 = .ok (.iload_n 3, 1) := by decide +kernel
theorem dL_law_456 : decode cL_law 456 = .ok (.iconst 1, 1) := by decide +kernel
theorem dL_law_457 : decode cL_law 457 = .ok (.iadd, 1) := by decide +kernel
theorem dL_law_458 : decode cL_law 458 = .ok (.iaload, 1) := by decide +kernel
theorem dL_law_459 : decode cL_law 459 = .ok (.aload_n 0, 1) := by decide +kernel
theorem dL_law_460 : decode cL_law 460 = .ok (.iload_n 3, 1) := by decide +kernel
theorem dL_law_461 : decode cL_law 461 = .ok (.iconst 2, 1) := by decide +kernel
theorem dL_law_462 : decode cL_law 462 = .ok (.iadd, 1) := by decide +kernel
theorem dL_law_463 : decode cL_law 463 = .ok (.iaload, 1) := by decide +kernel
theorem dL_law_464 : decode cL_law 464 = .ok (.invokevirtual 69, 3) := by decide +kernel
theorem dL_law_467 : decode cL_law 467 = .ok (.aload_n 2, 1) := by decide +kernel
theorem dL_law_468 : decode cL_law 468 = .ok (.aload_n 0, 1) := by decide +kernel
theorem dL_law_469 : decode cL_law 469 = .ok (.iload_n 3, 1) := by decide +kernel
theorem dL_law_470 : decode cL_law 470 = .ok (.iconst 1, 1) := by decide +kernel
theorem dL_law_471 : decode cL_law 471 = .ok (.iadd, 1) := by decide +kernel
theorem dL_law_472 : decode cL_law 472 = .ok (.iaload, 1) := by decide +kernel
theorem dL_law_473 : decode cL_law 473 = .ok (.aload_n 0, 1) := by decide +kernel
theorem dL_law_474 : decode cL_law 474 = .ok (.iload_n 3, 1) := by decide +kernel
theorem dL_law_475 : decode cL_law 475 = .ok (.iconst 2, 1) := by decide +kernel
theorem dL_law_476 : decode cL_law 476 = .ok (.iadd, 1) := by decide +kernel
theorem dL_law_477 : decode cL_law 477 = .ok (.iaload, 1) := by decide +kernel
theorem dL_law_478 : decode cL_law 478 = .ok (.invokevirtual 72, 3) := by decide +kernel
theorem dL_law_481 : decode cL_law 481 = .ok (.if_icmp .eq 338, 3) := by decide +kernel
theorem dL_law_484 : decode cL_law 484 = .ok (.iconst 0, 1) := by decide +kernel
theorem dL_law_485 : decode cL_law 485 = .ok (.ireturn, 1) := by decide +kernel
theorem dL_law_486 : decode cL_law 486 = .ok (.aload_n 1, 1) := by decide +kernel
theorem dL_law_487 : decode cL_law 487 = .ok (.aload_n 0, 1) := by decide +kernel
theorem dL_law_488 : decode cL_law 488 = .ok (.iload_n 3, 1) := by decide +kernel
theorem dL_law_489 : decode cL_law 489 = .ok (.iconst 1, 1) := by decide +kernel
theorem dL_law_490 : decode cL_law 490 = .ok (.iadd, 1) := by decide +kernel
theorem dL_law_491 : decode cL_law 491 = .ok (.iaload, 1) := by decide +kernel
theorem dL_law_492 : decode cL_law 492 = .ok (.aload_n 0, 1) := by decide +kernel
theorem dL_law_493 : decode cL_law 493 = .ok (.iload_n 3, 1) := by decide +kernel
theorem dL_law_494 : decode cL_law 494 = .ok (.iconst 2, 1) := by decide +kernel
theorem dL_law_495 : decode cL_law 495 = .ok (.iadd, 1) := by decide +kernel
theorem dL_law_496 : decode cL_law 496 = .ok (.iaload, 1) := by decide +kernel
theorem dL_law_497 : decode cL_law 497 = .ok (.aload_n 0, 1) := by decide +kernel
theorem dL_law_498 : decode cL_law 498 = .ok (.iload_n 3, 1) := by decide +kernel
theorem dL_law_499 : decode cL_law 499 = .ok (.iconst 3, 1) := by decide +kernel
theorem dL_law_500 : decode cL_law 500 = .ok (.iadd, 1) := by decide +kernel
theorem dL_law_501 : decode cL_law 501 = .ok (.iaload, 1) := by decide +kernel
theorem dL_law_502 : decode cL_law 502 = .ok (.aload_n 0, 1) := by decide +kernel
theorem dL_law_503 : decode cL_law 503 = .ok (.iload_n 3, 1) := by decide +kernel
theorem dL_law_504 : decode cL_law 504 = .ok (.iconst 4, 1) := by decide +kernel
theorem dL_law_505 : decode cL_law 505 = .ok (.iadd, 1) := by decide +kernel
theorem dL_law_506 : decode cL_law 506 = .ok (.iaload, 1) := by decide +kernel
theorem dL_law_507 : decode cL_law 507 = .ok (.aload_n 0, 1) := by decide +kernel
theorem dL_law_508 : decode cL_law 508 = .ok (.iload_n 3, 1) := by decide +kernel
theorem dL_law_509 : decode cL_law 509 = .ok (.iconst 5, 1) := by decide +kernel
theorem dL_law_510 : decode cL_law 510 = .ok (.iadd, 1) := by decide +kernel
theorem dL_law_511 : decode cL_law 511 = .ok (.iaload, 1) := by decide +kernel
theorem dL_law_512 : decode cL_law 512 = .ok (.aload_n 0, 1) := by decide +kernel
theorem dL_law_513 : decode cL_law 513 = .ok (.iload_n 3, 1) := by decide +kernel
theorem dL_law_514 : decode cL_law 514 = .ok (.bipush 6, 2) := by decide +kernel
theorem dL_law_516 : decode cL_law 516 = .ok (.iadd, 1) := by decide +kernel
theorem dL_law_517 : decode cL_law 517 = .ok (.iaload, 1) := by decide +kernel
theorem dL_law_518 : decode cL_law 518 = .ok (.invokevirtual 73, 3) := by decide +kernel
theorem dL_law_521 : decode cL_law 521 = .ok (.aload_n 2, 1) := by decide +kernel
theorem dL_law_522 : decode cL_law 522 = .ok (.aload_n 0, 1) := by decide +kernel
theorem dL_law_523 : decode cL_law 523 = .ok (.iload_n 3, 1) := by decide +kernel
theorem dL_law_524 : decode cL_law 524 = .ok (.iconst 1, 1) := by decide +kernel
theorem dL_law_525 : decode cL_law 525 = .ok (.iadd, 1) := by decide +kernel
theorem dL_law_526 : decode cL_law 526 = .ok (.iaload, 1) := by decide +kernel
theorem dL_law_527 : decode cL_law 527 = .ok (.aload_n 0, 1) := by decide +kernel
theorem dL_law_528 : decode cL_law 528 = .ok (.iload_n 3, 1) := by decide +kernel
theorem dL_law_529 : decode cL_law 529 = .ok (.iconst 2, 1) := by decide +kernel
theorem dL_law_530 : decode cL_law 530 = .ok (.iadd, 1) := by decide +kernel
theorem dL_law_531 : decode cL_law 531 = .ok (.iaload, 1) := by decide +kernel
theorem dL_law_532 : decode cL_law 532 = .ok (.aload_n 0, 1) := by decide +kernel
theorem dL_law_533 : decode cL_law 533 = .ok (.iload_n 3, 1) := by decide +kernel
theorem dL_law_534 : decode cL_law 534 = .ok (.iconst 3, 1) := by decide +kernel
theorem dL_law_535 : decode cL_law 535 = .ok (.iadd, 1) := by decide +kernel
theorem dL_law_536 : decode cL_law 536 = .ok (.iaload, 1) := by decide +kernel
theorem dL_law_537 : decode cL_law 537 = .ok (.aload_n 0, 1) := by decide +kernel
theorem dL_law_538 : decode cL_law 538 = .ok (.iload_n 3, 1) := by decide +kernel
theorem dL_law_539 : decode cL_law 539 = .ok (.iconst 4, 1) := by decide +kernel
theorem dL_law_540 : decode cL_law 540 = .ok (.iadd, 1) := by decide +kernel
theorem dL_law_541 : decode cL_law 541 = .ok (.iaload, 1) := by decide +kernel
theorem dL_law_542 : decode cL_law 542 = .ok (.aload_n 0, 1) := by decide +kernel
theorem dL_law_543 : decode cL_law 543 = .ok (.iload_n 3, 1) := by decide +kernel
theorem dL_law_544 : decode cL_law 544 = .ok (.iconst 5, 1) := by decide +kernel
theorem dL_law_545 : decode cL_law 545 = .ok (.iadd, 1) := by decide +kernel
theorem dL_law_546 : decode cL_law 546 = .ok (.iaload, 1) := by decide +kernel
theorem dL_law_547 : decode cL_law 547 = .ok (.aload_n 0, 1) := by decide +kernel
theorem dL_law_548 : decode cL_law 548 = .ok (.iload_n 3, 1) := by decide +kernel
theorem dL_law_549 : decode cL_law 549 = .ok (.bipush 6, 2) := by decide +kernel
theorem dL_law_551 : decode cL_law 551 = .ok (.iadd, 1) := by decide +kernel
theorem dL_law_552 : decode cL_law 552 = .ok (.iaload, 1) := by decide +kernel
theorem dL_law_553 : decode cL_law 553 = .ok (.invokevirtual 77, 3) := by decide +kernel
theorem dL_law_556 : decode cL_law 556 = .ok (.if_icmp .eq 263, 3) := by decide +kernel
theorem dL_law_559 : decode cL_law 559 = .ok (.iconst 0, 1) := by decide +kernel
theorem dL_law_560 : decode cL_law 560 = .ok (.ireturn, 1) := by decide +kernel
theorem dL_law_561 : decode cL_law 561 = .ok (.aload_n 1, 1) := by decide +kernel
theorem dL_law_562 : decode cL_law 562 = .ok (.aload_n 0, 1) := by decide +kernel
theorem dL_law_563 : decode cL_law 563 = .ok (.iload_n 3, 1) := by decide +kernel
theorem dL_law_564 : decode cL_law 564 = .ok (.iconst 1, 1) := by decide +kernel
theorem dL_law_565 : decode cL_law 565 = .ok (.iadd, 1) := by decide +kernel
theorem dL_law_566 : decode cL_law 566 = .ok (.iaload, 1) := by decide +kernel
theorem dL_law_567 : decode cL_law 567 = .ok (.aload_n 0, 1) := by decide +kernel
theorem dL_law_568 : decode cL_law 568 = .ok (.iload_n 3, 1) := by decide +kernel
theorem dL_law_569 : decode cL_law 569 = .ok (.iconst 2, 1) := by decide +kernel
theorem dL_law_570 : decode cL_law 570 = .ok (.iadd, 1) := by decide +kernel
theorem dL_law_571 : decode cL_law 571 = .ok (.iaload, 1) := by decide +kernel
theorem dL_law_572 : decode cL_law 572 = .ok (.aload_n 0, 1) := by decide +kernel
theorem dL_law_573 : decode cL_law 573 = .ok (.iload_n 3, 1) := by decide +kernel
theorem dL_law_574 : decode cL_law 574 = .ok (.iconst 3, 1) := by decide +kernel
theorem dL_law_575 : decode cL_law 575 = .ok (.iadd, 1) := by decide +kernel
theorem dL_law_576 : decode cL_law 576 = .ok (.iaload, 1) := by decide +kernel
theorem dL_law_577 : decode cL_law 577 = .ok (.invokevirtual 78, 3) := by decide +kernel
theorem dL_law_580 : decode cL_law 580 = .ok (.aload_n 2, 1) := by decide +kernel
theorem dL_law_581 : decode cL_law 581 = .ok (.aload_n 0, 1) := by decide +kernel
theorem dL_law_582 : decode cL_law 582 = .ok (.iload_n 3, 1) := by decide +kernel
theorem dL_law_583 : decode cL_law 583 = .ok (.iconst 1, 1) := by decide +kernel
theorem dL_law_584 : decode cL_law 584 = .ok (.iadd, 1) := by decide +kernel
theorem dL_law_585 : decode cL_law 585 = .ok (.iaload, 1) := by decide +kernel
theorem dL_law_586 : decode cL_law 586 = .ok (.aload_n 0, 1) := by decide +kernel
theorem dL_law_587 : decode cL_law 587 = .ok (.iload_n 3, 1) := by decide +kernel
theorem dL_law_588 : decode cL_law 588 = .ok (.iconst 2, 1) := by decide +kernel
theorem dL_law_589 : decode cL_law 589 = .ok (.iadd, 1) := by decide +kernel
theorem dL_law_590 : decode cL_law 590 = .ok (.iaload, 1) := by decide +kernel
theorem dL_law_591 : decode cL_law 591 = .ok (.aload_n 0, 1) := by decide +kernel
theorem dL_law_592 : decode cL_law 592 = .ok (.iload_n 3, 1) := by decide +kernel
theorem dL_law_593 : decode cL_law 593 = .ok (.iconst 3, 1) := by decide +kernel
theorem dL_law_594 : decode cL_law 594 = .ok (.iadd, 1) := by decide +kernel
theorem dL_law_595 : decode cL_law 595 = .ok (.iaload, 1) := by decide +kernel
theorem dL_law_596 : decode cL_law 596 = .ok (.invokevirtual 81, 3) := by decide +kernel
theorem dL_law_599 : decode cL_law 599 = .ok (.if_icmp .eq 220, 3) := by decide +kernel
theorem dL_law_602 : decode cL_law 602 = .ok (.iconst 0, 1) := by decide +kernel
theorem dL_law_603 : decode cL_law 603 = .ok (.ireturn, 1) := by decide +kernel
theorem dL_law_604 : decode cL_law 604 = .ok (.aload_n 1, 1) := by decide +kernel
theorem dL_law_605 : decode cL_law 605 = .ok (.aload_n 0, 1) := by decide +kernel
theorem dL_law_606 : decode cL_law 606 = .ok (.iload_n 3, 1) := by decide +kernel
theorem dL_law_607 : decode cL_law 607 = .ok (.iconst 1, 1) := by decide +kernel
theorem dL_law_608 : decode cL_law 608 = .ok (.iadd, 1) := by decide +kernel
theorem dL_law_609 : decode cL_law 609 = .ok (.iaload, 1) := by decide +kernel
theorem dL_law_610 : decode cL_law 610 = .ok (.aload_n 0, 1) := by decide +kernel
theorem dL_law_611 : decode cL_law 611 = .ok (.iload_n 3, 1) := by decide +kernel
theorem dL_law_612 : decode cL_law 612 = .ok (.iconst 2, 1) := by decide +kernel
theorem dL_law_613 : decode cL_law 613 = .ok (.iadd, 1) := by decide +kernel
theorem dL_law_614 : decode cL_law 614 = .ok (.iaload, 1) := by decide +kernel
theorem dL_law_615 : decode cL_law 615 = .ok (.invokevirtual 82, 3) := by decide +kernel
theorem dL_law_618 : decode cL_law 618 = .ok (.aload_n 2, 1) := by decide +kernel
theorem dL_law_619 : decode cL_law 619 = .ok (.aload_n 0, 1) := by decide +kernel
theorem dL_law_620 : decode cL_law 620 = .ok (.iload_n 3, 1) := by decide +kernel
theorem dL_law_621 : decode cL_law 621 = .ok (.iconst 1, 1) := by decide +kernel
theorem dL_law_622 : decode cL_law 622 = .ok (.iadd, 1) := by decide +kernel
theorem dL_law_623 : decode cL_law 623 = .ok (.iaload, 1) := by decide +kernel
theorem dL_law_624 : decode cL_law 624 = .ok (.aload_n 0, 1) := by decide +kernel
theorem dL_law_625 : decode cL_law 625 = .ok (.iload_n 3, 1) := by decide +kernel
theorem dL_law_626 : decode cL_law 626 = .ok (.iconst 2, 1) := by decide +kernel
theorem dL_law_627 : decode cL_law 627 = .ok (.iadd, 1) := by decide +kernel
theorem dL_law_628 : decode cL_law 628 = .ok (.iaload, 1) := by decide +kernel
theorem dL_law_629 : decode cL_law 629 = .ok (.invokevirtual 85, 3) := by decide +kernel
theorem dL_law_632 : decode cL_law 632 = .ok (.if_icmp .eq 187, 3) := by decide +kernel
theorem dL_law_635 : decode cL_law 635 = .ok (.iconst 0, 1) := by decide +kernel
theorem dL_law_636 : decode cL_law 636 = .ok (.ireturn, 1) := by decide +kernel
theorem dL_law_637 : decode cL_law 637 = .ok (.aload_n 1, 1) := by decide +kernel
theorem dL_law_638 : decode cL_law 638 = .ok (.invokevirtual 86, 3) := by decide +kernel
theorem dL_law_641 : decode cL_law 641 = .ok (.aload_n 2, 1) := by decide +kernel
theorem dL_law_642 : decode cL_law 642 = .ok (.invokevirtual 89, 3) := by decide +kernel
theorem dL_law_645 : decode cL_law 645 = .ok (.if_icmp .eq 174, 3) := by decide +kernel
theorem dL_law_648 : decode cL_law 648 = .ok (.iconst 0, 1) := by decide +kernel
theorem dL_law_649 : decode cL_law 649 = .ok (.ireturn, 1) := by decide +kernel
theorem dL_law_650 : decode cL_law 650 = .ok (.aload_n 1, 1) := by decide +kernel
theorem dL_law_651 : decode cL_law 651 = .ok (.aload_n 0, 1) := by decide +kernel
theorem dL_law_652 : decode cL_law 652 = .ok (.iload_n 3, 1) := by decide +kernel
theorem dL_law_653 : decode cL_law 653 = .ok (.iconst 1, 1) := by decide +kernel
theorem dL_law_654 : decode cL_law 654 = .ok (.iadd, 1) := by decide +kernel
theorem dL_law_655 : decode cL_law 655 = .ok (.iaload, 1) := by decide +kernel
theorem dL_law_656 : decode cL_law 656 = .ok (.invokevirtual 90, 3) := by decide +kernel
theorem dL_law_659 : decode cL_law 659 = .ok (.aload_n 2, 1) := by decide +kernel
theorem dL_law_660 : decode cL_law 660 = .ok (.aload_n 0, 1) := by decide +kernel
theorem dL_law_661 : decode cL_law 661 = .ok (.iload_n 3, 1) := by decide +kernel
theorem dL_law_662 : decode cL_law 662 = .ok (.iconst 1, 1) := by decide +kernel
theorem dL_law_663 : decode cL_law 663 = .ok (.iadd, 1) := by decide +kernel
theorem dL_law_664 : decode cL_law 664 = .ok (.iaload, 1) := by decide +kernel
theorem dL_law_665 : decode cL_law 665 = .ok (.invokevirtual 93, 3) := by decide +kernel
theorem dL_law_668 : decode cL_law 668 = .ok (.if_icmp .eq 151, 3) := by decide +kernel
theorem dL_law_671 : decode cL_law 671 = .ok (.iconst 0, 1) := by decide +kernel
theorem dL_law_672 : decode cL_law 672 = .ok (.ireturn, 1) := by decide +kernel
theorem dL_law_673 : decode cL_law 673 = .ok (.aload_n 1, 1) := by decide +kernel
theorem dL_law_674 : decode cL_law 674 = .ok (.aload_n 0, 1) := by decide +kernel
theorem dL_law_675 : decode cL_law 675 = .ok (.iload_n 3, 1) := by decide +kernel
theorem dL_law_676 : decode cL_law 676 = .ok (.iconst 1, 1) := by decide +kernel
theorem dL_law_677 : decode cL_law 677 = .ok (.iadd, 1) := by decide +kernel
theorem dL_law_678 : decode cL_law 678 = .ok (.iaload, 1) := by decide +kernel
theorem dL_law_679 : decode cL_law 679 = .ok (.aload_n 0, 1) := by decide +kernel
theorem dL_law_680 : decode cL_law 680 = .ok (.iload_n 3, 1) := by decide +kernel
theorem dL_law_681 : decode cL_law 681 = .ok (.iconst 2, 1) := by decide +kernel
theorem dL_law_682 : decode cL_law 682 = .ok (.iadd, 1) := by decide +kernel
theorem dL_law_683 : decode cL_law 683 = .ok (.iaload, 1) := by decide +kernel
theorem dL_law_684 : decode cL_law 684 = .ok (.invokevirtual 94, 3) := by decide +kernel
theorem dL_law_687 : decode cL_law 687 = .ok (.aload_n 2, 1) := by decide +kernel
theorem dL_law_688 : decode cL_law 688 = .ok (.aload_n 0, 1) := by decide +kernel
theorem dL_law_689 : decode cL_law 689 = .ok (.iload_n 3, 1) := by decide +kernel
theorem dL_law_690 : decode cL_law 690 = .ok (.iconst 1, 1) := by decide +kernel
theorem dL_law_691 : decode cL_law 691 = .ok (.iadd, 1) := by decide +kernel
theorem dL_law_692 : decode cL_law 692 = .ok (.iaload, 1) := by decide +kernel
theorem dL_law_693 : decode cL_law 693 = .ok (.aload_n 0, 1) := by decide +kernel
theorem dL_law_694 : decode cL_law 694 = .ok (.iload_n 3, 1) := by decide +kernel
theorem dL_law_695 : decode cL_law 695 = .ok (.iconst 2, 1) := by decide +kernel
theorem dL_law_696 : decode cL_law 696 = .ok (.iadd, 1) := by decide +kernel
theorem dL_law_697 : decode cL_law 697 = .ok (.iaload, 1) := by decide +kernel
theorem dL_law_698 : decode cL_law 698 = .ok (.invokevirtual 98, 3) := by decide +kernel
theorem dL_law_701 : decode cL_law 701 = .ok (.lcmp, 1) := by decide +kernel
theorem dL_law_702 : decode cL_law 702 = .ok (.ifCond .eq 117, 3) := by decide +kernel
theorem dL_law_705 : decode cL_law 705 = .ok (.iconst 0, 1) := by decide +kernel
theorem dL_law_706 : decode cL_law 706 = .ok (.ireturn, 1) := by decide +kernel
theorem dL_law_707 : decode cL_law 707 = .ok (.aload_n 1, 1) := by decide +kernel
theorem dL_law_708 : decode cL_law 708 = .ok (.aload_n 0, 1) := by decide +kernel
theorem dL_law_709 : decode cL_law 709 = .ok (.iload_n 3, 1) := by decide +kernel
theorem dL_law_710 : decode cL_law 710 = .ok (.iconst 1, 1) := by decide +kernel
theorem dL_law_711 : decode cL_law 711 = .ok (.iadd, 1) := by decide +kernel
theorem dL_law_712 : decode cL_law 712 = .ok (.iaload, 1) := by decide +kernel
theorem dL_law_713 : decode cL_law 713 = .ok (.aload_n 0, 1) := by decide +kernel
theorem dL_law_714 : decode cL_law 714 = .ok (.iload_n 3, 1) := by decide +kernel
theorem dL_law_715 : decode cL_law 715 = .ok (.iconst 2, 1) := by decide +kernel
theorem dL_law_716 : decode cL_law 716 = .ok (.iadd, 1) := by decide +kernel
theorem dL_law_717 : decode cL_law 717 = .ok (.iaload, 1) := by decide +kernel
theorem dL_law_718 : decode cL_law 718 = .ok (.aload_n 0, 1) := by decide +kernel
theorem dL_law_719 : decode cL_law 719 = .ok (.iload_n 3, 1) := by decide +kernel
theorem dL_law_720 : decode cL_law 720 = .ok (.iconst 3, 1) := by decide +kernel
theorem dL_law_721 : decode cL_law 721 = .ok (.iadd, 1) := by decide +kernel
theorem dL_law_722 : decode cL_law 722 = .ok (.iaload, 1) := by decide +kernel
theorem dL_law_723 : decode cL_law 723 = .ok (.invokevirtual 99, 3) := by decide +kernel
theorem dL_law_726 : decode cL_law 726 = .ok (.aload_n 2, 1) := by decide +kernel
theorem dL_law_727 : decode cL_law 727 = .ok (.aload_n 0, 1) := by decide +kernel
theorem dL_law_728 : decode cL_law 728 = .ok (.iload_n 3, 1) := by decide +kernel
theorem dL_law_729 : decode cL_law 729 = .ok (.iconst 1, 1) := by decide +kernel
theorem dL_law_730 : decode cL_law 730 = .ok (.iadd, 1) := by decide +kernel
theorem dL_law_731 : decode cL_law 731 = .ok (.iaload, 1) := by decide +kernel
theorem dL_law_732 : decode cL_law 732 = .ok (.aload_n 0, 1) := by decide +kernel
theorem dL_law_733 : decode cL_law 733 = .ok (.iload_n 3, 1) := by decide +kernel
theorem dL_law_734 : decode cL_law 734 = .ok (.iconst 2, 1) := by decide +kernel
theorem dL_law_735 : decode cL_law 735 = .ok (.iadd, 1) := by decide +kernel
theorem dL_law_736 : decode cL_law 736 = .ok (.iaload, 1) := by decide +kernel
theorem dL_law_737 : decode cL_law 737 = .ok (.aload_n 0, 1) := by decide +kernel
theorem dL_law_738 : decode cL_law 738 = .ok (.iload_n 3, 1) := by decide +kernel
theorem dL_law_739 : decode cL_law 739 = .ok (.iconst 3, 1) := by decide +kernel
theorem dL_law_740 : decode cL_law 740 = .ok (.iadd, 1) := by decide +kernel
theorem dL_law_741 : decode cL_law 741 = .ok (.iaload, 1) := by decide +kernel
theorem dL_law_742 : decode cL_law 742 = .ok (.invokevirtual 102, 3) := by decide +kernel
theorem dL_law_745 : decode cL_law 745 = .ok (.if_icmp .eq 74, 3) := by decide +kernel
theorem dL_law_748 : decode cL_law 748 = .ok (.iconst 0, 1) := by decide +kernel
theorem dL_law_749 : decode cL_law 749 = .ok (.ireturn, 1) := by decide +kernel
theorem dL_law_750 : decode cL_law 750 = .ok (.aload_n 1, 1) := by decide +kernel
theorem dL_law_751 : decode cL_law 751 = .ok (.aload_n 0, 1) := by decide +kernel
theorem dL_law_752 : decode cL_law 752 = .ok (.iload_n 3, 1) := by decide +kernel
theorem dL_law_753 : decode cL_law 753 = .ok (.iconst 1, 1) := by decide +kernel
theorem dL_law_754 : decode cL_law 754 = .ok (.iadd, 1) := by decide +kernel
theorem dL_law_755 : decode cL_law 755 = .ok (.iaload, 1) := by decide +kernel
theorem dL_law_756 : decode cL_law 756 = .ok (.invokevirtual 103, 3) := by decide +kernel
theorem dL_law_759 : decode cL_law 759 = .ok (.aload_n 2, 1) := by decide +kernel
theorem dL_law_760 : decode cL_law 760 = .ok (.aload_n 0, 1) := by decide +kernel
theorem dL_law_761 : decode cL_law 761 = .ok (.iload_n 3, 1) := by decide +kernel
theorem dL_law_762 : decode cL_law 762 = .ok (.iconst 1, 1) := by decide +kernel
theorem dL_law_763 : decode cL_law 763 = .ok (.iadd, 1) := by decide +kernel
theorem dL_law_764 : decode cL_law 764 = .ok (.iaload, 1) := by decide +kernel
theorem dL_law_765 : decode cL_law 765 = .ok (.invokevirtual 106, 3) := by decide +kernel
theorem dL_law_768 : decode cL_law 768 = .ok (.if_icmp .eq 51, 3) := by decide +kernel
theorem dL_law_771 : decode cL_law 771 = .ok (.iconst 0, 1) := by decide +kernel
theorem dL_law_772 : decode cL_law 772 = .ok (.ireturn, 1) := by decide +kernel
theorem dL_law_773 : decode cL_law 773 = .ok (.aload_n 1, 1) := by decide +kernel
theorem dL_law_774 : decode cL_law 774 = .ok (.aload_n 0, 1) := by decide +kernel
theorem dL_law_775 : decode cL_law 775 = .ok (.iload_n 3, 1) := by decide +kernel
theorem dL_law_776 : decode cL_law 776 = .ok (.iconst 1, 1) := by decide +kernel
theorem dL_law_777 : decode cL_law 777 = .ok (.iadd, 1) := by decide +kernel
theorem dL_law_778 : decode cL_law 778 = .ok (.iaload, 1) := by decide +kernel
theorem dL_law_779 : decode cL_law 779 = .ok (.invokevirtual 107, 3) := by decide +kernel
theorem dL_law_782 : decode cL_law 782 = .ok (.aload_n 2, 1) := by decide +kernel
theorem dL_law_783 : decode cL_law 783 = .ok (.aload_n 0, 1) := by decide +kernel
theorem dL_law_784 : decode cL_law 784 = .ok (.iload_n 3, 1) := by decide +kernel
theorem dL_law_785 : decode cL_law 785 = .ok (.iconst 1, 1) := by decide +kernel
theorem dL_law_786 : decode cL_law 786 = .ok (.iadd, 1) := by decide +kernel
theorem dL_law_787 : decode cL_law 787 = .ok (.iaload, 1) := by decide +kernel
theorem dL_law_788 : decode cL_law 788 = .ok (.invokevirtual 110, 3) := by decide +kernel
theorem dL_law_791 : decode cL_law 791 = .ok (.if_icmp .eq 28, 3) := by decide +kernel
theorem dL_law_794 : decode cL_law 794 = .ok (.iconst 0, 1) := by decide +kernel
theorem dL_law_795 : decode cL_law 795 = .ok (.ireturn, 1) := by decide +kernel
theorem dL_law_796 : decode cL_law 796 = .ok (.aload_n 1, 1) := by decide +kernel
theorem dL_law_797 : decode cL_law 797 = .ok (.aload_n 0, 1) := by decide +kernel
theorem dL_law_798 : decode cL_law 798 = .ok (.iload_n 3, 1) := by decide +kernel
theorem dL_law_799 : decode cL_law 799 = .ok (.iconst 1, 1) := by decide +kernel
theorem dL_law_800 : decode cL_law 800 = .ok (.iadd, 1) := by decide +kernel
theorem dL_law_801 : decode cL_law 801 = .ok (.iaload, 1) := by decide +kernel
theorem dL_law_802 : decode cL_law 802 = .ok (.invokevirtual 111, 3) := by decide +kernel
theorem dL_law_805 : decode cL_law 805 = .ok (.aload_n 2, 1) := by decide +kernel
theorem dL_law_806 : decode cL_law 806 = .ok (.aload_n 0, 1) := by decide +kernel
theorem dL_law_807 : decode cL_law 807 = .ok (.iload_n 3, 1) := by decide +kernel
theorem dL_law_808 : decode cL_law 808 = .ok (.iconst 1, 1) := by decide +kernel
theorem dL_law_809 : decode cL_law 809 = .ok (.iadd, 1) := by decide +kernel
theorem dL_law_810 : decode cL_law 810 = .ok (.iaload, 1) := by decide +kernel
theorem dL_law_811 : decode cL_law 811 = .ok (.invokevirtual 114, 3) := by decide +kernel
theorem dL_law_814 : decode cL_law 814 = .ok (.if_icmp .eq 5, 3) := by decide +kernel
theorem dL_law_817 : decode cL_law 817 = .ok (.iconst 0, 1) := by decide +kernel
theorem dL_law_818 : decode cL_law 818 = .ok (.ireturn, 1) := by decide +kernel
theorem dL_law_819 : decode cL_law 819 = .ok (.iinc 3 7, 3) := by decide +kernel
theorem dL_law_822 : decode cL_law 822 = .ok (.goto (-804), 3) := by decide +kernel
theorem dL_law_825 : decode cL_law 825 = .ok (.iconst 1, 1) := by decide +kernel
theorem dL_law_826 : decode cL_law 826 = .ok (.ireturn, 1) := by decide +kernel
abbrev vwCl : List vw_C := [(RX0, TX0, 4), (RX1, TX1, 8), (RX2, TX2, 3), (RX3, TX3, 4), (RX4, TX4, 8), (RX5, TX5, 4), (RX6, TX6, 7), (RX7, TX7, 20)]
end
section
/-! the tables of the pure machine: written by wip/whole/gen_tabs.py -/
abbrev MTy : Type := MethodName × ByteArray × Nat × Option FieldType × Nat × Nat × Nat × Nat × Nat × Nat × Nat
-- name, code, locals, return type, own class, parameters, kind (0 static, 1 instance, 2 <init>), places in lw_tbl: code, static or instanceMethod, selects, initialized
abbrev mt_0 : MTy := (yX0_init, cX0_init, 1, none, 0, 0, 2, 52, 51, 0, 32)
abbrev mt_1 : MTy := (yX0_copy, cX0_copy, 2, none, 0, 1, 1, 564, 562, 563, 32)
abbrev mt_2 : MTy := (yX1_init, cX1_init, 2, none, 1, 0, 2, 163, 162, 0, 37)
abbrev mt_3 : MTy := (yX1_fewestSeconds, cX1_fewestSeconds, 5, some (FieldType.int), 1, 3, 1, 415, 413, 414, 37)
abbrev mt_4 : MTy := (yX1_placed, cX1_placed, 2, some (FieldType.int), 1, 1, 1, 467, 465, 466, 37)
abbrev mt_5 : MTy := (yX1_goOn, cX1_goOn, 5, none, 1, 2, 1, 425, 424, 8, 37)
abbrev mt_6 : MTy := (yX1_sayNext, cX1_sayNext, 7, none, 1, 4, 1, 456, 455, 11, 37)
abbrev mt_7 : MTy := (yX1_valleyAt, cX1_valleyAt, 2, some (FieldType.object "SilentAfter$Valley"), 1, 1, 1, 419, 418, 7, 37)
abbrev mt_8 : MTy := (yX1_mayBeSaid, cX1_mayBeSaid, 4, some (FieldType.boolean), 1, 2, 1, 448, 447, 10, 37)
abbrev mt_9 : MTy := (yX1_leastSeconds, cX1_leastSeconds, 7, some (FieldType.int), 1, 2, 1, 429, 428, 9, 37)
abbrev mt_10 : MTy := (yX2_init, cX2_init, 1, none, 2, 0, 2, 97, 96, 0, 35)
abbrev mt_11 : MTy := (yX2_count, cX2_count, 1, some (FieldType.int), 2, 0, 1, 498, 496, 497, 35)
abbrev mt_12 : MTy := (yX2_append, cX2_append, 3, some (FieldType.boolean), 2, 2, 1, 493, 491, 492, 35)
abbrev mt_13 : MTy := (yX2_clear, cX2_clear, 2, some (FieldType.int), 2, 0, 1, 506, 504, 505, 35)
abbrev mt_14 : MTy := (yX2_hold, cX2_hold, 3, some (FieldType.boolean), 2, 1, 1, 526, 524, 525, 35)
abbrev mt_15 : MTy := (yX2_copy, cX2_copy, 2, none, 2, 1, 1, 574, 572, 573, 35)
abbrev mt_16 : MTy := (yX3_init, cX3_init, 1, none, 3, 0, 2, 78, 77, 0, 34)
abbrev mt_17 : MTy := (yX3_count, cX3_count, 1, some (FieldType.int), 3, 0, 1, 393, 391, 392, 34)
abbrev mt_18 : MTy := (yX3_speaker, cX3_speaker, 2, some (FieldType.int), 3, 1, 1, 436, 434, 435, 34)
abbrev mt_19 : MTy := (yX3_seconds, cX3_seconds, 2, some (FieldType.int), 3, 1, 1, 441, 439, 440, 34)
abbrev mt_20 : MTy := (yX3_ahead, cX3_ahead, 2, some (FieldType.int), 3, 1, 1, 452, 450, 451, 34)
abbrev mt_21 : MTy := (yX3_speech, cX3_speech, 3, some (FieldType.int), 3, 0, 1, 463, 461, 462, 34)
abbrev mt_22 : MTy := (yX3_append, cX3_append, 4, some (FieldType.boolean), 3, 3, 1, 397, 395, 396, 34)
abbrev mt_23 : MTy := (yX3_clear, cX3_clear, 2, some (FieldType.int), 3, 0, 1, 406, 404, 405, 34)
abbrev mt_24 : MTy := (yX3_copy, cX3_copy, 2, none, 3, 1, 1, 569, 567, 568, 34)
abbrev mt_25 : MTy := (yX4_init, cX4_init, 1, none, 4, 0, 2, 130, 129, 0, 36)
abbrev mt_26 : MTy := (yX4_signCount, cX4_signCount, 1, some (FieldType.int), 4, 0, 1, 244, 242, 243, 36)
abbrev mt_27 : MTy := (yX4_asked, cX4_asked, 1, some (FieldType.int), 4, 0, 1, 288, 286, 287, 36)
abbrev mt_28 : MTy := (yX4_append, cX4_append, 2, some (FieldType.boolean), 4, 1, 1, 237, 235, 236, 36)
abbrev mt_29 : MTy := (yX4_clear, cX4_clear, 2, some (FieldType.int), 4, 0, 1, 252, 250, 251, 36)
abbrev mt_30 : MTy := (yX4_read, cX4_read, 2, some (FieldType.int), 4, 0, 1, 260, 258, 259, 36)
abbrev mt_31 : MTy := (yX4_goesBy, cX4_goesBy, 4, some (FieldType.int), 4, 2, 1, 299, 297, 298, 36)
abbrev mt_32 : MTy := (yX4_readySeconds, cX4_readySeconds, 6, some (FieldType.int), 4, 3, 1, 540, 538, 539, 36)
abbrev mt_33 : MTy := (yX4_partGoesBy, cX4_partGoesBy, 7, some (FieldType.boolean), 4, 3, 1, 303, 302, 4, 36)
abbrev mt_34 : MTy := (yX4_takes, cX4_takes, 2, some (FieldType.boolean), 4, 1, 1, 267, 266, 0, 36)
abbrev mt_35 : MTy := (yX4_beginsPart, cX4_beginsPart, 2, some (FieldType.boolean), 4, 1, 1, 272, 271, 1, 36)
abbrev mt_36 : MTy := (yX4_addPart, cX4_addPart, 3, none, 4, 2, 1, 276, 275, 2, 36)
abbrev mt_37 : MTy := (yX5_init, cX5_init, 1, none, 5, 0, 2, 58, 57, 0, 33)
abbrev mt_38 : MTy := (yX5_time, cX5_time, 1, some (FieldType.int), 5, 0, 1, 351, 349, 350, 33)
abbrev mt_39 : MTy := (yX5_bound, cX5_bound, 1, some (FieldType.int), 5, 0, 1, 587, 585, 586, 33)
abbrev mt_40 : MTy := (yX5_fire, cX5_fire, 1, some (FieldType.int), 5, 0, 1, 591, 589, 590, 33)
abbrev mt_41 : MTy := (yX5_glass, cX5_glass, 2, some (FieldType.int), 5, 1, 1, 329, 327, 328, 33)
abbrev mt_42 : MTy := (yX5_changeBound, cX5_changeBound, 3, some (FieldType.int), 5, 1, 1, 225, 223, 224, 33)
abbrev mt_43 : MTy := (yX5_changeFire, cX5_changeFire, 3, some (FieldType.int), 5, 1, 1, 229, 227, 228, 33)
abbrev mt_44 : MTy := (yX5_isFree, cX5_isFree, 2, some (FieldType.boolean), 5, 1, 1, 335, 333, 334, 33)
abbrev mt_45 : MTy := (yX5_waitOf, cX5_waitOf, 2, some (FieldType.int), 5, 1, 1, 367, 365, 366, 33)
abbrev mt_46 : MTy := (yX5_speak, cX5_speak, 3, none, 5, 2, 1, 339, 337, 338, 33)
abbrev mt_47 : MTy := (yX5_callFire, cX5_callFire, 3, none, 5, 2, 1, 325, 323, 324, 33)
abbrev mt_48 : MTy := (yX5_keepSilence, cX5_keepSilence, 2, none, 5, 1, 1, 314, 312, 313, 33)
abbrev mt_49 : MTy := (yX5_sleep, cX5_sleep, 2, none, 5, 0, 1, 307, 305, 306, 33)
abbrev mt_50 : MTy := (yX5_lend, cX5_lend, 3, none, 5, 2, 1, 381, 379, 380, 33)
abbrev mt_51 : MTy := (yX5_receive, cX5_receive, 5, some (FieldType.int), 5, 2, 1, 385, 383, 384, 33)
abbrev mt_52 : MTy := (yX5_copy, cX5_copy, 2, none, 5, 1, 1, 292, 290, 291, 33)
abbrev mt_53 : MTy := (yX5_pass, cX5_pass, 4, none, 5, 2, 1, 318, 317, 5, 33)
abbrev mt_54 : MTy := (yX6_init, cX6_init, 1, none, 6, 0, 2, 44, 43, 0, 31)
abbrev mt_55 : MTy := (yX6_set, cX6_set, 3, some (FieldType.int), 6, 2, 1, 218, 216, 217, 31)
abbrev mt_56 : MTy := (yX6_say, cX6_say, 2, some (FieldType.int), 6, 1, 1, 233, 231, 232, 31)
abbrev mt_57 : MTy := (yX6_wipe, cX6_wipe, 1, some (FieldType.int), 6, 0, 1, 248, 246, 247, 31)
abbrev mt_58 : MTy := (yX6_fault, cX6_fault, 1, some (FieldType.int), 6, 0, 1, 256, 254, 255, 31)
abbrev mt_59 : MTy := (yX6_judge, cX6_judge, 2, some (FieldType.int), 6, 0, 1, 280, 278, 279, 31)
abbrev mt_60 : MTy := (yX6_done, cX6_done, 3, some (FieldType.int), 6, 0, 1, 343, 341, 342, 31)
abbrev mt_61 : MTy := (yX6_behind, cX6_behind, 3, some (FieldType.int), 6, 1, 1, 355, 353, 354, 31)
abbrev mt_62 : MTy := (yX6_free, cX6_free, 2, some (FieldType.int), 6, 1, 1, 363, 361, 362, 31)
abbrev mt_63 : MTy := (yX6_answer, cX6_answer, 5, some (FieldType.int), 6, 2, 1, 371, 369, 370, 31)
abbrev mt_64 : MTy := (yX6_give, cX6_give, 4, some (FieldType.int), 6, 3, 1, 377, 375, 376, 31)
abbrev mt_65 : MTy := (yX6_saying, cX6_saying, 4, some (FieldType.int), 6, 3, 1, 389, 387, 388, 31)
abbrev mt_66 : MTy := (yX6_drop, cX6_drop, 1, some (FieldType.int), 6, 0, 1, 402, 400, 401, 31)
abbrev mt_67 : MTy := (yX6_soonest, cX6_soonest, 3, some (FieldType.int), 6, 1, 1, 410, 408, 409, 31)
abbrev mt_68 : MTy := (yX6_whom, cX6_whom, 7, some (FieldType.int), 6, 2, 1, 471, 469, 470, 31)
abbrev mt_69 : MTy := (yX6_quarrel, cX6_quarrel, 15, some (FieldType.int), 6, 6, 1, 475, 473, 474, 31)
abbrev mt_70 : MTy := (yX6_length, cX6_length, 8, some (FieldType.int), 6, 3, 1, 481, 479, 480, 31)
abbrev mt_71 : MTy := (yX6_seen, cX6_seen, 3, some (FieldType.int), 6, 2, 1, 489, 487, 488, 31)
abbrev mt_72 : MTy := (yX6_forget, cX6_forget, 1, some (FieldType.int), 6, 0, 1, 502, 500, 501, 31)
abbrev mt_73 : MTy := (yX6_filled, cX6_filled, 7, some (FieldType.int), 6, 1, 1, 510, 508, 509, 31)
abbrev mt_74 : MTy := (yX6_burns, cX6_burns, 7, some (FieldType.long), 6, 2, 1, 533, 531, 532, 31)
abbrev mt_75 : MTy := (yX6_year, cX6_year, 8, some (FieldType.int), 6, 3, 1, 551, 549, 550, 31)
abbrev mt_76 : MTy := (yX6_image, cX6_image, 2, some (FieldType.int), 6, 1, 1, 556, 554, 555, 31)
abbrev mt_77 : MTy := (yX6_restore, cX6_restore, 2, some (FieldType.int), 6, 1, 1, 579, 577, 578, 31)
abbrev mt_78 : MTy := (yX6_told, cX6_told, 2, some (FieldType.int), 6, 1, 1, 583, 581, 582, 31)
abbrev mt_79 : MTy := (yX6_refuseText, cX6_refuseText, 1, some (FieldType.int), 6, 0, 1, 284, 283, 3, 31)
abbrev mt_80 : MTy := (yX6_tryText, cX6_tryText, 2, some (FieldType.int), 6, 0, 1, 347, 346, 6, 31)
abbrev mt_81 : MTy := (yX6_isFilledRightly, cX6_isFilledRightly, 1, some (FieldType.boolean), 6, 0, 1, 522, 521, 13, 31)
abbrev mt_82 : MTy := (yX6_writePeople, cX6_writePeople, 5, none, 6, 2, 1, 517, 516, 12, 31)
abbrev mt_83 : MTy := (yX6_waysToWrite, cX6_waysToWrite, 3, some (FieldType.int), 6, 1, 0, 513, 512, 0, 31)
abbrev mt_84 : MTy := (yX6_spokenAlone, cX6_spokenAlone, 8, some (FieldType.int), 6, 3, 0, 484, 483, 0, 31)
abbrev mt_85 : MTy := (yX6_imageOf, cX6_imageOf, 2, some (FieldType.object "SilentAfter$Scene"), 6, 1, 1, 560, 559, 14, 31)
abbrev mt_86 : MTy := (yX6_commonDivisor, cX6_commonDivisor, 6, some (FieldType.int), 6, 2, 0, 545, 544, 0, 31)
abbrev mt_87 : MTy := (yX6_isPerson, cX6_isPerson, 1, some (FieldType.boolean), 6, 1, 0, 358, 357, 0, 31)
abbrev mt_88 : MTy := (yX6_isWithin, cX6_isWithin, 3, some (FieldType.boolean), 6, 3, 0, 221, 220, 0, 31)
abbrev mt_89 : MTy := (yX6_at, cX6_at, 2, some (FieldType.int), 6, 2, 0, 263, 262, 0, 31)
abbrev mt_90 : MTy := (yX6_put, cX6_put, 3, none, 6, 3, 0, 240, 239, 0, 31)
abbrev mt_91 : MTy := (yX6_copyRow, cX6_copyRow, 3, none, 6, 2, 0, 295, 294, 0, 31)
abbrev mt_92 : MTy := (yX7_init, cX7_init, 1, none, 7, 0, 2, 596, 595, 0, 38)
abbrev mt_93 : MTy := (yX7_in, cX7_in, 3, some (FieldType.boolean), 7, 3, 0, 666, 665, 0, 38)
abbrev mt_94 : MTy := (yX7_isPerson, cX7_isPerson, 1, some (FieldType.boolean), 7, 1, 0, 733, 732, 0, 38)
abbrev mt_95 : MTy := (yX7_set, cX7_set, 5, some (FieldType.int), 7, 2, 1, 663, 661, 662, 38)
abbrev mt_96 : MTy := (yX7_say, cX7_say, 2, some (FieldType.int), 7, 1, 1, 670, 668, 669, 38)
abbrev mt_97 : MTy := (yX7_wipe, cX7_wipe, 2, some (FieldType.int), 7, 0, 1, 674, 672, 673, 38)
abbrev mt_98 : MTy := (yX7_faultOf, cX7_faultOf, 7, some (FieldType.int), 7, 0, 1, 682, 681, 15, 38)
abbrev mt_99 : MTy := (yX7_fault, cX7_fault, 1, some (FieldType.int), 7, 0, 1, 678, 676, 677, 38)
abbrev mt_100 : MTy := (yX7_opens, cX7_opens, 3, some (FieldType.int), 7, 0, 1, 690, 689, 16, 38)
abbrev mt_101 : MTy := (yX7_asNow, cX7_asNow, 2, none, 7, 0, 1, 698, 697, 18, 38)
abbrev mt_102 : MTy := (yX7_less, cX7_less, 3, some (FieldType.int), 7, 2, 1, 714, 713, 22, 38)
abbrev mt_103 : MTy := (yX7_pass, cX7_pass, 4, none, 7, 2, 1, 710, 709, 21, 38)
abbrev mt_104 : MTy := (yX7_speak, cX7_speak, 4, none, 7, 3, 1, 718, 717, 23, 38)
abbrev mt_105 : MTy := (yX7_watch, cX7_watch, 4, none, 7, 2, 1, 706, 705, 20, 38)
abbrev mt_106 : MTy := (yX7_number, cX7_number, 3, some (FieldType.int), 7, 1, 1, 702, 701, 19, 38)
abbrev mt_107 : MTy := (yX7_goText, cX7_goText, 8, some (FieldType.int), 7, 1, 1, 694, 693, 17, 38)
abbrev mt_108 : MTy := (yX7_judge, cX7_judge, 1, some (FieldType.int), 7, 0, 1, 686, 684, 685, 38)
abbrev mt_109 : MTy := (yX7_barOfText, cX7_barOfText, 1, some (FieldType.int), 7, 0, 1, 726, 725, 24, 38)
abbrev mt_110 : MTy := (yX7_done, cX7_done, 3, some (FieldType.int), 7, 0, 1, 722, 720, 721, 38)
abbrev mt_111 : MTy := (yX7_behind, cX7_behind, 3, some (FieldType.int), 7, 1, 1, 730, 728, 729, 38)
abbrev mt_112 : MTy := (yX7_free, cX7_free, 2, some (FieldType.int), 7, 1, 1, 737, 735, 736, 38)
abbrev mt_113 : MTy := (yX7_answer, cX7_answer, 5, some (FieldType.int), 7, 2, 1, 741, 739, 740, 38)
abbrev mt_114 : MTy := (yX7_give, cX7_give, 5, some (FieldType.int), 7, 3, 1, 745, 743, 744, 38)
abbrev mt_115 : MTy := (yX7_saying, cX7_saying, 4, some (FieldType.int), 7, 3, 1, 749, 747, 748, 38)
abbrev mt_116 : MTy := (yX7_drop, cX7_drop, 2, some (FieldType.int), 7, 0, 1, 753, 751, 752, 38)
abbrev mt_117 : MTy := (yX7_nextRow, cX7_nextRow, 6, some (FieldType.boolean), 7, 1, 1, 769, 768, 27, 38)
abbrev mt_118 : MTy := (yX7_change, cX7_change, 4, none, 7, 2, 1, 773, 772, 28, 38)
abbrev mt_119 : MTy := (yX7_keepsOrder, cX7_keepsOrder, 5, some (FieldType.boolean), 7, 0, 1, 765, 764, 26, 38)
abbrev mt_120 : MTy := (yX7_layTalk, cX7_layTalk, 6, none, 7, 2, 1, 761, 760, 25, 38)
abbrev mt_121 : MTy := (yX7_allSeconds, cX7_allSeconds, 3, some (FieldType.int), 7, 0, 1, 777, 776, 29, 38)
abbrev mt_122 : MTy := (yX7_soonest, cX7_soonest, 2, some (FieldType.int), 7, 1, 1, 757, 755, 756, 38)
abbrev mt_123 : MTy := (yX7_whom, cX7_whom, 6, some (FieldType.int), 7, 2, 1, 781, 779, 780, 38)
abbrev mt_124 : MTy := (yX7_quarrel, cX7_quarrel, 13, some (FieldType.int), 7, 6, 1, 785, 783, 784, 38)
abbrev mt_125 : MTy := (yX7_length, cX7_length, 8, some (FieldType.int), 7, 3, 1, 789, 787, 788, 38)
abbrev mt_126 : MTy := (yX7_seen, cX7_seen, 3, some (FieldType.int), 7, 2, 1, 793, 791, 792, 38)
abbrev mt_127 : MTy := (yX7_forget, cX7_forget, 2, some (FieldType.int), 7, 0, 1, 797, 795, 796, 38)
abbrev mt_128 : MTy := (yX7_filled, cX7_filled, 8, some (FieldType.int), 7, 1, 1, 801, 799, 800, 38)
abbrev mt_129 : MTy := (yX7_burns, cX7_burns, 8, some (FieldType.long), 7, 2, 1, 805, 803, 804, 38)
abbrev mt_130 : MTy := (yX7_year, cX7_year, 8, some (FieldType.int), 7, 3, 1, 813, 811, 812, 38)
abbrev mt_131 : MTy := (yX7_image, cX7_image, 4, some (FieldType.int), 7, 1, 1, 818, 816, 817, 38)
abbrev mt_132 : MTy := (yX7_restore, cX7_restore, 4, some (FieldType.int), 7, 1, 1, 822, 820, 821, 38)
abbrev mt_133 : MTy := (yX7_told, cX7_told, 2, some (FieldType.int), 7, 1, 1, 826, 824, 825, 38)
abbrev mt_134 : MTy := (yL_law, cL_law, 4, some .boolean, 8, 1, 0, 0, 0, 0, 0)
def MT : List MTy := [mt_0, mt_1, mt_2, mt_3, mt_4, mt_5, mt_6, mt_7, mt_8, mt_9, mt_10, mt_11, mt_12, mt_13, mt_14, mt_15, mt_16, mt_17, mt_18, mt_19, mt_20, mt_21, mt_22, mt_23, mt_24, mt_25, mt_26, mt_27, mt_28, mt_29, mt_30, mt_31, mt_32, mt_33, mt_34, mt_35, mt_36, mt_37, mt_38, mt_39, mt_40, mt_41, mt_42, mt_43, mt_44, mt_45, mt_46, mt_47, mt_48, mt_49, mt_50, mt_51, mt_52, mt_53, mt_54, mt_55, mt_56, mt_57, mt_58, mt_59, mt_60, mt_61, mt_62, mt_63, mt_64, mt_65, mt_66, mt_67, mt_68, mt_69, mt_70, mt_71, mt_72, mt_73, mt_74, mt_75, mt_76, mt_77, mt_78, mt_79, mt_80, mt_81, mt_82, mt_83, mt_84, mt_85, mt_86, mt_87, mt_88, mt_89, mt_90, mt_91, mt_92, mt_93, mt_94, mt_95, mt_96, mt_97, mt_98, mt_99, mt_100, mt_101, mt_102, mt_103, mt_104, mt_105, mt_106, mt_107, mt_108, mt_109, mt_110, mt_111, mt_112, mt_113, mt_114, mt_115, mt_116, mt_117, mt_118, mt_119, mt_120, mt_121, mt_122, mt_123, mt_124, mt_125, mt_126, mt_127, mt_128, mt_129, mt_130, mt_131, mt_132, mt_133, mt_134]
def mq (k : Nat) : MTy := MT.getD k mt_134
def nm (k : Nat) := (mq k).1
def cd (k : Nat) := (mq k).2.1
def mx (k : Nat) := (mq k).2.2.1
def rt (k : Nat) := (mq k).2.2.2.1
def oc (k : Nat) := (mq k).2.2.2.2.1
def na (k : Nat) := (mq k).2.2.2.2.2.1
def kd (k : Nat) := (mq k).2.2.2.2.2.2.1
def cn (c : Nat) : String := [RX0, RX1, RX2, RX3, RX4, RX5, RX6, RX7].getD c RL
-- own class, pool place, class, field, nest, place in lw_tbl, kind of type (0 int, 1 boolean, 2 reference), final
abbrev FTy : Type := Nat × Nat × Nat × Nat × Bool × Nat × Nat × Bool
def FR : List FTy := [(5, 9, 5, 0, false, 60, 2, true),
  (5, 15, 5, 1, false, 61, 0, false),
  (5, 19, 5, 2, false, 62, 0, false),
  (5, 22, 5, 3, false, 63, 0, false),
  (3, 9, 3, 0, false, 80, 2, true),
  (3, 15, 3, 1, false, 81, 2, true),
  (3, 18, 3, 2, false, 82, 2, true),
  (3, 21, 3, 3, false, 83, 0, false),
  (2, 9, 2, 0, false, 99, 2, true),
  (2, 15, 2, 1, false, 100, 2, true),
  (2, 18, 2, 2, false, 101, 0, false),
  (0, 10, 0, 0, false, 109, 2, true),
  (6, 51, 0, 0, true, 110, 2, true),
  (0, 19, 0, 1, false, 111, 2, true),
  (6, 115, 0, 1, true, 112, 2, true),
  (0, 26, 0, 2, false, 113, 2, true),
  (6, 151, 0, 2, true, 114, 2, true),
  (0, 30, 0, 3, false, 115, 1, false),
  (6, 202, 0, 3, true, 116, 1, false),
  (4, 9, 4, 0, false, 132, 2, true),
  (4, 15, 4, 1, false, 133, 0, false),
  (4, 19, 4, 2, false, 134, 2, true),
  (4, 22, 4, 3, false, 135, 2, true),
  (4, 25, 4, 4, false, 136, 2, true),
  (4, 28, 4, 5, false, 137, 0, false),
  (4, 31, 4, 6, false, 138, 0, false),
  (4, 34, 4, 7, false, 139, 0, false),
  (1, 11, 1, 0, false, 168, 2, true),
  (1, 17, 1, 1, false, 169, 2, true),
  (1, 21, 1, 2, false, 170, 2, true),
  (1, 24, 1, 3, false, 171, 2, true),
  (1, 27, 1, 4, false, 172, 2, true),
  (1, 30, 1, 5, false, 173, 2, true),
  (1, 33, 1, 6, false, 174, 0, false),
  (1, 37, 1, 7, false, 175, 0, false),
  (6, 10, 6, 0, false, 193, 2, true),
  (6, 16, 6, 1, false, 194, 2, true),
  (6, 19, 6, 2, false, 195, 2, true),
  (6, 25, 6, 3, false, 196, 2, true),
  (6, 32, 6, 4, false, 197, 2, true),
  (6, 39, 6, 5, false, 198, 2, true),
  (6, 43, 6, 6, false, 199, 2, true),
  (7, 7, 7, 0, false, 598, 0, false),
  (7, 13, 7, 1, false, 599, 0, false),
  (7, 45, 7, 2, false, 600, 0, false),
  (7, 16, 7, 3, false, 601, 2, true),
  (7, 106, 7, 4, false, 602, 0, false),
  (7, 20, 7, 5, false, 603, 2, true),
  (7, 128, 7, 6, false, 604, 0, false),
  (7, 23, 7, 7, false, 605, 2, true),
  (7, 52, 7, 8, false, 606, 0, false),
  (7, 26, 7, 9, false, 607, 2, true),
  (7, 29, 7, 10, false, 608, 2, true),
  (7, 59, 7, 11, false, 609, 0, false),
  (7, 70, 7, 12, false, 610, 0, false),
  (7, 73, 7, 13, false, 611, 0, false),
  (7, 76, 7, 14, false, 612, 0, false),
  (7, 32, 7, 15, false, 613, 2, true),
  (7, 35, 7, 16, false, 614, 2, true),
  (7, 112, 7, 17, false, 615, 0, false),
  (7, 38, 7, 18, false, 616, 2, true),
  (7, 41, 7, 19, false, 617, 2, true)]
-- own class, pool place, target (200 Object.<init>, 201 Math.max, 202 Math.min), nest, place in lw_tbl
abbrev RTy : Type := Nat × Nat × Nat × Bool × Nat
def MR : List RTy := [(8, 9, 54, false, 42),
  (6, 1, 200, false, 45),
  (6, 9, 0, true, 50),
  (0, 1, 200, false, 53),
  (0, 9, 37, true, 56),
  (5, 3, 200, false, 59),
  (0, 18, 16, true, 76),
  (3, 3, 200, false, 79),
  (0, 25, 10, true, 95),
  (2, 3, 200, false, 98),
  (6, 24, 25, true, 128),
  (4, 3, 200, false, 131),
  (6, 31, 37, true, 158),
  (6, 38, 2, false, 161),
  (1, 3, 200, false, 164),
  (1, 40, 37, true, 167),
  (8, 13, 55, false, 215),
  (6, 47, 88, false, 219),
  (6, 54, 42, false, 222),
  (6, 58, 43, false, 226),
  (8, 18, 56, false, 230),
  (6, 61, 28, false, 234),
  (4, 37, 90, true, 238),
  (6, 65, 26, false, 241),
  (8, 23, 57, false, 245),
  (6, 69, 29, false, 249),
  (8, 28, 58, false, 253),
  (6, 72, 30, false, 257),
  (4, 41, 89, true, 261),
  (4, 45, 34, false, 264),
  (4, 82, 88, true, 268),
  (4, 86, 35, false, 269),
  (4, 89, 36, false, 273),
  (8, 32, 59, false, 277),
  (6, 75, 79, false, 281),
  (6, 162, 27, false, 285),
  (6, 78, 52, false, 289),
  (5, 50, 91, true, 293),
  (6, 82, 31, false, 296),
  (4, 49, 33, false, 300),
  (4, 65, 49, false, 304),
  (5, 47, 202, false, 308),
  (4, 68, 48, false, 311),
  (5, 39, 53, false, 315),
  (5, 33, 201, false, 319),
  (4, 72, 47, false, 322),
  (5, 29, 41, false, 326),
  (5, 25, 89, true, 330),
  (5, 43, 90, true, 331),
  (4, 76, 44, false, 332),
  (4, 79, 46, false, 336),
  (8, 36, 60, false, 340),
  (6, 86, 80, false, 344),
  (6, 89, 38, false, 348),
  (8, 40, 61, false, 352),
  (6, 92, 87, false, 356),
  (6, 95, 41, false, 359),
  (8, 44, 62, false, 360),
  (6, 98, 45, false, 364),
  (8, 48, 63, false, 368),
  (6, 101, 44, false, 372),
  (6, 104, 46, false, 373),
  (8, 52, 64, false, 374),
  (6, 108, 50, false, 378),
  (6, 111, 51, false, 382),
  (8, 57, 65, false, 386),
  (6, 119, 17, false, 390),
  (6, 124, 22, false, 394),
  (3, 29, 90, true, 398),
  (8, 61, 66, false, 399),
  (6, 126, 23, false, 403),
  (8, 65, 67, false, 407),
  (6, 128, 3, false, 412),
  (1, 41, 7, false, 416),
  (1, 45, 52, false, 420),
  (1, 49, 38, false, 421),
  (1, 53, 5, false, 422),
  (1, 61, 9, false, 426),
  (1, 100, 90, true, 430),
  (1, 65, 17, false, 431),
  (1, 57, 89, true, 432),
  (1, 82, 18, false, 433),
  (3, 25, 89, true, 437),
  (1, 93, 19, false, 438),
  (1, 107, 201, false, 442),
  (1, 113, 41, false, 443),
  (1, 70, 91, true, 444),
  (1, 74, 8, false, 445),
  (1, 104, 20, false, 449),
  (1, 78, 6, false, 453),
  (1, 86, 45, false, 457),
  (1, 89, 48, false, 458),
  (1, 96, 46, false, 459),
  (6, 132, 21, false, 460),
  (6, 135, 4, false, 464),
  (8, 69, 68, false, 468),
  (8, 73, 69, false, 472),
  (6, 138, 202, false, 476),
  (6, 143, 48, false, 477),
  (8, 78, 70, false, 478),
  (6, 147, 84, false, 482),
  (6, 220, 201, false, 485),
  (8, 82, 71, false, 486),
  (6, 155, 12, false, 490),
  (2, 22, 90, true, 494),
  (6, 160, 11, false, 495),
  (8, 86, 72, false, 499),
  (6, 161, 13, false, 503),
  (8, 90, 73, false, 507),
  (6, 165, 83, false, 511),
  (6, 168, 82, false, 514),
  (6, 216, 90, false, 518),
  (6, 171, 81, false, 519),
  (6, 212, 14, false, 523),
  (2, 26, 89, true, 527),
  (2, 30, 41, false, 528),
  (6, 175, 89, false, 529),
  (8, 94, 74, false, 530),
  (6, 185, 32, false, 537),
  (4, 53, 45, false, 541),
  (4, 59, 201, false, 542),
  (6, 189, 86, false, 543),
  (8, 99, 75, false, 548),
  (8, 103, 76, false, 553),
  (6, 195, 85, false, 557),
  (6, 199, 1, false, 561),
  (0, 34, 52, false, 565),
  (0, 38, 24, false, 566),
  (3, 33, 91, true, 570),
  (0, 41, 15, false, 571),
  (2, 36, 91, true, 575),
  (8, 107, 77, false, 576),
  (8, 111, 78, false, 580),
  (6, 206, 39, false, 584),
  (6, 209, 40, false, 588),
  (8, 12, 92, false, 594),
  (7, 1, 200, false, 597),
  (8, 17, 95, false, 660),
  (7, 48, 93, false, 664),
  (8, 22, 96, false, 667),
  (8, 27, 97, false, 671),
  (8, 31, 99, false, 675),
  (7, 55, 98, false, 679),
  (8, 35, 108, false, 683),
  (7, 82, 100, false, 687),
  (7, 96, 107, false, 691),
  (7, 79, 101, false, 695),
  (7, 85, 106, false, 699),
  (7, 89, 105, false, 703),
  (7, 66, 103, false, 707),
  (7, 62, 102, false, 711),
  (7, 92, 104, false, 715),
  (8, 39, 110, false, 719),
  (7, 99, 109, false, 723),
  (8, 43, 111, false, 727),
  (7, 102, 94, false, 731),
  (8, 47, 112, false, 734),
  (8, 51, 113, false, 738),
  (8, 56, 114, false, 742),
  (8, 60, 115, false, 746),
  (8, 64, 116, false, 750),
  (8, 68, 122, false, 754),
  (7, 122, 120, false, 758),
  (7, 115, 119, false, 762),
  (7, 119, 117, false, 766),
  (7, 109, 118, false, 770),
  (7, 125, 121, false, 774),
  (8, 72, 123, false, 778),
  (8, 77, 124, false, 782),
  (8, 81, 125, false, 786),
  (8, 85, 126, false, 790),
  (8, 89, 127, false, 794),
  (8, 93, 128, false, 798),
  (8, 98, 129, false, 802),
  (8, 102, 130, false, 810),
  (8, 106, 131, false, 815),
  (8, 110, 132, false, 819),
  (8, 114, 133, false, 823)]
def KI : List (Nat × Nat × Int × Nat) := [(6, 127, 1000000000, 411), (6, 223, 1000000, 546), (6, 194, 65537, 552), (7, 139, 65537, 814)]
def KL : List (Nat × Nat × Int × Nat) := [(6, 179, -1000000000000000001, 534), (6, 181, -1000000000000000002, 535), (6, 183, -1000000000000000000, 536), (6, 192, -1000000000000000004, 547), (7, 131, -1000000000000000001, 806), (7, 133, -1000000000000000002, 807), (7, 135, -1000000000000000000, 808), (7, 137, -1000000000000000004, 809)]
-- own class, pool place, class made, place of its classLink, instantiable, initialized
def NC : List (Nat × Nat × Nat × Nat × Nat × Nat) := [(8, 7, 6, 40, 41, 31), (6, 7, 0, 48, 49, 32), (0, 7, 5, 54, 55, 33), (0, 16, 3, 74, 75, 34), (0, 23, 2, 93, 94, 35), (6, 22, 4, 126, 127, 36), (6, 29, 5, 157, 55, 33), (6, 36, 1, 159, 160, 37), (1, 9, 5, 165, 55, 33), (8, 10, 7, 592, 593, 38)]
-- places of arrayClass int, arrayClass boolean, arrayOver Valley: 73, 659, 166
/-! the facts of the tables -/
def MTm : List MTy := MT.take 134
set_option maxRecDepth 100000 in
theorem mtc_0 : lw_tbl[mt_0.2.2.2.2.2.2.2.1]? = some (.code mt_0.1 mt_0.2.1 mt_0.2.2.1 mt_0.2.2.2.1) := rfl
set_option maxRecDepth 100000 in
theorem mtc_1 : lw_tbl[mt_1.2.2.2.2.2.2.2.1]? = some (.code mt_1.1 mt_1.2.1 mt_1.2.2.1 mt_1.2.2.2.1) := rfl
set_option maxRecDepth 100000 in
theorem mtc_2 : lw_tbl[mt_2.2.2.2.2.2.2.2.1]? = some (.code mt_2.1 mt_2.2.1 mt_2.2.2.1 mt_2.2.2.2.1) := rfl
set_option maxRecDepth 100000 in
theorem mtc_3 : lw_tbl[mt_3.2.2.2.2.2.2.2.1]? = some (.code mt_3.1 mt_3.2.1 mt_3.2.2.1 mt_3.2.2.2.1) := rfl
set_option maxRecDepth 100000 in
theorem mtc_4 : lw_tbl[mt_4.2.2.2.2.2.2.2.1]? = some (.code mt_4.1 mt_4.2.1 mt_4.2.2.1 mt_4.2.2.2.1) := rfl
set_option maxRecDepth 100000 in
theorem mtc_5 : lw_tbl[mt_5.2.2.2.2.2.2.2.1]? = some (.code mt_5.1 mt_5.2.1 mt_5.2.2.1 mt_5.2.2.2.1) := rfl
set_option maxRecDepth 100000 in
theorem mtc_6 : lw_tbl[mt_6.2.2.2.2.2.2.2.1]? = some (.code mt_6.1 mt_6.2.1 mt_6.2.2.1 mt_6.2.2.2.1) := rfl
set_option maxRecDepth 100000 in
theorem mtc_7 : lw_tbl[mt_7.2.2.2.2.2.2.2.1]? = some (.code mt_7.1 mt_7.2.1 mt_7.2.2.1 mt_7.2.2.2.1) := rfl
set_option maxRecDepth 100000 in
theorem mtc_8 : lw_tbl[mt_8.2.2.2.2.2.2.2.1]? = some (.code mt_8.1 mt_8.2.1 mt_8.2.2.1 mt_8.2.2.2.1) := rfl
set_option maxRecDepth 100000 in
theorem mtc_9 : lw_tbl[mt_9.2.2.2.2.2.2.2.1]? = some (.code mt_9.1 mt_9.2.1 mt_9.2.2.1 mt_9.2.2.2.1) := rfl
set_option maxRecDepth 100000 in
theorem mtc_10 : lw_tbl[mt_10.2.2.2.2.2.2.2.1]? = some (.code mt_10.1 mt_10.2.1 mt_10.2.2.1 mt_10.2.2.2.1) := rfl
set_option maxRecDepth 100000 in
theorem mtc_11 : lw_tbl[mt_11.2.2.2.2.2.2.2.1]? = some (.code mt_11.1 mt_11.2.1 mt_11.2.2.1 mt_11.2.2.2.1) := rfl
set_option maxRecDepth 100000 in
theorem mtc_12 : lw_tbl[mt_12.2.2.2.2.2.2.2.1]? = some (.code mt_12.1 mt_12.2.1 mt_12.2.2.1 mt_12.2.2.2.1) := rfl
set_option maxRecDepth 100000 in
theorem mtc_13 : lw_tbl[mt_13.2.2.2.2.2.2.2.1]? = some (.code mt_13.1 mt_13.2.1 mt_13.2.2.1 mt_13.2.2.2.1) := rfl
set_option maxRecDepth 100000 in
theorem mtc_14 : lw_tbl[mt_14.2.2.2.2.2.2.2.1]? = some (.code mt_14.1 mt_14.2.1 mt_14.2.2.1 mt_14.2.2.2.1) := rfl
set_option maxRecDepth 100000 in
theorem mtc_15 : lw_tbl[mt_15.2.2.2.2.2.2.2.1]? = some (.code mt_15.1 mt_15.2.1 mt_15.2.2.1 mt_15.2.2.2.1) := rfl
set_option maxRecDepth 100000 in
theorem mtc_16 : lw_tbl[mt_16.2.2.2.2.2.2.2.1]? = some (.code mt_16.1 mt_16.2.1 mt_16.2.2.1 mt_16.2.2.2.1) := rfl
set_option maxRecDepth 100000 in
theorem mtc_17 : lw_tbl[mt_17.2.2.2.2.2.2.2.1]? = some (.code mt_17.1 mt_17.2.1 mt_17.2.2.1 mt_17.2.2.2.1) := rfl
set_option maxRecDepth 100000 in
theorem mtc_18 : lw_tbl[mt_18.2.2.2.2.2.2.2.1]? = some (.code mt_18.1 mt_18.2.1 mt_18.2.2.1 mt_18.2.2.2.1) := rfl
set_option maxRecDepth 100000 in
theorem mtc_19 : lw_tbl[mt_19.2.2.2.2.2.2.2.1]? = some (.code mt_19.1 mt_19.2.1 mt_19.2.2.1 mt_19.2.2.2.1) := rfl
set_option maxRecDepth 100000 in
theorem mtc_20 : lw_tbl[mt_20.2.2.2.2.2.2.2.1]? = some (.code mt_20.1 mt_20.2.1 mt_20.2.2.1 mt_20.2.2.2.1) := rfl
set_option maxRecDepth 100000 in
theorem mtc_21 : lw_tbl[mt_21.2.2.2.2.2.2.2.1]? = some (.code mt_21.1 mt_21.2.1 mt_21.2.2.1 mt_21.2.2.2.1) := rfl
set_option maxRecDepth 100000 in
theorem mtc_22 : lw_tbl[mt_22.2.2.2.2.2.2.2.1]? = some (.code mt_22.1 mt_22.2.1 mt_22.2.2.1 mt_22.2.2.2.1) := rfl
set_option maxRecDepth 100000 in
theorem mtc_23 : lw_tbl[mt_23.2.2.2.2.2.2.2.1]? = some (.code mt_23.1 mt_23.2.1 mt_23.2.2.1 mt_23.2.2.2.1) := rfl
set_option maxRecDepth 100000 in
theorem mtc_24 : lw_tbl[mt_24.2.2.2.2.2.2.2.1]? = some (.code mt_24.1 mt_24.2.1 mt_24.2.2.1 mt_24.2.2.2.1) := rfl
set_option maxRecDepth 100000 in
theorem mtc_25 : lw_tbl[mt_25.2.2.2.2.2.2.2.1]? = some (.code mt_25.1 mt_25.2.1 mt_25.2.2.1 mt_25.2.2.2.1) := rfl
set_option maxRecDepth 100000 in
theorem mtc_26 : lw_tbl[mt_26.2.2.2.2.2.2.2.1]? = some (.code mt_26.1 mt_26.2.1 mt_26.2.2.1 mt_26.2.2.2.1) := rfl
set_option maxRecDepth 100000 in
theorem mtc_27 : lw_tbl[mt_27.2.2.2.2.2.2.2.1]? = some (.code mt_27.1 mt_27.2.1 mt_27.2.2.1 mt_27.2.2.2.1) := rfl
set_option maxRecDepth 100000 in
theorem mtc_28 : lw_tbl[mt_28.2.2.2.2.2.2.2.1]? = some (.code mt_28.1 mt_28.2.1 mt_28.2.2.1 mt_28.2.2.2.1) := rfl
set_option maxRecDepth 100000 in
theorem mtc_29 : lw_tbl[mt_29.2.2.2.2.2.2.2.1]? = some (.code mt_29.1 mt_29.2.1 mt_29.2.2.1 mt_29.2.2.2.1) := rfl
set_option maxRecDepth 100000 in
theorem mtc_30 : lw_tbl[mt_30.2.2.2.2.2.2.2.1]? = some (.code mt_30.1 mt_30.2.1 mt_30.2.2.1 mt_30.2.2.2.1) := rfl
set_option maxRecDepth 100000 in
theorem mtc_31 : lw_tbl[mt_31.2.2.2.2.2.2.2.1]? = some (.code mt_31.1 mt_31.2.1 mt_31.2.2.1 mt_31.2.2.2.1) := rfl
set_option maxRecDepth 100000 in
theorem mtc_32 : lw_tbl[mt_32.2.2.2.2.2.2.2.1]? = some (.code mt_32.1 mt_32.2.1 mt_32.2.2.1 mt_32.2.2.2.1) := rfl
set_option maxRecDepth 100000 in
theorem mtc_33 : lw_tbl[mt_33.2.2.2.2.2.2.2.1]? = some (.code mt_33.1 mt_33.2.1 mt_33.2.2.1 mt_33.2.2.2.1) := rfl
set_option maxRecDepth 100000 in
theorem mtc_34 : lw_tbl[mt_34.2.2.2.2.2.2.2.1]? = some (.code mt_34.1 mt_34.2.1 mt_34.2.2.1 mt_34.2.2.2.1) := rfl
set_option maxRecDepth 100000 in
theorem mtc_35 : lw_tbl[mt_35.2.2.2.2.2.2.2.1]? = some (.code mt_35.1 mt_35.2.1 mt_35.2.2.1 mt_35.2.2.2.1) := rfl
set_option maxRecDepth 100000 in
theorem mtc_36 : lw_tbl[mt_36.2.2.2.2.2.2.2.1]? = some (.code mt_36.1 mt_36.2.1 mt_36.2.2.1 mt_36.2.2.2.1) := rfl
set_option maxRecDepth 100000 in
theorem mtc_37 : lw_tbl[mt_37.2.2.2.2.2.2.2.1]? = some (.code mt_37.1 mt_37.2.1 mt_37.2.2.1 mt_37.2.2.2.1) := rfl
set_option maxRecDepth 100000 in
theorem mtc_38 : lw_tbl[mt_38.2.2.2.2.2.2.2.1]? = some (.code mt_38.1 mt_38.2.1 mt_38.2.2.1 mt_38.2.2.2.1) := rfl
set_option maxRecDepth 100000 in
theorem mtc_39 : lw_tbl[mt_39.2.2.2.2.2.2.2.1]? = some (.code mt_39.1 mt_39.2.1 mt_39.2.2.1 mt_39.2.2.2.1) := rfl
set_option maxRecDepth 100000 in
theorem mtc_40 : lw_tbl[mt_40.2.2.2.2.2.2.2.1]? = some (.code mt_40.1 mt_40.2.1 mt_40.2.2.1 mt_40.2.2.2.1) := rfl
set_option maxRecDepth 100000 in
theorem mtc_41 : lw_tbl[mt_41.2.2.2.2.2.2.2.1]? = some (.code mt_41.1 mt_41.2.1 mt_41.2.2.1 mt_41.2.2.2.1) := rfl
set_option maxRecDepth 100000 in
theorem mtc_42 : lw_tbl[mt_42.2.2.2.2.2.2.2.1]? = some (.code mt_42.1 mt_42.2.1 mt_42.2.2.1 mt_42.2.2.2.1) := rfl
set_option maxRecDepth 100000 in
theorem mtc_43 : lw_tbl[mt_43.2.2.2.2.2.2.2.1]? = some (.code mt_43.1 mt_43.2.1 mt_43.2.2.1 mt_43.2.2.2.1) := rfl
set_option maxRecDepth 100000 in
theorem mtc_44 : lw_tbl[mt_44.2.2.2.2.2.2.2.1]? = some (.code mt_44.1 mt_44.2.1 mt_44.2.2.1 mt_44.2.2.2.1) := rfl
set_option maxRecDepth 100000 in
theorem mtc_45 : lw_tbl[mt_45.2.2.2.2.2.2.2.1]? = some (.code mt_45.1 mt_45.2.1 mt_45.2.2.1 mt_45.2.2.2.1) := rfl
set_option maxRecDepth 100000 in
theorem mtc_46 : lw_tbl[mt_46.2.2.2.2.2.2.2.1]? = some (.code mt_46.1 mt_46.2.1 mt_46.2.2.1 mt_46.2.2.2.1) := rfl
set_option maxRecDepth 100000 in
theorem mtc_47 : lw_tbl[mt_47.2.2.2.2.2.2.2.1]? = some (.code mt_47.1 mt_47.2.1 mt_47.2.2.1 mt_47.2.2.2.1) := rfl
set_option maxRecDepth 100000 in
theorem mtc_48 : lw_tbl[mt_48.2.2.2.2.2.2.2.1]? = some (.code mt_48.1 mt_48.2.1 mt_48.2.2.1 mt_48.2.2.2.1) := rfl
set_option maxRecDepth 100000 in
theorem mtc_49 : lw_tbl[mt_49.2.2.2.2.2.2.2.1]? = some (.code mt_49.1 mt_49.2.1 mt_49.2.2.1 mt_49.2.2.2.1) := rfl
set_option maxRecDepth 100000 in
theorem mtc_50 : lw_tbl[mt_50.2.2.2.2.2.2.2.1]? = some (.code mt_50.1 mt_50.2.1 mt_50.2.2.1 mt_50.2.2.2.1) := rfl
set_option maxRecDepth 100000 in
theorem mtc_51 : lw_tbl[mt_51.2.2.2.2.2.2.2.1]? = some (.code mt_51.1 mt_51.2.1 mt_51.2.2.1 mt_51.2.2.2.1) := rfl
set_option maxRecDepth 100000 in
theorem mtc_52 : lw_tbl[mt_52.2.2.2.2.2.2.2.1]? = some (.code mt_52.1 mt_52.2.1 mt_52.2.2.1 mt_52.2.2.2.1) := rfl
set_option maxRecDepth 100000 in
theorem mtc_53 : lw_tbl[mt_53.2.2.2.2.2.2.2.1]? = some (.code mt_53.1 mt_53.2.1 mt_53.2.2.1 mt_53.2.2.2.1) := rfl
set_option maxRecDepth 100000 in
theorem mtc_54 : lw_tbl[mt_54.2.2.2.2.2.2.2.1]? = some (.code mt_54.1 mt_54.2.1 mt_54.2.2.1 mt_54.2.2.2.1) := rfl
set_option maxRecDepth 100000 in
theorem mtc_55 : lw_tbl[mt_55.2.2.2.2.2.2.2.1]? = some (.code mt_55.1 mt_55.2.1 mt_55.2.2.1 mt_55.2.2.2.1) := rfl
set_option maxRecDepth 100000 in
theorem mtc_56 : lw_tbl[mt_56.2.2.2.2.2.2.2.1]? = some (.code mt_56.1 mt_56.2.1 mt_56.2.2.1 mt_56.2.2.2.1) := rfl
set_option maxRecDepth 100000 in
theorem mtc_57 : lw_tbl[mt_57.2.2.2.2.2.2.2.1]? = some (.code mt_57.1 mt_57.2.1 mt_57.2.2.1 mt_57.2.2.2.1) := rfl
set_option maxRecDepth 100000 in
theorem mtc_58 : lw_tbl[mt_58.2.2.2.2.2.2.2.1]? = some (.code mt_58.1 mt_58.2.1 mt_58.2.2.1 mt_58.2.2.2.1) := rfl
set_option maxRecDepth 100000 in
theorem mtc_59 : lw_tbl[mt_59.2.2.2.2.2.2.2.1]? = some (.code mt_59.1 mt_59.2.1 mt_59.2.2.1 mt_59.2.2.2.1) := rfl
set_option maxRecDepth 100000 in
theorem mtc_60 : lw_tbl[mt_60.2.2.2.2.2.2.2.1]? = some (.code mt_60.1 mt_60.2.1 mt_60.2.2.1 mt_60.2.2.2.1) := rfl
set_option maxRecDepth 100000 in
theorem mtc_61 : lw_tbl[mt_61.2.2.2.2.2.2.2.1]? = some (.code mt_61.1 mt_61.2.1 mt_61.2.2.1 mt_61.2.2.2.1) := rfl
set_option maxRecDepth 100000 in
theorem mtc_62 : lw_tbl[mt_62.2.2.2.2.2.2.2.1]? = some (.code mt_62.1 mt_62.2.1 mt_62.2.2.1 mt_62.2.2.2.1) := rfl
set_option maxRecDepth 100000 in
theorem mtc_63 : lw_tbl[mt_63.2.2.2.2.2.2.2.1]? = some (.code mt_63.1 mt_63.2.1 mt_63.2.2.1 mt_63.2.2.2.1) := rfl
set_option maxRecDepth 100000 in
theorem mtc_64 : lw_tbl[mt_64.2.2.2.2.2.2.2.1]? = some (.code mt_64.1 mt_64.2.1 mt_64.2.2.1 mt_64.2.2.2.1) := rfl
set_option maxRecDepth 100000 in
theorem mtc_65 : lw_tbl[mt_65.2.2.2.2.2.2.2.1]? = some (.code mt_65.1 mt_65.2.1 mt_65.2.2.1 mt_65.2.2.2.1) := rfl
set_option maxRecDepth 100000 in
theorem mtc_66 : lw_tbl[mt_66.2.2.2.2.2.2.2.1]? = some (.code mt_66.1 mt_66.2.1 mt_66.2.2.1 mt_66.2.2.2.1) := rfl
set_option maxRecDepth 100000 in
theorem mtc_67 : lw_tbl[mt_67.2.2.2.2.2.2.2.1]? = some (.code mt_67.1 mt_67.2.1 mt_67.2.2.1 mt_67.2.2.2.1) := rfl
set_option maxRecDepth 100000 in
theorem mtc_68 : lw_tbl[mt_68.2.2.2.2.2.2.2.1]? = some (.code mt_68.1 mt_68.2.1 mt_68.2.2.1 mt_68.2.2.2.1) := rfl
set_option maxRecDepth 100000 in
theorem mtc_69 : lw_tbl[mt_69.2.2.2.2.2.2.2.1]? = some (.code mt_69.1 mt_69.2.1 mt_69.2.2.1 mt_69.2.2.2.1) := rfl
set_option maxRecDepth 100000 in
theorem mtc_70 : lw_tbl[mt_70.2.2.2.2.2.2.2.1]? = some (.code mt_70.1 mt_70.2.1 mt_70.2.2.1 mt_70.2.2.2.1) := rfl
set_option maxRecDepth 100000 in
theorem mtc_71 : lw_tbl[mt_71.2.2.2.2.2.2.2.1]? = some (.code mt_71.1 mt_71.2.1 mt_71.2.2.1 mt_71.2.2.2.1) := rfl
set_option maxRecDepth 100000 in
theorem mtc_72 : lw_tbl[mt_72.2.2.2.2.2.2.2.1]? = some (.code mt_72.1 mt_72.2.1 mt_72.2.2.1 mt_72.2.2.2.1) := rfl
set_option maxRecDepth 100000 in
theorem mtc_73 : lw_tbl[mt_73.2.2.2.2.2.2.2.1]? = some (.code mt_73.1 mt_73.2.1 mt_73.2.2.1 mt_73.2.2.2.1) := rfl
set_option maxRecDepth 100000 in
theorem mtc_74 : lw_tbl[mt_74.2.2.2.2.2.2.2.1]? = some (.code mt_74.1 mt_74.2.1 mt_74.2.2.1 mt_74.2.2.2.1) := rfl
set_option maxRecDepth 100000 in
theorem mtc_75 : lw_tbl[mt_75.2.2.2.2.2.2.2.1]? = some (.code mt_75.1 mt_75.2.1 mt_75.2.2.1 mt_75.2.2.2.1) := rfl
set_option maxRecDepth 100000 in
theorem mtc_76 : lw_tbl[mt_76.2.2.2.2.2.2.2.1]? = some (.code mt_76.1 mt_76.2.1 mt_76.2.2.1 mt_76.2.2.2.1) := rfl
set_option maxRecDepth 100000 in
theorem mtc_77 : lw_tbl[mt_77.2.2.2.2.2.2.2.1]? = some (.code mt_77.1 mt_77.2.1 mt_77.2.2.1 mt_77.2.2.2.1) := rfl
set_option maxRecDepth 100000 in
theorem mtc_78 : lw_tbl[mt_78.2.2.2.2.2.2.2.1]? = some (.code mt_78.1 mt_78.2.1 mt_78.2.2.1 mt_78.2.2.2.1) := rfl
set_option maxRecDepth 100000 in
theorem mtc_79 : lw_tbl[mt_79.2.2.2.2.2.2.2.1]? = some (.code mt_79.1 mt_79.2.1 mt_79.2.2.1 mt_79.2.2.2.1) := rfl
set_option maxRecDepth 100000 in
theorem mtc_80 : lw_tbl[mt_80.2.2.2.2.2.2.2.1]? = some (.code mt_80.1 mt_80.2.1 mt_80.2.2.1 mt_80.2.2.2.1) := rfl
set_option maxRecDepth 100000 in
theorem mtc_81 : lw_tbl[mt_81.2.2.2.2.2.2.2.1]? = some (.code mt_81.1 mt_81.2.1 mt_81.2.2.1 mt_81.2.2.2.1) := rfl
set_option maxRecDepth 100000 in
theorem mtc_82 : lw_tbl[mt_82.2.2.2.2.2.2.2.1]? = some (.code mt_82.1 mt_82.2.1 mt_82.2.2.1 mt_82.2.2.2.1) := rfl
set_option maxRecDepth 100000 in
theorem mtc_83 : lw_tbl[mt_83.2.2.2.2.2.2.2.1]? = some (.code mt_83.1 mt_83.2.1 mt_83.2.2.1 mt_83.2.2.2.1) := rfl
set_option maxRecDepth 100000 in
theorem mtc_84 : lw_tbl[mt_84.2.2.2.2.2.2.2.1]? = some (.code mt_84.1 mt_84.2.1 mt_84.2.2.1 mt_84.2.2.2.1) := rfl
set_option maxRecDepth 100000 in
theorem mtc_85 : lw_tbl[mt_85.2.2.2.2.2.2.2.1]? = some (.code mt_85.1 mt_85.2.1 mt_85.2.2.1 mt_85.2.2.2.1) := rfl
set_option maxRecDepth 100000 in
theorem mtc_86 : lw_tbl[mt_86.2.2.2.2.2.2.2.1]? = some (.code mt_86.1 mt_86.2.1 mt_86.2.2.1 mt_86.2.2.2.1) := rfl
set_option maxRecDepth 100000 in
theorem mtc_87 : lw_tbl[mt_87.2.2.2.2.2.2.2.1]? = some (.code mt_87.1 mt_87.2.1 mt_87.2.2.1 mt_87.2.2.2.1) := rfl
set_option maxRecDepth 100000 in
theorem mtc_88 : lw_tbl[mt_88.2.2.2.2.2.2.2.1]? = some (.code mt_88.1 mt_88.2.1 mt_88.2.2.1 mt_88.2.2.2.1) := rfl
set_option maxRecDepth 100000 in
theorem mtc_89 : lw_tbl[mt_89.2.2.2.2.2.2.2.1]? = some (.code mt_89.1 mt_89.2.1 mt_89.2.2.1 mt_89.2.2.2.1) := rfl
set_option maxRecDepth 100000 in
theorem mtc_90 : lw_tbl[mt_90.2.2.2.2.2.2.2.1]? = some (.code mt_90.1 mt_90.2.1 mt_90.2.2.1 mt_90.2.2.2.1) := rfl
set_option maxRecDepth 100000 in
theorem mtc_91 : lw_tbl[mt_91.2.2.2.2.2.2.2.1]? = some (.code mt_91.1 mt_91.2.1 mt_91.2.2.1 mt_91.2.2.2.1) := rfl
set_option maxRecDepth 100000 in
theorem mtc_92 : lw_tbl[mt_92.2.2.2.2.2.2.2.1]? = some (.code mt_92.1 mt_92.2.1 mt_92.2.2.1 mt_92.2.2.2.1) := rfl
set_option maxRecDepth 100000 in
theorem mtc_93 : lw_tbl[mt_93.2.2.2.2.2.2.2.1]? = some (.code mt_93.1 mt_93.2.1 mt_93.2.2.1 mt_93.2.2.2.1) := rfl
set_option maxRecDepth 100000 in
theorem mtc_94 : lw_tbl[mt_94.2.2.2.2.2.2.2.1]? = some (.code mt_94.1 mt_94.2.1 mt_94.2.2.1 mt_94.2.2.2.1) := rfl
set_option maxRecDepth 100000 in
theorem mtc_95 : lw_tbl[mt_95.2.2.2.2.2.2.2.1]? = some (.code mt_95.1 mt_95.2.1 mt_95.2.2.1 mt_95.2.2.2.1) := rfl
set_option maxRecDepth 100000 in
theorem mtc_96 : lw_tbl[mt_96.2.2.2.2.2.2.2.1]? = some (.code mt_96.1 mt_96.2.1 mt_96.2.2.1 mt_96.2.2.2.1) := rfl
set_option maxRecDepth 100000 in
theorem mtc_97 : lw_tbl[mt_97.2.2.2.2.2.2.2.1]? = some (.code mt_97.1 mt_97.2.1 mt_97.2.2.1 mt_97.2.2.2.1) := rfl
set_option maxRecDepth 100000 in
theorem mtc_98 : lw_tbl[mt_98.2.2.2.2.2.2.2.1]? = some (.code mt_98.1 mt_98.2.1 mt_98.2.2.1 mt_98.2.2.2.1) := rfl
set_option maxRecDepth 100000 in
theorem mtc_99 : lw_tbl[mt_99.2.2.2.2.2.2.2.1]? = some (.code mt_99.1 mt_99.2.1 mt_99.2.2.1 mt_99.2.2.2.1) := rfl
set_option maxRecDepth 100000 in
theorem mtc_100 : lw_tbl[mt_100.2.2.2.2.2.2.2.1]? = some (.code mt_100.1 mt_100.2.1 mt_100.2.2.1 mt_100.2.2.2.1) := rfl
set_option maxRecDepth 100000 in
theorem mtc_101 : lw_tbl[mt_101.2.2.2.2.2.2.2.1]? = some (.code mt_101.1 mt_101.2.1 mt_101.2.2.1 mt_101.2.2.2.1) := rfl
set_option maxRecDepth 100000 in
theorem mtc_102 : lw_tbl[mt_102.2.2.2.2.2.2.2.1]? = some (.code mt_102.1 mt_102.2.1 mt_102.2.2.1 mt_102.2.2.2.1) := rfl
set_option maxRecDepth 100000 in
theorem mtc_103 : lw_tbl[mt_103.2.2.2.2.2.2.2.1]? = some (.code mt_103.1 mt_103.2.1 mt_103.2.2.1 mt_103.2.2.2.1) := rfl
set_option maxRecDepth 100000 in
theorem mtc_104 : lw_tbl[mt_104.2.2.2.2.2.2.2.1]? = some (.code mt_104.1 mt_104.2.1 mt_104.2.2.1 mt_104.2.2.2.1) := rfl
set_option maxRecDepth 100000 in
theorem mtc_105 : lw_tbl[mt_105.2.2.2.2.2.2.2.1]? = some (.code mt_105.1 mt_105.2.1 mt_105.2.2.1 mt_105.2.2.2.1) := rfl
set_option maxRecDepth 100000 in
theorem mtc_106 : lw_tbl[mt_106.2.2.2.2.2.2.2.1]? = some (.code mt_106.1 mt_106.2.1 mt_106.2.2.1 mt_106.2.2.2.1) := rfl
set_option maxRecDepth 100000 in
theorem mtc_107 : lw_tbl[mt_107.2.2.2.2.2.2.2.1]? = some (.code mt_107.1 mt_107.2.1 mt_107.2.2.1 mt_107.2.2.2.1) := rfl
set_option maxRecDepth 100000 in
theorem mtc_108 : lw_tbl[mt_108.2.2.2.2.2.2.2.1]? = some (.code mt_108.1 mt_108.2.1 mt_108.2.2.1 mt_108.2.2.2.1) := rfl
set_option maxRecDepth 100000 in
theorem mtc_109 : lw_tbl[mt_109.2.2.2.2.2.2.2.1]? = some (.code mt_109.1 mt_109.2.1 mt_109.2.2.1 mt_109.2.2.2.1) := rfl
set_option maxRecDepth 100000 in
theorem mtc_110 : lw_tbl[mt_110.2.2.2.2.2.2.2.1]? = some (.code mt_110.1 mt_110.2.1 mt_110.2.2.1 mt_110.2.2.2.1) := rfl
set_option maxRecDepth 100000 in
theorem mtc_111 : lw_tbl[mt_111.2.2.2.2.2.2.2.1]? = some (.code mt_111.1 mt_111.2.1 mt_111.2.2.1 mt_111.2.2.2.1) := rfl
set_option maxRecDepth 100000 in
theorem mtc_112 : lw_tbl[mt_112.2.2.2.2.2.2.2.1]? = some (.code mt_112.1 mt_112.2.1 mt_112.2.2.1 mt_112.2.2.2.1) := rfl
set_option maxRecDepth 100000 in
theorem mtc_113 : lw_tbl[mt_113.2.2.2.2.2.2.2.1]? = some (.code mt_113.1 mt_113.2.1 mt_113.2.2.1 mt_113.2.2.2.1) := rfl
set_option maxRecDepth 100000 in
theorem mtc_114 : lw_tbl[mt_114.2.2.2.2.2.2.2.1]? = some (.code mt_114.1 mt_114.2.1 mt_114.2.2.1 mt_114.2.2.2.1) := rfl
set_option maxRecDepth 100000 in
theorem mtc_115 : lw_tbl[mt_115.2.2.2.2.2.2.2.1]? = some (.code mt_115.1 mt_115.2.1 mt_115.2.2.1 mt_115.2.2.2.1) := rfl
set_option maxRecDepth 100000 in
theorem mtc_116 : lw_tbl[mt_116.2.2.2.2.2.2.2.1]? = some (.code mt_116.1 mt_116.2.1 mt_116.2.2.1 mt_116.2.2.2.1) := rfl
set_option maxRecDepth 100000 in
theorem mtc_117 : lw_tbl[mt_117.2.2.2.2.2.2.2.1]? = some (.code mt_117.1 mt_117.2.1 mt_117.2.2.1 mt_117.2.2.2.1) := rfl
set_option maxRecDepth 100000 in
theorem mtc_118 : lw_tbl[mt_118.2.2.2.2.2.2.2.1]? = some (.code mt_118.1 mt_118.2.1 mt_118.2.2.1 mt_118.2.2.2.1) := rfl
set_option maxRecDepth 100000 in
theorem mtc_119 : lw_tbl[mt_119.2.2.2.2.2.2.2.1]? = some (.code mt_119.1 mt_119.2.1 mt_119.2.2.1 mt_119.2.2.2.1) := rfl
set_option maxRecDepth 100000 in
theorem mtc_120 : lw_tbl[mt_120.2.2.2.2.2.2.2.1]? = some (.code mt_120.1 mt_120.2.1 mt_120.2.2.1 mt_120.2.2.2.1) := rfl
set_option maxRecDepth 100000 in
theorem mtc_121 : lw_tbl[mt_121.2.2.2.2.2.2.2.1]? = some (.code mt_121.1 mt_121.2.1 mt_121.2.2.1 mt_121.2.2.2.1) := rfl
set_option maxRecDepth 100000 in
theorem mtc_122 : lw_tbl[mt_122.2.2.2.2.2.2.2.1]? = some (.code mt_122.1 mt_122.2.1 mt_122.2.2.1 mt_122.2.2.2.1) := rfl
set_option maxRecDepth 100000 in
theorem mtc_123 : lw_tbl[mt_123.2.2.2.2.2.2.2.1]? = some (.code mt_123.1 mt_123.2.1 mt_123.2.2.1 mt_123.2.2.2.1) := rfl
set_option maxRecDepth 100000 in
theorem mtc_124 : lw_tbl[mt_124.2.2.2.2.2.2.2.1]? = some (.code mt_124.1 mt_124.2.1 mt_124.2.2.1 mt_124.2.2.2.1) := rfl
set_option maxRecDepth 100000 in
theorem mtc_125 : lw_tbl[mt_125.2.2.2.2.2.2.2.1]? = some (.code mt_125.1 mt_125.2.1 mt_125.2.2.1 mt_125.2.2.2.1) := rfl
set_option maxRecDepth 100000 in
theorem mtc_126 : lw_tbl[mt_126.2.2.2.2.2.2.2.1]? = some (.code mt_126.1 mt_126.2.1 mt_126.2.2.1 mt_126.2.2.2.1) := rfl
set_option maxRecDepth 100000 in
theorem mtc_127 : lw_tbl[mt_127.2.2.2.2.2.2.2.1]? = some (.code mt_127.1 mt_127.2.1 mt_127.2.2.1 mt_127.2.2.2.1) := rfl
set_option maxRecDepth 100000 in
theorem mtc_128 : lw_tbl[mt_128.2.2.2.2.2.2.2.1]? = some (.code mt_128.1 mt_128.2.1 mt_128.2.2.1 mt_128.2.2.2.1) := rfl
set_option maxRecDepth 100000 in
theorem mtc_129 : lw_tbl[mt_129.2.2.2.2.2.2.2.1]? = some (.code mt_129.1 mt_129.2.1 mt_129.2.2.1 mt_129.2.2.2.1) := rfl
set_option maxRecDepth 100000 in
theorem mtc_130 : lw_tbl[mt_130.2.2.2.2.2.2.2.1]? = some (.code mt_130.1 mt_130.2.1 mt_130.2.2.1 mt_130.2.2.2.1) := rfl
set_option maxRecDepth 100000 in
theorem mtc_131 : lw_tbl[mt_131.2.2.2.2.2.2.2.1]? = some (.code mt_131.1 mt_131.2.1 mt_131.2.2.1 mt_131.2.2.2.1) := rfl
set_option maxRecDepth 100000 in
theorem mtc_132 : lw_tbl[mt_132.2.2.2.2.2.2.2.1]? = some (.code mt_132.1 mt_132.2.1 mt_132.2.2.1 mt_132.2.2.2.1) := rfl
set_option maxRecDepth 100000 in
theorem mtc_133 : lw_tbl[mt_133.2.2.2.2.2.2.2.1]? = some (.code mt_133.1 mt_133.2.1 mt_133.2.2.1 mt_133.2.2.2.1) := rfl
theorem MT_code : ∀ q ∈ MTm, lw_tbl[q.2.2.2.2.2.2.2.1]? = some (.code q.1 q.2.1 q.2.2.1 q.2.2.2.1) := by
  show ∀ q ∈ [mt_0, mt_1, mt_2, mt_3, mt_4, mt_5, mt_6, mt_7, mt_8, mt_9, mt_10, mt_11, mt_12, mt_13, mt_14, mt_15, mt_16, mt_17, mt_18, mt_19, mt_20, mt_21, mt_22, mt_23, mt_24, mt_25, mt_26, mt_27, mt_28, mt_29, mt_30, mt_31, mt_32, mt_33, mt_34, mt_35, mt_36, mt_37, mt_38, mt_39, mt_40, mt_41, mt_42, mt_43, mt_44, mt_45, mt_46, mt_47, mt_48, mt_49, mt_50, mt_51, mt_52, mt_53, mt_54, mt_55, mt_56, mt_57, mt_58, mt_59, mt_60, mt_61, mt_62, mt_63, mt_64, mt_65, mt_66, mt_67, mt_68, mt_69, mt_70, mt_71, mt_72, mt_73, mt_74, mt_75, mt_76, mt_77, mt_78, mt_79, mt_80, mt_81, mt_82, mt_83, mt_84, mt_85, mt_86, mt_87, mt_88, mt_89, mt_90, mt_91, mt_92, mt_93, mt_94, mt_95, mt_96, mt_97, mt_98, mt_99, mt_100, mt_101, mt_102, mt_103, mt_104, mt_105, mt_106, mt_107, mt_108, mt_109, mt_110, mt_111, mt_112, mt_113, mt_114, mt_115, mt_116, mt_117, mt_118, mt_119, mt_120, mt_121, mt_122, mt_123, mt_124, mt_125, mt_126, mt_127, mt_128, mt_129, mt_130, mt_131, mt_132, mt_133], lw_tbl[q.2.2.2.2.2.2.2.1]? = some (.code q.1 q.2.1 q.2.2.1 q.2.2.2.1)
  exact List.forall_mem_cons.mpr ⟨mtc_0, List.forall_mem_cons.mpr ⟨mtc_1, List.forall_mem_cons.mpr ⟨mtc_2, List.forall_mem_cons.mpr ⟨mtc_3, List.forall_mem_cons.mpr ⟨mtc_4, List.forall_mem_cons.mpr ⟨mtc_5, List.forall_mem_cons.mpr ⟨mtc_6, List.forall_mem_cons.mpr ⟨mtc_7, List.forall_mem_cons.mpr ⟨mtc_8, List.forall_mem_cons.mpr ⟨mtc_9, List.forall_mem_cons.mpr ⟨mtc_10, List.forall_mem_cons.mpr ⟨mtc_11, List.forall_mem_cons.mpr ⟨mtc_12, List.forall_mem_cons.mpr ⟨mtc_13, List.forall_mem_cons.mpr ⟨mtc_14, List.forall_mem_cons.mpr ⟨mtc_15, List.forall_mem_cons.mpr ⟨mtc_16, List.forall_mem_cons.mpr ⟨mtc_17, List.forall_mem_cons.mpr ⟨mtc_18, List.forall_mem_cons.mpr ⟨mtc_19, List.forall_mem_cons.mpr ⟨mtc_20, List.forall_mem_cons.mpr ⟨mtc_21, List.forall_mem_cons.mpr ⟨mtc_22, List.forall_mem_cons.mpr ⟨mtc_23, List.forall_mem_cons.mpr ⟨mtc_24, List.forall_mem_cons.mpr ⟨mtc_25, List.forall_mem_cons.mpr ⟨mtc_26, List.forall_mem_cons.mpr ⟨mtc_27, List.forall_mem_cons.mpr ⟨mtc_28, List.forall_mem_cons.mpr ⟨mtc_29, List.forall_mem_cons.mpr ⟨mtc_30, List.forall_mem_cons.mpr ⟨mtc_31, List.forall_mem_cons.mpr ⟨mtc_32, List.forall_mem_cons.mpr ⟨mtc_33, List.forall_mem_cons.mpr ⟨mtc_34, List.forall_mem_cons.mpr ⟨mtc_35, List.forall_mem_cons.mpr ⟨mtc_36, List.forall_mem_cons.mpr ⟨mtc_37, List.forall_mem_cons.mpr ⟨mtc_38, List.forall_mem_cons.mpr ⟨mtc_39, List.forall_mem_cons.mpr ⟨mtc_40, List.forall_mem_cons.mpr ⟨mtc_41, List.forall_mem_cons.mpr ⟨mtc_42, List.forall_mem_cons.mpr ⟨mtc_43, List.forall_mem_cons.mpr ⟨mtc_44, List.forall_mem_cons.mpr ⟨mtc_45, List.forall_mem_cons.mpr ⟨mtc_46, List.forall_mem_cons.mpr ⟨mtc_47, List.forall_mem_cons.mpr ⟨mtc_48, List.forall_mem_cons.mpr ⟨mtc_49, List.forall_mem_cons.mpr ⟨mtc_50, List.forall_mem_cons.mpr ⟨mtc_51, List.forall_mem_cons.mpr ⟨mtc_52, List.forall_mem_cons.mpr ⟨mtc_53, List.forall_mem_cons.mpr ⟨mtc_54, List.forall_mem_cons.mpr ⟨mtc_55, List.forall_mem_cons.mpr ⟨mtc_56, List.forall_mem_cons.mpr ⟨mtc_57, List.forall_mem_cons.mpr ⟨mtc_58, List.forall_mem_cons.mpr ⟨mtc_59, List.forall_mem_cons.mpr ⟨mtc_60, List.forall_mem_cons.mpr ⟨mtc_61, List.forall_mem_cons.mpr ⟨mtc_62, List.forall_mem_cons.mpr ⟨mtc_63, List.forall_mem_cons.mpr ⟨mtc_64, List.forall_mem_cons.mpr ⟨mtc_65, List.forall_mem_cons.mpr ⟨mtc_66, List.forall_mem_cons.mpr ⟨mtc_67, List.forall_mem_cons.mpr ⟨mtc_68, List.forall_mem_cons.mpr ⟨mtc_69, List.forall_mem_cons.mpr ⟨mtc_70, List.forall_mem_cons.mpr ⟨mtc_71, List.forall_mem_cons.mpr ⟨mtc_72, List.forall_mem_cons.mpr ⟨mtc_73, List.forall_mem_cons.mpr ⟨mtc_74, List.forall_mem_cons.mpr ⟨mtc_75, List.forall_mem_cons.mpr ⟨mtc_76, List.forall_mem_cons.mpr ⟨mtc_77, List.forall_mem_cons.mpr ⟨mtc_78, List.forall_mem_cons.mpr ⟨mtc_79, List.forall_mem_cons.mpr ⟨mtc_80, List.forall_mem_cons.mpr ⟨mtc_81, List.forall_mem_cons.mpr ⟨mtc_82, List.forall_mem_cons.mpr ⟨mtc_83, List.forall_mem_cons.mpr ⟨mtc_84, List.forall_mem_cons.mpr ⟨mtc_85, List.forall_mem_cons.mpr ⟨mtc_86, List.forall_mem_cons.mpr ⟨mtc_87, List.forall_mem_cons.mpr ⟨mtc_88, List.forall_mem_cons.mpr ⟨mtc_89, List.forall_mem_cons.mpr ⟨mtc_90, List.forall_mem_cons.mpr ⟨mtc_91, List.forall_mem_cons.mpr ⟨mtc_92, List.forall_mem_cons.mpr ⟨mtc_93, List.forall_mem_cons.mpr ⟨mtc_94, List.forall_mem_cons.mpr ⟨mtc_95, List.forall_mem_cons.mpr ⟨mtc_96, List.forall_mem_cons.mpr ⟨mtc_97, List.forall_mem_cons.mpr ⟨mtc_98, List.forall_mem_cons.mpr ⟨mtc_99, List.forall_mem_cons.mpr ⟨mtc_100, List.forall_mem_cons.mpr ⟨mtc_101, List.forall_mem_cons.mpr ⟨mtc_102, List.forall_mem_cons.mpr ⟨mtc_103, List.forall_mem_cons.mpr ⟨mtc_104, List.forall_mem_cons.mpr ⟨mtc_105, List.forall_mem_cons.mpr ⟨mtc_106, List.forall_mem_cons.mpr ⟨mtc_107, List.forall_mem_cons.mpr ⟨mtc_108, List.forall_mem_cons.mpr ⟨mtc_109, List.forall_mem_cons.mpr ⟨mtc_110, List.forall_mem_cons.mpr ⟨mtc_111, List.forall_mem_cons.mpr ⟨mtc_112, List.forall_mem_cons.mpr ⟨mtc_113, List.forall_mem_cons.mpr ⟨mtc_114, List.forall_mem_cons.mpr ⟨mtc_115, List.forall_mem_cons.mpr ⟨mtc_116, List.forall_mem_cons.mpr ⟨mtc_117, List.forall_mem_cons.mpr ⟨mtc_118, List.forall_mem_cons.mpr ⟨mtc_119, List.forall_mem_cons.mpr ⟨mtc_120, List.forall_mem_cons.mpr ⟨mtc_121, List.forall_mem_cons.mpr ⟨mtc_122, List.forall_mem_cons.mpr ⟨mtc_123, List.forall_mem_cons.mpr ⟨mtc_124, List.forall_mem_cons.mpr ⟨mtc_125, List.forall_mem_cons.mpr ⟨mtc_126, List.forall_mem_cons.mpr ⟨mtc_127, List.forall_mem_cons.mpr ⟨mtc_128, List.forall_mem_cons.mpr ⟨mtc_129, List.forall_mem_cons.mpr ⟨mtc_130, List.forall_mem_cons.mpr ⟨mtc_131, List.forall_mem_cons.mpr ⟨mtc_132, List.forall_mem_cons.mpr ⟨mtc_133, fun _ h => absurd h List.not_mem_nil⟩⟩⟩⟩⟩⟩⟩⟩⟩⟩⟩⟩⟩⟩⟩⟩⟩⟩⟩⟩⟩⟩⟩⟩⟩⟩⟩⟩⟩⟩⟩⟩⟩⟩⟩⟩⟩⟩⟩⟩⟩⟩⟩⟩⟩⟩⟩⟩⟩⟩⟩⟩⟩⟩⟩⟩⟩⟩⟩⟩⟩⟩⟩⟩⟩⟩⟩⟩⟩⟩⟩⟩⟩⟩⟩⟩⟩⟩⟩⟩⟩⟩⟩⟩⟩⟩⟩⟩⟩⟩⟩⟩⟩⟩⟩⟩⟩⟩⟩⟩⟩⟩⟩⟩⟩⟩⟩⟩⟩⟩⟩⟩⟩⟩⟩⟩⟩⟩⟩⟩⟩⟩⟩⟩⟩⟩⟩⟩⟩⟩⟩⟩⟩⟩
theorem tb_oc : lw_tbl[47]? = some (.code Lib.objectInit ⟨#[0xb1]⟩ 1 none) := by set_option maxRecDepth 100000 in exact rfl
theorem tb_mx : lw_tbl[321]? = some (.code Lib.Math.max.name Lib.Math.max.code 2 (some .int)) := by set_option maxRecDepth 100000 in exact rfl
theorem tb_mn : lw_tbl[310]? = some (.code Lib.Math.min.name Lib.Math.min.code 2 (some .int)) := by set_option maxRecDepth 100000 in exact rfl
end
section
/-! THE PURE MACHINE: integers are Int (of the range of int), an object is its number in the order of making (0: the script),
   the mutable contents of object a are the row M a; sh tells what the objects are: (class 0..7, 0, fields: none an int field, some none null, some (some r) object r),
   (8, n, []) an int array, (9, n, []) a boolean array, (10, n, elements) an array of objects, (11, n, []) the script. -/
abbrev PV : Type := Int ⊕ Int ⊕ Option Nat
abbrev PS : Type := Nat × Nat × List (Option (Option Nat))
abbrev PM : Type := Nat → Nat → Int
abbrev PL : Type := List (Option PV)
abbrev PR : Type := Option PV × List PS × PM
abbrev pI (x : Int) : PV := .inl x
abbrev pL (x : Int) : PV := .inr (.inl x)
abbrev pR (k : Nat) : PV := .inr (.inr (some k))
abbrev pN : PV := .inr (.inr none)
def wr (z : Int) : Int := (Int32.ofInt z).toInt
def wl (z : Int) : Int := (Int64.ofInt z).toInt
def setC (M : PM) (a i : Nat) (x : Int) : PM := fun b j => if b = a ∧ j = i then x else M b j
def setR (M : PM) (a : Nat) (f : Nat → Int) : PM := fun b j => if b = a then f j else M b j
-- pops
def q1 {α : Type} (st : List PV) (f : Int → List PV → Option α) : Option α := match st with | .inl x :: r => f x r | _ => none
def q2 {α : Type} (st : List PV) (f : Int → Int → List PV → Option α) : Option α := match st with | .inl y :: .inl x :: r => f x y r | _ => none
def q1r {α : Type} (st : List PV) (f : Nat → List PV → Option α) : Option α := match st with | .inr (.inr (some a)) :: r => f a r | _ => none
def q2r {α : Type} (st : List PV) (f : Nat → Int → List PV → Option α) : Option α := match st with | .inl i :: .inr (.inr (some a)) :: r => f a i r | _ => none
def q3r {α : Type} (st : List PV) (f : Nat → Int → Int → List PV → Option α) : Option α := match st with | .inl x :: .inl i :: .inr (.inr (some a)) :: r => f a i x r | _ => none
def isL (v : PV) : Bool := match v with | .inr (.inl _) => true | _ => false
-- stack and arithmetic
def psA (i : Instr) (st : List PV) : Option (List PV) := match i with
  | .iconst n => if -1 ≤ n ∧ n ≤ 5 then some (.inl n :: st) else none
  | .bipush n => if -128 ≤ n ∧ n < 128 then some (.inl n :: st) else none
  | .sipush n => if -32768 ≤ n ∧ n < 32768 then some (.inl n :: st) else none
  | .iadd => q2 st fun x y r => some (.inl (wr (x + y)) :: r)
  | .isub => q2 st fun x y r => some (.inl (wr (x - y)) :: r)
  | .imul => q2 st fun x y r => some (.inl (wr (x * y)) :: r)
  | .idiv => q2 st fun x y r => if y = 0 then none else some (.inl (wr (x.tdiv y)) :: r)
  | .irem => q2 st fun x y r => if y = 0 then none else some (.inl (wr (x - x.tdiv y * y)) :: r)
  | .iand => q2 st fun x y r => some (.inl (Int32.ofInt x &&& Int32.ofInt y).toInt :: r)
  | .ior => q2 st fun x y r => some (.inl (Int32.ofInt x ||| Int32.ofInt y).toInt :: r)
  | .ishl => q2 st fun x y r => some (.inl (Int32.ofInt x <<< (Int32.ofInt y &&& 31)).toInt :: r)
  | .ishr => q2 st fun x y r => some (.inl (Int32.ofInt x >>> (Int32.ofInt y &&& 31)).toInt :: r)
  | .ineg => q1 st fun x r => some (.inl (wr (-x)) :: r)
  | .i2l => q1 st fun x r => some (.inr (.inl x) :: r)
  | .ladd => match st with | .inr (.inl y) :: .inr (.inl x) :: r => some (.inr (.inl (wl (x + y))) :: r) | _ => none
  | .lcmp => match st with | .inr (.inl y) :: .inr (.inl x) :: r => some (.inl (if y < x then 1 else if x = y then 0 else -1) :: r) | _ => none
  | .dup => match st with | v :: r => if isL v then none else some (v :: v :: r) | _ => none
  | .dup2 => match st with | v :: w :: r => if isL v || isL w then none else some (v :: w :: v :: w :: r) | _ => none
  | .pop => match st with | v :: r => if isL v then none else some r | _ => none
  | .aconst_null => some (.inr (.inr none) :: st)
  | _ => none
def ldI (lc : PL) (i : Nat) (st : List PV) : Option (PL × List PV) := match lc[i]? with | some (some (.inl x)) => some (lc, .inl x :: st) | _ => none
def ldR (lc : PL) (i : Nat) (st : List PV) : Option (PL × List PV) := match lc[i]? with | some (some (.inr (.inr (some a)))) => some (lc, .inr (.inr (some a)) :: st) | _ => none
def stI (lc : PL) (i : Nat) (st : List PV) : Option (PL × List PV) := q1 st fun x r => if i < lc.length then some (lc.set i (some (.inl x)), r) else none
def stR (lc : PL) (i : Nat) (st : List PV) : Option (PL × List PV) := q1r st fun a r => if i < lc.length then some (lc.set i (some (.inr (.inr (some a)))), r) else none
-- locals
def psL (i : Instr) (lc : PL) (st : List PV) : Option (PL × List PV) := match i with
  | .iload j => ldI lc j st
  | .iload_n j => ldI lc j.val st
  | .aload j => ldR lc j st
  | .aload_n j => ldR lc j.val st
  | .istore j => stI lc j st
  | .istore_n j => stI lc j.val st
  | .astore j => stR lc j st
  | .astore_n j => stR lc j.val st
  | .iinc j n => match lc[j]? with | some (some (.inl x)) => some (lc.set j (some (.inl (wr (x + n)))), st) | _ => none
  | _ => none
def tg (pc : Nat) (off : Int) : Option Nat := if 0 ≤ (pc : Int) + off then some ((pc : Int) + off).toNat else none
def cnd (c : ClassFile.Cond) (x y : Int) : Bool := match c with
  | .eq => decide (x = y) | .ne => !decide (x = y) | .lt => decide (x < y) | .ge => decide (y ≤ x) | .gt => decide (y < x) | .le => decide (x ≤ y)
-- branches: the next place and the stack
def psB (i : Instr) (pc : Nat) (st : List PV) : Option (Nat × List PV) := match i with
  | .goto off => (tg pc off).bind fun t => some (t, st)
  | .ifCond c off => q1 st fun x r => (tg pc off).bind fun t => some (if cnd c x 0 then t else pc + 3, r)
  | .if_icmp c off => q2 st fun x y r => (tg pc off).bind fun t => some (if cnd c x y then t else pc + 3, r)
  | .ifnull off => match st with | .inr (.inr none) :: r => (tg pc off).bind fun t => some (t, r) | .inr (.inr (some _)) :: r => some (pc + 3, r) | _ => none
  | .ifnonnull off => match st with | .inr (.inr none) :: r => some (pc + 3, r) | .inr (.inr (some _)) :: r => (tg pc off).bind fun t => some (t, r) | _ => none
  | .tableswitch dflt lo hi offs => q1 st fun x r => if x < lo ∨ hi < x then (tg pc dflt).bind fun t => some (t, r) else match offs[(x - lo).toNat]? with | some off => (tg pc off).bind fun t => some (t, r) | none => none
  | _ => none
def fieldOf (own idx : Nat) : Option FTy := FR.find? fun q => q.1 == own && q.2.1 == idx
def getf (sh : List PS) (M : PM) (a c j : Nat) : Option PV := if a = 0 then none else match sh[a]? with
  | some (c0, _, L) => if c0 = c ∧ c < 8 then match L[j]? with | some none => some (.inl (M a j)) | some (some none) => some (.inr (.inr none)) | some (some (some r)) => some (.inr (.inr (some r))) | none => none else none
  | none => none
/-- an int array's element; the script's -/
def aget (sh : List PS) (M : PM) (a : Nat) (i : Int) : Option PV := match sh[a]? with
  | some (c0, n, _) => if 0 ≤ i ∧ i < n ∧ (a = 0 ∧ c0 = 11 ∨ ¬ a = 0 ∧ c0 = 8) then some (.inl (M a i.toNat)) else none
  | none => none
def zget (sh : List PS) (M : PM) (a : Nat) (i : Int) : Option PV := if a = 0 then none else match sh[a]? with
  | some (c0, n, _) => if 0 ≤ i ∧ i < n ∧ c0 = 9 then some (.inl (M a i.toNat)) else none
  | none => none
def rget (sh : List PS) (a : Nat) (i : Int) : Option PV := if a = 0 then none else match sh[a]? with
  | some (c0, n, L) => if 0 ≤ i ∧ i < n ∧ c0 = 10 then match L[i.toNat]? with | some (some (some r)) => some (.inr (.inr (some r))) | _ => none else none
  | none => none
def alen (sh : List PS) (a : Nat) : Option PV := match sh[a]? with
  | some (c0, n, _) => if a = 0 ∧ c0 = 11 ∨ ¬ a = 0 ∧ (c0 = 8 ∨ c0 = 9 ∨ c0 = 10) then some (.inl (n : Int)) else none
  | none => none
def putI (sh : List PS) (M : PM) (a c j : Nat) (b : Bool) (x : Int) : Option PM := if a = 0 then none else match sh[a]? with
  | some (c0, _, L) => if c0 = c ∧ c < 8 ∧ L[j]? = some none ∧ (b = false ∨ x = 0 ∨ x = 1) then some (setC M a j x) else none
  | none => none
def putR (sh : List PS) (a c j r : Nat) : Option (List PS) := if a = 0 ∨ r = 0 then none else match sh[a]? with
  | some (c0, n, L) => if c0 = c ∧ c < 8 then match L[j]? with | some (some _) => some (sh.set a (c0, n, L.set j (some (some r)))) | _ => none else none
  | none => none
def aput (sh : List PS) (M : PM) (a : Nat) (i x : Int) : Option PM := if a = 0 then none else match sh[a]? with
  | some (c0, n, _) => if 0 ≤ i ∧ i < n ∧ c0 = 8 then some (setC M a i.toNat x) else none
  | none => none
def zput (sh : List PS) (M : PM) (a : Nat) (i x : Int) : Option PM := if a = 0 then none else match sh[a]? with
  | some (c0, n, _) => if 0 ≤ i ∧ i < n ∧ c0 = 9 ∧ (x = 0 ∨ x = 1) then some (setC M a i.toNat x) else none
  | none => none
def rput (sh : List PS) (a : Nat) (i : Int) (r : Nat) : Option (List PS) := if a = 0 ∨ r = 0 then none else match sh[a]? with
  | some (c0, n, L) => if 0 ≤ i ∧ i < n ∧ c0 = 10 ∧ i.toNat < L.length then match sh[r]? with | some (5, _, _) => some (sh.set a (c0, n, L.set i.toNat (some (some r)))) | _ => none else none
  | none => none
def tyT (c j : Nat) : Nat := match (parseFieldDescriptor ((vwCl.getD c (RX0, TX0, 4)).2.1 j).2.2.1) with | some .int => 0 | some .boolean => 1 | _ => 2
/-- a new object's fields -/
def dfl (c : Nat) : List (Option (Option Nat)) := match c with
  | 0 => [some none, some none, some none, none]
  | 1 => [some none, some none, some none, some none, some none, some none, none, none]
  | 2 => [some none, some none, none]
  | 3 => [some none, some none, some none, none]
  | 4 => [some none, none, some none, some none, some none, none, none, none]
  | 5 => [some none, none, none, none]
  | 6 => [some none, some none, some none, some none, some none, some none, some none]
  | _ => [none, none, none, some none, none, some none, none, some none, none, some none, some none, none, none, none, none, some none, some none, none, some none, some none]
def isIni (k : Nat) : Bool := kd k == 2
-- heap
def psH (k : Nat) (i : Instr) (st : List PV) (sh : List PS) (M : PM) : Option (List PV × List PS × PM) := match i with
  | .getfield idx => q1r st fun a r => match fieldOf (oc k) idx with | some q => (getf sh M a q.2.2.1 q.2.2.2.1).bind fun v => some (v :: r, sh, M) | none => none
  | .putfield idx => match st with
    | .inl x :: .inr (.inr (some a)) :: r => match fieldOf (oc k) idx with
      | some q => if q.2.2.2.2.2.2.2 = false ∧ q.2.2.2.2.2.2.1 < 2 then (putI sh M a q.2.2.1 q.2.2.2.1 (q.2.2.2.2.2.2.1 == 1) x).bind fun M' => some (r, sh, M') else none
      | none => none
    | .inr (.inr (some w)) :: .inr (.inr (some a)) :: r => match fieldOf (oc k) idx with
      | some q => if q.2.2.2.2.2.2.2 = true ∧ q.2.2.2.2.2.2.1 = 2 ∧ q.2.2.2.2.1 = false ∧ isIni k = true ∧ q.2.2.1 = oc k then (putR sh a q.2.2.1 q.2.2.2.1 w).bind fun sh' => some (r, sh', M) else none
      | none => none
    | _ => none
  | .iaload => q2r st fun a i r => (aget sh M a i).bind fun v => some (v :: r, sh, M)
  | .baload => q2r st fun a i r => (zget sh M a i).bind fun v => some (v :: r, sh, M)
  | .aaload => q2r st fun a i r => (rget sh a i).bind fun v => some (v :: r, sh, M)
  | .arraylength => q1r st fun a r => (alen sh a).bind fun v => some (v :: r, sh, M)
  | .iastore => q3r st fun a i x r => (aput sh M a i x).bind fun M' => some (r, sh, M')
  | .bastore => q3r st fun a i x r => (zput sh M a i x).bind fun M' => some (r, sh, M')
  | .aastore => match st with | .inr (.inr (some w)) :: .inl i :: .inr (.inr (some a)) :: r => (rput sh a i w).bind fun sh' => some (r, sh', M) | _ => none
  | .ldc idx => match KI.find? (fun q => q.1 == oc k && q.2.1 == idx) with | some q => some (.inl q.2.2.1 :: st, sh, M) | none => none
  | .ldc2_w idx => match KL.find? (fun q => q.1 == oc k && q.2.1 == idx) with | some q => some (.inr (.inl q.2.2.1) :: st, sh, M) | none => none
  | .new idx => match NC.find? (fun q => q.1 == oc k && q.2.1 == idx) with | some q => if q.2.2.1 < 8 ∧ ¬ sh.length = 0 then some (.inr (.inr (some sh.length)) :: st, sh ++ [(q.2.2.1, 0, dfl q.2.2.1)], setR M sh.length fun _ => 0) else none | none => none
  | .newarray .int => q1 st fun n r => if 0 ≤ n ∧ n ≤ 1000 ∧ ¬ sh.length = 0 then some (.inr (.inr (some sh.length)) :: r, sh ++ [(8, n.toNat, [])], setR M sh.length fun _ => 0) else none
  | .newarray .boolean => q1 st fun n r => if 0 ≤ n ∧ n ≤ 1000 ∧ ¬ sh.length = 0 then some (.inr (.inr (some sh.length)) :: r, sh ++ [(9, n.toNat, [])], setR M sh.length fun _ => 0) else none
  | .anewarray idx => q1 st fun n r => match NC.find? (fun q => q.1 == oc k && q.2.1 == idx) with | some q => if q.2.2.1 = 5 ∧ 0 ≤ n ∧ n ≤ 1000 ∧ ¬ sh.length = 0 then some (.inr (.inr (some sh.length)) :: r, sh ++ [(10, n.toNat, List.replicate n.toNat (some none))], setR M sh.length fun _ => 0) else none | none => none
  | _ => none
def methOf (own idx : Nat) : Option RTy := MR.find? fun q => q.1 == own && q.2.1 == idx
def mSum (st : List PV) : Nat := (st.map fun v => if isL v then 2 else 1).sum
-- Math.max, Math.min, Object.<init>
def psM (d k : Nat) (i : Instr) (st : List PV) : Option (List PV) := match i with
  | .invokestatic idx => match methOf (oc k) idx with
    | some q => if q.2.2.1 = 201 ∧ q.2.2.2.1 = false ∧ 1 ≤ d then q2 st fun x y r => if mSum r ≤ 8 then some (.inl (if x < y then y else x) :: r) else none
      else if q.2.2.1 = 202 ∧ q.2.2.2.1 = false ∧ 1 ≤ d then q2 st fun x y r => if mSum r ≤ 8 then some (.inl (if y < x then y else x) :: r) else none else none
    | none => none
  | .invokespecial idx => match methOf (oc k) idx with
    | some q => if q.2.2.1 = 200 ∧ q.2.2.2.1 = false ∧ 1 ≤ d then q1r st fun _ r => if mSum r ≤ 8 then some r else none else none
    | none => none
  | _ => none
def lenOk (i : Instr) (len : Nat) : Bool := match i with
  | .tableswitch _ _ _ _ => true
  | .bipush _ | .iload _ | .aload _ | .istore _ | .astore _ | .ldc _ | .newarray _ => len == 2
  | .sipush _ | .iinc _ _ | .goto _ | .ifCond _ _ | .if_icmp _ _ | .ifnull _ | .ifnonnull _ | .getfield _ | .putfield _ | .ldc2_w _ | .new _ | .anewarray _ | .invokevirtual _ | .invokespecial _ | .invokestatic _ => len == 3
  | _ => len == 1
def ps (d k : Nat) (i : Instr) (len pc : Nat) (lc : PL) (st : List PV) (sh : List PS) (M : PM) : Option (Nat × PL × List PV × List PS × PM) :=
  match psA i st with
  | some st' => some (pc + len, lc, st', sh, M)
  | none => match psL i lc st with
    | some (lc', st') => some (pc + len, lc', st', sh, M)
    | none => match psB i pc st with
      | some (pc', st') => some (pc', lc, st', sh, M)
      | none => match psH k i st sh M with
        | some (st', sh', M') => some (pc + len, lc, st', sh', M')
        | none => match psM d k i st with
          | some st' => some (pc + len, lc, st', sh, M)
          | none => none
/-- a method's end: what it answers -/
def rets (k : Nat) (i : Instr) (st : List PV) : Option (Option PV) := match i, st with
  | .ireturn, [.inl x] => match rt k with | some .int => some (some (.inl x)) | some .boolean => if x = 0 ∨ x = 1 then some (some (.inl x)) else none | _ => none
  | .lreturn, [.inr (.inl x)] => match rt k with | some .long => some (some (.inr (.inl x))) | _ => none
  | .areturn, [.inr (.inr (some a))] => match rt k with | some (.object _) => some (some (.inr (.inr (some a)))) | _ => none
  | .return_, [] => match rt k with | none => some none | _ => none
  | _, _ => none
def isObj (sh : List PS) (v : Option PV) (c : Nat) : Bool := match v with
  | some (.inr (.inr (some a))) => if a = 0 then false else match sh[a]? with | some (c0, _, _) => c0 == c | none => false
  | _ => false
/-- a call: whom, with what, what stays -/
def callOf (k : Nat) (i : Instr) (st : List PV) (sh : List PS) : Option (Nat × List PV × List PV) :=
  match (match i with | .invokevirtual idx => some (idx, 1) | .invokespecial idx => some (idx, 2) | .invokestatic idx => some (idx, 0) | _ => none) with
  | none => none
  | some (idx, z) => match methOf (oc k) idx with
    | none => none
    | some q => let t := q.2.2.1
      let n := na t + (if z = 0 then 0 else 1)
      let as := (st.take n).reverse
      if t < 134 ∧ kd t = z ∧ n ≤ st.length ∧ mSum (st.drop n) ≤ 8 ∧ n ≤ mx t ∧ as.any isL = false ∧ (z = 0 ∨ isObj sh as[0]? (oc t) = true) ∧ (z = 2 ∨ q.2.2.2.1 = false ∨ z = 0) then some (t, as, st.drop n) else none
def ent (t : Nat) (as : List PV) : PL := as.map some ++ List.replicate (mx t - as.length) none
def run : Nat → Nat → Nat → Nat → PL → List PV → List PS → PM → Option PR
  | 0, _, _, _, _, _, _, _ => none
  | n + 1, d, k, pc, lc, st, sh, M => match decode (cd k) pc with
    | .error _ => none
    | .ok (i, len) => if lenOk i len = false then none else match ps d k i len pc lc st sh M with
      | some (pc', lc', st', sh', M') => run n d k pc' lc' st' sh' M'
      | none => match rets k i st with
        | some r => some (r, sh, M)
        | none => match callOf k i st sh with
          | none => none
          | some (t, as, rest) => match d with
            | 0 => none
            | d' + 1 => match run n d' t 0 (ent t as) [] sh M with
              | none => none
              | some (r, sh', M') => run n (d' + 1) k (pc + 3) lc (r.toList ++ rest) sh' M'
end
section
/-! the tables' words, and the world of the pure machine -/
def gw : List Cond := lw_tbl.filter goodWord
theorem gwm {i : Nat} {w : Cond} (h : lw_tbl[i]? = some w) (hg : goodWord w = true) : w ∈ gw := List.mem_filter.mpr ⟨List.mem_of_getElem? h, hg⟩
theorem gw_good : GoodIn gw gw := fun w hw => ⟨hw, good_of_word (List.mem_filter.mp hw).2⟩
abbrev mqR (q : MTy) : Nat := q.2.2.2.2.2.1
set_option maxRecDepth 100000 in
theorem MT_par : ∀ q ∈ MT, (parseMethodDescriptor q.1.desc).map (fun d => d.parameters.length) = some q.2.2.2.2.2.1 := by decide +kernel
set_option maxRecDepth 100000 in
theorem MT_cls : ∀ q ∈ MT, q.1.cls = cn q.2.2.2.2.1 ∧ q.1.cls ≠ "java/lang/invoke/MethodHandle" ∧ q.1.cls ≠ "java/lang/invoke/VarHandle" ∧ plainName q.1.cls = true ∧ q.2.2.1 ≤ 15 ∧ 1 ≤ q.2.2.1 ∧ q.2.2.2.2.1 < 9 := by decide +kernel
set_option maxRecDepth 100000 in
theorem MT_kind : ∀ q ∈ MTm, lw_tbl[q.2.2.2.2.2.2.2.2.2.2]? = some (.initialized q.1.cls) ∧ (q.2.2.2.2.2.2.1 = 0 → lw_tbl[q.2.2.2.2.2.2.2.2.1]? = some (.static q.1)) ∧ (¬ q.2.2.2.2.2.2.1 = 0 → lw_tbl[q.2.2.2.2.2.2.2.2.1]? = some (.instanceMethod q.1))
    ∧ (q.2.2.2.2.2.2.1 = 1 → lw_tbl[q.2.2.2.2.2.2.2.2.2.1]? = some (.selects q.1.cls q.1 q.1)) ∧ (q.2.2.2.2.2.2.1 = 2 → q.1.name = "<init>" ∧ q.2.2.2.1 = none) ∧ q.2.2.2.2.2.2.1 ≤ 2 ∧ q.2.2.2.2.1 < 8 := by decide +kernel
abbrev fT (c : Nat) : u_T := (vwCl.getD c (RX0, TX0, 4)).2.1
abbrev fN (c : Nat) : Nat := (vwCl.getD c (RX0, TX0, 4)).2.2
def fWord (q : FTy) : Cond := if q.2.2.2.2.1 = true then .fieldLinkNest (cn q.1) q.2.1 (cn q.2.2.1) (fT q.2.2.1 q.2.2.2.1).2.1 (fT q.2.2.1 q.2.2.2.1).2.2.1 "SilentAfter" else .fieldLink (cn q.1) q.2.1 (cn q.2.2.1) (fT q.2.2.1 q.2.2.2.1).2.1 (fT q.2.2.1 q.2.2.2.1).2.2.1
def fTag (t : Nat) (o : Option FieldType) : Bool := match o with | some .int => t == 0 | some .boolean => t == 1 | some (.object _) => t == 2 | some (.array _) => t == 2 | _ => false
set_option maxRecDepth 100000 in
theorem FR_ok : ∀ q ∈ FR, lw_tbl[q.2.2.2.2.2.1]? = some (fWord q) ∧ q.2.2.1 < 8 ∧ q.2.2.2.1 < fN q.2.2.1 ∧ (fT q.2.2.1 q.2.2.2.1).1 = cn q.2.2.1 ∧ (fT q.2.2.1 q.2.2.2.1).2.2.2 = q.2.2.2.2.2.2.2 ∧ fTag q.2.2.2.2.2.2.1 (parseFieldDescriptor (fT q.2.2.1 q.2.2.2.1).2.2.1) = true := by decide +kernel
def tN (t : Nat) : MethodName := if t = 200 then Lib.objectInit else if t = 201 then Lib.Math.max.name else if t = 202 then Lib.Math.min.name else nm t
def rWord (q : RTy) : Cond := if q.2.2.2.1 = true then .methodLinkNest (cn q.1) q.2.1 (tN q.2.2.1) "SilentAfter" else .methodLink (cn q.1) q.2.1 (tN q.2.2.1)
set_option maxRecDepth 100000 in
theorem MR_ok : ∀ q ∈ MR, lw_tbl[q.2.2.2.2]? = some (rWord q) := by decide +kernel
set_option maxRecDepth 100000 in
theorem MR_nest : ∀ q ∈ MR, q.2.2.2.1 = true → kd q.2.2.1 = 0 ∨ kd q.2.2.1 = 2 := by decide +kernel
theorem KI_ok : ∀ q ∈ KI, lw_tbl[q.2.2.2]? = some (.constant (cn q.1) q.2.1 (Int32.ofInt q.2.2.1)) ∧ -2147483648 ≤ q.2.2.1 ∧ q.2.2.1 < 2147483648 := by decide +kernel
theorem KL_ok : ∀ q ∈ KL, lw_tbl[q.2.2.2]? = some (.constantLong (cn q.1) q.2.1 (Int64.ofInt q.2.2.1)) ∧ -9223372036854775808 ≤ q.2.2.1 ∧ q.2.2.1 < 9223372036854775808 := by decide +kernel
theorem NC_ok : ∀ q ∈ NC, lw_tbl[q.2.2.2.1]? = some (.classLink (cn q.1) q.2.1 (cn q.2.2.1)) ∧ lw_tbl[q.2.2.2.2.1]? = some (.instantiable (cn q.2.2.1) (fN q.2.2.1)) ∧ lw_tbl[q.2.2.2.2.2]? = some (.initialized (cn q.2.2.1)) := by decide +kernel
theorem tb_i : lw_tbl[73]? = some (.arrayClass .int) := by decide +kernel
theorem tb_z : lw_tbl[659]? = some (.arrayClass .boolean) := by decide +kernel
theorem tb_v : lw_tbl[166]? = some (.arrayOver (.object RX5)) := by decide +kernel
theorem tb_oi : Cond.instanceMethod Lib.objectInit ∈ gw := by decide +kernel
theorem tb_max : Cond.static Lib.Math.max.name ∈ gw ∧ Cond.static Lib.Math.min.name ∈ gw ∧ Cond.initialized "java/lang/Math" ∈ gw := by decide +kernel
def isNest : Cond → Bool | .fieldLinkNest _ _ _ _ _ _ => true | .methodLinkNest _ _ _ _ => true | _ => false
def nW : List Cond := lw_tbl.filter isNest
theorem nwm {i : Nat} {w : Cond} (h : lw_tbl[i]? = some w) (hg : isNest w = true) : w ∈ nW := List.mem_filter.mpr ⟨List.mem_of_getElem? h, hg⟩
theorem FR_w : ∀ q ∈ FR, fWord q ∈ gw ∨ fWord q ∈ nW := fun q hq => by
  have h := (FR_ok q hq).1
  unfold fWord at h ⊢
  split
  · rename_i hn; rw [if_pos hn] at h; exact Or.inr (nwm h rfl)
  · rename_i hn; rw [if_neg hn] at h; exact Or.inl (gwm h rfl)
theorem MR_w : ∀ q ∈ MR, rWord q ∈ gw ∨ rWord q ∈ nW := fun q hq => by
  have h := MR_ok q hq
  unfold rWord at h ⊢
  split
  · rename_i hn; rw [if_pos hn] at h; exact Or.inr (nwm h rfl)
  · rename_i hn; rw [if_neg hn] at h; exact Or.inl (gwm h rfl)
def Kst (D : va_G) (cI cZ cV : ClassId) (U : State) : Prop := va_K D vwCl [(cI, .int), (cZ, .boolean), (cV, .object RX5)] U ∧ va_AO RX5 U ∧ ∀ w ∈ nW, va_Nw w U
theorem nw_tab {w : Cond} (h : w ∈ nW) : w.onTables = true := by
  have h1 := (List.mem_filter.mp h).2
  cases w <;> first | rfl | (cases h1; done)
theorem Kst_warm {D : va_G} {cI cZ cV : ClassId} {s U : State} (hW : s.WarmedH U.vm) (h : Kst D cI cZ cV s) : Kst D cI cZ cV U := by
  refine ⟨va_K.moved hW.alike h.1, va_AO.moved hW.alike h.2.1, fun w hw => ?_⟩
  have h1 := (List.mem_filter.mp hw).2
  have h2 := h.2.2 w hw
  cases w <;> first | (cases h1; done) | exact va_Nw.warmF hW h2 | exact va_Nw.warmM hW h2
theorem Kst_same {D : va_G} {cI cZ cV : ClassId} {s U : State} (hv : s.vm = U.vm) (h : Kst D cI cZ cV s) : Kst D cI cZ cV U :=
  ⟨va_K.moved (by rw [← hv]; exact Vm.Alike.refl _) h.1, va_AO.moved (by rw [← hv]; exact Vm.Alike.refl _) h.2.1, fun w hw => va_Nw.same (nw_tab hw) hv (h.2.2 w hw)⟩
theorem Kst_word {D : va_G} {cI cZ cV : ClassId} {s : State} {args : Array Value} {w : Cond} (hts : ∀ w ∈ gw, w.before args s = true) (h : Kst D cI cZ cV s) (hw : w ∈ gw ∨ w ∈ nW) : w.before args s = true := by
  rcases hw with hw | hw
  · exact hts w hw
  · exact va_Nw.use (nw_tab hw) (h.2.2 w hw)
theorem KI_w : ∀ q ∈ KI, Cond.constant (cn q.1) q.2.1 (Int32.ofInt q.2.2.1) ∈ gw := fun q hq => gwm (KI_ok q hq).1 rfl
theorem KL_w : ∀ q ∈ KL, Cond.constantLong (cn q.1) q.2.1 (Int64.ofInt q.2.2.1) ∈ gw := fun q hq => gwm (KL_ok q hq).1 rfl
theorem NC_w : ∀ q ∈ NC, Cond.classLink (cn q.1) q.2.1 (cn q.2.2.1) ∈ gw ∧ Cond.instantiable (cn q.2.2.1) (fN q.2.2.1) ∈ gw ∧ Cond.initialized (cn q.2.2.1) ∈ gw := fun q hq => ⟨gwm (NC_ok q hq).1 rfl, gwm (NC_ok q hq).2.1 rfl, gwm (NC_ok q hq).2.2 rfl⟩
theorem tw_i : Cond.arrayClass .int ∈ gw := gwm tb_i rfl
theorem tw_z : Cond.arrayClass .boolean ∈ gw := gwm tb_z rfl
theorem tw_oc : Cond.code Lib.objectInit ⟨#[0xb1]⟩ 1 none ∈ gw := gwm tb_oc rfl
theorem tw_mx : Cond.code Lib.Math.max.name Lib.Math.max.code 2 (some .int) ∈ gw := gwm tb_mx rfl
theorem tw_mn : Cond.code Lib.Math.min.name Lib.Math.min.code 2 (some .int) ∈ gw := gwm tb_mn rfl
set_option maxRecDepth 100000 in
theorem cl_ty : ∀ c, c < 8 → ∀ k, k < fN c → (parseFieldDescriptor (fT c k).2.2.1).isSome = true := by decide +kernel
set_option maxRecDepth 100000 in
theorem cl_nm : ∀ c, c < 8 → ∀ a, a < fN c → ∀ b, b < fN c → a ≠ b → (fT c a).2.1 ≠ (fT c b).2.1 := by decide +kernel
set_option maxRecDepth 100000 in
theorem cl_dfl : ∀ c, c < 8 → ∀ k, k < fN c → fTag 2 (parseFieldDescriptor (fT c k).2.2.1) = ((dfl c).getD k none).isSome ∧ ((dfl c).getD k none = none ∨ (dfl c).getD k none = some none) ∧ (dfl c).length = fN c := by decide +kernel
theorem cl_in0 : ∀ c, c < 8 → ∀ w ∈ u_ws (cn c) (fT c) (fN c), w ∈ lw_tbl := by
  intro c hc
  match c, hc with
  | 0, _ => exact inX0
  | 1, _ => exact inX1
  | 2, _ => exact inX2
  | 3, _ => exact inX3
  | 4, _ => exact inX4
  | 5, _ => exact inX5
  | 6, _ => exact inX6
  | 7, _ => exact inX7
theorem cl_at {c : Nat} (h : c < 8) : vwCl[c]? = some (cn c, fT c, fN c) := by
  match c, h with
  | 0, _ => rfl
  | 1, _ => rfl
  | 2, _ => rfl
  | 3, _ => rfl
  | 4, _ => rfl
  | 5, _ => rfl
  | 6, _ => rfl
  | 7, _ => rfl
theorem cl_in : ∀ c, c < 8 → ∀ w ∈ u_ws (cn c) (fT c) (fN c), w ∈ gw := by
  intro c hc w hw
  refine List.mem_filter.mpr ⟨cl_in0 c hc w hw, ?_⟩
  obtain ⟨j, -, rfl⟩ := List.mem_map.mp hw
  unfold u_lay
  split <;> rfl
end
section
/-! the pure machine's steps are the machine's: stack, locals, branches -/
def av (b base k : Nat) : Nat := if k = 0 then b else base + k
def cv (b base : Nat) (v : PV) : Value := match v with
  | .inl x => .int (Int32.ofInt x)
  | .inr (.inl x) => .long (Int64.ofInt x)
  | .inr (.inr none) => .null
  | .inr (.inr (some k)) => .ref (av b base k)
def okI (x : Int) : Prop := -2147483648 ≤ x ∧ x < 2147483648
def okv (v : PV) : Prop := match v with
  | .inl x => okI x
  | .inr (.inl x) => -9223372036854775808 ≤ x ∧ x < 9223372036854775808
  | _ => True
def okS (st : List PV) : Prop := ∀ v ∈ st, okv v
def okL (lc : PL) : Prop := ∀ v, some v ∈ lc → okv v ∧ isL v = false
def okM (M : PM) : Prop := ∀ a i, okI (M a i)
def okH (sh : List PS) : Prop := ∀ s ∈ sh, s.2.1 < 2147483648
theorem okI_wr (z : Int) : okI (wr z) := by
  have h1 := Int32.toInt_lt (Int32.ofInt z)
  have h2 := Int32.le_toInt (Int32.ofInt z)
  unfold okI wr
  omega
theorem okI_ti (z : Int32) : okI z.toInt := by
  have h1 := Int32.toInt_lt z
  have h2 := Int32.le_toInt z
  unfold okI
  omega
theorem ofInt_wr (z : Int) : Int32.ofInt (wr z) = Int32.ofInt z := Int32.ofInt_toInt _
theorem ofInt_wl (z : Int) : Int64.ofInt (wl z) = Int64.ofInt z := Int64.ofInt_toInt _
theorem toInt_ok {x : Int} (h : okI x) : (Int32.ofInt x).toInt = x := Int32.toInt_ofInt_of_le (by unfold okI at h; omega) (by unfold okI at h; omega)
theorem wr_ok {x : Int} (h : okI x) : wr x = x := toInt_ok h
theorem wr_id {x : Int} (h1 : -2147483648 ≤ x) (h2 : x < 2147483648) : wr x = x := toInt_ok ⟨h1, h2⟩
theorem of_lt {x y : Int} (hx : okI x) (hy : okI y) : Int32.ofInt x < Int32.ofInt y ↔ x < y := by rw [Int32.lt_iff_toInt_lt, toInt_ok hx, toInt_ok hy]
theorem of_le {x y : Int} (hx : okI x) (hy : okI y) : Int32.ofInt x ≤ Int32.ofInt y ↔ x ≤ y := by rw [Int32.le_iff_toInt_le, toInt_ok hx, toInt_ok hy]
theorem of_eq {x y : Int} (hx : okI x) (hy : okI y) : Int32.ofInt x = Int32.ofInt y ↔ x = y := by rw [← Int32.toInt_inj, toInt_ok hx, toInt_ok hy]
theorem okI_0 : okI 0 := by unfold okI; omega
theorem of_div {x y : Int} (hx : okI x) (hy : okI y) : Int32.ofInt (x.tdiv y) = Int32.ofInt x / Int32.ofInt y := by
  unfold okI at hx hy
  have e1 : Int32.minValue.toInt = -2147483648 := by decide
  have e2 : Int32.maxValue.toInt = 2147483647 := by decide
  exact Int32.ofInt_tdiv (by omega) (by omega) (by omega) (by omega)
theorem okS_c {v : PV} {r : List PV} (h : okv v) (h2 : okS r) : okS (v :: r) := by
  intro w hw
  rcases List.mem_cons.mp hw with rfl | q
  · exact h
  · exact h2 w q
theorem okS_t {v : PV} {r : List PV} (h : okS (v :: r)) : okS r := fun w hw => h w (List.mem_cons_of_mem _ hw)
theorem okS_h {v : PV} {r : List PV} (h : okS (v :: r)) : okv v := h v List.mem_cons_self
theorem cat_cv {b base : Nat} {v : PV} (h : isL v = false) : (cv b base v).category = 1 := by
  rcases v with x | x | x
  · rfl
  · cases h
  · cases x <;> rfl
theorem q1_inv {α : Type} {st : List PV} {f : Int → List PV → Option α} {z : α} (h : q1 st f = some z) : ∃ x r, st = .inl x :: r ∧ f x r = some z := by
  unfold q1 at h
  split at h
  · exact ⟨_, _, rfl, h⟩
  · cases h
theorem q2_inv {α : Type} {st : List PV} {f : Int → Int → List PV → Option α} {z : α} (h : q2 st f = some z) : ∃ x y r, st = .inl y :: .inl x :: r ∧ f x y r = some z := by
  unfold q2 at h
  split at h
  · exact ⟨_, _, _, rfl, h⟩
  · cases h
theorem q1r_inv {α : Type} {st : List PV} {f : Nat → List PV → Option α} {z : α} (h : q1r st f = some z) : ∃ a r, st = .inr (.inr (some a)) :: r ∧ f a r = some z := by
  unfold q1r at h
  split at h
  · exact ⟨_, _, rfl, h⟩
  · cases h
theorem q2r_inv {α : Type} {st : List PV} {f : Nat → Int → List PV → Option α} {z : α} (h : q2r st f = some z) : ∃ a i r, st = .inl i :: .inr (.inr (some a)) :: r ∧ f a i r = some z := by
  unfold q2r at h
  split at h
  · exact ⟨_, _, _, rfl, h⟩
  · cases h
theorem q3r_inv {α : Type} {st : List PV} {f : Nat → Int → Int → List PV → Option α} {z : α} (h : q3r st f = some z) : ∃ a i x r, st = .inl x :: .inl i :: .inr (.inr (some a)) :: r ∧ f a i x r = some z := by
  unfold q3r at h
  split at h
  · exact ⟨_, _, _, _, rfl, h⟩
  · cases h
theorem len1 {len n : Nat} (h : (len == n) = true) : len = n := by simpa using h
section SA
variable {p : Program} {l : Launch} {e : Env} {R : Room} {s : State} {m : MethodId} {args : Array Value} {below : List Frame} {meth : Method} {c : Code} {H : Heap} {locs : List Loc} {cells slots : Nat} {Q : State → Prop} {cc : ByteArray} {pc : Nat} {ls : Array Slot} {b base : Nat}
set_option maxHeartbeats 4000000 in
theorem psA_snd {i : Instr} {len : Nat} {st st' : List PV} (h : psA i st = some st') (hlen : lenOk i len = true) (hx : p.tables.exec = Jvm.exec) (hb : c.code = cc) (hd : decode cc pc = .ok (i, len)) (hst : okS st)
    (kk : okS st' → W p l e R s m args below meth c H locs cells slots Q (F0 m (pc + len) ls (st'.map (cv b base)))) : W p l e R s m args below meth c H locs cells slots Q (F0 m pc ls (st.map (cv b base))) := by
  cases i <;> simp only [psA] at h <;> first | (cases h; done) | skip
  case aconst_null =>
    cases len1 hlen
    cases h
    exact lv_null hx hb hd (kk (okS_c trivial hst))
  case bipush n =>
    cases len1 hlen
    split at h
    · rename_i hn
      cases h
      refine lv_bipush hx hb hd ?_ (kk (okS_c ⟨by omega, by omega⟩ hst))
      apply Int32.toInt_inj.mp
      rw [Int8.toInt_toInt32, Int8.toInt_ofInt_of_le (by omega) (by omega), toInt_ok ⟨by omega, by omega⟩]
    · cases h
  case dup =>
    cases len1 hlen
    split at h
    · split at h
      · cases h
      · rename_i v r hv
        cases h
        exact lv_dup hx hb hd (cat_cv (by simpa using hv)) (kk (okS_c (okS_h hst) hst))
    · cases h
  case dup2 =>
    cases len1 hlen
    split at h
    · split at h
      · cases h
      · rename_i v w r hv
        cases h
        simp only [Bool.or_eq_true, not_or, Bool.not_eq_true] at hv
        exact lv_dup2_11 hx hb hd (cat_cv hv.1) (cat_cv hv.2) (kk (okS_c (okS_h hst) (okS_c (okS_h (okS_t hst)) hst)))
    · cases h
  case i2l =>
    cases len1 hlen
    obtain ⟨x, r, rfl, h2⟩ := q1_inv h; replace h := h2
    cases h
    have hxx : okI x := okS_h hst
    refine lv_i2l hx hb hd (v := Int64.ofInt x) ?_ (kk (okS_c ?_ (okS_t hst)))
    · apply Int64.toInt_inj.mp
      unfold okI at hxx
      rw [Int32.toInt_toInt64, toInt_ok hxx, Int64.toInt_ofInt_of_le (by omega) (by omega)]
    · unfold okI at hxx
      constructor <;> omega
  case iadd =>
    cases len1 hlen
    obtain ⟨x, y, r, rfl, h2⟩ := q2_inv h; replace h := h2
    cases h
    have k1 := kk (okS_c (okI_wr _) (okS_t (okS_t hst)))
    simp only [List.map_cons, cv, ofInt_wr, Int32.ofInt_add] at k1 ⊢
    exact lv_iadd hx hb hd k1
  case iand =>
    cases len1 hlen
    obtain ⟨x, y, r, rfl, h2⟩ := q2_inv h; replace h := h2
    cases h
    have k1 := kk (okS_c (okI_ti _) (okS_t (okS_t hst)))
    simp only [List.map_cons, cv, Int32.ofInt_toInt] at k1 ⊢
    exact lv_iand hx hb hd k1
  case iconst n =>
    cases len1 hlen
    split at h
    · rename_i hn
      cases h
      exact lv_iconst hx hb hd rfl (kk (okS_c ⟨by omega, by omega⟩ hst))
    · cases h
  case idiv =>
    cases len1 hlen
    obtain ⟨x, y, r, rfl, h2⟩ := q2_inv h; replace h := h2
    split at h
    · cases h
    · rename_i hy
      cases h
      have hxx : okI x := okS_h (okS_t hst)
      have hyy : okI y := okS_h hst
      have k1 := kk (okS_c (okI_wr _) (okS_t (okS_t hst)))
      simp only [List.map_cons, cv, ofInt_wr, of_div hxx hyy] at k1 ⊢
      exact lv_idiv hx hb hd (fun q => hy ((of_eq hyy okI_0).mp q)) k1
  case imul =>
    cases len1 hlen
    obtain ⟨x, y, r, rfl, h2⟩ := q2_inv h; replace h := h2
    cases h
    have k1 := kk (okS_c (okI_wr _) (okS_t (okS_t hst)))
    simp only [List.map_cons, cv, ofInt_wr, Int32.ofInt_mul] at k1 ⊢
    exact lv_imul hx hb hd k1
  case ineg =>
    cases len1 hlen
    obtain ⟨x, r, rfl, h2⟩ := q1_inv h; replace h := h2
    cases h
    have k1 := kk (okS_c (okI_wr _) (okS_t hst))
    simp only [List.map_cons, cv, ofInt_wr, Int32.ofInt_neg] at k1 ⊢
    exact lv_ineg hx hb hd k1
  case ior =>
    cases len1 hlen
    obtain ⟨x, y, r, rfl, h2⟩ := q2_inv h; replace h := h2
    cases h
    have k1 := kk (okS_c (okI_ti _) (okS_t (okS_t hst)))
    simp only [List.map_cons, cv, Int32.ofInt_toInt] at k1 ⊢
    exact lv_ior hx hb hd k1
  case irem =>
    cases len1 hlen
    obtain ⟨x, y, r, rfl, h2⟩ := q2_inv h; replace h := h2
    split at h
    · cases h
    · rename_i hy
      cases h
      have hxx : okI x := okS_h (okS_t hst)
      have hyy : okI y := okS_h hst
      have k1 := kk (okS_c (okI_wr _) (okS_t (okS_t hst)))
      simp only [List.map_cons, cv, ofInt_wr, Int32.ofInt_sub, Int32.ofInt_mul, of_div hxx hyy] at k1 ⊢
      exact lv_irem hx hb hd (fun q => hy ((of_eq hyy okI_0).mp q)) k1
  case ishl =>
    cases len1 hlen
    obtain ⟨x, y, r, rfl, h2⟩ := q2_inv h; replace h := h2
    cases h
    have k1 := kk (okS_c (okI_ti _) (okS_t (okS_t hst)))
    simp only [List.map_cons, cv, Int32.ofInt_toInt] at k1 ⊢
    exact lv_ishl hx hb hd k1
  case ishr =>
    cases len1 hlen
    obtain ⟨x, y, r, rfl, h2⟩ := q2_inv h; replace h := h2
    cases h
    have k1 := kk (okS_c (okI_ti _) (okS_t (okS_t hst)))
    simp only [List.map_cons, cv, Int32.ofInt_toInt] at k1 ⊢
    exact lv_ishr hx hb hd k1
  case isub =>
    cases len1 hlen
    obtain ⟨x, y, r, rfl, h2⟩ := q2_inv h; replace h := h2
    cases h
    have k1 := kk (okS_c (okI_wr _) (okS_t (okS_t hst)))
    simp only [List.map_cons, cv, ofInt_wr, Int32.ofInt_sub] at k1 ⊢
    exact lv_isub hx hb hd k1
  case ladd =>
    cases len1 hlen
    split at h
    · rename_i y x r
      cases h
      have k1 := kk (okS_c (by
        have h1 := Int64.toInt_lt (Int64.ofInt (x + y))
        have h2 := Int64.le_toInt (Int64.ofInt (x + y))
        show -9223372036854775808 ≤ wl (x + y) ∧ wl (x + y) < 9223372036854775808
        unfold wl
        omega) (okS_t (okS_t hst)))
      simp only [List.map_cons, cv, ofInt_wl, Int64.ofInt_add] at k1 ⊢
      exact lv_ladd hx hb hd k1
    · cases h
  case lcmp =>
    cases len1 hlen
    split at h
    · rename_i y x r
      cases h
      have hxx : -9223372036854775808 ≤ x ∧ x < 9223372036854775808 := okS_h (okS_t hst)
      have hyy : -9223372036854775808 ≤ y ∧ y < 9223372036854775808 := okS_h hst
      have ex : (Int64.ofInt x).toInt = x := Int64.toInt_ofInt_of_le (by omega) (by omega)
      have ey : (Int64.ofInt y).toInt = y := Int64.toInt_ofInt_of_le (by omega) (by omega)
      have k1 := kk (okS_c (show okI _ by unfold okI; repeat' split
                                          all_goals omega) (okS_t (okS_t hst)))
      have e1 : Int32.ofInt (if y < x then 1 else if x = y then 0 else -1) = lg_cmp (Int64.ofInt x) (Int64.ofInt y) := by
        unfold lg_cmp
        simp only [gt_iff_lt, Int64.lt_iff_toInt_lt, ← Int64.toInt_inj, ex, ey]
        repeat' split
        all_goals rfl
      simp only [List.map_cons, cv, e1] at k1 ⊢
      exact W.lcmp hx hb hd k1
    · cases h
  case pop =>
    cases len1 hlen
    split at h
    · split at h
      · cases h
      · rename_i v r hv
        cases h
        exact lv_pop hx hb hd (cat_cv (by simpa using hv)) (kk (okS_t hst))
    · cases h
  case sipush n =>
    cases len1 hlen
    split at h
    · rename_i hn
      cases h
      refine lv_sipush hx hb hd ?_ (kk (okS_c ⟨by omega, by omega⟩ hst))
      apply Int32.toInt_inj.mp
      rw [Int16.toInt_toInt32, Int16.toInt_ofInt_of_le (by omega) (by omega), toInt_ok ⟨by omega, by omega⟩]
    · cases h
end SA
end
section
/-! locals and branches -/
def plv (b base : Nat) (ls : Array Slot) (n : Nat) (lc : PL) : Prop := ls.size = n ∧ lv_wf ls ∧ lc.length = n ∧ okL lc ∧ ∀ (i : Nat) (v : PV), lc[i]? = some (some v) → ls[i]? = some (.val (cv b base v))
def lvl (b base : Nat) (lc : PL) : List (Nat × Value) := (List.range lc.length).filterMap fun i => match lc[i]? with | some (some v) => some (i, cv b base v) | _ => none
theorem lvl_mem {b base : Nat} {lc : PL} {j : Nat} {w : Value} : (j, w) ∈ lvl b base lc ↔ ∃ v, lc[j]? = some (some v) ∧ w = cv b base v := by
  unfold lvl
  rw [List.mem_filterMap]
  constructor
  · rintro ⟨i, -, hi⟩
    split at hi
    · rename_i v hv
      cases hi
      exact ⟨v, hv, rfl⟩
    · cases hi
  · rintro ⟨v, hv, rfl⟩
    refine ⟨j, List.mem_range.mpr (List.getElem?_eq_some_iff.mp hv).1, ?_⟩
    rw [hv]
theorem plv_has {b base : Nat} {ls : Array Slot} {n : Nat} {lc : PL} (h : plv b base ls n lc) : lv_has ls n (lvl b base lc) := by
  obtain ⟨h1, h2, h3, h4, h5⟩ := h
  refine ⟨h1, h2, ?_⟩
  rintro ⟨j, w⟩ hq
  obtain ⟨v, hv, rfl⟩ := lvl_mem.mp hq
  exact h5 j v hv
theorem plv_at {b base : Nat} {ls : Array Slot} {n : Nat} {lc : PL} (h : plv b base ls n lc) {i : Nat} {v : PV} (hv : lc[i]? = some (some v)) : ls[i]? = some (.val (cv b base v)) := h.2.2.2.2 i v hv
theorem plv_ok {b base : Nat} {ls : Array Slot} {n : Nat} {lc : PL} (h : plv b base ls n lc) {i : Nat} {v : PV} (hv : lc[i]? = some (some v)) : okv v ∧ isL v = false := h.2.2.2.1 v (List.mem_of_getElem? hv)
theorem plv_set {b base : Nat} {ls ls' : Array Slot} {n : Nat} {lc : PL} {i : Nat} {v : PV} (h : plv b base ls n lc) (hi : i < n) (hv : okv v) (hl : isL v = false)
    (h' : lv_has ls' n ((i, cv b base v) :: (lvl b base lc).filter (fun q => !(q.1 == i) && !(q.1 + 1 == i && q.2.category == 2)))) : plv b base ls' n (lc.set i (some v)) := by
  obtain ⟨h1, h2, h3, h4, h5⟩ := h
  refine ⟨h'.1, h'.2.1, by rw [List.length_set]; exact h3, ?_, ?_⟩
  · intro w hw
    rcases List.mem_or_eq_of_mem_set hw with q | q
    · exact h4 w q
    · cases q
      exact ⟨hv, hl⟩
  · intro j w hw
    by_cases hj : i = j
    · subst hj
      rw [List.getElem?_set_self (by omega)] at hw
      cases hw
      exact h'.2.2 (i, cv b base v) List.mem_cons_self
    · rw [List.getElem?_set_ne hj] at hw
      refine h'.2.2 (j, cv b base w) (List.mem_cons_of_mem _ (List.mem_filter.mpr ⟨lvl_mem.mpr ⟨w, hw, rfl⟩, ?_⟩))
      have h6 := cat_cv (b := b) (base := base) (h4 w (List.mem_of_getElem? hw)).2
      simp only [h6]
      simp
      exact fun q => hj q.symm
theorem ldI_inv {lc lc' : PL} {i : Nat} {st st' : List PV} (h : ldI lc i st = some (lc', st')) : ∃ x, lc[i]? = some (some (.inl x)) ∧ lc' = lc ∧ st' = .inl x :: st := by
  unfold ldI at h
  split at h
  · rename_i x hx
    cases h
    exact ⟨x, hx, rfl, rfl⟩
  · cases h
theorem ldR_inv {lc lc' : PL} {i : Nat} {st st' : List PV} (h : ldR lc i st = some (lc', st')) : ∃ a, lc[i]? = some (some (.inr (.inr (some a)))) ∧ lc' = lc ∧ st' = .inr (.inr (some a)) :: st := by
  unfold ldR at h
  split at h
  · rename_i x hx
    cases h
    exact ⟨x, hx, rfl, rfl⟩
  · cases h
theorem stI_inv {lc lc' : PL} {i : Nat} {st st' : List PV} (h : stI lc i st = some (lc', st')) : ∃ x, st = .inl x :: st' ∧ i < lc.length ∧ lc' = lc.set i (some (.inl x)) := by
  obtain ⟨x, r, rfl, h2⟩ := q1_inv h; replace h := h2
  split at h
  · cases h
    exact ⟨x, rfl, by assumption, rfl⟩
  · cases h
theorem stR_inv {lc lc' : PL} {i : Nat} {st st' : List PV} (h : stR lc i st = some (lc', st')) : ∃ a, st = .inr (.inr (some a)) :: st' ∧ i < lc.length ∧ lc' = lc.set i (some (.inr (.inr (some a)))) := by
  obtain ⟨x, r, rfl, h2⟩ := q1r_inv h; replace h := h2
  split at h
  · cases h
    exact ⟨x, rfl, by assumption, rfl⟩
  · cases h
section SB
variable {p : Program} {l : Launch} {e : Env} {R : Room} {s : State} {m : MethodId} {args : Array Value} {below : List Frame} {meth : Method} {c : Code} {H : Heap} {locs : List Loc} {cells slots : Nat} {Q : State → Prop} {cc : ByteArray} {pc : Nat} {ls : Array Slot} {b base : Nat}
set_option maxHeartbeats 4000000 in
theorem psL_snd {i : Instr} {len n : Nat} {st st' : List PV} {lc lc' : PL} (h : psL i lc st = some (lc', st')) (hlen : lenOk i len = true) (hx : p.tables.exec = Jvm.exec) (hb : c.code = cc) (hd : decode cc pc = .ok (i, len)) (hst : okS st) (hl : plv b base ls n lc)
    (kk : ∀ ls' : Array Slot, okS st' → plv b base ls' n lc' → W p l e R s m args below meth c H locs cells slots Q (F0 m (pc + len) ls' (st'.map (cv b base)))) : W p l e R s m args below meth c H locs cells slots Q (F0 m pc ls (st.map (cv b base))) := by
  cases i <;> simp only [psL] at h <;> first | (cases h; done) | skip
  case aload j =>
    cases len1 hlen
    obtain ⟨a, ha, rfl, rfl⟩ := ldR_inv h
    exact lv_aload hx hb hd (plv_at hl ha) (kk ls (okS_c trivial hst) hl)
  case aload_n j =>
    cases len1 hlen
    obtain ⟨a, ha, rfl, rfl⟩ := ldR_inv h
    exact lv_aload_n hx hb hd rfl (plv_at hl ha) (kk ls (okS_c trivial hst) hl)
  case astore j =>
    cases len1 hlen
    obtain ⟨a, rfl, hi, rfl⟩ := stR_inv h
    exact lv_astore hx hb hd (plv_has hl) (by rw [← hl.2.2.1]; exact hi) rfl fun ls' h' => kk ls' (okS_t hst) (plv_set hl (by rw [← hl.2.2.1]; exact hi) trivial rfl h')
  case astore_n j =>
    cases len1 hlen
    obtain ⟨a, rfl, hi, rfl⟩ := stR_inv h
    exact lv_astore_n hx hb hd rfl (plv_has hl) (by rw [← hl.2.2.1]; exact hi) rfl fun ls' h' => kk ls' (okS_t hst) (plv_set hl (by rw [← hl.2.2.1]; exact hi) trivial rfl h')
  case iinc j k =>
    cases len1 hlen
    split at h
    · rename_i x hxx
      cases h
      have hi : j < n := by rw [← hl.2.2.1]; exact (List.getElem?_eq_some_iff.mp hxx).1
      obtain ⟨t, ht⟩ := List.getElem?_of_mem (lvl_mem (b := b) (base := base).mpr ⟨_, hxx, rfl⟩)
      refine lv_iinc (v := Int32.ofInt (wr (x + k))) hx hb hd (plv_has hl) ht ?_ hi rfl fun ls' h' => kk ls' hst (plv_set hl hi (okI_wr _) rfl h')
      rw [ofInt_wr, Int32.ofInt_add]
    · cases h
  case iload j =>
    cases len1 hlen
    obtain ⟨a, ha, rfl, rfl⟩ := ldI_inv h
    exact lv_iload hx hb hd (plv_at hl ha) (kk ls (okS_c (plv_ok hl ha).1 hst) hl)
  case iload_n j =>
    cases len1 hlen
    obtain ⟨a, ha, rfl, rfl⟩ := ldI_inv h
    exact lv_iload_n hx hb hd rfl (plv_at hl ha) (kk ls (okS_c (plv_ok hl ha).1 hst) hl)
  case istore j =>
    cases len1 hlen
    obtain ⟨a, rfl, hi, rfl⟩ := stI_inv h
    exact lv_istore hx hb hd (plv_has hl) (by rw [← hl.2.2.1]; exact hi) rfl fun ls' h' => kk ls' (okS_t hst) (plv_set hl (by rw [← hl.2.2.1]; exact hi) (okS_h hst) rfl h')
  case istore_n j =>
    cases len1 hlen
    obtain ⟨a, rfl, hi, rfl⟩ := stI_inv h
    exact lv_istore_n hx hb hd rfl (plv_has hl) (by rw [← hl.2.2.1]; exact hi) rfl fun ls' h' => kk ls' (okS_t hst) (plv_set hl (by rw [← hl.2.2.1]; exact hi) (okS_h hst) rfl h')
theorem tg_inv {pc : Nat} {off : Int} {α : Type} {f : Nat → Option α} {z : α} (h : (tg pc off).bind f = some z) : ∃ t : Nat, (pc : Int) + off = (t : Int) ∧ f t = some z := by
  unfold tg at h
  split at h
  · exact ⟨((pc : Int) + off).toNat, by omega, h⟩
  · cases h
set_option maxHeartbeats 4000000 in
theorem psB_snd {i : Instr} {len pc' : Nat} {st st' : List PV} (h : psB i pc st = some (pc', st')) (hlen : lenOk i len = true) (hx : p.tables.exec = Jvm.exec) (hb : c.code = cc) (hd : decode cc pc = .ok (i, len)) (hst : okS st)
    (kk : okS st' → W p l e R s m args below meth c H locs cells slots Q (F0 m pc' ls (st'.map (cv b base)))) : W p l e R s m args below meth c H locs cells slots Q (F0 m pc ls (st.map (cv b base))) := by
  cases i <;> simp only [psB] at h <;> first | (cases h; done) | skip
  case goto off =>
    cases len1 hlen
    obtain ⟨t, ht, h⟩ := tg_inv h
    cases h
    exact lv_goto hx hb hd ht (kk hst)
  case ifCond cd off =>
    cases len1 hlen
    obtain ⟨x, r, rfl, h2⟩ := q1_inv h; replace h := h2
    obtain ⟨t, ht, h⟩ := tg_inv h
    cases h
    have ox : okI x := okS_h hst
    have k1 := kk (okS_t hst)
    cases cd <;> simp only [cnd] at k1
    · exact lv_if_eq hx hb hd ht (fun q => by have q := (of_eq ox okI_0).mp q; simpa [q] using k1) (fun q => by have q := mt (of_eq ox okI_0).mpr q; simpa [q] using k1)
    · exact lv_if_ne hx hb hd ht (fun q => by have q := mt (of_eq ox okI_0).mpr q; simpa [q] using k1) (fun q => by have q := (of_eq ox okI_0).mp q; simpa [q] using k1)
    · exact lv_if_lt hx hb hd ht (fun q => by have q := (of_lt ox okI_0).mp q; simpa [q] using k1) (fun q => by have q := mt (of_lt ox okI_0).mpr q; simpa [q] using k1)
    · exact lv_if_ge hx hb hd ht (fun q => by have q := (of_le okI_0 ox).mp q; simpa [q] using k1) (fun q => by have q := mt (of_le okI_0 ox).mpr q; simpa [q] using k1)
    · exact lv_if_gt hx hb hd ht (fun q => by have q := (of_lt okI_0 ox).mp q; simpa [q] using k1) (fun q => by have q := mt (of_lt okI_0 ox).mpr q; simpa [q] using k1)
    · exact lv_if_le hx hb hd ht (fun q => by have q := (of_le ox okI_0).mp q; simpa [q] using k1) (fun q => by have q := mt (of_le ox okI_0).mpr q; simpa [q] using k1)
  case if_icmp cd off =>
    cases len1 hlen
    obtain ⟨x, y, r, rfl, h2⟩ := q2_inv h; replace h := h2
    obtain ⟨t, ht, h⟩ := tg_inv h
    cases h
    have oy : okI y := okS_h hst
    have ox : okI x := okS_h (okS_t hst)
    have k1 := kk (okS_t (okS_t hst))
    cases cd <;> simp only [cnd] at k1
    · exact lv_icmp_eq hx hb hd ht (fun q => by have q := (of_eq ox oy).mp q; simpa [q] using k1) (fun q => by have q := mt (of_eq ox oy).mpr q; simpa [q] using k1)
    · exact lv_icmp_ne hx hb hd ht (fun q => by have q := mt (of_eq ox oy).mpr q; simpa [q] using k1) (fun q => by have q := (of_eq ox oy).mp q; simpa [q] using k1)
    · exact lv_icmp_lt hx hb hd ht (fun q => by have q := (of_lt ox oy).mp q; simpa [q] using k1) (fun q => by have q := mt (of_lt ox oy).mpr q; simpa [q] using k1)
    · exact lv_icmp_ge hx hb hd ht (fun q => by have q := (of_le oy ox).mp q; simpa [q] using k1) (fun q => by have q := mt (of_le oy ox).mpr q; simpa [q] using k1)
    · exact lv_icmp_gt hx hb hd ht (fun q => by have q := (of_lt oy ox).mp q; simpa [q] using k1) (fun q => by have q := mt (of_lt oy ox).mpr q; simpa [q] using k1)
    · exact lv_icmp_le hx hb hd ht (fun q => by have q := (of_le ox oy).mp q; simpa [q] using k1) (fun q => by have q := mt (of_le ox oy).mpr q; simpa [q] using k1)
  case ifnonnull off =>
    cases len1 hlen
    split at h
    · cases h
      exact lv_ifnonnullN hx hb hd (kk (okS_t hst))
    · obtain ⟨t, ht, h⟩ := tg_inv h
      cases h
      exact lv_ifnonnull hx hb hd ht (kk (okS_t hst))
    · cases h
  case ifnull off =>
    cases len1 hlen
    split at h
    · obtain ⟨t, ht, h⟩ := tg_inv h
      cases h
      exact lv_ifnullN hx hb hd ht (kk (okS_t hst))
    · cases h
      exact lv_ifnull hx hb hd (kk (okS_t hst))
    · cases h
  case tableswitch dflt lo hi offs =>
    obtain ⟨x, r, rfl, h2⟩ := q1_inv h; replace h := h2
    have ox : okI x := okS_h hst
    have ex : (Int32.ofInt x).toInt = x := toInt_ok ox
    split at h
    · rename_i hq
      obtain ⟨t, ht, h⟩ := tg_inv h
      cases h
      exact lv_tableOut (x := Int32.ofInt x) hx hb hd (by rw [ex]; exact hq) ht (kk (okS_t hst))
    · rename_i hq
      split at h
      · rename_i off ho
        obtain ⟨t, ht, h⟩ := tg_inv h
        cases h
        exact lv_tableIn (x := Int32.ofInt x) hx hb hd (by rw [ex]; omega) (by rw [ex]; omega) (by rw [ex]; exact ho) ht (kk (okS_t hst))
      · cases h
end SB
end
section
/-! the heap: the world of the pure machine, and its steps -/
def rfv (b base : Nat) (f : Option (Option Nat)) : Value := match f with | some (some r) => .ref (av b base r) | _ => .null
def fv1 (b base : Nat) (x : Int) (f : Option (Option Nat)) : Value := match f with | none => .int (Int32.ofInt x) | some none => .null | some (some r) => .ref (av b base r)
def wat (D : va_G) (cI cZ cV : ClassId) (b base : Nat) (k : Nat) (s : PS) (row : Nat → Int) (H : Heap) : Prop :=
  if s.1 = 8 then H[base + k]? = some (arrV cI s.2.1 fun i => .int (Int32.ofInt (row i)))
  else if s.1 = 9 then H[base + k]? = some (arrV cZ s.2.1 fun i => .int (Int32.ofInt (row i)))
  else if s.1 = 10 then H[base + k]? = some (arrV cV s.2.1 fun i => rfv b base (s.2.2.getD i none))
  else s.1 < 8 ∧ s.2.2.length = fN s.1 ∧ t_OB (base + k) (D.1 s.1) (fN s.1) (D.2 s.1) H (fun j => fv1 b base (row j) (s.2.2.getD j none))
def pw (D : va_G) (cI cZ cV : ClassId) (b base L : Nat) (xs : Nat → Int32) (sh : List PS) (M : PM) (H : Heap) : Prop :=
  H.size = base + sh.length ∧ (∀ k s, ¬ k = 0 → sh[k]? = some s → wat D cI cZ cV b base k s (M k) H) ∧ (∃ L0, sh[0]? = some (11, L, L0)) ∧ (∀ i, i < L → M 0 i = (xs i).toInt) ∧ okM M ∧ okH sh
def Fx (D : va_G) (cI cZ cV : ClassId) (b base L : Nat) (xs : Nat → Int32) (d k : Nat) (p : Program) (R : Room) (s : State) (m : MethodId) (args : Array Value) (meth : Method) (c : Code) : Prop :=
  p.tables.exec = Jvm.exec ∧ c.code = cd k ∧ c.maxLocals = mx k ∧ s.vm.findClass (cn (oc k)) = some m.cls ∧ (∀ w ∈ gw, w.before args s = true) ∧ d ≤ R.frames ∧ 40 * d ≤ R.locals ∧ (kd k = 2 → meth.name = "<init>") ∧ Kst D cI cZ cV s ∧ va_X b L xs s s.heap ∧ b ≤ base ∧ base < s.heap.size
abbrev pA (base : Nat) : Nat → Prop := fun q => base < q
def psz (s : PS) : Nat := if s.1 < 8 then fN s.1 else s.2.1
def zs (sh : List PS) : Nat := (sh.map psz).sum
theorem wat_kept {D : va_G} {cI cZ cV : ClassId} {b base k : Nat} {s : PS} {row : Nat → Int} {H H1 : Heap} (h : wat D cI cZ cV b base k s row H) (hq : H1[base + k]? = H[base + k]?) : wat D cI cZ cV b base k s row H1 := by
  unfold wat at h ⊢
  split
  · rename_i h8; rw [if_pos h8] at h; rw [hq]; exact h
  · rename_i h8; rw [if_neg h8] at h
    split
    · rename_i h9; rw [if_pos h9] at h; rw [hq]; exact h
    · rename_i h9; rw [if_neg h9] at h
      split
      · rename_i h10; rw [if_pos h10] at h; rw [hq]; exact h
      · rename_i h10; rw [if_neg h10] at h
        exact ⟨h.1, h.2.1, h.2.2.kept hq⟩
theorem wat_obj {D : va_G} {cI cZ cV : ClassId} {b base k c : Nat} {s : PS} {row : Nat → Int} {H : Heap} (hc : s.1 = c) (h8 : c < 8) (h : wat D cI cZ cV b base k s row H) : s.2.2.length = fN c ∧ t_OB (base + k) (D.1 c) (fN c) (D.2 c) H (fun j => fv1 b base (row j) (s.2.2.getD j none)) := by
  unfold wat at h
  rw [if_neg (by omega), if_neg (by omega), if_neg (by omega)] at h
  subst hc
  exact h.2
theorem wat_of {D : va_G} {cI cZ cV : ClassId} {b base k c : Nat} {s : PS} {row : Nat → Int} {H : Heap} (hc : s.1 = c) (h8 : c < 8) (hl : s.2.2.length = fN c) (h : t_OB (base + k) (D.1 c) (fN c) (D.2 c) H (fun j => fv1 b base (row j) (s.2.2.getD j none))) : wat D cI cZ cV b base k s row H := by
  unfold wat
  rw [if_neg (by omega), if_neg (by omega), if_neg (by omega)]
  subst hc
  exact ⟨h8, hl, h⟩
theorem pw_upd {D : va_G} {cI cZ cV : ClassId} {b base L : Nat} {xs : Nat → Int32} {sh sh' : List PS} {M M' : PM} {H H1 : Heap} {a : Nat} {s' : PS} (hw : pw D cI cZ cV b base L xs sh M H) (ha : ¬ a = 0) (hlt : a < sh.length) (hsh : sh' = sh.set a s') (hz : H1.size = H.size) (oq : ∀ q : Nat, q ≠ base + a → H1[q]? = H[q]?)
    (he : wat D cI cZ cV b base a s' (M' a) H1) (hM : ∀ k, k ≠ a → M' k = M k) (hok : okM M') (hH : s'.2.1 < 2147483648) : pw D cI cZ cV b base L xs sh' M' H1 := by
  obtain ⟨h1, h2, ⟨L0, h3⟩, h4, h5, h6⟩ := hw
  subst hsh
  refine ⟨by rw [hz, List.length_set]; exact h1, ?_, ⟨L0, by rw [List.getElem?_set_ne ha]; exact h3⟩, fun i hi => by rw [hM 0 (fun q => ha q.symm)]; exact h4 i hi, hok, ?_⟩
  · intro k s hk hs
    by_cases hka : a = k
    · subst hka
      rw [List.getElem?_set_self hlt] at hs
      cases hs
      exact he
    · rw [List.getElem?_set_ne hka] at hs
      rw [hM k (fun q => hka q.symm)]
      exact wat_kept (h2 k s hk hs) (oq _ (by omega))
  · intro s hs
    rcases List.mem_or_eq_of_mem_set hs with q | q
    · exact h6 s q
    · rw [q]; exact hH
theorem pw_push {D : va_G} {cI cZ cV : ClassId} {b base L : Nat} {xs : Nat → Int32} {sh : List PS} {M : PM} {H H1 : Heap} {s' : PS} (hw : pw D cI cZ cV b base L xs sh M H) (hne : ¬ sh.length = 0) (hz : H1.size = H.size + 1) (oq : ∀ q : Nat, q < H.size → H1[q]? = H[q]?)
    (he : wat D cI cZ cV b base sh.length s' (fun _ => 0) H1) (hH : s'.2.1 < 2147483648) : pw D cI cZ cV b base L xs (sh ++ [s']) (setR M sh.length fun _ => 0) H1 := by
  obtain ⟨h1, h2, ⟨L0, h3⟩, h4, h5, h6⟩ := hw
  refine ⟨by rw [hz, List.length_append, List.length_singleton]; omega, ?_, ⟨L0, by rw [List.getElem?_append_left (by omega)]; exact h3⟩, fun i hi => ?_, ?_, ?_⟩
  · intro k s hk hs
    by_cases hkl : k < sh.length
    · rw [List.getElem?_append_left hkl] at hs
      have e1 : setR M sh.length (fun _ => 0) k = M k := by
        funext j
        simp only [setR]
        rw [if_neg (by omega)]
      rw [e1]
      exact wat_kept (h2 k s hk hs) (oq _ (by omega))
    · rw [List.getElem?_append_right (by omega)] at hs
      have hz2 : k - sh.length < 1 := (List.getElem?_eq_some_iff.mp hs).1
      have hk2 : k = sh.length := by omega
      subst hk2
      simp only [Nat.sub_self, List.getElem?_cons_zero] at hs
      cases hs
      have e1 : setR M sh.length (fun _ => 0) sh.length = fun _ => 0 := by
        funext j
        simp only [setR, if_pos]
      rw [e1]
      exact he
  · simp only [setR]
    rw [if_neg (by omega)]
    exact h4 i hi
  · intro a i
    simp only [setR]
    split
    · exact okI_0
    · exact h5 a i
  · intro s hs
    rcases List.mem_append.mp hs with q | q
    · exact h6 s q
    · rw [List.mem_singleton.mp q]; exact hH
theorem okM_set {M : PM} {a i : Nat} {x : Int} (h : okM M) (hx : okI x) : okM (setC M a i x) := by
  intro b j
  simp only [setC]
  split
  · exact hx
  · exact h b j
theorem setC_ne {M : PM} {a i : Nat} {x : Int} {k : Nat} (h : k ≠ a) : setC M a i x k = M k := by
  funext j
  simp only [setC]
  rw [if_neg (fun q => h q.1)]
theorem vin {x : Int} {n : Nat} (hx : okI x) (h0 : 0 ≤ x) (h1 : x < n) : vp_in (Int32.ofInt x) n ∧ (Int32.ofInt x).toNatClampNeg = x.toNat := by
  have e1 : (Int32.ofInt x).toNatClampNeg = x.toNat := by rw [← Int32.toNat_toInt, toInt_ok hx]
  refine ⟨?_, e1⟩
  rintro (q | q)
  · have := (of_lt hx okI_0).mp q
    omega
  · rw [e1] at q
    omega
theorem tyOf {t : Nat} {o : Option FieldType} (h : fTag t o = true) : (t = 0 → o = some .int) ∧ (t = 1 → o = some .boolean) ∧ (t = 2 → (∃ n, o = some (.object n)) ∨ ∃ n, o = some (.array n)) := by
  cases o with
  | none => cases h
  | some ty =>
    cases ty <;> simp [fTag] at h <;> subst h <;> refine ⟨fun q => ?_, fun q => ?_, fun q => ?_⟩ <;> first | (cases q; done) | rfl | exact Or.inl ⟨_, rfl⟩ | exact Or.inr ⟨_, rfl⟩
section SH
variable {p : Program} {l : Launch} {e : Env} {R : Room} {s : State} {m : MethodId} {args : Array Value} {below : List Frame} {meth : Method} {c : Code} {H : Heap} {locs : List Loc} {cells slots : Nat} {Q : State → Prop} {pc : Nat} {ls : Array Slot}
variable {D : va_G} {cI cZ cV : ClassId} {b base L : Nat} {xs : Nat → Int32} {d k : Nat} {sh sh' : List PS} {M M' : PM} {rest : List Value}
theorem pg_get {a : Nat} {v : PV} {q : FTy} (F : Fx D cI cZ cV b base L xs d k p R s m args meth c) (hw : pw D cI cZ cV b base L xs sh M H) (hq : q ∈ FR) (ho : q.1 = oc k) (hg : getf sh M a q.2.2.1 q.2.2.2.1 = some v) (hd : decode (cd k) pc = .ok (.getfield q.2.1, 3))
    (kk : okv v → W p l e R s m args below meth c H locs cells slots Q (F0 m (pc + 3) ls (cv b base v :: rest))) : W p l e R s m args below meth c H locs cells slots Q (F0 m pc ls (.ref (av b base a) :: rest)) := by
  obtain ⟨hx, hb, hml, hown, hts, -, -, -, hK, -⟩ := F
  obtain ⟨f1, f2, f3, f4, f5, f6⟩ := FR_ok q hq
  unfold getf at hg
  split at hg
  · cases hg
  rename_i ha
  split at hg
  · rename_i c0 n0 L0 hs
    split at hg
    · rename_i hc
      obtain ⟨hc, -⟩ := hc
      obtain ⟨w1, w2⟩ := wat_obj (c := q.2.2.1) hc f2 (hw.2.1 a _ ha hs)
      obtain ⟨cell, q1, q2, q3, q4⟩ := w2
      obtain ⟨hS, hfc, kC, hkC, hkind⟩ := hK.1.1 q.2.2.1 _ (cl_at f2)
      obtain ⟨cf, kf, fi, f, hi, hsl⟩ := hS q.2.2.2.1 f3
      have hfac := u_facts hfc hkC (u_lays hts (cl_in _ f2) f3) hi
      have hv2 : fv1 b base (M a q.2.2.2.1) (L0.getD q.2.2.2.1 none) = cv b base v ∧ okv v := by
        rw [List.getD_eq_getElem?_getD]
        cases hL : L0[q.2.2.2.1]? with
        | none => rw [hL] at hg; cases hg
        | some f0 =>
          rw [hL] at hg
          cases f0 with
          | none => cases hg; exact ⟨rfl, hw.2.2.2.2.1 _ _⟩
          | some f0 => cases f0 <;> (cases hg; exact ⟨rfl, trivial⟩)
      have hslot : cell.slots[f.slot]? = some (cv b base v) := by rw [hsl, q4 _ f3]; exact congrArg some hv2.1
      have hav : av b base a = base + a := by unfold av; rw [if_neg ha]
      rw [hav]
      have hi' : s.fieldFound? (cn q.2.2.1) (fT q.2.2.1 q.2.2.2.1).2.1 (fT q.2.2.1 q.2.2.2.1).2.2.1 = some (cf, kf, fi, f) := by rw [← f4]; exact hi
      have hword := Kst_word hts hK (FR_w q hq)
      unfold fWord at hword
      split at hword
      · exact va_Wgetf hx hb (by rw [ho]; exact hown) hword hi' hfac.1 q1 (by rw [q3]; exact fun h => by cases h) hslot rfl rfl hd (kk hv2.2)
      · exact W.getf hx hb (by rw [ho]; exact hown) hword hi' hfac.1 q1 (by rw [q3]; exact fun h => by cases h) hslot rfl rfl hd (kk hv2.2)
    · cases hg
  · cases hg
theorem pg_apart {c0 : Nat} (hK : Kst D cI cZ cV s) (hts : ∀ w ∈ gw, w.before args s = true) (hc : c0 < 8) : ∀ x y, x < fN c0 → y < fN c0 → x ≠ y → (D.2 c0) x ≠ (D.2 c0) y := by
  refine va_apart (own := cn c0) hts (cl_in c0 hc) (fun k => (parseFieldDescriptor (fT c0 k).2.2.1).getD .int) (fun k hk => ?_) (cl_nm c0 hc) hK.1 (cl_at hc)
  have := cl_ty c0 hc k hk
  cases h : parseFieldDescriptor (fT c0 k).2.2.1 with
  | none => rw [h] at this; cases this
  | some x => rfl
/-- a field's store in general: what it takes of the machine -/
theorem pg_put {a j : Nat} {c0 n0 : Nat} {L0 L1 : List (Option (Option Nat))} {v : Value} {q : FTy} {ty : FieldType} (F : Fx D cI cZ cV b base L xs d k p R s m args meth c) (hw : pw D cI cZ cV b base L xs sh M H) (hS0 : va_S (pA base) s.heap H locs) (hq : q ∈ FR) (ho : q.1 = oc k) (hc : c0 = q.2.2.1) (hj : j = q.2.2.2.1)
    (hfin : q.2.2.2.2.2.2.2 = false ∨ (q.2.2.2.2.2.2.2 = true ∧ q.2.2.2.2.1 = false ∧ isIni k = true ∧ q.2.2.1 = oc k)) (hd0 : parseFieldDescriptor (fT q.2.2.1 q.2.2.2.1).2.2.1 = some ty) (hn : narrow ty v = v) (hfit : fits ty v = true)
    (ha : ¬ a = 0) (hs : sh[a]? = some (c0, n0, L0)) (hsh : sh' = sh.set a (c0, n0, L1)) (hL : L1.length = L0.length) (hM : ∀ z, z ≠ a → M' z = M z) (hok : okM M') (hV : ∀ t, t < fN c0 → updV (fun t => fv1 b base (M a t) (L0.getD t none)) j v t = fv1 b base (M' a t) (L1.getD t none))
    (hd : decode (cd k) pc = .ok (.putfield q.2.1, 3))
    (kk : ∀ (H' : Heap) (locs' : List Loc), pw D cI cZ cV b base L xs sh' M' H' → va_S (pA base) s.heap H' locs' → W p l e R s m args below meth c H' locs' cells slots Q (F0 m (pc + 3) ls rest)) : W p l e R s m args below meth c H locs cells slots Q (F0 m pc ls (v :: .ref (av b base a) :: rest)) := by
  obtain ⟨hx, hb, hml, hown, hts, -, -, hin, hK, -⟩ := F
  obtain ⟨f1, f2, f3, f4, f5, f6⟩ := FR_ok q hq
  subst hc; subst hj
  obtain ⟨w1, w2⟩ := wat_obj (c := q.2.2.1) rfl f2 (hw.2.1 a _ ha hs)
  obtain ⟨cell, q1, q2, q3, q4⟩ := w2
  obtain ⟨hS, hfc, kC, hkC, hkind⟩ := hK.1.1 q.2.2.1 _ (cl_at f2)
  obtain ⟨cf, kf, fi, f, hi, hsl⟩ := hS q.2.2.2.1 f3
  have hlays := u_lays hts (cl_in _ f2) f3
  have hfac := u_facts hfc hkC hlays hi
  have hap := pg_apart hK hts f2
  have hav : av b base a = base + a := by unfold av; rw [if_neg ha]
  rw [hav]
  have hi' : s.fieldFound? (cn q.2.2.1) (fT q.2.2.1 q.2.2.2.1).2.1 (fT q.2.2.1 q.2.2.2.1).2.2.1 = some (cf, kf, fi, f) := by rw [← f4]; exact hi
  have hlay := hts _ (cl_in _ f2 _ (u_in_lay f3))
  unfold u_lay at hlay
  have hword := Kst_word hts hK (FR_w q hq)
  unfold fWord at hword
  have hlt : f.slot < cell.slots.size := by rw [hsl]; exact k2_hasslot (q4 _ f3)
  have hal : a < sh.length := (List.getElem?_eq_some_iff.mp hs).1
  have hcont : ∀ H' : Heap, H'[base + a]? = some (cell.setSlot f.slot v) → H'.size = H.size → (∀ q, q ≠ base + a → H'[q]? = H[q]?) → W p l e R s m args below meth c H' (locs ++ [⟨base + a, f.slot⟩]) cells slots Q (F0 m (pc + 3) ls rest) := by
    intro H' e1 e2 e3
    rw [hsl] at e1
    refine kk H' _ (pw_upd hw ha hal hsh e2 e3 (wat_of (c := q.2.2.1) rfl f2 (hL.trans w1) ?_) hM hok (show n0 < 2147483648 from hw.2.2.2.2.2 _ (List.mem_of_getElem? hs))) (hS0.put e2 e3 (show base < base + a by omega))
    exact t_OB.to (V := updV (fun t => fv1 b base (M a t) (L0.getD t none)) q.2.2.2.1 v) ⟨_, e1, q2, q3, t_set q4 hap f3 v⟩ hV
  rcases hfin with hfin | ⟨hfin, hnest, hini, hoc⟩
  · rw [if_neg (by rw [f5, hfin]; decide)] at hlay
    have h6 := u_store hfc hkC hkind hlay hi hd0 hn hfit
    split at hword
    · exact va_WputK hx hb (f := f) (by rw [ho]; exact hown) hword hi' hfac.1 (by rw [q2]; exact h6) q1 q3 hlt rfl rfl hd hcont
    · exact W.putK hx hb (f := f) ⟨by rw [ho]; exact hown, hword, ⟨_, _, _, hi'⟩, hfac.1⟩ (by rw [q2]; exact h6) q1 q3 hlt rfl rfl hd hcont
  · rw [if_pos (by rw [f5, hfin])] at hlay
    rw [if_neg (by rw [hnest]; decide)] at hword
    have hcf : m.cls = cf := by
      obtain ⟨_, _, c', _, _, _, -, -, hf', -, -, -, hown2, -⟩ := Cond.laysFinal_spec hlay
      have e1 : c' = cf := by have := hi.symm.trans hf'; simp at this; exact this.1.symm
      rw [f4, hoc] at hown2
      rw [← e1]; exact Option.some.inj (hown.symm.trans hown2)
    have h6 := u_fits hfc hkC hkind (Or.inr hlay) hi hd0 hn hfit
    exact W.putFinK hx hb (by rw [ho]; exact hown) hword hi' hfac.1 hcf (hin (by simpa [isIni] using hini)) (by rw [q2]; exact h6) q1 q3 hlt rfl rfl hd hcont
end SH
end
section
/-! heap instructions, Math and Object.<init> -/
theorem n98 : ¬ (9 : Nat) = 8 := by decide
theorem nA8 : ¬ (10 : Nat) = 8 := by decide
theorem nA9 : ¬ (10 : Nat) = 9 := by decide
theorem find_FR {own idx : Nat} {q : FTy} (h : fieldOf own idx = some q) : q ∈ FR ∧ q.1 = own ∧ q.2.1 = idx := by
  unfold fieldOf at h
  have h1 := List.find?_some h
  simp only [Bool.and_eq_true, beq_iff_eq] at h1
  exact ⟨List.mem_of_find?_eq_some h, h1.1, h1.2⟩
theorem find_MR {own idx : Nat} {q : RTy} (h : methOf own idx = some q) : q ∈ MR ∧ q.1 = own ∧ q.2.1 = idx := by
  unfold methOf at h
  have h1 := List.find?_some h
  simp only [Bool.and_eq_true, beq_iff_eq] at h1
  exact ⟨List.mem_of_find?_eq_some h, h1.1, h1.2⟩
theorem find_p {α : Type} {l : List (Nat × Nat × α)} {own idx : Nat} {q : Nat × Nat × α} (h : l.find? (fun q => q.1 == own && q.2.1 == idx) = some q) : q ∈ l ∧ q.1 = own ∧ q.2.1 = idx := by
  have h1 := List.find?_some h
  simp only [Bool.and_eq_true, beq_iff_eq] at h1
  exact ⟨List.mem_of_find?_eq_some h, h1.1, h1.2⟩
theorem obind {α β : Type} {x : Option α} {f : α → Option β} {z : β} (h : x.bind f = some z) : ∃ y, x = some y ∧ f y = some z := by
  cases x with
  | none => cases h
  | some y => exact ⟨y, rfl, h⟩
theorem mSum_cv {b base : Nat} {r : List PV} : ((r.map (cv b base)).map fun v => v.category).sum = mSum r := by
  unfold mSum
  rw [List.map_map]
  congr 1
  apply List.map_congr_left
  intro v _
  rcases v with x | x | x
  · rfl
  · rfl
  · cases x <;> rfl
section SI
variable {p : Program} {l : Launch} {e : Env} {R : Room} {s : State} {m : MethodId} {args : Array Value} {below : List Frame} {meth : Method} {c : Code} {H : Heap} {locs : List Loc} {cells slots : Nat} {Q : State → Prop} {pc : Nat} {ls : Array Slot}
variable {D : va_G} {cI cZ cV : ClassId} {b base L : Nat} {xs : Nat → Int32} {d k : Nat} {sh sh' : List PS} {M M' : PM} {rest : List Value}
theorem pi_putI {a j : Nat} {x : Int} {q : FTy} (F : Fx D cI cZ cV b base L xs d k p R s m args meth c) (hw : pw D cI cZ cV b base L xs sh M H) (hS0 : va_S (pA base) s.heap H locs) (hq : q ∈ FR) (ho : q.1 = oc k) (hfin : q.2.2.2.2.2.2.2 = false) (htag : q.2.2.2.2.2.2.1 < 2) (hok : okI x)
    (hp : putI sh M a q.2.2.1 q.2.2.2.1 (q.2.2.2.2.2.2.1 == 1) x = some M') (hd : decode (cd k) pc = .ok (.putfield q.2.1, 3))
    (kk : ∀ (H' : Heap) (locs' : List Loc), pw D cI cZ cV b base L xs sh M' H' → va_S (pA base) s.heap H' locs' → W p l e R s m args below meth c H' locs' cells slots Q (F0 m (pc + 3) ls rest)) : W p l e R s m args below meth c H locs cells slots Q (F0 m pc ls (.int (Int32.ofInt x) :: .ref (av b base a) :: rest)) := by
  obtain ⟨f1, f2, f3, f4, f5, f6⟩ := FR_ok q hq
  unfold putI at hp
  split at hp
  · cases hp
  rename_i ha
  split at hp
  · rename_i c0 n0 L0 hs
    split at hp
    · rename_i hc
      obtain ⟨hc, h8, hL, hb⟩ := hc
      cases hp
      have hsame : sh = sh.set a (c0, n0, L0) := by
        apply List.ext_getElem?
        intro i
        by_cases hi : a = i
        · subst hi
          rw [List.getElem?_set_self (List.getElem?_eq_some_iff.mp hs).1, hs]
        · rw [List.getElem?_set_ne hi]
      have hV : ∀ t, t < fN c0 → updV (fun t => fv1 b base (M a t) (L0.getD t none)) q.2.2.2.1 (.int (Int32.ofInt x)) t = fv1 b base (setC M a q.2.2.2.1 x a t) (L0.getD t none) := by
        intro t ht
        unfold updV
        by_cases hj : t = q.2.2.2.1
        · subst hj
          rw [if_pos rfl, List.getD_eq_getElem?_getD, hL]
          show _ = Value.int (Int32.ofInt (setC M a _ x a _))
          simp only [setC, and_self, if_pos]
        · rw [if_neg hj]
          have e1 : setC M a q.2.2.2.1 x a t = M a t := by
            simp only [setC]
            rw [if_neg (fun z => hj z.2)]
          rw [e1]
      have ht := tyOf f6
      rcases (show q.2.2.2.2.2.2.1 = 0 ∨ q.2.2.2.2.2.2.1 = 1 by omega) with h0 | h1
      · exact pg_put F hw hS0 hq ho hc rfl (Or.inl hfin) (ht.1 h0) rfl rfl ha hs hsame rfl (fun z hz => setC_ne hz) (okM_set hw.2.2.2.2.1 hok) hV hd kk
      · have hx01 : x = 0 ∨ x = 1 := by
          rcases hb with hb | hb
          · rw [h1] at hb; cases hb
          · exact hb
        exact pg_put F hw hS0 hq ho hc rfl (Or.inl hfin) (ht.2.1 h1) (by rcases hx01 with rfl | rfl <;> decide) (by rcases hx01 with rfl | rfl <;> decide) ha hs hsame rfl (fun z hz => setC_ne hz) (okM_set hw.2.2.2.2.1 hok) hV hd kk
    · cases hp
  · cases hp
theorem pi_putR {a r : Nat} {q : FTy} (F : Fx D cI cZ cV b base L xs d k p R s m args meth c) (hw : pw D cI cZ cV b base L xs sh M H) (hS0 : va_S (pA base) s.heap H locs) (hq : q ∈ FR) (ho : q.1 = oc k) (hfin : q.2.2.2.2.2.2.2 = true ∧ q.2.2.2.2.1 = false ∧ isIni k = true ∧ q.2.2.1 = oc k) (htag : q.2.2.2.2.2.2.1 = 2)
    (hp : putR sh a q.2.2.1 q.2.2.2.1 r = some sh') (hd : decode (cd k) pc = .ok (.putfield q.2.1, 3))
    (kk : ∀ (H' : Heap) (locs' : List Loc), pw D cI cZ cV b base L xs sh' M H' → va_S (pA base) s.heap H' locs' → W p l e R s m args below meth c H' locs' cells slots Q (F0 m (pc + 3) ls rest)) : W p l e R s m args below meth c H locs cells slots Q (F0 m pc ls (.ref (av b base r) :: .ref (av b base a) :: rest)) := by
  obtain ⟨f1, f2, f3, f4, f5, f6⟩ := FR_ok q hq
  unfold putR at hp
  split at hp
  · cases hp
  rename_i ha
  split at hp
  · rename_i c0 n0 L0 hs
    split at hp
    · rename_i hc
      obtain ⟨hc, h8⟩ := hc
      split at hp
      · rename_i f0 hL
        cases hp
        have hlt : q.2.2.2.1 < L0.length := (List.getElem?_eq_some_iff.mp hL).1
        have hV : ∀ t, t < fN c0 → updV (fun t => fv1 b base (M a t) (L0.getD t none)) q.2.2.2.1 (.ref (av b base r)) t = fv1 b base (M a t) ((L0.set q.2.2.2.1 (some (some r))).getD t none) := by
          intro t ht
          unfold updV
          by_cases hj : t = q.2.2.2.1
          · subst hj
            rw [if_pos rfl, List.getD_eq_getElem?_getD, List.getElem?_set_self hlt]
            rfl
          · rw [if_neg hj]
            show fv1 b base (M a t) (L0.getD t none) = _
            rw [List.getD_eq_getElem?_getD, List.getD_eq_getElem?_getD, List.getElem?_set_ne (fun z => hj z.symm)]
        have hnf : ∀ ty, narrow ty (.ref (av b base r)) = .ref (av b base r) := fun ty => by cases ty <;> rfl
        rcases (tyOf f6).2.2 htag with ⟨n, hn⟩ | ⟨n, hn⟩
        · exact pg_put F hw hS0 hq ho hc rfl (Or.inr hfin) hn (hnf _) rfl (fun z => ha (Or.inl z)) hs rfl (by rw [List.length_set]) (fun _ _ => rfl) hw.2.2.2.2.1 hV hd kk
        · exact pg_put F hw hS0 hq ho hc rfl (Or.inr hfin) hn (hnf _) rfl (fun z => ha (Or.inl z)) hs rfl (by rw [List.length_set]) (fun _ _ => rfl) hw.2.2.2.2.1 hV hd kk
      · cases hp
    · cases hp
  · cases hp
theorem pi_iald {a : Nat} {i : Int} {v : PV} (F : Fx D cI cZ cV b base L xs d k p R s m args meth c) (hw : pw D cI cZ cV b base L xs sh M H) (hS0 : va_S (pA base) s.heap H locs) (hok : okI i) (hg : aget sh M a i = some v) (hd : decode (cd k) pc = .ok (.iaload, 1))
    (kk : okv v → W p l e R s m args below meth c H locs cells slots Q (F0 m (pc + 1) ls (cv b base v :: rest))) : W p l e R s m args below meth c H locs cells slots Q (F0 m pc ls (.int (Int32.ofInt i) :: .ref (av b base a) :: rest)) := by
  obtain ⟨hx, hb, hml, hown, hts, -, -, hin, hK, hX, hbb, hbs⟩ := F
  unfold aget at hg
  split at hg
  · rename_i c0 n0 L0 hs
    split at hg
    · rename_i hc
      obtain ⟨h0, h1, h2⟩ := hc
      cases hg
      obtain ⟨v1, v2⟩ := vin hok h0 h1
      have k1 := kk (hw.2.2.2.2.1 _ _)
      rcases h2 with ⟨rfl, rfl⟩ | ⟨ha, rfl⟩
      · obtain ⟨L1, hL1⟩ := hw.2.2.1
        rw [hs] at hL1
        cases hL1
        have e0 : av b base 0 = b := rfl
        rw [e0]
        have hlt : i.toNat < L := by omega
        have e1 : cv b base (.inl (M 0 i.toNat)) = .int (xs (Int32.ofInt i).toNatClampNeg) := by
          show Value.int _ = _
          rw [v2, hw.2.2.2.1 _ hlt, Int32.ofInt_toInt]
        rw [e1] at k1
        exact va_sld hx hb hX (Nat.lt_of_le_of_lt hbb hbs) (Nat.not_lt.mpr hbb) hS0 v1 hd k1
      · have hc := hw.2.1 a _ ha hs
        unfold wat at hc
        rw [if_pos rfl] at hc
        have hav : av b base a = base + a := by unfold av; rw [if_neg ha]
        rw [hav]
        have hlt : i.toNat < n0 := by omega
        refine W.iald (v := .int (Int32.ofInt (M a i.toNat))) hx hb hc ((hK.1.2 0 _ rfl).1 n0 _) (fun q => by cases q) ?_ ?_ rfl rfl hd k1
        · rw [arrV_size]; exact v1
        · rw [v2, arrV_read _ _ hlt]
    · cases hg
  · cases hg
theorem pi_zald {a : Nat} {i : Int} {v : PV} (F : Fx D cI cZ cV b base L xs d k p R s m args meth c) (hw : pw D cI cZ cV b base L xs sh M H) (hok : okI i) (hg : zget sh M a i = some v) (hd : decode (cd k) pc = .ok (.baload, 1))
    (kk : okv v → W p l e R s m args below meth c H locs cells slots Q (F0 m (pc + 1) ls (cv b base v :: rest))) : W p l e R s m args below meth c H locs cells slots Q (F0 m pc ls (.int (Int32.ofInt i) :: .ref (av b base a) :: rest)) := by
  obtain ⟨hx, hb, hml, hown, hts, -, -, hin, hK, hX, hbb, hbs⟩ := F
  unfold zget at hg
  split at hg
  · cases hg
  rename_i ha
  split at hg
  · rename_i c0 n0 L0 hs
    split at hg
    · rename_i hc
      obtain ⟨h0, h1, rfl⟩ := hc
      cases hg
      obtain ⟨v1, v2⟩ := vin hok h0 h1
      have k1 := kk (hw.2.2.2.2.1 _ _)
      have hc := hw.2.1 a _ ha hs
      unfold wat at hc
      rw [if_neg n98, if_pos rfl] at hc
      have hav : av b base a = base + a := by unfold av; rw [if_neg ha]
      rw [hav]
      have hlt : i.toNat < n0 := by omega
      refine W.zald (v := .int (Int32.ofInt (M a i.toNat))) hx hb hc ((hK.1.2 1 _ rfl).1 n0 _) (fun q => by cases q) ?_ ?_ rfl rfl hd k1
      · rw [arrV_size]; exact v1
      · rw [v2, arrV_read _ _ hlt]
    · cases hg
  · cases hg
theorem pi_aald {a : Nat} {i : Int} {v : PV} (F : Fx D cI cZ cV b base L xs d k p R s m args meth c) (hw : pw D cI cZ cV b base L xs sh M H) (hok : okI i) (hg : rget sh a i = some v) (hd : decode (cd k) pc = .ok (.aaload, 1))
    (kk : okv v → W p l e R s m args below meth c H locs cells slots Q (F0 m (pc + 1) ls (cv b base v :: rest))) : W p l e R s m args below meth c H locs cells slots Q (F0 m pc ls (.int (Int32.ofInt i) :: .ref (av b base a) :: rest)) := by
  obtain ⟨hx, hb, hml, hown, hts, -, -, hin, hK, hX, hbb, hbs⟩ := F
  unfold rget at hg
  split at hg
  · cases hg
  rename_i ha
  split at hg
  · rename_i c0 n0 L0 hs
    split at hg
    · rename_i hc
      obtain ⟨h0, h1, rfl⟩ := hc
      split at hg
      · rename_i r hr
        cases hg
        obtain ⟨v1, v2⟩ := vin hok h0 h1
        have k1 := kk trivial
        have hc := hw.2.1 a _ ha hs
        unfold wat at hc
        rw [if_neg nA8, if_neg nA9, if_pos rfl] at hc
        have hav : av b base a = base + a := by unfold av; rw [if_neg ha]
        rw [hav]
        have hlt : i.toNat < n0 := by omega
        refine W.aald (v := .ref (av b base r)) (ty := .object RX5) hx hb hc ((hK.1.2 2 _ rfl).1 n0 _) rfl (fun q => by cases q) ?_ ?_ rfl rfl hd k1
        · rw [arrV_size]; exact v1
        · rw [v2, arrV_read _ _ hlt, List.getD_eq_getElem?_getD, hr]
          rfl
      · cases hg
    · cases hg
  · cases hg
theorem pi_alen {a : Nat} {v : PV} (F : Fx D cI cZ cV b base L xs d k p R s m args meth c) (hw : pw D cI cZ cV b base L xs sh M H) (hS0 : va_S (pA base) s.heap H locs) (hg : alen sh a = some v) (hd : decode (cd k) pc = .ok (.arraylength, 1))
    (kk : okv v → W p l e R s m args below meth c H locs cells slots Q (F0 m (pc + 1) ls (cv b base v :: rest))) : W p l e R s m args below meth c H locs cells slots Q (F0 m pc ls (.ref (av b base a) :: rest)) := by
  obtain ⟨hx, hb, hml, hown, hts, -, -, hin, hK, hX, hbb, hbs⟩ := F
  unfold alen at hg
  split at hg
  · rename_i c0 n0 L0 hs
    have hn := hw.2.2.2.2.2 _ (List.mem_of_getElem? hs)
    simp only at hn
    split at hg
    · rename_i hc
      cases hg
      have k1 := kk (show okI _ from ⟨by omega, by omega⟩)
      have e2 : cv b base (.inl (n0 : Int)) = .int (Int32.ofNat n0) := by
        show Value.int (Int32.ofInt (n0 : Int)) = _
        rw [Int32.ofInt_eq_ofNat]
      rw [e2] at k1
      rcases hc with ⟨rfl, rfl⟩ | ⟨ha, hc⟩
      · obtain ⟨L1, hL1⟩ := hw.2.2.1
        rw [hs] at hL1
        cases hL1
        exact va_slen hx hb hX (Nat.lt_of_le_of_lt hbb hbs) (Nat.not_lt.mpr hbb) hS0 hd k1
      · have hav : av b base a = base + a := by unfold av; rw [if_neg ha]
        rw [hav]
        have hcc := hw.2.1 a _ ha hs
        unfold wat at hcc
        rcases hc with rfl | rfl | rfl
        · rw [if_pos rfl] at hcc
          exact W.alen (n := Int32.ofNat n0) hx hb hcc ((hK.1.2 0 _ rfl).1 n0 _) (by rw [arrV_size]) rfl rfl hd k1
        · rw [if_neg n98, if_pos rfl] at hcc
          exact W.alen (n := Int32.ofNat n0) hx hb hcc ((hK.1.2 1 _ rfl).1 n0 _) (by rw [arrV_size]) rfl rfl hd k1
        · rw [if_neg nA8, if_neg nA9, if_pos rfl] at hcc
          exact W.alen (n := Int32.ofNat n0) hx hb hcc ((hK.1.2 2 _ rfl).1 n0 _) (by rw [arrV_size]) rfl rfl hd k1
    · cases hg
  · cases hg
theorem set_same {sh : List PS} {a : Nat} {s0 : PS} (hs : sh[a]? = some s0) : sh = sh.set a s0 := by
  apply List.ext_getElem?
  intro i
  by_cases hi : a = i
  · subst hi
    rw [List.getElem?_set_self (List.getElem?_eq_some_iff.mp hs).1, hs]
  · rw [List.getElem?_set_ne hi]
theorem pi_iast {a : Nat} {i x : Int} (F : Fx D cI cZ cV b base L xs d k p R s m args meth c) (hw : pw D cI cZ cV b base L xs sh M H) (hS0 : va_S (pA base) s.heap H locs) (hok : okI i) (hokx : okI x) (hg : aput sh M a i x = some M') (hd : decode (cd k) pc = .ok (.iastore, 1))
    (kk : ∀ (H' : Heap) (locs' : List Loc), pw D cI cZ cV b base L xs sh M' H' → va_S (pA base) s.heap H' locs' → W p l e R s m args below meth c H' locs' cells slots Q (F0 m (pc + 1) ls rest)) : W p l e R s m args below meth c H locs cells slots Q (F0 m pc ls (.int (Int32.ofInt x) :: .int (Int32.ofInt i) :: .ref (av b base a) :: rest)) := by
  obtain ⟨hx, hb, hml, hown, hts, -, -, hin, hK, hX, hbb, hbs⟩ := F
  unfold aput at hg
  split at hg
  · cases hg
  rename_i ha
  split at hg
  · rename_i c0 n0 L0 hs
    split at hg
    · rename_i hc
      obtain ⟨h0, h1, rfl⟩ := hc
      cases hg
      obtain ⟨v1, v2⟩ := vin hok h0 h1
      have hc := hw.2.1 a _ ha hs
      unfold wat at hc
      rw [if_pos rfl] at hc
      have hav : av b base a = base + a := by unfold av; rw [if_neg ha]
      rw [hav]
      refine W.iast hx hb hc ((hK.1.2 0 _ rfl).1 n0 _) (fun q => by cases q) (by rw [arrV_size]; exact v1) rfl rfl hd fun H' e1 e2 e3 => ?_
      refine kk H' _ (pw_upd hw ha (List.getElem?_eq_some_iff.mp hs).1 (set_same hs) e2 e3 ?_ (fun z hz => setC_ne hz) (okM_set hw.2.2.2.2.1 hokx) (show n0 < 2147483648 from hw.2.2.2.2.2 _ (List.mem_of_getElem? hs))) (hS0.put e2 e3 (show base < base + a by omega))
      unfold wat
      rw [if_pos rfl, e1, arrV_store, v2]
      congr 2
      funext j
      simp only [updV, setC]
      by_cases hj : j = i.toNat
      · simp [hj]
      · simp [hj]
    · cases hg
  · cases hg
theorem pi_zast {a : Nat} {i x : Int} (F : Fx D cI cZ cV b base L xs d k p R s m args meth c) (hw : pw D cI cZ cV b base L xs sh M H) (hS0 : va_S (pA base) s.heap H locs) (hok : okI i) (hokx : okI x) (hg : zput sh M a i x = some M') (hd : decode (cd k) pc = .ok (.bastore, 1))
    (kk : ∀ (H' : Heap) (locs' : List Loc), pw D cI cZ cV b base L xs sh M' H' → va_S (pA base) s.heap H' locs' → W p l e R s m args below meth c H' locs' cells slots Q (F0 m (pc + 1) ls rest)) : W p l e R s m args below meth c H locs cells slots Q (F0 m pc ls (.int (Int32.ofInt x) :: .int (Int32.ofInt i) :: .ref (av b base a) :: rest)) := by
  obtain ⟨hx, hb, hml, hown, hts, -, -, hin, hK, hX, hbb, hbs⟩ := F
  unfold zput at hg
  split at hg
  · cases hg
  rename_i ha
  split at hg
  · rename_i c0 n0 L0 hs
    split at hg
    · rename_i hc
      obtain ⟨h0, h1, rfl, h01⟩ := hc
      cases hg
      obtain ⟨v1, v2⟩ := vin hok h0 h1
      have hc := hw.2.1 a _ ha hs
      unfold wat at hc
      rw [if_neg n98, if_pos rfl] at hc
      have hav : av b base a = base + a := by unfold av; rw [if_neg ha]
      rw [hav]
      have hnar : narrow .boolean (.int (Int32.ofInt x)) = .int (Int32.ofInt x) := by rcases h01 with rfl | rfl <;> decide
      refine W.zast hx hb hc ((hK.1.2 1 _ rfl).1 n0 _) (fun q => by cases q) (by rw [arrV_size]; exact v1) rfl rfl hd fun H' e1 e2 e3 => ?_
      refine kk H' _ (pw_upd hw ha (List.getElem?_eq_some_iff.mp hs).1 (set_same hs) e2 e3 ?_ (fun z hz => setC_ne hz) (okM_set hw.2.2.2.2.1 hokx) (show n0 < 2147483648 from hw.2.2.2.2.2 _ (List.mem_of_getElem? hs))) (hS0.put e2 e3 (show base < base + a by omega))
      unfold wat
      rw [if_neg n98, if_pos rfl, e1, hnar, arrV_store, v2]
      congr 2
      funext j
      simp only [updV, setC]
      by_cases hj : j = i.toNat
      · simp [hj]
      · simp [hj]
    · cases hg
  · cases hg
theorem pi_aast {a r : Nat} {i : Int} (F : Fx D cI cZ cV b base L xs d k p R s m args meth c) (hw : pw D cI cZ cV b base L xs sh M H) (hS0 : va_S (pA base) s.heap H locs) (hok : okI i) (hg : rput sh a i r = some sh') (hd : decode (cd k) pc = .ok (.aastore, 1))
    (kk : ∀ (H' : Heap) (locs' : List Loc), pw D cI cZ cV b base L xs sh' M H' → va_S (pA base) s.heap H' locs' → W p l e R s m args below meth c H' locs' cells slots Q (F0 m (pc + 1) ls rest)) : W p l e R s m args below meth c H locs cells slots Q (F0 m pc ls (.ref (av b base r) :: .int (Int32.ofInt i) :: .ref (av b base a) :: rest)) := by
  obtain ⟨hx, hb, hml, hown, hts, -, -, hin, hK, hX, hbb, hbs⟩ := F
  unfold rput at hg
  split at hg
  · cases hg
  rename_i har
  have ha : ¬ a = 0 := fun z => har (Or.inl z)
  have hr : ¬ r = 0 := fun z => har (Or.inr z)
  split at hg
  · rename_i c0 n0 L0 hs
    split at hg
    · rename_i hc
      obtain ⟨h0, h1, rfl, hlen⟩ := hc
      split at hg
      · rename_i n1 L1 hs1
        cases hg
        obtain ⟨v1, v2⟩ := vin hok h0 h1
        have hc := hw.2.1 a _ ha hs
        unfold wat at hc
        rw [if_neg nA8, if_neg nA9, if_pos rfl] at hc
        obtain ⟨w1, cellV, g1, g2, g3, -⟩ := wat_obj (c := 5) rfl (by decide) (hw.2.1 r _ hr hs1)
        have hav : av b base a = base + a := by unfold av; rw [if_neg ha]
        have hrv : av b base r = base + r := by unfold av; rw [if_neg hr]
        rw [hav, hrv]
        have hcls := (hK.1.1 5 _ (cl_at (c := 5) (by decide))).2
        obtain ⟨kA, comp, k1, k2, k3, -⟩ := (hK.1.2 2 _ rfl).2
        have hcomp : comp = D.1 5 := Option.some.inj (k3.symm.trans hcls.1)
        subst hcomp
        obtain ⟨kC, hkC, hkC2⟩ := hcls.2
        have hlt : i.toNat < n0 := by omega
        refine W.aast (cv := cellV) hx hb hc (fun q h => by cases h) (fun h => by cases h) k1 k2 rfl hkC ⟨fun q => v1 (Or.inl q), by rw [arrV_size, v2]; exact hlt⟩ g1 (fun q h => by rw [g3] at h; cases h) (by rw [g2]; exact hkC) (by rw [g2]; exact va_assign ⟨hcls.1, kC, hkC, hkC2⟩) rfl rfl hd fun H' e1 e2 e3 => ?_
        refine kk H' _ (pw_upd hw ha (List.getElem?_eq_some_iff.mp hs).1 rfl e2 e3 ?_ (fun z hz => rfl) hw.2.2.2.2.1 (show n0 < 2147483648 from hw.2.2.2.2.2 _ (List.mem_of_getElem? hs))) (hS0.put e2 e3 (show base < base + a by omega))
        unfold wat
        rw [if_neg nA8, if_neg nA9, if_pos rfl, e1, arrV_store, v2]
        congr 2
        funext j
        simp only [updV]
        by_cases hj : j = i.toNat
        · rw [if_pos hj, hj, List.getD_eq_getElem?_getD, List.getElem?_set_self hlen]
          show _ = Value.ref _
          rw [hrv]
        · rw [if_neg hj, List.getD_eq_getElem?_getD, List.getD_eq_getElem?_getD, List.getElem?_set_ne (fun z => hj z.symm)]
      · cases hg
    · cases hg
  · cases hg
end SI
end
section
/-! making objects; Math and Object.<init>; the heap's steps together -/
set_option maxRecDepth 100000 in
theorem cl_dv : ∀ c, c < 8 → ∀ k, k < fN c → (parseFieldDescriptor (fT c k).2.2.1).map defaultValue = some (match (dfl c).getD k none with | none => Value.int 0 | _ => Value.null) := by decide +kernel
theorem dfl_len : ∀ c, c < 8 → (dfl c).length = fN c ∧ ∀ f ∈ dfl c, f = none ∨ f = some none := by decide +kernel
theorem psz_new {c : Nat} (h : c < 8) : psz (c, 0, dfl c) = fN c := by unfold psz; rw [if_pos h]
theorem zs_app (sh : List PS) (s' : PS) : zs (sh ++ [s']) = zs sh + psz s' := by unfold zs; simp
theorem zs_set {sh : List PS} {a : Nat} {s0 s' : PS} (hs : sh[a]? = some s0) (h : psz s' = psz s0) : zs (sh.set a s') = zs sh := by
  unfold zs
  congr 1
  apply List.ext_getElem?
  intro i
  simp only [List.getElem?_map]
  by_cases hi : a = i
  · subst hi
    rw [List.getElem?_set_self (List.getElem?_eq_some_iff.mp hs).1, hs]
    simp [h]
  · rw [List.getElem?_set_ne hi]
theorem zs_set3 {sh : List PS} {a c0 n : Nat} {L0 L1 : List (Option (Option Nat))} (hs : sh[a]? = some (c0, n, L0)) : zs (sh.set a (c0, n, L1)) = zs sh := zs_set hs rfl
section SJ
variable {p : Program} {l : Launch} {e : Env} {R : Room} {s : State} {m : MethodId} {args : Array Value} {below : List Frame} {meth : Method} {c : Code} {H : Heap} {locs : List Loc} {cells slots : Nat} {Q : State → Prop} {pc : Nat} {ls : Array Slot}
variable {D : va_G} {cI cZ cV : ClassId} {b base L : Nat} {xs : Nat → Int32} {d k : Nat} {sh sh' : List PS} {M M' : PM} {rest : List Value}
theorem pj_new {q : Nat × Nat × Nat × Nat × Nat × Nat} (F : Fx D cI cZ cV b base L xs d k p R s m args meth c) (hw : pw D cI cZ cV b base L xs sh M H) (hS0 : va_S (pA base) s.heap H locs) (hq : q ∈ NC) (ho : q.1 = oc k) (h8 : q.2.2.1 < 8) (hne : ¬ sh.length = 0)
    (hc : cells + 1 ≤ R.cells) (hs : slots + fN q.2.2.1 ≤ R.slots) (hd : decode (cd k) pc = .ok (.new q.2.1, 3))
    (kk : ∀ (H' : Heap), pw D cI cZ cV b base L xs (sh ++ [(q.2.2.1, 0, dfl q.2.2.1)]) (setR M sh.length fun _ => 0) H' → va_S (pA base) s.heap H' locs → W p l e R s m args below meth c H' locs (cells + 1) (slots + fN q.2.2.1) Q (F0 m (pc + 3) ls (.ref (av b base sh.length) :: rest))) : W p l e R s m args below meth c H locs cells slots Q (F0 m pc ls rest) := by
  obtain ⟨hx, hb, hml, hown, hts, -, -, hin, hK, hX, hbb, hbs⟩ := F
  obtain ⟨n1, n2, n3⟩ := NC_w q hq
  have hKn := hK.1.1 q.2.2.1 _ (cl_at h8)
  have hav : av b base sh.length = base + sh.length := by unfold av; rw [if_neg hne]
  rw [hav] at kk
  refine W.newcK hx hb (by rw [ho]; exact hown) (hts _ n1) (hts _ n2) (hts _ n3) rfl hd hc hs hKn.2.1 hw.1 fun H1 kC hkC e1 z1 o1 => ?_
  refine kk H1 (pw_push hw hne (by rw [z1, hw.1]) (fun z hz => o1 z (by rw [← hw.1]; exact hz)) (wat_of (c := q.2.2.1) rfl h8 (dfl_len _ h8).1 ?_) (by show (0 : Nat) < _; decide)) ⟨?_, ?_, hS0.2.2⟩
  · refine (u_born (fun k => (parseFieldDescriptor (fT q.2.2.1 k).2.2.1).getD .int) hts (cl_in _ h8) hKn hkC e1 (fun k hk => ?_)).to fun j hj => ?_
    · have := cl_ty _ h8 k hk
      cases h : parseFieldDescriptor (fT q.2.2.1 k).2.2.1 with
      | none => rw [h] at this; cases this
      | some x => rfl
    · have h1 := cl_dv _ h8 j hj
      cases h : parseFieldDescriptor (fT q.2.2.1 j).2.2.1 with
      | none => rw [h] at h1; cases h1
      | some x =>
        rw [h] at h1
        simp only [Option.map_some, Option.some.injEq] at h1
        simp only [Option.getD_some]
        rw [h1]
        have h2 := (dfl_len _ h8).2
        cases hj2 : (dfl q.2.2.1)[j]? with
        | none => rw [List.getD_eq_getElem?_getD, hj2]; rfl
        | some f =>
          rw [List.getD_eq_getElem?_getD, hj2]
          rcases h2 f (List.mem_of_getElem? hj2) with rfl | rfl <;> rfl
  · exact Nat.le_trans hS0.1 (by rw [z1, hw.1]; omega)
  · intro x h1 h2
    rw [o1 x (by have := hS0.1; rw [hw.1] at this; omega)]
    exact hS0.2.1 x h1 h2
theorem pj_newa {x : Int} {at_ : ArrayType} {ty : FieldType} {c0 : Nat} (hcase : (at_ = .int ∧ ty = .int ∧ c0 = 8) ∨ (at_ = .boolean ∧ ty = .boolean ∧ c0 = 9)) (F : Fx D cI cZ cV b base L xs d k p R s m args meth c) (hw : pw D cI cZ cV b base L xs sh M H) (hS0 : va_S (pA base) s.heap H locs) (hok : okI x) (h0 : 0 ≤ x) (h1 : x ≤ 1000) (hne : ¬ sh.length = 0)
    (hc : cells + 1 ≤ R.cells) (hs : slots + x.toNat ≤ R.slots) (hd : decode (cd k) pc = .ok (.newarray at_, 2))
    (kk : ∀ (H' : Heap), pw D cI cZ cV b base L xs (sh ++ [(c0, x.toNat, [])]) (setR M sh.length fun _ => 0) H' → va_S (pA base) s.heap H' locs → W p l e R s m args below meth c H' locs (cells + 1) (slots + x.toNat) Q (F0 m (pc + 2) ls (.ref (av b base sh.length) :: rest))) : W p l e R s m args below meth c H locs cells slots Q (F0 m pc ls (.int (Int32.ofInt x) :: rest)) := by
  obtain ⟨hx, hb, hml, hown, hts, -, -, hin, hK, hX, hbb, hbs⟩ := F
  have hav : av b base sh.length = base + sh.length := by unfold av; rw [if_neg hne]
  rw [hav] at kk
  have hneg : ¬ Int32.ofInt x < 0 := fun q => by have := (of_lt hok okI_0).mp q; omega
  have hcl : (Int32.ofInt x).toNatClampNeg = x.toNat := by rw [← Int32.toNat_toInt, toInt_ok hok]
  have hsz : ∀ (H1 : Heap), H1.size = base + sh.length + 1 → (∀ q : Nat, q < base + sh.length → H1[q]? = H[q]?) → va_S (pA base) s.heap H1 locs := fun H1 z1 o1 =>
    ⟨Nat.le_trans hS0.1 (by rw [z1, hw.1]; omega), fun y h1 h2 => by rw [o1 y (by have := hS0.1; rw [hw.1] at this; omega)]; exact hS0.2.1 y h1 h2, hS0.2.2⟩
  rcases hcase with ⟨rfl, rfl, rfl⟩ | ⟨rfl, rfl, rfl⟩
  · refine va_newaK (atype := .int) hx hb (hts _ tw_i) rfl hd rfl hneg hcl (by show _ * 4 ≤ _; omega) hc hs hw.1 fun H1 cA e1 z1 o1 ha hf => ?_
    have hcA : cA = cI := Option.some.inj (hf.symm.trans (hK.1.2 0 _ rfl).2)
    subst hcA
    refine kk H1 (pw_push hw hne (by rw [z1, hw.1]) (fun z hz => o1 z (by rw [← hw.1]; exact hz)) ?_ (by show x.toNat < _; omega)) (hsz H1 z1 o1)
    unfold wat
    rw [if_pos rfl, e1]
    rfl
  · refine va_newaK (atype := .boolean) hx hb (hts _ tw_z) rfl hd rfl hneg hcl (by show _ * 1 ≤ _; omega) hc hs hw.1 fun H1 cA e1 z1 o1 ha hf => ?_
    have hcA : cA = cZ := Option.some.inj (hf.symm.trans (hK.1.2 1 _ rfl).2)
    subst hcA
    refine kk H1 (pw_push hw hne (by rw [z1, hw.1]) (fun z hz => o1 z (by rw [← hw.1]; exact hz)) ?_ (by show x.toNat < _; omega)) (hsz H1 z1 o1)
    unfold wat
    rw [if_neg n98, if_pos rfl, e1]
    rfl
theorem pj_newq {x : Int} {q : Nat × Nat × Nat × Nat × Nat × Nat} (F : Fx D cI cZ cV b base L xs d k p R s m args meth c) (hw : pw D cI cZ cV b base L xs sh M H) (hS0 : va_S (pA base) s.heap H locs) (hq : q ∈ NC) (ho : q.1 = oc k) (h5 : q.2.2.1 = 5) (hok : okI x) (h0 : 0 ≤ x) (h1 : x ≤ 1000) (hne : ¬ sh.length = 0)
    (hc : cells + 1 ≤ R.cells) (hs : slots + x.toNat ≤ R.slots) (hd : decode (cd k) pc = .ok (.anewarray q.2.1, 3))
    (kk : ∀ (H' : Heap), pw D cI cZ cV b base L xs (sh ++ [(10, x.toNat, List.replicate x.toNat (some none))]) (setR M sh.length fun _ => 0) H' → va_S (pA base) s.heap H' locs → W p l e R s m args below meth c H' locs (cells + 1) (slots + x.toNat) Q (F0 m (pc + 3) ls (.ref (av b base sh.length) :: rest))) : W p l e R s m args below meth c H locs cells slots Q (F0 m pc ls (.int (Int32.ofInt x) :: rest)) := by
  obtain ⟨hx, hb, hml, hown, hts, -, -, hin, hK, hX, hbb, hbs⟩ := F
  obtain ⟨n1, n2, n3⟩ := NC_w q hq
  rw [h5] at n1
  have hav : av b base sh.length = base + sh.length := by unfold av; rw [if_neg hne]
  rw [hav] at kk
  have hneg : ¬ Int32.ofInt x < 0 := fun q => by have := (of_lt hok okI_0).mp q; omega
  have hcl : (Int32.ofInt x).toNatClampNeg = x.toNat := by rw [← Int32.toNat_toInt, toInt_ok hok]
  refine W.anew (C := RX5) hx hb (by rw [ho]; exact hown) (hts _ n1) (va_AO.use hK.2.1) rfl hd rfl hneg (by rw [hcl]; omega) hc (by rw [hcl]; exact hs) fun cA kA comp f1 f2 f3 f4 => ?_
  have hcA : cA = cV := by
    obtain ⟨kA', comp', g1, g2, g3, g4⟩ := (hK.1.2 2 _ rfl).2
    exact Option.some.inj (f1.symm.trans g4)
  subst hcA
  rw [hcl]
  generalize hH1 : H.push ({ cls := cA, slots := Array.replicate x.toNat .null, vm := .none } : Cell) = H1
  have z1 : H1.size = H.size + 1 := by rw [← hH1, Array.size_push]
  have e1 : H1[H.size]? = some (arrV cA x.toNat (fun _ => .null)) := by rw [← hH1, Array.getElem?_push_size, ← arrV_new]
  have o1 : ∀ q : Nat, q < H.size → H1[q]? = H[q]? := fun q hq => by rw [← hH1, Array.getElem?_push, if_neg (Nat.ne_of_lt hq)]
  rw [hw.1]
  rw [hw.1] at e1
  refine kk H1 (pw_push hw hne z1 o1 ?_ (by show x.toNat < _; omega)) ⟨Nat.le_trans hS0.1 (by omega), fun y h1 h2 => by rw [o1 y (Nat.lt_of_lt_of_le h1 hS0.1)]; exact hS0.2.1 y h1 h2, hS0.2.2⟩
  unfold wat
  rw [if_neg nA8, if_neg nA9, if_pos rfl, e1]
  congr 2
  funext i
  rw [List.getD_eq_getElem?_getD, List.getElem?_replicate]
  split <;> rfl
theorem psM_snd {i : Instr} {len : Nat} {st st' : List PV} (h : psM d k i st = some st') (hlen : lenOk i len = true) (F : Fx D cI cZ cV b base L xs d k p R s m args meth c) (hls : ls.size = mx k) (hd : decode (cd k) pc = .ok (i, len)) (hst : okS st) (hc : cells ≤ R.cells) (hs : slots ≤ R.slots)
    (kk : okS st' → W p l e R s m args below meth c H locs cells slots Q (F0 m (pc + len) ls (st'.map (cv b base)))) : W p l e R s m args below meth c H locs cells slots Q (F0 m pc ls (st.map (cv b base))) := by
  obtain ⟨hx, hb, hml, hown, hts, hfr, hlo, hin, hK, hX, hbb, hbs⟩ := F
  cases i <;> simp only [psM] at h <;> first | (cases h; done) | skip
  case invokespecial idx =>
    cases len1 hlen
    split at h
    · rename_i q hq
      obtain ⟨m1, m2, rfl⟩ := find_MR hq
      split at h
      · rename_i hc2
        obtain ⟨t1, t2, t3⟩ := hc2
        obtain ⟨a, r, rfl, h2⟩ := q1r_inv h; replace h := h2
        split at h
        · rename_i h8
          cases h
          have hw := Kst_word hts hK (MR_w q m1)
          unfold rWord at hw
          rw [if_neg (by rw [t2]; decide), t1, show tN 200 = Lib.objectInit from rfl] at hw
          exact W.objInit hx hb (by rw [m2]; exact hown) hw (hts _ tb_oi) (hts _ tw_oc) rfl (by rw [hml]; exact hls) rfl hd (by omega) (by
            have e1 : (F0 m pc ls (List.map (cv b base) (.inr (.inr (some a)) :: st'))).monitorRoom = 0 := rfl
            rw [e1, mSum_cv]; omega) (kk (okS_t hst))
        · cases h
      · cases h
    · cases h
  case invokestatic idx =>
    cases len1 hlen
    split at h
    · rename_i q hq
      obtain ⟨m1, m2, rfl⟩ := find_MR hq
      have hw := Kst_word hts hK (MR_w q m1)
      unfold rWord at hw
      split at h
      · rename_i hc2
        obtain ⟨t1, t2, t3⟩ := hc2
        obtain ⟨x, y, r, rfl, h2⟩ := q2_inv h; replace h := h2
        split at h
        · rename_i h8
          cases h
          have oy : okI y := okS_h hst
          have ox : okI x := okS_h (okS_t hst)
          rw [if_neg (by rw [t2]; decide), t1, show tN 201 = Lib.Math.max.name from rfl] at hw
          have k1 := kk (okS_c (show okI _ by split <;> assumption) (okS_t (okS_t hst)))
          refine va_mmax hx hb (by rw [hml, hls]) (by rw [m2]; exact hown) hw (hts _ tb_max.1) (hts _ tb_max.2.2) (hts _ tw_mx) (by omega) (by rw [mSum_cv]; omega) hc hs hd ?_
          have e1 : (if Int32.ofInt x < Int32.ofInt y then Int32.ofInt y else Int32.ofInt x) = Int32.ofInt (if x < y then y else x) := by
            by_cases z : x < y
            · rw [if_pos z, if_pos ((of_lt ox oy).mpr z)]
            · rw [if_neg z, if_neg (fun w => z ((of_lt ox oy).mp w))]
          rw [e1]
          exact k1
        · cases h
      · split at h
        · rename_i hc2
          obtain ⟨t1, t2, t3⟩ := hc2
          obtain ⟨x, y, r, rfl, h2⟩ := q2_inv h; replace h := h2
          split at h
          · rename_i h8
            cases h
            have oy : okI y := okS_h hst
            have ox : okI x := okS_h (okS_t hst)
            rw [if_neg (by rw [t2]; decide), t1, show tN 202 = Lib.Math.min.name from rfl] at hw
            have k1 := kk (okS_c (show okI _ by split <;> assumption) (okS_t (okS_t hst)))
            refine va_mmin hx hb (by rw [hml, hls]) (by rw [m2]; exact hown) hw (hts _ tb_max.2.1) (hts _ tb_max.2.2) (hts _ tw_mn) (by omega) (by rw [mSum_cv]; omega) hc hs hd ?_
            have e1 : (if Int32.ofInt y < Int32.ofInt x then Int32.ofInt y else Int32.ofInt x) = Int32.ofInt (if y < x then y else x) := by
              by_cases z : y < x
              · rw [if_pos z, if_pos ((of_lt oy ox).mpr z)]
              · rw [if_neg z, if_neg (fun w => z ((of_lt oy ox).mp w))]
            rw [e1]
            exact k1
          · cases h
        · cases h
    · cases h
theorem psH_mono {i : Instr} {st st' : List PV} (h : psH k i st sh M = some (st', sh', M')) : sh.length ≤ sh'.length ∧ zs sh ≤ zs sh' := by
  cases i <;> simp only [psH] at h <;> first | (cases h; done) | skip
  case aaload => obtain ⟨a, i, r, rfl, h2⟩ := q2r_inv h; replace h := h2; obtain ⟨v, hv, h⟩ := obind h; cases h; exact ⟨Nat.le_refl _, Nat.le_refl _⟩
  case aastore =>
    split at h
    · obtain ⟨v, hv, h⟩ := obind h
      cases h
      unfold rput at hv
      repeat' split at hv
      all_goals first | (cases hv; done) | skip
      rename_i hs _ _ _ _ _
      cases hv
      exact ⟨by rw [List.length_set]; exact Nat.le_refl _, by rw [zs_set3 (by assumption)]; exact Nat.le_refl _⟩
    · cases h
  case anewarray idx =>
    obtain ⟨n, r, rfl, h2⟩ := q1_inv h; replace h := h2
    split at h
    · split at h
      · cases h
        exact ⟨by simp, by rw [zs_app]; omega⟩
      · cases h
    · cases h
  case arraylength => obtain ⟨a, r, rfl, h2⟩ := q1r_inv h; replace h := h2; obtain ⟨v, hv, h⟩ := obind h; cases h; exact ⟨Nat.le_refl _, Nat.le_refl _⟩
  case baload => obtain ⟨a, i, r, rfl, h2⟩ := q2r_inv h; replace h := h2; obtain ⟨v, hv, h⟩ := obind h; cases h; exact ⟨Nat.le_refl _, Nat.le_refl _⟩
  case bastore => obtain ⟨a, i, x, r, rfl, h2⟩ := q3r_inv h; replace h := h2; obtain ⟨v, hv, h⟩ := obind h; cases h; exact ⟨Nat.le_refl _, Nat.le_refl _⟩
  case getfield idx =>
    obtain ⟨a, r, rfl, h2⟩ := q1r_inv h; replace h := h2
    split at h
    · obtain ⟨v, hv, h⟩ := obind h
      cases h
      exact ⟨Nat.le_refl _, Nat.le_refl _⟩
    · cases h
  case iaload => obtain ⟨a, i, r, rfl, h2⟩ := q2r_inv h; replace h := h2; obtain ⟨v, hv, h⟩ := obind h; cases h; exact ⟨Nat.le_refl _, Nat.le_refl _⟩
  case iastore => obtain ⟨a, i, x, r, rfl, h2⟩ := q3r_inv h; replace h := h2; obtain ⟨v, hv, h⟩ := obind h; cases h; exact ⟨Nat.le_refl _, Nat.le_refl _⟩
  case ldc idx =>
    split at h
    · cases h; exact ⟨Nat.le_refl _, Nat.le_refl _⟩
    · cases h
  case ldc2_w idx =>
    split at h
    · cases h; exact ⟨Nat.le_refl _, Nat.le_refl _⟩
    · cases h
  case new idx =>
    split at h
    · split at h
      · cases h
        exact ⟨by simp, by rw [zs_app]; omega⟩
      · cases h
    · cases h
  case newarray t =>
    cases t <;> simp only [] at h <;> first | (cases h; done) | skip
    all_goals
      obtain ⟨n, r, rfl, h2⟩ := q1_inv h; replace h := h2
      split at h
      · cases h
        exact ⟨by simp, by rw [zs_app]; omega⟩
      · cases h
  case putfield idx =>
    split at h
    · split at h
      · split at h
        · obtain ⟨v, hv, h⟩ := obind h
          cases h
          exact ⟨Nat.le_refl _, Nat.le_refl _⟩
        · cases h
      · cases h
    · split at h
      · split at h
        · obtain ⟨v, hv, h⟩ := obind h
          cases h
          unfold putR at hv
          repeat' split at hv
          all_goals first | (cases hv; done) | skip
          cases hv
          exact ⟨by rw [List.length_set]; exact Nat.le_refl _, by rw [zs_set3 (by assumption)]; exact Nat.le_refl _⟩
        · cases h
      · cases h
    · cases h
end SJ
end
section
/-! the steps together, calls, and the theorem: what the pure machine answers, the machine answers -/
theorem ps_mono {d k : Nat} {i : Instr} {len pc pc' : Nat} {lc lc' : PL} {st st' : List PV} {sh sh' : List PS} {M M' : PM} (h : ps d k i len pc lc st sh M = some (pc', lc', st', sh', M')) : sh.length ≤ sh'.length ∧ zs sh ≤ zs sh' := by
  unfold ps at h
  split at h
  · cases h; exact ⟨Nat.le_refl _, Nat.le_refl _⟩
  · split at h
    · cases h; exact ⟨Nat.le_refl _, Nat.le_refl _⟩
    · split at h
      · cases h; exact ⟨Nat.le_refl _, Nat.le_refl _⟩
      · split at h
        · rename_i hh
          cases h
          exact psH_mono hh
        · split at h
          · cases h; exact ⟨Nat.le_refl _, Nat.le_refl _⟩
          · cases h
theorem run_mono : ∀ (n : Nat) {d k pc : Nat} {lc : PL} {st : List PV} {sh sh' : List PS} {M M' : PM} {r : Option PV}, run n d k pc lc st sh M = some (r, sh', M') → sh.length ≤ sh'.length ∧ zs sh ≤ zs sh' := by
  intro n
  induction n with
  | zero => intro d k pc lc st sh sh' M M' r h; cases h
  | succ n ih =>
    intro d k pc lc st sh sh' M M' r h
    unfold run at h
    split at h
    · cases h
    · split at h
      · cases h
      · split at h
        · rename_i hh
          have h1 := ps_mono hh
          have h2 := ih h
          exact ⟨Nat.le_trans h1.1 h2.1, Nat.le_trans h1.2 h2.2⟩
        · split at h
          · cases h; exact ⟨Nat.le_refl _, Nat.le_refl _⟩
          · split at h
            · cases h
            · split at h
              · cases h
              · split at h
                · cases h
                · rename_i hh
                  have h1 := ih hh
                  have h2 := ih h
                  exact ⟨Nat.le_trans h1.1 h2.1, Nat.le_trans h1.2 h2.2⟩
def okr (r : Option PV) : Prop := match r with | some v => okv v | none => True
def Qx (D : va_G) (cI cZ cV : ClassId) (b base L : Nat) (xs : Nat → Int32) (r : Option PV) (sh : List PS) (M : PM) : Array Value → State → Outcome → State → Prop := fun _ st o t =>
  o = .returned (r.map (cv b base)) ∧ pw D cI cZ cV b base L xs sh M t.heap ∧ okr r ∧ va_F (pA base) st t
def Px (D : va_G) (cI cZ cV : ClassId) (b base L : Nat) (xs : Nat → Int32) (as : List PV) (sh : List PS) (M : PM) : Array Value → State → Prop := va_Pc (as.map (cv b base)) fun U => pw D cI cZ cV b base L xs sh M U.heap ∧ Kst D cI cZ cV U ∧ va_X b L xs U U.heap
abbrev wsT (t : Nat) : List Cond := .code (nm t) (cd t) (mx t) (rt t) :: gw
theorem Px_blind {D : va_G} {cI cZ cV : ClassId} {b base L : Nat} {xs : Nat → Int32} {as : List PV} {sh : List PS} {M : PM} : FrameBlind (Px D cI cZ cV b base L xs as sh M) := by
  intro a U g mk h
  obtain ⟨h1, h2, h3, h4⟩ := h
  exact ⟨h1, h2, Kst_same (s := U) (U := U.calling g mk a) rfl h3, va_X.moved (u := U) (U := U.calling g mk a) (Vm.Alike.refl U.vm) h4⟩
theorem pw_ne {D : va_G} {cI cZ cV : ClassId} {b base L : Nat} {xs : Nat → Int32} {sh : List PS} {M : PM} {H : Heap} (hw : pw D cI cZ cV b base L xs sh M H) : 1 ≤ sh.length ∧ base < H.size := by
  obtain ⟨h1, -, ⟨L0, h3⟩, -⟩ := hw
  have := (List.getElem?_eq_some_iff.mp h3).1
  omega
theorem mq_mem {t : Nat} (h : t < 134) : mq t ∈ MTm ∧ mq t ∈ MT := by
  have e : MT[t]? = some (mq t) := by
    unfold mq
    rw [List.getD_eq_getElem?_getD]
    have : t < MT.length := Nat.lt_of_lt_of_le h (by decide +kernel)
    rw [List.getElem?_eq_getElem this]
    rfl
  refine ⟨?_, List.mem_of_getElem? e⟩
  unfold MTm
  exact List.mem_of_getElem? (i := t) (by rw [List.getElem?_take, if_pos h]; exact e)
theorem wsT_good {t : Nat} (h : t < 134) : GoodIn gw (wsT t) := by
  intro w hw
  rcases List.mem_cons.mp hw with rfl | hw
  · exact ⟨gwm (MT_code _ (mq_mem h).1) rfl, Or.inl rfl⟩
  · exact gw_good w hw
section SK
variable {p : Program} {l : Launch} {e : Env} {R : Room} {s : State} {m : MethodId} {args : Array Value} {below : List Frame} {meth : Method} {c : Code} {H : Heap} {locs : List Loc} {cells slots : Nat} {Q : State → Prop} {pc : Nat} {ls : Array Slot}
variable {D : va_G} {cI cZ cV : ClassId} {b base L : Nat} {xs : Nat → Int32} {d k : Nat} {sh sh' : List PS} {M M' : PM} {rest : List Value}
set_option maxHeartbeats 4000000 in
theorem psH_snd {i : Instr} {len : Nat} {st st' : List PV} (h : psH k i st sh M = some (st', sh', M')) (hlen : lenOk i len = true) (F : Fx D cI cZ cV b base L xs d k p R s m args meth c) (hw : pw D cI cZ cV b base L xs sh M H) (hS0 : va_S (pA base) s.heap H locs) (hd : decode (cd k) pc = .ok (i, len)) (hst : okS st)
    (hc : cells + (sh'.length - sh.length) ≤ R.cells) (hs : slots + (zs sh' - zs sh) ≤ R.slots)
    (kk : ∀ (H' : Heap) (locs' : List Loc), okS st' → pw D cI cZ cV b base L xs sh' M' H' → va_S (pA base) s.heap H' locs' → W p l e R s m args below meth c H' locs' (cells + (sh'.length - sh.length)) (slots + (zs sh' - zs sh)) Q (F0 m (pc + len) ls (st'.map (cv b base)))) : W p l e R s m args below meth c H locs cells slots Q (F0 m pc ls (st.map (cv b base))) := by
  cases i <;> simp only [psH] at h <;> first | (cases h; done) | skip
  case aaload =>
    cases len1 hlen
    obtain ⟨a, i, r, rfl, h2⟩ := q2r_inv h; replace h := h2; obtain ⟨v, hv, h⟩ := obind h; cases h
    simp only [Nat.sub_self, Nat.add_zero] at kk
    exact pi_aald F hw (okS_h hst) hv hd fun ov => kk H locs (okS_c ov (okS_t (okS_t hst))) hw hS0
  case aastore =>
    cases len1 hlen
    split at h
    · obtain ⟨v, hv, h⟩ := obind h
      cases h
      have e1 : sh'.length - sh.length = 0 := by
        unfold rput at hv
        repeat' split at hv
        all_goals first | (cases hv; done) | skip
        cases hv
        rw [List.length_set]; omega
      have e2 : zs sh' - zs sh = 0 := by
        unfold rput at hv
        repeat' split at hv
        all_goals first | (cases hv; done) | skip
        cases hv
        rw [zs_set3 (by assumption)]; omega
      rw [e1, e2] at kk
      exact pi_aast F hw hS0 (okS_h (okS_t hst)) hv hd fun H' locs' w1 w2 => kk H' locs' (okS_t (okS_t (okS_t hst))) w1 w2
    · cases h
  case anewarray idx =>
    cases len1 hlen
    obtain ⟨n, r, rfl, h2⟩ := q1_inv h; replace h := h2
    split at h
    · rename_i q hq
      obtain ⟨m1, m2, rfl⟩ := find_p hq
      split at h
      · rename_i hcc
        obtain ⟨c1, c2, c3, c4⟩ := hcc
        cases h
        have e1 : (sh ++ [(10, n.toNat, List.replicate n.toNat (some none))] : List PS).length - sh.length = 1 := by simp
        have e2 : zs (sh ++ [(10, n.toNat, List.replicate n.toNat (some none))]) - zs sh = n.toNat := by rw [zs_app]; show zs sh + n.toNat - zs sh = _; omega
        rw [e1] at kk hc; rw [e2] at kk hs
        exact pj_newq F hw hS0 m1 m2 c1 (okS_h hst) c2 c3 c4 hc hs hd fun H' w1 w2 => kk H' locs (okS_c trivial (okS_t hst)) w1 w2
      · cases h
    · cases h
  case arraylength =>
    cases len1 hlen
    obtain ⟨a, r, rfl, h2⟩ := q1r_inv h; replace h := h2; obtain ⟨v, hv, h⟩ := obind h; cases h
    simp only [Nat.sub_self, Nat.add_zero] at kk
    exact pi_alen F hw hS0 hv hd fun ov => kk H locs (okS_c ov (okS_t hst)) hw hS0
  case baload =>
    cases len1 hlen
    obtain ⟨a, i, r, rfl, h2⟩ := q2r_inv h; replace h := h2; obtain ⟨v, hv, h⟩ := obind h; cases h
    simp only [Nat.sub_self, Nat.add_zero] at kk
    exact pi_zald F hw (okS_h hst) hv hd fun ov => kk H locs (okS_c ov (okS_t (okS_t hst))) hw hS0
  case bastore =>
    cases len1 hlen
    obtain ⟨a, i, x, r, rfl, h2⟩ := q3r_inv h; replace h := h2; obtain ⟨v, hv, h⟩ := obind h; cases h
    simp only [Nat.sub_self, Nat.add_zero] at kk
    exact pi_zast F hw hS0 (okS_h (okS_t hst)) (okS_h hst) hv hd fun H' locs' w1 w2 => kk H' locs' (okS_t (okS_t (okS_t hst))) w1 w2
  case getfield idx =>
    cases len1 hlen
    obtain ⟨a, r, rfl, h2⟩ := q1r_inv h; replace h := h2
    split at h
    · rename_i q hq
      obtain ⟨m1, m2, rfl⟩ := find_FR hq
      obtain ⟨v, hv, h⟩ := obind h
      cases h
      simp only [Nat.sub_self, Nat.add_zero] at kk
      exact pg_get F hw m1 m2 hv hd fun ov => kk H locs (okS_c ov (okS_t hst)) hw hS0
    · cases h
  case iaload =>
    cases len1 hlen
    obtain ⟨a, i, r, rfl, h2⟩ := q2r_inv h; replace h := h2; obtain ⟨v, hv, h⟩ := obind h; cases h
    simp only [Nat.sub_self, Nat.add_zero] at kk
    exact pi_iald F hw hS0 (okS_h hst) hv hd fun ov => kk H locs (okS_c ov (okS_t (okS_t hst))) hw hS0
  case iastore =>
    cases len1 hlen
    obtain ⟨a, i, x, r, rfl, h2⟩ := q3r_inv h; replace h := h2; obtain ⟨v, hv, h⟩ := obind h; cases h
    simp only [Nat.sub_self, Nat.add_zero] at kk
    exact pi_iast F hw hS0 (okS_h (okS_t hst)) (okS_h hst) hv hd fun H' locs' w1 w2 => kk H' locs' (okS_t (okS_t (okS_t hst))) w1 w2
  case ldc idx =>
    cases len1 hlen
    split at h
    · rename_i q hq
      obtain ⟨m1, m2, rfl⟩ := find_p hq
      cases h
      simp only [Nat.sub_self, Nat.add_zero] at kk
      obtain ⟨hx, hb, hml, hown, hts, -⟩ := F
      exact lv_ldc hx hb hown (hts _ (by rw [← m2]; exact KI_w q m1)) hd (kk H locs (okS_c (KI_ok q m1).2 hst) hw hS0)
    · cases h
  case ldc2_w idx =>
    cases len1 hlen
    split at h
    · rename_i q hq
      obtain ⟨m1, m2, rfl⟩ := find_p hq
      cases h
      simp only [Nat.sub_self, Nat.add_zero] at kk
      obtain ⟨hx, hb, hml, hown, hts, -⟩ := F
      exact lv_ldc2 hx hb hown (hts _ (by rw [← m2]; exact KL_w q m1)) hd (kk H locs (okS_c (KL_ok q m1).2 hst) hw hS0)
    · cases h
  case new idx =>
    cases len1 hlen
    split at h
    · rename_i q hq
      obtain ⟨m1, m2, rfl⟩ := find_p hq
      split at h
      · rename_i hcc
        cases h
        have e1 : (sh ++ [(q.2.2.1, 0, dfl q.2.2.1)] : List PS).length - sh.length = 1 := by simp
        have e2 : zs (sh ++ [(q.2.2.1, 0, dfl q.2.2.1)]) - zs sh = fN q.2.2.1 := by rw [zs_app, psz_new hcc.1]; omega
        rw [e1] at kk hc; rw [e2] at kk hs
        exact pj_new F hw hS0 m1 m2 hcc.1 hcc.2 hc hs hd fun H' w1 w2 => kk H' locs (okS_c trivial hst) w1 w2
      · cases h
    · cases h
  case newarray t =>
    cases t <;> simp only [] at h <;> first | (cases h; done) | skip
    · cases len1 hlen
      obtain ⟨n, r, rfl, h2⟩ := q1_inv h; replace h := h2
      split at h
      · rename_i hcc
        cases h
        have e1 : (sh ++ [(9, n.toNat, [])] : List PS).length - sh.length = 1 := by simp
        have e2 : zs (sh ++ [(9, n.toNat, [])]) - zs sh = n.toNat := by rw [zs_app]; show zs sh + n.toNat - zs sh = _; omega
        rw [e1] at kk hc; rw [e2] at kk hs
        exact pj_newa (Or.inr ⟨rfl, rfl, rfl⟩) F hw hS0 (okS_h hst) hcc.1 hcc.2.1 hcc.2.2 hc hs hd fun H' w1 w2 => kk H' locs (okS_c trivial (okS_t hst)) w1 w2
      · cases h
    · cases len1 hlen
      obtain ⟨n, r, rfl, h2⟩ := q1_inv h; replace h := h2
      split at h
      · rename_i hcc
        cases h
        have e1 : (sh ++ [(8, n.toNat, [])] : List PS).length - sh.length = 1 := by simp
        have e2 : zs (sh ++ [(8, n.toNat, [])]) - zs sh = n.toNat := by rw [zs_app]; show zs sh + n.toNat - zs sh = _; omega
        rw [e1] at kk hc; rw [e2] at kk hs
        exact pj_newa (Or.inl ⟨rfl, rfl, rfl⟩) F hw hS0 (okS_h hst) hcc.1 hcc.2.1 hcc.2.2 hc hs hd fun H' w1 w2 => kk H' locs (okS_c trivial (okS_t hst)) w1 w2
      · cases h
  case putfield idx =>
    cases len1 hlen
    split at h
    · split at h
      · rename_i q hq
        obtain ⟨m1, m2, rfl⟩ := find_FR hq
        split at h
        · rename_i hcc
          obtain ⟨v, hv, h⟩ := obind h
          cases h
          simp only [Nat.sub_self, Nat.add_zero] at kk
          exact pi_putI (j := 0) F hw hS0 m1 m2 hcc.1 hcc.2 (okS_h hst) hv hd fun H' locs' w1 w2 => kk H' locs' (okS_t (okS_t hst)) w1 w2
        · cases h
      · cases h
    · split at h
      · rename_i q hq
        obtain ⟨m1, m2, rfl⟩ := find_FR hq
        split at h
        · rename_i hcc
          obtain ⟨g1, g2, g3, g4, g5⟩ := hcc
          obtain ⟨v, hv, h⟩ := obind h
          cases h
          have e1 : sh'.length - sh.length = 0 := by
            unfold putR at hv
            repeat' split at hv
            all_goals first | (cases hv; done) | skip
            cases hv
            rw [List.length_set]; omega
          have e2 : zs sh' - zs sh = 0 := by
            unfold putR at hv
            repeat' split at hv
            all_goals first | (cases hv; done) | skip
            cases hv
            rw [zs_set3 (by assumption)]; omega
          rw [e1, e2] at kk
          exact pi_putR F hw hS0 m1 m2 ⟨g1, g3, g4, g5⟩ g2 hv hd fun H' locs' w1 w2 => kk H' locs' (okS_t (okS_t hst)) w1 w2
        · cases h
      · cases h
    · cases h
theorem pk_call {mc ms : Nat} {a : Array Value} {r : Option PV} {st0 : List Value} (hr : va_Run p l e R s m args below meth c H locs cells slots mc ms (F0 m pc ls st0) rest (Qx D cI cZ cV b base L xs r sh' M' a) (pA base)) (hS : va_S (pA base) s.heap H locs)
    (kk : ∀ (H1 : Heap) (locs1 : List Loc), pw D cI cZ cV b base L xs sh' M' H1 → okr r → va_S (pA base) s.heap H1 locs1 → W p l e R s m args below meth c H1 locs1 (cells + mc) (slots + ms) Q (F0 m (pc + 3) ls ((r.map (cv b base)).toList ++ rest))) : W p l e R s m args below meth c H locs cells slots Q (F0 m pc ls st0) := by
  intro T hT X
  obtain ⟨v, st₀, t, T', L', h0, X', hL, e1, e2, ⟨hv, hp, hok, hz, hk⟩, st⟩ := hr T hT X
  cases hv
  rw [h0] at hz hk
  obtain ⟨t2, a1, b1⟩ := kk T'.heap (locs ++ L') (by rw [e1]; exact hp) hok
    ⟨Nat.le_trans hS.1 (by rw [e1]; exact hz), fun q h1 h2 => by rw [e1, hk q (Nat.lt_of_lt_of_le h1 hS.1) h2]; exact hS.2.1 q h1 h2, fun q hq => by
      rcases List.mem_append.mp hq with h | h
      · exact hS.2.2 q h
      · exact hL q h⟩ T' rfl X'
  exact ⟨t2, st t2 a1, b1⟩
end SK
end
section
/-! calls -/
theorem callOf_inv {k t : Nat} {i : Instr} {st as rest : List PV} {sh : List PS} (h : callOf k i st sh = some (t, as, rest)) : ∃ (idx z : Nat) (q : RTy), (z = 1 ∧ i = .invokevirtual idx ∨ z = 2 ∧ i = .invokespecial idx ∨ z = 0 ∧ i = .invokestatic idx) ∧ methOf (oc k) idx = some q ∧ t = q.2.2.1
    ∧ as = (st.take (na t + (if z = 0 then 0 else 1))).reverse ∧ rest = st.drop (na t + (if z = 0 then 0 else 1)) ∧ t < 134 ∧ kd t = z ∧ na t + (if z = 0 then 0 else 1) ≤ st.length ∧ mSum rest ≤ 8 ∧ na t + (if z = 0 then 0 else 1) ≤ mx t ∧ as.any isL = false ∧ (z = 0 ∨ isObj sh as[0]? (oc t) = true) ∧ (z = 2 ∨ q.2.2.2.1 = false ∨ z = 0) := by
  unfold callOf at h
  split at h
  · cases h
  · rename_i idx z hz
    have hi : (z = 1 ∧ i = .invokevirtual idx ∨ z = 2 ∧ i = .invokespecial idx ∨ z = 0 ∧ i = .invokestatic idx) := by
      split at hz
      · cases hz; exact Or.inl ⟨rfl, rfl⟩
      · cases hz; exact Or.inr (Or.inl ⟨rfl, rfl⟩)
      · cases hz; exact Or.inr (Or.inr ⟨rfl, rfl⟩)
      · cases hz
    split at h
    · cases h
    · rename_i q hq
      simp only [Option.ite_none_right_eq_some, Option.some.injEq, Prod.mk.injEq] at h
      obtain ⟨⟨c1, c2, c3, c4, c5, c6, c7, c8⟩, rfl, rfl, rfl⟩ := h
      exact ⟨idx, z, q, hi, hq, rfl, rfl, rfl, c1, c2, c3, c4, c5, c6, c7, c8⟩
theorem isObj_inv {sh : List PS} {v : Option PV} {c : Nat} (h : isObj sh v c = true) : ∃ (a n : Nat) (L0 : List (Option (Option Nat))), v = some (.inr (.inr (some a))) ∧ ¬ a = 0 ∧ sh[a]? = some (c, n, L0) := by
  unfold isObj at h
  split at h
  · rename_i a
    split at h
    · cases h
    · rename_i ha
      split at h
      · rename_i c0 n0 L0 hs
        have : c0 = c := by simpa using h
        subst this
        exact ⟨a, n0, L0, rfl, ha, hs⟩
      · cases h
  · cases h
theorem mt_facts {t : Nat} (h : t < 134) : (parseMethodDescriptor (nm t).desc).map (fun d => d.parameters.length) = some (na t) ∧ (nm t).cls = cn (oc t) ∧ (nm t).cls ≠ "java/lang/invoke/MethodHandle" ∧ (nm t).cls ≠ "java/lang/invoke/VarHandle" ∧ plainName (nm t).cls = true ∧ mx t ≤ 15 ∧ oc t < 8 ∧ Cond.initialized (nm t).cls ∈ gw
    ∧ (kd t = 0 → Cond.static (nm t) ∈ gw) ∧ (¬ kd t = 0 → Cond.instanceMethod (nm t) ∈ gw) ∧ (kd t = 1 → Cond.selects (nm t).cls (nm t) (nm t) ∈ gw) ∧ (kd t = 2 → (nm t).name = "<init>" ∧ rt t = none) := by
  obtain ⟨h1, h2⟩ := mq_mem h
  have p1 := MT_par _ h2
  obtain ⟨a1, a2, a3, a4, a5, -, -⟩ := MT_cls _ h2
  obtain ⟨b1, b2, b3, b4, b5, -, b7⟩ := MT_kind _ h1
  exact ⟨p1, a1, a2, a3, a4, a5, b7, gwm b1 rfl, fun q => gwm (b2 q) rfl, fun q => gwm (b3 q) rfl, fun q => gwm (b4 q) rfl, b5⟩
theorem tN_nm {t : Nat} (h : t < 134) : tN t = nm t := by
  unfold tN
  rw [if_neg (by omega), if_neg (by omega), if_neg (by omega)]
section SM
variable {p : Program} {l : Launch} {e : Env} {R : Room} {s : State} {m : MethodId} {args : Array Value} {below : List Frame} {meth : Method} {c : Code} {H : Heap} {locs : List Loc} {cells slots : Nat} {Q : State → Prop} {pc : Nat} {ls : Array Slot}
variable {D : va_G} {cI cZ cV : ClassId} {b base L : Nat} {xs : Nat → Int32} {d k : Nat} {sh sh' : List PS} {M M' : PM}
theorem pk_pre {as : List PV} (F : Fx D cI cZ cV b base L xs d k p R s m args meth c) (hw : pw D cI cZ cV b base L xs sh M H) (hS0 : va_S (pA base) s.heap H locs) : ∀ U : State, U.heap = H → s.WarmedH U.vm → Px D cI cZ cV b base L xs as sh M (as.map (cv b base)).toArray U := by
  obtain ⟨hx, hb, hml, hown, hts, hfr, hlo, hin, hK, hX, hbb, hbs⟩ := F
  intro U hU hW
  refine ⟨rfl, by rw [hU]; exact hw, Kst_warm hW hK, ?_⟩
  rw [hU]
  exact va_X.moved hW.alike (hX.kept (hS0.2.1 b (Nat.lt_of_le_of_lt hbb hbs) (Nat.not_lt.mpr hbb)))
set_option maxHeartbeats 4000000 in
theorem pk_run {t mc ms : Nat} {i : Instr} {st as rest : List PV} {r : Option PV} (hcall : callOf k i st sh = some (t, as, rest)) (hlen : lenOk i 3 = true) (F : Fx D cI cZ cV b base L xs (d + 1) k p R s m args meth c) (hw : pw D cI cZ cV b base L xs sh M H) (hS0 : va_S (pA base) s.heap H locs) (hls : ls.size = mx k) (hd : decode (cd k) pc = .ok (i, 3))
    (hM : Met l (nm t) (wsT t) ({ frames := d, cells := mc, slots := ms, locals := 40 * d }) (Px D cI cZ cV b base L xs as sh M) (Qx D cI cZ cV b base L xs r sh' M') mc ms (pA base)) (hc : cells + mc ≤ R.cells) (hs : slots + ms ≤ R.slots) :
    va_Run p l e R s m args below meth c H locs cells slots mc ms (F0 m pc ls (st.map (cv b base))) (rest.map (cv b base)) (Qx D cI cZ cV b base L xs r sh' M' (as.map (cv b base)).toArray) (pA base) := by
  have hpre := pk_pre (as := as) F hw hS0
  obtain ⟨hx, hb, hml, hown, hts, hfr, hlo, hin, hK, hX, hbb, hbs⟩ := F
  obtain ⟨idx, z, q, hi, hq, rfl, has, hrest, ht, hkd, hlen2, hsum, hmx, -, hobj, hnest⟩ := callOf_inv hcall
  obtain ⟨m1, m2, m3⟩ := find_MR hq
  obtain ⟨g1, g2, g3, g4, -, g6, g7, g8, g9, g10, g11, g12⟩ := mt_facts ht
  have hword := Kst_word hts hK (MR_w q m1)
  unfold rWord at hword
  rw [tN_nm ht] at hword
  have hR : d + 1 ≤ R.frames ∧ 8 + (mx q.2.2.1 + 11) + 40 * d ≤ R.locals := ⟨hfr, by omega⟩
  have hroom : ((rest.map (cv b base)).map fun v => v.category).sum ≤ 8 := by rw [mSum_cv]; exact hsum
  have hsplit : st.map (cv b base) = (as.map (cv b base)).reverse ++ rest.map (cv b base) := by
    rw [has, hrest, List.map_reverse, List.reverse_reverse, ← List.map_append, List.take_append_drop]
  have hal : as.length = na q.2.2.1 + (if z = 0 then 0 else 1) := by
    rw [has, List.length_reverse, List.length_take]
    omega
  have hfix : CallFix p m c (cd k) (mx k) s args gw (cn (oc k)) := ⟨hx, hb, hml, hown, hts⟩
  rw [m2] at hword
  rw [← m3] at hi
  have hini := hts _ g8
  rcases hi with ⟨rfl, rfl⟩ | ⟨rfl, rfl⟩ | ⟨rfl, rfl⟩
  · -- virtual
    have hnn : q.2.2.2.1 = false := by
      rcases hnest with h | h | h
      · cases h
      · exact h
      · cases h
    rw [if_neg (by rw [hnn]; decide)] at hword
    have hob : isObj sh as[0]? (oc q.2.2.1) = true := by
      rcases hobj with h | h
      · cases h
      · exact h
    obtain ⟨a, n0, L0, e0, ha, hsa⟩ := isObj_inv hob
    cases as with
    | nil => simp at e0
    | cons v0 as' =>
      simp only [List.getElem?_cons_zero, Option.some.injEq] at e0
      subst e0
      simp only [List.length_cons] at hal
      rw [if_neg (by decide)] at hal
      have hav : av b base a = base + a := by unfold av; rw [if_neg ha]
      obtain ⟨-, cellB, q1, q2, q3, -⟩ := wat_obj (c := oc q.2.2.1) rfl g7 (hw.2.1 a _ ha hsa)
      have hat := (hK.1.1 (oc q.2.2.1) _ (cl_at g7)).2
      exact va_runV (C := (nm q.2.2.1).cls) (b := av b base a) (As := as'.map (cv b base)) hfix hM ⟨callB_of (na q.2.2.1) hts (wsT_good ht) rfl rfl rfl hini hword ⟨g3, g4, g1⟩ hR, hts _ (g10 (by rw [hkd]; decide)), hts _ (g11 hkd)⟩
        ⟨Px_blind, ⟨cellB, by rw [hav]; exact q1, by rw [q3]; rfl, by rw [g2, q2]; exact hat.1⟩, hpre⟩ rfl (by rw [List.length_map]; omega) hls (by rw [hsplit]; simp [cv]) (lv_room hroom) hd ⟨hc, hs⟩
  · -- special
    have hob : isObj sh as[0]? (oc q.2.2.1) = true := by
      rcases hobj with h | h
      · cases h
      · exact h
    obtain ⟨a, n0, L0, e0, ha, hsa⟩ := isObj_inv hob
    cases as with
    | nil => simp at e0
    | cons v0 as' =>
      simp only [List.getElem?_cons_zero, Option.some.injEq] at e0
      subst e0
      simp only [List.length_cons] at hal
      rw [if_neg (by decide)] at hal
      have hret := (g12 hkd).2
      have hM2 : Met l (nm q.2.2.1) (Cond.code (nm q.2.2.1) (cd q.2.2.1) (mx q.2.2.1) none :: gw) ({ frames := d, cells := mc, slots := ms, locals := 40 * d }) (Px D cI cZ cV b base L xs (pR a :: as') sh M) (Qx D cI cZ cV b base L xs r sh' M') mc ms (pA base) := by rw [← hret]; exact hM
      have hgood : GoodIn gw (Cond.code (nm q.2.2.1) (cd q.2.2.1) (mx q.2.2.1) none :: gw) := by rw [← hret]; exact wsT_good ht
      split at hword
      · exact va_runIN (b := av b base a) (As := as'.map (cv b base)) hfix hM2 ⟨va_cnB (na q.2.2.1) hts hgood rfl rfl rfl hword hini ⟨g3, g4, g1⟩ hR, (g12 hkd).1, hts _ (g10 (by rw [hkd]; decide))⟩
          ⟨Px_blind, hpre⟩ rfl (by rw [List.length_map]; omega) hls (by rw [hsplit]; simp [cv]) (lv_room hroom) hd ⟨hc, hs⟩
      · exact va_runI (b := av b base a) (As := as'.map (cv b base)) hfix hM2 ⟨callB_of (na q.2.2.1) hts hgood rfl rfl rfl hini hword ⟨g3, g4, g1⟩ hR, (g12 hkd).1, hts _ (g10 (by rw [hkd]; decide))⟩
          ⟨Px_blind, hpre⟩ rfl (by rw [List.length_map]; omega) hls (by rw [hsplit]; simp [cv]) (lv_room hroom) hd ⟨hc, hs⟩
  · -- static
    rw [if_pos rfl] at hal
    split at hword
    · exact va_runSN (As := as.map (cv b base)) hfix hM ⟨va_cnB (na q.2.2.1) hts (wsT_good ht) rfl rfl rfl hword hini ⟨g3, g4, g1⟩ hR, hts _ (g9 hkd), trivial⟩
        ⟨Px_blind, hpre⟩ rfl (by rw [List.length_map]; omega) hls hsplit (lv_room hroom) hd ⟨hc, hs⟩
    · exact va_runS (As := as.map (cv b base)) hfix hM ⟨callB_of (na q.2.2.1) hts (wsT_good ht) rfl rfl rfl hini hword ⟨g3, g4, g1⟩ hR, hts _ (g9 hkd)⟩
        ⟨Px_blind, hpre⟩ rfl (by rw [List.length_map]; omega) hls hsplit (lv_room hroom) hd ⟨hc, hs⟩
end SM
end
section
/-! THE THEOREM: what the pure machine answers, the machine answers -/
theorem rets_inv {k : Nat} {i : Instr} {st : List PV} {r : Option PV} (h : rets k i st = some r) :
    (∃ x, i = .ireturn ∧ st = [.inl x] ∧ r = some (.inl x) ∧ (rt k = some .int ∨ rt k = some .boolean ∧ (x = 0 ∨ x = 1)))
    ∨ (∃ x, i = .lreturn ∧ st = [.inr (.inl x)] ∧ r = some (.inr (.inl x)) ∧ rt k = some .long)
    ∨ (∃ a n, i = .areturn ∧ st = [.inr (.inr (some a))] ∧ r = some (.inr (.inr (some a))) ∧ rt k = some (.object n))
    ∨ (i = .return_ ∧ st = [] ∧ r = none ∧ rt k = none) := by
  unfold rets at h
  split at h
  · rename_i x
    split at h
    · cases h; exact Or.inl ⟨x, rfl, rfl, rfl, Or.inl (by assumption)⟩
    · split at h
      · cases h; exact Or.inl ⟨x, rfl, rfl, rfl, Or.inr ⟨by assumption, by assumption⟩⟩
      · cases h
    · cases h
  · rename_i x
    split at h
    · cases h; exact Or.inr (Or.inl ⟨x, rfl, rfl, rfl, by assumption⟩)
    · cases h
  · rename_i a
    split at h
    · cases h; exact Or.inr (Or.inr (Or.inl ⟨a, _, rfl, rfl, rfl, by assumption⟩))
    · cases h
  · split at h
    · cases h; exact Or.inr (Or.inr (Or.inr ⟨rfl, rfl, rfl, by assumption⟩))
    · cases h
  · cases h
theorem rets_len {k : Nat} {i : Instr} {st : List PV} {r : Option PV} {len : Nat} (h : rets k i st = some r) (hl : lenOk i len = true) : len = 1 := by
  rcases rets_inv h with ⟨x, rfl, -⟩ | ⟨x, rfl, -⟩ | ⟨a, n, rfl, -⟩ | ⟨rfl, -⟩ <;> exact len1 hl
theorem call_len {k t len : Nat} {i : Instr} {st as rest : List PV} {sh : List PS} (h : callOf k i st sh = some (t, as, rest)) (hl : lenOk i len = true) : len = 3 := by
  obtain ⟨idx, z, q, hi, -⟩ := callOf_inv h
  rcases hi with ⟨-, rfl⟩ | ⟨-, rfl⟩ | ⟨-, rfl⟩ <;> exact len1 hl
theorem lv_args_mem {vs : List Value} (hc : ∀ v ∈ vs, v.category = 1) : ∀ (i0 j : Nat) (v : Value), vs[j]? = some v → (i0 + j, v) ∈ lv_args i0 vs := by
  induction vs with
  | nil => intro i0 j v h; simp at h
  | cons w r ih =>
    intro i0 j v h
    unfold lv_args
    rw [if_neg (by rw [hc w List.mem_cons_self]; decide)]
    cases j with
    | zero =>
      simp only [List.getElem?_cons_zero, Option.some.injEq] at h
      subst h
      exact List.mem_cons_self
    | succ j =>
      simp only [List.getElem?_cons_succ] at h
      have := ih (fun v hv => hc v (List.mem_cons_of_mem _ hv)) (i0 + 1) j v h
      rw [show i0 + 1 + j = i0 + (j + 1) by omega] at this
      exact List.mem_cons_of_mem _ this
theorem lg_sl_len {vs : List Value} (hc : ∀ v ∈ vs, v.category = 1) : (lg_sl vs).length = vs.length := by
  induction vs with
  | nil => rfl
  | cons w r ih =>
    unfold lg_sl at ih ⊢
    rw [List.flatMap_cons, List.length_append, ih (fun v hv => hc v (List.mem_cons_of_mem _ hv)), if_neg (by rw [hc w List.mem_cons_self]; decide)]
    simp
    omega
theorem plv_ent {b base t : Nat} {as : List PV} (ho : okS as) (hl : as.any isL = false) (hm : as.length ≤ mx t) : plv b base ((lg_sl (as.map (cv b base)) ++ List.replicate (mx t - (lg_sl (as.map (cv b base))).length) Slot.unset).toArray) (mx t) (ent t as) := by
  have hc : ∀ v ∈ as.map (cv b base), v.category = 1 := by
    intro v hv
    obtain ⟨w, hw, rfl⟩ := List.mem_map.mp hv
    have := List.any_eq_false.mp hl w hw
    exact cat_cv (by simpa using this)
  have hlen := lg_sl_len hc
  rw [List.length_map] at hlen
  have h1 := lv_entry (as.map (cv b base)) (n := mx t) (by rw [hlen]; exact hm)
  refine ⟨h1.1, h1.2.1, by unfold ent; rw [List.length_append, List.length_map, List.length_replicate]; omega, ?_, ?_⟩
  · intro v hv
    unfold ent at hv
    rcases List.mem_append.mp hv with q | q
    · obtain ⟨w, hw, hwv⟩ := List.mem_map.mp q
      cases hwv
      exact ⟨ho v hw, by have := List.any_eq_false.mp hl v hw; simpa using this⟩
    · have := List.eq_of_mem_replicate q
      cases this
  · intro i v hv
    unfold ent at hv
    by_cases hi : i < as.length
    · rw [List.getElem?_append_left (by rw [List.length_map]; exact hi), List.getElem?_map] at hv
      cases ha : as[i]? with
      | none => rw [ha] at hv; cases hv
      | some w =>
        rw [ha] at hv
        cases hv
        have := lv_args_mem hc 0 i (cv b base v) (by rw [List.getElem?_map, ha]; rfl)
        rw [Nat.zero_add] at this
        exact h1.2.2 (i, cv b base v) this
    · rw [List.getElem?_append_right (by rw [List.length_map]; omega), List.getElem?_replicate] at hv
      split at hv <;> cases hv
section SN
variable {p : Program} {l : Launch} {e : Env} {R : Room} {s : State} {m : MethodId} {args : Array Value} {below : List Frame} {meth : Method} {c : Code} {H : Heap} {locs : List Loc} {cells slots : Nat} {Q : State → Prop} {pc : Nat} {ls : Array Slot}
variable {D : va_G} {cI cZ cV : ClassId} {b base L : Nat} {xs : Nat → Int32} {d k : Nat} {sh sh' : List PS} {M M' : PM}
theorem ps_snd {i : Instr} {len pc' : Nat} {lc lc' : PL} {st st' : List PV} (h : ps d k i len pc lc st sh M = some (pc', lc', st', sh', M')) (hlen : lenOk i len = true) (F : Fx D cI cZ cV b base L xs d k p R s m args meth c) (hl : plv b base ls (mx k) lc) (hw : pw D cI cZ cV b base L xs sh M H) (hS0 : va_S (pA base) s.heap H locs) (hd : decode (cd k) pc = .ok (i, len)) (hst : okS st)
    (hc : cells + (sh'.length - sh.length) ≤ R.cells) (hs : slots + (zs sh' - zs sh) ≤ R.slots)
    (kk : ∀ (H' : Heap) (locs' : List Loc) (ls' : Array Slot), plv b base ls' (mx k) lc' → okS st' → pw D cI cZ cV b base L xs sh' M' H' → va_S (pA base) s.heap H' locs' → W p l e R s m args below meth c H' locs' (cells + (sh'.length - sh.length)) (slots + (zs sh' - zs sh)) Q (F0 m pc' ls' (st'.map (cv b base)))) : W p l e R s m args below meth c H locs cells slots Q (F0 m pc ls (st.map (cv b base))) := by
  have hx := F.1
  have hb := F.2.1
  unfold ps at h
  split at h
  · rename_i hh
    cases h
    simp only [Nat.sub_self, Nat.add_zero] at kk
    exact psA_snd hh hlen hx hb hd hst fun o => kk H locs ls hl o hw hS0
  · split at h
    · rename_i hh
      cases h
      simp only [Nat.sub_self, Nat.add_zero] at kk
      exact psL_snd hh hlen hx hb hd hst hl fun ls' o hl' => kk H locs ls' hl' o hw hS0
    · split at h
      · rename_i hh
        cases h
        simp only [Nat.sub_self, Nat.add_zero] at kk
        exact psB_snd hh hlen hx hb hd hst fun o => kk H locs ls hl o hw hS0
      · split at h
        · rename_i hh
          cases h
          exact psH_snd hh hlen F hw hS0 hd hst hc hs fun H' locs' o w1 w2 => kk H' locs' ls hl o w1 w2
        · split at h
          · rename_i hh
            cases h
            simp only [Nat.sub_self, Nat.add_zero] at kk hc hs
            exact psM_snd hh hlen F hl.1 hd hst hc hs fun o => kk H locs ls hl o hw hS0
          · cases h
end SN
def Snd (D : va_G) (cI cZ cV : ClassId) (b base L : Nat) (xs : Nat → Int32) (n : Nat) : Prop :=
  ∀ (d k pc : Nat) (lc : PL) (st : List PV) (sh : List PS) (M : PM) (r : Option PV) (sh' : List PS) (M' : PM), run n d k pc lc st sh M = some (r, sh', M') →
  ∀ (p : Program) (l : Launch) (e : Env) (R : Room) (s : State) (m : MethodId) (args : Array Value) (below : List Frame) (meth : Method) (c : Code) (H : Heap) (locs : List Loc) (cells slots : Nat) (Q : State → Prop) (ls : Array Slot),
  Fx D cI cZ cV b base L xs d k p R s m args meth c → plv b base ls (mx k) lc → okS st → pw D cI cZ cV b base L xs sh M H → va_S (pA base) s.heap H locs → cells + (sh'.length - sh.length) ≤ R.cells → slots + (zs sh' - zs sh) ≤ R.slots →
  (∀ (H' : Heap) (locs' : List Loc) (ls' : Array Slot) (pc' : Nat) (i : Instr) (st' : List PV), decode (cd k) pc' = .ok (i, 1) → rets k i st' = some r → okS st' → pw D cI cZ cV b base L xs sh' M' H' → va_S (pA base) s.heap H' locs' → W p l e R s m args below meth c H' locs' (cells + (sh'.length - sh.length)) (slots + (zs sh' - zs sh)) Q (F0 m pc' ls' (st'.map (cv b base)))) →
  W p l e R s m args below meth c H locs cells slots Q (F0 m pc ls (st.map (cv b base)))
set_option maxHeartbeats 4000000 in
theorem mk_ctr {D : va_G} {cI cZ cV : ClassId} {b base L : Nat} {xs : Nat → Int32} {n d t : Nat} {as : List PV} {sh sh' : List PS} {M M' : PM} {r : Option PV} (hbb : b ≤ base) (ih : Snd D cI cZ cV b base L xs n) (l : Launch) (hrun : run n d t 0 (ent t as) [] sh M = some (r, sh', M')) (ht : t < 134) (ho : okS as) (hal : as.any isL = false) (hm : as.length ≤ mx t) :
    Met l (nm t) (wsT t) ({ frames := d, cells := sh'.length - sh.length, slots := zs sh' - zs sh, locals := 40 * d }) (Px D cI cZ cV b base L xs as sh M) (Qx D cI cZ cV b base L xs r sh' M') (sh'.length - sh.length) (zs sh' - zs sh) (pA base) := by
  obtain ⟨g1, g2, g3, g4, g5, g6, g7, g8, g9, g10, g11, g12⟩ := mt_facts ht
  refine Met.ofW (cc := cd t) (maxL := mx t) (ret := rt t) g5 rfl ?_
  intro p e s m args below meth c s₁ B hml hv
  obtain ⟨rfl, hpw, hK, hX⟩ := hv
  have hx := B.exec
  have hb := B.bytes
  have hr := B.returns
  have hts0 := atoms_spec (ws := wsT t) B.pre
  have hown : s.vm.findClass (nm t).cls = some m.cls := findClass_of_methodNamed B.named
  have hlocks := B.notSynchronized
  have hname : meth.name = (nm t).name := (name_of_methodNamed B.named B.method).1
  rw [lg_entry_eq]
  refine ih d t 0 (ent t as) [] sh M r sh' M' hrun p l e _ s m _ below meth c s.heap [] 0 0 _ _ ⟨hx, hb, hml, by rw [← g2]; exact hown, fun w hw => hts0 w (List.mem_cons_of_mem _ hw), Nat.le_refl d, Nat.le_refl (40 * d), fun q => by rw [hname]; exact (g12 q).1, hK, hX, hbb, (pw_ne hpw).2⟩ (plv_ent ho hal hm) (fun v hv => by cases hv) hpw va_S.rf (by rw [Nat.zero_add]; exact Nat.le_refl _) (by rw [Nat.zero_add]; exact Nat.le_refl _) ?_
  intro H' locs' ls' pc' i st' hd hret hst' hw' hS'
  rw [Nat.zero_add, Nat.zero_add]
  rcases rets_inv hret with ⟨x, rfl, rfl, rfl, hrt⟩ | ⟨x, rfl, rfl, rfl, hrt⟩ | ⟨a, nn, rfl, rfl, rfl, hrt⟩ | ⟨rfl, rfl, rfl, hrt⟩
  · rcases hrt with hrt | ⟨hrt, h01⟩
    · exact W.iret (v := Int32.ofInt x) hx hb (by rw [hr, hrt]) (fun t2 ht2 hW => ⟨rfl, by rw [ht2]; exact hw', okS_h hst', hS'.F ht2⟩) hS'.2.2 hd
    · exact W.zret (v := Int32.ofInt x) (ty := .boolean) hx hb (by rw [hr, hrt]) (by rcases h01 with rfl | rfl <;> decide) (fun t2 ht2 hW => ⟨rfl, by rw [ht2]; exact hw', okS_h hst', hS'.F ht2⟩) hS'.2.2 hd
  · exact W.lret (v := Int64.ofInt x) hx hb (by rw [hr, hrt]) (fun t2 ht2 hW => ⟨rfl, by rw [ht2]; exact hw', okS_h hst', hS'.F ht2⟩) hS'.2.2 hd
  · exact W.aret (v := .ref (av b base a)) (rt := .object nn) hx hb (by rw [hr, hrt]) (Or.inl ⟨nn, rfl⟩) (Or.inr ⟨_, rfl⟩) (fun t2 ht2 hW => ⟨rfl, by rw [ht2]; exact hw', trivial, hS'.F ht2⟩) hS'.2.2 hd
  · exact W.vret hx hb (by rw [hr, hrt]) (fun t2 ht2 hW => ⟨rfl, by rw [ht2]; exact hw', trivial, hS'.F ht2⟩) hS'.2.2 hd
set_option maxHeartbeats 4000000 in
theorem snd {D : va_G} {cI cZ cV : ClassId} {b base L : Nat} {xs : Nat → Int32} (hbb : b ≤ base) : ∀ n : Nat, Snd D cI cZ cV b base L xs n := by
  intro n
  induction n with
  | zero => intro d k pc lc st sh M r sh' M' h; cases h
  | succ n ih =>
    intro d k pc lc st sh M r sh' M' h p l e R s m args below meth c H locs cells slots Q ls F hl hst hw hS hc hs kk
    have hmono := run_mono _ h
    unfold run at h
    split at h
    · cases h
    · rename_i i len hd
      split at h
      · cases h
      · rename_i hlen
        have hlen : lenOk i len = true := by simpa using hlen
        split at h
        · rename_i pc1 lc1 st1 sh1 M1 hps
          have m1 := ps_mono hps
          have m2 := run_mono _ h
          refine ps_snd hps hlen F hl hw hS hd hst (by omega) (by omega) fun H' locs' ls' l1 o1 w1 s1 => ?_
          refine ih d k pc1 lc1 st1 sh1 M1 r sh' M' h p l e R s m args below meth c H' locs' _ _ Q ls' F l1 o1 w1 s1 (by omega) (by omega) fun H2 locs2 ls2 pc2 i2 st2 hd2 hr2 ho2 hw2 hS2 => ?_
          exact W.cs (by omega) (by omega) (kk H2 locs2 ls2 pc2 i2 st2 hd2 hr2 ho2 hw2 hS2)
        · split at h
          · rename_i r0 hret
            cases h
            have := rets_len hret hlen
            subst this
            have k1 := kk H locs ls pc i st hd hret hst hw hS
            simp only [Nat.sub_self, Nat.add_zero] at k1
            exact k1
          · split at h
            · cases h
            · rename_i t as rest hcall
              have := call_len hcall hlen
              subst this
              split at h
              · cases h
              · rename_i d'
                split at h
                · cases h
                · rename_i r1 sh1 M1 hrun1
                  have m1 := run_mono _ hrun1
                  have m2 := run_mono _ h
                  obtain ⟨idx, z, q, -, -, -, has, hrest, ht, -, hlen2, -, hmx, hany, -⟩ := callOf_inv hcall
                  have hoas : okS as := fun v hv => hst v (by rw [has] at hv; exact List.mem_of_mem_take (List.mem_reverse.mp hv))
                  have hal : as.length ≤ mx t := by rw [has, List.length_reverse, List.length_take]; omega
                  have hM := mk_ctr hbb ih l hrun1 ht hoas hany hal
                  refine pk_call (pk_run hcall hlen F hw hS hl.1 hd hM (by omega) (by omega)) hS fun H1 locs1 w1 ok1 s1 => ?_
                  have e1 : (r1.map (cv b base)).toList ++ rest.map (cv b base) = (r1.toList ++ rest).map (cv b base) := by cases r1 <;> rfl
                  rw [e1]
                  have ho1 : okS (r1.toList ++ rest) := by
                    intro v hv
                    rcases List.mem_append.mp hv with q1 | q1
                    · cases r1 with
                      | none => cases q1
                      | some w =>
                        have : v = w := by simpa using q1
                        subst this
                        exact ok1
                    · exact hst v (by rw [hrest] at q1; exact List.mem_of_mem_drop q1)
                  refine ih _ k (pc + 3) lc (r1.toList ++ rest) sh1 M1 r sh' M' h p l e R s m args below meth c H1 locs1 _ _ Q ls F hl ho1 w1 s1 (by omega) (by omega) fun H2 locs2 ls2 pc2 i2 st2 hd2 hr2 ho2 hw2 hS2 => ?_
                  exact W.cs (by omega) (by omega) (kk H2 locs2 ls2 pc2 i2 st2 hd2 hr2 ho2 hw2 hS2)
end
section
/-! THE CLAIM OUT OF ONE WALK OF THE LAW'S BODY. Your part is whole_start (and what it stands on); all else here is the same for every law, but numbers. -/
def R_law : String := "SilentAfterLaw"
def lw_P (b : Addr) (xs : List Int32) (args : Array Value) (s : State) : Prop := args = #[.ref b] ∧ s.IntsAt b xs ∧ xs.length ≤ 3584 ∧ (Jvm.Cond.and given_1 narrow_1).before args s = true
def lw_Q (_ : Array Value) (s : State) (o : Outcome) (t : State) : Prop := o = .returned (some (.int 1)) ∧ Framed s o t [] 600000 7302250
def lw_Z (below : List Frame) (a : Array Value) (s : State) : State → Prop := fun t => ∃ o, t.status = .running ∧ Ended t below o ∧ lw_Q a s o t
/-- the law's own end, with 1 on the stack, nothing written that was there before, its room as the claim has it -/
theorem lw_ret {p : Program} {l : Launch} {e : Env} {s : State} {m : MethodId} {below : List Frame} {meth : Method} {c : Code} {b : Nat} (hx : p.tables.exec = Jvm.exec) (hb : c.code = code) (hr : meth.sig.returnType = ret) (hlocks : meth.locks = false) {pc : Nat} {H : Heap} {ls : Array Slot} (hdg : decode code pc = .ok (.ireturn, 1)) : W p l e room_1 s m #[Value.ref b] below meth c H [] 600000 7302250 (lw_Z below #[Value.ref b] s) (F0 m pc ls [.int 1]) := by
  intro T hT X
  obtain ⟨fs, hret, hrun, hended, hW, hframe⟩ := X.leave (v := some (.int 1)) (hlocks := hlocks) (fun h => by rw [hr] at h; cases h)
  have hmeth' : T.vm.method? m = some meth := X.method'
  refine ⟨T.setFrames fs, ?_, .returned (some (.int 1)), hrun, hended, rfl, ⟨_, rfl⟩, hW, hframe⟩
  jvm_step X.here [X.here.top, hx, hb, hdg, hmeth', hr, ret, narrow_b1]
  (try refine ⟨rfl, ?_⟩); (try refine ⟨rfl, ?_⟩)
  first | (intro acts; rw [hret _ acts rfl rfl rfl]) | rw [hret _ _ rfl rfl rfl]
  exact Steps.refl _
/-- what holds at the law's entry: the machine, the code, the tables' words (any of lw_tbl by 'hts w (by decide +kernel)'), the script of L ints xs at the cell b, what the Statement gives of the start (any of its parts by flat_of_before) -/
def lw_At (p : Program) (s : State) (m : MethodId) (meth : Method) (c : Code) (b L : Nat) (xs : Nat → Int32) : Prop :=
  p.tables.exec = Jvm.exec ∧ c.code = code ∧ meth.sig.returnType = ret ∧ c.maxLocals = 4 ∧ s.vm.findClass R_law = some m.cls ∧ (∀ w ∈ lw_tbl, w.before #[Value.ref b] s = true) ∧ va_X b L xs s s.heap ∧ b < s.heap.size ∧ meth.locks = false ∧ (Jvm.Cond.and given_1 narrow_1).before #[Value.ref b] s = true
/-! the law's start: the world of the pure machine at its entry, and the claim out of a run of it -/
theorem cl_inst : ∀ c, c < 8 → ∃ q ∈ NC, q.2.2.1 = c := by decide +kernel
theorem law_world {s : State} {args : Array Value} (hts : ∀ w ∈ lw_tbl, w.before args s = true) : ∃ (D : va_G) (cI cZ cV : ClassId), Kst D cI cZ cV s := by
  have htg : ∀ w ∈ gw, w.before args s = true := fun w hw => hts w (List.mem_filter.mp hw).1
  have h : ∀ k, ∃ (x : ClassId × (Nat → Nat)), k < 8 → u_Kn s (cn k) (fT k) (fN k) x.1 x.2 := by
    intro k
    by_cases hk : k < 8
    · obtain ⟨q, hq, rfl⟩ := cl_inst k hk
      obtain ⟨cC, iS, hh⟩ := u_known (n := fN q.2.2.1) htg (cl_in _ hk) (htg _ (NC_w q hq).2.1)
      exact ⟨(cC, iS), fun _ => hh⟩
    · exact ⟨(0, fun _ => 0), fun z => absurd z hk⟩
  obtain ⟨cI, kI, compI, i1, i2, i3⟩ := Cond.arrayClass_spec (htg _ tw_i)
  obtain ⟨cZ, kZ, compZ, z1, z2, z3⟩ := Cond.arrayClass_spec (htg _ tw_z)
  have hV := hts _ (List.mem_of_getElem? tb_v)
  obtain ⟨compV, cV, kV, v1, v2, v3, v4, v5⟩ := Cond.arrayOver_spec hV
  refine ⟨(fun k => (Classical.choose (h k)).1, fun k => (Classical.choose (h k)).2), cI, cZ, cV, ⟨fun k q hq => ?_, fun k q hq => ?_⟩, va_AO.of hV, fun w hw => va_Nw.of (nw_tab hw) (hts w (List.mem_filter.mp hw).1)⟩
  · have hk : k < 8 := (List.getElem?_eq_some_iff.mp hq).1
    have e := cl_at hk
    rw [hq] at e
    cases e
    exact Classical.choose_spec (h k) hk
  · match k, hq with
    | 0, hq => cases hq; exact ⟨fun n z => ⟨(fun k h => by cases h), kI, i2, compI, i3⟩, i1⟩
    | 1, hq => cases hq; exact ⟨fun n z => ⟨(fun k h => by cases h), kZ, z2, compZ, z3⟩, z1⟩
    | 2, hq => cases hq; exact ⟨fun n z => ⟨(fun k h => by cases h), kV, v3, compV, v4⟩, kV, compV, v3, v4, v1, v5⟩
    | k + 3, hq => simp at hq
/-- the memory at the law's entry: the script -/
def M0 (xs : Nat → Int32) : PM := fun a i => if a = 0 then (xs i).toInt else 0
set_option maxHeartbeats 4000000 in
theorem law_of_run {p : Program} {e : Env} {s : State} {m : MethodId} {below : List Frame} {meth : Method} {c : Code} (l : Launch) {b L : Nat} {xs : Nat → Int32} (hL : L ≤ 3584) (C0 : lw_At p s m meth c b L xs)
    (hrun : ∃ (n : Nat) (sh' : List PS) (M' : PM), run n 2000 134 0 (ent 134 [pR 0]) [] [(11, L, [])] (M0 xs) = some (some (pI 1), sh', M') ∧ sh'.length ≤ 600000 ∧ zs sh' ≤ 7302250) :
    W p l e room_1 s m #[Value.ref b] below meth c s.heap [] 0 0 (lw_Z below #[Value.ref b] s) (entryFrame m ([Value.ref b] : List Value).toArray 4) := by
  obtain ⟨hx, hb, hr, hml, hown, hts, hX, hbl, hlocks, hgv⟩ := C0
  obtain ⟨D, cI, cZ, cV, hK⟩ := law_world hts
  obtain ⟨n, sh', M', hrun, hz1, hz2⟩ := hrun
  obtain ⟨base, hbase⟩ : ∃ base, s.heap.size = base + 1 := ⟨s.heap.size - 1, by omega⟩
  have hbb : b ≤ base := by omega
  have e0 : ([Value.ref b] : List Value) = ([pR 0] : List PV).map (cv b base) := rfl
  have hpl := plv_ent (b := b) (base := base) (t := 134) (as := [pR 0]) (fun v hv => by rw [List.mem_singleton.mp hv]; trivial) rfl (by show 1 ≤ 4; decide)
  have hpw : pw D cI cZ cV b base L xs [(11, L, [])] (M0 xs) s.heap := by
    refine ⟨hbase, fun k s0 hk hs0 => ?_, ⟨[], rfl⟩, fun i hi => rfl, fun a i => ?_, fun s0 hs0 => ?_⟩
    · cases k with
      | zero => exact absurd rfl hk
      | succ k => simp at hs0
    · unfold M0
      split
      · exact okI_ti _
      · exact okI_0
    · rw [List.mem_singleton.mp hs0]
      show L < 2147483648
      omega
  rw [lg_entry_eq]
  refine snd hbb n 2000 134 0 (ent 134 [pR 0]) [] [(11, L, [])] (M0 xs) (some (pI 1)) sh' M' hrun p l e room_1 s m _ below meth c s.heap [] 0 0 _ _ ⟨hx, hb, hml, hown, fun w hw => hts w (List.mem_filter.mp hw).1, Nat.le_of_ble_eq_true rfl, Nat.le_of_ble_eq_true rfl, fun q => absurd q (by decide +kernel), hK, hX, hbb, by omega⟩ hpl (fun v hv => by cases hv) hpw va_S.rf ?_ ?_ ?_
  · show 0 + (sh'.length - 1) ≤ 600000
    omega
  · show 0 + (zs sh' - zs [(11, L, [])]) ≤ 7302250
    omega
  · intro H' locs' ls' pc' i st' hd hret hst' hw' hS'
    have h1 : st' = [.inl 1] ∧ i = .ireturn := by
      rcases rets_inv hret with ⟨x, rfl, rfl, hq, -⟩ | ⟨x, rfl, rfl, hq, -⟩ | ⟨a, nn, rfl, rfl, hq, -⟩ | ⟨rfl, rfl, hq, -⟩
      · cases hq; exact ⟨rfl, rfl⟩
      · cases hq
      · cases hq
      · cases hq
    obtain ⟨rfl, rfl⟩ := h1
    refine va_forget (fun q hq => ?_) ?_
    · have := hS'.2.2 q hq
      show s.heap.size ≤ q.base
      rw [hbase]
      exact this
    · refine W.widen (k := 600000) (n := 7302250) (by show 0 + (sh'.length - 1) ≤ 600000; omega) (by show 0 + (zs sh' - zs [(11, L, [])]) ≤ 7302250; omega) ?_
      exact lw_ret hx hb hr hlocks hd
end
section
/-! runs as values: ev; its equations -/
theorem run_le : ∀ (n m : Nat) {d k pc : Nat} {lc : PL} {st : List PV} {sh : List PS} {M : PM} {r : PR}, n ≤ m → run n d k pc lc st sh M = some r → run m d k pc lc st sh M = some r := by
  intro n
  induction n with
  | zero => intro m d k pc lc st sh M r _ h; cases h
  | succ n ih =>
    intro m d k pc lc st sh M r hm h
    obtain ⟨m, rfl⟩ : ∃ m', m = m' + 1 := ⟨m - 1, by omega⟩
    unfold run at h ⊢
    split at h
    · cases h
    · rename_i i len hd
      try rw [hd]
      try dsimp only
      split at h
      · cases h
      · rename_i hlen
        try rw [if_neg hlen]
        split at h
        · rename_i pc1 lc1 st1 sh1 M1 hps
          try rw [hps]
          exact ih m (by omega) h
        · rename_i hps
          try rw [hps]
          try dsimp only
          split at h
          · rename_i r0 hr
            try rw [hr]
            exact h
          · rename_i hr
            try rw [hr]
            try dsimp only
            split at h
            · cases h
            · rename_i t as rest hc
              try rw [hc]
              try dsimp only
              split at h
              · cases h
              · split at h
                · cases h
                · rename_i r1 sh1 M1 h1
                  rw [ih m (by omega) h1]
                  exact ih m (by omega) h
noncomputable def ev (d k pc : Nat) (lc : PL) (st : List PV) (sh : List PS) (M : PM) : Option PR :=
  @dite _ (∃ r : PR, ∃ n, run n d k pc lc st sh M = some r) (Classical.propDecidable _) (fun h => some (Classical.choose h)) (fun _ => none)
theorem ev_iff {d k pc : Nat} {lc : PL} {st : List PV} {sh : List PS} {M : PM} {r : PR} : ev d k pc lc st sh M = some r ↔ ∃ n, run n d k pc lc st sh M = some r := by
  unfold ev
  constructor
  · intro h
    split at h
    · rename_i hx
      cases h
      exact Classical.choose_spec hx
    · cases h
  · intro h
    have hx : ∃ r : PR, ∃ n, run n d k pc lc st sh M = some r := ⟨r, h⟩
    rw [dif_pos hx]
    obtain ⟨n1, h1⟩ := Classical.choose_spec hx
    obtain ⟨n2, h2⟩ := h
    have e1 := run_le n1 (n1 + n2) (Nat.le_add_right _ _) h1
    have e2 := run_le n2 (n1 + n2) (Nat.le_add_left _ _) h2
    rw [← e1, e2]
noncomputable def den (d t : Nat) (as : List PV) (sh : List PS) (M : PM) : Option PR := ev d t 0 (ent t as) [] sh M
theorem ev_of {d k pc : Nat} {lc : PL} {st : List PV} {sh : List PS} {M : PM} {i : Instr} {len : Nat} (hd : decode (cd k) pc = .ok (i, len)) (hl : lenOk i len = true) (n : Nat) : run (n + 1) d k pc lc st sh M = match ps d k i len pc lc st sh M with
      | some (pc', lc', st', sh', M') => run n d k pc' lc' st' sh' M'
      | none => match rets k i st with
        | some r => some (r, sh, M)
        | none => match callOf k i st sh with
          | none => none
          | some (t, as, rest) => match d with
            | 0 => none
            | d' + 1 => match run n d' t 0 (ent t as) [] sh M with
              | none => none
              | some (r, sh', M') => run n (d' + 1) k (pc + 3) lc (r.toList ++ rest) sh' M' := by
  show (match decode (cd k) pc with | .error _ => none | .ok (i, len) => _) = _
  rw [hd]
  show (if lenOk i len = false then none else _) = _
  rw [if_neg (by rw [hl]; decide)]
  rfl
theorem ev_ext {d k pc d' k' pc' : Nat} {lc lc' : PL} {st st' : List PV} {sh sh' : List PS} {M M' : PM} (h : ∀ n, run (n + 1) d k pc lc st sh M = run n d' k' pc' lc' st' sh' M') : ev d k pc lc st sh M = ev d' k' pc' lc' st' sh' M' := by
  apply Option.ext
  intro r
  rw [ev_iff, ev_iff]
  constructor
  · rintro ⟨n, hn⟩
    cases n with
    | zero => cases hn
    | succ n => exact ⟨n, by rw [← h]; exact hn⟩
  · rintro ⟨n, hn⟩
    exact ⟨n + 1, by rw [h]; exact hn⟩
theorem ev_ps {d k pc pc' : Nat} {lc lc' : PL} {st st' : List PV} {sh sh' : List PS} {M M' : PM} {i : Instr} {len : Nat} (hd : decode (cd k) pc = .ok (i, len)) (hl : lenOk i len = true) (h : ps d k i len pc lc st sh M = some (pc', lc', st', sh', M')) : ev d k pc lc st sh M = ev d k pc' lc' st' sh' M' :=
  ev_ext fun n => by rw [ev_of hd hl, h]
theorem ev_ret {d k pc : Nat} {lc : PL} {st : List PV} {sh : List PS} {M : PM} {i : Instr} {len : Nat} {r : Option PV} (hd : decode (cd k) pc = .ok (i, len)) (hl : lenOk i len = true) (h0 : ps d k i len pc lc st sh M = none) (h : rets k i st = some r) : ev d k pc lc st sh M = some (r, sh, M) :=
  ev_iff.mpr ⟨1, by rw [ev_of hd hl, h0, h]⟩
theorem ev_call {d k pc t : Nat} {lc : PL} {st as rest : List PV} {sh : List PS} {M : PM} {i : Instr} {len : Nat} (hd : decode (cd k) pc = .ok (i, len)) (hl : lenOk i len = true) (h0 : ps (d + 1) k i len pc lc st sh M = none) (h1 : rets k i st = none) (h2 : callOf k i st sh = some (t, as, rest)) :
    ev (d + 1) k pc lc st sh M = (den d t as sh M).bind fun x => ev (d + 1) k (pc + 3) lc (x.1.toList ++ rest) x.2.1 x.2.2 := by
  apply Option.ext
  intro r
  rw [ev_iff]
  constructor
  · rintro ⟨n, hn⟩
    cases n with
    | zero => cases hn
    | succ n =>
      rw [ev_of hd hl, h0, h1, h2] at hn
      dsimp only at hn
      split at hn
      · cases hn
      · rename_i r1 sh1 M1 hr
        rw [show den d t as sh M = some (r1, sh1, M1) from ev_iff.mpr ⟨n, hr⟩]
        exact ev_iff.mpr ⟨n, hn⟩
  · intro h
    cases hde : den d t as sh M with
    | none => rw [hde] at h; cases h
    | some x =>
      rw [hde] at h
      obtain ⟨n2, h2'⟩ := ev_iff.mp (show ev (d + 1) k (pc + 3) lc (x.1.toList ++ rest) x.2.1 x.2.2 = some r from h)
      obtain ⟨n1, h1'⟩ := ev_iff.mp (show ev d t 0 (ent t as) [] sh M = some x from hde)
      refine ⟨n1 + n2 + 1, ?_⟩
      rw [ev_of hd hl, h0, h1, h2]
      dsimp only
      rw [run_le n1 (n1 + n2) (Nat.le_add_right _ _) h1']
      exact run_le n2 (n1 + n2) (Nat.le_add_left _ _) h2'
/-- a step whose heap part is open -/
theorem ev_none {d k pc : Nat} {lc : PL} {st : List PV} {sh : List PS} {M : PM} {i : Instr} {len : Nat} (hd : decode (cd k) pc = .ok (i, len)) (hl : lenOk i len = true) (h0 : ps d k i len pc lc st sh M = none) (h1 : rets k i st = none) (h2 : callOf k i st sh = none) : ev d k pc lc st sh M = none := by
  cases h : ev d k pc lc st sh M with
  | none => rfl
  | some r =>
    obtain ⟨n, hn⟩ := ev_iff.mp h
    cases n with
    | zero => cases hn
    | succ n => rw [ev_of hd hl, h0, h1, h2] at hn; cases hn
theorem ev_bindV {d k pc : Nat} {lc : PL} {st st' : List PV} {sh : List PS} {M : PM} {i : Instr} {len : Nat} (o : Option PV) (hd : decode (cd k) pc = .ok (i, len)) (hl : lenOk i len = true) (h : ps d k i len pc lc st sh M = o.bind fun v => some (pc + len, lc, v :: st', sh, M)) (h1 : rets k i st = none) (h2 : callOf k i st sh = none) :
    ev d k pc lc st sh M = o.bind fun v => ev d k (pc + len) lc (v :: st') sh M := by
  cases o with
  | none => exact ev_none hd hl h h1 h2
  | some v => exact ev_ps hd hl h
theorem ev_bindM {d k pc : Nat} {lc : PL} {st st' : List PV} {sh : List PS} {M : PM} {i : Instr} {len : Nat} (o : Option PM) (hd : decode (cd k) pc = .ok (i, len)) (hl : lenOk i len = true) (h : ps d k i len pc lc st sh M = o.bind fun M' => some (pc + len, lc, st', sh, M')) (h1 : rets k i st = none) (h2 : callOf k i st sh = none) :
    ev d k pc lc st sh M = o.bind fun M' => ev d k (pc + len) lc st' sh M' := by
  cases o with
  | none => exact ev_none hd hl h h1 h2
  | some v => exact ev_ps hd hl h
theorem ev_bindS {d k pc : Nat} {lc : PL} {st st' : List PV} {sh : List PS} {M : PM} {i : Instr} {len : Nat} (o : Option (List PS)) (hd : decode (cd k) pc = .ok (i, len)) (hl : lenOk i len = true) (h : ps d k i len pc lc st sh M = o.bind fun sh' => some (pc + len, lc, st', sh', M)) (h1 : rets k i st = none) (h2 : callOf k i st sh = none) :
    ev d k pc lc st sh M = o.bind fun sh' => ev d k (pc + len) lc st' sh' M := by
  cases o with
  | none => exact ev_none hd hl h h1 h2
  | some v => exact ev_ps hd hl h
theorem ps_V {d k pc len : Nat} {lc : PL} {st st' : List PV} {sh : List PS} {M : PM} {i : Instr} {o : Option PV} (hA : psA i st = none) (hL : psL i lc st = none) (hB : psB i pc st = none) (hM : psM d k i st = none) (hH : psH k i st sh M = o.bind fun v => some (v :: st', sh, M)) : ps d k i len pc lc st sh M = o.bind fun v => some (pc + len, lc, v :: st', sh, M) := by
  unfold ps
  rw [hA, hL, hB, hH, hM]
  cases o <;> rfl
theorem ps_M {d k pc len : Nat} {lc : PL} {st st' : List PV} {sh : List PS} {M : PM} {i : Instr} {o : Option PM} (hA : psA i st = none) (hL : psL i lc st = none) (hB : psB i pc st = none) (hM : psM d k i st = none) (hH : psH k i st sh M = o.bind fun M' => some (st', sh, M')) : ps d k i len pc lc st sh M = o.bind fun M' => some (pc + len, lc, st', sh, M') := by
  unfold ps
  rw [hA, hL, hB, hH, hM]
  cases o <;> rfl
theorem ps_S {d k pc len : Nat} {lc : PL} {st st' : List PV} {sh : List PS} {M : PM} {i : Instr} {o : Option (List PS)} (hA : psA i st = none) (hL : psL i lc st = none) (hB : psB i pc st = none) (hM : psM d k i st = none) (hH : psH k i st sh M = o.bind fun sh' => some (st', sh', M)) : ps d k i len pc lc st sh M = o.bind fun sh' => some (pc + len, lc, st', sh', M) := by
  unfold ps
  rw [hA, hL, hB, hH, hM]
  cases o <;> rfl
section EV
variable {d k pc t : Nat} {lc : PL} {st : List PV} {sh : List PS} {M : PM} {x y : Int} {off : Int} {a : Nat}
theorem eif {α : Type} {c : Prop} [h : Decidable c] {b : Bool} (e : b = decide c) (f : Nat → α) (u v : Nat) : f (if b = true then u else v) = if c then f u else f v := by
  subst e
  by_cases hc : c <;> simp [hc]
theorem eifn {α : Type} {c : Prop} [h : Decidable c] {b : Bool} (e : b = !decide c) (f : Nat → α) (u v : Nat) : f (if b = true then u else v) = if c then f v else f u := by
  subst e
  by_cases hc : c <;> simp [hc]
theorem ev_icmp {c : ClassFile.Cond} (hd : decode (cd k) pc = .ok (.if_icmp c off, 3)) (ht : tg pc off = some t) : ev d k pc lc (.inl y :: .inl x :: st) sh M = ev d k (if cnd c x y = true then t else pc + 3) lc st sh M :=
  ev_ps hd rfl (by simp only [ps, psA, psL, psB, q2, ht, Option.bind_some])
theorem ev_ifc {c : ClassFile.Cond} (hd : decode (cd k) pc = .ok (.ifCond c off, 3)) (ht : tg pc off = some t) : ev d k pc lc (.inl x :: st) sh M = ev d k (if cnd c x 0 = true then t else pc + 3) lc st sh M :=
  ev_ps hd rfl (by simp only [ps, psA, psL, psB, q1, ht, Option.bind_some])
theorem ev_div (hd : decode (cd k) pc = .ok (.idiv, 1)) : ev d k pc lc (.inl y :: .inl x :: st) sh M = if y = 0 then none else ev d k (pc + 1) lc (.inl (wr (x.tdiv y)) :: st) sh M := by
  by_cases h : y = 0
  · rw [if_pos h]
    exact ev_none hd rfl (by simp only [ps, psA, psL, psB, psH, psM, q2, if_pos h]) rfl rfl
  · rw [if_neg h]
    exact ev_ps hd rfl (by simp only [ps, psA, q2, if_neg h])
theorem ev_rem (hd : decode (cd k) pc = .ok (.irem, 1)) : ev d k pc lc (.inl y :: .inl x :: st) sh M = if y = 0 then none else ev d k (pc + 1) lc (.inl (wr (x - x.tdiv y * y)) :: st) sh M := by
  by_cases h : y = 0
  · rw [if_pos h]
    exact ev_none hd rfl (by simp only [ps, psA, psL, psB, psH, psM, q2, if_pos h]) rfl rfl
  · rw [if_neg h]
    exact ev_ps hd rfl (by simp only [ps, psA, q2, if_neg h])
theorem ev_getf {idx : Nat} {q : FTy} (hd : decode (cd k) pc = .ok (.getfield idx, 3)) (hf : fieldOf (oc k) idx = some q) : ev d k pc lc (.inr (.inr (some a)) :: st) sh M = (getf sh M a q.2.2.1 q.2.2.2.1).bind fun v => ev d k (pc + 3) lc (v :: st) sh M :=
  ev_bindV _ hd rfl (ps_V rfl rfl rfl rfl (by simp only [psH, q1r, hf])) rfl rfl
theorem ev_putI {idx : Nat} {q : FTy} (hd : decode (cd k) pc = .ok (.putfield idx, 3)) (hf : fieldOf (oc k) idx = some q) (h1 : q.2.2.2.2.2.2.2 = false ∧ q.2.2.2.2.2.2.1 < 2) : ev d k pc lc (.inl x :: .inr (.inr (some a)) :: st) sh M = (putI sh M a q.2.2.1 q.2.2.2.1 (q.2.2.2.2.2.2.1 == 1) x).bind fun M' => ev d k (pc + 3) lc st sh M' :=
  ev_bindM _ hd rfl (ps_M rfl rfl rfl rfl (by simp only [psH, hf, if_pos h1])) rfl rfl
theorem ev_iald (hd : decode (cd k) pc = .ok (.iaload, 1)) : ev d k pc lc (.inl x :: .inr (.inr (some a)) :: st) sh M = (aget sh M a x).bind fun v => ev d k (pc + 1) lc (v :: st) sh M :=
  ev_bindV _ hd rfl (ps_V rfl rfl rfl rfl rfl) rfl rfl
theorem ev_zald (hd : decode (cd k) pc = .ok (.baload, 1)) : ev d k pc lc (.inl x :: .inr (.inr (some a)) :: st) sh M = (zget sh M a x).bind fun v => ev d k (pc + 1) lc (v :: st) sh M :=
  ev_bindV _ hd rfl (ps_V rfl rfl rfl rfl rfl) rfl rfl
theorem ev_aald (hd : decode (cd k) pc = .ok (.aaload, 1)) : ev d k pc lc (.inl x :: .inr (.inr (some a)) :: st) sh M = (rget sh a x).bind fun v => ev d k (pc + 1) lc (v :: st) sh M :=
  ev_bindV _ hd rfl (ps_V rfl rfl rfl rfl rfl) rfl rfl
theorem ev_alen (hd : decode (cd k) pc = .ok (.arraylength, 1)) : ev d k pc lc (.inr (.inr (some a)) :: st) sh M = (alen sh a).bind fun v => ev d k (pc + 1) lc (v :: st) sh M :=
  ev_bindV _ hd rfl (ps_V rfl rfl rfl rfl rfl) rfl rfl
theorem ev_iast (hd : decode (cd k) pc = .ok (.iastore, 1)) : ev d k pc lc (.inl y :: .inl x :: .inr (.inr (some a)) :: st) sh M = (aput sh M a x y).bind fun M' => ev d k (pc + 1) lc st sh M' :=
  ev_bindM _ hd rfl (ps_M rfl rfl rfl rfl rfl) rfl rfl
theorem ev_zast (hd : decode (cd k) pc = .ok (.bastore, 1)) : ev d k pc lc (.inl y :: .inl x :: .inr (.inr (some a)) :: st) sh M = (zput sh M a x y).bind fun M' => ev d k (pc + 1) lc st sh M' :=
  ev_bindM _ hd rfl (ps_M rfl rfl rfl rfl rfl) rfl rfl
theorem mS0 : mSum [] = 0 := rfl
theorem mS1 (x : Int) (r : List PV) : mSum (.inl x :: r) = 1 + mSum r := by unfold mSum; simp [isL]
theorem mS2 (x : Option Nat) (r : List PV) : mSum (.inr (.inr x) :: r) = 1 + mSum r := by unfold mSum; simp [isL]
theorem mS3 (x : Int) (r : List PV) : mSum (.inr (.inl x) :: r) = 2 + mSum r := by unfold mSum; simp [isL]
theorem ev_max {idx : Nat} {q : RTy} (hd : decode (cd k) pc = .ok (.invokestatic idx, 3)) (hf : methOf (oc k) idx = some q) (h1 : q.2.2.1 = 201 ∧ q.2.2.2.1 = false) (hm : mSum st ≤ 8) : ev (d + 1) k pc lc (.inl y :: .inl x :: st) sh M = ev (d + 1) k (pc + 3) lc (.inl (if x < y then y else x) :: st) sh M :=
  ev_ps hd rfl (by simp only [ps, psA, psL, psB, psH, psM, hf, q2]; rw [if_pos ⟨h1.1, h1.2, Nat.le_add_left _ _⟩, if_pos hm])
theorem ev_min {idx : Nat} {q : RTy} (hd : decode (cd k) pc = .ok (.invokestatic idx, 3)) (hf : methOf (oc k) idx = some q) (h1 : q.2.2.1 = 202 ∧ q.2.2.2.1 = false) (hm : mSum st ≤ 8) : ev (d + 1) k pc lc (.inl y :: .inl x :: st) sh M = ev (d + 1) k (pc + 3) lc (.inl (if y < x then y else x) :: st) sh M :=
  ev_ps hd rfl (by simp only [ps, psA, psL, psB, psH, psM, hf, q2]; rw [if_neg (fun z => by rw [h1.1] at z; exact absurd z.1 (by decide)), if_pos ⟨h1.1, h1.2, Nat.le_add_left _ _⟩, if_pos hm])
theorem psM_no {idx : Nat} {q : RTy} {i : Instr} (hf : methOf (oc k) idx = some q) (ht : q.2.2.1 < 134) (hi : i = .invokestatic idx ∨ i = .invokespecial idx ∨ i = .invokevirtual idx) : psM d k i st = none := by
  rcases hi with rfl | rfl | rfl
  · simp only [psM, hf]
    rw [if_neg (by omega), if_neg (by omega)]
  · simp only [psM, hf]
    rw [if_neg (by omega)]
  · rfl
/-- a call: z its kind; as the arguments, rest what lies below -/
theorem ev_cx {idx z : Nat} {q : RTy} {i : Instr} (as rest : List PV) (hd : decode (cd k) pc = .ok (i, 3)) (hi : z = 0 ∧ i = .invokestatic idx ∨ z = 2 ∧ i = .invokespecial idx ∨ z = 1 ∧ i = .invokevirtual idx) (hf : methOf (oc k) idx = some q) (h1 : q.2.2.1 < 134 ∧ kd q.2.2.1 = z ∧ na q.2.2.1 + (if z = 0 then 0 else 1) = as.length ∧ as.length ≤ mx q.2.2.1 ∧ (z = 2 ∨ q.2.2.2.1 = false ∨ z = 0)) (ha : as.any isL = false) (ho : z = 0 ∨ isObj sh as[0]? (oc q.2.2.1) = true) (hm : mSum rest ≤ 8) :
    ev (d + 1) k pc lc (as.reverse ++ rest) sh M = (den d q.2.2.1 as sh M).bind fun x => ev (d + 1) k (pc + 3) lc (x.1.toList ++ rest) x.2.1 x.2.2 := by
  obtain ⟨c1, c2, c3, c4, c5⟩ := h1
  have hl : lenOk i 3 = true := by rcases hi with ⟨-, rfl⟩ | ⟨-, rfl⟩ | ⟨-, rfl⟩ <;> rfl
  have hlen : (as.reverse ++ rest).length = as.length + rest.length := by rw [List.length_append, List.length_reverse]
  have ht : (as.reverse ++ rest).take as.length = as.reverse := by rw [List.take_append_of_le_length (by rw [List.length_reverse]; exact Nat.le_refl _), List.take_of_length_le (by rw [List.length_reverse]; exact Nat.le_refl _)]
  have hdr : (as.reverse ++ rest).drop as.length = rest := by rw [List.drop_append_of_le_length (by rw [List.length_reverse]; exact Nat.le_refl _), List.drop_of_length_le (by rw [List.length_reverse]; exact Nat.le_refl _), List.nil_append]
  refine ev_call hd hl ?_ ?_ ?_
  · unfold ps
    rw [psM_no hf c1 (by rcases hi with ⟨-, h⟩ | ⟨-, h⟩ | ⟨-, h⟩ <;> simp [h])]
    rcases hi with ⟨-, rfl⟩ | ⟨-, rfl⟩ | ⟨-, rfl⟩ <;> rfl
  · rcases hi with ⟨-, rfl⟩ | ⟨-, rfl⟩ | ⟨-, rfl⟩ <;> rfl
  · rcases hi with ⟨rfl, rfl⟩ | ⟨rfl, rfl⟩ | ⟨rfl, rfl⟩
    all_goals
      show (match methOf (oc k) idx with | none => none | some q => _) = _
      rw [hf]
      show (if _ then _ else _) = _
      rw [c3, ht, hdr, List.reverse_reverse, if_pos ⟨c1, c2, by omega, hm, c4, ha, ho, c5⟩]
end EV
end
