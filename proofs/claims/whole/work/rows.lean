section
-- ===== PART A: goes FIRST, ahead of the names: the tables' words, and 'selects' of the private methods out of them =====
/-- a private method of a class that the tables say can be made, by its rows of tables_1 -/
def lw_okq (q : MethodName × Nat) : Prop := (q.1.cls ≠ "java/lang/invoke/MethodHandle" ∧ q.1.cls ≠ "java/lang/invoke/VarHandle") ∧ Cond.instantiable q.1.cls q.2 ∈ tables_1 ∧ Cond.privateMethod q.1 ∈ tables_1 ∧ Cond.instanceMethod q.1 ∈ tables_1
theorem lw_p0 : lw_okq (⟨"DigitMill$TextIn", "appendBytes", "(J)Z"⟩, 2) := ⟨⟨by decide +kernel, by decide +kernel⟩, List.mem_of_getElem? (i := 18) (by decide +kernel), List.mem_of_getElem? (i := 90) (by decide +kernel), List.mem_of_getElem? (i := 91) (by decide +kernel)⟩
theorem lw_p1 : lw_okq (⟨"DigitMill$TextIn", "appendEnd", "(II)Z"⟩, 2) := ⟨⟨by decide +kernel, by decide +kernel⟩, List.mem_of_getElem? (i := 18) (by decide +kernel), List.mem_of_getElem? (i := 98) (by decide +kernel), List.mem_of_getElem? (i := 99) (by decide +kernel)⟩
theorem lw_p2 : lw_okq (⟨"DigitMill", "readNumber", "(I)I"⟩, 7) := ⟨⟨by decide +kernel, by decide +kernel⟩, List.mem_of_getElem? (i := 10) (by decide +kernel), List.mem_of_getElem? (i := 109) (by decide +kernel), List.mem_of_getElem? (i := 110) (by decide +kernel)⟩
theorem lw_p3 : lw_okq (⟨"DigitMill$TextIn", "firstOther", "(II)I"⟩, 2) := ⟨⟨by decide +kernel, by decide +kernel⟩, List.mem_of_getElem? (i := 18) (by decide +kernel), List.mem_of_getElem? (i := 113) (by decide +kernel), List.mem_of_getElem? (i := 114) (by decide +kernel)⟩
theorem lw_p4 : lw_okq (⟨"DigitMill$TextIn", "codeAt", "(I)I"⟩, 2) := ⟨⟨by decide +kernel, by decide +kernel⟩, List.mem_of_getElem? (i := 18) (by decide +kernel), List.mem_of_getElem? (i := 117) (by decide +kernel), List.mem_of_getElem? (i := 118) (by decide +kernel)⟩
theorem lw_p5 : lw_okq (⟨"DigitMill$TextIn", "size", "()I"⟩, 2) := ⟨⟨by decide +kernel, by decide +kernel⟩, List.mem_of_getElem? (i := 18) (by decide +kernel), List.mem_of_getElem? (i := 124) (by decide +kernel), List.mem_of_getElem? (i := 125) (by decide +kernel)⟩
theorem lw_p6 : lw_okq (⟨"DigitMill$Whole", "becomeDigitsOf", "(LDigitMill$TextIn;II)Z"⟩, 2) := ⟨⟨by decide +kernel, by decide +kernel⟩, List.mem_of_getElem? (i := 47) (by decide +kernel), List.mem_of_getElem? (i := 128) (by decide +kernel), List.mem_of_getElem? (i := 129) (by decide +kernel)⟩
theorem lw_p7 : lw_okq (⟨"DigitMill$Whole", "multiplyAndAdd", "(JJ)Z"⟩, 2) := ⟨⟨by decide +kernel, by decide +kernel⟩, List.mem_of_getElem? (i := 47) (by decide +kernel), List.mem_of_getElem? (i := 136) (by decide +kernel), List.mem_of_getElem? (i := 137) (by decide +kernel)⟩
theorem lw_p8 : lw_okq (⟨"DigitMill$Whole", "appendCarry", "(J)Z"⟩, 2) := ⟨⟨by decide +kernel, by decide +kernel⟩, List.mem_of_getElem? (i := 47) (by decide +kernel), List.mem_of_getElem? (i := 140) (by decide +kernel), List.mem_of_getElem? (i := 141) (by decide +kernel)⟩
theorem lw_p9 : lw_okq (⟨"DigitMill$Whole", "becomeCopyOf", "(LDigitMill$Whole;)V"⟩, 2) := ⟨⟨by decide +kernel, by decide +kernel⟩, List.mem_of_getElem? (i := 47) (by decide +kernel), List.mem_of_getElem? (i := 144) (by decide +kernel), List.mem_of_getElem? (i := 145) (by decide +kernel)⟩
theorem lw_p10 : lw_okq (⟨"DigitMill$TextIn", "clear", "()V"⟩, 2) := ⟨⟨by decide +kernel, by decide +kernel⟩, List.mem_of_getElem? (i := 18) (by decide +kernel), List.mem_of_getElem? (i := 154) (by decide +kernel), List.mem_of_getElem? (i := 155) (by decide +kernel)⟩
theorem lw_p11 : lw_okq (⟨"DigitMill$TextOut", "becomeDigitsOf", "(LDigitMill$Whole;I)V"⟩, 2) := ⟨⟨by decide +kernel, by decide +kernel⟩, List.mem_of_getElem? (i := 33) (by decide +kernel), List.mem_of_getElem? (i := 162) (by decide +kernel), List.mem_of_getElem? (i := 163) (by decide +kernel)⟩
theorem lw_p12 : lw_okq (⟨"DigitMill$Whole", "isZero", "()Z"⟩, 2) := ⟨⟨by decide +kernel, by decide +kernel⟩, List.mem_of_getElem? (i := 47) (by decide +kernel), List.mem_of_getElem? (i := 167) (by decide +kernel), List.mem_of_getElem? (i := 168) (by decide +kernel)⟩
theorem lw_p13 : lw_okq (⟨"DigitMill$Whole", "divideTwiceBy", "(J)J"⟩, 2) := ⟨⟨by decide +kernel, by decide +kernel⟩, List.mem_of_getElem? (i := 47) (by decide +kernel), List.mem_of_getElem? (i := 171) (by decide +kernel), List.mem_of_getElem? (i := 172) (by decide +kernel)⟩
theorem lw_p14 : lw_okq (⟨"DigitMill$Whole", "dropZeros", "()V"⟩, 2) := ⟨⟨by decide +kernel, by decide +kernel⟩, List.mem_of_getElem? (i := 47) (by decide +kernel), List.mem_of_getElem? (i := 175) (by decide +kernel), List.mem_of_getElem? (i := 176) (by decide +kernel)⟩
theorem lw_p15 : lw_okq (⟨"DigitMill$TextOut", "prependDigits", "(JIIZ)V"⟩, 2) := ⟨⟨by decide +kernel, by decide +kernel⟩, List.mem_of_getElem? (i := 33) (by decide +kernel), List.mem_of_getElem? (i := 179) (by decide +kernel), List.mem_of_getElem? (i := 180) (by decide +kernel)⟩
def lw_privs_1 : List (MethodName × Nat) := [(⟨"DigitMill$TextIn", "appendBytes", "(J)Z"⟩, 2), (⟨"DigitMill$TextIn", "appendEnd", "(II)Z"⟩, 2), (⟨"DigitMill", "readNumber", "(I)I"⟩, 7), (⟨"DigitMill$TextIn", "firstOther", "(II)I"⟩, 2), (⟨"DigitMill$TextIn", "codeAt", "(I)I"⟩, 2), (⟨"DigitMill$TextIn", "size", "()I"⟩, 2), (⟨"DigitMill$Whole", "becomeDigitsOf", "(LDigitMill$TextIn;II)Z"⟩, 2), (⟨"DigitMill$Whole", "multiplyAndAdd", "(JJ)Z"⟩, 2), (⟨"DigitMill$Whole", "appendCarry", "(J)Z"⟩, 2), (⟨"DigitMill$Whole", "becomeCopyOf", "(LDigitMill$Whole;)V"⟩, 2), (⟨"DigitMill$TextIn", "clear", "()V"⟩, 2), (⟨"DigitMill$TextOut", "becomeDigitsOf", "(LDigitMill$Whole;I)V"⟩, 2), (⟨"DigitMill$Whole", "isZero", "()Z"⟩, 2), (⟨"DigitMill$Whole", "divideTwiceBy", "(J)J"⟩, 2), (⟨"DigitMill$Whole", "dropZeros", "()V"⟩, 2), (⟨"DigitMill$TextOut", "prependDigits", "(JIIZ)V"⟩, 2)]
theorem lw_r1 : ∀ q ∈ lw_privs_1, lw_okq q := List.forall_mem_cons.mpr ⟨lw_p0, List.forall_mem_cons.mpr ⟨lw_p1, List.forall_mem_cons.mpr ⟨lw_p2, List.forall_mem_cons.mpr ⟨lw_p3, List.forall_mem_cons.mpr ⟨lw_p4, List.forall_mem_cons.mpr ⟨lw_p5, List.forall_mem_cons.mpr ⟨lw_p6, List.forall_mem_cons.mpr ⟨lw_p7, List.forall_mem_cons.mpr ⟨lw_p8, List.forall_mem_cons.mpr ⟨lw_p9, List.forall_mem_cons.mpr ⟨lw_p10, List.forall_mem_cons.mpr ⟨lw_p11, List.forall_mem_cons.mpr ⟨lw_p12, List.forall_mem_cons.mpr ⟨lw_p13, List.forall_mem_cons.mpr ⟨lw_p14, List.forall_mem_cons.mpr ⟨lw_p15, fun _ h => absurd h List.not_mem_nil⟩⟩⟩⟩⟩⟩⟩⟩⟩⟩⟩⟩⟩⟩⟩⟩
theorem lw_p16 : lw_okq (⟨"DigitMill$TextOut", "prepend", "(I)V"⟩, 2) := ⟨⟨by decide +kernel, by decide +kernel⟩, List.mem_of_getElem? (i := 33) (by decide +kernel), List.mem_of_getElem? (i := 186) (by decide +kernel), List.mem_of_getElem? (i := 187) (by decide +kernel)⟩
theorem lw_p17 : lw_okq (⟨"DigitMill$TextOut", "size", "()I"⟩, 2) := ⟨⟨by decide +kernel, by decide +kernel⟩, List.mem_of_getElem? (i := 33) (by decide +kernel), List.mem_of_getElem? (i := 190) (by decide +kernel), List.mem_of_getElem? (i := 191) (by decide +kernel)⟩
theorem lw_p18 : lw_okq (⟨"DigitMill$Whole", "appendLong", "(J)Z"⟩, 2) := ⟨⟨by decide +kernel, by decide +kernel⟩, List.mem_of_getElem? (i := 47) (by decide +kernel), List.mem_of_getElem? (i := 199) (by decide +kernel), List.mem_of_getElem? (i := 200) (by decide +kernel)⟩
theorem lw_p19 : lw_okq (⟨"DigitMill", "raiseInSpare", "(II)Z"⟩, 7) := ⟨⟨by decide +kernel, by decide +kernel⟩, List.mem_of_getElem? (i := 10) (by decide +kernel), List.mem_of_getElem? (i := 207) (by decide +kernel), List.mem_of_getElem? (i := 208) (by decide +kernel)⟩
theorem lw_p20 : lw_okq (⟨"DigitMill$Whole", "becomeLong", "(J)V"⟩, 2) := ⟨⟨by decide +kernel, by decide +kernel⟩, List.mem_of_getElem? (i := 47) (by decide +kernel), List.mem_of_getElem? (i := 211) (by decide +kernel), List.mem_of_getElem? (i := 212) (by decide +kernel)⟩
theorem lw_p21 : lw_okq (⟨"DigitMill$Whole", "becomeSquareOf", "(LDigitMill$Whole;)Z"⟩, 2) := ⟨⟨by decide +kernel, by decide +kernel⟩, List.mem_of_getElem? (i := 47) (by decide +kernel), List.mem_of_getElem? (i := 220) (by decide +kernel), List.mem_of_getElem? (i := 221) (by decide +kernel)⟩
theorem lw_p22 : lw_okq (⟨"DigitMill$Whole", "addProductsAbove", "(I[II)V"⟩, 2) := ⟨⟨by decide +kernel, by decide +kernel⟩, List.mem_of_getElem? (i := 47) (by decide +kernel), List.mem_of_getElem? (i := 224) (by decide +kernel), List.mem_of_getElem? (i := 225) (by decide +kernel)⟩
theorem lw_p23 : lw_okq (⟨"DigitMill$Whole", "doubleAndAddSquares", "([II)V"⟩, 2) := ⟨⟨by decide +kernel, by decide +kernel⟩, List.mem_of_getElem? (i := 47) (by decide +kernel), List.mem_of_getElem? (i := 228) (by decide +kernel), List.mem_of_getElem? (i := 229) (by decide +kernel)⟩
theorem lw_p24 : lw_okq (⟨"DigitMill$Whole", "decrease", "(J)Z"⟩, 2) := ⟨⟨by decide +kernel, by decide +kernel⟩, List.mem_of_getElem? (i := 47) (by decide +kernel), List.mem_of_getElem? (i := 238) (by decide +kernel), List.mem_of_getElem? (i := 239) (by decide +kernel)⟩
theorem lw_p25 : lw_okq (⟨"DigitMill$Whole", "wordAt", "(I)I"⟩, 2) := ⟨⟨by decide +kernel, by decide +kernel⟩, List.mem_of_getElem? (i := 47) (by decide +kernel), List.mem_of_getElem? (i := 242) (by decide +kernel), List.mem_of_getElem? (i := 243) (by decide +kernel)⟩
theorem lw_p26 : lw_okq (⟨"DigitMill$Whole", "increase", "(J)Z"⟩, 2) := ⟨⟨by decide +kernel, by decide +kernel⟩, List.mem_of_getElem? (i := 47) (by decide +kernel), List.mem_of_getElem? (i := 246) (by decide +kernel), List.mem_of_getElem? (i := 247) (by decide +kernel)⟩
theorem lw_p27 : lw_okq (⟨"DigitMill$Whole", "hasRoomFor", "(J)Z"⟩, 2) := ⟨⟨by decide +kernel, by decide +kernel⟩, List.mem_of_getElem? (i := 47) (by decide +kernel), List.mem_of_getElem? (i := 250) (by decide +kernel), List.mem_of_getElem? (i := 251) (by decide +kernel)⟩
theorem lw_p28 : lw_okq (⟨"DigitMill", "parseValue", "(IIZ)I"⟩, 7) := ⟨⟨by decide +kernel, by decide +kernel⟩, List.mem_of_getElem? (i := 10) (by decide +kernel), List.mem_of_getElem? (i := 267) (by decide +kernel), List.mem_of_getElem? (i := 268) (by decide +kernel)⟩
theorem lw_p29 : lw_okq (⟨"DigitMill", "smallHasWidth", "(IZZ)Z"⟩, 7) := ⟨⟨by decide +kernel, by decide +kernel⟩, List.mem_of_getElem? (i := 10) (by decide +kernel), List.mem_of_getElem? (i := 272) (by decide +kernel), List.mem_of_getElem? (i := 273) (by decide +kernel)⟩
theorem lw_p30 : lw_okq (⟨"DigitMill$Whole", "countBits", "()I"⟩, 2) := ⟨⟨by decide +kernel, by decide +kernel⟩, List.mem_of_getElem? (i := 47) (by decide +kernel), List.mem_of_getElem? (i := 276) (by decide +kernel), List.mem_of_getElem? (i := 277) (by decide +kernel)⟩
theorem lw_p31 : lw_okq (⟨"DigitMill$Whole", "lowLong", "()J"⟩, 2) := ⟨⟨by decide +kernel, by decide +kernel⟩, List.mem_of_getElem? (i := 47) (by decide +kernel), List.mem_of_getElem? (i := 281) (by decide +kernel), List.mem_of_getElem? (i := 282) (by decide +kernel)⟩
def lw_privs_2 : List (MethodName × Nat) := [(⟨"DigitMill$TextOut", "prepend", "(I)V"⟩, 2), (⟨"DigitMill$TextOut", "size", "()I"⟩, 2), (⟨"DigitMill$Whole", "appendLong", "(J)Z"⟩, 2), (⟨"DigitMill", "raiseInSpare", "(II)Z"⟩, 7), (⟨"DigitMill$Whole", "becomeLong", "(J)V"⟩, 2), (⟨"DigitMill$Whole", "becomeSquareOf", "(LDigitMill$Whole;)Z"⟩, 2), (⟨"DigitMill$Whole", "addProductsAbove", "(I[II)V"⟩, 2), (⟨"DigitMill$Whole", "doubleAndAddSquares", "([II)V"⟩, 2), (⟨"DigitMill$Whole", "decrease", "(J)Z"⟩, 2), (⟨"DigitMill$Whole", "wordAt", "(I)I"⟩, 2), (⟨"DigitMill$Whole", "increase", "(J)Z"⟩, 2), (⟨"DigitMill$Whole", "hasRoomFor", "(J)Z"⟩, 2), (⟨"DigitMill", "parseValue", "(IIZ)I"⟩, 7), (⟨"DigitMill", "smallHasWidth", "(IZZ)Z"⟩, 7), (⟨"DigitMill$Whole", "countBits", "()I"⟩, 2), (⟨"DigitMill$Whole", "lowLong", "()J"⟩, 2)]
theorem lw_r2 : ∀ q ∈ lw_privs_2, lw_okq q := List.forall_mem_cons.mpr ⟨lw_p16, List.forall_mem_cons.mpr ⟨lw_p17, List.forall_mem_cons.mpr ⟨lw_p18, List.forall_mem_cons.mpr ⟨lw_p19, List.forall_mem_cons.mpr ⟨lw_p20, List.forall_mem_cons.mpr ⟨lw_p21, List.forall_mem_cons.mpr ⟨lw_p22, List.forall_mem_cons.mpr ⟨lw_p23, List.forall_mem_cons.mpr ⟨lw_p24, List.forall_mem_cons.mpr ⟨lw_p25, List.forall_mem_cons.mpr ⟨lw_p26, List.forall_mem_cons.mpr ⟨lw_p27, List.forall_mem_cons.mpr ⟨lw_p28, List.forall_mem_cons.mpr ⟨lw_p29, List.forall_mem_cons.mpr ⟨lw_p30, List.forall_mem_cons.mpr ⟨lw_p31, fun _ h => absurd h List.not_mem_nil⟩⟩⟩⟩⟩⟩⟩⟩⟩⟩⟩⟩⟩⟩⟩⟩
theorem lw_p32 : lw_okq (⟨"DigitMill$TextOut", "codeAt", "(I)I"⟩, 2) := ⟨⟨by decide +kernel, by decide +kernel⟩, List.mem_of_getElem? (i := 33) (by decide +kernel), List.mem_of_getElem? (i := 302) (by decide +kernel), List.mem_of_getElem? (i := 303) (by decide +kernel)⟩
theorem lw_p33 : lw_okq (⟨"DigitMillModel", "timesAdd", "(II)Z"⟩, 10) := ⟨⟨by decide +kernel, by decide +kernel⟩, List.mem_of_getElem? (i := 310) (by decide +kernel), List.mem_of_getElem? (i := 368) (by decide +kernel), List.mem_of_getElem? (i := 369) (by decide +kernel)⟩
theorem lw_p34 : lw_okq (⟨"DigitMillModel", "give", "()V"⟩, 10) := ⟨⟨by decide +kernel, by decide +kernel⟩, List.mem_of_getElem? (i := 310) (by decide +kernel), List.mem_of_getElem? (i := 373) (by decide +kernel), List.mem_of_getElem? (i := 374) (by decide +kernel)⟩
theorem lw_p35 : lw_okq (⟨"DigitMillModel", "take", "()V"⟩, 10) := ⟨⟨by decide +kernel, by decide +kernel⟩, List.mem_of_getElem? (i := 310) (by decide +kernel), List.mem_of_getElem? (i := 381) (by decide +kernel), List.mem_of_getElem? (i := 382) (by decide +kernel)⟩
theorem lw_p36 : lw_okq (⟨"DigitMillModel", "divide", "(I)I"⟩, 10) := ⟨⟨by decide +kernel, by decide +kernel⟩, List.mem_of_getElem? (i := 310) (by decide +kernel), List.mem_of_getElem? (i := 386) (by decide +kernel), List.mem_of_getElem? (i := 387) (by decide +kernel)⟩
theorem lw_p37 : lw_okq (⟨"DigitMillModel", "turnOut", "()V"⟩, 10) := ⟨⟨by decide +kernel, by decide +kernel⟩, List.mem_of_getElem? (i := 310) (by decide +kernel), List.mem_of_getElem? (i := 393) (by decide +kernel), List.mem_of_getElem? (i := 394) (by decide +kernel)⟩
theorem lw_p38 : lw_okq (⟨"DigitMillModel", "load", "(J)V"⟩, 10) := ⟨⟨by decide +kernel, by decide +kernel⟩, List.mem_of_getElem? (i := 310) (by decide +kernel), List.mem_of_getElem? (i := 434) (by decide +kernel), List.mem_of_getElem? (i := 435) (by decide +kernel)⟩
def lw_privs_3 : List (MethodName × Nat) := [(⟨"DigitMill$TextOut", "codeAt", "(I)I"⟩, 2), (⟨"DigitMillModel", "timesAdd", "(II)Z"⟩, 10), (⟨"DigitMillModel", "give", "()V"⟩, 10), (⟨"DigitMillModel", "take", "()V"⟩, 10), (⟨"DigitMillModel", "divide", "(I)I"⟩, 10), (⟨"DigitMillModel", "turnOut", "()V"⟩, 10), (⟨"DigitMillModel", "load", "(J)V"⟩, 10)]
theorem lw_r3 : ∀ q ∈ lw_privs_3, lw_okq q := List.forall_mem_cons.mpr ⟨lw_p32, List.forall_mem_cons.mpr ⟨lw_p33, List.forall_mem_cons.mpr ⟨lw_p34, List.forall_mem_cons.mpr ⟨lw_p35, List.forall_mem_cons.mpr ⟨lw_p36, List.forall_mem_cons.mpr ⟨lw_p37, List.forall_mem_cons.mpr ⟨lw_p38, fun _ h => absurd h List.not_mem_nil⟩⟩⟩⟩⟩⟩⟩
def lw_privs : List (MethodName × Nat) := lw_privs_1 ++ (lw_privs_2 ++ (lw_privs_3))
def lw_tbl : List Cond := k2_sels lw_privs ++ tables_1
theorem lw_privs_ok : ∀ q ∈ lw_privs, lw_okq q := by
  show ∀ q ∈ lw_privs_1 ++ (lw_privs_2 ++ (lw_privs_3)), lw_okq q
  exact List.forall_mem_append.mpr ⟨lw_r1, List.forall_mem_append.mpr ⟨lw_r2, lw_r3⟩⟩
end
section

def RX0 : String := "DigitMill$TextIn"
def TX0 : u_T := fun k => match k with
  | 0 => ("DigitMill$TextIn", "row", "[B", true)
  | _ => ("DigitMill$TextIn", "length", "I", false)
def tyX0 : Nat → FieldType := fun k => match k with
  | 0 => .array .byte
  | _ => .int
theorem nmX0 : ∀ a, a < 2 → ∀ b, b < 2 → a ≠ b → (TX0 a).2.1 ≠ (TX0 b).2.1 := by decide +kernel
theorem tyX0_ok : ∀ k, k < 2 → parseFieldDescriptor (TX0 k).2.2.1 = some (tyX0 k) := by decide +kernel
abbrev cX0_init : ByteArray := prog_2_method_1_code
def yX0_init : MethodName := ⟨RX0, "<init>", "()V"⟩
abbrev cX0_size : ByteArray := prog_2_method_2_code
def yX0_size : MethodName := ⟨RX0, "size", "()I"⟩
abbrev cX0_clear : ByteArray := prog_2_method_3_code
def yX0_clear : MethodName := ⟨RX0, "clear", "()V"⟩
abbrev cX0_codeAt : ByteArray := prog_2_method_4_code
def yX0_codeAt : MethodName := ⟨RX0, "codeAt", "(I)I"⟩
abbrev cX0_appendBytes : ByteArray := prog_2_method_5_code
def yX0_appendBytes : MethodName := ⟨RX0, "appendBytes", "(J)Z"⟩
abbrev cX0_appendEnd : ByteArray := prog_2_method_6_code
def yX0_appendEnd : MethodName := ⟨RX0, "appendEnd", "(II)Z"⟩
abbrev cX0_firstOther : ByteArray := prog_2_method_7_code
def yX0_firstOther : MethodName := ⟨RX0, "firstOther", "(II)I"⟩
def RX1 : String := "DigitMill$TextOut"
def TX1 : u_T := fun k => match k with
  | 0 => ("DigitMill$TextOut", "row", "[B", true)
  | _ => ("DigitMill$TextOut", "start", "I", false)
def tyX1 : Nat → FieldType := fun k => match k with
  | 0 => .array .byte
  | _ => .int
theorem nmX1 : ∀ a, a < 2 → ∀ b, b < 2 → a ≠ b → (TX1 a).2.1 ≠ (TX1 b).2.1 := by decide +kernel
theorem tyX1_ok : ∀ k, k < 2 → parseFieldDescriptor (TX1 k).2.2.1 = some (tyX1 k) := by decide +kernel
abbrev cX1_init : ByteArray := prog_3_method_1_code
def yX1_init : MethodName := ⟨RX1, "<init>", "()V"⟩
abbrev cX1_size : ByteArray := prog_3_method_2_code
def yX1_size : MethodName := ⟨RX1, "size", "()I"⟩
abbrev cX1_codeAt : ByteArray := prog_3_method_3_code
def yX1_codeAt : MethodName := ⟨RX1, "codeAt", "(I)I"⟩
abbrev cX1_prepend : ByteArray := prog_3_method_4_code
def yX1_prepend : MethodName := ⟨RX1, "prepend", "(I)V"⟩
abbrev cX1_becomeDigitsOf : ByteArray := prog_3_method_5_code
def yX1_becomeDigitsOf : MethodName := ⟨RX1, "becomeDigitsOf", "(LDigitMill$Whole;I)V"⟩
abbrev cX1_prependDigits : ByteArray := prog_3_method_6_code
def yX1_prependDigits : MethodName := ⟨RX1, "prependDigits", "(JIIZ)V"⟩
def RX2 : String := "DigitMill$Whole"
def TX2 : u_T := fun k => match k with
  | 0 => ("DigitMill$Whole", "words", "[I", true)
  | _ => ("DigitMill$Whole", "used", "I", false)
def tyX2 : Nat → FieldType := fun k => match k with
  | 0 => .array .int
  | _ => .int
theorem nmX2 : ∀ a, a < 2 → ∀ b, b < 2 → a ≠ b → (TX2 a).2.1 ≠ (TX2 b).2.1 := by decide +kernel
theorem tyX2_ok : ∀ k, k < 2 → parseFieldDescriptor (TX2 k).2.2.1 = some (tyX2 k) := by decide +kernel
abbrev cX2_init : ByteArray := prog_4_method_1_code
def yX2_init : MethodName := ⟨RX2, "<init>", "(I)V"⟩
abbrev cX2_isZero : ByteArray := prog_4_method_2_code
def yX2_isZero : MethodName := ⟨RX2, "isZero", "()Z"⟩
abbrev cX2_wordAt : ByteArray := prog_4_method_3_code
def yX2_wordAt : MethodName := ⟨RX2, "wordAt", "(I)I"⟩
abbrev cX2_countBits : ByteArray := prog_4_method_4_code
def yX2_countBits : MethodName := ⟨RX2, "countBits", "()I"⟩
abbrev cX2_lowLong : ByteArray := prog_4_method_5_code
def yX2_lowLong : MethodName := ⟨RX2, "lowLong", "()J"⟩
abbrev cX2_becomeLong : ByteArray := prog_4_method_6_code
def yX2_becomeLong : MethodName := ⟨RX2, "becomeLong", "(J)V"⟩
abbrev cX2_becomeCopyOf : ByteArray := prog_4_method_7_code
def yX2_becomeCopyOf : MethodName := ⟨RX2, "becomeCopyOf", "(LDigitMill$Whole;)V"⟩
abbrev cX2_becomeDigitsOf : ByteArray := prog_4_method_8_code
def yX2_becomeDigitsOf : MethodName := ⟨RX2, "becomeDigitsOf", "(LDigitMill$TextIn;II)Z"⟩
abbrev cX2_multiplyAndAdd : ByteArray := prog_4_method_9_code
def yX2_multiplyAndAdd : MethodName := ⟨RX2, "multiplyAndAdd", "(JJ)Z"⟩
abbrev cX2_appendCarry : ByteArray := prog_4_method_10_code
def yX2_appendCarry : MethodName := ⟨RX2, "appendCarry", "(J)Z"⟩
abbrev cX2_divideTwiceBy : ByteArray := prog_4_method_11_code
def yX2_divideTwiceBy : MethodName := ⟨RX2, "divideTwiceBy", "(J)J"⟩
abbrev cX2_dropZeros : ByteArray := prog_4_method_12_code
def yX2_dropZeros : MethodName := ⟨RX2, "dropZeros", "()V"⟩
abbrev cX2_appendLong : ByteArray := prog_4_method_13_code
def yX2_appendLong : MethodName := ⟨RX2, "appendLong", "(J)Z"⟩
abbrev cX2_increase : ByteArray := prog_4_method_14_code
def yX2_increase : MethodName := ⟨RX2, "increase", "(J)Z"⟩
abbrev cX2_hasRoomFor : ByteArray := prog_4_method_15_code
def yX2_hasRoomFor : MethodName := ⟨RX2, "hasRoomFor", "(J)Z"⟩
abbrev cX2_decrease : ByteArray := prog_4_method_16_code
def yX2_decrease : MethodName := ⟨RX2, "decrease", "(J)Z"⟩
abbrev cX2_becomeSquareOf : ByteArray := prog_4_method_17_code
def yX2_becomeSquareOf : MethodName := ⟨RX2, "becomeSquareOf", "(LDigitMill$Whole;)Z"⟩
abbrev cX2_addProductsAbove : ByteArray := prog_4_method_18_code
def yX2_addProductsAbove : MethodName := ⟨RX2, "addProductsAbove", "(I[II)V"⟩
abbrev cX2_doubleAndAddSquares : ByteArray := prog_4_method_19_code
def yX2_doubleAndAddSquares : MethodName := ⟨RX2, "doubleAndAddSquares", "([II)V"⟩
def RX3 : String := "DigitMill"
def TX3 : u_T := fun k => match k with
  | 0 => ("DigitMill", "textIn", "LDigitMill$TextIn;", true)
  | 1 => ("DigitMill", "textOut", "LDigitMill$TextOut;", true)
  | 2 => ("DigitMill", "number", "LDigitMill$Whole;", true)
  | 3 => ("DigitMill", "spare", "LDigitMill$Whole;", true)
  | 4 => ("DigitMill", "square", "LDigitMill$Whole;", true)
  | 5 => ("DigitMill", "small", "LDigitMill$Whole;", true)
  | _ => ("DigitMill", "latestValue", "J", false)
def tyX3 : Nat → FieldType := fun k => match k with
  | 0 => .object "DigitMill$TextIn"
  | 1 => .object "DigitMill$TextOut"
  | 2 => .object "DigitMill$Whole"
  | 3 => .object "DigitMill$Whole"
  | 4 => .object "DigitMill$Whole"
  | 5 => .object "DigitMill$Whole"
  | _ => .long
theorem nmX3 : ∀ a, a < 7 → ∀ b, b < 7 → a ≠ b → (TX3 a).2.1 ≠ (TX3 b).2.1 := by decide +kernel
theorem tyX3_ok : ∀ k, k < 7 → parseFieldDescriptor (TX3 k).2.2.1 = some (tyX3 k) := by decide +kernel
abbrev cX3_init : ByteArray := prog_1_method_1_code
def yX3_init : MethodName := ⟨RX3, "<init>", "()V"⟩
abbrev cX3_type : ByteArray := prog_1_method_2_code
def yX3_type : MethodName := ⟨RX3, "type", "(J)Z"⟩
abbrev cX3_repeat : ByteArray := prog_1_method_3_code
def yX3_repeat : MethodName := ⟨RX3, "repeat", "(II)Z"⟩
abbrev cX3_read : ByteArray := prog_1_method_4_code
def yX3_read : MethodName := ⟨RX3, "read", "(I)I"⟩
abbrev cX3_write : ByteArray := prog_1_method_5_code
def yX3_write : MethodName := ⟨RX3, "write", "(I)I"⟩
abbrev cX3_push : ByteArray := prog_1_method_6_code
def yX3_push : MethodName := ⟨RX3, "push", "(J)Z"⟩
abbrev cX3_power : ByteArray := prog_1_method_7_code
def yX3_power : MethodName := ⟨RX3, "power", "(II)Z"⟩
abbrev cX3_add : ByteArray := prog_1_method_8_code
def yX3_add : MethodName := ⟨RX3, "add", "(I)Z"⟩
abbrev cX3_show : ByteArray := prog_1_method_9_code
def yX3_show : MethodName := ⟨RX3, "show", "(JIIZ)I"⟩
abbrev cX3_parse : ByteArray := prog_1_method_10_code
def yX3_parse : MethodName := ⟨RX3, "parse", "(IIZ)I"⟩
abbrev cX3_value : ByteArray := prog_1_method_11_code
def yX3_value : MethodName := ⟨RX3, "value", "()J"⟩
abbrev cX3_word : ByteArray := prog_1_method_12_code
def yX3_word : MethodName := ⟨RX3, "word", "(I)I"⟩
abbrev cX3_bits : ByteArray := prog_1_method_13_code
def yX3_bits : MethodName := ⟨RX3, "bits", "()I"⟩
abbrev cX3_characterAt : ByteArray := prog_1_method_14_code
def yX3_characterAt : MethodName := ⟨RX3, "characterAt", "(I)I"⟩
abbrev cX3_typed : ByteArray := prog_1_method_15_code
def yX3_typed : MethodName := ⟨RX3, "typed", "()I"⟩
abbrev cX3_readNumber : ByteArray := prog_1_method_16_code
def yX3_readNumber : MethodName := ⟨RX3, "readNumber", "(I)I"⟩
abbrev cX3_parseValue : ByteArray := prog_1_method_17_code
def yX3_parseValue : MethodName := ⟨RX3, "parseValue", "(IIZ)I"⟩
abbrev cX3_smallHasWidth : ByteArray := prog_1_method_18_code
def yX3_smallHasWidth : MethodName := ⟨RX3, "smallHasWidth", "(IZZ)Z"⟩
abbrev cX3_raiseInSpare : ByteArray := prog_1_method_19_code
def yX3_raiseInSpare : MethodName := ⟨RX3, "raiseInSpare", "(II)Z"⟩
abbrev cX3_isRadix : ByteArray := prog_1_method_20_code
def yX3_isRadix : MethodName := ⟨RX3, "isRadix", "(I)Z"⟩
abbrev cX3_isWidth : ByteArray := prog_1_method_21_code
def yX3_isWidth : MethodName := ⟨RX3, "isWidth", "(I)Z"⟩
abbrev cX3_digitOf : ByteArray := prog_1_method_22_code
def yX3_digitOf : MethodName := ⟨RX3, "digitOf", "(I)I"⟩
abbrev cX3_codeOf : ByteArray := prog_1_method_23_code
def yX3_codeOf : MethodName := ⟨RX3, "codeOf", "(I)I"⟩
def RX4 : String := "DigitMillModel"
def TX4 : u_T := fun k => match k with
  | 0 => ("DigitMillModel", "thrown", "I", false)
  | 1 => ("DigitMillModel", "typed", "I", false)
  | 2 => ("DigitMillModel", "in", "[C", true)
  | 3 => ("DigitMillModel", "written", "I", false)
  | 4 => ("DigitMillModel", "out", "[C", true)
  | 5 => ("DigitMillModel", "size", "I", false)
  | 6 => ("DigitMillModel", "number", "[I", true)
  | 7 => ("DigitMillModel", "rowSize", "I", false)
  | 8 => ("DigitMillModel", "row", "[I", true)
  | _ => ("DigitMillModel", "value", "J", false)
def tyX4 : Nat → FieldType := fun k => match k with
  | 0 => .int
  | 1 => .int
  | 2 => .array .char
  | 3 => .int
  | 4 => .array .char
  | 5 => .int
  | 6 => .array .int
  | 7 => .int
  | 8 => .array .int
  | _ => .long
theorem nmX4 : ∀ a, a < 10 → ∀ b, b < 10 → a ≠ b → (TX4 a).2.1 ≠ (TX4 b).2.1 := by decide +kernel
theorem tyX4_ok : ∀ k, k < 10 → parseFieldDescriptor (TX4 k).2.2.1 = some (tyX4 k) := by decide +kernel
abbrev cX4_init : ByteArray := prog_6_method_1_code
def yX4_init : MethodName := ⟨RX4, "<init>", "()V"⟩
abbrev cX4_isRadix : ByteArray := prog_6_method_3_code
def yX4_isRadix : MethodName := ⟨RX4, "isRadix", "(I)Z"⟩
abbrev cX4_isWidth : ByteArray := prog_6_method_4_code
def yX4_isWidth : MethodName := ⟨RX4, "isWidth", "(I)Z"⟩
abbrev cX4_digit : ByteArray := prog_6_method_5_code
def yX4_digit : MethodName := ⟨RX4, "digit", "(I)I"⟩
abbrev cX4_character : ByteArray := prog_6_method_6_code
def yX4_character : MethodName := ⟨RX4, "character", "(I)C"⟩
abbrev cX4_timesAdd : ByteArray := prog_6_method_7_code
def yX4_timesAdd : MethodName := ⟨RX4, "timesAdd", "(II)Z"⟩
abbrev cX4_divide : ByteArray := prog_6_method_8_code
def yX4_divide : MethodName := ⟨RX4, "divide", "(I)I"⟩
abbrev cX4_take : ByteArray := prog_6_method_9_code
def yX4_take : MethodName := ⟨RX4, "take", "()V"⟩
abbrev cX4_give : ByteArray := prog_6_method_10_code
def yX4_give : MethodName := ⟨RX4, "give", "()V"⟩
abbrev cX4_type : ByteArray := prog_6_method_11_code
def yX4_type : MethodName := ⟨RX4, "type", "(J)Z"⟩
abbrev cX4_repeat : ByteArray := prog_6_method_12_code
def yX4_repeat : MethodName := ⟨RX4, "repeat", "(II)Z"⟩
abbrev cX4_read : ByteArray := prog_6_method_13_code
def yX4_read : MethodName := ⟨RX4, "read", "(I)I"⟩
abbrev cX4_turnOut : ByteArray := prog_6_method_14_code
def yX4_turnOut : MethodName := ⟨RX4, "turnOut", "()V"⟩
abbrev cX4_write : ByteArray := prog_6_method_15_code
def yX4_write : MethodName := ⟨RX4, "write", "(I)I"⟩
abbrev cX4_push : ByteArray := prog_6_method_16_code
def yX4_push : MethodName := ⟨RX4, "push", "(J)Z"⟩
abbrev cX4_power : ByteArray := prog_6_method_17_code
def yX4_power : MethodName := ⟨RX4, "power", "(II)Z"⟩
abbrev cX4_add : ByteArray := prog_6_method_18_code
def yX4_add : MethodName := ⟨RX4, "add", "(I)Z"⟩
abbrev cX4_word : ByteArray := prog_6_method_19_code
def yX4_word : MethodName := ⟨RX4, "word", "(I)I"⟩
abbrev cX4_bits : ByteArray := prog_6_method_20_code
def yX4_bits : MethodName := ⟨RX4, "bits", "()I"⟩
abbrev cX4_characterAt : ByteArray := prog_6_method_21_code
def yX4_characterAt : MethodName := ⟨RX4, "characterAt", "(I)I"⟩
abbrev cX4_typed : ByteArray := prog_6_method_22_code
def yX4_typed : MethodName := ⟨RX4, "typed", "()I"⟩
abbrev cX4_load : ByteArray := prog_6_method_23_code
def yX4_load : MethodName := ⟨RX4, "load", "(J)V"⟩
abbrev cX4_show : ByteArray := prog_6_method_24_code
def yX4_show : MethodName := ⟨RX4, "show", "(JIIZ)I"⟩
abbrev cX4_parse : ByteArray := prog_6_method_25_code
def yX4_parse : MethodName := ⟨RX4, "parse", "(IIZ)I"⟩
abbrev cX4_value : ByteArray := prog_6_method_26_code
def yX4_value : MethodName := ⟨RX4, "value", "()J"⟩
def RJ6 : String := "java/lang/Integer"
def TJ6 : u_T := fun k => match k with
  | _ => ("", "", "", false)
def tyJ6 : Nat → FieldType := fun k => match k with
  | _ => .int
theorem nmJ6 : ∀ a, a < 0 → ∀ b, b < 0 → a ≠ b → (TJ6 a).2.1 ≠ (TJ6 b).2.1 := by decide +kernel
theorem tyJ6_ok : ∀ k, k < 0 → parseFieldDescriptor (TJ6 k).2.2.1 = some (tyJ6 k) := by decide +kernel
abbrev cJ6_numberOfLeadingZeros_0f7a4 : ByteArray := prog_7_method_47_code
def yJ6_numberOfLeadingZeros_0f7a4 : MethodName := ⟨RJ6, "numberOfLeadingZeros", "(I)I"⟩
def RJ9 : String := "java/lang/Math"
def TJ9 : u_T := fun k => match k with
  | _ => ("", "", "", false)
def tyJ9 : Nat → FieldType := fun k => match k with
  | _ => .int
theorem nmJ9 : ∀ a, a < 0 → ∀ b, b < 0 → a ≠ b → (TJ9 a).2.1 ≠ (TJ9 b).2.1 := by decide +kernel
theorem tyJ9_ok : ∀ k, k < 0 → parseFieldDescriptor (TJ9 k).2.2.1 = some (tyJ9 k) := by decide +kernel
abbrev cJ9_max_7cf53 : ByteArray := prog_8_method_65_code
def yJ9_max_7cf53 : MethodName := ⟨RJ9, "max", "(II)I"⟩
abbrev cJ9_min_7cf53 : ByteArray := prog_8_method_69_code
def yJ9_min_7cf53 : MethodName := ⟨RJ9, "min", "(II)I"⟩
def RJ10 : String := "java/lang/System"
def TJ10 : u_T := fun k => match k with
  | _ => ("", "", "", false)
def tyJ10 : Nat → FieldType := fun k => match k with
  | _ => .int
theorem nmJ10 : ∀ a, a < 0 → ∀ b, b < 0 → a ≠ b → (TJ10 a).2.1 ≠ (TJ10 b).2.1 := by decide +kernel
theorem tyJ10_ok : ∀ k, k < 0 → parseFieldDescriptor (TJ10 k).2.2.1 = some (tyJ10 k) := by decide +kernel
def RL : String := "DigitMillLaw"
abbrev cL_law : ByteArray := code
def yL_law : MethodName := ⟨RL, "law", "([I)Z"⟩
abbrev vwCl : List vw_C := [(RX0, TX0, 2), (RX1, TX1, 2), (RX2, TX2, 2), (RX3, TX3, 7), (RX4, TX4, 10)]
end
section
theorem dX0_init_0 : decode cX0_init 0 = .ok (.aload_n 0, 1) := by decide +kernel
theorem dX0_init_1 : decode cX0_init 1 = .ok (.invokespecial 3, 3) := by decide +kernel
theorem dX0_init_4 : decode cX0_init 4 = .ok (.aload_n 0, 1) := by decide +kernel
theorem dX0_init_5 : decode cX0_init 5 = .ok (.ldc 9, 2) := by decide +kernel
theorem dX0_init_7 : decode cX0_init 7 = .ok (.newarray .byte, 2) := by decide +kernel
theorem dX0_init_9 : decode cX0_init 9 = .ok (.putfield 10, 3) := by decide +kernel
theorem dX0_init_12 : decode cX0_init 12 = .ok (.aload_n 0, 1) := by decide +kernel
theorem dX0_init_13 : decode cX0_init 13 = .ok (.iconst 0, 1) := by decide +kernel
theorem dX0_init_14 : decode cX0_init 14 = .ok (.putfield 16, 3) := by decide +kernel
theorem dX0_init_17 : decode cX0_init 17 = .ok (.return_, 1) := by decide +kernel
theorem dX0_size_0 : decode cX0_size 0 = .ok (.aload_n 0, 1) := by decide +kernel
theorem dX0_size_1 : decode cX0_size 1 = .ok (.getfield 16, 3) := by decide +kernel
theorem dX0_size_4 : decode cX0_size 4 = .ok (.ireturn, 1) := by decide +kernel
theorem dX0_clear_0 : decode cX0_clear 0 = .ok (.aload_n 0, 1) := by decide +kernel
theorem dX0_clear_1 : decode cX0_clear 1 = .ok (.iconst 0, 1) := by decide +kernel
theorem dX0_clear_2 : decode cX0_clear 2 = .ok (.putfield 16, 3) := by decide +kernel
theorem dX0_clear_5 : decode cX0_clear 5 = .ok (.return_, 1) := by decide +kernel
theorem dX0_codeAt_0 : decode cX0_codeAt 0 = .ok (.iload_n 1, 1) := by decide +kernel
theorem dX0_codeAt_1 : decode cX0_codeAt 1 = .ok (.ifCond .lt 20, 3) := by decide +kernel
theorem dX0_codeAt_4 : decode cX0_codeAt 4 = .ok (.iload_n 1, 1) := by decide +kernel
theorem dX0_codeAt_5 : decode cX0_codeAt 5 = .ok (.aload_n 0, 1) := by decide +kernel
theorem dX0_codeAt_6 : decode cX0_codeAt 6 = .ok (.getfield 16, 3) := by decide +kernel
theorem dX0_codeAt_9 : decode cX0_codeAt 9 = .ok (.if_icmp .ge 12, 3) := by decide +kernel
theorem dX0_codeAt_12 : decode cX0_codeAt 12 = .ok (.aload_n 0, 1) := by decide +kernel
theorem dX0_codeAt_13 : decode cX0_codeAt 13 = .ok (.getfield 10, 3) := by decide +kernel
theorem dX0_codeAt_16 : decode cX0_codeAt 16 = .ok (.iload_n 1, 1) := by decide +kernel
theorem dX0_codeAt_17 : decode cX0_codeAt 17 = .ok (.baload, 1) := by decide +kernel
theorem dX0_codeAt_18 : decode cX0_codeAt 18 = .ok (.goto 4, 3) := by decide +kernel
theorem dX0_codeAt_21 : decode cX0_codeAt 21 = .ok (.iconst (-1), 1) := by decide +kernel
theorem dX0_codeAt_22 : decode cX0_codeAt 22 = .ok (.ireturn, 1) := by decide +kernel
theorem dX0_appendBytes_0 : decode cX0_appendBytes 0 = .ok (.iconst 0, 1) := by decide +kernel
theorem dX0_appendBytes_1 : decode cX0_appendBytes 1 = .ok (.istore_n 3, 1) := by decide +kernel
theorem dX0_appendBytes_2 : decode cX0_appendBytes 2 = .ok (.bipush 56, 2) := by decide +kernel
theorem dX0_appendBytes_4 : decode cX0_appendBytes 4 = .ok (.istore 4, 2) := by decide +kernel
theorem dX0_appendBytes_6 : decode cX0_appendBytes 6 = .ok (.iload 4, 2) := by decide +kernel
theorem dX0_appendBytes_8 : decode cX0_appendBytes 8 = .ok (.ifCond .lt 42, 3) := by decide +kernel
theorem dX0_appendBytes_11 : decode cX0_appendBytes 11 = .ok (.lload_n 1, 1) := by decide +kernel
theorem dX0_appendBytes_12 : decode cX0_appendBytes 12 = .ok (.iload 4, 2) := by decide +kernel
theorem dX0_appendBytes_14 : decode cX0_appendBytes 14 = .ok (.lushr, 1) := by decide +kernel
theorem dX0_appendBytes_15 : decode cX0_appendBytes 15 = .ok (.l2i, 1) := by decide +kernel
theorem dX0_appendBytes_16 : decode cX0_appendBytes 16 = .ok (.sipush 255, 3) := by decide +kernel
theorem dX0_appendBytes_19 : decode cX0_appendBytes 19 = .ok (.iand, 1) := by decide +kernel
theorem dX0_appendBytes_20 : decode cX0_appendBytes 20 = .ok (.istore 5, 2) := by decide +kernel
theorem dX0_appendBytes_22 : decode cX0_appendBytes 22 = .ok (.iload 5, 2) := by decide +kernel
theorem dX0_appendBytes_24 : decode cX0_appendBytes 24 = .ok (.bipush 126, 2) := by decide +kernel
theorem dX0_appendBytes_26 : decode cX0_appendBytes 26 = .ok (.if_icmp .le 5, 3) := by decide +kernel
theorem dX0_appendBytes_29 : decode cX0_appendBytes 29 = .ok (.iconst 0, 1) := by decide +kernel
theorem dX0_appendBytes_30 : decode cX0_appendBytes 30 = .ok (.ireturn, 1) := by decide +kernel
theorem dX0_appendBytes_31 : decode cX0_appendBytes 31 = .ok (.iload_n 3, 1) := by decide +kernel
theorem dX0_appendBytes_32 : decode cX0_appendBytes 32 = .ok (.iload 5, 2) := by decide +kernel
theorem dX0_appendBytes_34 : decode cX0_appendBytes 34 = .ok (.ifCond .ne 7, 3) := by decide +kernel
theorem dX0_appendBytes_37 : decode cX0_appendBytes 37 = .ok (.iconst 0, 1) := by decide +kernel
theorem dX0_appendBytes_38 : decode cX0_appendBytes 38 = .ok (.goto 4, 3) := by decide +kernel
theorem dX0_appendBytes_41 : decode cX0_appendBytes 41 = .ok (.iconst 1, 1) := by decide +kernel
theorem dX0_appendBytes_42 : decode cX0_appendBytes 42 = .ok (.iadd, 1) := by decide +kernel
theorem dX0_appendBytes_43 : decode cX0_appendBytes 43 = .ok (.istore_n 3, 1) := by decide +kernel
theorem dX0_appendBytes_44 : decode cX0_appendBytes 44 = .ok (.iinc 4 (-8), 3) := by decide +kernel
theorem dX0_appendBytes_47 : decode cX0_appendBytes 47 = .ok (.goto (-41), 3) := by decide +kernel
theorem dX0_appendBytes_50 : decode cX0_appendBytes 50 = .ok (.iload_n 3, 1) := by decide +kernel
theorem dX0_appendBytes_51 : decode cX0_appendBytes 51 = .ok (.aload_n 0, 1) := by decide +kernel
theorem dX0_appendBytes_52 : decode cX0_appendBytes 52 = .ok (.getfield 10, 3) := by decide +kernel
theorem dX0_appendBytes_55 : decode cX0_appendBytes 55 = .ok (.arraylength, 1) := by decide +kernel
theorem dX0_appendBytes_56 : decode cX0_appendBytes 56 = .ok (.aload_n 0, 1) := by decide +kernel
theorem dX0_appendBytes_57 : decode cX0_appendBytes 57 = .ok (.getfield 16, 3) := by decide +kernel
theorem dX0_appendBytes_60 : decode cX0_appendBytes 60 = .ok (.isub, 1) := by decide +kernel
theorem dX0_appendBytes_61 : decode cX0_appendBytes 61 = .ok (.if_icmp .le 5, 3) := by decide +kernel
theorem dX0_appendBytes_64 : decode cX0_appendBytes 64 = .ok (.iconst 0, 1) := by decide +kernel
theorem dX0_appendBytes_65 : decode cX0_appendBytes 65 = .ok (.ireturn, 1) := by decide +kernel
theorem dX0_appendBytes_66 : decode cX0_appendBytes 66 = .ok (.bipush 56, 2) := by decide +kernel
theorem dX0_appendBytes_68 : decode cX0_appendBytes 68 = .ok (.istore 4, 2) := by decide +kernel
theorem dX0_appendBytes_70 : decode cX0_appendBytes 70 = .ok (.iload 4, 2) := by decide +kernel
theorem dX0_appendBytes_72 : decode cX0_appendBytes 72 = .ok (.ifCond .lt 47, 3) := by decide +kernel
theorem dX0_appendBytes_75 : decode cX0_appendBytes 75 = .ok (.lload_n 1, 1) := by decide +kernel
theorem dX0_appendBytes_76 : decode cX0_appendBytes 76 = .ok (.iload 4, 2) := by decide +kernel
theorem dX0_appendBytes_78 : decode cX0_appendBytes 78 = .ok (.lushr, 1) := by decide +kernel
theorem dX0_appendBytes_79 : decode cX0_appendBytes 79 = .ok (.l2i, 1) := by decide +kernel
theorem dX0_appendBytes_80 : decode cX0_appendBytes 80 = .ok (.sipush 255, 3) := by decide +kernel
theorem dX0_appendBytes_83 : decode cX0_appendBytes 83 = .ok (.iand, 1) := by decide +kernel
theorem dX0_appendBytes_84 : decode cX0_appendBytes 84 = .ok (.istore 5, 2) := by decide +kernel
theorem dX0_appendBytes_86 : decode cX0_appendBytes 86 = .ok (.iload 5, 2) := by decide +kernel
theorem dX0_appendBytes_88 : decode cX0_appendBytes 88 = .ok (.ifCond .eq 25, 3) := by decide +kernel
theorem dX0_appendBytes_91 : decode cX0_appendBytes 91 = .ok (.aload_n 0, 1) := by decide +kernel
theorem dX0_appendBytes_92 : decode cX0_appendBytes 92 = .ok (.getfield 10, 3) := by decide +kernel
theorem dX0_appendBytes_95 : decode cX0_appendBytes 95 = .ok (.aload_n 0, 1) := by decide +kernel
theorem dX0_appendBytes_96 : decode cX0_appendBytes 96 = .ok (.getfield 16, 3) := by decide +kernel
theorem dX0_appendBytes_99 : decode cX0_appendBytes 99 = .ok (.iload 5, 2) := by decide +kernel
theorem dX0_appendBytes_101 : decode cX0_appendBytes 101 = .ok (.i2b, 1) := by decide +kernel
theorem dX0_appendBytes_102 : decode cX0_appendBytes 102 = .ok (.bastore, 1) := by decide +kernel
theorem dX0_appendBytes_103 : decode cX0_appendBytes 103 = .ok (.aload_n 0, 1) := by decide +kernel
theorem dX0_appendBytes_104 : decode cX0_appendBytes 104 = .ok (.dup, 1) := by decide +kernel
theorem dX0_appendBytes_105 : decode cX0_appendBytes 105 = .ok (.getfield 16, 3) := by decide +kernel
theorem dX0_appendBytes_108 : decode cX0_appendBytes 108 = .ok (.iconst 1, 1) := by decide +kernel
theorem dX0_appendBytes_109 : decode cX0_appendBytes 109 = .ok (.iadd, 1) := by decide +kernel
theorem dX0_appendBytes_110 : decode cX0_appendBytes 110 = .ok (.putfield 16, 3) := by decide +kernel
theorem dX0_appendBytes_113 : decode cX0_appendBytes 113 = .ok (.iinc 4 (-8), 3) := by decide +kernel
theorem dX0_appendBytes_116 : decode cX0_appendBytes 116 = .ok (.goto (-46), 3) := by decide +kernel
theorem dX0_appendBytes_119 : decode cX0_appendBytes 119 = .ok (.iconst 1, 1) := by decide +kernel
theorem dX0_appendBytes_120 : decode cX0_appendBytes 120 = .ok (.ireturn, 1) := by decide +kernel
theorem dX0_appendEnd_0 : decode cX0_appendEnd 0 = .ok (.iload_n 1, 1) := by decide +kernel
theorem dX0_appendEnd_1 : decode cX0_appendEnd 1 = .ok (.iconst 1, 1) := by decide +kernel
theorem dX0_appendEnd_2 : decode cX0_appendEnd 2 = .ok (.if_icmp .lt 15, 3) := by decide +kernel
theorem dX0_appendEnd_5 : decode cX0_appendEnd 5 = .ok (.iload_n 1, 1) := by decide +kernel
theorem dX0_appendEnd_6 : decode cX0_appendEnd 6 = .ok (.aload_n 0, 1) := by decide +kernel
theorem dX0_appendEnd_7 : decode cX0_appendEnd 7 = .ok (.getfield 16, 3) := by decide +kernel
theorem dX0_appendEnd_10 : decode cX0_appendEnd 10 = .ok (.if_icmp .gt 7, 3) := by decide +kernel
theorem dX0_appendEnd_13 : decode cX0_appendEnd 13 = .ok (.iload_n 2, 1) := by decide +kernel
theorem dX0_appendEnd_14 : decode cX0_appendEnd 14 = .ok (.ifCond .ge 5, 3) := by decide +kernel
theorem dX0_appendEnd_17 : decode cX0_appendEnd 17 = .ok (.iconst 0, 1) := by decide +kernel
theorem dX0_appendEnd_18 : decode cX0_appendEnd 18 = .ok (.ireturn, 1) := by decide +kernel
theorem dX0_appendEnd_19 : decode cX0_appendEnd 19 = .ok (.iload_n 1, 1) := by decide +kernel
theorem dX0_appendEnd_20 : decode cX0_appendEnd 20 = .ok (.i2l, 1) := by decide +kernel
theorem dX0_appendEnd_21 : decode cX0_appendEnd 21 = .ok (.iload_n 2, 1) := by decide +kernel
theorem dX0_appendEnd_22 : decode cX0_appendEnd 22 = .ok (.i2l, 1) := by decide +kernel
theorem dX0_appendEnd_23 : decode cX0_appendEnd 23 = .ok (.lmul, 1) := by decide +kernel
theorem dX0_appendEnd_24 : decode cX0_appendEnd 24 = .ok (.lstore_n 3, 1) := by decide +kernel
theorem dX0_appendEnd_25 : decode cX0_appendEnd 25 = .ok (.lload_n 3, 1) := by decide +kernel
theorem dX0_appendEnd_26 : decode cX0_appendEnd 26 = .ok (.aload_n 0, 1) := by decide +kernel
theorem dX0_appendEnd_27 : decode cX0_appendEnd 27 = .ok (.getfield 10, 3) := by decide +kernel
theorem dX0_appendEnd_30 : decode cX0_appendEnd 30 = .ok (.arraylength, 1) := by decide +kernel
theorem dX0_appendEnd_31 : decode cX0_appendEnd 31 = .ok (.aload_n 0, 1) := by decide +kernel
theorem dX0_appendEnd_32 : decode cX0_appendEnd 32 = .ok (.getfield 16, 3) := by decide +kernel
theorem dX0_appendEnd_35 : decode cX0_appendEnd 35 = .ok (.isub, 1) := by decide +kernel
theorem dX0_appendEnd_36 : decode cX0_appendEnd 36 = .ok (.i2l, 1) := by decide +kernel
theorem dX0_appendEnd_37 : decode cX0_appendEnd 37 = .ok (.lcmp, 1) := by decide +kernel
theorem dX0_appendEnd_38 : decode cX0_appendEnd 38 = .ok (.ifCond .le 5, 3) := by decide +kernel
theorem dX0_appendEnd_41 : decode cX0_appendEnd 41 = .ok (.iconst 0, 1) := by decide +kernel
theorem dX0_appendEnd_42 : decode cX0_appendEnd 42 = .ok (.ireturn, 1) := by decide +kernel
theorem dX0_appendEnd_43 : decode cX0_appendEnd 43 = .ok (.aload_n 0, 1) := by decide +kernel
theorem dX0_appendEnd_44 : decode cX0_appendEnd 44 = .ok (.getfield 16, 3) := by decide +kernel
theorem dX0_appendEnd_47 : decode cX0_appendEnd 47 = .ok (.lload_n 3, 1) := by decide +kernel
theorem dX0_appendEnd_48 : decode cX0_appendEnd 48 = .ok (.l2i, 1) := by decide +kernel
theorem dX0_appendEnd_49 : decode cX0_appendEnd 49 = .ok (.iadd, 1) := by decide +kernel
theorem dX0_appendEnd_50 : decode cX0_appendEnd 50 = .ok (.istore 5, 2) := by decide +kernel
theorem dX0_appendEnd_52 : decode cX0_appendEnd 52 = .ok (.aload_n 0, 1) := by decide +kernel
theorem dX0_appendEnd_53 : decode cX0_appendEnd 53 = .ok (.getfield 16, 3) := by decide +kernel
theorem dX0_appendEnd_56 : decode cX0_appendEnd 56 = .ok (.istore 6, 2) := by decide +kernel
theorem dX0_appendEnd_58 : decode cX0_appendEnd 58 = .ok (.iload 6, 2) := by decide +kernel
theorem dX0_appendEnd_60 : decode cX0_appendEnd 60 = .ok (.iload 5, 2) := by decide +kernel
theorem dX0_appendEnd_62 : decode cX0_appendEnd 62 = .ok (.if_icmp .ge 25, 3) := by decide +kernel
theorem dX0_appendEnd_65 : decode cX0_appendEnd 65 = .ok (.aload_n 0, 1) := by decide +kernel
theorem dX0_appendEnd_66 : decode cX0_appendEnd 66 = .ok (.getfield 10, 3) := by decide +kernel
theorem dX0_appendEnd_69 : decode cX0_appendEnd 69 = .ok (.iload 6, 2) := by decide +kernel
theorem dX0_appendEnd_71 : decode cX0_appendEnd 71 = .ok (.aload_n 0, 1) := by decide +kernel
theorem dX0_appendEnd_72 : decode cX0_appendEnd 72 = .ok (.getfield 10, 3) := by decide +kernel
theorem dX0_appendEnd_75 : decode cX0_appendEnd 75 = .ok (.iload 6, 2) := by decide +kernel
theorem dX0_appendEnd_77 : decode cX0_appendEnd 77 = .ok (.iload_n 1, 1) := by decide +kernel
theorem dX0_appendEnd_78 : decode cX0_appendEnd 78 = .ok (.isub, 1) := by decide +kernel
theorem dX0_appendEnd_79 : decode cX0_appendEnd 79 = .ok (.baload, 1) := by decide +kernel
theorem dX0_appendEnd_80 : decode cX0_appendEnd 80 = .ok (.bastore, 1) := by decide +kernel
theorem dX0_appendEnd_81 : decode cX0_appendEnd 81 = .ok (.iinc 6 1, 3) := by decide +kernel
theorem dX0_appendEnd_84 : decode cX0_appendEnd 84 = .ok (.goto (-26), 3) := by decide +kernel
theorem dX0_appendEnd_87 : decode cX0_appendEnd 87 = .ok (.aload_n 0, 1) := by decide +kernel
theorem dX0_appendEnd_88 : decode cX0_appendEnd 88 = .ok (.iload 5, 2) := by decide +kernel
theorem dX0_appendEnd_90 : decode cX0_appendEnd 90 = .ok (.putfield 16, 3) := by decide +kernel
theorem dX0_appendEnd_93 : decode cX0_appendEnd 93 = .ok (.iconst 1, 1) := by decide +kernel
theorem dX0_appendEnd_94 : decode cX0_appendEnd 94 = .ok (.ireturn, 1) := by decide +kernel
theorem dX0_firstOther_0 : decode cX0_firstOther 0 = .ok (.iload_n 1, 1) := by decide +kernel
theorem dX0_firstOther_1 : decode cX0_firstOther 1 = .ok (.istore_n 3, 1) := by decide +kernel
theorem dX0_firstOther_2 : decode cX0_firstOther 2 = .ok (.iload_n 3, 1) := by decide +kernel
theorem dX0_firstOther_3 : decode cX0_firstOther 3 = .ok (.aload_n 0, 1) := by decide +kernel
theorem dX0_firstOther_4 : decode cX0_firstOther 4 = .ok (.getfield 16, 3) := by decide +kernel
theorem dX0_firstOther_7 : decode cX0_firstOther 7 = .ok (.if_icmp .ge 23, 3) := by decide +kernel
theorem dX0_firstOther_10 : decode cX0_firstOther 10 = .ok (.aload_n 0, 1) := by decide +kernel
theorem dX0_firstOther_11 : decode cX0_firstOther 11 = .ok (.iload_n 3, 1) := by decide +kernel
theorem dX0_firstOther_12 : decode cX0_firstOther 12 = .ok (.invokevirtual 20, 3) := by decide +kernel
theorem dX0_firstOther_15 : decode cX0_firstOther 15 = .ok (.invokestatic 24, 3) := by decide +kernel
theorem dX0_firstOther_18 : decode cX0_firstOther 18 = .ok (.iload_n 2, 1) := by decide +kernel
theorem dX0_firstOther_19 : decode cX0_firstOther 19 = .ok (.if_icmp .lt 5, 3) := by decide +kernel
theorem dX0_firstOther_22 : decode cX0_firstOther 22 = .ok (.iload_n 3, 1) := by decide +kernel
theorem dX0_firstOther_23 : decode cX0_firstOther 23 = .ok (.ireturn, 1) := by decide +kernel
theorem dX0_firstOther_24 : decode cX0_firstOther 24 = .ok (.iinc 3 1, 3) := by decide +kernel
theorem dX0_firstOther_27 : decode cX0_firstOther 27 = .ok (.goto (-25), 3) := by decide +kernel
theorem dX0_firstOther_30 : decode cX0_firstOther 30 = .ok (.aload_n 0, 1) := by decide +kernel
theorem dX0_firstOther_31 : decode cX0_firstOther 31 = .ok (.getfield 16, 3) := by decide +kernel
theorem dX0_firstOther_34 : decode cX0_firstOther 34 = .ok (.ireturn, 1) := by decide +kernel
theorem dX1_init_0 : decode cX1_init 0 = .ok (.aload_n 0, 1) := by decide +kernel
theorem dX1_init_1 : decode cX1_init 1 = .ok (.invokespecial 3, 3) := by decide +kernel
theorem dX1_init_4 : decode cX1_init 4 = .ok (.aload_n 0, 1) := by decide +kernel
theorem dX1_init_5 : decode cX1_init 5 = .ok (.ldc 9, 2) := by decide +kernel
theorem dX1_init_7 : decode cX1_init 7 = .ok (.newarray .byte, 2) := by decide +kernel
theorem dX1_init_9 : decode cX1_init 9 = .ok (.putfield 10, 3) := by decide +kernel
theorem dX1_init_12 : decode cX1_init 12 = .ok (.aload_n 0, 1) := by decide +kernel
theorem dX1_init_13 : decode cX1_init 13 = .ok (.aload_n 0, 1) := by decide +kernel
theorem dX1_init_14 : decode cX1_init 14 = .ok (.getfield 10, 3) := by decide +kernel
theorem dX1_init_17 : decode cX1_init 17 = .ok (.arraylength, 1) := by decide +kernel
theorem dX1_init_18 : decode cX1_init 18 = .ok (.putfield 16, 3) := by decide +kernel
theorem dX1_init_21 : decode cX1_init 21 = .ok (.return_, 1) := by decide +kernel
theorem dX1_size_0 : decode cX1_size 0 = .ok (.aload_n 0, 1) := by decide +kernel
theorem dX1_size_1 : decode cX1_size 1 = .ok (.getfield 10, 3) := by decide +kernel
theorem dX1_size_4 : decode cX1_size 4 = .ok (.arraylength, 1) := by decide +kernel
theorem dX1_size_5 : decode cX1_size 5 = .ok (.aload_n 0, 1) := by decide +kernel
theorem dX1_size_6 : decode cX1_size 6 = .ok (.getfield 16, 3) := by decide +kernel
theorem dX1_size_9 : decode cX1_size 9 = .ok (.isub, 1) := by decide +kernel
theorem dX1_size_10 : decode cX1_size 10 = .ok (.ireturn, 1) := by decide +kernel
theorem dX1_codeAt_0 : decode cX1_codeAt 0 = .ok (.iload_n 1, 1) := by decide +kernel
theorem dX1_codeAt_1 : decode cX1_codeAt 1 = .ok (.ifCond .lt 25, 3) := by decide +kernel
theorem dX1_codeAt_4 : decode cX1_codeAt 4 = .ok (.iload_n 1, 1) := by decide +kernel
theorem dX1_codeAt_5 : decode cX1_codeAt 5 = .ok (.aload_n 0, 1) := by decide +kernel
theorem dX1_codeAt_6 : decode cX1_codeAt 6 = .ok (.invokevirtual 20, 3) := by decide +kernel
theorem dX1_codeAt_9 : decode cX1_codeAt 9 = .ok (.if_icmp .ge 17, 3) := by decide +kernel
theorem dX1_codeAt_12 : decode cX1_codeAt 12 = .ok (.aload_n 0, 1) := by decide +kernel
theorem dX1_codeAt_13 : decode cX1_codeAt 13 = .ok (.getfield 10, 3) := by decide +kernel
theorem dX1_codeAt_16 : decode cX1_codeAt 16 = .ok (.aload_n 0, 1) := by decide +kernel
theorem dX1_codeAt_17 : decode cX1_codeAt 17 = .ok (.getfield 16, 3) := by decide +kernel
theorem dX1_codeAt_20 : decode cX1_codeAt 20 = .ok (.iload_n 1, 1) := by decide +kernel
theorem dX1_codeAt_21 : decode cX1_codeAt 21 = .ok (.iadd, 1) := by decide +kernel
theorem dX1_codeAt_22 : decode cX1_codeAt 22 = .ok (.baload, 1) := by decide +kernel
theorem dX1_codeAt_23 : decode cX1_codeAt 23 = .ok (.goto 4, 3) := by decide +kernel
theorem dX1_codeAt_26 : decode cX1_codeAt 26 = .ok (.iconst (-1), 1) := by decide +kernel
theorem dX1_codeAt_27 : decode cX1_codeAt 27 = .ok (.ireturn, 1) := by decide +kernel
theorem dX1_prepend_0 : decode cX1_prepend 0 = .ok (.aload_n 0, 1) := by decide +kernel
theorem dX1_prepend_1 : decode cX1_prepend 1 = .ok (.getfield 16, 3) := by decide +kernel
theorem dX1_prepend_4 : decode cX1_prepend 4 = .ok (.ifCond .le 24, 3) := by decide +kernel
theorem dX1_prepend_7 : decode cX1_prepend 7 = .ok (.aload_n 0, 1) := by decide +kernel
theorem dX1_prepend_8 : decode cX1_prepend 8 = .ok (.dup, 1) := by decide +kernel
theorem dX1_prepend_9 : decode cX1_prepend 9 = .ok (.getfield 16, 3) := by decide +kernel
theorem dX1_prepend_12 : decode cX1_prepend 12 = .ok (.iconst 1, 1) := by decide +kernel
theorem dX1_prepend_13 : decode cX1_prepend 13 = .ok (.isub, 1) := by decide +kernel
theorem dX1_prepend_14 : decode cX1_prepend 14 = .ok (.putfield 16, 3) := by decide +kernel
theorem dX1_prepend_17 : decode cX1_prepend 17 = .ok (.aload_n 0, 1) := by decide +kernel
theorem dX1_prepend_18 : decode cX1_prepend 18 = .ok (.getfield 10, 3) := by decide +kernel
theorem dX1_prepend_21 : decode cX1_prepend 21 = .ok (.aload_n 0, 1) := by decide +kernel
theorem dX1_prepend_22 : decode cX1_prepend 22 = .ok (.getfield 16, 3) := by decide +kernel
theorem dX1_prepend_25 : decode cX1_prepend 25 = .ok (.iload_n 1, 1) := by decide +kernel
theorem dX1_prepend_26 : decode cX1_prepend 26 = .ok (.i2b, 1) := by decide +kernel
theorem dX1_prepend_27 : decode cX1_prepend 27 = .ok (.bastore, 1) := by decide +kernel
theorem dX1_prepend_28 : decode cX1_prepend 28 = .ok (.return_, 1) := by decide +kernel
theorem dX1_becomeDigitsOf_0 : decode cX1_becomeDigitsOf 0 = .ok (.iload_n 2, 1) := by decide +kernel
theorem dX1_becomeDigitsOf_1 : decode cX1_becomeDigitsOf 1 = .ok (.i2l, 1) := by decide +kernel
theorem dX1_becomeDigitsOf_2 : decode cX1_becomeDigitsOf 2 = .ok (.lstore_n 3, 1) := by decide +kernel
theorem dX1_becomeDigitsOf_3 : decode cX1_becomeDigitsOf 3 = .ok (.iconst 1, 1) := by decide +kernel
theorem dX1_becomeDigitsOf_4 : decode cX1_becomeDigitsOf 4 = .ok (.istore 5, 2) := by decide +kernel
theorem dX1_becomeDigitsOf_6 : decode cX1_becomeDigitsOf 6 = .ok (.ldc2_w 24, 3) := by decide +kernel
theorem dX1_becomeDigitsOf_9 : decode cX1_becomeDigitsOf 9 = .ok (.iload_n 2, 1) := by decide +kernel
theorem dX1_becomeDigitsOf_10 : decode cX1_becomeDigitsOf 10 = .ok (.i2l, 1) := by decide +kernel
theorem dX1_becomeDigitsOf_11 : decode cX1_becomeDigitsOf 11 = .ok (.ldiv, 1) := by decide +kernel
theorem dX1_becomeDigitsOf_12 : decode cX1_becomeDigitsOf 12 = .ok (.lstore 6, 2) := by decide +kernel
theorem dX1_becomeDigitsOf_14 : decode cX1_becomeDigitsOf 14 = .ok (.iconst 0, 1) := by decide +kernel
theorem dX1_becomeDigitsOf_15 : decode cX1_becomeDigitsOf 15 = .ok (.istore 8, 2) := by decide +kernel
theorem dX1_becomeDigitsOf_17 : decode cX1_becomeDigitsOf 17 = .ok (.iload 8, 2) := by decide +kernel
theorem dX1_becomeDigitsOf_19 : decode cX1_becomeDigitsOf 19 = .ok (.bipush 32, 2) := by decide +kernel
theorem dX1_becomeDigitsOf_21 : decode cX1_becomeDigitsOf 21 = .ok (.if_icmp .ge 24, 3) := by decide +kernel
theorem dX1_becomeDigitsOf_24 : decode cX1_becomeDigitsOf 24 = .ok (.lload_n 3, 1) := by decide +kernel
theorem dX1_becomeDigitsOf_25 : decode cX1_becomeDigitsOf 25 = .ok (.lload 6, 2) := by decide +kernel
theorem dX1_becomeDigitsOf_27 : decode cX1_becomeDigitsOf 27 = .ok (.lcmp, 1) := by decide +kernel
theorem dX1_becomeDigitsOf_28 : decode cX1_becomeDigitsOf 28 = .ok (.ifCond .gt 17, 3) := by decide +kernel
theorem dX1_becomeDigitsOf_31 : decode cX1_becomeDigitsOf 31 = .ok (.lload_n 3, 1) := by decide +kernel
theorem dX1_becomeDigitsOf_32 : decode cX1_becomeDigitsOf 32 = .ok (.iload_n 2, 1) := by decide +kernel
theorem dX1_becomeDigitsOf_33 : decode cX1_becomeDigitsOf 33 = .ok (.i2l, 1) := by decide +kernel
theorem dX1_becomeDigitsOf_34 : decode cX1_becomeDigitsOf 34 = .ok (.lmul, 1) := by decide +kernel
theorem dX1_becomeDigitsOf_35 : decode cX1_becomeDigitsOf 35 = .ok (.lstore_n 3, 1) := by decide +kernel
theorem dX1_becomeDigitsOf_36 : decode cX1_becomeDigitsOf 36 = .ok (.iinc 5 1, 3) := by decide +kernel
theorem dX1_becomeDigitsOf_39 : decode cX1_becomeDigitsOf 39 = .ok (.iinc 8 1, 3) := by decide +kernel
theorem dX1_becomeDigitsOf_42 : decode cX1_becomeDigitsOf 42 = .ok (.goto (-25), 3) := by decide +kernel
theorem dX1_becomeDigitsOf_45 : decode cX1_becomeDigitsOf 45 = .ok (.aload_n 0, 1) := by decide +kernel
theorem dX1_becomeDigitsOf_46 : decode cX1_becomeDigitsOf 46 = .ok (.aload_n 0, 1) := by decide +kernel
theorem dX1_becomeDigitsOf_47 : decode cX1_becomeDigitsOf 47 = .ok (.getfield 10, 3) := by decide +kernel
theorem dX1_becomeDigitsOf_50 : decode cX1_becomeDigitsOf 50 = .ok (.arraylength, 1) := by decide +kernel
theorem dX1_becomeDigitsOf_51 : decode cX1_becomeDigitsOf 51 = .ok (.putfield 16, 3) := by decide +kernel
theorem dX1_becomeDigitsOf_54 : decode cX1_becomeDigitsOf 54 = .ok (.iconst 0, 1) := by decide +kernel
theorem dX1_becomeDigitsOf_55 : decode cX1_becomeDigitsOf 55 = .ok (.istore 8, 2) := by decide +kernel
theorem dX1_becomeDigitsOf_57 : decode cX1_becomeDigitsOf 57 = .ok (.iload 8, 2) := by decide +kernel
theorem dX1_becomeDigitsOf_59 : decode cX1_becomeDigitsOf 59 = .ok (.ldc 9, 2) := by decide +kernel
theorem dX1_becomeDigitsOf_61 : decode cX1_becomeDigitsOf 61 = .ok (.if_icmp .ge 46, 3) := by decide +kernel
theorem dX1_becomeDigitsOf_64 : decode cX1_becomeDigitsOf 64 = .ok (.aload_n 1, 1) := by decide +kernel
theorem dX1_becomeDigitsOf_65 : decode cX1_becomeDigitsOf 65 = .ok (.invokevirtual 26, 3) := by decide +kernel
theorem dX1_becomeDigitsOf_68 : decode cX1_becomeDigitsOf 68 = .ok (.ifCond .ne 39, 3) := by decide +kernel
theorem dX1_becomeDigitsOf_71 : decode cX1_becomeDigitsOf 71 = .ok (.aload_n 1, 1) := by decide +kernel
theorem dX1_becomeDigitsOf_72 : decode cX1_becomeDigitsOf 72 = .ok (.lload_n 3, 1) := by decide +kernel
theorem dX1_becomeDigitsOf_73 : decode cX1_becomeDigitsOf 73 = .ok (.invokevirtual 32, 3) := by decide +kernel
theorem dX1_becomeDigitsOf_76 : decode cX1_becomeDigitsOf 76 = .ok (.lstore 9, 2) := by decide +kernel
theorem dX1_becomeDigitsOf_78 : decode cX1_becomeDigitsOf 78 = .ok (.aload_n 0, 1) := by decide +kernel
theorem dX1_becomeDigitsOf_79 : decode cX1_becomeDigitsOf 79 = .ok (.lload 9, 2) := by decide +kernel
theorem dX1_becomeDigitsOf_81 : decode cX1_becomeDigitsOf 81 = .ok (.iconst 2, 1) := by decide +kernel
theorem dX1_becomeDigitsOf_82 : decode cX1_becomeDigitsOf 82 = .ok (.iload 5, 2) := by decide +kernel
theorem dX1_becomeDigitsOf_84 : decode cX1_becomeDigitsOf 84 = .ok (.imul, 1) := by decide +kernel
theorem dX1_becomeDigitsOf_85 : decode cX1_becomeDigitsOf 85 = .ok (.iload_n 2, 1) := by decide +kernel
theorem dX1_becomeDigitsOf_86 : decode cX1_becomeDigitsOf 86 = .ok (.aload_n 1, 1) := by decide +kernel
theorem dX1_becomeDigitsOf_87 : decode cX1_becomeDigitsOf 87 = .ok (.invokevirtual 26, 3) := by decide +kernel
theorem dX1_becomeDigitsOf_90 : decode cX1_becomeDigitsOf 90 = .ok (.ifCond .ne 7, 3) := by decide +kernel
theorem dX1_becomeDigitsOf_93 : decode cX1_becomeDigitsOf 93 = .ok (.iconst 1, 1) := by decide +kernel
theorem dX1_becomeDigitsOf_94 : decode cX1_becomeDigitsOf 94 = .ok (.goto 4, 3) := by decide +kernel
theorem dX1_becomeDigitsOf_97 : decode cX1_becomeDigitsOf 97 = .ok (.iconst 0, 1) := by decide +kernel
theorem dX1_becomeDigitsOf_98 : decode cX1_becomeDigitsOf 98 = .ok (.invokevirtual 36, 3) := by decide +kernel
theorem dX1_becomeDigitsOf_101 : decode cX1_becomeDigitsOf 101 = .ok (.iinc 8 1, 3) := by decide +kernel
theorem dX1_becomeDigitsOf_104 : decode cX1_becomeDigitsOf 104 = .ok (.goto (-47), 3) := by decide +kernel
theorem dX1_becomeDigitsOf_107 : decode cX1_becomeDigitsOf 107 = .ok (.aload_n 0, 1) := by decide +kernel
theorem dX1_becomeDigitsOf_108 : decode cX1_becomeDigitsOf 108 = .ok (.invokevirtual 20, 3) := by decide +kernel
theorem dX1_becomeDigitsOf_111 : decode cX1_becomeDigitsOf 111 = .ok (.ifCond .ne 9, 3) := by decide +kernel
theorem dX1_becomeDigitsOf_114 : decode cX1_becomeDigitsOf 114 = .ok (.aload_n 0, 1) := by decide +kernel
theorem dX1_becomeDigitsOf_115 : decode cX1_becomeDigitsOf 115 = .ok (.bipush 48, 2) := by decide +kernel
theorem dX1_becomeDigitsOf_117 : decode cX1_becomeDigitsOf 117 = .ok (.invokevirtual 40, 3) := by decide +kernel
theorem dX1_becomeDigitsOf_120 : decode cX1_becomeDigitsOf 120 = .ok (.return_, 1) := by decide +kernel
theorem dX1_prependDigits_0 : decode cX1_prependDigits 0 = .ok (.lload_n 1, 1) := by decide +kernel
theorem dX1_prependDigits_1 : decode cX1_prependDigits 1 = .ok (.lstore 6, 2) := by decide +kernel
theorem dX1_prependDigits_3 : decode cX1_prependDigits 3 = .ok (.iconst 0, 1) := by decide +kernel
theorem dX1_prependDigits_4 : decode cX1_prependDigits 4 = .ok (.istore 8, 2) := by decide +kernel
theorem dX1_prependDigits_6 : decode cX1_prependDigits 6 = .ok (.iload 8, 2) := by decide +kernel
theorem dX1_prependDigits_8 : decode cX1_prependDigits 8 = .ok (.iload_n 3, 1) := by decide +kernel
theorem dX1_prependDigits_9 : decode cX1_prependDigits 9 = .ok (.if_icmp .ge 43, 3) := by decide +kernel
theorem dX1_prependDigits_12 : decode cX1_prependDigits 12 = .ok (.iload 5, 2) := by decide +kernel
theorem dX1_prependDigits_14 : decode cX1_prependDigits 14 = .ok (.ifCond .ne 10, 3) := by decide +kernel
theorem dX1_prependDigits_17 : decode cX1_prependDigits 17 = .ok (.lload 6, 2) := by decide +kernel
theorem dX1_prependDigits_19 : decode cX1_prependDigits 19 = .ok (.lconst 0, 1) := by decide +kernel
theorem dX1_prependDigits_20 : decode cX1_prependDigits 20 = .ok (.lcmp, 1) := by decide +kernel
theorem dX1_prependDigits_21 : decode cX1_prependDigits 21 = .ok (.ifCond .le 31, 3) := by decide +kernel
theorem dX1_prependDigits_24 : decode cX1_prependDigits 24 = .ok (.aload_n 0, 1) := by decide +kernel
theorem dX1_prependDigits_25 : decode cX1_prependDigits 25 = .ok (.lload 6, 2) := by decide +kernel
theorem dX1_prependDigits_27 : decode cX1_prependDigits 27 = .ok (.iload 4, 2) := by decide +kernel
theorem dX1_prependDigits_29 : decode cX1_prependDigits 29 = .ok (.i2l, 1) := by decide +kernel
theorem dX1_prependDigits_30 : decode cX1_prependDigits 30 = .ok (.lrem, 1) := by decide +kernel
theorem dX1_prependDigits_31 : decode cX1_prependDigits 31 = .ok (.l2i, 1) := by decide +kernel
theorem dX1_prependDigits_32 : decode cX1_prependDigits 32 = .ok (.invokestatic 44, 3) := by decide +kernel
theorem dX1_prependDigits_35 : decode cX1_prependDigits 35 = .ok (.invokevirtual 40, 3) := by decide +kernel
theorem dX1_prependDigits_38 : decode cX1_prependDigits 38 = .ok (.lload 6, 2) := by decide +kernel
theorem dX1_prependDigits_40 : decode cX1_prependDigits 40 = .ok (.iload 4, 2) := by decide +kernel
theorem dX1_prependDigits_42 : decode cX1_prependDigits 42 = .ok (.i2l, 1) := by decide +kernel
theorem dX1_prependDigits_43 : decode cX1_prependDigits 43 = .ok (.ldiv, 1) := by decide +kernel
theorem dX1_prependDigits_44 : decode cX1_prependDigits 44 = .ok (.lstore 6, 2) := by decide +kernel
theorem dX1_prependDigits_46 : decode cX1_prependDigits 46 = .ok (.iinc 8 1, 3) := by decide +kernel
theorem dX1_prependDigits_49 : decode cX1_prependDigits 49 = .ok (.goto (-43), 3) := by decide +kernel
theorem dX1_prependDigits_52 : decode cX1_prependDigits 52 = .ok (.return_, 1) := by decide +kernel
theorem dX2_init_0 : decode cX2_init 0 = .ok (.aload_n 0, 1) := by decide +kernel
theorem dX2_init_1 : decode cX2_init 1 = .ok (.invokespecial 3, 3) := by decide +kernel
theorem dX2_init_4 : decode cX2_init 4 = .ok (.aload_n 0, 1) := by decide +kernel
theorem dX2_init_5 : decode cX2_init 5 = .ok (.iload_n 1, 1) := by decide +kernel
theorem dX2_init_6 : decode cX2_init 6 = .ok (.iconst 2, 1) := by decide +kernel
theorem dX2_init_7 : decode cX2_init 7 = .ok (.invokestatic 9, 3) := by decide +kernel
theorem dX2_init_10 : decode cX2_init 10 = .ok (.newarray .int, 2) := by decide +kernel
theorem dX2_init_12 : decode cX2_init 12 = .ok (.putfield 15, 3) := by decide +kernel
theorem dX2_init_15 : decode cX2_init 15 = .ok (.aload_n 0, 1) := by decide +kernel
theorem dX2_init_16 : decode cX2_init 16 = .ok (.iconst 0, 1) := by decide +kernel
theorem dX2_init_17 : decode cX2_init 17 = .ok (.putfield 21, 3) := by decide +kernel
theorem dX2_init_20 : decode cX2_init 20 = .ok (.return_, 1) := by decide +kernel
theorem dX2_isZero_0 : decode cX2_isZero 0 = .ok (.aload_n 0, 1) := by decide +kernel
theorem dX2_isZero_1 : decode cX2_isZero 1 = .ok (.getfield 21, 3) := by decide +kernel
theorem dX2_isZero_4 : decode cX2_isZero 4 = .ok (.ifCond .ne 7, 3) := by decide +kernel
theorem dX2_isZero_7 : decode cX2_isZero 7 = .ok (.iconst 1, 1) := by decide +kernel
theorem dX2_isZero_8 : decode cX2_isZero 8 = .ok (.goto 4, 3) := by decide +kernel
theorem dX2_isZero_11 : decode cX2_isZero 11 = .ok (.iconst 0, 1) := by decide +kernel
theorem dX2_isZero_12 : decode cX2_isZero 12 = .ok (.ireturn, 1) := by decide +kernel
theorem dX2_wordAt_0 : decode cX2_wordAt 0 = .ok (.iload_n 1, 1) := by decide +kernel
theorem dX2_wordAt_1 : decode cX2_wordAt 1 = .ok (.ifCond .lt 20, 3) := by decide +kernel
theorem dX2_wordAt_4 : decode cX2_wordAt 4 = .ok (.iload_n 1, 1) := by decide +kernel
theorem dX2_wordAt_5 : decode cX2_wordAt 5 = .ok (.aload_n 0, 1) := by decide +kernel
theorem dX2_wordAt_6 : decode cX2_wordAt 6 = .ok (.getfield 21, 3) := by decide +kernel
theorem dX2_wordAt_9 : decode cX2_wordAt 9 = .ok (.if_icmp .ge 12, 3) := by decide +kernel
theorem dX2_wordAt_12 : decode cX2_wordAt 12 = .ok (.aload_n 0, 1) := by decide +kernel
theorem dX2_wordAt_13 : decode cX2_wordAt 13 = .ok (.getfield 15, 3) := by decide +kernel
theorem dX2_wordAt_16 : decode cX2_wordAt 16 = .ok (.iload_n 1, 1) := by decide +kernel
theorem dX2_wordAt_17 : decode cX2_wordAt 17 = .ok (.iaload, 1) := by decide +kernel
theorem dX2_wordAt_18 : decode cX2_wordAt 18 = .ok (.goto 4, 3) := by decide +kernel
theorem dX2_wordAt_21 : decode cX2_wordAt 21 = .ok (.iconst 0, 1) := by decide +kernel
theorem dX2_wordAt_22 : decode cX2_wordAt 22 = .ok (.ireturn, 1) := by decide +kernel
theorem dX2_countBits_0 : decode cX2_countBits 0 = .ok (.bipush 32, 2) := by decide +kernel
theorem dX2_countBits_2 : decode cX2_countBits 2 = .ok (.aload_n 0, 1) := by decide +kernel
theorem dX2_countBits_3 : decode cX2_countBits 3 = .ok (.getfield 21, 3) := by decide +kernel
theorem dX2_countBits_6 : decode cX2_countBits 6 = .ok (.imul, 1) := by decide +kernel
theorem dX2_countBits_7 : decode cX2_countBits 7 = .ok (.aload_n 0, 1) := by decide +kernel
theorem dX2_countBits_8 : decode cX2_countBits 8 = .ok (.getfield 21, 3) := by decide +kernel
theorem dX2_countBits_11 : decode cX2_countBits 11 = .ok (.ifCond .ne 7, 3) := by decide +kernel
theorem dX2_countBits_14 : decode cX2_countBits 14 = .ok (.iconst 0, 1) := by decide +kernel
theorem dX2_countBits_15 : decode cX2_countBits 15 = .ok (.goto 17, 3) := by decide +kernel
theorem dX2_countBits_18 : decode cX2_countBits 18 = .ok (.aload_n 0, 1) := by decide +kernel
theorem dX2_countBits_19 : decode cX2_countBits 19 = .ok (.getfield 15, 3) := by decide +kernel
theorem dX2_countBits_22 : decode cX2_countBits 22 = .ok (.aload_n 0, 1) := by decide +kernel
theorem dX2_countBits_23 : decode cX2_countBits 23 = .ok (.getfield 21, 3) := by decide +kernel
theorem dX2_countBits_26 : decode cX2_countBits 26 = .ok (.iconst 1, 1) := by decide +kernel
theorem dX2_countBits_27 : decode cX2_countBits 27 = .ok (.isub, 1) := by decide +kernel
theorem dX2_countBits_28 : decode cX2_countBits 28 = .ok (.iaload, 1) := by decide +kernel
theorem dX2_countBits_29 : decode cX2_countBits 29 = .ok (.invokestatic 25, 3) := by decide +kernel
theorem dX2_countBits_32 : decode cX2_countBits 32 = .ok (.isub, 1) := by decide +kernel
theorem dX2_countBits_33 : decode cX2_countBits 33 = .ok (.ireturn, 1) := by decide +kernel
theorem dX2_lowLong_0 : decode cX2_lowLong 0 = .ok (.aload_n 0, 1) := by decide +kernel
theorem dX2_lowLong_1 : decode cX2_lowLong 1 = .ok (.iconst 1, 1) := by decide +kernel
theorem dX2_lowLong_2 : decode cX2_lowLong 2 = .ok (.invokevirtual 31, 3) := by decide +kernel
theorem dX2_lowLong_5 : decode cX2_lowLong 5 = .ok (.i2l, 1) := by decide +kernel
theorem dX2_lowLong_6 : decode cX2_lowLong 6 = .ok (.bipush 32, 2) := by decide +kernel
theorem dX2_lowLong_8 : decode cX2_lowLong 8 = .ok (.lshl, 1) := by decide +kernel
theorem dX2_lowLong_9 : decode cX2_lowLong 9 = .ok (.aload_n 0, 1) := by decide +kernel
theorem dX2_lowLong_10 : decode cX2_lowLong 10 = .ok (.iconst 0, 1) := by decide +kernel
theorem dX2_lowLong_11 : decode cX2_lowLong 11 = .ok (.invokevirtual 31, 3) := by decide +kernel
theorem dX2_lowLong_14 : decode cX2_lowLong 14 = .ok (.i2l, 1) := by decide +kernel
theorem dX2_lowLong_15 : decode cX2_lowLong 15 = .ok (.ldc2_w 34, 3) := by decide +kernel
theorem dX2_lowLong_18 : decode cX2_lowLong 18 = .ok (.land, 1) := by decide +kernel
theorem dX2_lowLong_19 : decode cX2_lowLong 19 = .ok (.lor, 1) := by decide +kernel
theorem dX2_lowLong_20 : decode cX2_lowLong 20 = .ok (.lreturn, 1) := by decide +kernel
theorem dX2_becomeLong_0 : decode cX2_becomeLong 0 = .ok (.aload_n 0, 1) := by decide +kernel
theorem dX2_becomeLong_1 : decode cX2_becomeLong 1 = .ok (.iconst 0, 1) := by decide +kernel
theorem dX2_becomeLong_2 : decode cX2_becomeLong 2 = .ok (.putfield 21, 3) := by decide +kernel
theorem dX2_becomeLong_5 : decode cX2_becomeLong 5 = .ok (.aload_n 0, 1) := by decide +kernel
theorem dX2_becomeLong_6 : decode cX2_becomeLong 6 = .ok (.lload_n 1, 1) := by decide +kernel
theorem dX2_becomeLong_7 : decode cX2_becomeLong 7 = .ok (.invokevirtual 36, 3) := by decide +kernel
theorem dX2_becomeLong_10 : decode cX2_becomeLong 10 = .ok (.pop, 1) := by decide +kernel
theorem dX2_becomeLong_11 : decode cX2_becomeLong 11 = .ok (.return_, 1) := by decide +kernel
theorem dX2_becomeCopyOf_0 : decode cX2_becomeCopyOf 0 = .ok (.aload_n 0, 1) := by decide +kernel
theorem dX2_becomeCopyOf_1 : decode cX2_becomeCopyOf 1 = .ok (.aload_n 1, 1) := by decide +kernel
theorem dX2_becomeCopyOf_2 : decode cX2_becomeCopyOf 2 = .ok (.getfield 21, 3) := by decide +kernel
theorem dX2_becomeCopyOf_5 : decode cX2_becomeCopyOf 5 = .ok (.aload_n 0, 1) := by decide +kernel
theorem dX2_becomeCopyOf_6 : decode cX2_becomeCopyOf 6 = .ok (.getfield 15, 3) := by decide +kernel
theorem dX2_becomeCopyOf_9 : decode cX2_becomeCopyOf 9 = .ok (.arraylength, 1) := by decide +kernel
theorem dX2_becomeCopyOf_10 : decode cX2_becomeCopyOf 10 = .ok (.invokestatic 40, 3) := by decide +kernel
theorem dX2_becomeCopyOf_13 : decode cX2_becomeCopyOf 13 = .ok (.putfield 21, 3) := by decide +kernel
theorem dX2_becomeCopyOf_16 : decode cX2_becomeCopyOf 16 = .ok (.aload_n 1, 1) := by decide +kernel
theorem dX2_becomeCopyOf_17 : decode cX2_becomeCopyOf 17 = .ok (.getfield 15, 3) := by decide +kernel
theorem dX2_becomeCopyOf_20 : decode cX2_becomeCopyOf 20 = .ok (.iconst 0, 1) := by decide +kernel
theorem dX2_becomeCopyOf_21 : decode cX2_becomeCopyOf 21 = .ok (.aload_n 0, 1) := by decide +kernel
theorem dX2_becomeCopyOf_22 : decode cX2_becomeCopyOf 22 = .ok (.getfield 15, 3) := by decide +kernel
theorem dX2_becomeCopyOf_25 : decode cX2_becomeCopyOf 25 = .ok (.iconst 0, 1) := by decide +kernel
theorem dX2_becomeCopyOf_26 : decode cX2_becomeCopyOf 26 = .ok (.aload_n 0, 1) := by decide +kernel
theorem dX2_becomeCopyOf_27 : decode cX2_becomeCopyOf 27 = .ok (.getfield 21, 3) := by decide +kernel
theorem dX2_becomeCopyOf_30 : decode cX2_becomeCopyOf 30 = .ok (.invokestatic 43, 3) := by decide +kernel
theorem dX2_becomeCopyOf_33 : decode cX2_becomeCopyOf 33 = .ok (.return_, 1) := by decide +kernel
theorem dX2_becomeDigitsOf_0 : decode cX2_becomeDigitsOf 0 = .ok (.aload_n 0, 1) := by decide +kernel
theorem dX2_becomeDigitsOf_1 : decode cX2_becomeDigitsOf 1 = .ok (.iconst 0, 1) := by decide +kernel
theorem dX2_becomeDigitsOf_2 : decode cX2_becomeDigitsOf 2 = .ok (.putfield 21, 3) := by decide +kernel
theorem dX2_becomeDigitsOf_5 : decode cX2_becomeDigitsOf 5 = .ok (.ldc2_w 34, 3) := by decide +kernel
theorem dX2_becomeDigitsOf_8 : decode cX2_becomeDigitsOf 8 = .ok (.iload_n 3, 1) := by decide +kernel
theorem dX2_becomeDigitsOf_9 : decode cX2_becomeDigitsOf 9 = .ok (.i2l, 1) := by decide +kernel
theorem dX2_becomeDigitsOf_10 : decode cX2_becomeDigitsOf 10 = .ok (.ldiv, 1) := by decide +kernel
theorem dX2_becomeDigitsOf_11 : decode cX2_becomeDigitsOf 11 = .ok (.lstore 4, 2) := by decide +kernel
theorem dX2_becomeDigitsOf_13 : decode cX2_becomeDigitsOf 13 = .ok (.lconst 1, 1) := by decide +kernel
theorem dX2_becomeDigitsOf_14 : decode cX2_becomeDigitsOf 14 = .ok (.lstore 6, 2) := by decide +kernel
theorem dX2_becomeDigitsOf_16 : decode cX2_becomeDigitsOf 16 = .ok (.lconst 0, 1) := by decide +kernel
theorem dX2_becomeDigitsOf_17 : decode cX2_becomeDigitsOf 17 = .ok (.lstore 8, 2) := by decide +kernel
theorem dX2_becomeDigitsOf_19 : decode cX2_becomeDigitsOf 19 = .ok (.iload_n 2, 1) := by decide +kernel
theorem dX2_becomeDigitsOf_20 : decode cX2_becomeDigitsOf 20 = .ok (.istore 10, 2) := by decide +kernel
theorem dX2_becomeDigitsOf_22 : decode cX2_becomeDigitsOf 22 = .ok (.iload 10, 2) := by decide +kernel
theorem dX2_becomeDigitsOf_24 : decode cX2_becomeDigitsOf 24 = .ok (.aload_n 1, 1) := by decide +kernel
theorem dX2_becomeDigitsOf_25 : decode cX2_becomeDigitsOf 25 = .ok (.invokevirtual 49, 3) := by decide +kernel
theorem dX2_becomeDigitsOf_28 : decode cX2_becomeDigitsOf 28 = .ok (.if_icmp .ge 72, 3) := by decide +kernel
theorem dX2_becomeDigitsOf_31 : decode cX2_becomeDigitsOf 31 = .ok (.lload 6, 2) := by decide +kernel
theorem dX2_becomeDigitsOf_33 : decode cX2_becomeDigitsOf 33 = .ok (.iload_n 3, 1) := by decide +kernel
theorem dX2_becomeDigitsOf_34 : decode cX2_becomeDigitsOf 34 = .ok (.i2l, 1) := by decide +kernel
theorem dX2_becomeDigitsOf_35 : decode cX2_becomeDigitsOf 35 = .ok (.lmul, 1) := by decide +kernel
theorem dX2_becomeDigitsOf_36 : decode cX2_becomeDigitsOf 36 = .ok (.lstore 6, 2) := by decide +kernel
theorem dX2_becomeDigitsOf_38 : decode cX2_becomeDigitsOf 38 = .ok (.lload 8, 2) := by decide +kernel
theorem dX2_becomeDigitsOf_40 : decode cX2_becomeDigitsOf 40 = .ok (.iload_n 3, 1) := by decide +kernel
theorem dX2_becomeDigitsOf_41 : decode cX2_becomeDigitsOf 41 = .ok (.i2l, 1) := by decide +kernel
theorem dX2_becomeDigitsOf_42 : decode cX2_becomeDigitsOf 42 = .ok (.lmul, 1) := by decide +kernel
theorem dX2_becomeDigitsOf_43 : decode cX2_becomeDigitsOf 43 = .ok (.aload_n 1, 1) := by decide +kernel
theorem dX2_becomeDigitsOf_44 : decode cX2_becomeDigitsOf 44 = .ok (.iload 10, 2) := by decide +kernel
theorem dX2_becomeDigitsOf_46 : decode cX2_becomeDigitsOf 46 = .ok (.invokevirtual 55, 3) := by decide +kernel
theorem dX2_becomeDigitsOf_49 : decode cX2_becomeDigitsOf 49 = .ok (.invokestatic 58, 3) := by decide +kernel
theorem dX2_becomeDigitsOf_52 : decode cX2_becomeDigitsOf 52 = .ok (.i2l, 1) := by decide +kernel
theorem dX2_becomeDigitsOf_53 : decode cX2_becomeDigitsOf 53 = .ok (.ladd, 1) := by decide +kernel
theorem dX2_becomeDigitsOf_54 : decode cX2_becomeDigitsOf 54 = .ok (.lstore 8, 2) := by decide +kernel
theorem dX2_becomeDigitsOf_56 : decode cX2_becomeDigitsOf 56 = .ok (.lload 6, 2) := by decide +kernel
theorem dX2_becomeDigitsOf_58 : decode cX2_becomeDigitsOf 58 = .ok (.lload 4, 2) := by decide +kernel
theorem dX2_becomeDigitsOf_60 : decode cX2_becomeDigitsOf 60 = .ok (.lcmp, 1) := by decide +kernel
theorem dX2_becomeDigitsOf_61 : decode cX2_becomeDigitsOf 61 = .ok (.ifCond .gt 14, 3) := by decide +kernel
theorem dX2_becomeDigitsOf_64 : decode cX2_becomeDigitsOf 64 = .ok (.iload 10, 2) := by decide +kernel
theorem dX2_becomeDigitsOf_66 : decode cX2_becomeDigitsOf 66 = .ok (.aload_n 1, 1) := by decide +kernel
theorem dX2_becomeDigitsOf_67 : decode cX2_becomeDigitsOf 67 = .ok (.invokevirtual 49, 3) := by decide +kernel
theorem dX2_becomeDigitsOf_70 : decode cX2_becomeDigitsOf 70 = .ok (.iconst 1, 1) := by decide +kernel
theorem dX2_becomeDigitsOf_71 : decode cX2_becomeDigitsOf 71 = .ok (.isub, 1) := by decide +kernel
theorem dX2_becomeDigitsOf_72 : decode cX2_becomeDigitsOf 72 = .ok (.if_icmp .ne 22, 3) := by decide +kernel
theorem dX2_becomeDigitsOf_75 : decode cX2_becomeDigitsOf 75 = .ok (.aload_n 0, 1) := by decide +kernel
theorem dX2_becomeDigitsOf_76 : decode cX2_becomeDigitsOf 76 = .ok (.lload 6, 2) := by decide +kernel
theorem dX2_becomeDigitsOf_78 : decode cX2_becomeDigitsOf 78 = .ok (.lload 8, 2) := by decide +kernel
theorem dX2_becomeDigitsOf_80 : decode cX2_becomeDigitsOf 80 = .ok (.invokevirtual 61, 3) := by decide +kernel
theorem dX2_becomeDigitsOf_83 : decode cX2_becomeDigitsOf 83 = .ok (.ifCond .ne 5, 3) := by decide +kernel
theorem dX2_becomeDigitsOf_86 : decode cX2_becomeDigitsOf 86 = .ok (.iconst 0, 1) := by decide +kernel
theorem dX2_becomeDigitsOf_87 : decode cX2_becomeDigitsOf 87 = .ok (.ireturn, 1) := by decide +kernel
theorem dX2_becomeDigitsOf_88 : decode cX2_becomeDigitsOf 88 = .ok (.lconst 1, 1) := by decide +kernel
theorem dX2_becomeDigitsOf_89 : decode cX2_becomeDigitsOf 89 = .ok (.lstore 6, 2) := by decide +kernel
theorem dX2_becomeDigitsOf_91 : decode cX2_becomeDigitsOf 91 = .ok (.lconst 0, 1) := by decide +kernel
theorem dX2_becomeDigitsOf_92 : decode cX2_becomeDigitsOf 92 = .ok (.lstore 8, 2) := by decide +kernel
theorem dX2_becomeDigitsOf_94 : decode cX2_becomeDigitsOf 94 = .ok (.iinc 10 1, 3) := by decide +kernel
theorem dX2_becomeDigitsOf_97 : decode cX2_becomeDigitsOf 97 = .ok (.goto (-75), 3) := by decide +kernel
theorem dX2_becomeDigitsOf_100 : decode cX2_becomeDigitsOf 100 = .ok (.iconst 1, 1) := by decide +kernel
theorem dX2_becomeDigitsOf_101 : decode cX2_becomeDigitsOf 101 = .ok (.ireturn, 1) := by decide +kernel
theorem dX2_multiplyAndAdd_0 : decode cX2_multiplyAndAdd 0 = .ok (.lload_n 3, 1) := by decide +kernel
theorem dX2_multiplyAndAdd_1 : decode cX2_multiplyAndAdd 1 = .ok (.lstore 5, 2) := by decide +kernel
theorem dX2_multiplyAndAdd_3 : decode cX2_multiplyAndAdd 3 = .ok (.iconst 0, 1) := by decide +kernel
theorem dX2_multiplyAndAdd_4 : decode cX2_multiplyAndAdd 4 = .ok (.istore 7, 2) := by decide +kernel
theorem dX2_multiplyAndAdd_6 : decode cX2_multiplyAndAdd 6 = .ok (.iload 7, 2) := by decide +kernel
theorem dX2_multiplyAndAdd_8 : decode cX2_multiplyAndAdd 8 = .ok (.aload_n 0, 1) := by decide +kernel
theorem dX2_multiplyAndAdd_9 : decode cX2_multiplyAndAdd 9 = .ok (.getfield 21, 3) := by decide +kernel
theorem dX2_multiplyAndAdd_12 : decode cX2_multiplyAndAdd 12 = .ok (.if_icmp .ge 45, 3) := by decide +kernel
theorem dX2_multiplyAndAdd_15 : decode cX2_multiplyAndAdd 15 = .ok (.aload_n 0, 1) := by decide +kernel
theorem dX2_multiplyAndAdd_16 : decode cX2_multiplyAndAdd 16 = .ok (.getfield 15, 3) := by decide +kernel
theorem dX2_multiplyAndAdd_19 : decode cX2_multiplyAndAdd 19 = .ok (.iload 7, 2) := by decide +kernel
theorem dX2_multiplyAndAdd_21 : decode cX2_multiplyAndAdd 21 = .ok (.iaload, 1) := by decide +kernel
theorem dX2_multiplyAndAdd_22 : decode cX2_multiplyAndAdd 22 = .ok (.i2l, 1) := by decide +kernel
theorem dX2_multiplyAndAdd_23 : decode cX2_multiplyAndAdd 23 = .ok (.ldc2_w 34, 3) := by decide +kernel
theorem dX2_multiplyAndAdd_26 : decode cX2_multiplyAndAdd 26 = .ok (.land, 1) := by decide +kernel
theorem dX2_multiplyAndAdd_27 : decode cX2_multiplyAndAdd 27 = .ok (.lload_n 1, 1) := by decide +kernel
theorem dX2_multiplyAndAdd_28 : decode cX2_multiplyAndAdd 28 = .ok (.lmul, 1) := by decide +kernel
theorem dX2_multiplyAndAdd_29 : decode cX2_multiplyAndAdd 29 = .ok (.lload 5, 2) := by decide +kernel
theorem dX2_multiplyAndAdd_31 : decode cX2_multiplyAndAdd 31 = .ok (.ladd, 1) := by decide +kernel
theorem dX2_multiplyAndAdd_32 : decode cX2_multiplyAndAdd 32 = .ok (.lstore 8, 2) := by decide +kernel
theorem dX2_multiplyAndAdd_34 : decode cX2_multiplyAndAdd 34 = .ok (.aload_n 0, 1) := by decide +kernel
theorem dX2_multiplyAndAdd_35 : decode cX2_multiplyAndAdd 35 = .ok (.getfield 15, 3) := by decide +kernel
theorem dX2_multiplyAndAdd_38 : decode cX2_multiplyAndAdd 38 = .ok (.iload 7, 2) := by decide +kernel
theorem dX2_multiplyAndAdd_40 : decode cX2_multiplyAndAdd 40 = .ok (.lload 8, 2) := by decide +kernel
theorem dX2_multiplyAndAdd_42 : decode cX2_multiplyAndAdd 42 = .ok (.l2i, 1) := by decide +kernel
theorem dX2_multiplyAndAdd_43 : decode cX2_multiplyAndAdd 43 = .ok (.iastore, 1) := by decide +kernel
theorem dX2_multiplyAndAdd_44 : decode cX2_multiplyAndAdd 44 = .ok (.lload 8, 2) := by decide +kernel
theorem dX2_multiplyAndAdd_46 : decode cX2_multiplyAndAdd 46 = .ok (.bipush 32, 2) := by decide +kernel
theorem dX2_multiplyAndAdd_48 : decode cX2_multiplyAndAdd 48 = .ok (.lushr, 1) := by decide +kernel
theorem dX2_multiplyAndAdd_49 : decode cX2_multiplyAndAdd 49 = .ok (.lstore 5, 2) := by decide +kernel
theorem dX2_multiplyAndAdd_51 : decode cX2_multiplyAndAdd 51 = .ok (.iinc 7 1, 3) := by decide +kernel
theorem dX2_multiplyAndAdd_54 : decode cX2_multiplyAndAdd 54 = .ok (.goto (-48), 3) := by decide +kernel
theorem dX2_multiplyAndAdd_57 : decode cX2_multiplyAndAdd 57 = .ok (.aload_n 0, 1) := by decide +kernel
theorem dX2_multiplyAndAdd_58 : decode cX2_multiplyAndAdd 58 = .ok (.lload 5, 2) := by decide +kernel
theorem dX2_multiplyAndAdd_60 : decode cX2_multiplyAndAdd 60 = .ok (.invokevirtual 65, 3) := by decide +kernel
theorem dX2_multiplyAndAdd_63 : decode cX2_multiplyAndAdd 63 = .ok (.ireturn, 1) := by decide +kernel
theorem dX2_appendCarry_0 : decode cX2_appendCarry 0 = .ok (.lload_n 1, 1) := by decide +kernel
theorem dX2_appendCarry_1 : decode cX2_appendCarry 1 = .ok (.lconst 0, 1) := by decide +kernel
theorem dX2_appendCarry_2 : decode cX2_appendCarry 2 = .ok (.lcmp, 1) := by decide +kernel
theorem dX2_appendCarry_3 : decode cX2_appendCarry 3 = .ok (.ifCond .ne 5, 3) := by decide +kernel
theorem dX2_appendCarry_6 : decode cX2_appendCarry 6 = .ok (.iconst 1, 1) := by decide +kernel
theorem dX2_appendCarry_7 : decode cX2_appendCarry 7 = .ok (.ireturn, 1) := by decide +kernel
theorem dX2_appendCarry_8 : decode cX2_appendCarry 8 = .ok (.aload_n 0, 1) := by decide +kernel
theorem dX2_appendCarry_9 : decode cX2_appendCarry 9 = .ok (.getfield 21, 3) := by decide +kernel
theorem dX2_appendCarry_12 : decode cX2_appendCarry 12 = .ok (.aload_n 0, 1) := by decide +kernel
theorem dX2_appendCarry_13 : decode cX2_appendCarry 13 = .ok (.getfield 15, 3) := by decide +kernel
theorem dX2_appendCarry_16 : decode cX2_appendCarry 16 = .ok (.arraylength, 1) := by decide +kernel
theorem dX2_appendCarry_17 : decode cX2_appendCarry 17 = .ok (.if_icmp .lt 5, 3) := by decide +kernel
theorem dX2_appendCarry_20 : decode cX2_appendCarry 20 = .ok (.iconst 0, 1) := by decide +kernel
theorem dX2_appendCarry_21 : decode cX2_appendCarry 21 = .ok (.ireturn, 1) := by decide +kernel
theorem dX2_appendCarry_22 : decode cX2_appendCarry 22 = .ok (.aload_n 0, 1) := by decide +kernel
theorem dX2_appendCarry_23 : decode cX2_appendCarry 23 = .ok (.getfield 15, 3) := by decide +kernel
theorem dX2_appendCarry_26 : decode cX2_appendCarry 26 = .ok (.aload_n 0, 1) := by decide +kernel
theorem dX2_appendCarry_27 : decode cX2_appendCarry 27 = .ok (.getfield 21, 3) := by decide +kernel
theorem dX2_appendCarry_30 : decode cX2_appendCarry 30 = .ok (.lload_n 1, 1) := by decide +kernel
theorem dX2_appendCarry_31 : decode cX2_appendCarry 31 = .ok (.l2i, 1) := by decide +kernel
theorem dX2_appendCarry_32 : decode cX2_appendCarry 32 = .ok (.iastore, 1) := by decide +kernel
theorem dX2_appendCarry_33 : decode cX2_appendCarry 33 = .ok (.aload_n 0, 1) := by decide +kernel
theorem dX2_appendCarry_34 : decode cX2_appendCarry 34 = .ok (.dup, 1) := by decide +kernel
theorem dX2_appendCarry_35 : decode cX2_appendCarry 35 = .ok (.getfield 21, 3) := by decide +kernel
theorem dX2_appendCarry_38 : decode cX2_appendCarry 38 = .ok (.iconst 1, 1) := by decide +kernel
theorem dX2_appendCarry_39 : decode cX2_appendCarry 39 = .ok (.iadd, 1) := by decide +kernel
theorem dX2_appendCarry_40 : decode cX2_appendCarry 40 = .ok (.putfield 21, 3) := by decide +kernel
theorem dX2_appendCarry_43 : decode cX2_appendCarry 43 = .ok (.iconst 1, 1) := by decide +kernel
theorem dX2_appendCarry_44 : decode cX2_appendCarry 44 = .ok (.ireturn, 1) := by decide +kernel
theorem dX2_divideTwiceBy_0 : decode cX2_divideTwiceBy 0 = .ok (.lconst 0, 1) := by decide +kernel
theorem dX2_divideTwiceBy_1 : decode cX2_divideTwiceBy 1 = .ok (.lstore_n 3, 1) := by decide +kernel
theorem dX2_divideTwiceBy_2 : decode cX2_divideTwiceBy 2 = .ok (.lconst 0, 1) := by decide +kernel
theorem dX2_divideTwiceBy_3 : decode cX2_divideTwiceBy 3 = .ok (.lstore 5, 2) := by decide +kernel
theorem dX2_divideTwiceBy_5 : decode cX2_divideTwiceBy 5 = .ok (.aload_n 0, 1) := by decide +kernel
theorem dX2_divideTwiceBy_6 : decode cX2_divideTwiceBy 6 = .ok (.getfield 21, 3) := by decide +kernel
theorem dX2_divideTwiceBy_9 : decode cX2_divideTwiceBy 9 = .ok (.iconst 1, 1) := by decide +kernel
theorem dX2_divideTwiceBy_10 : decode cX2_divideTwiceBy 10 = .ok (.isub, 1) := by decide +kernel
theorem dX2_divideTwiceBy_11 : decode cX2_divideTwiceBy 11 = .ok (.istore 7, 2) := by decide +kernel
theorem dX2_divideTwiceBy_13 : decode cX2_divideTwiceBy 13 = .ok (.iload 7, 2) := by decide +kernel
theorem dX2_divideTwiceBy_15 : decode cX2_divideTwiceBy 15 = .ok (.ifCond .lt 77, 3) := by decide +kernel
theorem dX2_divideTwiceBy_18 : decode cX2_divideTwiceBy 18 = .ok (.lload_n 3, 1) := by decide +kernel
theorem dX2_divideTwiceBy_19 : decode cX2_divideTwiceBy 19 = .ok (.bipush 32, 2) := by decide +kernel
theorem dX2_divideTwiceBy_21 : decode cX2_divideTwiceBy 21 = .ok (.lshl, 1) := by decide +kernel
theorem dX2_divideTwiceBy_22 : decode cX2_divideTwiceBy 22 = .ok (.aload_n 0, 1) := by decide +kernel
theorem dX2_divideTwiceBy_23 : decode cX2_divideTwiceBy 23 = .ok (.getfield 15, 3) := by decide +kernel
theorem dX2_divideTwiceBy_26 : decode cX2_divideTwiceBy 26 = .ok (.iload 7, 2) := by decide +kernel
theorem dX2_divideTwiceBy_28 : decode cX2_divideTwiceBy 28 = .ok (.iaload, 1) := by decide +kernel
theorem dX2_divideTwiceBy_29 : decode cX2_divideTwiceBy 29 = .ok (.i2l, 1) := by decide +kernel
theorem dX2_divideTwiceBy_30 : decode cX2_divideTwiceBy 30 = .ok (.ldc2_w 34, 3) := by decide +kernel
theorem dX2_divideTwiceBy_33 : decode cX2_divideTwiceBy 33 = .ok (.land, 1) := by decide +kernel
theorem dX2_divideTwiceBy_34 : decode cX2_divideTwiceBy 34 = .ok (.lor, 1) := by decide +kernel
theorem dX2_divideTwiceBy_35 : decode cX2_divideTwiceBy 35 = .ok (.lstore 8, 2) := by decide +kernel
theorem dX2_divideTwiceBy_37 : decode cX2_divideTwiceBy 37 = .ok (.lload 8, 2) := by decide +kernel
theorem dX2_divideTwiceBy_39 : decode cX2_divideTwiceBy 39 = .ok (.lload_n 1, 1) := by decide +kernel
theorem dX2_divideTwiceBy_40 : decode cX2_divideTwiceBy 40 = .ok (.ldiv, 1) := by decide +kernel
theorem dX2_divideTwiceBy_41 : decode cX2_divideTwiceBy 41 = .ok (.lstore 10, 2) := by decide +kernel
theorem dX2_divideTwiceBy_43 : decode cX2_divideTwiceBy 43 = .ok (.lload 8, 2) := by decide +kernel
theorem dX2_divideTwiceBy_45 : decode cX2_divideTwiceBy 45 = .ok (.lload 10, 2) := by decide +kernel
theorem dX2_divideTwiceBy_47 : decode cX2_divideTwiceBy 47 = .ok (.lload_n 1, 1) := by decide +kernel
theorem dX2_divideTwiceBy_48 : decode cX2_divideTwiceBy 48 = .ok (.lmul, 1) := by decide +kernel
theorem dX2_divideTwiceBy_49 : decode cX2_divideTwiceBy 49 = .ok (.lsub, 1) := by decide +kernel
theorem dX2_divideTwiceBy_50 : decode cX2_divideTwiceBy 50 = .ok (.lstore_n 3, 1) := by decide +kernel
theorem dX2_divideTwiceBy_51 : decode cX2_divideTwiceBy 51 = .ok (.lload 5, 2) := by decide +kernel
theorem dX2_divideTwiceBy_53 : decode cX2_divideTwiceBy 53 = .ok (.bipush 32, 2) := by decide +kernel
theorem dX2_divideTwiceBy_55 : decode cX2_divideTwiceBy 55 = .ok (.lshl, 1) := by decide +kernel
theorem dX2_divideTwiceBy_56 : decode cX2_divideTwiceBy 56 = .ok (.lload 10, 2) := by decide +kernel
theorem dX2_divideTwiceBy_58 : decode cX2_divideTwiceBy 58 = .ok (.lor, 1) := by decide +kernel
theorem dX2_divideTwiceBy_59 : decode cX2_divideTwiceBy 59 = .ok (.lstore 8, 2) := by decide +kernel
theorem dX2_divideTwiceBy_61 : decode cX2_divideTwiceBy 61 = .ok (.lload 8, 2) := by decide +kernel
theorem dX2_divideTwiceBy_63 : decode cX2_divideTwiceBy 63 = .ok (.lload_n 1, 1) := by decide +kernel
theorem dX2_divideTwiceBy_64 : decode cX2_divideTwiceBy 64 = .ok (.ldiv, 1) := by decide +kernel
theorem dX2_divideTwiceBy_65 : decode cX2_divideTwiceBy 65 = .ok (.lstore 10, 2) := by decide +kernel
theorem dX2_divideTwiceBy_67 : decode cX2_divideTwiceBy 67 = .ok (.lload 8, 2) := by decide +kernel
theorem dX2_divideTwiceBy_69 : decode cX2_divideTwiceBy 69 = .ok (.lload 10, 2) := by decide +kernel
theorem dX2_divideTwiceBy_71 : decode cX2_divideTwiceBy 71 = .ok (.lload_n 1, 1) := by decide +kernel
theorem dX2_divideTwiceBy_72 : decode cX2_divideTwiceBy 72 = .ok (.lmul, 1) := by decide +kernel
theorem dX2_divideTwiceBy_73 : decode cX2_divideTwiceBy 73 = .ok (.lsub, 1) := by decide +kernel
theorem dX2_divideTwiceBy_74 : decode cX2_divideTwiceBy 74 = .ok (.lstore 5, 2) := by decide +kernel
theorem dX2_divideTwiceBy_76 : decode cX2_divideTwiceBy 76 = .ok (.aload_n 0, 1) := by decide +kernel
theorem dX2_divideTwiceBy_77 : decode cX2_divideTwiceBy 77 = .ok (.getfield 15, 3) := by decide +kernel
theorem dX2_divideTwiceBy_80 : decode cX2_divideTwiceBy 80 = .ok (.iload 7, 2) := by decide +kernel
theorem dX2_divideTwiceBy_82 : decode cX2_divideTwiceBy 82 = .ok (.lload 10, 2) := by decide +kernel
theorem dX2_divideTwiceBy_84 : decode cX2_divideTwiceBy 84 = .ok (.l2i, 1) := by decide +kernel
theorem dX2_divideTwiceBy_85 : decode cX2_divideTwiceBy 85 = .ok (.iastore, 1) := by decide +kernel
theorem dX2_divideTwiceBy_86 : decode cX2_divideTwiceBy 86 = .ok (.iinc 7 (-1), 3) := by decide +kernel
theorem dX2_divideTwiceBy_89 : decode cX2_divideTwiceBy 89 = .ok (.goto (-76), 3) := by decide +kernel
theorem dX2_divideTwiceBy_92 : decode cX2_divideTwiceBy 92 = .ok (.aload_n 0, 1) := by decide +kernel
theorem dX2_divideTwiceBy_93 : decode cX2_divideTwiceBy 93 = .ok (.invokevirtual 68, 3) := by decide +kernel
theorem dX2_divideTwiceBy_96 : decode cX2_divideTwiceBy 96 = .ok (.lload 5, 2) := by decide +kernel
theorem dX2_divideTwiceBy_98 : decode cX2_divideTwiceBy 98 = .ok (.lload_n 1, 1) := by decide +kernel
theorem dX2_divideTwiceBy_99 : decode cX2_divideTwiceBy 99 = .ok (.lmul, 1) := by decide +kernel
theorem dX2_divideTwiceBy_100 : decode cX2_divideTwiceBy 100 = .ok (.lload_n 3, 1) := by decide +kernel
theorem dX2_divideTwiceBy_101 : decode cX2_divideTwiceBy 101 = .ok (.ladd, 1) := by decide +kernel
theorem dX2_divideTwiceBy_102 : decode cX2_divideTwiceBy 102 = .ok (.lreturn, 1) := by decide +kernel
theorem dX2_dropZeros_0 : decode cX2_dropZeros 0 = .ok (.aload_n 0, 1) := by decide +kernel
theorem dX2_dropZeros_1 : decode cX2_dropZeros 1 = .ok (.getfield 21, 3) := by decide +kernel
theorem dX2_dropZeros_4 : decode cX2_dropZeros 4 = .ok (.ifCond .le 30, 3) := by decide +kernel
theorem dX2_dropZeros_7 : decode cX2_dropZeros 7 = .ok (.aload_n 0, 1) := by decide +kernel
theorem dX2_dropZeros_8 : decode cX2_dropZeros 8 = .ok (.getfield 15, 3) := by decide +kernel
theorem dX2_dropZeros_11 : decode cX2_dropZeros 11 = .ok (.aload_n 0, 1) := by decide +kernel
theorem dX2_dropZeros_12 : decode cX2_dropZeros 12 = .ok (.getfield 21, 3) := by decide +kernel
theorem dX2_dropZeros_15 : decode cX2_dropZeros 15 = .ok (.iconst 1, 1) := by decide +kernel
theorem dX2_dropZeros_16 : decode cX2_dropZeros 16 = .ok (.isub, 1) := by decide +kernel
theorem dX2_dropZeros_17 : decode cX2_dropZeros 17 = .ok (.iaload, 1) := by decide +kernel
theorem dX2_dropZeros_18 : decode cX2_dropZeros 18 = .ok (.ifCond .ne 16, 3) := by decide +kernel
theorem dX2_dropZeros_21 : decode cX2_dropZeros 21 = .ok (.aload_n 0, 1) := by decide +kernel
theorem dX2_dropZeros_22 : decode cX2_dropZeros 22 = .ok (.dup, 1) := by decide +kernel
theorem dX2_dropZeros_23 : decode cX2_dropZeros 23 = .ok (.getfield 21, 3) := by decide +kernel
theorem dX2_dropZeros_26 : decode cX2_dropZeros 26 = .ok (.iconst 1, 1) := by decide +kernel
theorem dX2_dropZeros_27 : decode cX2_dropZeros 27 = .ok (.isub, 1) := by decide +kernel
theorem dX2_dropZeros_28 : decode cX2_dropZeros 28 = .ok (.putfield 21, 3) := by decide +kernel
theorem dX2_dropZeros_31 : decode cX2_dropZeros 31 = .ok (.goto (-31), 3) := by decide +kernel
theorem dX2_dropZeros_34 : decode cX2_dropZeros 34 = .ok (.return_, 1) := by decide +kernel
theorem dX2_appendLong_0 : decode cX2_appendLong 0 = .ok (.aload_n 0, 1) := by decide +kernel
theorem dX2_appendLong_1 : decode cX2_appendLong 1 = .ok (.getfield 21, 3) := by decide +kernel
theorem dX2_appendLong_4 : decode cX2_appendLong 4 = .ok (.aload_n 0, 1) := by decide +kernel
theorem dX2_appendLong_5 : decode cX2_appendLong 5 = .ok (.getfield 15, 3) := by decide +kernel
theorem dX2_appendLong_8 : decode cX2_appendLong 8 = .ok (.arraylength, 1) := by decide +kernel
theorem dX2_appendLong_9 : decode cX2_appendLong 9 = .ok (.iconst 2, 1) := by decide +kernel
theorem dX2_appendLong_10 : decode cX2_appendLong 10 = .ok (.isub, 1) := by decide +kernel
theorem dX2_appendLong_11 : decode cX2_appendLong 11 = .ok (.if_icmp .le 5, 3) := by decide +kernel
theorem dX2_appendLong_14 : decode cX2_appendLong 14 = .ok (.iconst 0, 1) := by decide +kernel
theorem dX2_appendLong_15 : decode cX2_appendLong 15 = .ok (.ireturn, 1) := by decide +kernel
theorem dX2_appendLong_16 : decode cX2_appendLong 16 = .ok (.aload_n 0, 1) := by decide +kernel
theorem dX2_appendLong_17 : decode cX2_appendLong 17 = .ok (.getfield 15, 3) := by decide +kernel
theorem dX2_appendLong_20 : decode cX2_appendLong 20 = .ok (.iconst 0, 1) := by decide +kernel
theorem dX2_appendLong_21 : decode cX2_appendLong 21 = .ok (.aload_n 0, 1) := by decide +kernel
theorem dX2_appendLong_22 : decode cX2_appendLong 22 = .ok (.getfield 15, 3) := by decide +kernel
theorem dX2_appendLong_25 : decode cX2_appendLong 25 = .ok (.iconst 2, 1) := by decide +kernel
theorem dX2_appendLong_26 : decode cX2_appendLong 26 = .ok (.aload_n 0, 1) := by decide +kernel
theorem dX2_appendLong_27 : decode cX2_appendLong 27 = .ok (.getfield 21, 3) := by decide +kernel
theorem dX2_appendLong_30 : decode cX2_appendLong 30 = .ok (.invokestatic 43, 3) := by decide +kernel
theorem dX2_appendLong_33 : decode cX2_appendLong 33 = .ok (.aload_n 0, 1) := by decide +kernel
theorem dX2_appendLong_34 : decode cX2_appendLong 34 = .ok (.getfield 15, 3) := by decide +kernel
theorem dX2_appendLong_37 : decode cX2_appendLong 37 = .ok (.iconst 0, 1) := by decide +kernel
theorem dX2_appendLong_38 : decode cX2_appendLong 38 = .ok (.lload_n 1, 1) := by decide +kernel
theorem dX2_appendLong_39 : decode cX2_appendLong 39 = .ok (.l2i, 1) := by decide +kernel
theorem dX2_appendLong_40 : decode cX2_appendLong 40 = .ok (.iastore, 1) := by decide +kernel
theorem dX2_appendLong_41 : decode cX2_appendLong 41 = .ok (.aload_n 0, 1) := by decide +kernel
theorem dX2_appendLong_42 : decode cX2_appendLong 42 = .ok (.getfield 15, 3) := by decide +kernel
theorem dX2_appendLong_45 : decode cX2_appendLong 45 = .ok (.iconst 1, 1) := by decide +kernel
theorem dX2_appendLong_46 : decode cX2_appendLong 46 = .ok (.lload_n 1, 1) := by decide +kernel
theorem dX2_appendLong_47 : decode cX2_appendLong 47 = .ok (.bipush 32, 2) := by decide +kernel
theorem dX2_appendLong_49 : decode cX2_appendLong 49 = .ok (.lushr, 1) := by decide +kernel
theorem dX2_appendLong_50 : decode cX2_appendLong 50 = .ok (.l2i, 1) := by decide +kernel
theorem dX2_appendLong_51 : decode cX2_appendLong 51 = .ok (.iastore, 1) := by decide +kernel
theorem dX2_appendLong_52 : decode cX2_appendLong 52 = .ok (.aload_n 0, 1) := by decide +kernel
theorem dX2_appendLong_53 : decode cX2_appendLong 53 = .ok (.dup, 1) := by decide +kernel
theorem dX2_appendLong_54 : decode cX2_appendLong 54 = .ok (.getfield 21, 3) := by decide +kernel
theorem dX2_appendLong_57 : decode cX2_appendLong 57 = .ok (.iconst 2, 1) := by decide +kernel
theorem dX2_appendLong_58 : decode cX2_appendLong 58 = .ok (.iadd, 1) := by decide +kernel
theorem dX2_appendLong_59 : decode cX2_appendLong 59 = .ok (.putfield 21, 3) := by decide +kernel
theorem dX2_appendLong_62 : decode cX2_appendLong 62 = .ok (.aload_n 0, 1) := by decide +kernel
theorem dX2_appendLong_63 : decode cX2_appendLong 63 = .ok (.invokevirtual 68, 3) := by decide +kernel
theorem dX2_appendLong_66 : decode cX2_appendLong 66 = .ok (.iconst 1, 1) := by decide +kernel
theorem dX2_appendLong_67 : decode cX2_appendLong 67 = .ok (.ireturn, 1) := by decide +kernel
theorem dX2_increase_0 : decode cX2_increase 0 = .ok (.aload_n 0, 1) := by decide +kernel
theorem dX2_increase_1 : decode cX2_increase 1 = .ok (.lload_n 1, 1) := by decide +kernel
theorem dX2_increase_2 : decode cX2_increase 2 = .ok (.invokevirtual 71, 3) := by decide +kernel
theorem dX2_increase_5 : decode cX2_increase 5 = .ok (.ifCond .ne 5, 3) := by decide +kernel
theorem dX2_increase_8 : decode cX2_increase 8 = .ok (.iconst 0, 1) := by decide +kernel
theorem dX2_increase_9 : decode cX2_increase 9 = .ok (.ireturn, 1) := by decide +kernel
theorem dX2_increase_10 : decode cX2_increase 10 = .ok (.lload_n 1, 1) := by decide +kernel
theorem dX2_increase_11 : decode cX2_increase 11 = .ok (.lstore_n 3, 1) := by decide +kernel
theorem dX2_increase_12 : decode cX2_increase 12 = .ok (.iconst 0, 1) := by decide +kernel
theorem dX2_increase_13 : decode cX2_increase 13 = .ok (.istore 5, 2) := by decide +kernel
theorem dX2_increase_15 : decode cX2_increase 15 = .ok (.iload 5, 2) := by decide +kernel
theorem dX2_increase_17 : decode cX2_increase 17 = .ok (.aload_n 0, 1) := by decide +kernel
theorem dX2_increase_18 : decode cX2_increase 18 = .ok (.getfield 21, 3) := by decide +kernel
theorem dX2_increase_21 : decode cX2_increase 21 = .ok (.if_icmp .ge 47, 3) := by decide +kernel
theorem dX2_increase_24 : decode cX2_increase 24 = .ok (.lload_n 3, 1) := by decide +kernel
theorem dX2_increase_25 : decode cX2_increase 25 = .ok (.lconst 0, 1) := by decide +kernel
theorem dX2_increase_26 : decode cX2_increase 26 = .ok (.lcmp, 1) := by decide +kernel
theorem dX2_increase_27 : decode cX2_increase 27 = .ok (.ifCond .eq 41, 3) := by decide +kernel
theorem dX2_increase_30 : decode cX2_increase 30 = .ok (.aload_n 0, 1) := by decide +kernel
theorem dX2_increase_31 : decode cX2_increase 31 = .ok (.getfield 15, 3) := by decide +kernel
theorem dX2_increase_34 : decode cX2_increase 34 = .ok (.iload 5, 2) := by decide +kernel
theorem dX2_increase_36 : decode cX2_increase 36 = .ok (.iaload, 1) := by decide +kernel
theorem dX2_increase_37 : decode cX2_increase 37 = .ok (.i2l, 1) := by decide +kernel
theorem dX2_increase_38 : decode cX2_increase 38 = .ok (.ldc2_w 34, 3) := by decide +kernel
theorem dX2_increase_41 : decode cX2_increase 41 = .ok (.land, 1) := by decide +kernel
theorem dX2_increase_42 : decode cX2_increase 42 = .ok (.lload_n 3, 1) := by decide +kernel
theorem dX2_increase_43 : decode cX2_increase 43 = .ok (.ladd, 1) := by decide +kernel
theorem dX2_increase_44 : decode cX2_increase 44 = .ok (.lstore 6, 2) := by decide +kernel
theorem dX2_increase_46 : decode cX2_increase 46 = .ok (.aload_n 0, 1) := by decide +kernel
theorem dX2_increase_47 : decode cX2_increase 47 = .ok (.getfield 15, 3) := by decide +kernel
theorem dX2_increase_50 : decode cX2_increase 50 = .ok (.iload 5, 2) := by decide +kernel
theorem dX2_increase_52 : decode cX2_increase 52 = .ok (.lload 6, 2) := by decide +kernel
theorem dX2_increase_54 : decode cX2_increase 54 = .ok (.l2i, 1) := by decide +kernel
theorem dX2_increase_55 : decode cX2_increase 55 = .ok (.iastore, 1) := by decide +kernel
theorem dX2_increase_56 : decode cX2_increase 56 = .ok (.lload 6, 2) := by decide +kernel
theorem dX2_increase_58 : decode cX2_increase 58 = .ok (.bipush 32, 2) := by decide +kernel
theorem dX2_increase_60 : decode cX2_increase 60 = .ok (.lushr, 1) := by decide +kernel
theorem dX2_increase_61 : decode cX2_increase 61 = .ok (.lstore_n 3, 1) := by decide +kernel
theorem dX2_increase_62 : decode cX2_increase 62 = .ok (.iinc 5 1, 3) := by decide +kernel
theorem dX2_increase_65 : decode cX2_increase 65 = .ok (.goto (-50), 3) := by decide +kernel
theorem dX2_increase_68 : decode cX2_increase 68 = .ok (.aload_n 0, 1) := by decide +kernel
theorem dX2_increase_69 : decode cX2_increase 69 = .ok (.lload_n 3, 1) := by decide +kernel
theorem dX2_increase_70 : decode cX2_increase 70 = .ok (.invokevirtual 65, 3) := by decide +kernel
theorem dX2_increase_73 : decode cX2_increase 73 = .ok (.ireturn, 1) := by decide +kernel
theorem dX2_hasRoomFor_0 : decode cX2_hasRoomFor 0 = .ok (.aload_n 0, 1) := by decide +kernel
theorem dX2_hasRoomFor_1 : decode cX2_hasRoomFor 1 = .ok (.getfield 21, 3) := by decide +kernel
theorem dX2_hasRoomFor_4 : decode cX2_hasRoomFor 4 = .ok (.aload_n 0, 1) := by decide +kernel
theorem dX2_hasRoomFor_5 : decode cX2_hasRoomFor 5 = .ok (.getfield 15, 3) := by decide +kernel
theorem dX2_hasRoomFor_8 : decode cX2_hasRoomFor 8 = .ok (.arraylength, 1) := by decide +kernel
theorem dX2_hasRoomFor_9 : decode cX2_hasRoomFor 9 = .ok (.if_icmp .lt 23, 3) := by decide +kernel
theorem dX2_hasRoomFor_12 : decode cX2_hasRoomFor 12 = .ok (.aload_n 0, 1) := by decide +kernel
theorem dX2_hasRoomFor_13 : decode cX2_hasRoomFor 13 = .ok (.getfield 15, 3) := by decide +kernel
theorem dX2_hasRoomFor_16 : decode cX2_hasRoomFor 16 = .ok (.iconst 0, 1) := by decide +kernel
theorem dX2_hasRoomFor_17 : decode cX2_hasRoomFor 17 = .ok (.iaload, 1) := by decide +kernel
theorem dX2_hasRoomFor_18 : decode cX2_hasRoomFor 18 = .ok (.i2l, 1) := by decide +kernel
theorem dX2_hasRoomFor_19 : decode cX2_hasRoomFor 19 = .ok (.ldc2_w 34, 3) := by decide +kernel
theorem dX2_hasRoomFor_22 : decode cX2_hasRoomFor 22 = .ok (.land, 1) := by decide +kernel
theorem dX2_hasRoomFor_23 : decode cX2_hasRoomFor 23 = .ok (.lload_n 1, 1) := by decide +kernel
theorem dX2_hasRoomFor_24 : decode cX2_hasRoomFor 24 = .ok (.ladd, 1) := by decide +kernel
theorem dX2_hasRoomFor_25 : decode cX2_hasRoomFor 25 = .ok (.ldc2_w 34, 3) := by decide +kernel
theorem dX2_hasRoomFor_28 : decode cX2_hasRoomFor 28 = .ok (.lcmp, 1) := by decide +kernel
theorem dX2_hasRoomFor_29 : decode cX2_hasRoomFor 29 = .ok (.ifCond .gt 5, 3) := by decide +kernel
theorem dX2_hasRoomFor_32 : decode cX2_hasRoomFor 32 = .ok (.iconst 1, 1) := by decide +kernel
theorem dX2_hasRoomFor_33 : decode cX2_hasRoomFor 33 = .ok (.ireturn, 1) := by decide +kernel
theorem dX2_hasRoomFor_34 : decode cX2_hasRoomFor 34 = .ok (.iconst 1, 1) := by decide +kernel
theorem dX2_hasRoomFor_35 : decode cX2_hasRoomFor 35 = .ok (.istore_n 3, 1) := by decide +kernel
theorem dX2_hasRoomFor_36 : decode cX2_hasRoomFor 36 = .ok (.iload_n 3, 1) := by decide +kernel
theorem dX2_hasRoomFor_37 : decode cX2_hasRoomFor 37 = .ok (.aload_n 0, 1) := by decide +kernel
theorem dX2_hasRoomFor_38 : decode cX2_hasRoomFor 38 = .ok (.getfield 21, 3) := by decide +kernel
theorem dX2_hasRoomFor_41 : decode cX2_hasRoomFor 41 = .ok (.if_icmp .ge 21, 3) := by decide +kernel
theorem dX2_hasRoomFor_44 : decode cX2_hasRoomFor 44 = .ok (.aload_n 0, 1) := by decide +kernel
theorem dX2_hasRoomFor_45 : decode cX2_hasRoomFor 45 = .ok (.getfield 15, 3) := by decide +kernel
theorem dX2_hasRoomFor_48 : decode cX2_hasRoomFor 48 = .ok (.iload_n 3, 1) := by decide +kernel
theorem dX2_hasRoomFor_49 : decode cX2_hasRoomFor 49 = .ok (.iaload, 1) := by decide +kernel
theorem dX2_hasRoomFor_50 : decode cX2_hasRoomFor 50 = .ok (.iconst (-1), 1) := by decide +kernel
theorem dX2_hasRoomFor_51 : decode cX2_hasRoomFor 51 = .ok (.if_icmp .eq 5, 3) := by decide +kernel
theorem dX2_hasRoomFor_54 : decode cX2_hasRoomFor 54 = .ok (.iconst 1, 1) := by decide +kernel
theorem dX2_hasRoomFor_55 : decode cX2_hasRoomFor 55 = .ok (.ireturn, 1) := by decide +kernel
theorem dX2_hasRoomFor_56 : decode cX2_hasRoomFor 56 = .ok (.iinc 3 1, 3) := by decide +kernel
theorem dX2_hasRoomFor_59 : decode cX2_hasRoomFor 59 = .ok (.goto (-23), 3) := by decide +kernel
theorem dX2_hasRoomFor_62 : decode cX2_hasRoomFor 62 = .ok (.iconst 0, 1) := by decide +kernel
theorem dX2_hasRoomFor_63 : decode cX2_hasRoomFor 63 = .ok (.ireturn, 1) := by decide +kernel
theorem dX2_decrease_0 : decode cX2_decrease 0 = .ok (.aload_n 0, 1) := by decide +kernel
theorem dX2_decrease_1 : decode cX2_decrease 1 = .ok (.getfield 21, 3) := by decide +kernel
theorem dX2_decrease_4 : decode cX2_decrease 4 = .ok (.iconst 2, 1) := by decide +kernel
theorem dX2_decrease_5 : decode cX2_decrease 5 = .ok (.if_icmp .ge 20, 3) := by decide +kernel
theorem dX2_decrease_8 : decode cX2_decrease 8 = .ok (.aload_n 0, 1) := by decide +kernel
theorem dX2_decrease_9 : decode cX2_decrease 9 = .ok (.iconst 0, 1) := by decide +kernel
theorem dX2_decrease_10 : decode cX2_decrease 10 = .ok (.invokevirtual 31, 3) := by decide +kernel
theorem dX2_decrease_13 : decode cX2_decrease 13 = .ok (.i2l, 1) := by decide +kernel
theorem dX2_decrease_14 : decode cX2_decrease 14 = .ok (.ldc2_w 34, 3) := by decide +kernel
theorem dX2_decrease_17 : decode cX2_decrease 17 = .ok (.land, 1) := by decide +kernel
theorem dX2_decrease_18 : decode cX2_decrease 18 = .ok (.lload_n 1, 1) := by decide +kernel
theorem dX2_decrease_19 : decode cX2_decrease 19 = .ok (.lcmp, 1) := by decide +kernel
theorem dX2_decrease_20 : decode cX2_decrease 20 = .ok (.ifCond .ge 5, 3) := by decide +kernel
theorem dX2_decrease_23 : decode cX2_decrease 23 = .ok (.iconst 0, 1) := by decide +kernel
theorem dX2_decrease_24 : decode cX2_decrease 24 = .ok (.ireturn, 1) := by decide +kernel
theorem dX2_decrease_25 : decode cX2_decrease 25 = .ok (.lload_n 1, 1) := by decide +kernel
theorem dX2_decrease_26 : decode cX2_decrease 26 = .ok (.lstore_n 3, 1) := by decide +kernel
theorem dX2_decrease_27 : decode cX2_decrease 27 = .ok (.iconst 0, 1) := by decide +kernel
theorem dX2_decrease_28 : decode cX2_decrease 28 = .ok (.istore 5, 2) := by decide +kernel
theorem dX2_decrease_30 : decode cX2_decrease 30 = .ok (.iload 5, 2) := by decide +kernel
theorem dX2_decrease_32 : decode cX2_decrease 32 = .ok (.aload_n 0, 1) := by decide +kernel
theorem dX2_decrease_33 : decode cX2_decrease 33 = .ok (.getfield 21, 3) := by decide +kernel
theorem dX2_decrease_36 : decode cX2_decrease 36 = .ok (.if_icmp .ge 54, 3) := by decide +kernel
theorem dX2_decrease_39 : decode cX2_decrease 39 = .ok (.lload_n 3, 1) := by decide +kernel
theorem dX2_decrease_40 : decode cX2_decrease 40 = .ok (.lconst 0, 1) := by decide +kernel
theorem dX2_decrease_41 : decode cX2_decrease 41 = .ok (.lcmp, 1) := by decide +kernel
theorem dX2_decrease_42 : decode cX2_decrease 42 = .ok (.ifCond .eq 48, 3) := by decide +kernel
theorem dX2_decrease_45 : decode cX2_decrease 45 = .ok (.aload_n 0, 1) := by decide +kernel
theorem dX2_decrease_46 : decode cX2_decrease 46 = .ok (.getfield 15, 3) := by decide +kernel
theorem dX2_decrease_49 : decode cX2_decrease 49 = .ok (.iload 5, 2) := by decide +kernel
theorem dX2_decrease_51 : decode cX2_decrease 51 = .ok (.iaload, 1) := by decide +kernel
theorem dX2_decrease_52 : decode cX2_decrease 52 = .ok (.i2l, 1) := by decide +kernel
theorem dX2_decrease_53 : decode cX2_decrease 53 = .ok (.ldc2_w 34, 3) := by decide +kernel
theorem dX2_decrease_56 : decode cX2_decrease 56 = .ok (.land, 1) := by decide +kernel
theorem dX2_decrease_57 : decode cX2_decrease 57 = .ok (.lload_n 3, 1) := by decide +kernel
theorem dX2_decrease_58 : decode cX2_decrease 58 = .ok (.lsub, 1) := by decide +kernel
theorem dX2_decrease_59 : decode cX2_decrease 59 = .ok (.lstore 6, 2) := by decide +kernel
theorem dX2_decrease_61 : decode cX2_decrease 61 = .ok (.aload_n 0, 1) := by decide +kernel
theorem dX2_decrease_62 : decode cX2_decrease 62 = .ok (.getfield 15, 3) := by decide +kernel
theorem dX2_decrease_65 : decode cX2_decrease 65 = .ok (.iload 5, 2) := by decide +kernel
theorem dX2_decrease_67 : decode cX2_decrease 67 = .ok (.lload 6, 2) := by decide +kernel
theorem dX2_decrease_69 : decode cX2_decrease 69 = .ok (.l2i, 1) := by decide +kernel
theorem dX2_decrease_70 : decode cX2_decrease 70 = .ok (.iastore, 1) := by decide +kernel
theorem dX2_decrease_71 : decode cX2_decrease 71 = .ok (.lload 6, 2) := by decide +kernel
theorem dX2_decrease_73 : decode cX2_decrease 73 = .ok (.lconst 0, 1) := by decide +kernel
theorem dX2_decrease_74 : decode cX2_decrease 74 = .ok (.lcmp, 1) := by decide +kernel
theorem dX2_decrease_75 : decode cX2_decrease 75 = .ok (.ifCond .ge 7, 3) := by decide +kernel
theorem dX2_decrease_78 : decode cX2_decrease 78 = .ok (.lconst 1, 1) := by decide +kernel
theorem dX2_decrease_79 : decode cX2_decrease 79 = .ok (.goto 4, 3) := by decide +kernel
theorem dX2_decrease_82 : decode cX2_decrease 82 = .ok (.lconst 0, 1) := by decide +kernel
theorem dX2_decrease_83 : decode cX2_decrease 83 = .ok (.lstore_n 3, 1) := by decide +kernel
theorem dX2_decrease_84 : decode cX2_decrease 84 = .ok (.iinc 5 1, 3) := by decide +kernel
theorem dX2_decrease_87 : decode cX2_decrease 87 = .ok (.goto (-57), 3) := by decide +kernel
theorem dX2_decrease_90 : decode cX2_decrease 90 = .ok (.aload_n 0, 1) := by decide +kernel
theorem dX2_decrease_91 : decode cX2_decrease 91 = .ok (.invokevirtual 68, 3) := by decide +kernel
theorem dX2_decrease_94 : decode cX2_decrease 94 = .ok (.iconst 1, 1) := by decide +kernel
theorem dX2_decrease_95 : decode cX2_decrease 95 = .ok (.ireturn, 1) := by decide +kernel
theorem dX2_becomeSquareOf_0 : decode cX2_becomeSquareOf 0 = .ok (.aload_n 1, 1) := by decide +kernel
theorem dX2_becomeSquareOf_1 : decode cX2_becomeSquareOf 1 = .ok (.getfield 21, 3) := by decide +kernel
theorem dX2_becomeSquareOf_4 : decode cX2_becomeSquareOf 4 = .ok (.istore_n 2, 1) := by decide +kernel
theorem dX2_becomeSquareOf_5 : decode cX2_becomeSquareOf 5 = .ok (.iload_n 2, 1) := by decide +kernel
theorem dX2_becomeSquareOf_6 : decode cX2_becomeSquareOf 6 = .ok (.aload_n 0, 1) := by decide +kernel
theorem dX2_becomeSquareOf_7 : decode cX2_becomeSquareOf 7 = .ok (.getfield 15, 3) := by decide +kernel
theorem dX2_becomeSquareOf_10 : decode cX2_becomeSquareOf 10 = .ok (.arraylength, 1) := by decide +kernel
theorem dX2_becomeSquareOf_11 : decode cX2_becomeSquareOf 11 = .ok (.iconst 2, 1) := by decide +kernel
theorem dX2_becomeSquareOf_12 : decode cX2_becomeSquareOf 12 = .ok (.idiv, 1) := by decide +kernel
theorem dX2_becomeSquareOf_13 : decode cX2_becomeSquareOf 13 = .ok (.if_icmp .le 5, 3) := by decide +kernel
theorem dX2_becomeSquareOf_16 : decode cX2_becomeSquareOf 16 = .ok (.iconst 0, 1) := by decide +kernel
theorem dX2_becomeSquareOf_17 : decode cX2_becomeSquareOf 17 = .ok (.ireturn, 1) := by decide +kernel
theorem dX2_becomeSquareOf_18 : decode cX2_becomeSquareOf 18 = .ok (.iconst 0, 1) := by decide +kernel
theorem dX2_becomeSquareOf_19 : decode cX2_becomeSquareOf 19 = .ok (.istore_n 3, 1) := by decide +kernel
theorem dX2_becomeSquareOf_20 : decode cX2_becomeSquareOf 20 = .ok (.iload_n 3, 1) := by decide +kernel
theorem dX2_becomeSquareOf_21 : decode cX2_becomeSquareOf 21 = .ok (.iconst 2, 1) := by decide +kernel
theorem dX2_becomeSquareOf_22 : decode cX2_becomeSquareOf 22 = .ok (.iload_n 2, 1) := by decide +kernel
theorem dX2_becomeSquareOf_23 : decode cX2_becomeSquareOf 23 = .ok (.imul, 1) := by decide +kernel
theorem dX2_becomeSquareOf_24 : decode cX2_becomeSquareOf 24 = .ok (.if_icmp .ge 16, 3) := by decide +kernel
theorem dX2_becomeSquareOf_27 : decode cX2_becomeSquareOf 27 = .ok (.aload_n 0, 1) := by decide +kernel
theorem dX2_becomeSquareOf_28 : decode cX2_becomeSquareOf 28 = .ok (.getfield 15, 3) := by decide +kernel
theorem dX2_becomeSquareOf_31 : decode cX2_becomeSquareOf 31 = .ok (.iload_n 3, 1) := by decide +kernel
theorem dX2_becomeSquareOf_32 : decode cX2_becomeSquareOf 32 = .ok (.iconst 0, 1) := by decide +kernel
theorem dX2_becomeSquareOf_33 : decode cX2_becomeSquareOf 33 = .ok (.iastore, 1) := by decide +kernel
theorem dX2_becomeSquareOf_34 : decode cX2_becomeSquareOf 34 = .ok (.iinc 3 1, 3) := by decide +kernel
theorem dX2_becomeSquareOf_37 : decode cX2_becomeSquareOf 37 = .ok (.goto (-17), 3) := by decide +kernel
theorem dX2_becomeSquareOf_40 : decode cX2_becomeSquareOf 40 = .ok (.iconst 0, 1) := by decide +kernel
theorem dX2_becomeSquareOf_41 : decode cX2_becomeSquareOf 41 = .ok (.istore_n 3, 1) := by decide +kernel
theorem dX2_becomeSquareOf_42 : decode cX2_becomeSquareOf 42 = .ok (.iload_n 3, 1) := by decide +kernel
theorem dX2_becomeSquareOf_43 : decode cX2_becomeSquareOf 43 = .ok (.iload_n 2, 1) := by decide +kernel
theorem dX2_becomeSquareOf_44 : decode cX2_becomeSquareOf 44 = .ok (.if_icmp .ge 19, 3) := by decide +kernel
theorem dX2_becomeSquareOf_47 : decode cX2_becomeSquareOf 47 = .ok (.aload_n 0, 1) := by decide +kernel
theorem dX2_becomeSquareOf_48 : decode cX2_becomeSquareOf 48 = .ok (.iload_n 3, 1) := by decide +kernel
theorem dX2_becomeSquareOf_49 : decode cX2_becomeSquareOf 49 = .ok (.aload_n 1, 1) := by decide +kernel
theorem dX2_becomeSquareOf_50 : decode cX2_becomeSquareOf 50 = .ok (.getfield 15, 3) := by decide +kernel
theorem dX2_becomeSquareOf_53 : decode cX2_becomeSquareOf 53 = .ok (.iload_n 2, 1) := by decide +kernel
theorem dX2_becomeSquareOf_54 : decode cX2_becomeSquareOf 54 = .ok (.invokevirtual 74, 3) := by decide +kernel
theorem dX2_becomeSquareOf_57 : decode cX2_becomeSquareOf 57 = .ok (.iinc 3 1, 3) := by decide +kernel
theorem dX2_becomeSquareOf_60 : decode cX2_becomeSquareOf 60 = .ok (.goto (-18), 3) := by decide +kernel
theorem dX2_becomeSquareOf_63 : decode cX2_becomeSquareOf 63 = .ok (.aload_n 0, 1) := by decide +kernel
theorem dX2_becomeSquareOf_64 : decode cX2_becomeSquareOf 64 = .ok (.aload_n 1, 1) := by decide +kernel
theorem dX2_becomeSquareOf_65 : decode cX2_becomeSquareOf 65 = .ok (.getfield 15, 3) := by decide +kernel
theorem dX2_becomeSquareOf_68 : decode cX2_becomeSquareOf 68 = .ok (.iload_n 2, 1) := by decide +kernel
theorem dX2_becomeSquareOf_69 : decode cX2_becomeSquareOf 69 = .ok (.invokevirtual 78, 3) := by decide +kernel
theorem dX2_becomeSquareOf_72 : decode cX2_becomeSquareOf 72 = .ok (.aload_n 0, 1) := by decide +kernel
theorem dX2_becomeSquareOf_73 : decode cX2_becomeSquareOf 73 = .ok (.iconst 2, 1) := by decide +kernel
theorem dX2_becomeSquareOf_74 : decode cX2_becomeSquareOf 74 = .ok (.iload_n 2, 1) := by decide +kernel
theorem dX2_becomeSquareOf_75 : decode cX2_becomeSquareOf 75 = .ok (.imul, 1) := by decide +kernel
theorem dX2_becomeSquareOf_76 : decode cX2_becomeSquareOf 76 = .ok (.putfield 21, 3) := by decide +kernel
theorem dX2_becomeSquareOf_79 : decode cX2_becomeSquareOf 79 = .ok (.aload_n 0, 1) := by decide +kernel
theorem dX2_becomeSquareOf_80 : decode cX2_becomeSquareOf 80 = .ok (.invokevirtual 68, 3) := by decide +kernel
theorem dX2_becomeSquareOf_83 : decode cX2_becomeSquareOf 83 = .ok (.iconst 1, 1) := by decide +kernel
theorem dX2_becomeSquareOf_84 : decode cX2_becomeSquareOf 84 = .ok (.ireturn, 1) := by decide +kernel
theorem dX2_addProductsAbove_0 : decode cX2_addProductsAbove 0 = .ok (.aload_n 2, 1) := by decide +kernel
theorem dX2_addProductsAbove_1 : decode cX2_addProductsAbove 1 = .ok (.iload_n 1, 1) := by decide +kernel
theorem dX2_addProductsAbove_2 : decode cX2_addProductsAbove 2 = .ok (.iaload, 1) := by decide +kernel
theorem dX2_addProductsAbove_3 : decode cX2_addProductsAbove 3 = .ok (.i2l, 1) := by decide +kernel
theorem dX2_addProductsAbove_4 : decode cX2_addProductsAbove 4 = .ok (.ldc2_w 34, 3) := by decide +kernel
theorem dX2_addProductsAbove_7 : decode cX2_addProductsAbove 7 = .ok (.land, 1) := by decide +kernel
theorem dX2_addProductsAbove_8 : decode cX2_addProductsAbove 8 = .ok (.lstore 4, 2) := by decide +kernel
theorem dX2_addProductsAbove_10 : decode cX2_addProductsAbove 10 = .ok (.lload 4, 2) := by decide +kernel
theorem dX2_addProductsAbove_12 : decode cX2_addProductsAbove 12 = .ok (.lconst 0, 1) := by decide +kernel
theorem dX2_addProductsAbove_13 : decode cX2_addProductsAbove 13 = .ok (.lcmp, 1) := by decide +kernel
theorem dX2_addProductsAbove_14 : decode cX2_addProductsAbove 14 = .ok (.ifCond .ne 4, 3) := by decide +kernel
theorem dX2_addProductsAbove_17 : decode cX2_addProductsAbove 17 = .ok (.return_, 1) := by decide +kernel
theorem dX2_addProductsAbove_18 : decode cX2_addProductsAbove 18 = .ok (.lconst 0, 1) := by decide +kernel
theorem dX2_addProductsAbove_19 : decode cX2_addProductsAbove 19 = .ok (.lstore 6, 2) := by decide +kernel
theorem dX2_addProductsAbove_21 : decode cX2_addProductsAbove 21 = .ok (.iload_n 1, 1) := by decide +kernel
theorem dX2_addProductsAbove_22 : decode cX2_addProductsAbove 22 = .ok (.iconst 1, 1) := by decide +kernel
theorem dX2_addProductsAbove_23 : decode cX2_addProductsAbove 23 = .ok (.iadd, 1) := by decide +kernel
theorem dX2_addProductsAbove_24 : decode cX2_addProductsAbove 24 = .ok (.istore 8, 2) := by decide +kernel
theorem dX2_addProductsAbove_26 : decode cX2_addProductsAbove 26 = .ok (.iload 8, 2) := by decide +kernel
theorem dX2_addProductsAbove_28 : decode cX2_addProductsAbove 28 = .ok (.iload_n 3, 1) := by decide +kernel
theorem dX2_addProductsAbove_29 : decode cX2_addProductsAbove 29 = .ok (.if_icmp .ge 60, 3) := by decide +kernel
theorem dX2_addProductsAbove_32 : decode cX2_addProductsAbove 32 = .ok (.lload 4, 2) := by decide +kernel
theorem dX2_addProductsAbove_34 : decode cX2_addProductsAbove 34 = .ok (.aload_n 2, 1) := by decide +kernel
theorem dX2_addProductsAbove_35 : decode cX2_addProductsAbove 35 = .ok (.iload 8, 2) := by decide +kernel
theorem dX2_addProductsAbove_37 : decode cX2_addProductsAbove 37 = .ok (.iaload, 1) := by decide +kernel
theorem dX2_addProductsAbove_38 : decode cX2_addProductsAbove 38 = .ok (.i2l, 1) := by decide +kernel
theorem dX2_addProductsAbove_39 : decode cX2_addProductsAbove 39 = .ok (.ldc2_w 34, 3) := by decide +kernel
theorem dX2_addProductsAbove_42 : decode cX2_addProductsAbove 42 = .ok (.land, 1) := by decide +kernel
theorem dX2_addProductsAbove_43 : decode cX2_addProductsAbove 43 = .ok (.lmul, 1) := by decide +kernel
theorem dX2_addProductsAbove_44 : decode cX2_addProductsAbove 44 = .ok (.aload_n 0, 1) := by decide +kernel
theorem dX2_addProductsAbove_45 : decode cX2_addProductsAbove 45 = .ok (.getfield 15, 3) := by decide +kernel
theorem dX2_addProductsAbove_48 : decode cX2_addProductsAbove 48 = .ok (.iload_n 1, 1) := by decide +kernel
theorem dX2_addProductsAbove_49 : decode cX2_addProductsAbove 49 = .ok (.iload 8, 2) := by decide +kernel
theorem dX2_addProductsAbove_51 : decode cX2_addProductsAbove 51 = .ok (.iadd, 1) := by decide +kernel
theorem dX2_addProductsAbove_52 : decode cX2_addProductsAbove 52 = .ok (.iaload, 1) := by decide +kernel
theorem dX2_addProductsAbove_53 : decode cX2_addProductsAbove 53 = .ok (.i2l, 1) := by decide +kernel
theorem dX2_addProductsAbove_54 : decode cX2_addProductsAbove 54 = .ok (.ldc2_w 34, 3) := by decide +kernel
theorem dX2_addProductsAbove_57 : decode cX2_addProductsAbove 57 = .ok (.land, 1) := by decide +kernel
theorem dX2_addProductsAbove_58 : decode cX2_addProductsAbove 58 = .ok (.ladd, 1) := by decide +kernel
theorem dX2_addProductsAbove_59 : decode cX2_addProductsAbove 59 = .ok (.lload 6, 2) := by decide +kernel
theorem dX2_addProductsAbove_61 : decode cX2_addProductsAbove 61 = .ok (.ladd, 1) := by decide +kernel
theorem dX2_addProductsAbove_62 : decode cX2_addProductsAbove 62 = .ok (.lstore 9, 2) := by decide +kernel
theorem dX2_addProductsAbove_64 : decode cX2_addProductsAbove 64 = .ok (.aload_n 0, 1) := by decide +kernel
theorem dX2_addProductsAbove_65 : decode cX2_addProductsAbove 65 = .ok (.getfield 15, 3) := by decide +kernel
theorem dX2_addProductsAbove_68 : decode cX2_addProductsAbove 68 = .ok (.iload_n 1, 1) := by decide +kernel
theorem dX2_addProductsAbove_69 : decode cX2_addProductsAbove 69 = .ok (.iload 8, 2) := by decide +kernel
theorem dX2_addProductsAbove_71 : decode cX2_addProductsAbove 71 = .ok (.iadd, 1) := by decide +kernel
theorem dX2_addProductsAbove_72 : decode cX2_addProductsAbove 72 = .ok (.lload 9, 2) := by decide +kernel
theorem dX2_addProductsAbove_74 : decode cX2_addProductsAbove 74 = .ok (.l2i, 1) := by decide +kernel
theorem dX2_addProductsAbove_75 : decode cX2_addProductsAbove 75 = .ok (.iastore, 1) := by decide +kernel
theorem dX2_addProductsAbove_76 : decode cX2_addProductsAbove 76 = .ok (.lload 9, 2) := by decide +kernel
theorem dX2_addProductsAbove_78 : decode cX2_addProductsAbove 78 = .ok (.bipush 32, 2) := by decide +kernel
theorem dX2_addProductsAbove_80 : decode cX2_addProductsAbove 80 = .ok (.lushr, 1) := by decide +kernel
theorem dX2_addProductsAbove_81 : decode cX2_addProductsAbove 81 = .ok (.lstore 6, 2) := by decide +kernel
theorem dX2_addProductsAbove_83 : decode cX2_addProductsAbove 83 = .ok (.iinc 8 1, 3) := by decide +kernel
theorem dX2_addProductsAbove_86 : decode cX2_addProductsAbove 86 = .ok (.goto (-60), 3) := by decide +kernel
theorem dX2_addProductsAbove_89 : decode cX2_addProductsAbove 89 = .ok (.aload_n 0, 1) := by decide +kernel
theorem dX2_addProductsAbove_90 : decode cX2_addProductsAbove 90 = .ok (.getfield 15, 3) := by decide +kernel
theorem dX2_addProductsAbove_93 : decode cX2_addProductsAbove 93 = .ok (.iload_n 1, 1) := by decide +kernel
theorem dX2_addProductsAbove_94 : decode cX2_addProductsAbove 94 = .ok (.iload_n 3, 1) := by decide +kernel
theorem dX2_addProductsAbove_95 : decode cX2_addProductsAbove 95 = .ok (.iadd, 1) := by decide +kernel
theorem dX2_addProductsAbove_96 : decode cX2_addProductsAbove 96 = .ok (.lload 6, 2) := by decide +kernel
theorem dX2_addProductsAbove_98 : decode cX2_addProductsAbove 98 = .ok (.l2i, 1) := by decide +kernel
theorem dX2_addProductsAbove_99 : decode cX2_addProductsAbove 99 = .ok (.iastore, 1) := by decide +kernel
theorem dX2_addProductsAbove_100 : decode cX2_addProductsAbove 100 = .ok (.return_, 1) := by decide +kernel
theorem dX2_doubleAndAddSquares_0 : decode cX2_doubleAndAddSquares 0 = .ok (.lconst 0, 1) := by decide +kernel
theorem dX2_doubleAndAddSquares_1 : decode cX2_doubleAndAddSquares 1 = .ok (.lstore_n 3, 1) := by decide +kernel
theorem dX2_doubleAndAddSquares_2 : decode cX2_doubleAndAddSquares 2 = .ok (.iconst 0, 1) := by decide +kernel
theorem dX2_doubleAndAddSquares_3 : decode cX2_doubleAndAddSquares 3 = .ok (.istore 5, 2) := by decide +kernel
theorem dX2_doubleAndAddSquares_5 : decode cX2_doubleAndAddSquares 5 = .ok (.iload 5, 2) := by decide +kernel
theorem dX2_doubleAndAddSquares_7 : decode cX2_doubleAndAddSquares 7 = .ok (.iload_n 2, 1) := by decide +kernel
theorem dX2_doubleAndAddSquares_8 : decode cX2_doubleAndAddSquares 8 = .ok (.if_icmp .ge 125, 3) := by decide +kernel
theorem dX2_doubleAndAddSquares_11 : decode cX2_doubleAndAddSquares 11 = .ok (.aload_n 1, 1) := by decide +kernel
theorem dX2_doubleAndAddSquares_12 : decode cX2_doubleAndAddSquares 12 = .ok (.iload 5, 2) := by decide +kernel
theorem dX2_doubleAndAddSquares_14 : decode cX2_doubleAndAddSquares 14 = .ok (.iaload, 1) := by decide +kernel
theorem dX2_doubleAndAddSquares_15 : decode cX2_doubleAndAddSquares 15 = .ok (.i2l, 1) := by decide +kernel
theorem dX2_doubleAndAddSquares_16 : decode cX2_doubleAndAddSquares 16 = .ok (.ldc2_w 34, 3) := by decide +kernel
theorem dX2_doubleAndAddSquares_19 : decode cX2_doubleAndAddSquares 19 = .ok (.land, 1) := by decide +kernel
theorem dX2_doubleAndAddSquares_20 : decode cX2_doubleAndAddSquares 20 = .ok (.aload_n 1, 1) := by decide +kernel
theorem dX2_doubleAndAddSquares_21 : decode cX2_doubleAndAddSquares 21 = .ok (.iload 5, 2) := by decide +kernel
theorem dX2_doubleAndAddSquares_23 : decode cX2_doubleAndAddSquares 23 = .ok (.iaload, 1) := by decide +kernel
theorem dX2_doubleAndAddSquares_24 : decode cX2_doubleAndAddSquares 24 = .ok (.i2l, 1) := by decide +kernel
theorem dX2_doubleAndAddSquares_25 : decode cX2_doubleAndAddSquares 25 = .ok (.ldc2_w 34, 3) := by decide +kernel
theorem dX2_doubleAndAddSquares_28 : decode cX2_doubleAndAddSquares 28 = .ok (.land, 1) := by decide +kernel
theorem dX2_doubleAndAddSquares_29 : decode cX2_doubleAndAddSquares 29 = .ok (.lmul, 1) := by decide +kernel
theorem dX2_doubleAndAddSquares_30 : decode cX2_doubleAndAddSquares 30 = .ok (.lstore 6, 2) := by decide +kernel
theorem dX2_doubleAndAddSquares_32 : decode cX2_doubleAndAddSquares 32 = .ok (.ldc2_w 82, 3) := by decide +kernel
theorem dX2_doubleAndAddSquares_35 : decode cX2_doubleAndAddSquares 35 = .ok (.aload_n 0, 1) := by decide +kernel
theorem dX2_doubleAndAddSquares_36 : decode cX2_doubleAndAddSquares 36 = .ok (.getfield 15, 3) := by decide +kernel
theorem dX2_doubleAndAddSquares_39 : decode cX2_doubleAndAddSquares 39 = .ok (.iconst 2, 1) := by decide +kernel
theorem dX2_doubleAndAddSquares_40 : decode cX2_doubleAndAddSquares 40 = .ok (.iload 5, 2) := by decide +kernel
theorem dX2_doubleAndAddSquares_42 : decode cX2_doubleAndAddSquares 42 = .ok (.imul, 1) := by decide +kernel
theorem dX2_doubleAndAddSquares_43 : decode cX2_doubleAndAddSquares 43 = .ok (.iaload, 1) := by decide +kernel
theorem dX2_doubleAndAddSquares_44 : decode cX2_doubleAndAddSquares 44 = .ok (.i2l, 1) := by decide +kernel
theorem dX2_doubleAndAddSquares_45 : decode cX2_doubleAndAddSquares 45 = .ok (.ldc2_w 34, 3) := by decide +kernel
theorem dX2_doubleAndAddSquares_48 : decode cX2_doubleAndAddSquares 48 = .ok (.land, 1) := by decide +kernel
theorem dX2_doubleAndAddSquares_49 : decode cX2_doubleAndAddSquares 49 = .ok (.lmul, 1) := by decide +kernel
theorem dX2_doubleAndAddSquares_50 : decode cX2_doubleAndAddSquares 50 = .ok (.lload 6, 2) := by decide +kernel
theorem dX2_doubleAndAddSquares_52 : decode cX2_doubleAndAddSquares 52 = .ok (.ldc2_w 34, 3) := by decide +kernel
theorem dX2_doubleAndAddSquares_55 : decode cX2_doubleAndAddSquares 55 = .ok (.land, 1) := by decide +kernel
theorem dX2_doubleAndAddSquares_56 : decode cX2_doubleAndAddSquares 56 = .ok (.ladd, 1) := by decide +kernel
theorem dX2_doubleAndAddSquares_57 : decode cX2_doubleAndAddSquares 57 = .ok (.lload_n 3, 1) := by decide +kernel
theorem dX2_doubleAndAddSquares_58 : decode cX2_doubleAndAddSquares 58 = .ok (.ladd, 1) := by decide +kernel
theorem dX2_doubleAndAddSquares_59 : decode cX2_doubleAndAddSquares 59 = .ok (.lstore 8, 2) := by decide +kernel
theorem dX2_doubleAndAddSquares_61 : decode cX2_doubleAndAddSquares 61 = .ok (.aload_n 0, 1) := by decide +kernel
theorem dX2_doubleAndAddSquares_62 : decode cX2_doubleAndAddSquares 62 = .ok (.getfield 15, 3) := by decide +kernel
theorem dX2_doubleAndAddSquares_65 : decode cX2_doubleAndAddSquares 65 = .ok (.iconst 2, 1) := by decide +kernel
theorem dX2_doubleAndAddSquares_66 : decode cX2_doubleAndAddSquares 66 = .ok (.iload 5, 2) := by decide +kernel
theorem dX2_doubleAndAddSquares_68 : decode cX2_doubleAndAddSquares 68 = .ok (.imul, 1) := by decide +kernel
theorem dX2_doubleAndAddSquares_69 : decode cX2_doubleAndAddSquares 69 = .ok (.lload 8, 2) := by decide +kernel
theorem dX2_doubleAndAddSquares_71 : decode cX2_doubleAndAddSquares 71 = .ok (.l2i, 1) := by decide +kernel
theorem dX2_doubleAndAddSquares_72 : decode cX2_doubleAndAddSquares 72 = .ok (.iastore, 1) := by decide +kernel
theorem dX2_doubleAndAddSquares_73 : decode cX2_doubleAndAddSquares 73 = .ok (.ldc2_w 82, 3) := by decide +kernel
theorem dX2_doubleAndAddSquares_76 : decode cX2_doubleAndAddSquares 76 = .ok (.aload_n 0, 1) := by decide +kernel
theorem dX2_doubleAndAddSquares_77 : decode cX2_doubleAndAddSquares 77 = .ok (.getfield 15, 3) := by decide +kernel
theorem dX2_doubleAndAddSquares_80 : decode cX2_doubleAndAddSquares 80 = .ok (.iconst 2, 1) := by decide +kernel
theorem dX2_doubleAndAddSquares_81 : decode cX2_doubleAndAddSquares 81 = .ok (.iload 5, 2) := by decide +kernel
theorem dX2_doubleAndAddSquares_83 : decode cX2_doubleAndAddSquares 83 = .ok (.imul, 1) := by decide +kernel
theorem dX2_doubleAndAddSquares_84 : decode cX2_doubleAndAddSquares 84 = .ok (.iconst 1, 1) := by decide +kernel
theorem dX2_doubleAndAddSquares_85 : decode cX2_doubleAndAddSquares 85 = .ok (.iadd, 1) := by decide +kernel
theorem dX2_doubleAndAddSquares_86 : decode cX2_doubleAndAddSquares 86 = .ok (.iaload, 1) := by decide +kernel
theorem dX2_doubleAndAddSquares_87 : decode cX2_doubleAndAddSquares 87 = .ok (.i2l, 1) := by decide +kernel
theorem dX2_doubleAndAddSquares_88 : decode cX2_doubleAndAddSquares 88 = .ok (.ldc2_w 34, 3) := by decide +kernel
theorem dX2_doubleAndAddSquares_91 : decode cX2_doubleAndAddSquares 91 = .ok (.land, 1) := by decide +kernel
theorem dX2_doubleAndAddSquares_92 : decode cX2_doubleAndAddSquares 92 = .ok (.lmul, 1) := by decide +kernel
theorem dX2_doubleAndAddSquares_93 : decode cX2_doubleAndAddSquares 93 = .ok (.lload 6, 2) := by decide +kernel
theorem dX2_doubleAndAddSquares_95 : decode cX2_doubleAndAddSquares 95 = .ok (.bipush 32, 2) := by decide +kernel
theorem dX2_doubleAndAddSquares_97 : decode cX2_doubleAndAddSquares 97 = .ok (.lushr, 1) := by decide +kernel
theorem dX2_doubleAndAddSquares_98 : decode cX2_doubleAndAddSquares 98 = .ok (.ladd, 1) := by decide +kernel
theorem dX2_doubleAndAddSquares_99 : decode cX2_doubleAndAddSquares 99 = .ok (.lload 8, 2) := by decide +kernel
theorem dX2_doubleAndAddSquares_101 : decode cX2_doubleAndAddSquares 101 = .ok (.bipush 32, 2) := by decide +kernel
theorem dX2_doubleAndAddSquares_103 : decode cX2_doubleAndAddSquares 103 = .ok (.lushr, 1) := by decide +kernel
theorem dX2_doubleAndAddSquares_104 : decode cX2_doubleAndAddSquares 104 = .ok (.ladd, 1) := by decide +kernel
theorem dX2_doubleAndAddSquares_105 : decode cX2_doubleAndAddSquares 105 = .ok (.lstore 10, 2) := by decide +kernel
theorem dX2_doubleAndAddSquares_107 : decode cX2_doubleAndAddSquares 107 = .ok (.aload_n 0, 1) := by decide +kernel
theorem dX2_doubleAndAddSquares_108 : decode cX2_doubleAndAddSquares 108 = .ok (.getfield 15, 3) := by decide +kernel
theorem dX2_doubleAndAddSquares_111 : decode cX2_doubleAndAddSquares 111 = .ok (.iconst 2, 1) := by decide +kernel
theorem dX2_doubleAndAddSquares_112 : decode cX2_doubleAndAddSquares 112 = .ok (.iload 5, 2) := by decide +kernel
theorem dX2_doubleAndAddSquares_114 : decode cX2_doubleAndAddSquares 114 = .ok (.imul, 1) := by decide +kernel
theorem dX2_doubleAndAddSquares_115 : decode cX2_doubleAndAddSquares 115 = .ok (.iconst 1, 1) := by decide +kernel
theorem dX2_doubleAndAddSquares_116 : decode cX2_doubleAndAddSquares 116 = .ok (.iadd, 1) := by decide +kernel
theorem dX2_doubleAndAddSquares_117 : decode cX2_doubleAndAddSquares 117 = .ok (.lload 10, 2) := by decide +kernel
theorem dX2_doubleAndAddSquares_119 : decode cX2_doubleAndAddSquares 119 = .ok (.l2i, 1) := by decide +kernel
theorem dX2_doubleAndAddSquares_120 : decode cX2_doubleAndAddSquares 120 = .ok (.iastore, 1) := by decide +kernel
theorem dX2_doubleAndAddSquares_121 : decode cX2_doubleAndAddSquares 121 = .ok (.lload 10, 2) := by decide +kernel
theorem dX2_doubleAndAddSquares_123 : decode cX2_doubleAndAddSquares 123 = .ok (.bipush 32, 2) := by decide +kernel
theorem dX2_doubleAndAddSquares_125 : decode cX2_doubleAndAddSquares 125 = .ok (.lushr, 1) := by decide +kernel
theorem dX2_doubleAndAddSquares_126 : decode cX2_doubleAndAddSquares 126 = .ok (.lstore_n 3, 1) := by decide +kernel
theorem dX2_doubleAndAddSquares_127 : decode cX2_doubleAndAddSquares 127 = .ok (.iinc 5 1, 3) := by decide +kernel
theorem dX2_doubleAndAddSquares_130 : decode cX2_doubleAndAddSquares 130 = .ok (.goto (-125), 3) := by decide +kernel
theorem dX2_doubleAndAddSquares_133 : decode cX2_doubleAndAddSquares 133 = .ok (.return_, 1) := by decide +kernel
theorem dX3_init_0 : decode cX3_init 0 = .ok (.aload_n 0, 1) := by decide +kernel
theorem dX3_init_1 : decode cX3_init 1 = .ok (.invokespecial 1, 3) := by decide +kernel
theorem dX3_init_4 : decode cX3_init 4 = .ok (.aload_n 0, 1) := by decide +kernel
theorem dX3_init_5 : decode cX3_init 5 = .ok (.new 7, 3) := by decide +kernel
theorem dX3_init_8 : decode cX3_init 8 = .ok (.dup, 1) := by decide +kernel
theorem dX3_init_9 : decode cX3_init 9 = .ok (.invokespecial 9, 3) := by decide +kernel
theorem dX3_init_12 : decode cX3_init 12 = .ok (.putfield 10, 3) := by decide +kernel
theorem dX3_init_15 : decode cX3_init 15 = .ok (.aload_n 0, 1) := by decide +kernel
theorem dX3_init_16 : decode cX3_init 16 = .ok (.new 16, 3) := by decide +kernel
theorem dX3_init_19 : decode cX3_init 19 = .ok (.dup, 1) := by decide +kernel
theorem dX3_init_20 : decode cX3_init 20 = .ok (.invokespecial 18, 3) := by decide +kernel
theorem dX3_init_23 : decode cX3_init 23 = .ok (.putfield 19, 3) := by decide +kernel
theorem dX3_init_26 : decode cX3_init 26 = .ok (.aload_n 0, 1) := by decide +kernel
theorem dX3_init_27 : decode cX3_init 27 = .ok (.new 23, 3) := by decide +kernel
theorem dX3_init_30 : decode cX3_init 30 = .ok (.dup, 1) := by decide +kernel
theorem dX3_init_31 : decode cX3_init 31 = .ok (.sipush 2048, 3) := by decide +kernel
theorem dX3_init_34 : decode cX3_init 34 = .ok (.invokespecial 25, 3) := by decide +kernel
theorem dX3_init_37 : decode cX3_init 37 = .ok (.putfield 28, 3) := by decide +kernel
theorem dX3_init_40 : decode cX3_init 40 = .ok (.aload_n 0, 1) := by decide +kernel
theorem dX3_init_41 : decode cX3_init 41 = .ok (.new 23, 3) := by decide +kernel
end
section
theorem dX3_init_44 : decode cX3_init 44 = .ok (.dup, 1) := by decide +kernel
theorem dX3_init_45 : decode cX3_init 45 = .ok (.sipush 2048, 3) := by decide +kernel
theorem dX3_init_48 : decode cX3_init 48 = .ok (.invokespecial 25, 3) := by decide +kernel
theorem dX3_init_51 : decode cX3_init 51 = .ok (.putfield 32, 3) := by decide +kernel
theorem dX3_init_54 : decode cX3_init 54 = .ok (.aload_n 0, 1) := by decide +kernel
theorem dX3_init_55 : decode cX3_init 55 = .ok (.new 23, 3) := by decide +kernel
theorem dX3_init_58 : decode cX3_init 58 = .ok (.dup, 1) := by decide +kernel
theorem dX3_init_59 : decode cX3_init 59 = .ok (.sipush 2048, 3) := by decide +kernel
theorem dX3_init_62 : decode cX3_init 62 = .ok (.invokespecial 25, 3) := by decide +kernel
theorem dX3_init_65 : decode cX3_init 65 = .ok (.putfield 35, 3) := by decide +kernel
theorem dX3_init_68 : decode cX3_init 68 = .ok (.aload_n 0, 1) := by decide +kernel
theorem dX3_init_69 : decode cX3_init 69 = .ok (.new 23, 3) := by decide +kernel
theorem dX3_init_72 : decode cX3_init 72 = .ok (.dup, 1) := by decide +kernel
theorem dX3_init_73 : decode cX3_init 73 = .ok (.iconst 2, 1) := by decide +kernel
theorem dX3_init_74 : decode cX3_init 74 = .ok (.invokespecial 25, 3) := by decide +kernel
theorem dX3_init_77 : decode cX3_init 77 = .ok (.putfield 38, 3) := by decide +kernel
theorem dX3_init_80 : decode cX3_init 80 = .ok (.aload_n 0, 1) := by decide +kernel
theorem dX3_init_81 : decode cX3_init 81 = .ok (.lconst 0, 1) := by decide +kernel
theorem dX3_init_82 : decode cX3_init 82 = .ok (.putfield 41, 3) := by decide +kernel
theorem dX3_init_85 : decode cX3_init 85 = .ok (.return_, 1) := by decide +kernel
theorem dX3_type_0 : decode cX3_type 0 = .ok (.aload_n 0, 1) := by decide +kernel
theorem dX3_type_1 : decode cX3_type 1 = .ok (.getfield 10, 3) := by decide +kernel
theorem dX3_type_4 : decode cX3_type 4 = .ok (.lload_n 1, 1) := by decide +kernel
theorem dX3_type_5 : decode cX3_type 5 = .ok (.invokevirtual 45, 3) := by decide +kernel
theorem dX3_type_8 : decode cX3_type 8 = .ok (.ireturn, 1) := by decide +kernel
theorem dX3_repeat_0 : decode cX3_repeat 0 = .ok (.aload_n 0, 1) := by decide +kernel
theorem dX3_repeat_1 : decode cX3_repeat 1 = .ok (.getfield 10, 3) := by decide +kernel
theorem dX3_repeat_4 : decode cX3_repeat 4 = .ok (.iload_n 1, 1) := by decide +kernel
theorem dX3_repeat_5 : decode cX3_repeat 5 = .ok (.iload_n 2, 1) := by decide +kernel
theorem dX3_repeat_6 : decode cX3_repeat 6 = .ok (.invokevirtual 49, 3) := by decide +kernel
theorem dX3_repeat_9 : decode cX3_repeat 9 = .ok (.ireturn, 1) := by decide +kernel
theorem dX3_read_0 : decode cX3_read 0 = .ok (.iload_n 1, 1) := by decide +kernel
theorem dX3_read_1 : decode cX3_read 1 = .ok (.invokestatic 53, 3) := by decide +kernel
theorem dX3_read_4 : decode cX3_read 4 = .ok (.ifCond .ne 6, 3) := by decide +kernel
theorem dX3_read_7 : decode cX3_read 7 = .ok (.bipush (-3), 2) := by decide +kernel
theorem dX3_read_9 : decode cX3_read 9 = .ok (.ireturn, 1) := by decide +kernel
theorem dX3_read_10 : decode cX3_read 10 = .ok (.aload_n 0, 1) := by decide +kernel
theorem dX3_read_11 : decode cX3_read 11 = .ok (.iload_n 1, 1) := by decide +kernel
theorem dX3_read_12 : decode cX3_read 12 = .ok (.invokevirtual 57, 3) := by decide +kernel
theorem dX3_read_15 : decode cX3_read 15 = .ok (.istore_n 2, 1) := by decide +kernel
theorem dX3_read_16 : decode cX3_read 16 = .ok (.aload_n 0, 1) := by decide +kernel
theorem dX3_read_17 : decode cX3_read 17 = .ok (.getfield 10, 3) := by decide +kernel
theorem dX3_read_20 : decode cX3_read 20 = .ok (.invokevirtual 61, 3) := by decide +kernel
theorem dX3_read_23 : decode cX3_read 23 = .ok (.iload_n 2, 1) := by decide +kernel
theorem dX3_read_24 : decode cX3_read 24 = .ok (.ireturn, 1) := by decide +kernel
theorem dX3_write_0 : decode cX3_write 0 = .ok (.iload_n 1, 1) := by decide +kernel
theorem dX3_write_1 : decode cX3_write 1 = .ok (.invokestatic 53, 3) := by decide +kernel
theorem dX3_write_4 : decode cX3_write 4 = .ok (.ifCond .ne 5, 3) := by decide +kernel
theorem dX3_write_7 : decode cX3_write 7 = .ok (.iconst (-1), 1) := by decide +kernel
theorem dX3_write_8 : decode cX3_write 8 = .ok (.ireturn, 1) := by decide +kernel
theorem dX3_write_9 : decode cX3_write 9 = .ok (.aload_n 0, 1) := by decide +kernel
theorem dX3_write_10 : decode cX3_write 10 = .ok (.getfield 32, 3) := by decide +kernel
theorem dX3_write_13 : decode cX3_write 13 = .ok (.aload_n 0, 1) := by decide +kernel
theorem dX3_write_14 : decode cX3_write 14 = .ok (.getfield 28, 3) := by decide +kernel
theorem dX3_write_17 : decode cX3_write 17 = .ok (.invokevirtual 64, 3) := by decide +kernel
theorem dX3_write_20 : decode cX3_write 20 = .ok (.aload_n 0, 1) := by decide +kernel
theorem dX3_write_21 : decode cX3_write 21 = .ok (.getfield 19, 3) := by decide +kernel
theorem dX3_write_24 : decode cX3_write 24 = .ok (.aload_n 0, 1) := by decide +kernel
theorem dX3_write_25 : decode cX3_write 25 = .ok (.getfield 32, 3) := by decide +kernel
theorem dX3_write_28 : decode cX3_write 28 = .ok (.iload_n 1, 1) := by decide +kernel
theorem dX3_write_29 : decode cX3_write 29 = .ok (.invokevirtual 68, 3) := by decide +kernel
theorem dX3_write_32 : decode cX3_write 32 = .ok (.aload_n 0, 1) := by decide +kernel
theorem dX3_write_33 : decode cX3_write 33 = .ok (.getfield 19, 3) := by decide +kernel
theorem dX3_write_36 : decode cX3_write 36 = .ok (.invokevirtual 72, 3) := by decide +kernel
theorem dX3_write_39 : decode cX3_write 39 = .ok (.ireturn, 1) := by decide +kernel
theorem dX3_push_0 : decode cX3_push 0 = .ok (.aload_n 0, 1) := by decide +kernel
theorem dX3_push_1 : decode cX3_push 1 = .ok (.getfield 28, 3) := by decide +kernel
theorem dX3_push_4 : decode cX3_push 4 = .ok (.lload_n 1, 1) := by decide +kernel
theorem dX3_push_5 : decode cX3_push 5 = .ok (.invokevirtual 76, 3) := by decide +kernel
theorem dX3_push_8 : decode cX3_push 8 = .ok (.ireturn, 1) := by decide +kernel
theorem dX3_power_0 : decode cX3_power 0 = .ok (.iload_n 1, 1) := by decide +kernel
theorem dX3_power_1 : decode cX3_power 1 = .ok (.ifCond .lt 16, 3) := by decide +kernel
theorem dX3_power_4 : decode cX3_power 4 = .ok (.iload_n 2, 1) := by decide +kernel
theorem dX3_power_5 : decode cX3_power 5 = .ok (.ifCond .lt 12, 3) := by decide +kernel
theorem dX3_power_8 : decode cX3_power 8 = .ok (.aload_n 0, 1) := by decide +kernel
theorem dX3_power_9 : decode cX3_power 9 = .ok (.iload_n 1, 1) := by decide +kernel
theorem dX3_power_10 : decode cX3_power 10 = .ok (.iload_n 2, 1) := by decide +kernel
theorem dX3_power_11 : decode cX3_power 11 = .ok (.invokevirtual 79, 3) := by decide +kernel
theorem dX3_power_14 : decode cX3_power 14 = .ok (.ifCond .ne 5, 3) := by decide +kernel
theorem dX3_power_17 : decode cX3_power 17 = .ok (.iconst 0, 1) := by decide +kernel
theorem dX3_power_18 : decode cX3_power 18 = .ok (.ireturn, 1) := by decide +kernel
theorem dX3_power_19 : decode cX3_power 19 = .ok (.aload_n 0, 1) := by decide +kernel
theorem dX3_power_20 : decode cX3_power 20 = .ok (.getfield 28, 3) := by decide +kernel
theorem dX3_power_23 : decode cX3_power 23 = .ok (.aload_n 0, 1) := by decide +kernel
theorem dX3_power_24 : decode cX3_power 24 = .ok (.getfield 32, 3) := by decide +kernel
theorem dX3_power_27 : decode cX3_power 27 = .ok (.invokevirtual 64, 3) := by decide +kernel
theorem dX3_power_30 : decode cX3_power 30 = .ok (.iconst 1, 1) := by decide +kernel
theorem dX3_power_31 : decode cX3_power 31 = .ok (.ireturn, 1) := by decide +kernel
theorem dX3_add_0 : decode cX3_add 0 = .ok (.iload_n 1, 1) := by decide +kernel
theorem dX3_add_1 : decode cX3_add 1 = .ok (.ifCond .ge 16, 3) := by decide +kernel
theorem dX3_add_4 : decode cX3_add 4 = .ok (.aload_n 0, 1) := by decide +kernel
theorem dX3_add_5 : decode cX3_add 5 = .ok (.getfield 28, 3) := by decide +kernel
theorem dX3_add_8 : decode cX3_add 8 = .ok (.iload_n 1, 1) := by decide +kernel
theorem dX3_add_9 : decode cX3_add 9 = .ok (.i2l, 1) := by decide +kernel
theorem dX3_add_10 : decode cX3_add 10 = .ok (.lneg, 1) := by decide +kernel
theorem dX3_add_11 : decode cX3_add 11 = .ok (.invokevirtual 82, 3) := by decide +kernel
theorem dX3_add_14 : decode cX3_add 14 = .ok (.goto 12, 3) := by decide +kernel
theorem dX3_add_17 : decode cX3_add 17 = .ok (.aload_n 0, 1) := by decide +kernel
theorem dX3_add_18 : decode cX3_add 18 = .ok (.getfield 28, 3) := by decide +kernel
theorem dX3_add_21 : decode cX3_add 21 = .ok (.iload_n 1, 1) := by decide +kernel
theorem dX3_add_22 : decode cX3_add 22 = .ok (.i2l, 1) := by decide +kernel
theorem dX3_add_23 : decode cX3_add 23 = .ok (.invokevirtual 85, 3) := by decide +kernel
theorem dX3_add_26 : decode cX3_add 26 = .ok (.ireturn, 1) := by decide +kernel
theorem dX3_show_0 : decode cX3_show 0 = .ok (.iload_n 3, 1) := by decide +kernel
theorem dX3_show_1 : decode cX3_show 1 = .ok (.invokestatic 88, 3) := by decide +kernel
theorem dX3_show_4 : decode cX3_show 4 = .ok (.ifCond .eq 11, 3) := by decide +kernel
theorem dX3_show_7 : decode cX3_show 7 = .ok (.iload 4, 2) := by decide +kernel
theorem dX3_show_9 : decode cX3_show 9 = .ok (.invokestatic 53, 3) := by decide +kernel
theorem dX3_show_12 : decode cX3_show 12 = .ok (.ifCond .ne 5, 3) := by decide +kernel
theorem dX3_show_15 : decode cX3_show 15 = .ok (.iconst (-1), 1) := by decide +kernel
theorem dX3_show_16 : decode cX3_show 16 = .ok (.ireturn, 1) := by decide +kernel
theorem dX3_show_17 : decode cX3_show 17 = .ok (.lload_n 1, 1) := by decide +kernel
theorem dX3_show_18 : decode cX3_show 18 = .ok (.lstore 6, 2) := by decide +kernel
theorem dX3_show_20 : decode cX3_show 20 = .ok (.iload_n 3, 1) := by decide +kernel
theorem dX3_show_21 : decode cX3_show 21 = .ok (.bipush 32, 2) := by decide +kernel
theorem dX3_show_23 : decode cX3_show 23 = .ok (.if_icmp .ne 21, 3) := by decide +kernel
theorem dX3_show_26 : decode cX3_show 26 = .ok (.iload 5, 2) := by decide +kernel
theorem dX3_show_28 : decode cX3_show 28 = .ok (.ifCond .eq 9, 3) := by decide +kernel
theorem dX3_show_31 : decode cX3_show 31 = .ok (.lload_n 1, 1) := by decide +kernel
theorem dX3_show_32 : decode cX3_show 32 = .ok (.l2i, 1) := by decide +kernel
theorem dX3_show_33 : decode cX3_show 33 = .ok (.i2l, 1) := by decide +kernel
theorem dX3_show_34 : decode cX3_show 34 = .ok (.goto 8, 3) := by decide +kernel
theorem dX3_show_37 : decode cX3_show 37 = .ok (.lload_n 1, 1) := by decide +kernel
theorem dX3_show_38 : decode cX3_show 38 = .ok (.ldc2_w 91, 3) := by decide +kernel
theorem dX3_show_41 : decode cX3_show 41 = .ok (.land, 1) := by decide +kernel
theorem dX3_show_42 : decode cX3_show 42 = .ok (.lstore 6, 2) := by decide +kernel
theorem dX3_show_44 : decode cX3_show 44 = .ok (.iload 5, 2) := by decide +kernel
theorem dX3_show_46 : decode cX3_show 46 = .ok (.ifCond .eq 14, 3) := by decide +kernel
theorem dX3_show_49 : decode cX3_show 49 = .ok (.lload 6, 2) := by decide +kernel
theorem dX3_show_51 : decode cX3_show 51 = .ok (.lconst 0, 1) := by decide +kernel
theorem dX3_show_52 : decode cX3_show 52 = .ok (.lcmp, 1) := by decide +kernel
theorem dX3_show_53 : decode cX3_show 53 = .ok (.ifCond .ge 7, 3) := by decide +kernel
theorem dX3_show_56 : decode cX3_show 56 = .ok (.iconst 1, 1) := by decide +kernel
theorem dX3_show_57 : decode cX3_show 57 = .ok (.goto 4, 3) := by decide +kernel
theorem dX3_show_60 : decode cX3_show 60 = .ok (.iconst 0, 1) := by decide +kernel
theorem dX3_show_61 : decode cX3_show 61 = .ok (.istore 8, 2) := by decide +kernel
theorem dX3_show_63 : decode cX3_show 63 = .ok (.aload_n 0, 1) := by decide +kernel
theorem dX3_show_64 : decode cX3_show 64 = .ok (.getfield 38, 3) := by decide +kernel
theorem dX3_show_67 : decode cX3_show 67 = .ok (.iload 8, 2) := by decide +kernel
theorem dX3_show_69 : decode cX3_show 69 = .ok (.ifCond .eq 9, 3) := by decide +kernel
theorem dX3_show_72 : decode cX3_show 72 = .ok (.lload 6, 2) := by decide +kernel
theorem dX3_show_74 : decode cX3_show 74 = .ok (.lneg, 1) := by decide +kernel
theorem dX3_show_75 : decode cX3_show 75 = .ok (.goto 5, 3) := by decide +kernel
theorem dX3_show_78 : decode cX3_show 78 = .ok (.lload 6, 2) := by decide +kernel
theorem dX3_show_80 : decode cX3_show 80 = .ok (.invokevirtual 93, 3) := by decide +kernel
theorem dX3_show_83 : decode cX3_show 83 = .ok (.aload_n 0, 1) := by decide +kernel
theorem dX3_show_84 : decode cX3_show 84 = .ok (.getfield 19, 3) := by decide +kernel
theorem dX3_show_87 : decode cX3_show 87 = .ok (.aload_n 0, 1) := by decide +kernel
theorem dX3_show_88 : decode cX3_show 88 = .ok (.getfield 38, 3) := by decide +kernel
theorem dX3_show_91 : decode cX3_show 91 = .ok (.iload 4, 2) := by decide +kernel
theorem dX3_show_93 : decode cX3_show 93 = .ok (.invokevirtual 68, 3) := by decide +kernel
theorem dX3_show_96 : decode cX3_show 96 = .ok (.iload 8, 2) := by decide +kernel
theorem dX3_show_98 : decode cX3_show 98 = .ok (.ifCond .eq 12, 3) := by decide +kernel
theorem dX3_show_101 : decode cX3_show 101 = .ok (.aload_n 0, 1) := by decide +kernel
theorem dX3_show_102 : decode cX3_show 102 = .ok (.getfield 19, 3) := by decide +kernel
theorem dX3_show_105 : decode cX3_show 105 = .ok (.bipush 45, 2) := by decide +kernel
theorem dX3_show_107 : decode cX3_show 107 = .ok (.invokevirtual 97, 3) := by decide +kernel
theorem dX3_show_110 : decode cX3_show 110 = .ok (.aload_n 0, 1) := by decide +kernel
theorem dX3_show_111 : decode cX3_show 111 = .ok (.getfield 19, 3) := by decide +kernel
theorem dX3_show_114 : decode cX3_show 114 = .ok (.invokevirtual 72, 3) := by decide +kernel
theorem dX3_show_117 : decode cX3_show 117 = .ok (.ireturn, 1) := by decide +kernel
theorem dX3_parse_0 : decode cX3_parse 0 = .ok (.iload_n 1, 1) := by decide +kernel
theorem dX3_parse_1 : decode cX3_parse 1 = .ok (.invokestatic 88, 3) := by decide +kernel
theorem dX3_parse_4 : decode cX3_parse 4 = .ok (.ifCond .eq 10, 3) := by decide +kernel
theorem dX3_parse_7 : decode cX3_parse 7 = .ok (.iload_n 2, 1) := by decide +kernel
theorem dX3_parse_8 : decode cX3_parse 8 = .ok (.invokestatic 53, 3) := by decide +kernel
theorem dX3_parse_11 : decode cX3_parse 11 = .ok (.ifCond .ne 5, 3) := by decide +kernel
theorem dX3_parse_14 : decode cX3_parse 14 = .ok (.iconst 3, 1) := by decide +kernel
theorem dX3_parse_15 : decode cX3_parse 15 = .ok (.ireturn, 1) := by decide +kernel
theorem dX3_parse_16 : decode cX3_parse 16 = .ok (.aload_n 0, 1) := by decide +kernel
theorem dX3_parse_17 : decode cX3_parse 17 = .ok (.iload_n 1, 1) := by decide +kernel
theorem dX3_parse_18 : decode cX3_parse 18 = .ok (.iload_n 2, 1) := by decide +kernel
theorem dX3_parse_19 : decode cX3_parse 19 = .ok (.iload_n 3, 1) := by decide +kernel
theorem dX3_parse_20 : decode cX3_parse 20 = .ok (.invokevirtual 100, 3) := by decide +kernel
theorem dX3_parse_23 : decode cX3_parse 23 = .ok (.istore 4, 2) := by decide +kernel
theorem dX3_parse_25 : decode cX3_parse 25 = .ok (.aload_n 0, 1) := by decide +kernel
theorem dX3_parse_26 : decode cX3_parse 26 = .ok (.getfield 10, 3) := by decide +kernel
theorem dX3_parse_29 : decode cX3_parse 29 = .ok (.invokevirtual 61, 3) := by decide +kernel
theorem dX3_parse_32 : decode cX3_parse 32 = .ok (.iload 4, 2) := by decide +kernel
theorem dX3_parse_34 : decode cX3_parse 34 = .ok (.ireturn, 1) := by decide +kernel
theorem dX3_value_0 : decode cX3_value 0 = .ok (.aload_n 0, 1) := by decide +kernel
theorem dX3_value_1 : decode cX3_value 1 = .ok (.getfield 41, 3) := by decide +kernel
theorem dX3_value_4 : decode cX3_value 4 = .ok (.lreturn, 1) := by decide +kernel
theorem dX3_word_0 : decode cX3_word 0 = .ok (.aload_n 0, 1) := by decide +kernel
theorem dX3_word_1 : decode cX3_word 1 = .ok (.getfield 28, 3) := by decide +kernel
theorem dX3_word_4 : decode cX3_word 4 = .ok (.iload_n 1, 1) := by decide +kernel
theorem dX3_word_5 : decode cX3_word 5 = .ok (.invokevirtual 104, 3) := by decide +kernel
theorem dX3_word_8 : decode cX3_word 8 = .ok (.ireturn, 1) := by decide +kernel
theorem dX3_bits_0 : decode cX3_bits 0 = .ok (.aload_n 0, 1) := by decide +kernel
theorem dX3_bits_1 : decode cX3_bits 1 = .ok (.getfield 28, 3) := by decide +kernel
theorem dX3_bits_4 : decode cX3_bits 4 = .ok (.invokevirtual 107, 3) := by decide +kernel
theorem dX3_bits_7 : decode cX3_bits 7 = .ok (.ireturn, 1) := by decide +kernel
theorem dX3_characterAt_0 : decode cX3_characterAt 0 = .ok (.aload_n 0, 1) := by decide +kernel
theorem dX3_characterAt_1 : decode cX3_characterAt 1 = .ok (.getfield 19, 3) := by decide +kernel
theorem dX3_characterAt_4 : decode cX3_characterAt 4 = .ok (.iload_n 1, 1) := by decide +kernel
theorem dX3_characterAt_5 : decode cX3_characterAt 5 = .ok (.invokevirtual 110, 3) := by decide +kernel
theorem dX3_characterAt_8 : decode cX3_characterAt 8 = .ok (.ireturn, 1) := by decide +kernel
theorem dX3_typed_0 : decode cX3_typed 0 = .ok (.aload_n 0, 1) := by decide +kernel
theorem dX3_typed_1 : decode cX3_typed 1 = .ok (.getfield 10, 3) := by decide +kernel
theorem dX3_typed_4 : decode cX3_typed 4 = .ok (.invokevirtual 113, 3) := by decide +kernel
theorem dX3_typed_7 : decode cX3_typed 7 = .ok (.ireturn, 1) := by decide +kernel
theorem dX3_readNumber_0 : decode cX3_readNumber 0 = .ok (.aload_n 0, 1) := by decide +kernel
theorem dX3_readNumber_1 : decode cX3_readNumber 1 = .ok (.getfield 10, 3) := by decide +kernel
theorem dX3_readNumber_4 : decode cX3_readNumber 4 = .ok (.iconst 0, 1) := by decide +kernel
theorem dX3_readNumber_5 : decode cX3_readNumber 5 = .ok (.iload_n 1, 1) := by decide +kernel
theorem dX3_readNumber_6 : decode cX3_readNumber 6 = .ok (.invokevirtual 114, 3) := by decide +kernel
theorem dX3_readNumber_9 : decode cX3_readNumber 9 = .ok (.istore_n 2, 1) := by decide +kernel
theorem dX3_readNumber_10 : decode cX3_readNumber 10 = .ok (.aload_n 0, 1) := by decide +kernel
theorem dX3_readNumber_11 : decode cX3_readNumber 11 = .ok (.getfield 10, 3) := by decide +kernel
theorem dX3_readNumber_14 : decode cX3_readNumber 14 = .ok (.invokevirtual 113, 3) := by decide +kernel
theorem dX3_readNumber_17 : decode cX3_readNumber 17 = .ok (.ifCond .eq 14, 3) := by decide +kernel
theorem dX3_readNumber_20 : decode cX3_readNumber 20 = .ok (.iload_n 2, 1) := by decide +kernel
theorem dX3_readNumber_21 : decode cX3_readNumber 21 = .ok (.aload_n 0, 1) := by decide +kernel
theorem dX3_readNumber_22 : decode cX3_readNumber 22 = .ok (.getfield 10, 3) := by decide +kernel
theorem dX3_readNumber_25 : decode cX3_readNumber 25 = .ok (.invokevirtual 113, 3) := by decide +kernel
theorem dX3_readNumber_28 : decode cX3_readNumber 28 = .ok (.if_icmp .ge 5, 3) := by decide +kernel
theorem dX3_readNumber_31 : decode cX3_readNumber 31 = .ok (.iload_n 2, 1) := by decide +kernel
theorem dX3_readNumber_32 : decode cX3_readNumber 32 = .ok (.ireturn, 1) := by decide +kernel
theorem dX3_readNumber_33 : decode cX3_readNumber 33 = .ok (.aload_n 0, 1) := by decide +kernel
theorem dX3_readNumber_34 : decode cX3_readNumber 34 = .ok (.getfield 32, 3) := by decide +kernel
theorem dX3_readNumber_37 : decode cX3_readNumber 37 = .ok (.aload_n 0, 1) := by decide +kernel
theorem dX3_readNumber_38 : decode cX3_readNumber 38 = .ok (.getfield 10, 3) := by decide +kernel
theorem dX3_readNumber_41 : decode cX3_readNumber 41 = .ok (.iconst 0, 1) := by decide +kernel
theorem dX3_readNumber_42 : decode cX3_readNumber 42 = .ok (.iload_n 1, 1) := by decide +kernel
theorem dX3_readNumber_43 : decode cX3_readNumber 43 = .ok (.invokevirtual 118, 3) := by decide +kernel
theorem dX3_readNumber_46 : decode cX3_readNumber 46 = .ok (.ifCond .ne 6, 3) := by decide +kernel
theorem dX3_readNumber_49 : decode cX3_readNumber 49 = .ok (.bipush (-2), 2) := by decide +kernel
theorem dX3_readNumber_51 : decode cX3_readNumber 51 = .ok (.ireturn, 1) := by decide +kernel
theorem dX3_readNumber_52 : decode cX3_readNumber 52 = .ok (.aload_n 0, 1) := by decide +kernel
theorem dX3_readNumber_53 : decode cX3_readNumber 53 = .ok (.getfield 28, 3) := by decide +kernel
theorem dX3_readNumber_56 : decode cX3_readNumber 56 = .ok (.aload_n 0, 1) := by decide +kernel
theorem dX3_readNumber_57 : decode cX3_readNumber 57 = .ok (.getfield 32, 3) := by decide +kernel
theorem dX3_readNumber_60 : decode cX3_readNumber 60 = .ok (.invokevirtual 64, 3) := by decide +kernel
theorem dX3_readNumber_63 : decode cX3_readNumber 63 = .ok (.iconst (-1), 1) := by decide +kernel
theorem dX3_readNumber_64 : decode cX3_readNumber 64 = .ok (.ireturn, 1) := by decide +kernel
theorem dX3_parseValue_0 : decode cX3_parseValue 0 = .ok (.aload_n 0, 1) := by decide +kernel
theorem dX3_parseValue_1 : decode cX3_parseValue 1 = .ok (.getfield 10, 3) := by decide +kernel
theorem dX3_parseValue_4 : decode cX3_parseValue 4 = .ok (.iconst 0, 1) := by decide +kernel
theorem dX3_parseValue_5 : decode cX3_parseValue 5 = .ok (.invokevirtual 121, 3) := by decide +kernel
theorem dX3_parseValue_8 : decode cX3_parseValue 8 = .ok (.istore 4, 2) := by decide +kernel
theorem dX3_parseValue_10 : decode cX3_parseValue 10 = .ok (.iload_n 3, 1) := by decide +kernel
theorem dX3_parseValue_11 : decode cX3_parseValue 11 = .ok (.ifCond .eq 14, 3) := by decide +kernel
theorem dX3_parseValue_14 : decode cX3_parseValue 14 = .ok (.iload 4, 2) := by decide +kernel
theorem dX3_parseValue_16 : decode cX3_parseValue 16 = .ok (.bipush 45, 2) := by decide +kernel
theorem dX3_parseValue_18 : decode cX3_parseValue 18 = .ok (.if_icmp .ne 7, 3) := by decide +kernel
theorem dX3_parseValue_21 : decode cX3_parseValue 21 = .ok (.iconst 1, 1) := by decide +kernel
theorem dX3_parseValue_22 : decode cX3_parseValue 22 = .ok (.goto 4, 3) := by decide +kernel
theorem dX3_parseValue_25 : decode cX3_parseValue 25 = .ok (.iconst 0, 1) := by decide +kernel
theorem dX3_parseValue_26 : decode cX3_parseValue 26 = .ok (.istore 5, 2) := by decide +kernel
theorem dX3_parseValue_28 : decode cX3_parseValue 28 = .ok (.iload 5, 2) := by decide +kernel
theorem dX3_parseValue_30 : decode cX3_parseValue 30 = .ok (.ifCond .ne 10, 3) := by decide +kernel
theorem dX3_parseValue_33 : decode cX3_parseValue 33 = .ok (.iload 4, 2) := by decide +kernel
theorem dX3_parseValue_35 : decode cX3_parseValue 35 = .ok (.bipush 43, 2) := by decide +kernel
theorem dX3_parseValue_37 : decode cX3_parseValue 37 = .ok (.if_icmp .ne 7, 3) := by decide +kernel
theorem dX3_parseValue_40 : decode cX3_parseValue 40 = .ok (.iconst 1, 1) := by decide +kernel
theorem dX3_parseValue_41 : decode cX3_parseValue 41 = .ok (.goto 4, 3) := by decide +kernel
theorem dX3_parseValue_44 : decode cX3_parseValue 44 = .ok (.iconst 0, 1) := by decide +kernel
theorem dX3_parseValue_45 : decode cX3_parseValue 45 = .ok (.istore 6, 2) := by decide +kernel
theorem dX3_parseValue_47 : decode cX3_parseValue 47 = .ok (.iload 6, 2) := by decide +kernel
theorem dX3_parseValue_49 : decode cX3_parseValue 49 = .ok (.aload_n 0, 1) := by decide +kernel
theorem dX3_parseValue_50 : decode cX3_parseValue 50 = .ok (.getfield 10, 3) := by decide +kernel
theorem dX3_parseValue_53 : decode cX3_parseValue 53 = .ok (.invokevirtual 113, 3) := by decide +kernel
theorem dX3_parseValue_56 : decode cX3_parseValue 56 = .ok (.if_icmp .ge 23, 3) := by decide +kernel
theorem dX3_parseValue_59 : decode cX3_parseValue 59 = .ok (.aload_n 0, 1) := by decide +kernel
theorem dX3_parseValue_60 : decode cX3_parseValue 60 = .ok (.getfield 10, 3) := by decide +kernel
theorem dX3_parseValue_63 : decode cX3_parseValue 63 = .ok (.iload 6, 2) := by decide +kernel
theorem dX3_parseValue_65 : decode cX3_parseValue 65 = .ok (.iload_n 2, 1) := by decide +kernel
theorem dX3_parseValue_66 : decode cX3_parseValue 66 = .ok (.invokevirtual 114, 3) := by decide +kernel
theorem dX3_parseValue_69 : decode cX3_parseValue 69 = .ok (.aload_n 0, 1) := by decide +kernel
theorem dX3_parseValue_70 : decode cX3_parseValue 70 = .ok (.getfield 10, 3) := by decide +kernel
theorem dX3_parseValue_73 : decode cX3_parseValue 73 = .ok (.invokevirtual 113, 3) := by decide +kernel
theorem dX3_parseValue_76 : decode cX3_parseValue 76 = .ok (.if_icmp .ge 5, 3) := by decide +kernel
theorem dX3_parseValue_79 : decode cX3_parseValue 79 = .ok (.iconst 1, 1) := by decide +kernel
theorem dX3_parseValue_80 : decode cX3_parseValue 80 = .ok (.ireturn, 1) := by decide +kernel
theorem dX3_parseValue_81 : decode cX3_parseValue 81 = .ok (.aload_n 0, 1) := by decide +kernel
theorem dX3_parseValue_82 : decode cX3_parseValue 82 = .ok (.getfield 38, 3) := by decide +kernel
theorem dX3_parseValue_85 : decode cX3_parseValue 85 = .ok (.aload_n 0, 1) := by decide +kernel
theorem dX3_parseValue_86 : decode cX3_parseValue 86 = .ok (.getfield 10, 3) := by decide +kernel
theorem dX3_parseValue_89 : decode cX3_parseValue 89 = .ok (.iload 6, 2) := by decide +kernel
theorem dX3_parseValue_91 : decode cX3_parseValue 91 = .ok (.iload_n 2, 1) := by decide +kernel
theorem dX3_parseValue_92 : decode cX3_parseValue 92 = .ok (.invokevirtual 118, 3) := by decide +kernel
theorem dX3_parseValue_95 : decode cX3_parseValue 95 = .ok (.ifCond .eq 14, 3) := by decide +kernel
theorem dX3_parseValue_98 : decode cX3_parseValue 98 = .ok (.aload_n 0, 1) := by decide +kernel
theorem dX3_parseValue_99 : decode cX3_parseValue 99 = .ok (.iload_n 1, 1) := by decide +kernel
theorem dX3_parseValue_100 : decode cX3_parseValue 100 = .ok (.iload_n 3, 1) := by decide +kernel
theorem dX3_parseValue_101 : decode cX3_parseValue 101 = .ok (.iload 5, 2) := by decide +kernel
theorem dX3_parseValue_103 : decode cX3_parseValue 103 = .ok (.invokevirtual 122, 3) := by decide +kernel
theorem dX3_parseValue_106 : decode cX3_parseValue 106 = .ok (.ifCond .ne 5, 3) := by decide +kernel
theorem dX3_parseValue_109 : decode cX3_parseValue 109 = .ok (.iconst 2, 1) := by decide +kernel
theorem dX3_parseValue_110 : decode cX3_parseValue 110 = .ok (.ireturn, 1) := by decide +kernel
theorem dX3_parseValue_111 : decode cX3_parseValue 111 = .ok (.aload_n 0, 1) := by decide +kernel
theorem dX3_parseValue_112 : decode cX3_parseValue 112 = .ok (.iload 5, 2) := by decide +kernel
theorem dX3_parseValue_114 : decode cX3_parseValue 114 = .ok (.ifCond .eq 14, 3) := by decide +kernel
theorem dX3_parseValue_117 : decode cX3_parseValue 117 = .ok (.aload_n 0, 1) := by decide +kernel
theorem dX3_parseValue_118 : decode cX3_parseValue 118 = .ok (.getfield 38, 3) := by decide +kernel
theorem dX3_parseValue_121 : decode cX3_parseValue 121 = .ok (.invokevirtual 126, 3) := by decide +kernel
theorem dX3_parseValue_124 : decode cX3_parseValue 124 = .ok (.lneg, 1) := by decide +kernel
theorem dX3_parseValue_125 : decode cX3_parseValue 125 = .ok (.goto 10, 3) := by decide +kernel
theorem dX3_parseValue_128 : decode cX3_parseValue 128 = .ok (.aload_n 0, 1) := by decide +kernel
theorem dX3_parseValue_129 : decode cX3_parseValue 129 = .ok (.getfield 38, 3) := by decide +kernel
theorem dX3_parseValue_132 : decode cX3_parseValue 132 = .ok (.invokevirtual 126, 3) := by decide +kernel
theorem dX3_parseValue_135 : decode cX3_parseValue 135 = .ok (.putfield 41, 3) := by decide +kernel
theorem dX3_parseValue_138 : decode cX3_parseValue 138 = .ok (.iconst 0, 1) := by decide +kernel
theorem dX3_parseValue_139 : decode cX3_parseValue 139 = .ok (.ireturn, 1) := by decide +kernel
theorem dX3_smallHasWidth_0 : decode cX3_smallHasWidth 0 = .ok (.aload_n 0, 1) := by decide +kernel
theorem dX3_smallHasWidth_1 : decode cX3_smallHasWidth 1 = .ok (.getfield 38, 3) := by decide +kernel
theorem dX3_smallHasWidth_4 : decode cX3_smallHasWidth 4 = .ok (.invokevirtual 107, 3) := by decide +kernel
theorem dX3_smallHasWidth_7 : decode cX3_smallHasWidth 7 = .ok (.iload_n 2, 1) := by decide +kernel
theorem dX3_smallHasWidth_8 : decode cX3_smallHasWidth 8 = .ok (.ifCond .eq 9, 3) := by decide +kernel
theorem dX3_smallHasWidth_11 : decode cX3_smallHasWidth 11 = .ok (.iload_n 1, 1) := by decide +kernel
theorem dX3_smallHasWidth_12 : decode cX3_smallHasWidth 12 = .ok (.iconst 1, 1) := by decide +kernel
theorem dX3_smallHasWidth_13 : decode cX3_smallHasWidth 13 = .ok (.isub, 1) := by decide +kernel
theorem dX3_smallHasWidth_14 : decode cX3_smallHasWidth 14 = .ok (.goto 4, 3) := by decide +kernel
theorem dX3_smallHasWidth_17 : decode cX3_smallHasWidth 17 = .ok (.iload_n 1, 1) := by decide +kernel
theorem dX3_smallHasWidth_18 : decode cX3_smallHasWidth 18 = .ok (.if_icmp .gt 5, 3) := by decide +kernel
theorem dX3_smallHasWidth_21 : decode cX3_smallHasWidth 21 = .ok (.iconst 1, 1) := by decide +kernel
theorem dX3_smallHasWidth_22 : decode cX3_smallHasWidth 22 = .ok (.ireturn, 1) := by decide +kernel
theorem dX3_smallHasWidth_23 : decode cX3_smallHasWidth 23 = .ok (.iload_n 3, 1) := by decide +kernel
theorem dX3_smallHasWidth_24 : decode cX3_smallHasWidth 24 = .ok (.ifCond .eq 23, 3) := by decide +kernel
theorem dX3_smallHasWidth_27 : decode cX3_smallHasWidth 27 = .ok (.aload_n 0, 1) := by decide +kernel
theorem dX3_smallHasWidth_28 : decode cX3_smallHasWidth 28 = .ok (.getfield 38, 3) := by decide +kernel
theorem dX3_smallHasWidth_31 : decode cX3_smallHasWidth 31 = .ok (.invokevirtual 126, 3) := by decide +kernel
theorem dX3_smallHasWidth_34 : decode cX3_smallHasWidth 34 = .ok (.lconst 1, 1) := by decide +kernel
theorem dX3_smallHasWidth_35 : decode cX3_smallHasWidth 35 = .ok (.iload_n 1, 1) := by decide +kernel
theorem dX3_smallHasWidth_36 : decode cX3_smallHasWidth 36 = .ok (.iconst 1, 1) := by decide +kernel
theorem dX3_smallHasWidth_37 : decode cX3_smallHasWidth 37 = .ok (.isub, 1) := by decide +kernel
theorem dX3_smallHasWidth_38 : decode cX3_smallHasWidth 38 = .ok (.lshl, 1) := by decide +kernel
theorem dX3_smallHasWidth_39 : decode cX3_smallHasWidth 39 = .ok (.lcmp, 1) := by decide +kernel
theorem dX3_smallHasWidth_40 : decode cX3_smallHasWidth 40 = .ok (.ifCond .ne 7, 3) := by decide +kernel
theorem dX3_smallHasWidth_43 : decode cX3_smallHasWidth 43 = .ok (.iconst 1, 1) := by decide +kernel
theorem dX3_smallHasWidth_44 : decode cX3_smallHasWidth 44 = .ok (.goto 4, 3) := by decide +kernel
theorem dX3_smallHasWidth_47 : decode cX3_smallHasWidth 47 = .ok (.iconst 0, 1) := by decide +kernel
theorem dX3_smallHasWidth_48 : decode cX3_smallHasWidth 48 = .ok (.ireturn, 1) := by decide +kernel
theorem dX3_raiseInSpare_0 : decode cX3_raiseInSpare 0 = .ok (.iload_n 1, 1) := by decide +kernel
theorem dX3_raiseInSpare_1 : decode cX3_raiseInSpare 1 = .ok (.ifCond .ne 21, 3) := by decide +kernel
theorem dX3_raiseInSpare_4 : decode cX3_raiseInSpare 4 = .ok (.aload_n 0, 1) := by decide +kernel
theorem dX3_raiseInSpare_5 : decode cX3_raiseInSpare 5 = .ok (.getfield 32, 3) := by decide +kernel
theorem dX3_raiseInSpare_8 : decode cX3_raiseInSpare 8 = .ok (.iload_n 2, 1) := by decide +kernel
theorem dX3_raiseInSpare_9 : decode cX3_raiseInSpare 9 = .ok (.ifCond .ne 7, 3) := by decide +kernel
theorem dX3_raiseInSpare_12 : decode cX3_raiseInSpare 12 = .ok (.lconst 1, 1) := by decide +kernel
theorem dX3_raiseInSpare_13 : decode cX3_raiseInSpare 13 = .ok (.goto 4, 3) := by decide +kernel
theorem dX3_raiseInSpare_16 : decode cX3_raiseInSpare 16 = .ok (.lconst 0, 1) := by decide +kernel
theorem dX3_raiseInSpare_17 : decode cX3_raiseInSpare 17 = .ok (.invokevirtual 93, 3) := by decide +kernel
theorem dX3_raiseInSpare_20 : decode cX3_raiseInSpare 20 = .ok (.iconst 1, 1) := by decide +kernel
theorem dX3_raiseInSpare_21 : decode cX3_raiseInSpare 21 = .ok (.ireturn, 1) := by decide +kernel
theorem dX3_raiseInSpare_22 : decode cX3_raiseInSpare 22 = .ok (.aload_n 0, 1) := by decide +kernel
theorem dX3_raiseInSpare_23 : decode cX3_raiseInSpare 23 = .ok (.getfield 32, 3) := by decide +kernel
theorem dX3_raiseInSpare_26 : decode cX3_raiseInSpare 26 = .ok (.lconst 1, 1) := by decide +kernel
theorem dX3_raiseInSpare_27 : decode cX3_raiseInSpare 27 = .ok (.invokevirtual 93, 3) := by decide +kernel
theorem dX3_raiseInSpare_30 : decode cX3_raiseInSpare 30 = .ok (.bipush 31, 2) := by decide +kernel
theorem dX3_raiseInSpare_32 : decode cX3_raiseInSpare 32 = .ok (.iload_n 2, 1) := by decide +kernel
theorem dX3_raiseInSpare_33 : decode cX3_raiseInSpare 33 = .ok (.invokestatic 130, 3) := by decide +kernel
theorem dX3_raiseInSpare_36 : decode cX3_raiseInSpare 36 = .ok (.isub, 1) := by decide +kernel
theorem dX3_raiseInSpare_37 : decode cX3_raiseInSpare 37 = .ok (.istore_n 3, 1) := by decide +kernel
theorem dX3_raiseInSpare_38 : decode cX3_raiseInSpare 38 = .ok (.iload_n 3, 1) := by decide +kernel
theorem dX3_raiseInSpare_39 : decode cX3_raiseInSpare 39 = .ok (.ifCond .lt 60, 3) := by decide +kernel
theorem dX3_raiseInSpare_42 : decode cX3_raiseInSpare 42 = .ok (.aload_n 0, 1) := by decide +kernel
theorem dX3_raiseInSpare_43 : decode cX3_raiseInSpare 43 = .ok (.getfield 35, 3) := by decide +kernel
theorem dX3_raiseInSpare_46 : decode cX3_raiseInSpare 46 = .ok (.aload_n 0, 1) := by decide +kernel
theorem dX3_raiseInSpare_47 : decode cX3_raiseInSpare 47 = .ok (.getfield 32, 3) := by decide +kernel
theorem dX3_raiseInSpare_50 : decode cX3_raiseInSpare 50 = .ok (.invokevirtual 135, 3) := by decide +kernel
theorem dX3_raiseInSpare_53 : decode cX3_raiseInSpare 53 = .ok (.ifCond .ne 5, 3) := by decide +kernel
theorem dX3_raiseInSpare_56 : decode cX3_raiseInSpare 56 = .ok (.iconst 0, 1) := by decide +kernel
theorem dX3_raiseInSpare_57 : decode cX3_raiseInSpare 57 = .ok (.ireturn, 1) := by decide +kernel
theorem dX3_raiseInSpare_58 : decode cX3_raiseInSpare 58 = .ok (.aload_n 0, 1) := by decide +kernel
theorem dX3_raiseInSpare_59 : decode cX3_raiseInSpare 59 = .ok (.getfield 32, 3) := by decide +kernel
theorem dX3_raiseInSpare_62 : decode cX3_raiseInSpare 62 = .ok (.aload_n 0, 1) := by decide +kernel
theorem dX3_raiseInSpare_63 : decode cX3_raiseInSpare 63 = .ok (.getfield 35, 3) := by decide +kernel
theorem dX3_raiseInSpare_66 : decode cX3_raiseInSpare 66 = .ok (.invokevirtual 64, 3) := by decide +kernel
theorem dX3_raiseInSpare_69 : decode cX3_raiseInSpare 69 = .ok (.iload_n 2, 1) := by decide +kernel
theorem dX3_raiseInSpare_70 : decode cX3_raiseInSpare 70 = .ok (.iload_n 3, 1) := by decide +kernel
theorem dX3_raiseInSpare_71 : decode cX3_raiseInSpare 71 = .ok (.iushr, 1) := by decide +kernel
theorem dX3_raiseInSpare_72 : decode cX3_raiseInSpare 72 = .ok (.iconst 1, 1) := by decide +kernel
theorem dX3_raiseInSpare_73 : decode cX3_raiseInSpare 73 = .ok (.iand, 1) := by decide +kernel
theorem dX3_raiseInSpare_74 : decode cX3_raiseInSpare 74 = .ok (.iconst 1, 1) := by decide +kernel
theorem dX3_raiseInSpare_75 : decode cX3_raiseInSpare 75 = .ok (.if_icmp .ne 18, 3) := by decide +kernel
theorem dX3_raiseInSpare_78 : decode cX3_raiseInSpare 78 = .ok (.aload_n 0, 1) := by decide +kernel
theorem dX3_raiseInSpare_79 : decode cX3_raiseInSpare 79 = .ok (.getfield 32, 3) := by decide +kernel
theorem dX3_raiseInSpare_82 : decode cX3_raiseInSpare 82 = .ok (.iload_n 1, 1) := by decide +kernel
theorem dX3_raiseInSpare_83 : decode cX3_raiseInSpare 83 = .ok (.i2l, 1) := by decide +kernel
theorem dX3_raiseInSpare_84 : decode cX3_raiseInSpare 84 = .ok (.lconst 0, 1) := by decide +kernel
theorem dX3_raiseInSpare_85 : decode cX3_raiseInSpare 85 = .ok (.invokevirtual 139, 3) := by decide +kernel
theorem dX3_raiseInSpare_88 : decode cX3_raiseInSpare 88 = .ok (.ifCond .ne 5, 3) := by decide +kernel
theorem dX3_raiseInSpare_91 : decode cX3_raiseInSpare 91 = .ok (.iconst 0, 1) := by decide +kernel
theorem dX3_raiseInSpare_92 : decode cX3_raiseInSpare 92 = .ok (.ireturn, 1) := by decide +kernel
theorem dX3_raiseInSpare_93 : decode cX3_raiseInSpare 93 = .ok (.iinc 3 (-1), 3) := by decide +kernel
theorem dX3_raiseInSpare_96 : decode cX3_raiseInSpare 96 = .ok (.goto (-58), 3) := by decide +kernel
theorem dX3_raiseInSpare_99 : decode cX3_raiseInSpare 99 = .ok (.iconst 1, 1) := by decide +kernel
theorem dX3_raiseInSpare_100 : decode cX3_raiseInSpare 100 = .ok (.ireturn, 1) := by decide +kernel
theorem dX3_isRadix_0 : decode cX3_isRadix 0 = .ok (.iload_n 0, 1) := by decide +kernel
theorem dX3_isRadix_1 : decode cX3_isRadix 1 = .ok (.iconst 2, 1) := by decide +kernel
theorem dX3_isRadix_2 : decode cX3_isRadix 2 = .ok (.if_icmp .lt 13, 3) := by decide +kernel
theorem dX3_isRadix_5 : decode cX3_isRadix 5 = .ok (.iload_n 0, 1) := by decide +kernel
theorem dX3_isRadix_6 : decode cX3_isRadix 6 = .ok (.bipush 36, 2) := by decide +kernel
theorem dX3_isRadix_8 : decode cX3_isRadix 8 = .ok (.if_icmp .gt 7, 3) := by decide +kernel
theorem dX3_isRadix_11 : decode cX3_isRadix 11 = .ok (.iconst 1, 1) := by decide +kernel
theorem dX3_isRadix_12 : decode cX3_isRadix 12 = .ok (.goto 4, 3) := by decide +kernel
theorem dX3_isRadix_15 : decode cX3_isRadix 15 = .ok (.iconst 0, 1) := by decide +kernel
theorem dX3_isRadix_16 : decode cX3_isRadix 16 = .ok (.ireturn, 1) := by decide +kernel
theorem dX3_isWidth_0 : decode cX3_isWidth 0 = .ok (.iload_n 0, 1) := by decide +kernel
theorem dX3_isWidth_1 : decode cX3_isWidth 1 = .ok (.bipush 32, 2) := by decide +kernel
theorem dX3_isWidth_3 : decode cX3_isWidth 3 = .ok (.if_icmp .eq 9, 3) := by decide +kernel
theorem dX3_isWidth_6 : decode cX3_isWidth 6 = .ok (.iload_n 0, 1) := by decide +kernel
theorem dX3_isWidth_7 : decode cX3_isWidth 7 = .ok (.bipush 64, 2) := by decide +kernel
theorem dX3_isWidth_9 : decode cX3_isWidth 9 = .ok (.if_icmp .ne 7, 3) := by decide +kernel
theorem dX3_isWidth_12 : decode cX3_isWidth 12 = .ok (.iconst 1, 1) := by decide +kernel
theorem dX3_isWidth_13 : decode cX3_isWidth 13 = .ok (.goto 4, 3) := by decide +kernel
theorem dX3_isWidth_16 : decode cX3_isWidth 16 = .ok (.iconst 0, 1) := by decide +kernel
theorem dX3_isWidth_17 : decode cX3_isWidth 17 = .ok (.ireturn, 1) := by decide +kernel
theorem dX3_digitOf_0 : decode cX3_digitOf 0 = .ok (.iload_n 0, 1) := by decide +kernel
theorem dX3_digitOf_1 : decode cX3_digitOf 1 = .ok (.bipush 48, 2) := by decide +kernel
theorem dX3_digitOf_3 : decode cX3_digitOf 3 = .ok (.if_icmp .lt 14, 3) := by decide +kernel
theorem dX3_digitOf_6 : decode cX3_digitOf 6 = .ok (.iload_n 0, 1) := by decide +kernel
theorem dX3_digitOf_7 : decode cX3_digitOf 7 = .ok (.bipush 57, 2) := by decide +kernel
theorem dX3_digitOf_9 : decode cX3_digitOf 9 = .ok (.if_icmp .gt 8, 3) := by decide +kernel
theorem dX3_digitOf_12 : decode cX3_digitOf 12 = .ok (.iload_n 0, 1) := by decide +kernel
theorem dX3_digitOf_13 : decode cX3_digitOf 13 = .ok (.bipush 48, 2) := by decide +kernel
theorem dX3_digitOf_15 : decode cX3_digitOf 15 = .ok (.isub, 1) := by decide +kernel
theorem dX3_digitOf_16 : decode cX3_digitOf 16 = .ok (.ireturn, 1) := by decide +kernel
theorem dX3_digitOf_17 : decode cX3_digitOf 17 = .ok (.iload_n 0, 1) := by decide +kernel
theorem dX3_digitOf_18 : decode cX3_digitOf 18 = .ok (.bipush 97, 2) := by decide +kernel
theorem dX3_digitOf_20 : decode cX3_digitOf 20 = .ok (.if_icmp .lt 17, 3) := by decide +kernel
theorem dX3_digitOf_23 : decode cX3_digitOf 23 = .ok (.iload_n 0, 1) := by decide +kernel
theorem dX3_digitOf_24 : decode cX3_digitOf 24 = .ok (.bipush 122, 2) := by decide +kernel
theorem dX3_digitOf_26 : decode cX3_digitOf 26 = .ok (.if_icmp .gt 11, 3) := by decide +kernel
theorem dX3_digitOf_29 : decode cX3_digitOf 29 = .ok (.iload_n 0, 1) := by decide +kernel
theorem dX3_digitOf_30 : decode cX3_digitOf 30 = .ok (.bipush 97, 2) := by decide +kernel
theorem dX3_digitOf_32 : decode cX3_digitOf 32 = .ok (.isub, 1) := by decide +kernel
theorem dX3_digitOf_33 : decode cX3_digitOf 33 = .ok (.bipush 10, 2) := by decide +kernel
theorem dX3_digitOf_35 : decode cX3_digitOf 35 = .ok (.iadd, 1) := by decide +kernel
theorem dX3_digitOf_36 : decode cX3_digitOf 36 = .ok (.ireturn, 1) := by decide +kernel
theorem dX3_digitOf_37 : decode cX3_digitOf 37 = .ok (.iload_n 0, 1) := by decide +kernel
theorem dX3_digitOf_38 : decode cX3_digitOf 38 = .ok (.bipush 65, 2) := by decide +kernel
theorem dX3_digitOf_40 : decode cX3_digitOf 40 = .ok (.if_icmp .lt 17, 3) := by decide +kernel
theorem dX3_digitOf_43 : decode cX3_digitOf 43 = .ok (.iload_n 0, 1) := by decide +kernel
theorem dX3_digitOf_44 : decode cX3_digitOf 44 = .ok (.bipush 90, 2) := by decide +kernel
theorem dX3_digitOf_46 : decode cX3_digitOf 46 = .ok (.if_icmp .gt 11, 3) := by decide +kernel
theorem dX3_digitOf_49 : decode cX3_digitOf 49 = .ok (.iload_n 0, 1) := by decide +kernel
theorem dX3_digitOf_50 : decode cX3_digitOf 50 = .ok (.bipush 65, 2) := by decide +kernel
theorem dX3_digitOf_52 : decode cX3_digitOf 52 = .ok (.isub, 1) := by decide +kernel
theorem dX3_digitOf_53 : decode cX3_digitOf 53 = .ok (.bipush 10, 2) := by decide +kernel
theorem dX3_digitOf_55 : decode cX3_digitOf 55 = .ok (.iadd, 1) := by decide +kernel
theorem dX3_digitOf_56 : decode cX3_digitOf 56 = .ok (.ireturn, 1) := by decide +kernel
theorem dX3_digitOf_57 : decode cX3_digitOf 57 = .ok (.bipush 36, 2) := by decide +kernel
theorem dX3_digitOf_59 : decode cX3_digitOf 59 = .ok (.ireturn, 1) := by decide +kernel
theorem dX3_codeOf_0 : decode cX3_codeOf 0 = .ok (.iload_n 0, 1) := by decide +kernel
theorem dX3_codeOf_1 : decode cX3_codeOf 1 = .ok (.bipush 10, 2) := by decide +kernel
theorem dX3_codeOf_3 : decode cX3_codeOf 3 = .ok (.if_icmp .ge 10, 3) := by decide +kernel
theorem dX3_codeOf_6 : decode cX3_codeOf 6 = .ok (.bipush 48, 2) := by decide +kernel
theorem dX3_codeOf_8 : decode cX3_codeOf 8 = .ok (.iload_n 0, 1) := by decide +kernel
theorem dX3_codeOf_9 : decode cX3_codeOf 9 = .ok (.iadd, 1) := by decide +kernel
theorem dX3_codeOf_10 : decode cX3_codeOf 10 = .ok (.goto 10, 3) := by decide +kernel
theorem dX3_codeOf_13 : decode cX3_codeOf 13 = .ok (.bipush 97, 2) := by decide +kernel
theorem dX3_codeOf_15 : decode cX3_codeOf 15 = .ok (.iload_n 0, 1) := by decide +kernel
theorem dX3_codeOf_16 : decode cX3_codeOf 16 = .ok (.iadd, 1) := by decide +kernel
theorem dX3_codeOf_17 : decode cX3_codeOf 17 = .ok (.bipush 10, 2) := by decide +kernel
theorem dX3_codeOf_19 : decode cX3_codeOf 19 = .ok (.isub, 1) := by decide +kernel
theorem dX3_codeOf_20 : decode cX3_codeOf 20 = .ok (.ireturn, 1) := by decide +kernel
theorem dX4_init_0 : decode cX4_init 0 = .ok (.aload_n 0, 1) := by decide +kernel
theorem dX4_init_1 : decode cX4_init 1 = .ok (.invokespecial 1, 3) := by decide +kernel
theorem dX4_init_4 : decode cX4_init 4 = .ok (.aload_n 0, 1) := by decide +kernel
theorem dX4_init_5 : decode cX4_init 5 = .ok (.ldc 7, 2) := by decide +kernel
theorem dX4_init_7 : decode cX4_init 7 = .ok (.newarray .char, 2) := by decide +kernel
theorem dX4_init_9 : decode cX4_init 9 = .ok (.putfield 8, 3) := by decide +kernel
theorem dX4_init_12 : decode cX4_init 12 = .ok (.aload_n 0, 1) := by decide +kernel
theorem dX4_init_13 : decode cX4_init 13 = .ok (.ldc 7, 2) := by decide +kernel
theorem dX4_init_15 : decode cX4_init 15 = .ok (.newarray .char, 2) := by decide +kernel
theorem dX4_init_17 : decode cX4_init 17 = .ok (.putfield 14, 3) := by decide +kernel
theorem dX4_init_20 : decode cX4_init 20 = .ok (.aload_n 0, 1) := by decide +kernel
theorem dX4_init_21 : decode cX4_init 21 = .ok (.sipush 4096, 3) := by decide +kernel
theorem dX4_init_24 : decode cX4_init 24 = .ok (.newarray .int, 2) := by decide +kernel
theorem dX4_init_26 : decode cX4_init 26 = .ok (.putfield 17, 3) := by decide +kernel
theorem dX4_init_29 : decode cX4_init 29 = .ok (.aload_n 0, 1) := by decide +kernel
theorem dX4_init_30 : decode cX4_init 30 = .ok (.sipush 4096, 3) := by decide +kernel
theorem dX4_init_33 : decode cX4_init 33 = .ok (.newarray .int, 2) := by decide +kernel
theorem dX4_init_35 : decode cX4_init 35 = .ok (.putfield 21, 3) := by decide +kernel
theorem dX4_init_38 : decode cX4_init 38 = .ok (.return_, 1) := by decide +kernel
theorem dX4_isRadix_0 : decode cX4_isRadix 0 = .ok (.iload_n 0, 1) := by decide +kernel
theorem dX4_isRadix_1 : decode cX4_isRadix 1 = .ok (.iconst 1, 1) := by decide +kernel
theorem dX4_isRadix_2 : decode cX4_isRadix 2 = .ok (.if_icmp .le 13, 3) := by decide +kernel
theorem dX4_isRadix_5 : decode cX4_isRadix 5 = .ok (.iload_n 0, 1) := by decide +kernel
theorem dX4_isRadix_6 : decode cX4_isRadix 6 = .ok (.bipush 37, 2) := by decide +kernel
theorem dX4_isRadix_8 : decode cX4_isRadix 8 = .ok (.if_icmp .ge 7, 3) := by decide +kernel
theorem dX4_isRadix_11 : decode cX4_isRadix 11 = .ok (.iconst 1, 1) := by decide +kernel
theorem dX4_isRadix_12 : decode cX4_isRadix 12 = .ok (.goto 4, 3) := by decide +kernel
theorem dX4_isRadix_15 : decode cX4_isRadix 15 = .ok (.iconst 0, 1) := by decide +kernel
theorem dX4_isRadix_16 : decode cX4_isRadix 16 = .ok (.ireturn, 1) := by decide +kernel
theorem dX4_isWidth_0 : decode cX4_isWidth 0 = .ok (.iload_n 0, 1) := by decide +kernel
theorem dX4_isWidth_1 : decode cX4_isWidth 1 = .ok (.bipush 32, 2) := by decide +kernel
theorem dX4_isWidth_3 : decode cX4_isWidth 3 = .ok (.if_icmp .eq 9, 3) := by decide +kernel
theorem dX4_isWidth_6 : decode cX4_isWidth 6 = .ok (.iload_n 0, 1) := by decide +kernel
theorem dX4_isWidth_7 : decode cX4_isWidth 7 = .ok (.bipush 64, 2) := by decide +kernel
theorem dX4_isWidth_9 : decode cX4_isWidth 9 = .ok (.if_icmp .ne 7, 3) := by decide +kernel
theorem dX4_isWidth_12 : decode cX4_isWidth 12 = .ok (.iconst 1, 1) := by decide +kernel
theorem dX4_isWidth_13 : decode cX4_isWidth 13 = .ok (.goto 4, 3) := by decide +kernel
theorem dX4_isWidth_16 : decode cX4_isWidth 16 = .ok (.iconst 0, 1) := by decide +kernel
theorem dX4_isWidth_17 : decode cX4_isWidth 17 = .ok (.ireturn, 1) := by decide +kernel
theorem dX4_digit_0 : decode cX4_digit 0 = .ok (.iload_n 0, 1) := by decide +kernel
theorem dX4_digit_1 : decode cX4_digit 1 = .ok (.bipush 48, 2) := by decide +kernel
theorem dX4_digit_3 : decode cX4_digit 3 = .ok (.if_icmp .lt 16, 3) := by decide +kernel
theorem dX4_digit_6 : decode cX4_digit 6 = .ok (.iload_n 0, 1) := by decide +kernel
theorem dX4_digit_7 : decode cX4_digit 7 = .ok (.bipush 57, 2) := by decide +kernel
theorem dX4_digit_9 : decode cX4_digit 9 = .ok (.if_icmp .gt 10, 3) := by decide +kernel
theorem dX4_digit_12 : decode cX4_digit 12 = .ok (.iload_n 0, 1) := by decide +kernel
theorem dX4_digit_13 : decode cX4_digit 13 = .ok (.bipush 48, 2) := by decide +kernel
theorem dX4_digit_15 : decode cX4_digit 15 = .ok (.isub, 1) := by decide +kernel
theorem dX4_digit_16 : decode cX4_digit 16 = .ok (.goto 49, 3) := by decide +kernel
theorem dX4_digit_19 : decode cX4_digit 19 = .ok (.iload_n 0, 1) := by decide +kernel
theorem dX4_digit_20 : decode cX4_digit 20 = .ok (.bipush 97, 2) := by decide +kernel
theorem dX4_digit_22 : decode cX4_digit 22 = .ok (.if_icmp .lt 19, 3) := by decide +kernel
theorem dX4_digit_25 : decode cX4_digit 25 = .ok (.iload_n 0, 1) := by decide +kernel
theorem dX4_digit_26 : decode cX4_digit 26 = .ok (.bipush 122, 2) := by decide +kernel
theorem dX4_digit_28 : decode cX4_digit 28 = .ok (.if_icmp .gt 13, 3) := by decide +kernel
theorem dX4_digit_31 : decode cX4_digit 31 = .ok (.iload_n 0, 1) := by decide +kernel
theorem dX4_digit_32 : decode cX4_digit 32 = .ok (.bipush 97, 2) := by decide +kernel
theorem dX4_digit_34 : decode cX4_digit 34 = .ok (.isub, 1) := by decide +kernel
theorem dX4_digit_35 : decode cX4_digit 35 = .ok (.bipush 10, 2) := by decide +kernel
theorem dX4_digit_37 : decode cX4_digit 37 = .ok (.iadd, 1) := by decide +kernel
theorem dX4_digit_38 : decode cX4_digit 38 = .ok (.goto 27, 3) := by decide +kernel
theorem dX4_digit_41 : decode cX4_digit 41 = .ok (.iload_n 0, 1) := by decide +kernel
theorem dX4_digit_42 : decode cX4_digit 42 = .ok (.bipush 65, 2) := by decide +kernel
theorem dX4_digit_44 : decode cX4_digit 44 = .ok (.if_icmp .lt 19, 3) := by decide +kernel
theorem dX4_digit_47 : decode cX4_digit 47 = .ok (.iload_n 0, 1) := by decide +kernel
theorem dX4_digit_48 : decode cX4_digit 48 = .ok (.bipush 90, 2) := by decide +kernel
theorem dX4_digit_50 : decode cX4_digit 50 = .ok (.if_icmp .gt 13, 3) := by decide +kernel
theorem dX4_digit_53 : decode cX4_digit 53 = .ok (.iload_n 0, 1) := by decide +kernel
theorem dX4_digit_54 : decode cX4_digit 54 = .ok (.bipush 65, 2) := by decide +kernel
theorem dX4_digit_56 : decode cX4_digit 56 = .ok (.isub, 1) := by decide +kernel
theorem dX4_digit_57 : decode cX4_digit 57 = .ok (.bipush 10, 2) := by decide +kernel
theorem dX4_digit_59 : decode cX4_digit 59 = .ok (.iadd, 1) := by decide +kernel
theorem dX4_digit_60 : decode cX4_digit 60 = .ok (.goto 5, 3) := by decide +kernel
theorem dX4_digit_63 : decode cX4_digit 63 = .ok (.bipush 99, 2) := by decide +kernel
theorem dX4_digit_65 : decode cX4_digit 65 = .ok (.ireturn, 1) := by decide +kernel
theorem dX4_character_0 : decode cX4_character 0 = .ok (.iload_n 0, 1) := by decide +kernel
theorem dX4_character_1 : decode cX4_character 1 = .ok (.bipush 10, 2) := by decide +kernel
theorem dX4_character_3 : decode cX4_character 3 = .ok (.if_icmp .ge 10, 3) := by decide +kernel
theorem dX4_character_6 : decode cX4_character 6 = .ok (.bipush 48, 2) := by decide +kernel
theorem dX4_character_8 : decode cX4_character 8 = .ok (.iload_n 0, 1) := by decide +kernel
theorem dX4_character_9 : decode cX4_character 9 = .ok (.iadd, 1) := by decide +kernel
theorem dX4_character_10 : decode cX4_character 10 = .ok (.goto 10, 3) := by decide +kernel
theorem dX4_character_13 : decode cX4_character 13 = .ok (.bipush 97, 2) := by decide +kernel
theorem dX4_character_15 : decode cX4_character 15 = .ok (.iload_n 0, 1) := by decide +kernel
theorem dX4_character_16 : decode cX4_character 16 = .ok (.iadd, 1) := by decide +kernel
theorem dX4_character_17 : decode cX4_character 17 = .ok (.bipush 10, 2) := by decide +kernel
theorem dX4_character_19 : decode cX4_character 19 = .ok (.isub, 1) := by decide +kernel
theorem dX4_character_20 : decode cX4_character 20 = .ok (.i2c, 1) := by decide +kernel
theorem dX4_character_21 : decode cX4_character 21 = .ok (.ireturn, 1) := by decide +kernel
theorem dX4_timesAdd_0 : decode cX4_timesAdd 0 = .ok (.iload_n 2, 1) := by decide +kernel
theorem dX4_timesAdd_1 : decode cX4_timesAdd 1 = .ok (.i2l, 1) := by decide +kernel
theorem dX4_timesAdd_2 : decode cX4_timesAdd 2 = .ok (.lstore_n 3, 1) := by decide +kernel
theorem dX4_timesAdd_3 : decode cX4_timesAdd 3 = .ok (.iconst 0, 1) := by decide +kernel
theorem dX4_timesAdd_4 : decode cX4_timesAdd 4 = .ok (.istore 5, 2) := by decide +kernel
theorem dX4_timesAdd_6 : decode cX4_timesAdd 6 = .ok (.iload 5, 2) := by decide +kernel
theorem dX4_timesAdd_8 : decode cX4_timesAdd 8 = .ok (.aload_n 0, 1) := by decide +kernel
theorem dX4_timesAdd_9 : decode cX4_timesAdd 9 = .ok (.getfield 28, 3) := by decide +kernel
theorem dX4_timesAdd_12 : decode cX4_timesAdd 12 = .ok (.if_icmp .ge 41, 3) := by decide +kernel
theorem dX4_timesAdd_15 : decode cX4_timesAdd 15 = .ok (.lload_n 3, 1) := by decide +kernel
theorem dX4_timesAdd_16 : decode cX4_timesAdd 16 = .ok (.aload_n 0, 1) := by decide +kernel
theorem dX4_timesAdd_17 : decode cX4_timesAdd 17 = .ok (.getfield 21, 3) := by decide +kernel
theorem dX4_timesAdd_20 : decode cX4_timesAdd 20 = .ok (.iload 5, 2) := by decide +kernel
theorem dX4_timesAdd_22 : decode cX4_timesAdd 22 = .ok (.iaload, 1) := by decide +kernel
theorem dX4_timesAdd_23 : decode cX4_timesAdd 23 = .ok (.i2l, 1) := by decide +kernel
theorem dX4_timesAdd_24 : decode cX4_timesAdd 24 = .ok (.iload_n 1, 1) := by decide +kernel
theorem dX4_timesAdd_25 : decode cX4_timesAdd 25 = .ok (.i2l, 1) := by decide +kernel
theorem dX4_timesAdd_26 : decode cX4_timesAdd 26 = .ok (.lmul, 1) := by decide +kernel
theorem dX4_timesAdd_27 : decode cX4_timesAdd 27 = .ok (.ladd, 1) := by decide +kernel
theorem dX4_timesAdd_28 : decode cX4_timesAdd 28 = .ok (.lstore_n 3, 1) := by decide +kernel
theorem dX4_timesAdd_29 : decode cX4_timesAdd 29 = .ok (.aload_n 0, 1) := by decide +kernel
theorem dX4_timesAdd_30 : decode cX4_timesAdd 30 = .ok (.getfield 21, 3) := by decide +kernel
theorem dX4_timesAdd_33 : decode cX4_timesAdd 33 = .ok (.iload 5, 2) := by decide +kernel
theorem dX4_timesAdd_35 : decode cX4_timesAdd 35 = .ok (.lload_n 3, 1) := by decide +kernel
theorem dX4_timesAdd_36 : decode cX4_timesAdd 36 = .ok (.ldc2_w 31, 3) := by decide +kernel
theorem dX4_timesAdd_39 : decode cX4_timesAdd 39 = .ok (.land, 1) := by decide +kernel
theorem dX4_timesAdd_40 : decode cX4_timesAdd 40 = .ok (.l2i, 1) := by decide +kernel
theorem dX4_timesAdd_41 : decode cX4_timesAdd 41 = .ok (.iastore, 1) := by decide +kernel
theorem dX4_timesAdd_42 : decode cX4_timesAdd 42 = .ok (.lload_n 3, 1) := by decide +kernel
theorem dX4_timesAdd_43 : decode cX4_timesAdd 43 = .ok (.bipush 16, 2) := by decide +kernel
theorem dX4_timesAdd_45 : decode cX4_timesAdd 45 = .ok (.lshr, 1) := by decide +kernel
theorem dX4_timesAdd_46 : decode cX4_timesAdd 46 = .ok (.lstore_n 3, 1) := by decide +kernel
theorem dX4_timesAdd_47 : decode cX4_timesAdd 47 = .ok (.iinc 5 1, 3) := by decide +kernel
theorem dX4_timesAdd_50 : decode cX4_timesAdd 50 = .ok (.goto (-44), 3) := by decide +kernel
theorem dX4_timesAdd_53 : decode cX4_timesAdd 53 = .ok (.lload_n 3, 1) := by decide +kernel
theorem dX4_timesAdd_54 : decode cX4_timesAdd 54 = .ok (.lconst 0, 1) := by decide +kernel
theorem dX4_timesAdd_55 : decode cX4_timesAdd 55 = .ok (.lcmp, 1) := by decide +kernel
theorem dX4_timesAdd_56 : decode cX4_timesAdd 56 = .ok (.ifCond .le 48, 3) := by decide +kernel
theorem dX4_timesAdd_59 : decode cX4_timesAdd 59 = .ok (.aload_n 0, 1) := by decide +kernel
theorem dX4_timesAdd_60 : decode cX4_timesAdd 60 = .ok (.getfield 28, 3) := by decide +kernel
theorem dX4_timesAdd_63 : decode cX4_timesAdd 63 = .ok (.sipush 4096, 3) := by decide +kernel
theorem dX4_timesAdd_66 : decode cX4_timesAdd 66 = .ok (.if_icmp .ne 5, 3) := by decide +kernel
theorem dX4_timesAdd_69 : decode cX4_timesAdd 69 = .ok (.iconst 0, 1) := by decide +kernel
theorem dX4_timesAdd_70 : decode cX4_timesAdd 70 = .ok (.ireturn, 1) := by decide +kernel
theorem dX4_timesAdd_71 : decode cX4_timesAdd 71 = .ok (.aload_n 0, 1) := by decide +kernel
theorem dX4_timesAdd_72 : decode cX4_timesAdd 72 = .ok (.getfield 21, 3) := by decide +kernel
theorem dX4_timesAdd_75 : decode cX4_timesAdd 75 = .ok (.aload_n 0, 1) := by decide +kernel
theorem dX4_timesAdd_76 : decode cX4_timesAdd 76 = .ok (.getfield 28, 3) := by decide +kernel
theorem dX4_timesAdd_79 : decode cX4_timesAdd 79 = .ok (.lload_n 3, 1) := by decide +kernel
theorem dX4_timesAdd_80 : decode cX4_timesAdd 80 = .ok (.ldc2_w 31, 3) := by decide +kernel
theorem dX4_timesAdd_83 : decode cX4_timesAdd 83 = .ok (.land, 1) := by decide +kernel
theorem dX4_timesAdd_84 : decode cX4_timesAdd 84 = .ok (.l2i, 1) := by decide +kernel
theorem dX4_timesAdd_85 : decode cX4_timesAdd 85 = .ok (.iastore, 1) := by decide +kernel
theorem dX4_timesAdd_86 : decode cX4_timesAdd 86 = .ok (.aload_n 0, 1) := by decide +kernel
theorem dX4_timesAdd_87 : decode cX4_timesAdd 87 = .ok (.dup, 1) := by decide +kernel
theorem dX4_timesAdd_88 : decode cX4_timesAdd 88 = .ok (.getfield 28, 3) := by decide +kernel
theorem dX4_timesAdd_91 : decode cX4_timesAdd 91 = .ok (.iconst 1, 1) := by decide +kernel
theorem dX4_timesAdd_92 : decode cX4_timesAdd 92 = .ok (.iadd, 1) := by decide +kernel
theorem dX4_timesAdd_93 : decode cX4_timesAdd 93 = .ok (.putfield 28, 3) := by decide +kernel
theorem dX4_timesAdd_96 : decode cX4_timesAdd 96 = .ok (.lload_n 3, 1) := by decide +kernel
theorem dX4_timesAdd_97 : decode cX4_timesAdd 97 = .ok (.bipush 16, 2) := by decide +kernel
theorem dX4_timesAdd_99 : decode cX4_timesAdd 99 = .ok (.lshr, 1) := by decide +kernel
theorem dX4_timesAdd_100 : decode cX4_timesAdd 100 = .ok (.lstore_n 3, 1) := by decide +kernel
theorem dX4_timesAdd_101 : decode cX4_timesAdd 101 = .ok (.goto (-48), 3) := by decide +kernel
theorem dX4_timesAdd_104 : decode cX4_timesAdd 104 = .ok (.iconst 1, 1) := by decide +kernel
theorem dX4_timesAdd_105 : decode cX4_timesAdd 105 = .ok (.ireturn, 1) := by decide +kernel
theorem dX4_divide_0 : decode cX4_divide 0 = .ok (.iconst 0, 1) := by decide +kernel
theorem dX4_divide_1 : decode cX4_divide 1 = .ok (.istore_n 2, 1) := by decide +kernel
theorem dX4_divide_2 : decode cX4_divide 2 = .ok (.aload_n 0, 1) := by decide +kernel
theorem dX4_divide_3 : decode cX4_divide 3 = .ok (.getfield 28, 3) := by decide +kernel
theorem dX4_divide_6 : decode cX4_divide 6 = .ok (.iconst 1, 1) := by decide +kernel
theorem dX4_divide_7 : decode cX4_divide 7 = .ok (.isub, 1) := by decide +kernel
theorem dX4_divide_8 : decode cX4_divide 8 = .ok (.istore_n 3, 1) := by decide +kernel
theorem dX4_divide_9 : decode cX4_divide 9 = .ok (.iload_n 3, 1) := by decide +kernel
theorem dX4_divide_10 : decode cX4_divide 10 = .ok (.ifCond .lt 37, 3) := by decide +kernel
theorem dX4_divide_13 : decode cX4_divide 13 = .ok (.iload_n 2, 1) := by decide +kernel
theorem dX4_divide_14 : decode cX4_divide 14 = .ok (.bipush 16, 2) := by decide +kernel
theorem dX4_divide_16 : decode cX4_divide 16 = .ok (.ishl, 1) := by decide +kernel
theorem dX4_divide_17 : decode cX4_divide 17 = .ok (.aload_n 0, 1) := by decide +kernel
theorem dX4_divide_18 : decode cX4_divide 18 = .ok (.getfield 21, 3) := by decide +kernel
theorem dX4_divide_21 : decode cX4_divide 21 = .ok (.iload_n 3, 1) := by decide +kernel
theorem dX4_divide_22 : decode cX4_divide 22 = .ok (.iaload, 1) := by decide +kernel
theorem dX4_divide_23 : decode cX4_divide 23 = .ok (.ior, 1) := by decide +kernel
theorem dX4_divide_24 : decode cX4_divide 24 = .ok (.istore 4, 2) := by decide +kernel
theorem dX4_divide_26 : decode cX4_divide 26 = .ok (.aload_n 0, 1) := by decide +kernel
theorem dX4_divide_27 : decode cX4_divide 27 = .ok (.getfield 21, 3) := by decide +kernel
theorem dX4_divide_30 : decode cX4_divide 30 = .ok (.iload_n 3, 1) := by decide +kernel
theorem dX4_divide_31 : decode cX4_divide 31 = .ok (.iload 4, 2) := by decide +kernel
theorem dX4_divide_33 : decode cX4_divide 33 = .ok (.iload_n 1, 1) := by decide +kernel
theorem dX4_divide_34 : decode cX4_divide 34 = .ok (.idiv, 1) := by decide +kernel
theorem dX4_divide_35 : decode cX4_divide 35 = .ok (.iastore, 1) := by decide +kernel
theorem dX4_divide_36 : decode cX4_divide 36 = .ok (.iload 4, 2) := by decide +kernel
theorem dX4_divide_38 : decode cX4_divide 38 = .ok (.iload_n 1, 1) := by decide +kernel
theorem dX4_divide_39 : decode cX4_divide 39 = .ok (.irem, 1) := by decide +kernel
theorem dX4_divide_40 : decode cX4_divide 40 = .ok (.istore_n 2, 1) := by decide +kernel
theorem dX4_divide_41 : decode cX4_divide 41 = .ok (.iinc 3 (-1), 3) := by decide +kernel
theorem dX4_divide_44 : decode cX4_divide 44 = .ok (.goto (-35), 3) := by decide +kernel
theorem dX4_divide_47 : decode cX4_divide 47 = .ok (.aload_n 0, 1) := by decide +kernel
theorem dX4_divide_48 : decode cX4_divide 48 = .ok (.getfield 28, 3) := by decide +kernel
theorem dX4_divide_51 : decode cX4_divide 51 = .ok (.ifCond .le 30, 3) := by decide +kernel
theorem dX4_divide_54 : decode cX4_divide 54 = .ok (.aload_n 0, 1) := by decide +kernel
theorem dX4_divide_55 : decode cX4_divide 55 = .ok (.getfield 21, 3) := by decide +kernel
theorem dX4_divide_58 : decode cX4_divide 58 = .ok (.aload_n 0, 1) := by decide +kernel
theorem dX4_divide_59 : decode cX4_divide 59 = .ok (.getfield 28, 3) := by decide +kernel
theorem dX4_divide_62 : decode cX4_divide 62 = .ok (.iconst 1, 1) := by decide +kernel
theorem dX4_divide_63 : decode cX4_divide 63 = .ok (.isub, 1) := by decide +kernel
theorem dX4_divide_64 : decode cX4_divide 64 = .ok (.iaload, 1) := by decide +kernel
theorem dX4_divide_65 : decode cX4_divide 65 = .ok (.ifCond .ne 16, 3) := by decide +kernel
theorem dX4_divide_68 : decode cX4_divide 68 = .ok (.aload_n 0, 1) := by decide +kernel
theorem dX4_divide_69 : decode cX4_divide 69 = .ok (.dup, 1) := by decide +kernel
theorem dX4_divide_70 : decode cX4_divide 70 = .ok (.getfield 28, 3) := by decide +kernel
theorem dX4_divide_73 : decode cX4_divide 73 = .ok (.iconst 1, 1) := by decide +kernel
theorem dX4_divide_74 : decode cX4_divide 74 = .ok (.isub, 1) := by decide +kernel
theorem dX4_divide_75 : decode cX4_divide 75 = .ok (.putfield 28, 3) := by decide +kernel
theorem dX4_divide_78 : decode cX4_divide 78 = .ok (.goto (-31), 3) := by decide +kernel
theorem dX4_divide_81 : decode cX4_divide 81 = .ok (.iload_n 2, 1) := by decide +kernel
theorem dX4_divide_82 : decode cX4_divide 82 = .ok (.ireturn, 1) := by decide +kernel
theorem dX4_take_0 : decode cX4_take 0 = .ok (.aload_n 0, 1) := by decide +kernel
theorem dX4_take_1 : decode cX4_take 1 = .ok (.aload_n 0, 1) := by decide +kernel
theorem dX4_take_2 : decode cX4_take 2 = .ok (.getfield 33, 3) := by decide +kernel
theorem dX4_take_5 : decode cX4_take 5 = .ok (.putfield 28, 3) := by decide +kernel
theorem dX4_take_8 : decode cX4_take 8 = .ok (.iconst 0, 1) := by decide +kernel
theorem dX4_take_9 : decode cX4_take 9 = .ok (.istore_n 1, 1) := by decide +kernel
theorem dX4_take_10 : decode cX4_take 10 = .ok (.iload_n 1, 1) := by decide +kernel
theorem dX4_take_11 : decode cX4_take 11 = .ok (.aload_n 0, 1) := by decide +kernel
theorem dX4_take_12 : decode cX4_take 12 = .ok (.getfield 33, 3) := by decide +kernel
theorem dX4_take_15 : decode cX4_take 15 = .ok (.if_icmp .ge 21, 3) := by decide +kernel
theorem dX4_take_18 : decode cX4_take 18 = .ok (.aload_n 0, 1) := by decide +kernel
theorem dX4_take_19 : decode cX4_take 19 = .ok (.getfield 21, 3) := by decide +kernel
theorem dX4_take_22 : decode cX4_take 22 = .ok (.iload_n 1, 1) := by decide +kernel
theorem dX4_take_23 : decode cX4_take 23 = .ok (.aload_n 0, 1) := by decide +kernel
theorem dX4_take_24 : decode cX4_take 24 = .ok (.getfield 17, 3) := by decide +kernel
theorem dX4_take_27 : decode cX4_take 27 = .ok (.iload_n 1, 1) := by decide +kernel
theorem dX4_take_28 : decode cX4_take 28 = .ok (.iaload, 1) := by decide +kernel
theorem dX4_take_29 : decode cX4_take 29 = .ok (.iastore, 1) := by decide +kernel
theorem dX4_take_30 : decode cX4_take 30 = .ok (.iinc 1 1, 3) := by decide +kernel
theorem dX4_take_33 : decode cX4_take 33 = .ok (.goto (-23), 3) := by decide +kernel
theorem dX4_take_36 : decode cX4_take 36 = .ok (.return_, 1) := by decide +kernel
theorem dX4_give_0 : decode cX4_give 0 = .ok (.aload_n 0, 1) := by decide +kernel
theorem dX4_give_1 : decode cX4_give 1 = .ok (.getfield 28, 3) := by decide +kernel
theorem dX4_give_4 : decode cX4_give 4 = .ok (.ifCond .le 30, 3) := by decide +kernel
theorem dX4_give_7 : decode cX4_give 7 = .ok (.aload_n 0, 1) := by decide +kernel
theorem dX4_give_8 : decode cX4_give 8 = .ok (.getfield 21, 3) := by decide +kernel
theorem dX4_give_11 : decode cX4_give 11 = .ok (.aload_n 0, 1) := by decide +kernel
theorem dX4_give_12 : decode cX4_give 12 = .ok (.getfield 28, 3) := by decide +kernel
theorem dX4_give_15 : decode cX4_give 15 = .ok (.iconst 1, 1) := by decide +kernel
theorem dX4_give_16 : decode cX4_give 16 = .ok (.isub, 1) := by decide +kernel
theorem dX4_give_17 : decode cX4_give 17 = .ok (.iaload, 1) := by decide +kernel
theorem dX4_give_18 : decode cX4_give 18 = .ok (.ifCond .ne 16, 3) := by decide +kernel
theorem dX4_give_21 : decode cX4_give 21 = .ok (.aload_n 0, 1) := by decide +kernel
theorem dX4_give_22 : decode cX4_give 22 = .ok (.dup, 1) := by decide +kernel
theorem dX4_give_23 : decode cX4_give 23 = .ok (.getfield 28, 3) := by decide +kernel
theorem dX4_give_26 : decode cX4_give 26 = .ok (.iconst 1, 1) := by decide +kernel
theorem dX4_give_27 : decode cX4_give 27 = .ok (.isub, 1) := by decide +kernel
theorem dX4_give_28 : decode cX4_give 28 = .ok (.putfield 28, 3) := by decide +kernel
theorem dX4_give_31 : decode cX4_give 31 = .ok (.goto (-31), 3) := by decide +kernel
theorem dX4_give_34 : decode cX4_give 34 = .ok (.aload_n 0, 1) := by decide +kernel
theorem dX4_give_35 : decode cX4_give 35 = .ok (.aload_n 0, 1) := by decide +kernel
theorem dX4_give_36 : decode cX4_give 36 = .ok (.getfield 28, 3) := by decide +kernel
theorem dX4_give_39 : decode cX4_give 39 = .ok (.putfield 33, 3) := by decide +kernel
theorem dX4_give_42 : decode cX4_give 42 = .ok (.iconst 0, 1) := by decide +kernel
theorem dX4_give_43 : decode cX4_give 43 = .ok (.istore_n 1, 1) := by decide +kernel
theorem dX4_give_44 : decode cX4_give 44 = .ok (.iload_n 1, 1) := by decide +kernel
theorem dX4_give_45 : decode cX4_give 45 = .ok (.aload_n 0, 1) := by decide +kernel
theorem dX4_give_46 : decode cX4_give 46 = .ok (.getfield 33, 3) := by decide +kernel
theorem dX4_give_49 : decode cX4_give 49 = .ok (.if_icmp .ge 21, 3) := by decide +kernel
theorem dX4_give_52 : decode cX4_give 52 = .ok (.aload_n 0, 1) := by decide +kernel
theorem dX4_give_53 : decode cX4_give 53 = .ok (.getfield 17, 3) := by decide +kernel
theorem dX4_give_56 : decode cX4_give 56 = .ok (.iload_n 1, 1) := by decide +kernel
theorem dX4_give_57 : decode cX4_give 57 = .ok (.aload_n 0, 1) := by decide +kernel
theorem dX4_give_58 : decode cX4_give 58 = .ok (.getfield 21, 3) := by decide +kernel
theorem dX4_give_61 : decode cX4_give 61 = .ok (.iload_n 1, 1) := by decide +kernel
theorem dX4_give_62 : decode cX4_give 62 = .ok (.iaload, 1) := by decide +kernel
theorem dX4_give_63 : decode cX4_give 63 = .ok (.iastore, 1) := by decide +kernel
theorem dX4_give_64 : decode cX4_give 64 = .ok (.iinc 1 1, 3) := by decide +kernel
theorem dX4_give_67 : decode cX4_give 67 = .ok (.goto (-23), 3) := by decide +kernel
theorem dX4_give_70 : decode cX4_give 70 = .ok (.return_, 1) := by decide +kernel
theorem dX4_type_0 : decode cX4_type 0 = .ok (.aload_n 0, 1) := by decide +kernel
theorem dX4_type_1 : decode cX4_type 1 = .ok (.iconst 0, 1) := by decide +kernel
theorem dX4_type_2 : decode cX4_type 2 = .ok (.putfield 24, 3) := by decide +kernel
theorem dX4_type_5 : decode cX4_type 5 = .ok (.iconst 0, 1) := by decide +kernel
theorem dX4_type_6 : decode cX4_type 6 = .ok (.istore_n 3, 1) := by decide +kernel
theorem dX4_type_7 : decode cX4_type 7 = .ok (.iconst 1, 1) := by decide +kernel
theorem dX4_type_8 : decode cX4_type 8 = .ok (.istore 4, 2) := by decide +kernel
theorem dX4_type_10 : decode cX4_type 10 = .ok (.iconst 0, 1) := by decide +kernel
theorem dX4_type_11 : decode cX4_type 11 = .ok (.istore 5, 2) := by decide +kernel
theorem dX4_type_13 : decode cX4_type 13 = .ok (.iload 5, 2) := by decide +kernel
theorem dX4_type_15 : decode cX4_type 15 = .ok (.bipush 8, 2) := by decide +kernel
theorem dX4_type_17 : decode cX4_type 17 = .ok (.if_icmp .ge 55, 3) := by decide +kernel
theorem dX4_type_20 : decode cX4_type 20 = .ok (.lload_n 1, 1) := by decide +kernel
theorem dX4_type_21 : decode cX4_type 21 = .ok (.bipush 8, 2) := by decide +kernel
theorem dX4_type_23 : decode cX4_type 23 = .ok (.iload 5, 2) := by decide +kernel
theorem dX4_type_25 : decode cX4_type 25 = .ok (.imul, 1) := by decide +kernel
theorem dX4_type_26 : decode cX4_type 26 = .ok (.lshr, 1) := by decide +kernel
theorem dX4_type_27 : decode cX4_type 27 = .ok (.ldc2_w 36, 3) := by decide +kernel
theorem dX4_type_30 : decode cX4_type 30 = .ok (.land, 1) := by decide +kernel
theorem dX4_type_31 : decode cX4_type 31 = .ok (.l2i, 1) := by decide +kernel
theorem dX4_type_32 : decode cX4_type 32 = .ok (.istore 6, 2) := by decide +kernel
theorem dX4_type_34 : decode cX4_type 34 = .ok (.iload_n 3, 1) := by decide +kernel
theorem dX4_type_35 : decode cX4_type 35 = .ok (.iload 6, 2) := by decide +kernel
theorem dX4_type_37 : decode cX4_type 37 = .ok (.ifCond .le 7, 3) := by decide +kernel
theorem dX4_type_40 : decode cX4_type 40 = .ok (.iconst 1, 1) := by decide +kernel
theorem dX4_type_41 : decode cX4_type 41 = .ok (.goto 4, 3) := by decide +kernel
theorem dX4_type_44 : decode cX4_type 44 = .ok (.iconst 0, 1) := by decide +kernel
theorem dX4_type_45 : decode cX4_type 45 = .ok (.iadd, 1) := by decide +kernel
theorem dX4_type_46 : decode cX4_type 46 = .ok (.istore_n 3, 1) := by decide +kernel
theorem dX4_type_47 : decode cX4_type 47 = .ok (.iload 4, 2) := by decide +kernel
theorem dX4_type_49 : decode cX4_type 49 = .ok (.ifCond .eq 14, 3) := by decide +kernel
theorem dX4_type_52 : decode cX4_type 52 = .ok (.iload 6, 2) := by decide +kernel
theorem dX4_type_54 : decode cX4_type 54 = .ok (.bipush 127, 2) := by decide +kernel
theorem dX4_type_56 : decode cX4_type 56 = .ok (.if_icmp .ge 7, 3) := by decide +kernel
theorem dX4_type_59 : decode cX4_type 59 = .ok (.iconst 1, 1) := by decide +kernel
theorem dX4_type_60 : decode cX4_type 60 = .ok (.goto 4, 3) := by decide +kernel
theorem dX4_type_63 : decode cX4_type 63 = .ok (.iconst 0, 1) := by decide +kernel
theorem dX4_type_64 : decode cX4_type 64 = .ok (.istore 4, 2) := by decide +kernel
theorem dX4_type_66 : decode cX4_type 66 = .ok (.iinc 5 1, 3) := by decide +kernel
theorem dX4_type_69 : decode cX4_type 69 = .ok (.goto (-56), 3) := by decide +kernel
theorem dX4_type_72 : decode cX4_type 72 = .ok (.iload 4, 2) := by decide +kernel
theorem dX4_type_74 : decode cX4_type 74 = .ok (.ifCond .eq 14, 3) := by decide +kernel
theorem dX4_type_77 : decode cX4_type 77 = .ok (.aload_n 0, 1) := by decide +kernel
theorem dX4_type_78 : decode cX4_type 78 = .ok (.getfield 38, 3) := by decide +kernel
theorem dX4_type_81 : decode cX4_type 81 = .ok (.iload_n 3, 1) := by decide +kernel
theorem dX4_type_82 : decode cX4_type 82 = .ok (.iadd, 1) := by decide +kernel
theorem dX4_type_83 : decode cX4_type 83 = .ok (.ldc 7, 2) := by decide +kernel
theorem dX4_type_85 : decode cX4_type 85 = .ok (.if_icmp .le 5, 3) := by decide +kernel
theorem dX4_type_88 : decode cX4_type 88 = .ok (.iconst 0, 1) := by decide +kernel
theorem dX4_type_89 : decode cX4_type 89 = .ok (.ireturn, 1) := by decide +kernel
theorem dX4_type_90 : decode cX4_type 90 = .ok (.bipush 7, 2) := by decide +kernel
theorem dX4_type_92 : decode cX4_type 92 = .ok (.istore 5, 2) := by decide +kernel
theorem dX4_type_94 : decode cX4_type 94 = .ok (.iload 5, 2) := by decide +kernel
theorem dX4_type_96 : decode cX4_type 96 = .ok (.ifCond .lt 53, 3) := by decide +kernel
theorem dX4_type_99 : decode cX4_type 99 = .ok (.lload_n 1, 1) := by decide +kernel
theorem dX4_type_100 : decode cX4_type 100 = .ok (.bipush 8, 2) := by decide +kernel
theorem dX4_type_102 : decode cX4_type 102 = .ok (.iload 5, 2) := by decide +kernel
theorem dX4_type_104 : decode cX4_type 104 = .ok (.imul, 1) := by decide +kernel
theorem dX4_type_105 : decode cX4_type 105 = .ok (.lshr, 1) := by decide +kernel
theorem dX4_type_106 : decode cX4_type 106 = .ok (.ldc2_w 36, 3) := by decide +kernel
theorem dX4_type_109 : decode cX4_type 109 = .ok (.land, 1) := by decide +kernel
theorem dX4_type_110 : decode cX4_type 110 = .ok (.l2i, 1) := by decide +kernel
theorem dX4_type_111 : decode cX4_type 111 = .ok (.istore 6, 2) := by decide +kernel
theorem dX4_type_113 : decode cX4_type 113 = .ok (.iload 6, 2) := by decide +kernel
theorem dX4_type_115 : decode cX4_type 115 = .ok (.ifCond .ne 6, 3) := by decide +kernel
theorem dX4_type_118 : decode cX4_type 118 = .ok (.goto 25, 3) := by decide +kernel
theorem dX4_type_121 : decode cX4_type 121 = .ok (.aload_n 0, 1) := by decide +kernel
theorem dX4_type_122 : decode cX4_type 122 = .ok (.getfield 8, 3) := by decide +kernel
theorem dX4_type_125 : decode cX4_type 125 = .ok (.aload_n 0, 1) := by decide +kernel
theorem dX4_type_126 : decode cX4_type 126 = .ok (.getfield 38, 3) := by decide +kernel
theorem dX4_type_129 : decode cX4_type 129 = .ok (.iload 6, 2) := by decide +kernel
theorem dX4_type_131 : decode cX4_type 131 = .ok (.i2c, 1) := by decide +kernel
theorem dX4_type_132 : decode cX4_type 132 = .ok (.castore, 1) := by decide +kernel
theorem dX4_type_133 : decode cX4_type 133 = .ok (.aload_n 0, 1) := by decide +kernel
theorem dX4_type_134 : decode cX4_type 134 = .ok (.dup, 1) := by decide +kernel
theorem dX4_type_135 : decode cX4_type 135 = .ok (.getfield 38, 3) := by decide +kernel
theorem dX4_type_138 : decode cX4_type 138 = .ok (.iconst 1, 1) := by decide +kernel
theorem dX4_type_139 : decode cX4_type 139 = .ok (.iadd, 1) := by decide +kernel
theorem dX4_type_140 : decode cX4_type 140 = .ok (.putfield 38, 3) := by decide +kernel
theorem dX4_type_143 : decode cX4_type 143 = .ok (.iinc 5 (-1), 3) := by decide +kernel
theorem dX4_type_146 : decode cX4_type 146 = .ok (.goto (-52), 3) := by decide +kernel
theorem dX4_type_149 : decode cX4_type 149 = .ok (.iconst 1, 1) := by decide +kernel
theorem dX4_type_150 : decode cX4_type 150 = .ok (.ireturn, 1) := by decide +kernel
theorem dX4_repeat_0 : decode cX4_repeat 0 = .ok (.aload_n 0, 1) := by decide +kernel
theorem dX4_repeat_1 : decode cX4_repeat 1 = .ok (.iconst 0, 1) := by decide +kernel
theorem dX4_repeat_2 : decode cX4_repeat 2 = .ok (.putfield 24, 3) := by decide +kernel
theorem dX4_repeat_5 : decode cX4_repeat 5 = .ok (.iload_n 1, 1) := by decide +kernel
theorem dX4_repeat_6 : decode cX4_repeat 6 = .ok (.iconst 1, 1) := by decide +kernel
theorem dX4_repeat_7 : decode cX4_repeat 7 = .ok (.if_icmp .lt 32, 3) := by decide +kernel
theorem dX4_repeat_10 : decode cX4_repeat 10 = .ok (.iload_n 1, 1) := by decide +kernel
theorem dX4_repeat_11 : decode cX4_repeat 11 = .ok (.aload_n 0, 1) := by decide +kernel
theorem dX4_repeat_12 : decode cX4_repeat 12 = .ok (.getfield 38, 3) := by decide +kernel
theorem dX4_repeat_15 : decode cX4_repeat 15 = .ok (.if_icmp .gt 24, 3) := by decide +kernel
theorem dX4_repeat_18 : decode cX4_repeat 18 = .ok (.iload_n 2, 1) := by decide +kernel
theorem dX4_repeat_19 : decode cX4_repeat 19 = .ok (.ifCond .lt 20, 3) := by decide +kernel
theorem dX4_repeat_22 : decode cX4_repeat 22 = .ok (.iload_n 1, 1) := by decide +kernel
theorem dX4_repeat_23 : decode cX4_repeat 23 = .ok (.i2l, 1) := by decide +kernel
theorem dX4_repeat_24 : decode cX4_repeat 24 = .ok (.iload_n 2, 1) := by decide +kernel
theorem dX4_repeat_25 : decode cX4_repeat 25 = .ok (.i2l, 1) := by decide +kernel
theorem dX4_repeat_26 : decode cX4_repeat 26 = .ok (.lmul, 1) := by decide +kernel
theorem dX4_repeat_27 : decode cX4_repeat 27 = .ok (.ldc 7, 2) := by decide +kernel
theorem dX4_repeat_29 : decode cX4_repeat 29 = .ok (.aload_n 0, 1) := by decide +kernel
theorem dX4_repeat_30 : decode cX4_repeat 30 = .ok (.getfield 38, 3) := by decide +kernel
theorem dX4_repeat_33 : decode cX4_repeat 33 = .ok (.isub, 1) := by decide +kernel
theorem dX4_repeat_34 : decode cX4_repeat 34 = .ok (.i2l, 1) := by decide +kernel
theorem dX4_repeat_35 : decode cX4_repeat 35 = .ok (.lcmp, 1) := by decide +kernel
theorem dX4_repeat_36 : decode cX4_repeat 36 = .ok (.ifCond .le 5, 3) := by decide +kernel
theorem dX4_repeat_39 : decode cX4_repeat 39 = .ok (.iconst 0, 1) := by decide +kernel
theorem dX4_repeat_40 : decode cX4_repeat 40 = .ok (.ireturn, 1) := by decide +kernel
theorem dX4_repeat_41 : decode cX4_repeat 41 = .ok (.iconst 0, 1) := by decide +kernel
theorem dX4_repeat_42 : decode cX4_repeat 42 = .ok (.istore_n 3, 1) := by decide +kernel
theorem dX4_repeat_43 : decode cX4_repeat 43 = .ok (.iload_n 3, 1) := by decide +kernel
theorem dX4_repeat_44 : decode cX4_repeat 44 = .ok (.iload_n 1, 1) := by decide +kernel
theorem dX4_repeat_45 : decode cX4_repeat 45 = .ok (.iload_n 2, 1) := by decide +kernel
theorem dX4_repeat_46 : decode cX4_repeat 46 = .ok (.imul, 1) := by decide +kernel
theorem dX4_repeat_47 : decode cX4_repeat 47 = .ok (.if_icmp .ge 39, 3) := by decide +kernel
theorem dX4_repeat_50 : decode cX4_repeat 50 = .ok (.aload_n 0, 1) := by decide +kernel
theorem dX4_repeat_51 : decode cX4_repeat 51 = .ok (.getfield 8, 3) := by decide +kernel
theorem dX4_repeat_54 : decode cX4_repeat 54 = .ok (.aload_n 0, 1) := by decide +kernel
theorem dX4_repeat_55 : decode cX4_repeat 55 = .ok (.getfield 38, 3) := by decide +kernel
theorem dX4_repeat_58 : decode cX4_repeat 58 = .ok (.aload_n 0, 1) := by decide +kernel
theorem dX4_repeat_59 : decode cX4_repeat 59 = .ok (.getfield 8, 3) := by decide +kernel
theorem dX4_repeat_62 : decode cX4_repeat 62 = .ok (.aload_n 0, 1) := by decide +kernel
theorem dX4_repeat_63 : decode cX4_repeat 63 = .ok (.getfield 38, 3) := by decide +kernel
theorem dX4_repeat_66 : decode cX4_repeat 66 = .ok (.iload_n 1, 1) := by decide +kernel
theorem dX4_repeat_67 : decode cX4_repeat 67 = .ok (.isub, 1) := by decide +kernel
theorem dX4_repeat_68 : decode cX4_repeat 68 = .ok (.caload, 1) := by decide +kernel
theorem dX4_repeat_69 : decode cX4_repeat 69 = .ok (.castore, 1) := by decide +kernel
theorem dX4_repeat_70 : decode cX4_repeat 70 = .ok (.aload_n 0, 1) := by decide +kernel
theorem dX4_repeat_71 : decode cX4_repeat 71 = .ok (.dup, 1) := by decide +kernel
theorem dX4_repeat_72 : decode cX4_repeat 72 = .ok (.getfield 38, 3) := by decide +kernel
theorem dX4_repeat_75 : decode cX4_repeat 75 = .ok (.iconst 1, 1) := by decide +kernel
theorem dX4_repeat_76 : decode cX4_repeat 76 = .ok (.iadd, 1) := by decide +kernel
theorem dX4_repeat_77 : decode cX4_repeat 77 = .ok (.putfield 38, 3) := by decide +kernel
theorem dX4_repeat_80 : decode cX4_repeat 80 = .ok (.iinc 3 1, 3) := by decide +kernel
theorem dX4_repeat_83 : decode cX4_repeat 83 = .ok (.goto (-40), 3) := by decide +kernel
theorem dX4_repeat_86 : decode cX4_repeat 86 = .ok (.iconst 1, 1) := by decide +kernel
theorem dX4_repeat_87 : decode cX4_repeat 87 = .ok (.ireturn, 1) := by decide +kernel
theorem dX4_read_0 : decode cX4_read 0 = .ok (.aload_n 0, 1) := by decide +kernel
theorem dX4_read_1 : decode cX4_read 1 = .ok (.iconst 0, 1) := by decide +kernel
theorem dX4_read_2 : decode cX4_read 2 = .ok (.putfield 24, 3) := by decide +kernel
theorem dX4_read_5 : decode cX4_read 5 = .ok (.iload_n 1, 1) := by decide +kernel
theorem dX4_read_6 : decode cX4_read 6 = .ok (.invokestatic 41, 3) := by decide +kernel
theorem dX4_read_9 : decode cX4_read 9 = .ok (.ifCond .ne 6, 3) := by decide +kernel
theorem dX4_read_12 : decode cX4_read 12 = .ok (.bipush (-3), 2) := by decide +kernel
theorem dX4_read_14 : decode cX4_read 14 = .ok (.ireturn, 1) := by decide +kernel
theorem dX4_read_15 : decode cX4_read 15 = .ok (.aload_n 0, 1) := by decide +kernel
theorem dX4_read_16 : decode cX4_read 16 = .ok (.getfield 38, 3) := by decide +kernel
theorem dX4_read_19 : decode cX4_read 19 = .ok (.istore_n 2, 1) := by decide +kernel
theorem dX4_read_20 : decode cX4_read 20 = .ok (.aload_n 0, 1) := by decide +kernel
theorem dX4_read_21 : decode cX4_read 21 = .ok (.iconst 0, 1) := by decide +kernel
theorem dX4_read_22 : decode cX4_read 22 = .ok (.putfield 38, 3) := by decide +kernel
theorem dX4_read_25 : decode cX4_read 25 = .ok (.aload_n 0, 1) := by decide +kernel
theorem dX4_read_26 : decode cX4_read 26 = .ok (.iconst 0, 1) := by decide +kernel
theorem dX4_read_27 : decode cX4_read 27 = .ok (.putfield 28, 3) := by decide +kernel
theorem dX4_read_30 : decode cX4_read 30 = .ok (.iconst 0, 1) := by decide +kernel
theorem dX4_read_31 : decode cX4_read 31 = .ok (.istore_n 3, 1) := by decide +kernel
theorem dX4_read_32 : decode cX4_read 32 = .ok (.iload_n 3, 1) := by decide +kernel
theorem dX4_read_33 : decode cX4_read 33 = .ok (.iload_n 2, 1) := by decide +kernel
theorem dX4_read_34 : decode cX4_read 34 = .ok (.if_icmp .ge 24, 3) := by decide +kernel
theorem dX4_read_37 : decode cX4_read 37 = .ok (.aload_n 0, 1) := by decide +kernel
theorem dX4_read_38 : decode cX4_read 38 = .ok (.getfield 8, 3) := by decide +kernel
theorem dX4_read_41 : decode cX4_read 41 = .ok (.iload_n 3, 1) := by decide +kernel
theorem dX4_read_42 : decode cX4_read 42 = .ok (.caload, 1) := by decide +kernel
theorem dX4_read_43 : decode cX4_read 43 = .ok (.invokestatic 45, 3) := by decide +kernel
theorem dX4_read_46 : decode cX4_read 46 = .ok (.iload_n 1, 1) := by decide +kernel
theorem dX4_read_47 : decode cX4_read 47 = .ok (.if_icmp .lt 5, 3) := by decide +kernel
theorem dX4_read_50 : decode cX4_read 50 = .ok (.iload_n 3, 1) := by decide +kernel
theorem dX4_read_51 : decode cX4_read 51 = .ok (.ireturn, 1) := by decide +kernel
theorem dX4_read_52 : decode cX4_read 52 = .ok (.iinc 3 1, 3) := by decide +kernel
theorem dX4_read_55 : decode cX4_read 55 = .ok (.goto (-23), 3) := by decide +kernel
theorem dX4_read_58 : decode cX4_read 58 = .ok (.iload_n 2, 1) := by decide +kernel
theorem dX4_read_59 : decode cX4_read 59 = .ok (.ifCond .ne 5, 3) := by decide +kernel
theorem dX4_read_62 : decode cX4_read 62 = .ok (.iconst 0, 1) := by decide +kernel
theorem dX4_read_63 : decode cX4_read 63 = .ok (.ireturn, 1) := by decide +kernel
theorem dX4_read_64 : decode cX4_read 64 = .ok (.iconst 0, 1) := by decide +kernel
theorem dX4_read_65 : decode cX4_read 65 = .ok (.istore_n 3, 1) := by decide +kernel
theorem dX4_read_66 : decode cX4_read 66 = .ok (.iload_n 3, 1) := by decide +kernel
theorem dX4_read_67 : decode cX4_read 67 = .ok (.iload_n 2, 1) := by decide +kernel
theorem dX4_read_68 : decode cX4_read 68 = .ok (.if_icmp .ge 29, 3) := by decide +kernel
theorem dX4_read_71 : decode cX4_read 71 = .ok (.aload_n 0, 1) := by decide +kernel
theorem dX4_read_72 : decode cX4_read 72 = .ok (.iload_n 1, 1) := by decide +kernel
theorem dX4_read_73 : decode cX4_read 73 = .ok (.aload_n 0, 1) := by decide +kernel
theorem dX4_read_74 : decode cX4_read 74 = .ok (.getfield 8, 3) := by decide +kernel
theorem dX4_read_77 : decode cX4_read 77 = .ok (.iload_n 3, 1) := by decide +kernel
theorem dX4_read_78 : decode cX4_read 78 = .ok (.caload, 1) := by decide +kernel
theorem dX4_read_79 : decode cX4_read 79 = .ok (.invokestatic 45, 3) := by decide +kernel
theorem dX4_read_82 : decode cX4_read 82 = .ok (.invokevirtual 49, 3) := by decide +kernel
theorem dX4_read_85 : decode cX4_read 85 = .ok (.ifCond .ne 6, 3) := by decide +kernel
theorem dX4_read_88 : decode cX4_read 88 = .ok (.bipush (-2), 2) := by decide +kernel
theorem dX4_read_90 : decode cX4_read 90 = .ok (.ireturn, 1) := by decide +kernel
theorem dX4_read_91 : decode cX4_read 91 = .ok (.iinc 3 1, 3) := by decide +kernel
theorem dX4_read_94 : decode cX4_read 94 = .ok (.goto (-28), 3) := by decide +kernel
theorem dX4_read_97 : decode cX4_read 97 = .ok (.aload_n 0, 1) := by decide +kernel
theorem dX4_read_98 : decode cX4_read 98 = .ok (.invokevirtual 53, 3) := by decide +kernel
theorem dX4_read_101 : decode cX4_read 101 = .ok (.iconst (-1), 1) := by decide +kernel
theorem dX4_read_102 : decode cX4_read 102 = .ok (.ireturn, 1) := by decide +kernel
theorem dX4_turnOut_0 : decode cX4_turnOut 0 = .ok (.iconst 0, 1) := by decide +kernel
theorem dX4_turnOut_1 : decode cX4_turnOut 1 = .ok (.istore_n 1, 1) := by decide +kernel
theorem dX4_turnOut_2 : decode cX4_turnOut 2 = .ok (.aload_n 0, 1) := by decide +kernel
theorem dX4_turnOut_3 : decode cX4_turnOut 3 = .ok (.getfield 56, 3) := by decide +kernel
theorem dX4_turnOut_6 : decode cX4_turnOut 6 = .ok (.iconst 1, 1) := by decide +kernel
theorem dX4_turnOut_7 : decode cX4_turnOut 7 = .ok (.isub, 1) := by decide +kernel
theorem dX4_turnOut_8 : decode cX4_turnOut 8 = .ok (.istore_n 2, 1) := by decide +kernel
theorem dX4_turnOut_9 : decode cX4_turnOut 9 = .ok (.iload_n 1, 1) := by decide +kernel
theorem dX4_turnOut_10 : decode cX4_turnOut 10 = .ok (.iload_n 2, 1) := by decide +kernel
theorem dX4_turnOut_11 : decode cX4_turnOut 11 = .ok (.if_icmp .ge 38, 3) := by decide +kernel
theorem dX4_turnOut_14 : decode cX4_turnOut 14 = .ok (.aload_n 0, 1) := by decide +kernel
theorem dX4_turnOut_15 : decode cX4_turnOut 15 = .ok (.getfield 14, 3) := by decide +kernel
theorem dX4_turnOut_18 : decode cX4_turnOut 18 = .ok (.iload_n 1, 1) := by decide +kernel
theorem dX4_turnOut_19 : decode cX4_turnOut 19 = .ok (.caload, 1) := by decide +kernel
theorem dX4_turnOut_20 : decode cX4_turnOut 20 = .ok (.istore_n 3, 1) := by decide +kernel
theorem dX4_turnOut_21 : decode cX4_turnOut 21 = .ok (.aload_n 0, 1) := by decide +kernel
theorem dX4_turnOut_22 : decode cX4_turnOut 22 = .ok (.getfield 14, 3) := by decide +kernel
theorem dX4_turnOut_25 : decode cX4_turnOut 25 = .ok (.iload_n 1, 1) := by decide +kernel
theorem dX4_turnOut_26 : decode cX4_turnOut 26 = .ok (.aload_n 0, 1) := by decide +kernel
theorem dX4_turnOut_27 : decode cX4_turnOut 27 = .ok (.getfield 14, 3) := by decide +kernel
theorem dX4_turnOut_30 : decode cX4_turnOut 30 = .ok (.iload_n 2, 1) := by decide +kernel
theorem dX4_turnOut_31 : decode cX4_turnOut 31 = .ok (.caload, 1) := by decide +kernel
theorem dX4_turnOut_32 : decode cX4_turnOut 32 = .ok (.castore, 1) := by decide +kernel
theorem dX4_turnOut_33 : decode cX4_turnOut 33 = .ok (.aload_n 0, 1) := by decide +kernel
theorem dX4_turnOut_34 : decode cX4_turnOut 34 = .ok (.getfield 14, 3) := by decide +kernel
theorem dX4_turnOut_37 : decode cX4_turnOut 37 = .ok (.iload_n 2, 1) := by decide +kernel
theorem dX4_turnOut_38 : decode cX4_turnOut 38 = .ok (.iload_n 3, 1) := by decide +kernel
theorem dX4_turnOut_39 : decode cX4_turnOut 39 = .ok (.castore, 1) := by decide +kernel
theorem dX4_turnOut_40 : decode cX4_turnOut 40 = .ok (.iinc 1 1, 3) := by decide +kernel
theorem dX4_turnOut_43 : decode cX4_turnOut 43 = .ok (.iinc 2 (-1), 3) := by decide +kernel
theorem dX4_turnOut_46 : decode cX4_turnOut 46 = .ok (.goto (-37), 3) := by decide +kernel
theorem dX4_turnOut_49 : decode cX4_turnOut 49 = .ok (.return_, 1) := by decide +kernel
theorem dX4_write_0 : decode cX4_write 0 = .ok (.aload_n 0, 1) := by decide +kernel
theorem dX4_write_1 : decode cX4_write 1 = .ok (.iconst 0, 1) := by decide +kernel
theorem dX4_write_2 : decode cX4_write 2 = .ok (.putfield 24, 3) := by decide +kernel
theorem dX4_write_5 : decode cX4_write 5 = .ok (.iload_n 1, 1) := by decide +kernel
theorem dX4_write_6 : decode cX4_write 6 = .ok (.invokestatic 41, 3) := by decide +kernel
theorem dX4_write_9 : decode cX4_write 9 = .ok (.ifCond .ne 5, 3) := by decide +kernel
theorem dX4_write_12 : decode cX4_write 12 = .ok (.iconst (-1), 1) := by decide +kernel
theorem dX4_write_13 : decode cX4_write 13 = .ok (.ireturn, 1) := by decide +kernel
theorem dX4_write_14 : decode cX4_write 14 = .ok (.aload_n 0, 1) := by decide +kernel
theorem dX4_write_15 : decode cX4_write 15 = .ok (.invokevirtual 59, 3) := by decide +kernel
theorem dX4_write_18 : decode cX4_write 18 = .ok (.aload_n 0, 1) := by decide +kernel
theorem dX4_write_19 : decode cX4_write 19 = .ok (.iconst 0, 1) := by decide +kernel
theorem dX4_write_20 : decode cX4_write 20 = .ok (.putfield 56, 3) := by decide +kernel
theorem dX4_write_23 : decode cX4_write 23 = .ok (.iconst 1, 1) := by decide +kernel
theorem dX4_write_24 : decode cX4_write 24 = .ok (.istore_n 2, 1) := by decide +kernel
theorem dX4_write_25 : decode cX4_write 25 = .ok (.iload_n 1, 1) := by decide +kernel
theorem dX4_write_26 : decode cX4_write 26 = .ok (.istore_n 3, 1) := by decide +kernel
theorem dX4_write_27 : decode cX4_write 27 = .ok (.iload_n 3, 1) := by decide +kernel
theorem dX4_write_28 : decode cX4_write 28 = .ok (.iload_n 1, 1) := by decide +kernel
theorem dX4_write_29 : decode cX4_write 29 = .ok (.imul, 1) := by decide +kernel
theorem dX4_write_30 : decode cX4_write 30 = .ok (.ldc 62, 2) := by decide +kernel
theorem dX4_write_32 : decode cX4_write 32 = .ok (.if_icmp .ge 13, 3) := by decide +kernel
theorem dX4_write_35 : decode cX4_write 35 = .ok (.iload_n 3, 1) := by decide +kernel
theorem dX4_write_36 : decode cX4_write 36 = .ok (.iload_n 1, 1) := by decide +kernel
theorem dX4_write_37 : decode cX4_write 37 = .ok (.imul, 1) := by decide +kernel
theorem dX4_write_38 : decode cX4_write 38 = .ok (.istore_n 3, 1) := by decide +kernel
theorem dX4_write_39 : decode cX4_write 39 = .ok (.iinc 2 1, 3) := by decide +kernel
theorem dX4_write_42 : decode cX4_write 42 = .ok (.goto (-15), 3) := by decide +kernel
theorem dX4_write_45 : decode cX4_write 45 = .ok (.aload_n 0, 1) := by decide +kernel
theorem dX4_write_46 : decode cX4_write 46 = .ok (.getfield 28, 3) := by decide +kernel
theorem dX4_write_49 : decode cX4_write 49 = .ok (.ifCond .le 72, 3) := by decide +kernel
theorem dX4_write_52 : decode cX4_write 52 = .ok (.aload_n 0, 1) := by decide +kernel
theorem dX4_write_53 : decode cX4_write 53 = .ok (.iload_n 3, 1) := by decide +kernel
theorem dX4_write_54 : decode cX4_write 54 = .ok (.invokevirtual 63, 3) := by decide +kernel
theorem dX4_write_57 : decode cX4_write 57 = .ok (.istore 4, 2) := by decide +kernel
theorem dX4_write_59 : decode cX4_write 59 = .ok (.iconst 0, 1) := by decide +kernel
theorem dX4_write_60 : decode cX4_write 60 = .ok (.istore 5, 2) := by decide +kernel
theorem dX4_write_62 : decode cX4_write 62 = .ok (.iload 5, 2) := by decide +kernel
theorem dX4_write_64 : decode cX4_write 64 = .ok (.iload_n 2, 1) := by decide +kernel
theorem dX4_write_65 : decode cX4_write 65 = .ok (.if_icmp .ge 53, 3) := by decide +kernel
theorem dX4_write_68 : decode cX4_write 68 = .ok (.aload_n 0, 1) := by decide +kernel
theorem dX4_write_69 : decode cX4_write 69 = .ok (.getfield 28, 3) := by decide +kernel
theorem dX4_write_72 : decode cX4_write 72 = .ok (.ifCond .gt 8, 3) := by decide +kernel
theorem dX4_write_75 : decode cX4_write 75 = .ok (.iload 4, 2) := by decide +kernel
theorem dX4_write_77 : decode cX4_write 77 = .ok (.ifCond .le 41, 3) := by decide +kernel
theorem dX4_write_80 : decode cX4_write 80 = .ok (.aload_n 0, 1) := by decide +kernel
theorem dX4_write_81 : decode cX4_write 81 = .ok (.getfield 14, 3) := by decide +kernel
theorem dX4_write_84 : decode cX4_write 84 = .ok (.aload_n 0, 1) := by decide +kernel
theorem dX4_write_85 : decode cX4_write 85 = .ok (.getfield 56, 3) := by decide +kernel
theorem dX4_write_88 : decode cX4_write 88 = .ok (.iload 4, 2) := by decide +kernel
theorem dX4_write_90 : decode cX4_write 90 = .ok (.iload_n 1, 1) := by decide +kernel
theorem dX4_write_91 : decode cX4_write 91 = .ok (.irem, 1) := by decide +kernel
theorem dX4_write_92 : decode cX4_write 92 = .ok (.invokestatic 66, 3) := by decide +kernel
theorem dX4_write_95 : decode cX4_write 95 = .ok (.castore, 1) := by decide +kernel
theorem dX4_write_96 : decode cX4_write 96 = .ok (.aload_n 0, 1) := by decide +kernel
theorem dX4_write_97 : decode cX4_write 97 = .ok (.dup, 1) := by decide +kernel
theorem dX4_write_98 : decode cX4_write 98 = .ok (.getfield 56, 3) := by decide +kernel
theorem dX4_write_101 : decode cX4_write 101 = .ok (.iconst 1, 1) := by decide +kernel
theorem dX4_write_102 : decode cX4_write 102 = .ok (.iadd, 1) := by decide +kernel
theorem dX4_write_103 : decode cX4_write 103 = .ok (.putfield 56, 3) := by decide +kernel
theorem dX4_write_106 : decode cX4_write 106 = .ok (.iload 4, 2) := by decide +kernel
theorem dX4_write_108 : decode cX4_write 108 = .ok (.iload_n 1, 1) := by decide +kernel
theorem dX4_write_109 : decode cX4_write 109 = .ok (.idiv, 1) := by decide +kernel
theorem dX4_write_110 : decode cX4_write 110 = .ok (.istore 4, 2) := by decide +kernel
theorem dX4_write_112 : decode cX4_write 112 = .ok (.iinc 5 1, 3) := by decide +kernel
theorem dX4_write_115 : decode cX4_write 115 = .ok (.goto (-53), 3) := by decide +kernel
theorem dX4_write_118 : decode cX4_write 118 = .ok (.goto (-73), 3) := by decide +kernel
theorem dX4_write_121 : decode cX4_write 121 = .ok (.aload_n 0, 1) := by decide +kernel
theorem dX4_write_122 : decode cX4_write 122 = .ok (.getfield 56, 3) := by decide +kernel
theorem dX4_write_125 : decode cX4_write 125 = .ok (.ifCond .ne 16, 3) := by decide +kernel
theorem dX4_write_128 : decode cX4_write 128 = .ok (.aload_n 0, 1) := by decide +kernel
theorem dX4_write_129 : decode cX4_write 129 = .ok (.getfield 14, 3) := by decide +kernel
theorem dX4_write_132 : decode cX4_write 132 = .ok (.iconst 0, 1) := by decide +kernel
theorem dX4_write_133 : decode cX4_write 133 = .ok (.bipush 48, 2) := by decide +kernel
end
section
theorem dX4_write_135 : decode cX4_write 135 = .ok (.castore, 1) := by decide +kernel
theorem dX4_write_136 : decode cX4_write 136 = .ok (.aload_n 0, 1) := by decide +kernel
theorem dX4_write_137 : decode cX4_write 137 = .ok (.iconst 1, 1) := by decide +kernel
theorem dX4_write_138 : decode cX4_write 138 = .ok (.putfield 56, 3) := by decide +kernel
theorem dX4_write_141 : decode cX4_write 141 = .ok (.aload_n 0, 1) := by decide +kernel
theorem dX4_write_142 : decode cX4_write 142 = .ok (.invokevirtual 70, 3) := by decide +kernel
theorem dX4_write_145 : decode cX4_write 145 = .ok (.aload_n 0, 1) := by decide +kernel
theorem dX4_write_146 : decode cX4_write 146 = .ok (.getfield 56, 3) := by decide +kernel
theorem dX4_write_149 : decode cX4_write 149 = .ok (.ireturn, 1) := by decide +kernel
theorem dX4_push_0 : decode cX4_push 0 = .ok (.aload_n 0, 1) := by decide +kernel
theorem dX4_push_1 : decode cX4_push 1 = .ok (.iconst 0, 1) := by decide +kernel
theorem dX4_push_2 : decode cX4_push 2 = .ok (.putfield 24, 3) := by decide +kernel
theorem dX4_push_5 : decode cX4_push 5 = .ok (.aload_n 0, 1) := by decide +kernel
theorem dX4_push_6 : decode cX4_push 6 = .ok (.invokevirtual 59, 3) := by decide +kernel
theorem dX4_push_9 : decode cX4_push 9 = .ok (.iconst 3, 1) := by decide +kernel
theorem dX4_push_10 : decode cX4_push 10 = .ok (.istore_n 3, 1) := by decide +kernel
theorem dX4_push_11 : decode cX4_push 11 = .ok (.iload_n 3, 1) := by decide +kernel
theorem dX4_push_12 : decode cX4_push 12 = .ok (.ifCond .lt 31, 3) := by decide +kernel
theorem dX4_push_15 : decode cX4_push 15 = .ok (.aload_n 0, 1) := by decide +kernel
theorem dX4_push_16 : decode cX4_push 16 = .ok (.ldc 7, 2) := by decide +kernel
theorem dX4_push_18 : decode cX4_push 18 = .ok (.lload_n 1, 1) := by decide +kernel
theorem dX4_push_19 : decode cX4_push 19 = .ok (.bipush 16, 2) := by decide +kernel
theorem dX4_push_21 : decode cX4_push 21 = .ok (.iload_n 3, 1) := by decide +kernel
theorem dX4_push_22 : decode cX4_push 22 = .ok (.imul, 1) := by decide +kernel
theorem dX4_push_23 : decode cX4_push 23 = .ok (.lshr, 1) := by decide +kernel
theorem dX4_push_24 : decode cX4_push 24 = .ok (.ldc2_w 31, 3) := by decide +kernel
theorem dX4_push_27 : decode cX4_push 27 = .ok (.land, 1) := by decide +kernel
theorem dX4_push_28 : decode cX4_push 28 = .ok (.l2i, 1) := by decide +kernel
theorem dX4_push_29 : decode cX4_push 29 = .ok (.invokevirtual 49, 3) := by decide +kernel
theorem dX4_push_32 : decode cX4_push 32 = .ok (.ifCond .ne 5, 3) := by decide +kernel
theorem dX4_push_35 : decode cX4_push 35 = .ok (.iconst 0, 1) := by decide +kernel
theorem dX4_push_36 : decode cX4_push 36 = .ok (.ireturn, 1) := by decide +kernel
theorem dX4_push_37 : decode cX4_push 37 = .ok (.iinc 3 (-1), 3) := by decide +kernel
theorem dX4_push_40 : decode cX4_push 40 = .ok (.goto (-29), 3) := by decide +kernel
theorem dX4_push_43 : decode cX4_push 43 = .ok (.aload_n 0, 1) := by decide +kernel
theorem dX4_push_44 : decode cX4_push 44 = .ok (.invokevirtual 53, 3) := by decide +kernel
theorem dX4_push_47 : decode cX4_push 47 = .ok (.iconst 1, 1) := by decide +kernel
theorem dX4_push_48 : decode cX4_push 48 = .ok (.ireturn, 1) := by decide +kernel
theorem dX4_power_0 : decode cX4_power 0 = .ok (.aload_n 0, 1) := by decide +kernel
theorem dX4_power_1 : decode cX4_power 1 = .ok (.iconst 0, 1) := by decide +kernel
theorem dX4_power_2 : decode cX4_power 2 = .ok (.putfield 24, 3) := by decide +kernel
theorem dX4_power_5 : decode cX4_power 5 = .ok (.iload_n 1, 1) := by decide +kernel
theorem dX4_power_6 : decode cX4_power 6 = .ok (.ifCond .lt 7, 3) := by decide +kernel
theorem dX4_power_9 : decode cX4_power 9 = .ok (.iload_n 2, 1) := by decide +kernel
theorem dX4_power_10 : decode cX4_power 10 = .ok (.ifCond .ge 5, 3) := by decide +kernel
theorem dX4_power_13 : decode cX4_power 13 = .ok (.iconst 0, 1) := by decide +kernel
theorem dX4_power_14 : decode cX4_power 14 = .ok (.ireturn, 1) := by decide +kernel
theorem dX4_power_15 : decode cX4_power 15 = .ok (.aload_n 0, 1) := by decide +kernel
theorem dX4_power_16 : decode cX4_power 16 = .ok (.iconst 1, 1) := by decide +kernel
theorem dX4_power_17 : decode cX4_power 17 = .ok (.putfield 28, 3) := by decide +kernel
theorem dX4_power_20 : decode cX4_power 20 = .ok (.aload_n 0, 1) := by decide +kernel
theorem dX4_power_21 : decode cX4_power 21 = .ok (.getfield 21, 3) := by decide +kernel
theorem dX4_power_24 : decode cX4_power 24 = .ok (.iconst 0, 1) := by decide +kernel
theorem dX4_power_25 : decode cX4_power 25 = .ok (.iconst 1, 1) := by decide +kernel
theorem dX4_power_26 : decode cX4_power 26 = .ok (.iastore, 1) := by decide +kernel
theorem dX4_power_27 : decode cX4_power 27 = .ok (.iload_n 1, 1) := by decide +kernel
theorem dX4_power_28 : decode cX4_power 28 = .ok (.ifCond .ne 12, 3) := by decide +kernel
theorem dX4_power_31 : decode cX4_power 31 = .ok (.iload_n 2, 1) := by decide +kernel
theorem dX4_power_32 : decode cX4_power 32 = .ok (.ifCond .le 8, 3) := by decide +kernel
theorem dX4_power_35 : decode cX4_power 35 = .ok (.aload_n 0, 1) := by decide +kernel
theorem dX4_power_36 : decode cX4_power 36 = .ok (.iconst 0, 1) := by decide +kernel
theorem dX4_power_37 : decode cX4_power 37 = .ok (.putfield 28, 3) := by decide +kernel
theorem dX4_power_40 : decode cX4_power 40 = .ok (.iconst 0, 1) := by decide +kernel
theorem dX4_power_41 : decode cX4_power 41 = .ok (.istore_n 3, 1) := by decide +kernel
theorem dX4_power_42 : decode cX4_power 42 = .ok (.iload_n 3, 1) := by decide +kernel
theorem dX4_power_43 : decode cX4_power 43 = .ok (.iload_n 2, 1) := by decide +kernel
theorem dX4_power_44 : decode cX4_power 44 = .ok (.if_icmp .ge 25, 3) := by decide +kernel
theorem dX4_power_47 : decode cX4_power 47 = .ok (.iload_n 1, 1) := by decide +kernel
theorem dX4_power_48 : decode cX4_power 48 = .ok (.iconst 1, 1) := by decide +kernel
theorem dX4_power_49 : decode cX4_power 49 = .ok (.if_icmp .le 20, 3) := by decide +kernel
theorem dX4_power_52 : decode cX4_power 52 = .ok (.aload_n 0, 1) := by decide +kernel
theorem dX4_power_53 : decode cX4_power 53 = .ok (.iload_n 1, 1) := by decide +kernel
theorem dX4_power_54 : decode cX4_power 54 = .ok (.iconst 0, 1) := by decide +kernel
theorem dX4_power_55 : decode cX4_power 55 = .ok (.invokevirtual 49, 3) := by decide +kernel
theorem dX4_power_58 : decode cX4_power 58 = .ok (.ifCond .ne 5, 3) := by decide +kernel
theorem dX4_power_61 : decode cX4_power 61 = .ok (.iconst 0, 1) := by decide +kernel
theorem dX4_power_62 : decode cX4_power 62 = .ok (.ireturn, 1) := by decide +kernel
theorem dX4_power_63 : decode cX4_power 63 = .ok (.iinc 3 1, 3) := by decide +kernel
theorem dX4_power_66 : decode cX4_power 66 = .ok (.goto (-24), 3) := by decide +kernel
theorem dX4_power_69 : decode cX4_power 69 = .ok (.aload_n 0, 1) := by decide +kernel
theorem dX4_power_70 : decode cX4_power 70 = .ok (.invokevirtual 53, 3) := by decide +kernel
theorem dX4_power_73 : decode cX4_power 73 = .ok (.iconst 1, 1) := by decide +kernel
theorem dX4_power_74 : decode cX4_power 74 = .ok (.ireturn, 1) := by decide +kernel
theorem dX4_add_0 : decode cX4_add 0 = .ok (.aload_n 0, 1) := by decide +kernel
theorem dX4_add_1 : decode cX4_add 1 = .ok (.iconst 0, 1) := by decide +kernel
theorem dX4_add_2 : decode cX4_add 2 = .ok (.putfield 24, 3) := by decide +kernel
theorem dX4_add_5 : decode cX4_add 5 = .ok (.aload_n 0, 1) := by decide +kernel
theorem dX4_add_6 : decode cX4_add 6 = .ok (.invokevirtual 59, 3) := by decide +kernel
theorem dX4_add_9 : decode cX4_add 9 = .ok (.iload_n 1, 1) := by decide +kernel
theorem dX4_add_10 : decode cX4_add 10 = .ok (.i2l, 1) := by decide +kernel
theorem dX4_add_11 : decode cX4_add 11 = .ok (.lstore_n 2, 1) := by decide +kernel
theorem dX4_add_12 : decode cX4_add 12 = .ok (.iconst 0, 1) := by decide +kernel
theorem dX4_add_13 : decode cX4_add 13 = .ok (.istore 4, 2) := by decide +kernel
theorem dX4_add_15 : decode cX4_add 15 = .ok (.iload 4, 2) := by decide +kernel
theorem dX4_add_17 : decode cX4_add 17 = .ok (.sipush 4096, 3) := by decide +kernel
theorem dX4_add_20 : decode cX4_add 20 = .ok (.if_icmp .ge 51, 3) := by decide +kernel
theorem dX4_add_23 : decode cX4_add 23 = .ok (.lload_n 2, 1) := by decide +kernel
theorem dX4_add_24 : decode cX4_add 24 = .ok (.iload 4, 2) := by decide +kernel
theorem dX4_add_26 : decode cX4_add 26 = .ok (.aload_n 0, 1) := by decide +kernel
theorem dX4_add_27 : decode cX4_add 27 = .ok (.getfield 28, 3) := by decide +kernel
theorem dX4_add_30 : decode cX4_add 30 = .ok (.if_icmp .ge 14, 3) := by decide +kernel
theorem dX4_add_33 : decode cX4_add 33 = .ok (.aload_n 0, 1) := by decide +kernel
theorem dX4_add_34 : decode cX4_add 34 = .ok (.getfield 21, 3) := by decide +kernel
theorem dX4_add_37 : decode cX4_add 37 = .ok (.iload 4, 2) := by decide +kernel
theorem dX4_add_39 : decode cX4_add 39 = .ok (.iaload, 1) := by decide +kernel
theorem dX4_add_40 : decode cX4_add 40 = .ok (.i2l, 1) := by decide +kernel
theorem dX4_add_41 : decode cX4_add 41 = .ok (.goto 4, 3) := by decide +kernel
theorem dX4_add_44 : decode cX4_add 44 = .ok (.lconst 0, 1) := by decide +kernel
theorem dX4_add_45 : decode cX4_add 45 = .ok (.ladd, 1) := by decide +kernel
theorem dX4_add_46 : decode cX4_add 46 = .ok (.lstore_n 2, 1) := by decide +kernel
theorem dX4_add_47 : decode cX4_add 47 = .ok (.aload_n 0, 1) := by decide +kernel
theorem dX4_add_48 : decode cX4_add 48 = .ok (.getfield 21, 3) := by decide +kernel
theorem dX4_add_51 : decode cX4_add 51 = .ok (.iload 4, 2) := by decide +kernel
theorem dX4_add_53 : decode cX4_add 53 = .ok (.lload_n 2, 1) := by decide +kernel
theorem dX4_add_54 : decode cX4_add 54 = .ok (.ldc2_w 31, 3) := by decide +kernel
theorem dX4_add_57 : decode cX4_add 57 = .ok (.land, 1) := by decide +kernel
theorem dX4_add_58 : decode cX4_add 58 = .ok (.l2i, 1) := by decide +kernel
theorem dX4_add_59 : decode cX4_add 59 = .ok (.iastore, 1) := by decide +kernel
theorem dX4_add_60 : decode cX4_add 60 = .ok (.lload_n 2, 1) := by decide +kernel
theorem dX4_add_61 : decode cX4_add 61 = .ok (.bipush 16, 2) := by decide +kernel
theorem dX4_add_63 : decode cX4_add 63 = .ok (.lshr, 1) := by decide +kernel
theorem dX4_add_64 : decode cX4_add 64 = .ok (.lstore_n 2, 1) := by decide +kernel
theorem dX4_add_65 : decode cX4_add 65 = .ok (.iinc 4 1, 3) := by decide +kernel
theorem dX4_add_68 : decode cX4_add 68 = .ok (.goto (-53), 3) := by decide +kernel
theorem dX4_add_71 : decode cX4_add 71 = .ok (.lload_n 2, 1) := by decide +kernel
theorem dX4_add_72 : decode cX4_add 72 = .ok (.lconst 0, 1) := by decide +kernel
theorem dX4_add_73 : decode cX4_add 73 = .ok (.lcmp, 1) := by decide +kernel
theorem dX4_add_74 : decode cX4_add 74 = .ok (.ifCond .eq 5, 3) := by decide +kernel
theorem dX4_add_77 : decode cX4_add 77 = .ok (.iconst 0, 1) := by decide +kernel
theorem dX4_add_78 : decode cX4_add 78 = .ok (.ireturn, 1) := by decide +kernel
theorem dX4_add_79 : decode cX4_add 79 = .ok (.aload_n 0, 1) := by decide +kernel
theorem dX4_add_80 : decode cX4_add 80 = .ok (.sipush 4096, 3) := by decide +kernel
theorem dX4_add_83 : decode cX4_add 83 = .ok (.putfield 28, 3) := by decide +kernel
theorem dX4_add_86 : decode cX4_add 86 = .ok (.aload_n 0, 1) := by decide +kernel
theorem dX4_add_87 : decode cX4_add 87 = .ok (.invokevirtual 53, 3) := by decide +kernel
theorem dX4_add_90 : decode cX4_add 90 = .ok (.iconst 1, 1) := by decide +kernel
theorem dX4_add_91 : decode cX4_add 91 = .ok (.ireturn, 1) := by decide +kernel
theorem dX4_word_0 : decode cX4_word 0 = .ok (.aload_n 0, 1) := by decide +kernel
theorem dX4_word_1 : decode cX4_word 1 = .ok (.iconst 0, 1) := by decide +kernel
theorem dX4_word_2 : decode cX4_word 2 = .ok (.putfield 24, 3) := by decide +kernel
theorem dX4_word_5 : decode cX4_word 5 = .ok (.iload_n 1, 1) := by decide +kernel
theorem dX4_word_6 : decode cX4_word 6 = .ok (.ifCond .lt 18, 3) := by decide +kernel
theorem dX4_word_9 : decode cX4_word 9 = .ok (.ldc2_w 73, 3) := by decide +kernel
theorem dX4_word_12 : decode cX4_word 12 = .ok (.iload_n 1, 1) := by decide +kernel
theorem dX4_word_13 : decode cX4_word 13 = .ok (.i2l, 1) := by decide +kernel
theorem dX4_word_14 : decode cX4_word 14 = .ok (.lmul, 1) := by decide +kernel
theorem dX4_word_15 : decode cX4_word 15 = .ok (.aload_n 0, 1) := by decide +kernel
theorem dX4_word_16 : decode cX4_word 16 = .ok (.getfield 33, 3) := by decide +kernel
theorem dX4_word_19 : decode cX4_word 19 = .ok (.i2l, 1) := by decide +kernel
theorem dX4_word_20 : decode cX4_word 20 = .ok (.lcmp, 1) := by decide +kernel
theorem dX4_word_21 : decode cX4_word 21 = .ok (.ifCond .lt 5, 3) := by decide +kernel
theorem dX4_word_24 : decode cX4_word 24 = .ok (.iconst 0, 1) := by decide +kernel
theorem dX4_word_25 : decode cX4_word 25 = .ok (.ireturn, 1) := by decide +kernel
theorem dX4_word_26 : decode cX4_word 26 = .ok (.aload_n 0, 1) := by decide +kernel
theorem dX4_word_27 : decode cX4_word 27 = .ok (.getfield 17, 3) := by decide +kernel
theorem dX4_word_30 : decode cX4_word 30 = .ok (.iconst 2, 1) := by decide +kernel
theorem dX4_word_31 : decode cX4_word 31 = .ok (.iload_n 1, 1) := by decide +kernel
theorem dX4_word_32 : decode cX4_word 32 = .ok (.imul, 1) := by decide +kernel
theorem dX4_word_33 : decode cX4_word 33 = .ok (.iaload, 1) := by decide +kernel
theorem dX4_word_34 : decode cX4_word 34 = .ok (.iconst 2, 1) := by decide +kernel
theorem dX4_word_35 : decode cX4_word 35 = .ok (.iload_n 1, 1) := by decide +kernel
theorem dX4_word_36 : decode cX4_word 36 = .ok (.imul, 1) := by decide +kernel
theorem dX4_word_37 : decode cX4_word 37 = .ok (.iconst 1, 1) := by decide +kernel
theorem dX4_word_38 : decode cX4_word 38 = .ok (.iadd, 1) := by decide +kernel
theorem dX4_word_39 : decode cX4_word 39 = .ok (.aload_n 0, 1) := by decide +kernel
theorem dX4_word_40 : decode cX4_word 40 = .ok (.getfield 33, 3) := by decide +kernel
theorem dX4_word_43 : decode cX4_word 43 = .ok (.if_icmp .ge 19, 3) := by decide +kernel
theorem dX4_word_46 : decode cX4_word 46 = .ok (.aload_n 0, 1) := by decide +kernel
theorem dX4_word_47 : decode cX4_word 47 = .ok (.getfield 17, 3) := by decide +kernel
theorem dX4_word_50 : decode cX4_word 50 = .ok (.iconst 2, 1) := by decide +kernel
theorem dX4_word_51 : decode cX4_word 51 = .ok (.iload_n 1, 1) := by decide +kernel
theorem dX4_word_52 : decode cX4_word 52 = .ok (.imul, 1) := by decide +kernel
theorem dX4_word_53 : decode cX4_word 53 = .ok (.iconst 1, 1) := by decide +kernel
theorem dX4_word_54 : decode cX4_word 54 = .ok (.iadd, 1) := by decide +kernel
theorem dX4_word_55 : decode cX4_word 55 = .ok (.iaload, 1) := by decide +kernel
theorem dX4_word_56 : decode cX4_word 56 = .ok (.bipush 16, 2) := by decide +kernel
theorem dX4_word_58 : decode cX4_word 58 = .ok (.ishl, 1) := by decide +kernel
theorem dX4_word_59 : decode cX4_word 59 = .ok (.goto 4, 3) := by decide +kernel
theorem dX4_word_62 : decode cX4_word 62 = .ok (.iconst 0, 1) := by decide +kernel
theorem dX4_word_63 : decode cX4_word 63 = .ok (.ior, 1) := by decide +kernel
theorem dX4_word_64 : decode cX4_word 64 = .ok (.ireturn, 1) := by decide +kernel
theorem dX4_bits_0 : decode cX4_bits 0 = .ok (.aload_n 0, 1) := by decide +kernel
theorem dX4_bits_1 : decode cX4_bits 1 = .ok (.iconst 0, 1) := by decide +kernel
theorem dX4_bits_2 : decode cX4_bits 2 = .ok (.putfield 24, 3) := by decide +kernel
theorem dX4_bits_5 : decode cX4_bits 5 = .ok (.iconst 0, 1) := by decide +kernel
theorem dX4_bits_6 : decode cX4_bits 6 = .ok (.istore_n 1, 1) := by decide +kernel
theorem dX4_bits_7 : decode cX4_bits 7 = .ok (.aload_n 0, 1) := by decide +kernel
theorem dX4_bits_8 : decode cX4_bits 8 = .ok (.getfield 33, 3) := by decide +kernel
theorem dX4_bits_11 : decode cX4_bits 11 = .ok (.ifCond .le 25, 3) := by decide +kernel
theorem dX4_bits_14 : decode cX4_bits 14 = .ok (.aload_n 0, 1) := by decide +kernel
theorem dX4_bits_15 : decode cX4_bits 15 = .ok (.getfield 17, 3) := by decide +kernel
theorem dX4_bits_18 : decode cX4_bits 18 = .ok (.aload_n 0, 1) := by decide +kernel
theorem dX4_bits_19 : decode cX4_bits 19 = .ok (.getfield 33, 3) := by decide +kernel
theorem dX4_bits_22 : decode cX4_bits 22 = .ok (.iconst 1, 1) := by decide +kernel
theorem dX4_bits_23 : decode cX4_bits 23 = .ok (.isub, 1) := by decide +kernel
theorem dX4_bits_24 : decode cX4_bits 24 = .ok (.iaload, 1) := by decide +kernel
theorem dX4_bits_25 : decode cX4_bits 25 = .ok (.iload_n 1, 1) := by decide +kernel
theorem dX4_bits_26 : decode cX4_bits 26 = .ok (.ishr, 1) := by decide +kernel
theorem dX4_bits_27 : decode cX4_bits 27 = .ok (.ifCond .le 9, 3) := by decide +kernel
theorem dX4_bits_30 : decode cX4_bits 30 = .ok (.iinc 1 1, 3) := by decide +kernel
theorem dX4_bits_33 : decode cX4_bits 33 = .ok (.goto (-26), 3) := by decide +kernel
theorem dX4_bits_36 : decode cX4_bits 36 = .ok (.aload_n 0, 1) := by decide +kernel
theorem dX4_bits_37 : decode cX4_bits 37 = .ok (.getfield 33, 3) := by decide +kernel
theorem dX4_bits_40 : decode cX4_bits 40 = .ok (.ifCond .ne 7, 3) := by decide +kernel
theorem dX4_bits_43 : decode cX4_bits 43 = .ok (.iconst 0, 1) := by decide +kernel
theorem dX4_bits_44 : decode cX4_bits 44 = .ok (.goto 15, 3) := by decide +kernel
theorem dX4_bits_47 : decode cX4_bits 47 = .ok (.bipush 16, 2) := by decide +kernel
theorem dX4_bits_49 : decode cX4_bits 49 = .ok (.aload_n 0, 1) := by decide +kernel
theorem dX4_bits_50 : decode cX4_bits 50 = .ok (.getfield 33, 3) := by decide +kernel
theorem dX4_bits_53 : decode cX4_bits 53 = .ok (.imul, 1) := by decide +kernel
theorem dX4_bits_54 : decode cX4_bits 54 = .ok (.bipush 16, 2) := by decide +kernel
theorem dX4_bits_56 : decode cX4_bits 56 = .ok (.isub, 1) := by decide +kernel
theorem dX4_bits_57 : decode cX4_bits 57 = .ok (.iload_n 1, 1) := by decide +kernel
theorem dX4_bits_58 : decode cX4_bits 58 = .ok (.iadd, 1) := by decide +kernel
theorem dX4_bits_59 : decode cX4_bits 59 = .ok (.ireturn, 1) := by decide +kernel
theorem dX4_characterAt_0 : decode cX4_characterAt 0 = .ok (.aload_n 0, 1) := by decide +kernel
theorem dX4_characterAt_1 : decode cX4_characterAt 1 = .ok (.iconst 0, 1) := by decide +kernel
theorem dX4_characterAt_2 : decode cX4_characterAt 2 = .ok (.putfield 24, 3) := by decide +kernel
theorem dX4_characterAt_5 : decode cX4_characterAt 5 = .ok (.iload_n 1, 1) := by decide +kernel
theorem dX4_characterAt_6 : decode cX4_characterAt 6 = .ok (.ifCond .lt 11, 3) := by decide +kernel
theorem dX4_characterAt_9 : decode cX4_characterAt 9 = .ok (.iload_n 1, 1) := by decide +kernel
theorem dX4_characterAt_10 : decode cX4_characterAt 10 = .ok (.aload_n 0, 1) := by decide +kernel
theorem dX4_characterAt_11 : decode cX4_characterAt 11 = .ok (.getfield 56, 3) := by decide +kernel
theorem dX4_characterAt_14 : decode cX4_characterAt 14 = .ok (.if_icmp .lt 7, 3) := by decide +kernel
theorem dX4_characterAt_17 : decode cX4_characterAt 17 = .ok (.iconst (-1), 1) := by decide +kernel
theorem dX4_characterAt_18 : decode cX4_characterAt 18 = .ok (.goto 9, 3) := by decide +kernel
theorem dX4_characterAt_21 : decode cX4_characterAt 21 = .ok (.aload_n 0, 1) := by decide +kernel
theorem dX4_characterAt_22 : decode cX4_characterAt 22 = .ok (.getfield 14, 3) := by decide +kernel
theorem dX4_characterAt_25 : decode cX4_characterAt 25 = .ok (.iload_n 1, 1) := by decide +kernel
theorem dX4_characterAt_26 : decode cX4_characterAt 26 = .ok (.caload, 1) := by decide +kernel
theorem dX4_characterAt_27 : decode cX4_characterAt 27 = .ok (.ireturn, 1) := by decide +kernel
theorem dX4_typed_0 : decode cX4_typed 0 = .ok (.aload_n 0, 1) := by decide +kernel
theorem dX4_typed_1 : decode cX4_typed 1 = .ok (.iconst 0, 1) := by decide +kernel
theorem dX4_typed_2 : decode cX4_typed 2 = .ok (.putfield 24, 3) := by decide +kernel
theorem dX4_typed_5 : decode cX4_typed 5 = .ok (.aload_n 0, 1) := by decide +kernel
theorem dX4_typed_6 : decode cX4_typed 6 = .ok (.getfield 38, 3) := by decide +kernel
theorem dX4_typed_9 : decode cX4_typed 9 = .ok (.ireturn, 1) := by decide +kernel
theorem dX4_load_0 : decode cX4_load 0 = .ok (.aload_n 0, 1) := by decide +kernel
theorem dX4_load_1 : decode cX4_load 1 = .ok (.iconst 4, 1) := by decide +kernel
theorem dX4_load_2 : decode cX4_load 2 = .ok (.putfield 28, 3) := by decide +kernel
theorem dX4_load_5 : decode cX4_load 5 = .ok (.iconst 0, 1) := by decide +kernel
theorem dX4_load_6 : decode cX4_load 6 = .ok (.istore_n 3, 1) := by decide +kernel
theorem dX4_load_7 : decode cX4_load 7 = .ok (.iload_n 3, 1) := by decide +kernel
theorem dX4_load_8 : decode cX4_load 8 = .ok (.iconst 4, 1) := by decide +kernel
theorem dX4_load_9 : decode cX4_load 9 = .ok (.if_icmp .ge 26, 3) := by decide +kernel
theorem dX4_load_12 : decode cX4_load 12 = .ok (.aload_n 0, 1) := by decide +kernel
theorem dX4_load_13 : decode cX4_load 13 = .ok (.getfield 21, 3) := by decide +kernel
theorem dX4_load_16 : decode cX4_load 16 = .ok (.iload_n 3, 1) := by decide +kernel
theorem dX4_load_17 : decode cX4_load 17 = .ok (.lload_n 1, 1) := by decide +kernel
theorem dX4_load_18 : decode cX4_load 18 = .ok (.bipush 16, 2) := by decide +kernel
theorem dX4_load_20 : decode cX4_load 20 = .ok (.iload_n 3, 1) := by decide +kernel
theorem dX4_load_21 : decode cX4_load 21 = .ok (.imul, 1) := by decide +kernel
theorem dX4_load_22 : decode cX4_load 22 = .ok (.lshr, 1) := by decide +kernel
theorem dX4_load_23 : decode cX4_load 23 = .ok (.ldc2_w 31, 3) := by decide +kernel
theorem dX4_load_26 : decode cX4_load 26 = .ok (.land, 1) := by decide +kernel
theorem dX4_load_27 : decode cX4_load 27 = .ok (.l2i, 1) := by decide +kernel
theorem dX4_load_28 : decode cX4_load 28 = .ok (.iastore, 1) := by decide +kernel
theorem dX4_load_29 : decode cX4_load 29 = .ok (.iinc 3 1, 3) := by decide +kernel
theorem dX4_load_32 : decode cX4_load 32 = .ok (.goto (-25), 3) := by decide +kernel
theorem dX4_load_35 : decode cX4_load 35 = .ok (.aload_n 0, 1) := by decide +kernel
theorem dX4_load_36 : decode cX4_load 36 = .ok (.getfield 28, 3) := by decide +kernel
theorem dX4_load_39 : decode cX4_load 39 = .ok (.ifCond .le 30, 3) := by decide +kernel
theorem dX4_load_42 : decode cX4_load 42 = .ok (.aload_n 0, 1) := by decide +kernel
theorem dX4_load_43 : decode cX4_load 43 = .ok (.getfield 21, 3) := by decide +kernel
theorem dX4_load_46 : decode cX4_load 46 = .ok (.aload_n 0, 1) := by decide +kernel
theorem dX4_load_47 : decode cX4_load 47 = .ok (.getfield 28, 3) := by decide +kernel
theorem dX4_load_50 : decode cX4_load 50 = .ok (.iconst 1, 1) := by decide +kernel
theorem dX4_load_51 : decode cX4_load 51 = .ok (.isub, 1) := by decide +kernel
theorem dX4_load_52 : decode cX4_load 52 = .ok (.iaload, 1) := by decide +kernel
theorem dX4_load_53 : decode cX4_load 53 = .ok (.ifCond .ne 16, 3) := by decide +kernel
theorem dX4_load_56 : decode cX4_load 56 = .ok (.aload_n 0, 1) := by decide +kernel
theorem dX4_load_57 : decode cX4_load 57 = .ok (.dup, 1) := by decide +kernel
theorem dX4_load_58 : decode cX4_load 58 = .ok (.getfield 28, 3) := by decide +kernel
theorem dX4_load_61 : decode cX4_load 61 = .ok (.iconst 1, 1) := by decide +kernel
theorem dX4_load_62 : decode cX4_load 62 = .ok (.isub, 1) := by decide +kernel
theorem dX4_load_63 : decode cX4_load 63 = .ok (.putfield 28, 3) := by decide +kernel
theorem dX4_load_66 : decode cX4_load 66 = .ok (.goto (-31), 3) := by decide +kernel
theorem dX4_load_69 : decode cX4_load 69 = .ok (.return_, 1) := by decide +kernel
theorem dX4_show_0 : decode cX4_show 0 = .ok (.aload_n 0, 1) := by decide +kernel
theorem dX4_show_1 : decode cX4_show 1 = .ok (.iconst 0, 1) := by decide +kernel
theorem dX4_show_2 : decode cX4_show 2 = .ok (.putfield 24, 3) := by decide +kernel
theorem dX4_show_5 : decode cX4_show 5 = .ok (.iload_n 3, 1) := by decide +kernel
theorem dX4_show_6 : decode cX4_show 6 = .ok (.invokestatic 75, 3) := by decide +kernel
theorem dX4_show_9 : decode cX4_show 9 = .ok (.ifCond .eq 11, 3) := by decide +kernel
theorem dX4_show_12 : decode cX4_show 12 = .ok (.iload 4, 2) := by decide +kernel
theorem dX4_show_14 : decode cX4_show 14 = .ok (.invokestatic 41, 3) := by decide +kernel
theorem dX4_show_17 : decode cX4_show 17 = .ok (.ifCond .ne 5, 3) := by decide +kernel
theorem dX4_show_20 : decode cX4_show 20 = .ok (.iconst (-1), 1) := by decide +kernel
theorem dX4_show_21 : decode cX4_show 21 = .ok (.ireturn, 1) := by decide +kernel
theorem dX4_show_22 : decode cX4_show 22 = .ok (.iload_n 3, 1) := by decide +kernel
theorem dX4_show_23 : decode cX4_show 23 = .ok (.bipush 64, 2) := by decide +kernel
theorem dX4_show_25 : decode cX4_show 25 = .ok (.if_icmp .ne 7, 3) := by decide +kernel
theorem dX4_show_28 : decode cX4_show 28 = .ok (.lload_n 1, 1) := by decide +kernel
theorem dX4_show_29 : decode cX4_show 29 = .ok (.goto 19, 3) := by decide +kernel
theorem dX4_show_32 : decode cX4_show 32 = .ok (.iload 5, 2) := by decide +kernel
theorem dX4_show_34 : decode cX4_show 34 = .ok (.ifCond .eq 9, 3) := by decide +kernel
theorem dX4_show_37 : decode cX4_show 37 = .ok (.lload_n 1, 1) := by decide +kernel
theorem dX4_show_38 : decode cX4_show 38 = .ok (.l2i, 1) := by decide +kernel
theorem dX4_show_39 : decode cX4_show 39 = .ok (.i2l, 1) := by decide +kernel
theorem dX4_show_40 : decode cX4_show 40 = .ok (.goto 8, 3) := by decide +kernel
theorem dX4_show_43 : decode cX4_show 43 = .ok (.lload_n 1, 1) := by decide +kernel
theorem dX4_show_44 : decode cX4_show 44 = .ok (.ldc2_w 78, 3) := by decide +kernel
theorem dX4_show_47 : decode cX4_show 47 = .ok (.land, 1) := by decide +kernel
theorem dX4_show_48 : decode cX4_show 48 = .ok (.lstore 6, 2) := by decide +kernel
theorem dX4_show_50 : decode cX4_show 50 = .ok (.iload 5, 2) := by decide +kernel
theorem dX4_show_52 : decode cX4_show 52 = .ok (.ifCond .eq 14, 3) := by decide +kernel
theorem dX4_show_55 : decode cX4_show 55 = .ok (.lload 6, 2) := by decide +kernel
theorem dX4_show_57 : decode cX4_show 57 = .ok (.lconst 0, 1) := by decide +kernel
theorem dX4_show_58 : decode cX4_show 58 = .ok (.lcmp, 1) := by decide +kernel
theorem dX4_show_59 : decode cX4_show 59 = .ok (.ifCond .ge 7, 3) := by decide +kernel
theorem dX4_show_62 : decode cX4_show 62 = .ok (.iconst 1, 1) := by decide +kernel
theorem dX4_show_63 : decode cX4_show 63 = .ok (.goto 4, 3) := by decide +kernel
theorem dX4_show_66 : decode cX4_show 66 = .ok (.iconst 0, 1) := by decide +kernel
theorem dX4_show_67 : decode cX4_show 67 = .ok (.istore 8, 2) := by decide +kernel
theorem dX4_show_69 : decode cX4_show 69 = .ok (.aload_n 0, 1) := by decide +kernel
theorem dX4_show_70 : decode cX4_show 70 = .ok (.iload 8, 2) := by decide +kernel
theorem dX4_show_72 : decode cX4_show 72 = .ok (.ifCond .eq 9, 3) := by decide +kernel
theorem dX4_show_75 : decode cX4_show 75 = .ok (.lload 6, 2) := by decide +kernel
theorem dX4_show_77 : decode cX4_show 77 = .ok (.lneg, 1) := by decide +kernel
theorem dX4_show_78 : decode cX4_show 78 = .ok (.goto 5, 3) := by decide +kernel
theorem dX4_show_81 : decode cX4_show 81 = .ok (.lload 6, 2) := by decide +kernel
theorem dX4_show_83 : decode cX4_show 83 = .ok (.invokevirtual 80, 3) := by decide +kernel
theorem dX4_show_86 : decode cX4_show 86 = .ok (.aload_n 0, 1) := by decide +kernel
theorem dX4_show_87 : decode cX4_show 87 = .ok (.iconst 0, 1) := by decide +kernel
theorem dX4_show_88 : decode cX4_show 88 = .ok (.putfield 56, 3) := by decide +kernel
theorem dX4_show_91 : decode cX4_show 91 = .ok (.aload_n 0, 1) := by decide +kernel
theorem dX4_show_92 : decode cX4_show 92 = .ok (.getfield 28, 3) := by decide +kernel
theorem dX4_show_95 : decode cX4_show 95 = .ok (.ifCond .le 34, 3) := by decide +kernel
theorem dX4_show_98 : decode cX4_show 98 = .ok (.aload_n 0, 1) := by decide +kernel
theorem dX4_show_99 : decode cX4_show 99 = .ok (.getfield 14, 3) := by decide +kernel
theorem dX4_show_102 : decode cX4_show 102 = .ok (.aload_n 0, 1) := by decide +kernel
theorem dX4_show_103 : decode cX4_show 103 = .ok (.getfield 56, 3) := by decide +kernel
theorem dX4_show_106 : decode cX4_show 106 = .ok (.aload_n 0, 1) := by decide +kernel
theorem dX4_show_107 : decode cX4_show 107 = .ok (.iload 4, 2) := by decide +kernel
theorem dX4_show_109 : decode cX4_show 109 = .ok (.invokevirtual 63, 3) := by decide +kernel
theorem dX4_show_112 : decode cX4_show 112 = .ok (.invokestatic 66, 3) := by decide +kernel
theorem dX4_show_115 : decode cX4_show 115 = .ok (.castore, 1) := by decide +kernel
theorem dX4_show_116 : decode cX4_show 116 = .ok (.aload_n 0, 1) := by decide +kernel
theorem dX4_show_117 : decode cX4_show 117 = .ok (.dup, 1) := by decide +kernel
theorem dX4_show_118 : decode cX4_show 118 = .ok (.getfield 56, 3) := by decide +kernel
theorem dX4_show_121 : decode cX4_show 121 = .ok (.iconst 1, 1) := by decide +kernel
theorem dX4_show_122 : decode cX4_show 122 = .ok (.iadd, 1) := by decide +kernel
theorem dX4_show_123 : decode cX4_show 123 = .ok (.putfield 56, 3) := by decide +kernel
theorem dX4_show_126 : decode cX4_show 126 = .ok (.goto (-35), 3) := by decide +kernel
theorem dX4_show_129 : decode cX4_show 129 = .ok (.aload_n 0, 1) := by decide +kernel
theorem dX4_show_130 : decode cX4_show 130 = .ok (.getfield 56, 3) := by decide +kernel
theorem dX4_show_133 : decode cX4_show 133 = .ok (.ifCond .ne 16, 3) := by decide +kernel
theorem dX4_show_136 : decode cX4_show 136 = .ok (.aload_n 0, 1) := by decide +kernel
theorem dX4_show_137 : decode cX4_show 137 = .ok (.getfield 14, 3) := by decide +kernel
theorem dX4_show_140 : decode cX4_show 140 = .ok (.iconst 0, 1) := by decide +kernel
theorem dX4_show_141 : decode cX4_show 141 = .ok (.bipush 48, 2) := by decide +kernel
theorem dX4_show_143 : decode cX4_show 143 = .ok (.castore, 1) := by decide +kernel
theorem dX4_show_144 : decode cX4_show 144 = .ok (.aload_n 0, 1) := by decide +kernel
theorem dX4_show_145 : decode cX4_show 145 = .ok (.iconst 1, 1) := by decide +kernel
theorem dX4_show_146 : decode cX4_show 146 = .ok (.putfield 56, 3) := by decide +kernel
theorem dX4_show_149 : decode cX4_show 149 = .ok (.iload 8, 2) := by decide +kernel
theorem dX4_show_151 : decode cX4_show 151 = .ok (.ifCond .eq 24, 3) := by decide +kernel
theorem dX4_show_154 : decode cX4_show 154 = .ok (.aload_n 0, 1) := by decide +kernel
theorem dX4_show_155 : decode cX4_show 155 = .ok (.getfield 14, 3) := by decide +kernel
theorem dX4_show_158 : decode cX4_show 158 = .ok (.aload_n 0, 1) := by decide +kernel
theorem dX4_show_159 : decode cX4_show 159 = .ok (.getfield 56, 3) := by decide +kernel
theorem dX4_show_162 : decode cX4_show 162 = .ok (.bipush 45, 2) := by decide +kernel
theorem dX4_show_164 : decode cX4_show 164 = .ok (.castore, 1) := by decide +kernel
theorem dX4_show_165 : decode cX4_show 165 = .ok (.aload_n 0, 1) := by decide +kernel
theorem dX4_show_166 : decode cX4_show 166 = .ok (.dup, 1) := by decide +kernel
theorem dX4_show_167 : decode cX4_show 167 = .ok (.getfield 56, 3) := by decide +kernel
theorem dX4_show_170 : decode cX4_show 170 = .ok (.iconst 1, 1) := by decide +kernel
theorem dX4_show_171 : decode cX4_show 171 = .ok (.iadd, 1) := by decide +kernel
theorem dX4_show_172 : decode cX4_show 172 = .ok (.putfield 56, 3) := by decide +kernel
theorem dX4_show_175 : decode cX4_show 175 = .ok (.aload_n 0, 1) := by decide +kernel
theorem dX4_show_176 : decode cX4_show 176 = .ok (.invokevirtual 70, 3) := by decide +kernel
theorem dX4_show_179 : decode cX4_show 179 = .ok (.aload_n 0, 1) := by decide +kernel
theorem dX4_show_180 : decode cX4_show 180 = .ok (.getfield 56, 3) := by decide +kernel
theorem dX4_show_183 : decode cX4_show 183 = .ok (.ireturn, 1) := by decide +kernel
theorem dX4_parse_0 : decode cX4_parse 0 = .ok (.aload_n 0, 1) := by decide +kernel
theorem dX4_parse_1 : decode cX4_parse 1 = .ok (.iconst 0, 1) := by decide +kernel
theorem dX4_parse_2 : decode cX4_parse 2 = .ok (.putfield 24, 3) := by decide +kernel
theorem dX4_parse_5 : decode cX4_parse 5 = .ok (.iload_n 1, 1) := by decide +kernel
theorem dX4_parse_6 : decode cX4_parse 6 = .ok (.invokestatic 75, 3) := by decide +kernel
theorem dX4_parse_9 : decode cX4_parse 9 = .ok (.ifCond .eq 10, 3) := by decide +kernel
theorem dX4_parse_12 : decode cX4_parse 12 = .ok (.iload_n 2, 1) := by decide +kernel
theorem dX4_parse_13 : decode cX4_parse 13 = .ok (.invokestatic 41, 3) := by decide +kernel
theorem dX4_parse_16 : decode cX4_parse 16 = .ok (.ifCond .ne 5, 3) := by decide +kernel
theorem dX4_parse_19 : decode cX4_parse 19 = .ok (.iconst 3, 1) := by decide +kernel
theorem dX4_parse_20 : decode cX4_parse 20 = .ok (.ireturn, 1) := by decide +kernel
theorem dX4_parse_21 : decode cX4_parse 21 = .ok (.aload_n 0, 1) := by decide +kernel
theorem dX4_parse_22 : decode cX4_parse 22 = .ok (.getfield 38, 3) := by decide +kernel
theorem dX4_parse_25 : decode cX4_parse 25 = .ok (.istore 4, 2) := by decide +kernel
theorem dX4_parse_27 : decode cX4_parse 27 = .ok (.aload_n 0, 1) := by decide +kernel
theorem dX4_parse_28 : decode cX4_parse 28 = .ok (.iconst 0, 1) := by decide +kernel
theorem dX4_parse_29 : decode cX4_parse 29 = .ok (.putfield 38, 3) := by decide +kernel
theorem dX4_parse_32 : decode cX4_parse 32 = .ok (.iload 4, 2) := by decide +kernel
theorem dX4_parse_34 : decode cX4_parse 34 = .ok (.ifCond .le 22, 3) := by decide +kernel
theorem dX4_parse_37 : decode cX4_parse 37 = .ok (.iload_n 3, 1) := by decide +kernel
theorem dX4_parse_38 : decode cX4_parse 38 = .ok (.ifCond .eq 18, 3) := by decide +kernel
theorem dX4_parse_41 : decode cX4_parse 41 = .ok (.aload_n 0, 1) := by decide +kernel
theorem dX4_parse_42 : decode cX4_parse 42 = .ok (.getfield 8, 3) := by decide +kernel
theorem dX4_parse_45 : decode cX4_parse 45 = .ok (.iconst 0, 1) := by decide +kernel
theorem dX4_parse_46 : decode cX4_parse 46 = .ok (.caload, 1) := by decide +kernel
theorem dX4_parse_47 : decode cX4_parse 47 = .ok (.bipush 45, 2) := by decide +kernel
theorem dX4_parse_49 : decode cX4_parse 49 = .ok (.if_icmp .ne 7, 3) := by decide +kernel
theorem dX4_parse_52 : decode cX4_parse 52 = .ok (.iconst 1, 1) := by decide +kernel
theorem dX4_parse_53 : decode cX4_parse 53 = .ok (.goto 4, 3) := by decide +kernel
theorem dX4_parse_56 : decode cX4_parse 56 = .ok (.iconst 0, 1) := by decide +kernel
theorem dX4_parse_57 : decode cX4_parse 57 = .ok (.istore 5, 2) := by decide +kernel
theorem dX4_parse_59 : decode cX4_parse 59 = .ok (.iload 5, 2) := by decide +kernel
theorem dX4_parse_61 : decode cX4_parse 61 = .ok (.ifCond .ne 19, 3) := by decide +kernel
theorem dX4_parse_64 : decode cX4_parse 64 = .ok (.iload 4, 2) := by decide +kernel
theorem dX4_parse_66 : decode cX4_parse 66 = .ok (.ifCond .le 18, 3) := by decide +kernel
theorem dX4_parse_69 : decode cX4_parse 69 = .ok (.aload_n 0, 1) := by decide +kernel
theorem dX4_parse_70 : decode cX4_parse 70 = .ok (.getfield 8, 3) := by decide +kernel
theorem dX4_parse_73 : decode cX4_parse 73 = .ok (.iconst 0, 1) := by decide +kernel
theorem dX4_parse_74 : decode cX4_parse 74 = .ok (.caload, 1) := by decide +kernel
theorem dX4_parse_75 : decode cX4_parse 75 = .ok (.bipush 43, 2) := by decide +kernel
theorem dX4_parse_77 : decode cX4_parse 77 = .ok (.if_icmp .ne 7, 3) := by decide +kernel
theorem dX4_parse_80 : decode cX4_parse 80 = .ok (.iconst 1, 1) := by decide +kernel
theorem dX4_parse_81 : decode cX4_parse 81 = .ok (.goto 4, 3) := by decide +kernel
theorem dX4_parse_84 : decode cX4_parse 84 = .ok (.iconst 0, 1) := by decide +kernel
theorem dX4_parse_85 : decode cX4_parse 85 = .ok (.istore 6, 2) := by decide +kernel
theorem dX4_parse_87 : decode cX4_parse 87 = .ok (.iload 6, 2) := by decide +kernel
theorem dX4_parse_89 : decode cX4_parse 89 = .ok (.iload 4, 2) := by decide +kernel
theorem dX4_parse_91 : decode cX4_parse 91 = .ok (.if_icmp .ne 5, 3) := by decide +kernel
theorem dX4_parse_94 : decode cX4_parse 94 = .ok (.iconst 1, 1) := by decide +kernel
theorem dX4_parse_95 : decode cX4_parse 95 = .ok (.ireturn, 1) := by decide +kernel
theorem dX4_parse_96 : decode cX4_parse 96 = .ok (.iload 6, 2) := by decide +kernel
theorem dX4_parse_98 : decode cX4_parse 98 = .ok (.istore 7, 2) := by decide +kernel
theorem dX4_parse_100 : decode cX4_parse 100 = .ok (.iload 7, 2) := by decide +kernel
theorem dX4_parse_102 : decode cX4_parse 102 = .ok (.iload 4, 2) := by decide +kernel
theorem dX4_parse_104 : decode cX4_parse 104 = .ok (.if_icmp .ge 25, 3) := by decide +kernel
theorem dX4_parse_107 : decode cX4_parse 107 = .ok (.aload_n 0, 1) := by decide +kernel
theorem dX4_parse_108 : decode cX4_parse 108 = .ok (.getfield 8, 3) := by decide +kernel
theorem dX4_parse_111 : decode cX4_parse 111 = .ok (.iload 7, 2) := by decide +kernel
theorem dX4_parse_113 : decode cX4_parse 113 = .ok (.caload, 1) := by decide +kernel
theorem dX4_parse_114 : decode cX4_parse 114 = .ok (.invokestatic 45, 3) := by decide +kernel
theorem dX4_parse_117 : decode cX4_parse 117 = .ok (.iload_n 2, 1) := by decide +kernel
theorem dX4_parse_118 : decode cX4_parse 118 = .ok (.if_icmp .lt 5, 3) := by decide +kernel
theorem dX4_parse_121 : decode cX4_parse 121 = .ok (.iconst 1, 1) := by decide +kernel
theorem dX4_parse_122 : decode cX4_parse 122 = .ok (.ireturn, 1) := by decide +kernel
theorem dX4_parse_123 : decode cX4_parse 123 = .ok (.iinc 7 1, 3) := by decide +kernel
theorem dX4_parse_126 : decode cX4_parse 126 = .ok (.goto (-26), 3) := by decide +kernel
theorem dX4_parse_129 : decode cX4_parse 129 = .ok (.aload_n 0, 1) := by decide +kernel
theorem dX4_parse_130 : decode cX4_parse 130 = .ok (.iconst 0, 1) := by decide +kernel
theorem dX4_parse_131 : decode cX4_parse 131 = .ok (.putfield 28, 3) := by decide +kernel
theorem dX4_parse_134 : decode cX4_parse 134 = .ok (.iload 6, 2) := by decide +kernel
theorem dX4_parse_136 : decode cX4_parse 136 = .ok (.istore 7, 2) := by decide +kernel
theorem dX4_parse_138 : decode cX4_parse 138 = .ok (.iload 7, 2) := by decide +kernel
theorem dX4_parse_140 : decode cX4_parse 140 = .ok (.iload 4, 2) := by decide +kernel
theorem dX4_parse_142 : decode cX4_parse 142 = .ok (.if_icmp .ge 38, 3) := by decide +kernel
theorem dX4_parse_145 : decode cX4_parse 145 = .ok (.aload_n 0, 1) := by decide +kernel
theorem dX4_parse_146 : decode cX4_parse 146 = .ok (.getfield 28, 3) := by decide +kernel
theorem dX4_parse_149 : decode cX4_parse 149 = .ok (.bipush 6, 2) := by decide +kernel
theorem dX4_parse_151 : decode cX4_parse 151 = .ok (.if_icmp .ge 23, 3) := by decide +kernel
theorem dX4_parse_154 : decode cX4_parse 154 = .ok (.aload_n 0, 1) := by decide +kernel
theorem dX4_parse_155 : decode cX4_parse 155 = .ok (.iload_n 2, 1) := by decide +kernel
theorem dX4_parse_156 : decode cX4_parse 156 = .ok (.aload_n 0, 1) := by decide +kernel
theorem dX4_parse_157 : decode cX4_parse 157 = .ok (.getfield 8, 3) := by decide +kernel
theorem dX4_parse_160 : decode cX4_parse 160 = .ok (.iload 7, 2) := by decide +kernel
theorem dX4_parse_162 : decode cX4_parse 162 = .ok (.caload, 1) := by decide +kernel
theorem dX4_parse_163 : decode cX4_parse 163 = .ok (.invokestatic 45, 3) := by decide +kernel
theorem dX4_parse_166 : decode cX4_parse 166 = .ok (.invokevirtual 49, 3) := by decide +kernel
theorem dX4_parse_169 : decode cX4_parse 169 = .ok (.ifCond .ne 5, 3) := by decide +kernel
theorem dX4_parse_172 : decode cX4_parse 172 = .ok (.iconst 2, 1) := by decide +kernel
theorem dX4_parse_173 : decode cX4_parse 173 = .ok (.ireturn, 1) := by decide +kernel
theorem dX4_parse_174 : decode cX4_parse 174 = .ok (.iinc 7 1, 3) := by decide +kernel
theorem dX4_parse_177 : decode cX4_parse 177 = .ok (.goto (-39), 3) := by decide +kernel
theorem dX4_parse_180 : decode cX4_parse 180 = .ok (.iload_n 1, 1) := by decide +kernel
theorem dX4_parse_181 : decode cX4_parse 181 = .ok (.bipush 16, 2) := by decide +kernel
theorem dX4_parse_183 : decode cX4_parse 183 = .ok (.idiv, 1) := by decide +kernel
theorem dX4_parse_184 : decode cX4_parse 184 = .ok (.istore 7, 2) := by decide +kernel
theorem dX4_parse_186 : decode cX4_parse 186 = .ok (.aload_n 0, 1) := by decide +kernel
theorem dX4_parse_187 : decode cX4_parse 187 = .ok (.getfield 28, 3) := by decide +kernel
theorem dX4_parse_190 : decode cX4_parse 190 = .ok (.iload 7, 2) := by decide +kernel
theorem dX4_parse_192 : decode cX4_parse 192 = .ok (.if_icmp .ne 22, 3) := by decide +kernel
theorem dX4_parse_195 : decode cX4_parse 195 = .ok (.aload_n 0, 1) := by decide +kernel
theorem dX4_parse_196 : decode cX4_parse 196 = .ok (.getfield 21, 3) := by decide +kernel
theorem dX4_parse_199 : decode cX4_parse 199 = .ok (.iload 7, 2) := by decide +kernel
theorem dX4_parse_201 : decode cX4_parse 201 = .ok (.iconst 1, 1) := by decide +kernel
theorem dX4_parse_202 : decode cX4_parse 202 = .ok (.isub, 1) := by decide +kernel
theorem dX4_parse_203 : decode cX4_parse 203 = .ok (.iaload, 1) := by decide +kernel
theorem dX4_parse_204 : decode cX4_parse 204 = .ok (.sipush 32767, 3) := by decide +kernel
theorem dX4_parse_207 : decode cX4_parse 207 = .ok (.if_icmp .le 7, 3) := by decide +kernel
theorem dX4_parse_210 : decode cX4_parse 210 = .ok (.iconst 1, 1) := by decide +kernel
theorem dX4_parse_211 : decode cX4_parse 211 = .ok (.goto 4, 3) := by decide +kernel
theorem dX4_parse_214 : decode cX4_parse 214 = .ok (.iconst 0, 1) := by decide +kernel
theorem dX4_parse_215 : decode cX4_parse 215 = .ok (.istore 8, 2) := by decide +kernel
theorem dX4_parse_217 : decode cX4_parse 217 = .ok (.iload 8, 2) := by decide +kernel
theorem dX4_parse_219 : decode cX4_parse 219 = .ok (.ifCond .eq 21, 3) := by decide +kernel
theorem dX4_parse_222 : decode cX4_parse 222 = .ok (.aload_n 0, 1) := by decide +kernel
theorem dX4_parse_223 : decode cX4_parse 223 = .ok (.getfield 21, 3) := by decide +kernel
theorem dX4_parse_226 : decode cX4_parse 226 = .ok (.iload 7, 2) := by decide +kernel
theorem dX4_parse_228 : decode cX4_parse 228 = .ok (.iconst 1, 1) := by decide +kernel
theorem dX4_parse_229 : decode cX4_parse 229 = .ok (.isub, 1) := by decide +kernel
theorem dX4_parse_230 : decode cX4_parse 230 = .ok (.iaload, 1) := by decide +kernel
theorem dX4_parse_231 : decode cX4_parse 231 = .ok (.ldc 62, 2) := by decide +kernel
theorem dX4_parse_233 : decode cX4_parse 233 = .ok (.if_icmp .ne 7, 3) := by decide +kernel
theorem dX4_parse_236 : decode cX4_parse 236 = .ok (.iconst 1, 1) := by decide +kernel
theorem dX4_parse_237 : decode cX4_parse 237 = .ok (.goto 4, 3) := by decide +kernel
theorem dX4_parse_240 : decode cX4_parse 240 = .ok (.iconst 0, 1) := by decide +kernel
theorem dX4_parse_241 : decode cX4_parse 241 = .ok (.istore 9, 2) := by decide +kernel
theorem dX4_parse_243 : decode cX4_parse 243 = .ok (.iconst 0, 1) := by decide +kernel
theorem dX4_parse_244 : decode cX4_parse 244 = .ok (.istore 10, 2) := by decide +kernel
theorem dX4_parse_246 : decode cX4_parse 246 = .ok (.iload 10, 2) := by decide +kernel
theorem dX4_parse_248 : decode cX4_parse 248 = .ok (.iload 7, 2) := by decide +kernel
theorem dX4_parse_250 : decode cX4_parse 250 = .ok (.iconst 1, 1) := by decide +kernel
theorem dX4_parse_251 : decode cX4_parse 251 = .ok (.isub, 1) := by decide +kernel
theorem dX4_parse_252 : decode cX4_parse 252 = .ok (.if_icmp .ge 31, 3) := by decide +kernel
theorem dX4_parse_255 : decode cX4_parse 255 = .ok (.iload 9, 2) := by decide +kernel
theorem dX4_parse_257 : decode cX4_parse 257 = .ok (.ifCond .eq 26, 3) := by decide +kernel
theorem dX4_parse_260 : decode cX4_parse 260 = .ok (.aload_n 0, 1) := by decide +kernel
theorem dX4_parse_261 : decode cX4_parse 261 = .ok (.getfield 21, 3) := by decide +kernel
theorem dX4_parse_264 : decode cX4_parse 264 = .ok (.iload 10, 2) := by decide +kernel
theorem dX4_parse_266 : decode cX4_parse 266 = .ok (.iaload, 1) := by decide +kernel
theorem dX4_parse_267 : decode cX4_parse 267 = .ok (.ifCond .ne 7, 3) := by decide +kernel
theorem dX4_parse_270 : decode cX4_parse 270 = .ok (.iconst 1, 1) := by decide +kernel
theorem dX4_parse_271 : decode cX4_parse 271 = .ok (.goto 4, 3) := by decide +kernel
theorem dX4_parse_274 : decode cX4_parse 274 = .ok (.iconst 0, 1) := by decide +kernel
theorem dX4_parse_275 : decode cX4_parse 275 = .ok (.istore 9, 2) := by decide +kernel
theorem dX4_parse_277 : decode cX4_parse 277 = .ok (.iinc 10 1, 3) := by decide +kernel
theorem dX4_parse_280 : decode cX4_parse 280 = .ok (.goto (-34), 3) := by decide +kernel
theorem dX4_parse_283 : decode cX4_parse 283 = .ok (.aload_n 0, 1) := by decide +kernel
theorem dX4_parse_284 : decode cX4_parse 284 = .ok (.getfield 28, 3) := by decide +kernel
theorem dX4_parse_287 : decode cX4_parse 287 = .ok (.iload 7, 2) := by decide +kernel
theorem dX4_parse_289 : decode cX4_parse 289 = .ok (.if_icmp .gt 22, 3) := by decide +kernel
theorem dX4_parse_292 : decode cX4_parse 292 = .ok (.iload_n 3, 1) := by decide +kernel
theorem dX4_parse_293 : decode cX4_parse 293 = .ok (.ifCond .eq 20, 3) := by decide +kernel
theorem dX4_parse_296 : decode cX4_parse 296 = .ok (.iload 8, 2) := by decide +kernel
theorem dX4_parse_298 : decode cX4_parse 298 = .ok (.ifCond .eq 15, 3) := by decide +kernel
theorem dX4_parse_301 : decode cX4_parse 301 = .ok (.iload 5, 2) := by decide +kernel
theorem dX4_parse_303 : decode cX4_parse 303 = .ok (.ifCond .eq 8, 3) := by decide +kernel
theorem dX4_parse_306 : decode cX4_parse 306 = .ok (.iload 9, 2) := by decide +kernel
theorem dX4_parse_308 : decode cX4_parse 308 = .ok (.ifCond .ne 5, 3) := by decide +kernel
theorem dX4_parse_311 : decode cX4_parse 311 = .ok (.iconst 2, 1) := by decide +kernel
theorem dX4_parse_312 : decode cX4_parse 312 = .ok (.ireturn, 1) := by decide +kernel
theorem dX4_parse_313 : decode cX4_parse 313 = .ok (.lconst 0, 1) := by decide +kernel
theorem dX4_parse_314 : decode cX4_parse 314 = .ok (.lstore 10, 2) := by decide +kernel
theorem dX4_parse_316 : decode cX4_parse 316 = .ok (.aload_n 0, 1) := by decide +kernel
theorem dX4_parse_317 : decode cX4_parse 317 = .ok (.getfield 28, 3) := by decide +kernel
theorem dX4_parse_320 : decode cX4_parse 320 = .ok (.iconst 1, 1) := by decide +kernel
theorem dX4_parse_321 : decode cX4_parse 321 = .ok (.isub, 1) := by decide +kernel
theorem dX4_parse_322 : decode cX4_parse 322 = .ok (.istore 12, 2) := by decide +kernel
theorem dX4_parse_324 : decode cX4_parse 324 = .ok (.iload 12, 2) := by decide +kernel
theorem dX4_parse_326 : decode cX4_parse 326 = .ok (.ifCond .lt 25, 3) := by decide +kernel
theorem dX4_parse_329 : decode cX4_parse 329 = .ok (.lload 10, 2) := by decide +kernel
theorem dX4_parse_331 : decode cX4_parse 331 = .ok (.bipush 16, 2) := by decide +kernel
theorem dX4_parse_333 : decode cX4_parse 333 = .ok (.lshl, 1) := by decide +kernel
theorem dX4_parse_334 : decode cX4_parse 334 = .ok (.aload_n 0, 1) := by decide +kernel
theorem dX4_parse_335 : decode cX4_parse 335 = .ok (.getfield 21, 3) := by decide +kernel
theorem dX4_parse_338 : decode cX4_parse 338 = .ok (.iload 12, 2) := by decide +kernel
theorem dX4_parse_340 : decode cX4_parse 340 = .ok (.iaload, 1) := by decide +kernel
theorem dX4_parse_341 : decode cX4_parse 341 = .ok (.i2l, 1) := by decide +kernel
theorem dX4_parse_342 : decode cX4_parse 342 = .ok (.lor, 1) := by decide +kernel
theorem dX4_parse_343 : decode cX4_parse 343 = .ok (.lstore 10, 2) := by decide +kernel
theorem dX4_parse_345 : decode cX4_parse 345 = .ok (.iinc 12 (-1), 3) := by decide +kernel
theorem dX4_parse_348 : decode cX4_parse 348 = .ok (.goto (-24), 3) := by decide +kernel
theorem dX4_parse_351 : decode cX4_parse 351 = .ok (.aload_n 0, 1) := by decide +kernel
theorem dX4_parse_352 : decode cX4_parse 352 = .ok (.iload 5, 2) := by decide +kernel
theorem dX4_parse_354 : decode cX4_parse 354 = .ok (.ifCond .eq 9, 3) := by decide +kernel
theorem dX4_parse_357 : decode cX4_parse 357 = .ok (.lload 10, 2) := by decide +kernel
theorem dX4_parse_359 : decode cX4_parse 359 = .ok (.lneg, 1) := by decide +kernel
theorem dX4_parse_360 : decode cX4_parse 360 = .ok (.goto 5, 3) := by decide +kernel
theorem dX4_parse_363 : decode cX4_parse 363 = .ok (.lload 10, 2) := by decide +kernel
theorem dX4_parse_365 : decode cX4_parse 365 = .ok (.putfield 84, 3) := by decide +kernel
theorem dX4_parse_368 : decode cX4_parse 368 = .ok (.iconst 0, 1) := by decide +kernel
theorem dX4_parse_369 : decode cX4_parse 369 = .ok (.ireturn, 1) := by decide +kernel
theorem dX4_value_0 : decode cX4_value 0 = .ok (.aload_n 0, 1) := by decide +kernel
theorem dX4_value_1 : decode cX4_value 1 = .ok (.iconst 0, 1) := by decide +kernel
theorem dX4_value_2 : decode cX4_value 2 = .ok (.putfield 24, 3) := by decide +kernel
theorem dX4_value_5 : decode cX4_value 5 = .ok (.aload_n 0, 1) := by decide +kernel
theorem dX4_value_6 : decode cX4_value 6 = .ok (.getfield 84, 3) := by decide +kernel
theorem dX4_value_9 : decode cX4_value 9 = .ok (.lreturn, 1) := by decide +kernel
theorem dJ6_numberOfLeadingZeros_0f7a4_0 : decode cJ6_numberOfLeadingZeros_0f7a4 0 = .ok (.iload_n 0, 1) := by decide +kernel
theorem dJ6_numberOfLeadingZeros_0f7a4_1 : decode cJ6_numberOfLeadingZeros_0f7a4 1 = .ok (.ifCond .gt 14, 3) := by decide +kernel
theorem dJ6_numberOfLeadingZeros_0f7a4_4 : decode cJ6_numberOfLeadingZeros_0f7a4 4 = .ok (.iload_n 0, 1) := by decide +kernel
theorem dJ6_numberOfLeadingZeros_0f7a4_5 : decode cJ6_numberOfLeadingZeros_0f7a4 5 = .ok (.ifCond .ne 8, 3) := by decide +kernel
theorem dJ6_numberOfLeadingZeros_0f7a4_8 : decode cJ6_numberOfLeadingZeros_0f7a4 8 = .ok (.bipush 32, 2) := by decide +kernel
theorem dJ6_numberOfLeadingZeros_0f7a4_10 : decode cJ6_numberOfLeadingZeros_0f7a4 10 = .ok (.goto 4, 3) := by decide +kernel
theorem dJ6_numberOfLeadingZeros_0f7a4_13 : decode cJ6_numberOfLeadingZeros_0f7a4 13 = .ok (.iconst 0, 1) := by decide +kernel
theorem dJ6_numberOfLeadingZeros_0f7a4_14 : decode cJ6_numberOfLeadingZeros_0f7a4 14 = .ok (.ireturn, 1) := by decide +kernel
theorem dJ6_numberOfLeadingZeros_0f7a4_15 : decode cJ6_numberOfLeadingZeros_0f7a4 15 = .ok (.bipush 31, 2) := by decide +kernel
theorem dJ6_numberOfLeadingZeros_0f7a4_17 : decode cJ6_numberOfLeadingZeros_0f7a4 17 = .ok (.istore_n 1, 1) := by decide +kernel
theorem dJ6_numberOfLeadingZeros_0f7a4_18 : decode cJ6_numberOfLeadingZeros_0f7a4 18 = .ok (.iload_n 0, 1) := by decide +kernel
theorem dJ6_numberOfLeadingZeros_0f7a4_19 : decode cJ6_numberOfLeadingZeros_0f7a4 19 = .ok (.ldc_w 264, 3) := by decide +kernel
theorem dJ6_numberOfLeadingZeros_0f7a4_22 : decode cJ6_numberOfLeadingZeros_0f7a4 22 = .ok (.if_icmp .lt 11, 3) := by decide +kernel
theorem dJ6_numberOfLeadingZeros_0f7a4_25 : decode cJ6_numberOfLeadingZeros_0f7a4 25 = .ok (.iinc 1 (-16), 3) := by decide +kernel
theorem dJ6_numberOfLeadingZeros_0f7a4_28 : decode cJ6_numberOfLeadingZeros_0f7a4 28 = .ok (.iload_n 0, 1) := by decide +kernel
theorem dJ6_numberOfLeadingZeros_0f7a4_29 : decode cJ6_numberOfLeadingZeros_0f7a4 29 = .ok (.bipush 16, 2) := by decide +kernel
theorem dJ6_numberOfLeadingZeros_0f7a4_31 : decode cJ6_numberOfLeadingZeros_0f7a4 31 = .ok (.iushr, 1) := by decide +kernel
theorem dJ6_numberOfLeadingZeros_0f7a4_32 : decode cJ6_numberOfLeadingZeros_0f7a4 32 = .ok (.istore_n 0, 1) := by decide +kernel
theorem dJ6_numberOfLeadingZeros_0f7a4_33 : decode cJ6_numberOfLeadingZeros_0f7a4 33 = .ok (.iload_n 0, 1) := by decide +kernel
theorem dJ6_numberOfLeadingZeros_0f7a4_34 : decode cJ6_numberOfLeadingZeros_0f7a4 34 = .ok (.sipush 256, 3) := by decide +kernel
theorem dJ6_numberOfLeadingZeros_0f7a4_37 : decode cJ6_numberOfLeadingZeros_0f7a4 37 = .ok (.if_icmp .lt 11, 3) := by decide +kernel
theorem dJ6_numberOfLeadingZeros_0f7a4_40 : decode cJ6_numberOfLeadingZeros_0f7a4 40 = .ok (.iinc 1 (-8), 3) := by decide +kernel
theorem dJ6_numberOfLeadingZeros_0f7a4_43 : decode cJ6_numberOfLeadingZeros_0f7a4 43 = .ok (.iload_n 0, 1) := by decide +kernel
theorem dJ6_numberOfLeadingZeros_0f7a4_44 : decode cJ6_numberOfLeadingZeros_0f7a4 44 = .ok (.bipush 8, 2) := by decide +kernel
theorem dJ6_numberOfLeadingZeros_0f7a4_46 : decode cJ6_numberOfLeadingZeros_0f7a4 46 = .ok (.iushr, 1) := by decide +kernel
theorem dJ6_numberOfLeadingZeros_0f7a4_47 : decode cJ6_numberOfLeadingZeros_0f7a4 47 = .ok (.istore_n 0, 1) := by decide +kernel
theorem dJ6_numberOfLeadingZeros_0f7a4_48 : decode cJ6_numberOfLeadingZeros_0f7a4 48 = .ok (.iload_n 0, 1) := by decide +kernel
theorem dJ6_numberOfLeadingZeros_0f7a4_49 : decode cJ6_numberOfLeadingZeros_0f7a4 49 = .ok (.bipush 16, 2) := by decide +kernel
theorem dJ6_numberOfLeadingZeros_0f7a4_51 : decode cJ6_numberOfLeadingZeros_0f7a4 51 = .ok (.if_icmp .lt 10, 3) := by decide +kernel
theorem dJ6_numberOfLeadingZeros_0f7a4_54 : decode cJ6_numberOfLeadingZeros_0f7a4 54 = .ok (.iinc 1 (-4), 3) := by decide +kernel
theorem dJ6_numberOfLeadingZeros_0f7a4_57 : decode cJ6_numberOfLeadingZeros_0f7a4 57 = .ok (.iload_n 0, 1) := by decide +kernel
theorem dJ6_numberOfLeadingZeros_0f7a4_58 : decode cJ6_numberOfLeadingZeros_0f7a4 58 = .ok (.iconst 4, 1) := by decide +kernel
theorem dJ6_numberOfLeadingZeros_0f7a4_59 : decode cJ6_numberOfLeadingZeros_0f7a4 59 = .ok (.iushr, 1) := by decide +kernel
theorem dJ6_numberOfLeadingZeros_0f7a4_60 : decode cJ6_numberOfLeadingZeros_0f7a4 60 = .ok (.istore_n 0, 1) := by decide +kernel
theorem dJ6_numberOfLeadingZeros_0f7a4_61 : decode cJ6_numberOfLeadingZeros_0f7a4 61 = .ok (.iload_n 0, 1) := by decide +kernel
theorem dJ6_numberOfLeadingZeros_0f7a4_62 : decode cJ6_numberOfLeadingZeros_0f7a4 62 = .ok (.iconst 4, 1) := by decide +kernel
theorem dJ6_numberOfLeadingZeros_0f7a4_63 : decode cJ6_numberOfLeadingZeros_0f7a4 63 = .ok (.if_icmp .lt 10, 3) := by decide +kernel
theorem dJ6_numberOfLeadingZeros_0f7a4_66 : decode cJ6_numberOfLeadingZeros_0f7a4 66 = .ok (.iinc 1 (-2), 3) := by decide +kernel
theorem dJ6_numberOfLeadingZeros_0f7a4_69 : decode cJ6_numberOfLeadingZeros_0f7a4 69 = .ok (.iload_n 0, 1) := by decide +kernel
theorem dJ6_numberOfLeadingZeros_0f7a4_70 : decode cJ6_numberOfLeadingZeros_0f7a4 70 = .ok (.iconst 2, 1) := by decide +kernel
theorem dJ6_numberOfLeadingZeros_0f7a4_71 : decode cJ6_numberOfLeadingZeros_0f7a4 71 = .ok (.iushr, 1) := by decide +kernel
theorem dJ6_numberOfLeadingZeros_0f7a4_72 : decode cJ6_numberOfLeadingZeros_0f7a4 72 = .ok (.istore_n 0, 1) := by decide +kernel
theorem dJ6_numberOfLeadingZeros_0f7a4_73 : decode cJ6_numberOfLeadingZeros_0f7a4 73 = .ok (.iload_n 1, 1) := by decide +kernel
theorem dJ6_numberOfLeadingZeros_0f7a4_74 : decode cJ6_numberOfLeadingZeros_0f7a4 74 = .ok (.iload_n 0, 1) := by decide +kernel
theorem dJ6_numberOfLeadingZeros_0f7a4_75 : decode cJ6_numberOfLeadingZeros_0f7a4 75 = .ok (.iconst 1, 1) := by decide +kernel
theorem dJ6_numberOfLeadingZeros_0f7a4_76 : decode cJ6_numberOfLeadingZeros_0f7a4 76 = .ok (.iushr, 1) := by decide +kernel
theorem dJ6_numberOfLeadingZeros_0f7a4_77 : decode cJ6_numberOfLeadingZeros_0f7a4 77 = .ok (.isub, 1) := by decide +kernel
theorem dJ6_numberOfLeadingZeros_0f7a4_78 : decode cJ6_numberOfLeadingZeros_0f7a4 78 = .ok (.ireturn, 1) := by decide +kernel
theorem dJ9_max_7cf53_0 : decode cJ9_max_7cf53 0 = .ok (.iload_n 0, 1) := by decide +kernel
theorem dJ9_max_7cf53_1 : decode cJ9_max_7cf53 1 = .ok (.iload_n 1, 1) := by decide +kernel
theorem dJ9_max_7cf53_2 : decode cJ9_max_7cf53 2 = .ok (.if_icmp .lt 7, 3) := by decide +kernel
theorem dJ9_max_7cf53_5 : decode cJ9_max_7cf53 5 = .ok (.iload_n 0, 1) := by decide +kernel
theorem dJ9_max_7cf53_6 : decode cJ9_max_7cf53 6 = .ok (.goto 4, 3) := by decide +kernel
theorem dJ9_max_7cf53_9 : decode cJ9_max_7cf53 9 = .ok (.iload_n 1, 1) := by decide +kernel
theorem dJ9_max_7cf53_10 : decode cJ9_max_7cf53 10 = .ok (.ireturn, 1) := by decide +kernel
theorem dJ9_min_7cf53_0 : decode cJ9_min_7cf53 0 = .ok (.iload_n 0, 1) := by decide +kernel
theorem dJ9_min_7cf53_1 : decode cJ9_min_7cf53 1 = .ok (.iload_n 1, 1) := by decide +kernel
theorem dJ9_min_7cf53_2 : decode cJ9_min_7cf53 2 = .ok (.if_icmp .gt 7, 3) := by decide +kernel
theorem dJ9_min_7cf53_5 : decode cJ9_min_7cf53 5 = .ok (.iload_n 0, 1) := by decide +kernel
theorem dJ9_min_7cf53_6 : decode cJ9_min_7cf53 6 = .ok (.goto 4, 3) := by decide +kernel
theorem dJ9_min_7cf53_9 : decode cJ9_min_7cf53 9 = .ok (.iload_n 1, 1) := by decide +kernel
theorem dJ9_min_7cf53_10 : decode cJ9_min_7cf53 10 = .ok (.ireturn, 1) := by decide +kernel
theorem dL_law_0 : decode cL_law 0 = .ok (.new 7, 3) := by decide +kernel
theorem dL_law_3 : decode cL_law 3 = .ok (.dup, 1) := by decide +kernel
theorem dL_law_4 : decode cL_law 4 = .ok (.invokespecial 9, 3) := by decide +kernel
theorem dL_law_7 : decode cL_law 7 = .ok (.astore_n 1, 1) := by decide +kernel
theorem dL_law_8 : decode cL_law 8 = .ok (.new 10, 3) := by decide +kernel
theorem dL_law_11 : decode cL_law 11 = .ok (.dup, 1) := by decide +kernel
theorem dL_law_12 : decode cL_law 12 = .ok (.invokespecial 12, 3) := by decide +kernel
theorem dL_law_15 : decode cL_law 15 = .ok (.astore_n 2, 1) := by decide +kernel
theorem dL_law_16 : decode cL_law 16 = .ok (.iconst 0, 1) := by decide +kernel
theorem dL_law_17 : decode cL_law 17 = .ok (.istore_n 3, 1) := by decide +kernel
theorem dL_law_18 : decode cL_law 18 = .ok (.iload_n 3, 1) := by decide +kernel
theorem dL_law_19 : decode cL_law 19 = .ok (.aload_n 0, 1) := by decide +kernel
theorem dL_law_20 : decode cL_law 20 = .ok (.arraylength, 1) := by decide +kernel
theorem dL_law_21 : decode cL_law 21 = .ok (.bipush 6, 2) := by decide +kernel
theorem dL_law_23 : decode cL_law 23 = .ok (.isub, 1) := by decide +kernel
theorem dL_law_24 : decode cL_law 24 = .ok (.if_icmp .gt 571, 3) := by decide +kernel
theorem dL_law_27 : decode cL_law 27 = .ok (.aload_n 0, 1) := by decide +kernel
theorem dL_law_28 : decode cL_law 28 = .ok (.iload_n 3, 1) := by decide +kernel
theorem dL_law_29 : decode cL_law 29 = .ok (.iaload, 1) := by decide +kernel
theorem dL_law_30 : decode cL_law 30 = .ok (.bipush 15, 2) := by decide +kernel
theorem dL_law_32 : decode cL_law 32 = .ok (.iand, 1) := by decide +kernel
theorem dL_law_33 : decode cL_law 33 = .ok (.tableswitch 556 0 13 #[71, 124, 157, 180, 203, 256, 289, 312, 411, 470, 484, 507, 520, 543], 71) := by decide +kernel
theorem dL_law_104 : decode cL_law 104 = .ok (.aload_n 1, 1) := by decide +kernel
theorem dL_law_105 : decode cL_law 105 = .ok (.aload_n 0, 1) := by decide +kernel
theorem dL_law_106 : decode cL_law 106 = .ok (.iload_n 3, 1) := by decide +kernel
theorem dL_law_107 : decode cL_law 107 = .ok (.iconst 1, 1) := by decide +kernel
theorem dL_law_108 : decode cL_law 108 = .ok (.iadd, 1) := by decide +kernel
theorem dL_law_109 : decode cL_law 109 = .ok (.iaload, 1) := by decide +kernel
theorem dL_law_110 : decode cL_law 110 = .ok (.i2l, 1) := by decide +kernel
theorem dL_law_111 : decode cL_law 111 = .ok (.bipush 32, 2) := by decide +kernel
theorem dL_law_113 : decode cL_law 113 = .ok (.lshl, 1) := by decide +kernel
theorem dL_law_114 : decode cL_law 114 = .ok (.aload_n 0, 1) := by decide +kernel
theorem dL_law_115 : decode cL_law 115 = .ok (.iload_n 3, 1) := by decide +kernel
theorem dL_law_116 : decode cL_law 116 = .ok (.iconst 2, 1) := by decide +kernel
theorem dL_law_117 : decode cL_law 117 = .ok (.iadd, 1) := by decide +kernel
theorem dL_law_118 : decode cL_law 118 = .ok (.iaload, 1) := by decide +kernel
theorem dL_law_119 : decode cL_law 119 = .ok (.i2l, 1) := by decide +kernel
theorem dL_law_120 : decode cL_law 120 = .ok (.ldc2_w 13, 3) := by decide +kernel
theorem dL_law_123 : decode cL_law 123 = .ok (.land, 1) := by decide +kernel
theorem dL_law_124 : decode cL_law 124 = .ok (.lor, 1) := by decide +kernel
theorem dL_law_125 : decode cL_law 125 = .ok (.invokevirtual 15, 3) := by decide +kernel
theorem dL_law_128 : decode cL_law 128 = .ok (.aload_n 2, 1) := by decide +kernel
theorem dL_law_129 : decode cL_law 129 = .ok (.aload_n 0, 1) := by decide +kernel
theorem dL_law_130 : decode cL_law 130 = .ok (.iload_n 3, 1) := by decide +kernel
theorem dL_law_131 : decode cL_law 131 = .ok (.iconst 1, 1) := by decide +kernel
theorem dL_law_132 : decode cL_law 132 = .ok (.iadd, 1) := by decide +kernel
theorem dL_law_133 : decode cL_law 133 = .ok (.iaload, 1) := by decide +kernel
theorem dL_law_134 : decode cL_law 134 = .ok (.i2l, 1) := by decide +kernel
theorem dL_law_135 : decode cL_law 135 = .ok (.bipush 32, 2) := by decide +kernel
theorem dL_law_137 : decode cL_law 137 = .ok (.lshl, 1) := by decide +kernel
theorem dL_law_138 : decode cL_law 138 = .ok (.aload_n 0, 1) := by decide +kernel
theorem dL_law_139 : decode cL_law 139 = .ok (.iload_n 3, 1) := by decide +kernel
theorem dL_law_140 : decode cL_law 140 = .ok (.iconst 2, 1) := by decide +kernel
theorem dL_law_141 : decode cL_law 141 = .ok (.iadd, 1) := by decide +kernel
theorem dL_law_142 : decode cL_law 142 = .ok (.iaload, 1) := by decide +kernel
theorem dL_law_143 : decode cL_law 143 = .ok (.i2l, 1) := by decide +kernel
theorem dL_law_144 : decode cL_law 144 = .ok (.ldc2_w 13, 3) := by decide +kernel
theorem dL_law_147 : decode cL_law 147 = .ok (.land, 1) := by decide +kernel
theorem dL_law_148 : decode cL_law 148 = .ok (.lor, 1) := by decide +kernel
theorem dL_law_149 : decode cL_law 149 = .ok (.invokevirtual 19, 3) := by decide +kernel
theorem dL_law_152 : decode cL_law 152 = .ok (.if_icmp .eq 437, 3) := by decide +kernel
theorem dL_law_155 : decode cL_law 155 = .ok (.iconst 0, 1) := by decide +kernel
theorem dL_law_156 : decode cL_law 156 = .ok (.ireturn, 1) := by decide +kernel
theorem dL_law_157 : decode cL_law 157 = .ok (.aload_n 1, 1) := by decide +kernel
theorem dL_law_158 : decode cL_law 158 = .ok (.aload_n 0, 1) := by decide +kernel
theorem dL_law_159 : decode cL_law 159 = .ok (.iload_n 3, 1) := by decide +kernel
theorem dL_law_160 : decode cL_law 160 = .ok (.iconst 1, 1) := by decide +kernel
theorem dL_law_161 : decode cL_law 161 = .ok (.iadd, 1) := by decide +kernel
theorem dL_law_162 : decode cL_law 162 = .ok (.iaload, 1) := by decide +kernel
theorem dL_law_163 : decode cL_law 163 = .ok (.aload_n 0, 1) := by decide +kernel
theorem dL_law_164 : decode cL_law 164 = .ok (.iload_n 3, 1) := by decide +kernel
theorem dL_law_165 : decode cL_law 165 = .ok (.iconst 2, 1) := by decide +kernel
theorem dL_law_166 : decode cL_law 166 = .ok (.iadd, 1) := by decide +kernel
theorem dL_law_167 : decode cL_law 167 = .ok (.iaload, 1) := by decide +kernel
theorem dL_law_168 : decode cL_law 168 = .ok (.invokevirtual 20, 3) := by decide +kernel
theorem dL_law_171 : decode cL_law 171 = .ok (.aload_n 2, 1) := by decide +kernel
theorem dL_law_172 : decode cL_law 172 = .ok (.aload_n 0, 1) := by decide +kernel
theorem dL_law_173 : decode cL_law 173 = .ok (.iload_n 3, 1) := by decide +kernel
theorem dL_law_174 : decode cL_law 174 = .ok (.iconst 1, 1) := by decide +kernel
theorem dL_law_175 : decode cL_law 175 = .ok (.iadd, 1) := by decide +kernel
theorem dL_law_176 : decode cL_law 176 = .ok (.iaload, 1) := by decide +kernel
theorem dL_law_177 : decode cL_law 177 = .ok (.aload_n 0, 1) := by decide +kernel
theorem dL_law_178 : decode cL_law 178 = .ok (.iload_n 3, 1) := by decide +kernel
theorem dL_law_179 : decode cL_law 179 = .ok (.iconst 2, 1) := by decide +kernel
theorem dL_law_180 : decode cL_law 180 = .ok (.iadd, 1) := by decide +kernel
theorem dL_law_181 : decode cL_law 181 = .ok (.iaload, 1) := by decide +kernel
theorem dL_law_182 : decode cL_law 182 = .ok (.invokevirtual 24, 3) := by decide +kernel
theorem dL_law_185 : decode cL_law 185 = .ok (.if_icmp .eq 404, 3) := by decide +kernel
theorem dL_law_188 : decode cL_law 188 = .ok (.iconst 0, 1) := by decide +kernel
theorem dL_law_189 : decode cL_law 189 = .ok (.ireturn, 1) := by decide +kernel
theorem dL_law_190 : decode cL_law 190 = .ok (.aload_n 1, 1) := by decide +kernel
theorem dL_law_191 : decode cL_law 191 = .ok (.aload_n 0, 1) := by decide +kernel
theorem dL_law_192 : decode cL_law 192 = .ok (.iload_n 3, 1) := by decide +kernel
theorem dL_law_193 : decode cL_law 193 = .ok (.iconst 1, 1) := by decide +kernel
theorem dL_law_194 : decode cL_law 194 = .ok (.iadd, 1) := by decide +kernel
theorem dL_law_195 : decode cL_law 195 = .ok (.iaload, 1) := by decide +kernel
theorem dL_law_196 : decode cL_law 196 = .ok (.invokevirtual 25, 3) := by decide +kernel
theorem dL_law_199 : decode cL_law 199 = .ok (.aload_n 2, 1) := by decide +kernel
theorem dL_law_200 : decode cL_law 200 = .ok (.aload_n 0, 1) := by decide +kernel
theorem dL_law_201 : decode cL_law 201 = .ok (.iload_n 3, 1) := by decide +kernel
theorem dL_law_202 : decode cL_law 202 = .ok (.iconst 1, 1) := by decide +kernel
theorem dL_law_203 : decode cL_law 203 = .ok (.iadd, 1) := by decide +kernel
theorem dL_law_204 : decode cL_law 204 = .ok (.iaload, 1) := by decide +kernel
theorem dL_law_205 : decode cL_law 205 = .ok (.invokevirtual 29, 3) := by decide +kernel
theorem dL_law_208 : decode cL_law 208 = .ok (.if_icmp .eq 381, 3) := by decide +kernel
theorem dL_law_211 : decode cL_law 211 = .ok (.iconst 0, 1) := by decide +kernel
theorem dL_law_212 : decode cL_law 212 = .ok (.ireturn, 1) := by decide +kernel
theorem dL_law_213 : decode cL_law 213 = .ok (.aload_n 1, 1) := by decide +kernel
theorem dL_law_214 : decode cL_law 214 = .ok (.aload_n 0, 1) := by decide +kernel
theorem dL_law_215 : decode cL_law 215 = .ok (.iload_n 3, 1) := by decide +kernel
theorem dL_law_216 : decode cL_law 216 = .ok (.iconst 1, 1) := by decide +kernel
theorem dL_law_217 : decode cL_law 217 = .ok (.iadd, 1) := by decide +kernel
theorem dL_law_218 : decode cL_law 218 = .ok (.iaload, 1) := by decide +kernel
theorem dL_law_219 : decode cL_law 219 = .ok (.invokevirtual 30, 3) := by decide +kernel
theorem dL_law_222 : decode cL_law 222 = .ok (.aload_n 2, 1) := by decide +kernel
theorem dL_law_223 : decode cL_law 223 = .ok (.aload_n 0, 1) := by decide +kernel
theorem dL_law_224 : decode cL_law 224 = .ok (.iload_n 3, 1) := by decide +kernel
theorem dL_law_225 : decode cL_law 225 = .ok (.iconst 1, 1) := by decide +kernel
theorem dL_law_226 : decode cL_law 226 = .ok (.iadd, 1) := by decide +kernel
theorem dL_law_227 : decode cL_law 227 = .ok (.iaload, 1) := by decide +kernel
theorem dL_law_228 : decode cL_law 228 = .ok (.invokevirtual 33, 3) := by decide +kernel
theorem dL_law_231 : decode cL_law 231 = .ok (.if_icmp .eq 358, 3) := by decide +kernel
theorem dL_law_234 : decode cL_law 234 = .ok (.iconst 0, 1) := by decide +kernel
theorem dL_law_235 : decode cL_law 235 = .ok (.ireturn, 1) := by decide +kernel
theorem dL_law_236 : decode cL_law 236 = .ok (.aload_n 1, 1) := by decide +kernel
theorem dL_law_237 : decode cL_law 237 = .ok (.aload_n 0, 1) := by decide +kernel
theorem dL_law_238 : decode cL_law 238 = .ok (.iload_n 3, 1) := by decide +kernel
theorem dL_law_239 : decode cL_law 239 = .ok (.iconst 1, 1) := by decide +kernel
theorem dL_law_240 : decode cL_law 240 = .ok (.iadd, 1) := by decide +kernel
theorem dL_law_241 : decode cL_law 241 = .ok (.iaload, 1) := by decide +kernel
theorem dL_law_242 : decode cL_law 242 = .ok (.i2l, 1) := by decide +kernel
theorem dL_law_243 : decode cL_law 243 = .ok (.bipush 32, 2) := by decide +kernel
theorem dL_law_245 : decode cL_law 245 = .ok (.lshl, 1) := by decide +kernel
theorem dL_law_246 : decode cL_law 246 = .ok (.aload_n 0, 1) := by decide +kernel
theorem dL_law_247 : decode cL_law 247 = .ok (.iload_n 3, 1) := by decide +kernel
theorem dL_law_248 : decode cL_law 248 = .ok (.iconst 2, 1) := by decide +kernel
theorem dL_law_249 : decode cL_law 249 = .ok (.iadd, 1) := by decide +kernel
theorem dL_law_250 : decode cL_law 250 = .ok (.iaload, 1) := by decide +kernel
theorem dL_law_251 : decode cL_law 251 = .ok (.i2l, 1) := by decide +kernel
theorem dL_law_252 : decode cL_law 252 = .ok (.ldc2_w 13, 3) := by decide +kernel
theorem dL_law_255 : decode cL_law 255 = .ok (.land, 1) := by decide +kernel
theorem dL_law_256 : decode cL_law 256 = .ok (.lor, 1) := by decide +kernel
theorem dL_law_257 : decode cL_law 257 = .ok (.invokevirtual 34, 3) := by decide +kernel
theorem dL_law_260 : decode cL_law 260 = .ok (.aload_n 2, 1) := by decide +kernel
theorem dL_law_261 : decode cL_law 261 = .ok (.aload_n 0, 1) := by decide +kernel
theorem dL_law_262 : decode cL_law 262 = .ok (.iload_n 3, 1) := by decide +kernel
theorem dL_law_263 : decode cL_law 263 = .ok (.iconst 1, 1) := by decide +kernel
theorem dL_law_264 : decode cL_law 264 = .ok (.iadd, 1) := by decide +kernel
theorem dL_law_265 : decode cL_law 265 = .ok (.iaload, 1) := by decide +kernel
theorem dL_law_266 : decode cL_law 266 = .ok (.i2l, 1) := by decide +kernel
theorem dL_law_267 : decode cL_law 267 = .ok (.bipush 32, 2) := by decide +kernel
theorem dL_law_269 : decode cL_law 269 = .ok (.lshl, 1) := by decide +kernel
theorem dL_law_270 : decode cL_law 270 = .ok (.aload_n 0, 1) := by decide +kernel
theorem dL_law_271 : decode cL_law 271 = .ok (.iload_n 3, 1) := by decide +kernel
theorem dL_law_272 : decode cL_law 272 = .ok (.iconst 2, 1) := by decide +kernel
theorem dL_law_273 : decode cL_law 273 = .ok (.iadd, 1) := by decide +kernel
theorem dL_law_274 : decode cL_law 274 = .ok (.iaload, 1) := by decide +kernel
theorem dL_law_275 : decode cL_law 275 = .ok (.i2l, 1) := by decide +kernel
theorem dL_law_276 : decode cL_law 276 = .ok (.ldc2_w 13, 3) := by decide +kernel
theorem dL_law_279 : decode cL_law 279 = .ok (.land, 1) := by decide +kernel
theorem dL_law_280 : decode cL_law 280 = .ok (.lor, 1) := by decide +kernel
theorem dL_law_281 : decode cL_law 281 = .ok (.invokevirtual 37, 3) := by decide +kernel
theorem dL_law_284 : decode cL_law 284 = .ok (.if_icmp .eq 305, 3) := by decide +kernel
theorem dL_law_287 : decode cL_law 287 = .ok (.iconst 0, 1) := by decide +kernel
theorem dL_law_288 : decode cL_law 288 = .ok (.ireturn, 1) := by decide +kernel
theorem dL_law_289 : decode cL_law 289 = .ok (.aload_n 1, 1) := by decide +kernel
theorem dL_law_290 : decode cL_law 290 = .ok (.aload_n 0, 1) := by decide +kernel
theorem dL_law_291 : decode cL_law 291 = .ok (.iload_n 3, 1) := by decide +kernel
theorem dL_law_292 : decode cL_law 292 = .ok (.iconst 1, 1) := by decide +kernel
theorem dL_law_293 : decode cL_law 293 = .ok (.iadd, 1) := by decide +kernel
theorem dL_law_294 : decode cL_law 294 = .ok (.iaload, 1) := by decide +kernel
theorem dL_law_295 : decode cL_law 295 = .ok (.aload_n 0, 1) := by decide +kernel
theorem dL_law_296 : decode cL_law 296 = .ok (.iload_n 3, 1) := by decide +kernel
theorem dL_law_297 : decode cL_law 297 = .ok (.iconst 2, 1) := by decide +kernel
theorem dL_law_298 : decode cL_law 298 = .ok (.iadd, 1) := by decide +kernel
theorem dL_law_299 : decode cL_law 299 = .ok (.iaload, 1) := by decide +kernel
theorem dL_law_300 : decode cL_law 300 = .ok (.invokevirtual 38, 3) := by decide +kernel
theorem dL_law_303 : decode cL_law 303 = .ok (.aload_n 2, 1) := by decide +kernel
theorem dL_law_304 : decode cL_law 304 = .ok (.aload_n 0, 1) := by decide +kernel
theorem dL_law_305 : decode cL_law 305 = .ok (.iload_n 3, 1) := by decide +kernel
theorem dL_law_306 : decode cL_law 306 = .ok (.iconst 1, 1) := by decide +kernel
theorem dL_law_307 : decode cL_law 307 = .ok (.iadd, 1) := by decide +kernel
theorem dL_law_308 : decode cL_law 308 = .ok (.iaload, 1) := by decide +kernel
theorem dL_law_309 : decode cL_law 309 = .ok (.aload_n 0, 1) := by decide +kernel
theorem dL_law_310 : decode cL_law 310 = .ok (.iload_n 3, 1) := by decide +kernel
theorem dL_law_311 : decode cL_law 311 = .ok (.iconst 2, 1) := by decide +kernel
theorem dL_law_312 : decode cL_law 312 = .ok (.iadd, 1) := by decide +kernel
theorem dL_law_313 : decode cL_law 313 = .ok (.iaload, 1) := by decide +kernel
theorem dL_law_314 : decode cL_law 314 = .ok (.invokevirtual 41, 3) := by decide +kernel
theorem dL_law_317 : decode cL_law 317 = .ok (.if_icmp .eq 272, 3) := by decide +kernel
theorem dL_law_320 : decode cL_law 320 = .ok (.iconst 0, 1) := by decide +kernel
theorem dL_law_321 : decode cL_law 321 = .ok (.ireturn, 1) := by decide +kernel
theorem dL_law_322 : decode cL_law 322 = .ok (.aload_n 1, 1) := by decide +kernel
theorem dL_law_323 : decode cL_law 323 = .ok (.aload_n 0, 1) := by decide +kernel
theorem dL_law_324 : decode cL_law 324 = .ok (.iload_n 3, 1) := by decide +kernel
theorem dL_law_325 : decode cL_law 325 = .ok (.iconst 1, 1) := by decide +kernel
theorem dL_law_326 : decode cL_law 326 = .ok (.iadd, 1) := by decide +kernel
theorem dL_law_327 : decode cL_law 327 = .ok (.iaload, 1) := by decide +kernel
theorem dL_law_328 : decode cL_law 328 = .ok (.invokevirtual 42, 3) := by decide +kernel
theorem dL_law_331 : decode cL_law 331 = .ok (.aload_n 2, 1) := by decide +kernel
theorem dL_law_332 : decode cL_law 332 = .ok (.aload_n 0, 1) := by decide +kernel
theorem dL_law_333 : decode cL_law 333 = .ok (.iload_n 3, 1) := by decide +kernel
theorem dL_law_334 : decode cL_law 334 = .ok (.iconst 1, 1) := by decide +kernel
theorem dL_law_335 : decode cL_law 335 = .ok (.iadd, 1) := by decide +kernel
theorem dL_law_336 : decode cL_law 336 = .ok (.iaload, 1) := by decide +kernel
theorem dL_law_337 : decode cL_law 337 = .ok (.invokevirtual 46, 3) := by decide +kernel
theorem dL_law_340 : decode cL_law 340 = .ok (.if_icmp .eq 249, 3) := by decide +kernel
theorem dL_law_343 : decode cL_law 343 = .ok (.iconst 0, 1) := by decide +kernel
theorem dL_law_344 : decode cL_law 344 = .ok (.ireturn, 1) := by decide +kernel
theorem dL_law_345 : decode cL_law 345 = .ok (.aload_n 1, 1) := by decide +kernel
theorem dL_law_346 : decode cL_law 346 = .ok (.aload_n 0, 1) := by decide +kernel
theorem dL_law_347 : decode cL_law 347 = .ok (.iload_n 3, 1) := by decide +kernel
theorem dL_law_348 : decode cL_law 348 = .ok (.iconst 1, 1) := by decide +kernel
theorem dL_law_349 : decode cL_law 349 = .ok (.iadd, 1) := by decide +kernel
theorem dL_law_350 : decode cL_law 350 = .ok (.iaload, 1) := by decide +kernel
theorem dL_law_351 : decode cL_law 351 = .ok (.i2l, 1) := by decide +kernel
theorem dL_law_352 : decode cL_law 352 = .ok (.bipush 32, 2) := by decide +kernel
theorem dL_law_354 : decode cL_law 354 = .ok (.lshl, 1) := by decide +kernel
theorem dL_law_355 : decode cL_law 355 = .ok (.aload_n 0, 1) := by decide +kernel
theorem dL_law_356 : decode cL_law 356 = .ok (.iload_n 3, 1) := by decide +kernel
theorem dL_law_357 : decode cL_law 357 = .ok (.iconst 2, 1) := by decide +kernel
theorem dL_law_358 : decode cL_law 358 = .ok (.iadd, 1) := by decide +kernel
theorem dL_law_359 : decode cL_law 359 = .ok (.iaload, 1) := by decide +kernel
theorem dL_law_360 : decode cL_law 360 = .ok (.i2l, 1) := by decide +kernel
theorem dL_law_361 : decode cL_law 361 = .ok (.ldc2_w 13, 3) := by decide +kernel
theorem dL_law_364 : decode cL_law 364 = .ok (.land, 1) := by decide +kernel
theorem dL_law_365 : decode cL_law 365 = .ok (.lor, 1) := by decide +kernel
theorem dL_law_366 : decode cL_law 366 = .ok (.aload_n 0, 1) := by decide +kernel
theorem dL_law_367 : decode cL_law 367 = .ok (.iload_n 3, 1) := by decide +kernel
theorem dL_law_368 : decode cL_law 368 = .ok (.iconst 3, 1) := by decide +kernel
theorem dL_law_369 : decode cL_law 369 = .ok (.iadd, 1) := by decide +kernel
theorem dL_law_370 : decode cL_law 370 = .ok (.iaload, 1) := by decide +kernel
theorem dL_law_371 : decode cL_law 371 = .ok (.aload_n 0, 1) := by decide +kernel
theorem dL_law_372 : decode cL_law 372 = .ok (.iload_n 3, 1) := by decide +kernel
theorem dL_law_373 : decode cL_law 373 = .ok (.iconst 4, 1) := by decide +kernel
theorem dL_law_374 : decode cL_law 374 = .ok (.iadd, 1) := by decide +kernel
theorem dL_law_375 : decode cL_law 375 = .ok (.iaload, 1) := by decide +kernel
theorem dL_law_376 : decode cL_law 376 = .ok (.aload_n 0, 1) := by decide +kernel
theorem dL_law_377 : decode cL_law 377 = .ok (.iload_n 3, 1) := by decide +kernel
theorem dL_law_378 : decode cL_law 378 = .ok (.iconst 5, 1) := by decide +kernel
theorem dL_law_379 : decode cL_law 379 = .ok (.iadd, 1) := by decide +kernel
theorem dL_law_380 : decode cL_law 380 = .ok (.iaload, 1) := by decide +kernel
theorem dL_law_381 : decode cL_law 381 = .ok (.ifCond .eq 7, 3) := by decide +kernel
theorem dL_law_384 : decode cL_law 384 = .ok (.iconst 1, 1) := by decide +kernel
theorem dL_law_385 : decode cL_law 385 = .ok (.goto 4, 3) := by decide +kernel
theorem dL_law_388 : decode cL_law 388 = .ok (.iconst 0, 1) := by decide +kernel
theorem dL_law_389 : decode cL_law 389 = .ok (.invokevirtual 47, 3) := by decide +kernel
theorem dL_law_392 : decode cL_law 392 = .ok (.aload_n 2, 1) := by decide +kernel
theorem dL_law_393 : decode cL_law 393 = .ok (.aload_n 0, 1) := by decide +kernel
theorem dL_law_394 : decode cL_law 394 = .ok (.iload_n 3, 1) := by decide +kernel
theorem dL_law_395 : decode cL_law 395 = .ok (.iconst 1, 1) := by decide +kernel
theorem dL_law_396 : decode cL_law 396 = .ok (.iadd, 1) := by decide +kernel
theorem dL_law_397 : decode cL_law 397 = .ok (.iaload, 1) := by decide +kernel
theorem dL_law_398 : decode cL_law 398 = .ok (.i2l, 1) := by decide +kernel
theorem dL_law_399 : decode cL_law 399 = .ok (.bipush 32, 2) := by decide +kernel
theorem dL_law_401 : decode cL_law 401 = .ok (.lshl, 1) := by decide +kernel
theorem dL_law_402 : decode cL_law 402 = .ok (.aload_n 0, 1) := by decide +kernel
theorem dL_law_403 : decode cL_law 403 = .ok (.iload_n 3, 1) := by decide +kernel
theorem dL_law_404 : decode cL_law 404 = .ok (.iconst 2, 1) := by decide +kernel
theorem dL_law_405 : decode cL_law 405 = .ok (.iadd, 1) := by decide +kernel
theorem dL_law_406 : decode cL_law 406 = .ok (.iaload, 1) := by decide +kernel
theorem dL_law_407 : decode cL_law 407 = .ok (.i2l, 1) := by decide +kernel
theorem dL_law_408 : decode cL_law 408 = .ok (.ldc2_w 13, 3) := by decide +kernel
theorem dL_law_411 : decode cL_law 411 = .ok (.land, 1) := by decide +kernel
theorem dL_law_412 : decode cL_law 412 = .ok (.lor, 1) := by decide +kernel
theorem dL_law_413 : decode cL_law 413 = .ok (.aload_n 0, 1) := by decide +kernel
theorem dL_law_414 : decode cL_law 414 = .ok (.iload_n 3, 1) := by decide +kernel
theorem dL_law_415 : decode cL_law 415 = .ok (.iconst 3, 1) := by decide +kernel
theorem dL_law_416 : decode cL_law 416 = .ok (.iadd, 1) := by decide +kernel
theorem dL_law_417 : decode cL_law 417 = .ok (.iaload, 1) := by decide +kernel
theorem dL_law_418 : decode cL_law 418 = .ok (.aload_n 0, 1) := by decide +kernel
theorem dL_law_419 : decode cL_law 419 = .ok (.iload_n 3, 1) := by decide +kernel
theorem dL_law_420 : decode cL_law 420 = .ok (.iconst 4, 1) := by decide +kernel
theorem dL_law_421 : decode cL_law 421 = .ok (.iadd, 1) := by decide +kernel
theorem dL_law_422 : decode cL_law 422 = .ok (.iaload, 1) := by decide +kernel
theorem dL_law_423 : decode cL_law 423 = .ok (.aload_n 0, 1) := by decide +kernel
theorem dL_law_424 : decode cL_law 424 = .ok (.iload_n 3, 1) := by decide +kernel
theorem dL_law_425 : decode cL_law 425 = .ok (.iconst 5, 1) := by decide +kernel
theorem dL_law_426 : decode cL_law 426 = .ok (.iadd, 1) := by decide +kernel
theorem dL_law_427 : decode cL_law 427 = .ok (.iaload, 1) := by decide +kernel
theorem dL_law_428 : decode cL_law 428 = .ok (.ifCond .eq 7, 3) := by decide +kernel
theorem dL_law_431 : decode cL_law 431 = .ok (.iconst 1, 1) := by decide +kernel
theorem dL_law_432 : decode cL_law 432 = .ok (.goto 4, 3) := by decide +kernel
theorem dL_law_435 : decode cL_law 435 = .ok (.iconst 0, 1) := by decide +kernel
theorem dL_law_436 : decode cL_law 436 = .ok (.invokevirtual 51, 3) := by decide +kernel
theorem dL_law_439 : decode cL_law 439 = .ok (.if_icmp .eq 150, 3) := by decide +kernel
theorem dL_law_442 : decode cL_law 442 = .ok (.iconst 0, 1) := by decide +kernel
theorem dL_law_443 : decode cL_law 443 = .ok (.ireturn, 1) := by decide +kernel
theorem dL_law_444 : decode cL_law 444 = .ok (.aload_n 1, 1) := by decide +kernel
theorem dL_law_445 : decode cL_law 445 = .ok (.aload_n 0, 1) := by decide +kernel
theorem dL_law_446 : decode cL_law 446 = .ok (.iload_n 3, 1) := by decide +kernel
theorem dL_law_447 : decode cL_law 447 = .ok (.iconst 1, 1) := by decide +kernel
theorem dL_law_448 : decode cL_law 448 = .ok (.iadd, 1) := by decide +kernel
theorem dL_law_449 : decode cL_law 449 = .ok (.iaload, 1) := by decide +kernel
theorem dL_law_450 : decode cL_law 450 = .ok (.aload_n 0, 1) := by decide +kernel
theorem dL_law_451 : decode cL_law 451 = .ok (.iload_n 3, 1) := by decide +kernel
theorem dL_law_452 : decode cL_law 452 = .ok (.iconst 2, 1) := by decide +kernel
theorem dL_law_453 : decode cL_law 453 = .ok (.iadd, 1) := by decide +kernel
theorem dL_law_454 : decode cL_law 454 = .ok (.iaload, 1) := by decide +kernel
theorem dL_law_455 : decode cL_law 455 = .ok (.aload_n 0, 1) := by decide +kernel
theorem dL_law_456 : decode cL_law 456 = .ok (.iload_n 3, 1) := by decide +kernel
theorem dL_law_457 : decode cL_law 457 = .ok (.iconst 3, 1) := by decide +kernel
theorem dL_law_458 : decode cL_law 458 = .ok (.iadd, 1) := by decide +kernel
theorem dL_law_459 : decode cL_law 459 = .ok (.iaload, 1) := by decide +kernel
theorem dL_law_460 : decode cL_law 460 = .ok (.ifCond .eq 7, 3) := by decide +kernel
theorem dL_law_463 : decode cL_law 463 = .ok (.iconst 1, 1) := by decide +kernel
theorem dL_law_464 : decode cL_law 464 = .ok (.goto 4, 3) := by decide +kernel
theorem dL_law_467 : decode cL_law 467 = .ok (.iconst 0, 1) := by decide +kernel
theorem dL_law_468 : decode cL_law 468 = .ok (.invokevirtual 52, 3) := by decide +kernel
theorem dL_law_471 : decode cL_law 471 = .ok (.aload_n 2, 1) := by decide +kernel
theorem dL_law_472 : decode cL_law 472 = .ok (.aload_n 0, 1) := by decide +kernel
theorem dL_law_473 : decode cL_law 473 = .ok (.iload_n 3, 1) := by decide +kernel
theorem dL_law_474 : decode cL_law 474 = .ok (.iconst 1, 1) := by decide +kernel
theorem dL_law_475 : decode cL_law 475 = .ok (.iadd, 1) := by decide +kernel
theorem dL_law_476 : decode cL_law 476 = .ok (.iaload, 1) := by decide +kernel
theorem dL_law_477 : decode cL_law 477 = .ok (.aload_n 0, 1) := by decide +kernel
theorem dL_law_478 : decode cL_law 478 = .ok (.iload_n 3, 1) := by decide +kernel
theorem dL_law_479 : decode cL_law 479 = .ok (.iconst 2, 1) := by decide +kernel
theorem dL_law_480 : decode cL_law 480 = .ok (.iadd, 1) := by decide +kernel
theorem dL_law_481 : decode cL_law 481 = .ok (.iaload, 1) := by decide +kernel
theorem dL_law_482 : decode cL_law 482 = .ok (.aload_n 0, 1) := by decide +kernel
theorem dL_law_483 : decode cL_law 483 = .ok (.iload_n 3, 1) := by decide +kernel
theorem dL_law_484 : decode cL_law 484 = .ok (.iconst 3, 1) := by decide +kernel
theorem dL_law_485 : decode cL_law 485 = .ok (.iadd, 1) := by decide +kernel
theorem dL_law_486 : decode cL_law 486 = .ok (.iaload, 1) := by decide +kernel
theorem dL_law_487 : decode cL_law 487 = .ok (.ifCond .eq 7, 3) := by decide +kernel
theorem dL_law_490 : decode cL_law 490 = .ok (.iconst 1, 1) := by decide +kernel
theorem dL_law_491 : decode cL_law 491 = .ok (.goto 4, 3) := by decide +kernel
theorem dL_law_494 : decode cL_law 494 = .ok (.iconst 0, 1) := by decide +kernel
theorem dL_law_495 : decode cL_law 495 = .ok (.invokevirtual 56, 3) := by decide +kernel
theorem dL_law_498 : decode cL_law 498 = .ok (.if_icmp .eq 91, 3) := by decide +kernel
theorem dL_law_501 : decode cL_law 501 = .ok (.iconst 0, 1) := by decide +kernel
theorem dL_law_502 : decode cL_law 502 = .ok (.ireturn, 1) := by decide +kernel
theorem dL_law_503 : decode cL_law 503 = .ok (.aload_n 1, 1) := by decide +kernel
theorem dL_law_504 : decode cL_law 504 = .ok (.invokevirtual 57, 3) := by decide +kernel
theorem dL_law_507 : decode cL_law 507 = .ok (.aload_n 2, 1) := by decide +kernel
theorem dL_law_508 : decode cL_law 508 = .ok (.invokevirtual 61, 3) := by decide +kernel
theorem dL_law_511 : decode cL_law 511 = .ok (.lcmp, 1) := by decide +kernel
theorem dL_law_512 : decode cL_law 512 = .ok (.ifCond .eq 77, 3) := by decide +kernel
theorem dL_law_515 : decode cL_law 515 = .ok (.iconst 0, 1) := by decide +kernel
theorem dL_law_516 : decode cL_law 516 = .ok (.ireturn, 1) := by decide +kernel
theorem dL_law_517 : decode cL_law 517 = .ok (.aload_n 1, 1) := by decide +kernel
theorem dL_law_518 : decode cL_law 518 = .ok (.aload_n 0, 1) := by decide +kernel
theorem dL_law_519 : decode cL_law 519 = .ok (.iload_n 3, 1) := by decide +kernel
theorem dL_law_520 : decode cL_law 520 = .ok (.iconst 1, 1) := by decide +kernel
theorem dL_law_521 : decode cL_law 521 = .ok (.iadd, 1) := by decide +kernel
theorem dL_law_522 : decode cL_law 522 = .ok (.iaload, 1) := by decide +kernel
theorem dL_law_523 : decode cL_law 523 = .ok (.invokevirtual 62, 3) := by decide +kernel
theorem dL_law_526 : decode cL_law 526 = .ok (.aload_n 2, 1) := by decide +kernel
theorem dL_law_527 : decode cL_law 527 = .ok (.aload_n 0, 1) := by decide +kernel
theorem dL_law_528 : decode cL_law 528 = .ok (.iload_n 3, 1) := by decide +kernel
theorem dL_law_529 : decode cL_law 529 = .ok (.iconst 1, 1) := by decide +kernel
theorem dL_law_530 : decode cL_law 530 = .ok (.iadd, 1) := by decide +kernel
theorem dL_law_531 : decode cL_law 531 = .ok (.iaload, 1) := by decide +kernel
theorem dL_law_532 : decode cL_law 532 = .ok (.invokevirtual 65, 3) := by decide +kernel
theorem dL_law_535 : decode cL_law 535 = .ok (.if_icmp .eq 54, 3) := by decide +kernel
theorem dL_law_538 : decode cL_law 538 = .ok (.iconst 0, 1) := by decide +kernel
theorem dL_law_539 : decode cL_law 539 = .ok (.ireturn, 1) := by decide +kernel
theorem dL_law_540 : decode cL_law 540 = .ok (.aload_n 1, 1) := by decide +kernel
theorem dL_law_541 : decode cL_law 541 = .ok (.invokevirtual 66, 3) := by decide +kernel
theorem dL_law_544 : decode cL_law 544 = .ok (.aload_n 2, 1) := by decide +kernel
theorem dL_law_545 : decode cL_law 545 = .ok (.invokevirtual 70, 3) := by decide +kernel
theorem dL_law_548 : decode cL_law 548 = .ok (.if_icmp .eq 41, 3) := by decide +kernel
theorem dL_law_551 : decode cL_law 551 = .ok (.iconst 0, 1) := by decide +kernel
theorem dL_law_552 : decode cL_law 552 = .ok (.ireturn, 1) := by decide +kernel
theorem dL_law_553 : decode cL_law 553 = .ok (.aload_n 1, 1) := by decide +kernel
theorem dL_law_554 : decode cL_law 554 = .ok (.aload_n 0, 1) := by decide +kernel
theorem dL_law_555 : decode cL_law 555 = .ok (.iload_n 3, 1) := by decide +kernel
theorem dL_law_556 : decode cL_law 556 = .ok (.iconst 1, 1) := by decide +kernel
theorem dL_law_557 : decode cL_law 557 = .ok (.iadd, 1) := by decide +kernel
theorem dL_law_558 : decode cL_law 558 = .ok (.iaload, 1) := by decide +kernel
theorem dL_law_559 : decode cL_law 559 = .ok (.invokevirtual 71, 3) := by decide +kernel
theorem dL_law_562 : decode cL_law 562 = .ok (.aload_n 2, 1) := by decide +kernel
theorem dL_law_563 : decode cL_law 563 = .ok (.aload_n 0, 1) := by decide +kernel
theorem dL_law_564 : decode cL_law 564 = .ok (.iload_n 3, 1) := by decide +kernel
theorem dL_law_565 : decode cL_law 565 = .ok (.iconst 1, 1) := by decide +kernel
theorem dL_law_566 : decode cL_law 566 = .ok (.iadd, 1) := by decide +kernel
theorem dL_law_567 : decode cL_law 567 = .ok (.iaload, 1) := by decide +kernel
theorem dL_law_568 : decode cL_law 568 = .ok (.invokevirtual 74, 3) := by decide +kernel
theorem dL_law_571 : decode cL_law 571 = .ok (.if_icmp .eq 18, 3) := by decide +kernel
theorem dL_law_574 : decode cL_law 574 = .ok (.iconst 0, 1) := by decide +kernel
theorem dL_law_575 : decode cL_law 575 = .ok (.ireturn, 1) := by decide +kernel
theorem dL_law_576 : decode cL_law 576 = .ok (.aload_n 1, 1) := by decide +kernel
theorem dL_law_577 : decode cL_law 577 = .ok (.invokevirtual 75, 3) := by decide +kernel
theorem dL_law_580 : decode cL_law 580 = .ok (.aload_n 2, 1) := by decide +kernel
theorem dL_law_581 : decode cL_law 581 = .ok (.invokevirtual 78, 3) := by decide +kernel
theorem dL_law_584 : decode cL_law 584 = .ok (.if_icmp .eq 5, 3) := by decide +kernel
theorem dL_law_587 : decode cL_law 587 = .ok (.iconst 0, 1) := by decide +kernel
theorem dL_law_588 : decode cL_law 588 = .ok (.ireturn, 1) := by decide +kernel
theorem dL_law_589 : decode cL_law 589 = .ok (.iinc 3 6, 3) := by decide +kernel
theorem dL_law_592 : decode cL_law 592 = .ok (.goto (-574), 3) := by decide +kernel
theorem dL_law_595 : decode cL_law 595 = .ok (.iconst 1, 1) := by decide +kernel
theorem dL_law_596 : decode cL_law 596 = .ok (.ireturn, 1) := by decide +kernel
end
section
/-! ===== generic rows over the kit: one list of words, one form of contract ===== -/
/-- the tables' words that every state of the run keeps -/
def kG : List Cond := lw_tbl.filter goodWord
theorem kG_in {w : Cond} (h : w ∈ lw_tbl) (g : goodWord w = true) : w ∈ kG := List.mem_filter.mpr ⟨h, g⟩
theorem kG_tbl {w : Cond} (h : w ∈ kG) : w ∈ lw_tbl := (List.mem_filter.mp h).1
theorem kG_good {w : Cond} (h : w ∈ kG) : goodWord w = true := (List.mem_filter.mp h).2
theorem kG_at {w : Cond} (i : Nat) (h : lw_tbl[i]? = some w) (g : goodWord w = true) : w ∈ kG := kG_in (List.mem_of_getElem? h) g
theorem gG {c c' : Cond} (h : c' ∈ kG) : GoodIn (c :: kG) (c' :: kG) := fun w hw => (List.mem_cons.mp hw).elim (fun e => by subst e; exact ⟨List.mem_cons_of_mem _ h, good_of_word (kG_good h)⟩) (fun hw => ⟨List.mem_cons_of_mem _ hw, good_of_word (kG_good hw)⟩)
theorem gGL {c' : Cond} (h : c' ∈ kG) : GoodIn lw_tbl (c' :: kG) := fun w hw => (List.mem_cons.mp hw).elim (fun e => by subst e; exact ⟨kG_tbl h, good_of_word (kG_good h)⟩) (fun hw => ⟨kG_tbl hw, good_of_word (kG_good hw)⟩)
/-- the words on private members of nest mates -/
def kNest (w : Cond) : Bool := match w with
  | .methodLinkNest _ _ _ _ => true
  | _ => false
def kN : List Cond := lw_tbl.filter kNest
theorem kN_at {w : Cond} (i : Nat) (h : lw_tbl[i]? = some w) (g : kNest w = true) : w ∈ kN := List.mem_filter.mpr ⟨List.mem_of_getElem? h, g⟩
def dm_N (U : State) : Prop := ∀ w ∈ kN, va_Nw w U
theorem dm_N.same {u U : State} (h : u.vm = U.vm) (hN : dm_N u) : dm_N U := by
  intro w hw
  have h1 := (List.mem_filter.mp hw).2
  cases w with
  | methodLinkNest a i x hh => exact va_Nw.same rfl h (hN _ hw)
  | _ => cases h1
theorem dm_N.warm {s U : State} (hW : s.WarmedH U.vm) (hN : dm_N s) : dm_N U := by
  intro w hw
  have h1 := (List.mem_filter.mp hw).2
  cases w with
  | methodLinkNest a i x hh => exact va_Nw.warmM hW (hN _ hw)
  | _ => cases h1
theorem dm_N.of {s : State} {args : Array Value} (h : ∀ w ∈ lw_tbl, w.before args s = true) : dm_N s := by
  intro w hw
  have h1 := List.mem_filter.mp hw
  cases w with
  | methodLinkNest a i x hh => exact va_Nw.of rfl (h _ h1.1)
  | _ => cases h1.2
/-- a method's room, by the depth of its calls -/
def rmd (d : Nat) : Room := { frames := d, cells := 0, slots := 0, locals := 40 * d }
/-- the array classes of the worlds -/
abbrev TY (cB cI cC : ClassId) : List (ClassId × FieldType) := [(cB, .byte), (cI, .int), (cC, .char)]
def dm_Pre (D : va_G) (tys : List (ClassId × FieldType)) (wc : va_W) (sz : Nat) (U : State) : Prop := U.heap.size = sz ∧ va_P D vwCl wc U.heap ∧ va_K D vwCl tys U ∧ va_D (fun _ => True) wc ∧ dm_N U
def dm_B {S : Type} (D : va_G) (tys : List (ClassId × FieldType)) (w1 : S → va_W) (A : Nat → Prop) (u : S) (t : State) : Prop := va_P D vwCl (w1 u) t.heap ∧ va_K D vwCl tys t ∧ va_D A (w1 u)
/-- contracts: an int (a boolean), a long, nothing comes back; the cells wc become w1 u -/
def MI (l : Launch) (y : MethodName) (cw : Cond) (d : Nat) (D : va_G) (tys : List (ClassId × FieldType)) (av : List Value) (wc : va_W) {S : Type} (post : Int32 → S → Prop) (w1 : S → va_W) : Prop :=
  ∀ sz, Met l y (cw :: kG) (rmd d) (va_Pc av (dm_Pre D tys wc sz)) (va_Qi post (dm_B D tys w1 (va_A wc sz)) (va_A wc sz)) 0 0 (va_A wc sz)
def ML (l : Launch) (y : MethodName) (cw : Cond) (d : Nat) (D : va_G) (tys : List (ClassId × FieldType)) (av : List Value) (wc : va_W) {S : Type} (post : Int64 → S → Prop) (w1 : S → va_W) : Prop :=
  ∀ sz, Met l y (cw :: kG) (rmd d) (va_Pc av (dm_Pre D tys wc sz)) (va_Ql post (dm_B D tys w1 (va_A wc sz)) (va_A wc sz)) 0 0 (va_A wc sz)
def MV (l : Launch) (y : MethodName) (cw : Cond) (d : Nat) (D : va_G) (tys : List (ClassId × FieldType)) (av : List Value) (wc : va_W) {S : Type} (post : S → Prop) (w1 : S → va_W) : Prop :=
  ∀ sz, Met l y (cw :: kG) (rmd d) (va_Pc av (dm_Pre D tys wc sz)) (va_Qv post (dm_B D tys w1 (va_A wc sz)) (va_A wc sz)) 0 0 (va_A wc sz)
/-- contracts of methods that change nothing -/
def ROi (l : Launch) (y : MethodName) (cw : Cond) (d : Nat) (D : va_G) (tys : List (ClassId × FieldType)) (av : List Value) (wc : va_W) (post : Int32 → Prop) : Prop :=
  ∀ sz, Met l y (cw :: kG) (rmd d) (va_Pc av (dm_Pre D tys wc sz)) (vp_Si post) 0 0 (fun _ => False)
def ROl (l : Launch) (y : MethodName) (cw : Cond) (d : Nat) (D : va_G) (tys : List (ClassId × FieldType)) (av : List Value) (wc : va_W) (post : Int64 → Prop) : Prop :=
  ∀ sz, Met l y (cw :: kG) (rmd d) (va_Pc av (dm_Pre D tys wc sz)) (vp_Sl post) 0 0 (fun _ => False)
theorem dm_blind {D : va_G} {tys : List (ClassId × FieldType)} {av : List Value} {wc : va_W} {sz : Nat} : FrameBlind (va_Pc av (dm_Pre D tys wc sz)) := fun a U g mk q => by
  obtain ⟨q0, q1, qP, qK, qD, qN⟩ := q
  exact ⟨q0, q1, qP, va_K.moved (u := U) (U := U.calling g mk a) (Vm.Alike.refl U.vm) qK, qD, dm_N.same (u := U) (U := U.calling g mk a) rfl qN⟩
theorem dm_preU {D : va_G} {tys : List (ClassId × FieldType)} {av : List Value} {ws wc : va_W} {s : State} {H : Heap} {A : Nat → Prop} (hK : va_K D vwCl tys s) (hP : va_P D vwCl ws H) (hD : va_D A ws) (hN : dm_N s) (isC : List Nat) (hn : va_nd isC = true) (hC : isC.map (fun i => ws[i]?) = wc.map some) :
    ∀ U : State, U.heap = H → s.WarmedH U.vm → va_Pc av (dm_Pre D tys wc H.size) av.toArray U := by
  intro U hU hW
  have hD' := hD.sub isC hn hC
  have hP' : va_P D vwCl wc H := by
    intro k q hq
    have h1 : (isC.map (fun i => ws[i]?))[k]? = some (some q) := by rw [hC, List.getElem?_map, hq]; rfl
    rw [List.getElem?_map] at h1
    cases hi : isC[k]? with
    | none => rw [hi] at h1; cases h1
    | some i => rw [hi] at h1; exact hP i q (Option.some.inj h1)
  exact ⟨rfl, by rw [hU], by rw [hU]; exact hP', va_K.moved hW.alike hK, hD'.weaken (fun _ _ _ _ => trivial), dm_N.warm hW hN⟩
/-- what stands at a method's body -/
def dm_C (p : Program) (s : State) (m : MethodId) (args : Array Value) (meth : Method) (c : Code) (cc : ByteArray) (nL : Nat) (ret : Option FieldType) (own : String) : Prop :=
  p.tables.exec = Jvm.exec ∧ c.code = cc ∧ meth.sig.returnType = ret ∧ c.maxLocals = nL ∧ s.vm.findClass own = some m.cls ∧ (∀ w ∈ kG, w.before args s = true) ∧ meth.locks = false ∧ dm_N s
theorem gG' {c' : Cond} (h : c' ∈ kG) : GoodIn kG (c' :: kG) := fun w hw => (List.mem_cons.mp hw).elim (fun e => by subst e; exact ⟨h, good_of_word (kG_good h)⟩) (fun hw => ⟨hw, good_of_word (kG_good hw)⟩)
section DMW
variable {p : Program} {l : Launch} {e : Env} {R : Room} {s : State} {m : MethodId} {args : Array Value} {below : List Frame} {meth : Method} {c : Code} {H : Heap} {locs : List Loc} {cells slots : Nat} {Q : State → Prop}
variable {pc : Nat} {ls : Array Slot} {rest st0 : List Value} {D : va_G} {tys : List (ClassId × FieldType)} {A : Nat → Prop} {ws wc wr : va_W} {cc : ByteArray} {nL : Nat} {own : String} {ret0 : Option FieldType}
theorem dm_start {y : MethodName} {maxL : Nat} {ret : Option FieldType} {rm : Room} {av : List Value} {Qc : Array Value → State → Outcome → State → Prop} {free : Addr → Prop} {mc ms sz : Nat} (hy : plainName y.cls = true) (hlen : (lg_sl av).length ≤ maxL)
    (body : ∀ (p : Program) (e : Env) (s : State) (m : MethodId) (below : List Frame) (meth : Method) (c : Code) (ls : Array Slot), dm_C p s m av.toArray meth c cc maxL ret y.cls → s.heap.size = sz → va_P D vwCl wc s.heap → va_K D vwCl tys s → va_D (va_A wc sz) wc → (meth.name = y.name) → lv_has ls maxL (lv_args 0 av) →
      W p l e rm s m av.toArray below meth c s.heap [] 0 0 (MQ below Qc av.toArray s mc ms free) (F0 m 0 ls [])) : Met l y (Cond.code y cc maxL ret :: kG) rm (va_Pc av (dm_Pre D tys wc sz)) Qc mc ms free := by
  refine Met.ofW (cc := cc) (maxL := maxL) (ret := ret) hy rfl ?_
  intro p e s m args below meth c s₁ B hml hv
  obtain ⟨rfl, hsz, hP, hK, hD0, hN⟩ := hv
  have hts := atoms_spec (ws := Cond.code y cc maxL ret :: kG) B.pre
  have hl := lv_entry av (n := maxL) hlen
  rw [lg_entry_eq]
  generalize (lg_sl av ++ List.replicate (maxL - (lg_sl av).length) Slot.unset).toArray = ls at hl ⊢
  exact body p e s m below meth c ls ⟨B.exec, B.bytes, B.returns, hml, findClass_of_methodNamed B.named, fun w h => hts w (List.mem_cons_of_mem _ h), B.notSynchronized, hN⟩ hsz hP hK (hD0.self (sz := sz)) (name_of_methodNamed B.named B.method).1 hl
theorem MI.of {y : MethodName} {maxL d : Nat} {ret : Option FieldType} {av : List Value} {S : Type} {post : Int32 → S → Prop} {w1 : S → va_W} (hy : plainName y.cls = true) (hlen : (lg_sl av).length ≤ maxL)
    (body : ∀ (p : Program) (e : Env) (s : State) (m : MethodId) (below : List Frame) (meth : Method) (c : Code) (ls : Array Slot) (A : Nat → Prop), dm_C p s m av.toArray meth c cc maxL ret y.cls → (∀ q : Nat, s.heap.size ≤ q → A q) → va_P D vwCl wc s.heap → va_K D vwCl tys s → va_D A wc → va_S A s.heap s.heap [] → lv_has ls maxL (lv_args 0 av) →
      W p l e (rmd d) s m av.toArray below meth c s.heap [] 0 0 (MQ below (va_Qi post (dm_B D tys w1 A) A) av.toArray s 0 0 A) (F0 m 0 ls [])) : MI l y (Cond.code y cc maxL ret) d D tys av wc post w1 := fun sz =>
  dm_start hy hlen (fun p e s m below meth c ls hC hsz hP hK hD _ hl => by subst hsz; exact body p e s m below meth c ls _ hC (fun _ h => Or.inr h) hP hK hD va_S.rf hl)
theorem ML.of {y : MethodName} {maxL d : Nat} {ret : Option FieldType} {av : List Value} {S : Type} {post : Int64 → S → Prop} {w1 : S → va_W} (hy : plainName y.cls = true) (hlen : (lg_sl av).length ≤ maxL)
    (body : ∀ (p : Program) (e : Env) (s : State) (m : MethodId) (below : List Frame) (meth : Method) (c : Code) (ls : Array Slot) (A : Nat → Prop), dm_C p s m av.toArray meth c cc maxL ret y.cls → (∀ q : Nat, s.heap.size ≤ q → A q) → va_P D vwCl wc s.heap → va_K D vwCl tys s → va_D A wc → va_S A s.heap s.heap [] → lv_has ls maxL (lv_args 0 av) →
      W p l e (rmd d) s m av.toArray below meth c s.heap [] 0 0 (MQ below (va_Ql post (dm_B D tys w1 A) A) av.toArray s 0 0 A) (F0 m 0 ls [])) : ML l y (Cond.code y cc maxL ret) d D tys av wc post w1 := fun sz =>
  dm_start hy hlen (fun p e s m below meth c ls hC hsz hP hK hD _ hl => by subst hsz; exact body p e s m below meth c ls _ hC (fun _ h => Or.inr h) hP hK hD va_S.rf hl)
theorem MV.of {y : MethodName} {maxL d : Nat} {ret : Option FieldType} {av : List Value} {S : Type} {post : S → Prop} {w1 : S → va_W} (hy : plainName y.cls = true) (hlen : (lg_sl av).length ≤ maxL)
    (body : ∀ (p : Program) (e : Env) (s : State) (m : MethodId) (below : List Frame) (meth : Method) (c : Code) (ls : Array Slot) (A : Nat → Prop), dm_C p s m av.toArray meth c cc maxL ret y.cls → (∀ q : Nat, s.heap.size ≤ q → A q) → va_P D vwCl wc s.heap → va_K D vwCl tys s → va_D A wc → va_S A s.heap s.heap [] → lv_has ls maxL (lv_args 0 av) →
      W p l e (rmd d) s m av.toArray below meth c s.heap [] 0 0 (MQ below (va_Qv post (dm_B D tys w1 A) A) av.toArray s 0 0 A) (F0 m 0 ls [])) : MV l y (Cond.code y cc maxL ret) d D tys av wc post w1 := fun sz =>
  dm_start hy hlen (fun p e s m below meth c ls hC hsz hP hK hD _ hl => by subst hsz; exact body p e s m below meth c ls _ hC (fun _ h => Or.inr h) hP hK hD va_S.rf hl)
theorem ROi.of {y : MethodName} {maxL d : Nat} {ret : Option FieldType} {av : List Value} {post : Int32 → Prop} (hy : plainName y.cls = true) (hlen : (lg_sl av).length ≤ maxL)
    (body : ∀ (p : Program) (e : Env) (s : State) (m : MethodId) (below : List Frame) (meth : Method) (c : Code) (ls : Array Slot) (A : Nat → Prop), dm_C p s m av.toArray meth c cc maxL ret y.cls → (∀ q : Nat, s.heap.size ≤ q → A q) → va_P D vwCl wc s.heap → va_K D vwCl tys s → va_D A wc → va_S A s.heap s.heap [] → lv_has ls maxL (lv_args 0 av) →
      W p l e (rmd d) s m av.toArray below meth c s.heap [] 0 0 (MQ below (vp_Si post) av.toArray s 0 0 (fun _ => False)) (F0 m 0 ls [])) : ROi l y (Cond.code y cc maxL ret) d D tys av wc post := fun sz =>
  dm_start hy hlen (fun p e s m below meth c ls hC hsz hP hK hD _ hl => by subst hsz; exact body p e s m below meth c ls _ hC (fun _ h => Or.inr h) hP hK hD va_S.rf hl)
theorem ROl.of {y : MethodName} {maxL d : Nat} {ret : Option FieldType} {av : List Value} {post : Int64 → Prop} (hy : plainName y.cls = true) (hlen : (lg_sl av).length ≤ maxL)
    (body : ∀ (p : Program) (e : Env) (s : State) (m : MethodId) (below : List Frame) (meth : Method) (c : Code) (ls : Array Slot) (A : Nat → Prop), dm_C p s m av.toArray meth c cc maxL ret y.cls → (∀ q : Nat, s.heap.size ≤ q → A q) → va_P D vwCl wc s.heap → va_K D vwCl tys s → va_D A wc → va_S A s.heap s.heap [] → lv_has ls maxL (lv_args 0 av) →
      W p l e (rmd d) s m av.toArray below meth c s.heap [] 0 0 (MQ below (vp_Sl post) av.toArray s 0 0 (fun _ => False)) (F0 m 0 ls [])) : ROl l y (Cond.code y cc maxL ret) d D tys av wc post := fun sz =>
  dm_start hy hlen (fun p e s m below meth c ls hC hsz hP hK hD _ hl => by subst hsz; exact body p e s m below meth c ls _ hC (fun _ h => Or.inr h) hP hK hD va_S.rf hl)
/-- returns -/
theorem dm_iret {S : Type} {post : Int32 → S → Prop} {w1 : S → va_W} {v : Int32} (hC : dm_C p s m args meth c cc nL (some .int) own) (hK : va_K D vwCl tys s) (u : S) (hp : post v u) (hP : va_P D vwCl (w1 u) H) (hD : va_D A (w1 u)) (hS : va_S A s.heap H locs) (hdg : decode cc pc = .ok (.ireturn, 1)) :
    W p l e R s m args below meth c H locs cells slots (MQ below (va_Qi post (dm_B D tys w1 A) A) args s cells slots A) (F0 m pc ls [.int v]) :=
  W.iret hC.1 hC.2.1 hC.2.2.1 (fun t ht hW => ⟨⟨v, u, rfl, hp, by rw [ht]; exact hP, va_K.moved hW.alike hK, hD⟩, hS.F ht⟩) hS.2.2 hdg hC.2.2.2.2.2.2.1
theorem dm_zret {S : Type} {post : Int32 → S → Prop} {w1 : S → va_W} {v : Int32} (hC : dm_C p s m args meth c cc nL (some .boolean) own) (hz : v = 0 ∨ v = 1) (hK : va_K D vwCl tys s) (u : S) (hp : post v u) (hP : va_P D vwCl (w1 u) H) (hD : va_D A (w1 u)) (hS : va_S A s.heap H locs) (hdg : decode cc pc = .ok (.ireturn, 1)) :
    W p l e R s m args below meth c H locs cells slots (MQ below (va_Qi post (dm_B D tys w1 A) A) args s cells slots A) (F0 m pc ls [.int v]) :=
  W.zret hC.1 hC.2.1 hC.2.2.1 (by rcases hz with rfl | rfl <;> rfl) (fun t ht hW => ⟨⟨v, u, rfl, hp, by rw [ht]; exact hP, va_K.moved hW.alike hK, hD⟩, hS.F ht⟩) hS.2.2 hdg hC.2.2.2.2.2.2.1
theorem dm_lret {S : Type} {post : Int64 → S → Prop} {w1 : S → va_W} {v : Int64} (hC : dm_C p s m args meth c cc nL (some .long) own) (hK : va_K D vwCl tys s) (u : S) (hp : post v u) (hP : va_P D vwCl (w1 u) H) (hD : va_D A (w1 u)) (hS : va_S A s.heap H locs) (hdg : decode cc pc = .ok (.lreturn, 1)) :
    W p l e R s m args below meth c H locs cells slots (MQ below (va_Ql post (dm_B D tys w1 A) A) args s cells slots A) (F0 m pc ls [.long v]) :=
  W.lret hC.1 hC.2.1 hC.2.2.1 (fun t ht hW => ⟨⟨v, u, rfl, hp, by rw [ht]; exact hP, va_K.moved hW.alike hK, hD⟩, hS.F ht⟩) hS.2.2 hdg hC.2.2.2.2.2.2.1
theorem dm_vret {S : Type} {post : S → Prop} {w1 : S → va_W} (hC : dm_C p s m args meth c cc nL none own) (hK : va_K D vwCl tys s) (u : S) (hp : post u) (hP : va_P D vwCl (w1 u) H) (hD : va_D A (w1 u)) (hS : va_S A s.heap H locs) (hdg : decode cc pc = .ok (.return_, 1)) :
    W p l e R s m args below meth c H locs cells slots (MQ below (va_Qv post (dm_B D tys w1 A) A) args s cells slots A) (F0 m pc ls []) :=
  W.vret hC.1 hC.2.1 hC.2.2.1 (fun t ht hW => ⟨⟨u, rfl, hp, by rw [ht]; exact hP, va_K.moved hW.alike hK, hD⟩, hS.F ht⟩) hS.2.2 hdg hC.2.2.2.2.2.2.1
theorem ri_iret {post : Int32 → Prop} {v : Int32} (hC : dm_C p s m args meth c cc nL (some .int) own) (hp : post v) (hdg : decode cc pc = .ok (.ireturn, 1)) :
    W p l e R s m args below meth c s.heap [] cells slots (MQ below (vp_Si post) args s cells slots (fun _ => False)) (F0 m pc ls [.int v]) :=
  W.iret hC.1 hC.2.1 hC.2.2.1 (fun t ht _ => ⟨v, rfl, hp, ht⟩) (fun q h => by cases h) hdg hC.2.2.2.2.2.2.1
theorem ri_zret {post : Int32 → Prop} {v : Int32} (hC : dm_C p s m args meth c cc nL (some .boolean) own) (hz : v = 0 ∨ v = 1) (hp : post v) (hdg : decode cc pc = .ok (.ireturn, 1)) :
    W p l e R s m args below meth c s.heap [] cells slots (MQ below (vp_Si post) args s cells slots (fun _ => False)) (F0 m pc ls [.int v]) :=
  W.zret hC.1 hC.2.1 hC.2.2.1 (by rcases hz with rfl | rfl <;> rfl) (fun t ht _ => ⟨v, rfl, hp, ht⟩) (fun q h => by cases h) hdg hC.2.2.2.2.2.2.1
theorem ri_lret {post : Int64 → Prop} {v : Int64} (hC : dm_C p s m args meth c cc nL (some .long) own) (hp : post v) (hdg : decode cc pc = .ok (.lreturn, 1)) :
    W p l e R s m args below meth c s.heap [] cells slots (MQ below (vp_Sl post) args s cells slots (fun _ => False)) (F0 m pc ls [.long v]) :=
  W.lret hC.1 hC.2.1 hC.2.2.1 (fun t ht _ => ⟨v, rfl, hp, ht⟩) (fun q h => by cases h) hdg hC.2.2.2.2.2.2.1
/-- calls -/
theorem dm_rV {y : MethodName} {bytes : ByteArray} {maxL mc ms n index : Nat} {ret : Option FieldType} {rm : Room} {Pc : Array Value → State → Prop} {Qc : Array Value → State → Outcome → State → Prop} {free : Addr → Prop} {b : Addr} {As : List Value} {lv : List (Nat × Value)}
    (hC : dm_C p s m args meth c cc nL ret0 own) (hl : lv_has ls nL lv) (hM : Met l y (Cond.code y bytes maxL ret :: kG) rm Pc Qc mc ms free) (hcode : Cond.code y bytes maxL ret ∈ kG) (hini : Cond.initialized y.cls ∈ kG) (hinst : Cond.instanceMethod y ∈ kG) (hsel : Cond.selects y.cls y y ∈ kG) (hlink : Cond.methodLink own index y ∈ kG)
    (hd : y.cls ≠ "java/lang/invoke/MethodHandle" ∧ y.cls ≠ "java/lang/invoke/VarHandle" ∧ (parseMethodDescriptor y.desc).map (fun d => d.parameters.length) = some n) (hR : rm.frames + 1 ≤ R.frames ∧ 8 + (maxL + 11) + rm.locals ≤ R.locals) (hrc : rm.cells = mc) (hrs : rm.slots = ms) (hp : PreV s H y.cls b Pc As)
    (hn : As.length = n) (hst : st0 = As.reverse ++ .ref b :: rest) (hW : (rest.map fun v => v.category).sum ≤ 8) (hdg : decode cc pc = .ok (.invokevirtual index, 3)) (hf : cells + mc ≤ R.cells ∧ slots + ms ≤ R.slots) :
    va_Run p l e R s m args below meth c H locs cells slots mc ms (F0 m pc ls st0) rest (Qc (Value.ref b :: As).toArray) free := by
  obtain ⟨hx, hb, hr, hml, hown, hts, hlocks, hN⟩ := hC
  exact va_runV (C := y.cls) (Ts := kG) ⟨hx, hb, hml, hown, hts⟩ hM ⟨callB_of n hts (gG' hcode) rfl hrc hrs (hts _ hini) (hts _ hlink) hd hR, hts _ hinst, hts _ hsel⟩ hp rfl hn hl.1 hst (lv_room hW) hdg hf
theorem dm_rVN {y : MethodName} {host : String} {bytes : ByteArray} {maxL mc ms n index : Nat} {ret : Option FieldType} {rm : Room} {Pc : Array Value → State → Prop} {Qc : Array Value → State → Outcome → State → Prop} {free : Addr → Prop} {b : Addr} {As : List Value} {lv : List (Nat × Value)}
    (hC : dm_C p s m args meth c cc nL ret0 own) (hl : lv_has ls nL lv) (hM : Met l y (Cond.code y bytes maxL ret :: kG) rm Pc Qc mc ms free) (hcode : Cond.code y bytes maxL ret ∈ kG) (hini : Cond.initialized y.cls ∈ kG) (hinst : Cond.instanceMethod y ∈ kG) (hsel : Cond.selects y.cls y y ∈ kG) (hlink : Cond.methodLinkNest own index y host ∈ kN)
    (hd : y.cls ≠ "java/lang/invoke/MethodHandle" ∧ y.cls ≠ "java/lang/invoke/VarHandle" ∧ (parseMethodDescriptor y.desc).map (fun d => d.parameters.length) = some n) (hR : rm.frames + 1 ≤ R.frames ∧ 8 + (maxL + 11) + rm.locals ≤ R.locals) (hrc : rm.cells = mc) (hrs : rm.slots = ms) (hp : PreV s H y.cls b Pc As)
    (hn : As.length = n) (hst : st0 = As.reverse ++ .ref b :: rest) (hW : (rest.map fun v => v.category).sum ≤ 8) (hdg : decode cc pc = .ok (.invokevirtual index, 3)) (hf : cells + mc ≤ R.cells ∧ slots + ms ≤ R.slots) :
    va_Run p l e R s m args below meth c H locs cells slots mc ms (F0 m pc ls st0) rest (Qc (Value.ref b :: As).toArray) free := by
  obtain ⟨hx, hb, hr, hml, hown, hts, hlocks, hN⟩ := hC
  exact va_runVN (C := y.cls) (host := host) (Ts := kG) ⟨hx, hb, hml, hown, hts⟩ hM ⟨va_cnB n hts (gG' hcode) rfl hrc hrs (hN _ hlink) (hts _ hini) hd hR, hts _ hinst, hts _ hsel⟩ hp rfl hn hl.1 hst (lv_room hW) hdg hf
theorem dm_rS {y : MethodName} {bytes : ByteArray} {maxL mc ms n index : Nat} {ret : Option FieldType} {rm : Room} {Pc : Array Value → State → Prop} {Qc : Array Value → State → Outcome → State → Prop} {free : Addr → Prop} {As : List Value} {lv : List (Nat × Value)}
    (hC : dm_C p s m args meth c cc nL ret0 own) (hl : lv_has ls nL lv) (hM : Met l y (Cond.code y bytes maxL ret :: kG) rm Pc Qc mc ms free) (hcode : Cond.code y bytes maxL ret ∈ kG) (hini : Cond.initialized y.cls ∈ kG) (hstat : Cond.static y ∈ kG) (hlink : Cond.methodLink own index y ∈ kG)
    (hd : y.cls ≠ "java/lang/invoke/MethodHandle" ∧ y.cls ≠ "java/lang/invoke/VarHandle" ∧ (parseMethodDescriptor y.desc).map (fun d => d.parameters.length) = some n) (hR : rm.frames + 1 ≤ R.frames ∧ 8 + (maxL + 11) + rm.locals ≤ R.locals) (hrc : rm.cells = mc) (hrs : rm.slots = ms) (hp : PreS s H Pc As)
    (hn : As.length = n) (hst : st0 = As.reverse ++ rest) (hW : (rest.map fun v => v.category).sum ≤ 8) (hdg : decode cc pc = .ok (.invokestatic index, 3)) (hf : cells + mc ≤ R.cells ∧ slots + ms ≤ R.slots) :
    va_Run p l e R s m args below meth c H locs cells slots mc ms (F0 m pc ls st0) rest (Qc As.toArray) free := by
  obtain ⟨hx, hb, hr, hml, hown, hts, hlocks, hN⟩ := hC
  exact va_runS (Ts := kG) ⟨hx, hb, hml, hown, hts⟩ hM ⟨callB_of n hts (gG' hcode) rfl hrc hrs (hts _ hini) (hts _ hlink) hd hR, hts _ hstat⟩ hp rfl hn hl.1 hst (lv_room hW) hdg hf
theorem dm_rSN {y : MethodName} {host : String} {bytes : ByteArray} {maxL mc ms n index : Nat} {ret : Option FieldType} {rm : Room} {Pc : Array Value → State → Prop} {Qc : Array Value → State → Outcome → State → Prop} {free : Addr → Prop} {As : List Value} {lv : List (Nat × Value)}
    (hC : dm_C p s m args meth c cc nL ret0 own) (hl : lv_has ls nL lv) (hM : Met l y (Cond.code y bytes maxL ret :: kG) rm Pc Qc mc ms free) (hcode : Cond.code y bytes maxL ret ∈ kG) (hini : Cond.initialized y.cls ∈ kG) (hstat : Cond.static y ∈ kG) (hlink : Cond.methodLinkNest own index y host ∈ kN)
    (hd : y.cls ≠ "java/lang/invoke/MethodHandle" ∧ y.cls ≠ "java/lang/invoke/VarHandle" ∧ (parseMethodDescriptor y.desc).map (fun d => d.parameters.length) = some n) (hR : rm.frames + 1 ≤ R.frames ∧ 8 + (maxL + 11) + rm.locals ≤ R.locals) (hrc : rm.cells = mc) (hrs : rm.slots = ms) (hp : PreS s H Pc As)
    (hn : As.length = n) (hst : st0 = As.reverse ++ rest) (hW : (rest.map fun v => v.category).sum ≤ 8) (hdg : decode cc pc = .ok (.invokestatic index, 3)) (hf : cells + mc ≤ R.cells ∧ slots + ms ≤ R.slots) :
    va_Run p l e R s m args below meth c H locs cells slots mc ms (F0 m pc ls st0) rest (Qc As.toArray) free := by
  obtain ⟨hx, hb, hr, hml, hown, hts, hlocks, hN⟩ := hC
  exact va_runSN (host := host) (Ts := kG) ⟨hx, hb, hml, hown, hts⟩ hM ⟨va_cnB n hts (gG' hcode) rfl hrc hrs (hN _ hlink) (hts _ hini) hd hR, hts _ hstat, trivial⟩ hp rfl hn hl.1 hst (lv_room hW) hdg hf
/-- behind a call: the rest's cells and the callee's -/
theorem dm_goi {S : Type} {post : Int32 → S → Prop} {w1 : S → va_W} {a : Array Value} (hr : va_Run p l e R s m args below meth c H locs cells slots 0 0 (F0 m pc ls st0) rest (va_Qi post (dm_B D tys w1 (va_A wc H.size)) (va_A wc H.size) a) (va_A wc H.size))
    (hP : va_P D vwCl ws H) (hD : va_D A ws) (hS : va_S A s.heap H locs) (hA : ∀ q, s.heap.size ≤ q → A q) (isC isR : List Nat) (hC : isC.map (fun i => ws[i]?) = wc.map some) (hR : isR.map (fun i => ws[i]?) = wr.map some) (hn : va_nd isR = true) (hdis : ∀ i ∈ isR, i ∉ isC)
    (kk : ∀ (r : Int32) (u : S) (H1 : Heap) (locs1 : List Loc), post r u → va_P D vwCl (wr ++ w1 u) H1 → va_D A (wr ++ w1 u) → va_S A s.heap H1 locs1 → W p l e R s m args below meth c H1 locs1 cells slots Q (F0 m (pc + 3) ls (.int r :: rest))) : W p l e R s m args below meth c H locs cells slots Q (F0 m pc ls st0) := by
  have hF := va_free (wc := wc) hD hS hA isC hC
  refine va_calli hr hS (fun q _ h => hF q h) hF (fun r u t H1 locs1 ht hvm hw hB hz1 hk1 hS1 => ?_)
  obtain ⟨hP1, hK1, hD1⟩ := hB
  rw [ht] at hP1
  obtain ⟨hP2, hD2⟩ := va_join hP hD isC isR hC hR hn hdis hk1 hF hP1 hD1
  exact kk r u H1 locs1 hw hP2 hD2 hS1
theorem dm_gol {S : Type} {post : Int64 → S → Prop} {w1 : S → va_W} {a : Array Value} (hr : va_Run p l e R s m args below meth c H locs cells slots 0 0 (F0 m pc ls st0) rest (va_Ql post (dm_B D tys w1 (va_A wc H.size)) (va_A wc H.size) a) (va_A wc H.size))
    (hP : va_P D vwCl ws H) (hD : va_D A ws) (hS : va_S A s.heap H locs) (hA : ∀ q, s.heap.size ≤ q → A q) (isC isR : List Nat) (hC : isC.map (fun i => ws[i]?) = wc.map some) (hR : isR.map (fun i => ws[i]?) = wr.map some) (hn : va_nd isR = true) (hdis : ∀ i ∈ isR, i ∉ isC)
    (kk : ∀ (r : Int64) (u : S) (H1 : Heap) (locs1 : List Loc), post r u → va_P D vwCl (wr ++ w1 u) H1 → va_D A (wr ++ w1 u) → va_S A s.heap H1 locs1 → W p l e R s m args below meth c H1 locs1 cells slots Q (F0 m (pc + 3) ls (.long r :: rest))) : W p l e R s m args below meth c H locs cells slots Q (F0 m pc ls st0) := by
  have hF := va_free (wc := wc) hD hS hA isC hC
  refine va_calll hr hS (fun q _ h => hF q h) hF (fun r u t H1 locs1 ht hvm hw hB hz1 hk1 hS1 => ?_)
  obtain ⟨hP1, hK1, hD1⟩ := hB
  rw [ht] at hP1
  obtain ⟨hP2, hD2⟩ := va_join hP hD isC isR hC hR hn hdis hk1 hF hP1 hD1
  exact kk r u H1 locs1 hw hP2 hD2 hS1
theorem dm_gov {S : Type} {post : S → Prop} {w1 : S → va_W} {a : Array Value} (hr : va_Run p l e R s m args below meth c H locs cells slots 0 0 (F0 m pc ls st0) rest (va_Qv post (dm_B D tys w1 (va_A wc H.size)) (va_A wc H.size) a) (va_A wc H.size))
    (hP : va_P D vwCl ws H) (hD : va_D A ws) (hS : va_S A s.heap H locs) (hA : ∀ q, s.heap.size ≤ q → A q) (isC isR : List Nat) (hC : isC.map (fun i => ws[i]?) = wc.map some) (hR : isR.map (fun i => ws[i]?) = wr.map some) (hn : va_nd isR = true) (hdis : ∀ i ∈ isR, i ∉ isC)
    (kk : ∀ (u : S) (H1 : Heap) (locs1 : List Loc), post u → va_P D vwCl (wr ++ w1 u) H1 → va_D A (wr ++ w1 u) → va_S A s.heap H1 locs1 → W p l e R s m args below meth c H1 locs1 cells slots Q (F0 m (pc + 3) ls rest)) : W p l e R s m args below meth c H locs cells slots Q (F0 m pc ls st0) := by
  have hF := va_free (wc := wc) hD hS hA isC hC
  refine va_callv hr hS (fun q _ h => hF q h) hF (fun u t H1 locs1 ht hvm hw hB hz1 hk1 hS1 => ?_)
  obtain ⟨hP1, hK1, hD1⟩ := hB
  rw [ht] at hP1
  obtain ⟨hP2, hD2⟩ := va_join hP hD isC isR hC hR hn hdis hk1 hF hP1 hD1
  exact kk u H1 locs1 hw hP2 hD2 hS1
theorem dm_gori {post : Int32 → Prop} {a : Array Value} (hr : va_Run p l e R s m args below meth c H locs cells slots 0 0 (F0 m pc ls st0) rest (vp_Si post a) (fun _ => False))
    (kk : ∀ r : Int32, post r → W p l e R s m args below meth c H locs cells slots Q (F0 m (pc + 3) ls (.int r :: rest))) : W p l e R s m args below meth c H locs cells slots Q (F0 m pc ls st0) := vp_callSi hr.run kk
theorem dm_gorl {post : Int64 → Prop} {a : Array Value} (hr : va_Run p l e R s m args below meth c H locs cells slots 0 0 (F0 m pc ls st0) rest (vp_Sl post a) (fun _ => False))
    (kk : ∀ r : Int64, post r → W p l e R s m args below meth c H locs cells slots Q (F0 m (pc + 3) ls (.long r :: rest))) : W p l e R s m args below meth c H locs cells slots Q (F0 m pc ls st0) := vp_callSl hr.run kk
/-- values get another name -/
theorem dm_ti {x y : Int32} (e0 : x = y) (k : W p l e R s m args below meth c H locs cells slots Q (F0 m pc ls (.int y :: rest))) : W p l e R s m args below meth c H locs cells slots Q (F0 m pc ls (.int x :: rest)) := e0 ▸ k
theorem dm_tl {x y : Int64} (e0 : x = y) (k : W p l e R s m args below meth c H locs cells slots Q (F0 m pc ls (.long y :: rest))) : W p l e R s m args below meth c H locs cells slots Q (F0 m pc ls (.long x :: rest)) := e0 ▸ k
/-- roads that meet -/
theorem dm_joini {P : Int32 → Prop} (J : Nat) (rest' : List Value) (kk : (∀ v : Int32, P v → W p l e R s m args below meth c H locs cells slots Q (F0 m J ls (.int v :: rest'))) → W p l e R s m args below meth c H locs cells slots Q (F0 m pc ls rest)) (kJ : ∀ v : Int32, P v → W p l e R s m args below meth c H locs cells slots Q (F0 m J ls (.int v :: rest'))) : W p l e R s m args below meth c H locs cells slots Q (F0 m pc ls rest) := kk kJ
theorem dm_joinl {P : Int64 → Prop} (J : Nat) (rest' : List Value) (kk : (∀ v : Int64, P v → W p l e R s m args below meth c H locs cells slots Q (F0 m J ls (.long v :: rest'))) → W p l e R s m args below meth c H locs cells slots Q (F0 m pc ls rest)) (kJ : ∀ v : Int64, P v → W p l e R s m args below meth c H locs cells slots Q (F0 m J ls (.long v :: rest'))) : W p l e R s m args below meth c H locs cells slots Q (F0 m pc ls rest) := kk kJ
/-- a loop's head, with a state x of yours -/
theorem dm_loop {σ : Type} (head : Nat) (P : σ → Prop) (w : σ → va_W) (lv : σ → List (Nat × Value)) (μ : σ → Nat)
    (step : ∀ (x : σ) (H : Heap) (locs : List Loc) (ls : Array Slot), P x → va_P D vwCl (w x) H → va_D A (w x) → va_S A s.heap H locs → lv_has ls nL (lv x) →
      (∀ (x' : σ) (H' : Heap) (locs' : List Loc) (ls' : Array Slot), μ x' < μ x → P x' → va_P D vwCl (w x') H' → va_D A (w x') → va_S A s.heap H' locs' → lv_has ls' nL (lv x') → W p l e R s m args below meth c H' locs' cells slots Q (F0 m head ls' [])) → W p l e R s m args below meth c H locs cells slots Q (F0 m head ls []))
    (x : σ) (hp : P x) (hP : va_P D vwCl (w x) H) (hD : va_D A (w x)) (hS : va_S A s.heap H locs) (hl : lv_has ls nL (lv x)) : W p l e R s m args below meth c H locs cells slots Q (F0 m head ls []) := by
  have key : ∀ (n : Nat) (x : σ) (H : Heap) (locs : List Loc) (ls : Array Slot), μ x < n → P x → va_P D vwCl (w x) H → va_D A (w x) → va_S A s.heap H locs → lv_has ls nL (lv x) → W p l e R s m args below meth c H locs cells slots Q (F0 m head ls []) := by
    intro n
    induction n with
    | zero => intro x H locs ls h; exact absurd h (Nat.not_lt_zero _)
    | succ n ih =>
      intro x H locs ls h hp hP hD hS hl
      exact step x H locs ls hp hP hD hS hl (fun x' H' locs' ls' hm hp' hP' hD' hS' hl' => ih x' H' locs' ls' (by omega) hp' hP' hD' hS' hl')
  exact key (μ x + 1) x H locs ls (Nat.lt_succ_self _) hp hP hD hS hl
/-- a loop that changes no cell -/
theorem dm_loopR {σ : Type} (head : Nat) (P : σ → Prop) (lv : σ → List (Nat × Value)) (μ : σ → Nat)
    (step : ∀ (x : σ) (ls : Array Slot), P x → lv_has ls nL (lv x) →
      (∀ (x' : σ) (ls' : Array Slot), μ x' < μ x → P x' → lv_has ls' nL (lv x') → W p l e R s m args below meth c H locs cells slots Q (F0 m head ls' [])) → W p l e R s m args below meth c H locs cells slots Q (F0 m head ls []))
    (x : σ) (hp : P x) (hl : lv_has ls nL (lv x)) : W p l e R s m args below meth c H locs cells slots Q (F0 m head ls []) := by
  have key : ∀ (n : Nat) (x : σ) (ls : Array Slot), μ x < n → P x → lv_has ls nL (lv x) → W p l e R s m args below meth c H locs cells slots Q (F0 m head ls []) := by
    intro n
    induction n with
    | zero => intro x ls h; exact absurd h (Nat.not_lt_zero _)
    | succ n ih =>
      intro x ls h hp hl
      exact step x ls hp hl (fun x' ls' hm hp' hl' => ih x' ls' (by omega) hp' hl')
  exact key (μ x + 1) x ls (Nat.lt_succ_self _) hp hl
end DMW
section DMX
variable {p : Program} {l : Launch} {e : Env} {R : Room} {s : State} {m : MethodId} {args : Array Value} {below : List Frame} {meth : Method} {c : Code} {H : Heap} {locs : List Loc} {cells slots : Nat} {Q : State → Prop}
variable {pc : Nat} {ls : Array Slot} {rest : List Value} {D : va_G} {tys : List (ClassId × FieldType)} {A : Nat → Prop} {ws : va_W} {cc : ByteArray} {a : Nat} {H0 : Heap}

theorem dm_iald (hx : p.tables.exec = Jvm.exec) (hb : c.code = cc) (hK : va_K D vwCl tys s) (hP : va_P D vwCl ws H) (q0 t0 : Nat) {cA : ClassId} {n : Nat} {f : Nat → Int32} (ha : ws[q0]? = some (a, .inl (cA, n, .inl f))) (ht : tys[t0]? = some (cA, .int)) {j : Nat} (hj : j < n) (hn : n < 2 ^ 31) (hdg : decode cc pc = .ok (.iaload, 1)) (kk : W p l e R s m args below meth c H locs cells slots Q (F0 m (pc + 1) ls (.int (f j) :: rest))) : W p l e R s m args below meth c H locs cells slots Q (F0 m pc ls (.int (nI j) :: .ref a :: rest)) := by
  refine va_iald hx hb hK hP q0 t0 ha ht (vp_in_nI hj hn) hdg ?_
  rw [nI_clamp (Nat.lt_trans hj hn)]
  exact kk
theorem dm_bald (hx : p.tables.exec = Jvm.exec) (hb : c.code = cc) (hK : va_K D vwCl tys s) (hP : va_P D vwCl ws H) (q0 t0 : Nat) {cA : ClassId} {n : Nat} {f : Nat → Int32} (ha : ws[q0]? = some (a, .inl (cA, n, .inl f))) (ht : tys[t0]? = some (cA, .byte)) {j : Nat} (hj : j < n) (hn : n < 2 ^ 31) (hdg : decode cc pc = .ok (.baload, 1)) (kk : W p l e R s m args below meth c H locs cells slots Q (F0 m (pc + 1) ls (.int (f j) :: rest))) : W p l e R s m args below meth c H locs cells slots Q (F0 m pc ls (.int (nI j) :: .ref a :: rest)) := by
  refine va_bald hx hb hK hP q0 t0 ha ht (vp_in_nI hj hn) hdg ?_
  rw [nI_clamp (Nat.lt_trans hj hn)]
  exact kk
theorem dm_cald (hx : p.tables.exec = Jvm.exec) (hb : c.code = cc) (hK : va_K D vwCl tys s) (hP : va_P D vwCl ws H) (q0 t0 : Nat) {cA : ClassId} {n : Nat} {f : Nat → Int32} (ha : ws[q0]? = some (a, .inl (cA, n, .inl f))) (ht : tys[t0]? = some (cA, .char)) {j : Nat} (hj : j < n) (hn : n < 2 ^ 31) (hdg : decode cc pc = .ok (.caload, 1)) (kk : W p l e R s m args below meth c H locs cells slots Q (F0 m (pc + 1) ls (.int (f j) :: rest))) : W p l e R s m args below meth c H locs cells slots Q (F0 m pc ls (.int (nI j) :: .ref a :: rest)) := by
  refine va_cald hx hb hK hP q0 t0 ha ht (vp_in_nI hj hn) hdg ?_
  rw [nI_clamp (Nat.lt_trans hj hn)]
  exact kk
theorem dm_iast (hx : p.tables.exec = Jvm.exec) (hb : c.code = cc) (hK : va_K D vwCl tys s) (hP : va_P D vwCl ws H) (hD : va_D A ws) (hS : va_S A H0 H locs) (q0 t0 : Nat) {cA : ClassId} {n : Nat} {f f' : Nat → Int32} (ha : ws[q0]? = some (a, .inl (cA, n, .inl f))) (ht : tys[t0]? = some (cA, .int)) {j : Nat} {x : Int32} (hj : j < n) (hn : n < 2 ^ 31) (hf : upd f j (x) = f') (hdg : decode cc pc = .ok (.iastore, 1))
    (kk : ∀ (H1 : Heap) (locs1 : List Loc), va_P D vwCl (ws.set q0 (a, .inl (cA, n, .inl f'))) H1 → va_D A (ws.set q0 (a, .inl (cA, n, .inl f'))) → va_S A H0 H1 locs1 → W p l e R s m args below meth c H1 locs1 cells slots Q (F0 m (pc + 1) ls rest)) : W p l e R s m args below meth c H locs cells slots Q (F0 m pc ls (.int x :: .int (nI j) :: .ref a :: rest)) := by
  subst hf
  refine va_iast hx hb hK hP hD hS q0 t0 ha ht (vp_in_nI hj hn) hdg ?_
  rw [nI_clamp (Nat.lt_trans hj hn)]
  exact kk
theorem dm_bast (hx : p.tables.exec = Jvm.exec) (hb : c.code = cc) (hK : va_K D vwCl tys s) (hP : va_P D vwCl ws H) (hD : va_D A ws) (hS : va_S A H0 H locs) (q0 t0 : Nat) {cA : ClassId} {n : Nat} {f f' : Nat → Int32} (ha : ws[q0]? = some (a, .inl (cA, n, .inl f))) (ht : tys[t0]? = some (cA, .byte)) {j : Nat} {x : Int32} (hj : j < n) (hn : n < 2 ^ 31) (hf : upd f j (vp_nar .byte x) = f') (hdg : decode cc pc = .ok (.bastore, 1))
    (kk : ∀ (H1 : Heap) (locs1 : List Loc), va_P D vwCl (ws.set q0 (a, .inl (cA, n, .inl f'))) H1 → va_D A (ws.set q0 (a, .inl (cA, n, .inl f'))) → va_S A H0 H1 locs1 → W p l e R s m args below meth c H1 locs1 cells slots Q (F0 m (pc + 1) ls rest)) : W p l e R s m args below meth c H locs cells slots Q (F0 m pc ls (.int x :: .int (nI j) :: .ref a :: rest)) := by
  subst hf
  refine va_bast hx hb hK hP hD hS q0 t0 ha ht (vp_in_nI hj hn) hdg ?_
  rw [nI_clamp (Nat.lt_trans hj hn)]
  exact kk
theorem dm_cast (hx : p.tables.exec = Jvm.exec) (hb : c.code = cc) (hK : va_K D vwCl tys s) (hP : va_P D vwCl ws H) (hD : va_D A ws) (hS : va_S A H0 H locs) (q0 t0 : Nat) {cA : ClassId} {n : Nat} {f f' : Nat → Int32} (ha : ws[q0]? = some (a, .inl (cA, n, .inl f))) (ht : tys[t0]? = some (cA, .char)) {j : Nat} {x : Int32} (hj : j < n) (hn : n < 2 ^ 31) (hf : upd f j (vp_nar .char x) = f') (hdg : decode cc pc = .ok (.castore, 1))
    (kk : ∀ (H1 : Heap) (locs1 : List Loc), va_P D vwCl (ws.set q0 (a, .inl (cA, n, .inl f'))) H1 → va_D A (ws.set q0 (a, .inl (cA, n, .inl f'))) → va_S A H0 H1 locs1 → W p l e R s m args below meth c H1 locs1 cells slots Q (F0 m (pc + 1) ls rest)) : W p l e R s m args below meth c H locs cells slots Q (F0 m pc ls (.int x :: .int (nI j) :: .ref a :: rest)) := by
  subst hf
  refine va_cast hx hb hK hP hD hS q0 t0 ha ht (vp_in_nI hj hn) hdg ?_
  rw [nI_clamp (Nat.lt_trans hj hn)]
  exact kk
theorem dm_icmp_eq (hx : p.tables.exec = Jvm.exec) (hb : c.code = cc) {a b : Nat} {off : Int} {tgt : Nat} (ha : a < 2 ^ 31) (hb2 : b < 2 ^ 31) (hdg : decode cc pc = .ok (.if_icmp .eq off, 3)) (ht : (pc : Int) + off = (tgt : Int)) (kt : a = b → W p l e R s m args below meth c H locs cells slots Q (F0 m tgt ls rest)) (kf : a ≠ b → W p l e R s m args below meth c H locs cells slots Q (F0 m (pc + 3) ls rest)) : W p l e R s m args below meth c H locs cells slots Q (F0 m pc ls (.int (nI b) :: .int (nI a) :: rest)) :=
  lv_icmp_eq hx hb hdg ht (fun h => kt ((nI_eq ha hb2).mp h)) (fun h => kf (fun e0 => h ((nI_eq ha hb2).mpr e0)))
theorem dm_icmp_ne (hx : p.tables.exec = Jvm.exec) (hb : c.code = cc) {a b : Nat} {off : Int} {tgt : Nat} (ha : a < 2 ^ 31) (hb2 : b < 2 ^ 31) (hdg : decode cc pc = .ok (.if_icmp .ne off, 3)) (ht : (pc : Int) + off = (tgt : Int)) (kt : a ≠ b → W p l e R s m args below meth c H locs cells slots Q (F0 m tgt ls rest)) (kf : a = b → W p l e R s m args below meth c H locs cells slots Q (F0 m (pc + 3) ls rest)) : W p l e R s m args below meth c H locs cells slots Q (F0 m pc ls (.int (nI b) :: .int (nI a) :: rest)) :=
  lv_icmp_ne hx hb hdg ht (fun h => kt (fun e0 => h ((nI_eq ha hb2).mpr e0))) (fun h => kf ((nI_eq ha hb2).mp h))
theorem dm_icmp_lt (hx : p.tables.exec = Jvm.exec) (hb : c.code = cc) {a b : Nat} {off : Int} {tgt : Nat} (ha : a < 2 ^ 31) (hb2 : b < 2 ^ 31) (hdg : decode cc pc = .ok (.if_icmp .lt off, 3)) (ht : (pc : Int) + off = (tgt : Int)) (kt : a < b → W p l e R s m args below meth c H locs cells slots Q (F0 m tgt ls rest)) (kf : b ≤ a → W p l e R s m args below meth c H locs cells slots Q (F0 m (pc + 3) ls rest)) : W p l e R s m args below meth c H locs cells slots Q (F0 m pc ls (.int (nI b) :: .int (nI a) :: rest)) :=
  lv_icmp_lt hx hb hdg ht (fun h => kt ((nI_ltI ha hb2).mp h)) (fun h => kf (Nat.le_of_not_lt (fun q => h ((nI_ltI ha hb2).mpr q))))
theorem dm_icmp_ge (hx : p.tables.exec = Jvm.exec) (hb : c.code = cc) {a b : Nat} {off : Int} {tgt : Nat} (ha : a < 2 ^ 31) (hb2 : b < 2 ^ 31) (hdg : decode cc pc = .ok (.if_icmp .ge off, 3)) (ht : (pc : Int) + off = (tgt : Int)) (kt : b ≤ a → W p l e R s m args below meth c H locs cells slots Q (F0 m tgt ls rest)) (kf : a < b → W p l e R s m args below meth c H locs cells slots Q (F0 m (pc + 3) ls rest)) : W p l e R s m args below meth c H locs cells slots Q (F0 m pc ls (.int (nI b) :: .int (nI a) :: rest)) :=
  lv_icmp_ge hx hb hdg ht (fun h => kt ((nI_leI hb2 ha).mp h)) (fun h => kf (Nat.lt_of_not_le (fun q => h ((nI_leI hb2 ha).mpr q))))
theorem dm_icmp_gt (hx : p.tables.exec = Jvm.exec) (hb : c.code = cc) {a b : Nat} {off : Int} {tgt : Nat} (ha : a < 2 ^ 31) (hb2 : b < 2 ^ 31) (hdg : decode cc pc = .ok (.if_icmp .gt off, 3)) (ht : (pc : Int) + off = (tgt : Int)) (kt : b < a → W p l e R s m args below meth c H locs cells slots Q (F0 m tgt ls rest)) (kf : a ≤ b → W p l e R s m args below meth c H locs cells slots Q (F0 m (pc + 3) ls rest)) : W p l e R s m args below meth c H locs cells slots Q (F0 m pc ls (.int (nI b) :: .int (nI a) :: rest)) :=
  lv_icmp_gt hx hb hdg ht (fun h => kt ((nI_ltI hb2 ha).mp h)) (fun h => kf (Nat.le_of_not_lt (fun q => h ((nI_ltI hb2 ha).mpr q))))
theorem dm_icmp_le (hx : p.tables.exec = Jvm.exec) (hb : c.code = cc) {a b : Nat} {off : Int} {tgt : Nat} (ha : a < 2 ^ 31) (hb2 : b < 2 ^ 31) (hdg : decode cc pc = .ok (.if_icmp .le off, 3)) (ht : (pc : Int) + off = (tgt : Int)) (kt : a ≤ b → W p l e R s m args below meth c H locs cells slots Q (F0 m tgt ls rest)) (kf : b < a → W p l e R s m args below meth c H locs cells slots Q (F0 m (pc + 3) ls rest)) : W p l e R s m args below meth c H locs cells slots Q (F0 m pc ls (.int (nI b) :: .int (nI a) :: rest)) :=
  lv_icmp_le hx hb hdg ht (fun h => kt ((nI_leI ha hb2).mp h)) (fun h => kf (Nat.lt_of_not_le (fun q => h ((nI_leI ha hb2).mpr q))))
theorem dm_if_eq (hx : p.tables.exec = Jvm.exec) (hb : c.code = cc) {a : Nat} {off : Int} {tgt : Nat} (ha : a < 2 ^ 31) (hdg : decode cc pc = .ok (.ifCond .eq off, 3)) (ht : (pc : Int) + off = (tgt : Int)) (kt : a = 0 → W p l e R s m args below meth c H locs cells slots Q (F0 m tgt ls rest)) (kf : a ≠ 0 → W p l e R s m args below meth c H locs cells slots Q (F0 m (pc + 3) ls rest)) : W p l e R s m args below meth c H locs cells slots Q (F0 m pc ls (.int (nI a) :: rest)) :=
  lv_if_eq hx hb hdg ht (fun h => kt ((nI_eq ha (by decide)).mp (h.trans nI_0.symm))) (fun h => kf (fun e0 => h (by rw [e0]; exact nI_0)))
theorem dm_if_ne (hx : p.tables.exec = Jvm.exec) (hb : c.code = cc) {a : Nat} {off : Int} {tgt : Nat} (ha : a < 2 ^ 31) (hdg : decode cc pc = .ok (.ifCond .ne off, 3)) (ht : (pc : Int) + off = (tgt : Int)) (kt : a ≠ 0 → W p l e R s m args below meth c H locs cells slots Q (F0 m tgt ls rest)) (kf : a = 0 → W p l e R s m args below meth c H locs cells slots Q (F0 m (pc + 3) ls rest)) : W p l e R s m args below meth c H locs cells slots Q (F0 m pc ls (.int (nI a) :: rest)) :=
  lv_if_ne hx hb hdg ht (fun h => kt (fun e0 => h (by rw [e0]; exact nI_0))) (fun h => kf ((nI_eq ha (by decide)).mp (h.trans nI_0.symm)))
theorem dm_if_gt (hx : p.tables.exec = Jvm.exec) (hb : c.code = cc) {a : Nat} {off : Int} {tgt : Nat} (ha : a < 2 ^ 31) (hdg : decode cc pc = .ok (.ifCond .gt off, 3)) (ht : (pc : Int) + off = (tgt : Int)) (kt : 0 < a → W p l e R s m args below meth c H locs cells slots Q (F0 m tgt ls rest)) (kf : a = 0 → W p l e R s m args below meth c H locs cells slots Q (F0 m (pc + 3) ls rest)) : W p l e R s m args below meth c H locs cells slots Q (F0 m pc ls (.int (nI a) :: rest)) :=
  lv_if_gt hx hb hdg ht (fun h => kt ((nI_ltI (a := 0) (by decide) ha).mp (by rw [nI_0]; exact h))) (fun h => kf (Nat.eq_zero_of_not_pos (fun q => h (by rw [← nI_0]; exact (nI_ltI (a := 0) (by decide) ha).mpr q))))
theorem dm_if_le (hx : p.tables.exec = Jvm.exec) (hb : c.code = cc) {a : Nat} {off : Int} {tgt : Nat} (ha : a < 2 ^ 31) (hdg : decode cc pc = .ok (.ifCond .le off, 3)) (ht : (pc : Int) + off = (tgt : Int)) (kt : a = 0 → W p l e R s m args below meth c H locs cells slots Q (F0 m tgt ls rest)) (kf : 0 < a → W p l e R s m args below meth c H locs cells slots Q (F0 m (pc + 3) ls rest)) : W p l e R s m args below meth c H locs cells slots Q (F0 m pc ls (.int (nI a) :: rest)) :=
  lv_if_le hx hb hdg ht (fun h => kt (by have := (nI_leI (b := 0) ha (by decide)).mp (by rw [nI_0]; exact h); omega)) (fun h => kf (Nat.pos_of_ne_zero (fun q => h (by rw [← nI_0]; exact (nI_leI (b := 0) ha (by decide)).mpr (Nat.le_of_eq q)))))
theorem dm_if_lt (hx : p.tables.exec = Jvm.exec) (hb : c.code = cc) {a : Nat} {off : Int} {tgt : Nat} (ha : a < 2 ^ 31) (hdg : decode cc pc = .ok (.ifCond .lt off, 3)) (ht : (pc : Int) + off = (tgt : Int)) (kt : False → W p l e R s m args below meth c H locs cells slots Q (F0 m tgt ls rest)) (kf : True → W p l e R s m args below meth c H locs cells slots Q (F0 m (pc + 3) ls rest)) : W p l e R s m args below meth c H locs cells slots Q (F0 m pc ls (.int (nI a) :: rest)) :=
  lv_if_lt hx hb hdg ht (fun h => kt (nI_pos ha h)) (fun h => kf (trivial))
theorem dm_if_ge (hx : p.tables.exec = Jvm.exec) (hb : c.code = cc) {a : Nat} {off : Int} {tgt : Nat} (ha : a < 2 ^ 31) (hdg : decode cc pc = .ok (.ifCond .ge off, 3)) (ht : (pc : Int) + off = (tgt : Int)) (kt : True → W p l e R s m args below meth c H locs cells slots Q (F0 m tgt ls rest)) (kf : False → W p l e R s m args below meth c H locs cells slots Q (F0 m (pc + 3) ls rest)) : W p l e R s m args below meth c H locs cells slots Q (F0 m pc ls (.int (nI a) :: rest)) :=
  lv_if_ge hx hb hdg ht (fun h => kt (trivial)) (fun h => kf (h (nI_pos' ha)))
end DMX
end
section
section DMY
variable {p : Program} {l : Launch} {e : Env} {R : Room} {s : State} {m : MethodId} {args : Array Value} {below : List Frame} {meth : Method} {c : Code} {H : Heap} {locs : List Loc} {cells slots : Nat} {Q : State → Prop}
variable {pc : Nat} {ls : Array Slot} {rest : List Value} {cc : ByteArray}

theorem dm_lc_eq (hx : p.tables.exec = Jvm.exec) (hb : c.code = cc) {a b : Nat} {off : Int} {tgt : Nat} (ha : a < 2 ^ 63) (hb2 : b < 2 ^ 63) (hd1 : decode cc pc = .ok (.lcmp, 1)) (hdg : decode cc (pc + 1) = .ok (.ifCond .eq off, 3)) (ht : ((pc + 1 : Nat) : Int) + off = (tgt : Int)) (kt : a = b → W p l e R s m args below meth c H locs cells slots Q (F0 m tgt ls rest)) (kf : a ≠ b → W p l e R s m args below meth c H locs cells slots Q (F0 m (pc + 1 + 3) ls rest)) : W p l e R s m args below meth c H locs cells slots Q (F0 m pc ls (.long (lN b) :: .long (lN a) :: rest)) :=
  W.lcmp hx hb hd1 (lv_if_eq hx hb hdg ht (fun h => kt ((pk_lEQ ha hb2).mp ((lg_cmp_eq _ _).mp h))) (fun h => kf (fun e0 => h ((lg_cmp_eq _ _).mpr ((pk_lEQ ha hb2).mpr e0)))))
theorem dm_lc_ne (hx : p.tables.exec = Jvm.exec) (hb : c.code = cc) {a b : Nat} {off : Int} {tgt : Nat} (ha : a < 2 ^ 63) (hb2 : b < 2 ^ 63) (hd1 : decode cc pc = .ok (.lcmp, 1)) (hdg : decode cc (pc + 1) = .ok (.ifCond .ne off, 3)) (ht : ((pc + 1 : Nat) : Int) + off = (tgt : Int)) (kt : a ≠ b → W p l e R s m args below meth c H locs cells slots Q (F0 m tgt ls rest)) (kf : a = b → W p l e R s m args below meth c H locs cells slots Q (F0 m (pc + 1 + 3) ls rest)) : W p l e R s m args below meth c H locs cells slots Q (F0 m pc ls (.long (lN b) :: .long (lN a) :: rest)) :=
  W.lcmp hx hb hd1 (lv_if_ne hx hb hdg ht (fun h => kt (fun e0 => h ((lg_cmp_eq _ _).mpr ((pk_lEQ ha hb2).mpr e0)))) (fun h => kf ((pk_lEQ ha hb2).mp ((lg_cmp_eq _ _).mp h))))
theorem dm_lc_lt (hx : p.tables.exec = Jvm.exec) (hb : c.code = cc) {a b : Nat} {off : Int} {tgt : Nat} (ha : a < 2 ^ 63) (hb2 : b < 2 ^ 63) (hd1 : decode cc pc = .ok (.lcmp, 1)) (hdg : decode cc (pc + 1) = .ok (.ifCond .lt off, 3)) (ht : ((pc + 1 : Nat) : Int) + off = (tgt : Int)) (kt : a < b → W p l e R s m args below meth c H locs cells slots Q (F0 m tgt ls rest)) (kf : b ≤ a → W p l e R s m args below meth c H locs cells slots Q (F0 m (pc + 1 + 3) ls rest)) : W p l e R s m args below meth c H locs cells slots Q (F0 m pc ls (.long (lN b) :: .long (lN a) :: rest)) :=
  W.lcmp hx hb hd1 (lv_if_lt hx hb hdg ht (fun h => kt ((pk_lLT ha hb2).mp ((lg_cmp_lt _ _).mp h))) (fun h => kf (Nat.le_of_not_lt (fun q => h ((lg_cmp_lt _ _).mpr ((pk_lLT ha hb2).mpr q))))))
theorem dm_lc_ge (hx : p.tables.exec = Jvm.exec) (hb : c.code = cc) {a b : Nat} {off : Int} {tgt : Nat} (ha : a < 2 ^ 63) (hb2 : b < 2 ^ 63) (hd1 : decode cc pc = .ok (.lcmp, 1)) (hdg : decode cc (pc + 1) = .ok (.ifCond .ge off, 3)) (ht : ((pc + 1 : Nat) : Int) + off = (tgt : Int)) (kt : b ≤ a → W p l e R s m args below meth c H locs cells slots Q (F0 m tgt ls rest)) (kf : a < b → W p l e R s m args below meth c H locs cells slots Q (F0 m (pc + 1 + 3) ls rest)) : W p l e R s m args below meth c H locs cells slots Q (F0 m pc ls (.long (lN b) :: .long (lN a) :: rest)) :=
  W.lcmp hx hb hd1 (lv_if_ge hx hb hdg ht (fun h => kt ((pk_lLE hb2 ha).mp ((lg_cmp_ge _ _).mp h))) (fun h => kf (Nat.lt_of_not_le (fun q => h ((lg_cmp_ge _ _).mpr ((pk_lLE hb2 ha).mpr q))))))
theorem dm_lc_gt (hx : p.tables.exec = Jvm.exec) (hb : c.code = cc) {a b : Nat} {off : Int} {tgt : Nat} (ha : a < 2 ^ 63) (hb2 : b < 2 ^ 63) (hd1 : decode cc pc = .ok (.lcmp, 1)) (hdg : decode cc (pc + 1) = .ok (.ifCond .gt off, 3)) (ht : ((pc + 1 : Nat) : Int) + off = (tgt : Int)) (kt : b < a → W p l e R s m args below meth c H locs cells slots Q (F0 m tgt ls rest)) (kf : a ≤ b → W p l e R s m args below meth c H locs cells slots Q (F0 m (pc + 1 + 3) ls rest)) : W p l e R s m args below meth c H locs cells slots Q (F0 m pc ls (.long (lN b) :: .long (lN a) :: rest)) :=
  W.lcmp hx hb hd1 (lv_if_gt hx hb hdg ht (fun h => kt ((pk_lLT hb2 ha).mp ((lg_cmp_gt _ _).mp h))) (fun h => kf (Nat.le_of_not_lt (fun q => h ((lg_cmp_gt _ _).mpr ((pk_lLT hb2 ha).mpr q))))))
theorem dm_lc_le (hx : p.tables.exec = Jvm.exec) (hb : c.code = cc) {a b : Nat} {off : Int} {tgt : Nat} (ha : a < 2 ^ 63) (hb2 : b < 2 ^ 63) (hd1 : decode cc pc = .ok (.lcmp, 1)) (hdg : decode cc (pc + 1) = .ok (.ifCond .le off, 3)) (ht : ((pc + 1 : Nat) : Int) + off = (tgt : Int)) (kt : a ≤ b → W p l e R s m args below meth c H locs cells slots Q (F0 m tgt ls rest)) (kf : b < a → W p l e R s m args below meth c H locs cells slots Q (F0 m (pc + 1 + 3) ls rest)) : W p l e R s m args below meth c H locs cells slots Q (F0 m pc ls (.long (lN b) :: .long (lN a) :: rest)) :=
  W.lcmp hx hb hd1 (lv_if_le hx hb hdg ht (fun h => kt ((pk_lLE ha hb2).mp ((lg_cmp_le _ _).mp h))) (fun h => kf (Nat.lt_of_not_le (fun q => h ((lg_cmp_le _ _).mpr ((pk_lLE ha hb2).mpr q))))))
end DMY
end
section
theorem kse_X0_appendBytes : Cond.selects RX0 yX0_appendBytes yX0_appendBytes ∈ kG := kG_at 0 (by decide +kernel) rfl
theorem kse_X0_appendEnd : Cond.selects RX0 yX0_appendEnd yX0_appendEnd ∈ kG := kG_at 1 (by decide +kernel) rfl
theorem kse_X3_readNumber : Cond.selects RX3 yX3_readNumber yX3_readNumber ∈ kG := kG_at 2 (by decide +kernel) rfl
theorem kse_X0_firstOther : Cond.selects RX0 yX0_firstOther yX0_firstOther ∈ kG := kG_at 3 (by decide +kernel) rfl
theorem kse_X0_codeAt : Cond.selects RX0 yX0_codeAt yX0_codeAt ∈ kG := kG_at 4 (by decide +kernel) rfl
theorem kse_X0_size : Cond.selects RX0 yX0_size yX0_size ∈ kG := kG_at 5 (by decide +kernel) rfl
theorem kse_X2_becomeDigitsOf : Cond.selects RX2 yX2_becomeDigitsOf yX2_becomeDigitsOf ∈ kG := kG_at 6 (by decide +kernel) rfl
theorem kse_X2_multiplyAndAdd : Cond.selects RX2 yX2_multiplyAndAdd yX2_multiplyAndAdd ∈ kG := kG_at 7 (by decide +kernel) rfl
theorem kse_X2_appendCarry : Cond.selects RX2 yX2_appendCarry yX2_appendCarry ∈ kG := kG_at 8 (by decide +kernel) rfl
theorem kse_X2_becomeCopyOf : Cond.selects RX2 yX2_becomeCopyOf yX2_becomeCopyOf ∈ kG := kG_at 9 (by decide +kernel) rfl
theorem kse_X0_clear : Cond.selects RX0 yX0_clear yX0_clear ∈ kG := kG_at 10 (by decide +kernel) rfl
theorem kse_X1_becomeDigitsOf : Cond.selects RX1 yX1_becomeDigitsOf yX1_becomeDigitsOf ∈ kG := kG_at 11 (by decide +kernel) rfl
theorem kse_X2_isZero : Cond.selects RX2 yX2_isZero yX2_isZero ∈ kG := kG_at 12 (by decide +kernel) rfl
theorem kse_X2_divideTwiceBy : Cond.selects RX2 yX2_divideTwiceBy yX2_divideTwiceBy ∈ kG := kG_at 13 (by decide +kernel) rfl
theorem kse_X2_dropZeros : Cond.selects RX2 yX2_dropZeros yX2_dropZeros ∈ kG := kG_at 14 (by decide +kernel) rfl
theorem kse_X1_prependDigits : Cond.selects RX1 yX1_prependDigits yX1_prependDigits ∈ kG := kG_at 15 (by decide +kernel) rfl
theorem kse_X1_prepend : Cond.selects RX1 yX1_prepend yX1_prepend ∈ kG := kG_at 16 (by decide +kernel) rfl
theorem kse_X1_size : Cond.selects RX1 yX1_size yX1_size ∈ kG := kG_at 17 (by decide +kernel) rfl
theorem kse_X2_appendLong : Cond.selects RX2 yX2_appendLong yX2_appendLong ∈ kG := kG_at 18 (by decide +kernel) rfl
theorem kse_X3_raiseInSpare : Cond.selects RX3 yX3_raiseInSpare yX3_raiseInSpare ∈ kG := kG_at 19 (by decide +kernel) rfl
theorem kse_X2_becomeLong : Cond.selects RX2 yX2_becomeLong yX2_becomeLong ∈ kG := kG_at 20 (by decide +kernel) rfl
theorem kse_X2_becomeSquareOf : Cond.selects RX2 yX2_becomeSquareOf yX2_becomeSquareOf ∈ kG := kG_at 21 (by decide +kernel) rfl
theorem kse_X2_addProductsAbove : Cond.selects RX2 yX2_addProductsAbove yX2_addProductsAbove ∈ kG := kG_at 22 (by decide +kernel) rfl
theorem kse_X2_doubleAndAddSquares : Cond.selects RX2 yX2_doubleAndAddSquares yX2_doubleAndAddSquares ∈ kG := kG_at 23 (by decide +kernel) rfl
theorem kse_X2_decrease : Cond.selects RX2 yX2_decrease yX2_decrease ∈ kG := kG_at 24 (by decide +kernel) rfl
theorem kse_X2_wordAt : Cond.selects RX2 yX2_wordAt yX2_wordAt ∈ kG := kG_at 25 (by decide +kernel) rfl
theorem kse_X2_increase : Cond.selects RX2 yX2_increase yX2_increase ∈ kG := kG_at 26 (by decide +kernel) rfl
theorem kse_X2_hasRoomFor : Cond.selects RX2 yX2_hasRoomFor yX2_hasRoomFor ∈ kG := kG_at 27 (by decide +kernel) rfl
theorem kse_X3_parseValue : Cond.selects RX3 yX3_parseValue yX3_parseValue ∈ kG := kG_at 28 (by decide +kernel) rfl
theorem kse_X3_smallHasWidth : Cond.selects RX3 yX3_smallHasWidth yX3_smallHasWidth ∈ kG := kG_at 29 (by decide +kernel) rfl
theorem kse_X2_countBits : Cond.selects RX2 yX2_countBits yX2_countBits ∈ kG := kG_at 30 (by decide +kernel) rfl
theorem kse_X2_lowLong : Cond.selects RX2 yX2_lowLong yX2_lowLong ∈ kG := kG_at 31 (by decide +kernel) rfl
theorem kse_X1_codeAt : Cond.selects RX1 yX1_codeAt yX1_codeAt ∈ kG := kG_at 32 (by decide +kernel) rfl
theorem kse_X4_timesAdd : Cond.selects RX4 yX4_timesAdd yX4_timesAdd ∈ kG := kG_at 33 (by decide +kernel) rfl
theorem kse_X4_give : Cond.selects RX4 yX4_give yX4_give ∈ kG := kG_at 34 (by decide +kernel) rfl
theorem kse_X4_take : Cond.selects RX4 yX4_take yX4_take ∈ kG := kG_at 35 (by decide +kernel) rfl
theorem kse_X4_divide : Cond.selects RX4 yX4_divide yX4_divide ∈ kG := kG_at 36 (by decide +kernel) rfl
theorem kse_X4_turnOut : Cond.selects RX4 yX4_turnOut yX4_turnOut ∈ kG := kG_at 37 (by decide +kernel) rfl
theorem kse_X4_load : Cond.selects RX4 yX4_load yX4_load ∈ kG := kG_at 38 (by decide +kernel) rfl
theorem ki_L : Cond.initialized RL ∈ kG := kG_at 39 (by decide +kernel) rfl
theorem ki_X3 : Cond.initialized RX3 ∈ kG := kG_at 40 (by decide +kernel) rfl
theorem ki_X0 : Cond.initialized RX0 ∈ kG := kG_at 41 (by decide +kernel) rfl
theorem ki_X1 : Cond.initialized RX1 ∈ kG := kG_at 42 (by decide +kernel) rfl
theorem ki_X2 : Cond.initialized RX2 ∈ kG := kG_at 43 (by decide +kernel) rfl
theorem ki_J9 : Cond.initialized RJ9 ∈ kG := kG_at 44 (by decide +kernel) rfl
theorem ki_X4 : Cond.initialized RX4 ∈ kG := kG_at 45 (by decide +kernel) rfl
theorem ki_J10 : Cond.initialized RJ10 ∈ kG := kG_at 46 (by decide +kernel) rfl
theorem ki_J6 : Cond.initialized RJ6 ∈ kG := kG_at 47 (by decide +kernel) rfl
theorem kcl_L_7 : Cond.classLink RL 7 RX3 ∈ kG := kG_at 48 (by decide +kernel) rfl
theorem kin_X3 : Cond.instantiable RX3 7 ∈ kG := kG_at 49 (by decide +kernel) rfl
theorem kml_L_9 : Cond.methodLink RL 9 yX3_init ∈ kG := kG_at 50 (by decide +kernel) rfl
theorem kim_X3_init : Cond.instanceMethod yX3_init ∈ kG := kG_at 51 (by decide +kernel) rfl
theorem kco_X3_init : Cond.code yX3_init cX3_init 1 none ∈ kG := kG_at 52 rfl rfl
theorem kml_X3_1 : Cond.methodLink RX3 1 (⟨"java/lang/Object", "<init>", "()V"⟩ : MethodName) ∈ kG := kG_at 53 (by decide +kernel) rfl
theorem kim_O_init : Cond.instanceMethod (⟨"java/lang/Object", "<init>", "()V"⟩ : MethodName) ∈ kG := kG_at 54 (by decide +kernel) rfl
theorem kco_O_init : Cond.code (⟨"java/lang/Object", "<init>", "()V"⟩ : MethodName) object_method_1_code 1 none ∈ kG := kG_at 55 rfl rfl
theorem kcl_X3_7 : Cond.classLink RX3 7 RX0 ∈ kG := kG_at 56 (by decide +kernel) rfl
theorem kin_X0 : Cond.instantiable RX0 2 ∈ kG := kG_at 57 (by decide +kernel) rfl
theorem knl_X3_9 : Cond.methodLinkNest RX3 9 yX0_init "DigitMill" ∈ kN := kN_at 58 (by decide +kernel) rfl
theorem kim_X0_init : Cond.instanceMethod yX0_init ∈ kG := kG_at 59 (by decide +kernel) rfl
theorem kco_X0_init : Cond.code yX0_init cX0_init 1 none ∈ kG := kG_at 60 rfl rfl
theorem kml_X0_3 : Cond.methodLink RX0 3 (⟨"java/lang/Object", "<init>", "()V"⟩ : MethodName) ∈ kG := kG_at 61 (by decide +kernel) rfl
theorem kct_X0_9 : Cond.constant RX0 9 (65536) ∈ kG := kG_at 62 (by decide +kernel) rfl
theorem kfl_X0_10 : Cond.fieldLink RX0 10 "DigitMill$TextIn" "row" "[B" ∈ kG := kG_at 63 (by decide +kernel) rfl
theorem kfl_X0_16 : Cond.fieldLink RX0 16 "DigitMill$TextIn" "length" "I" ∈ kG := kG_at 64 (by decide +kernel) rfl
theorem kac_byte : Cond.arrayClass .byte ∈ kG := kG_at 70 (by decide +kernel) rfl
theorem kcl_X3_16 : Cond.classLink RX3 16 RX1 ∈ kG := kG_at 71 (by decide +kernel) rfl
theorem kin_X1 : Cond.instantiable RX1 2 ∈ kG := kG_at 72 (by decide +kernel) rfl
theorem knl_X3_18 : Cond.methodLinkNest RX3 18 yX1_init "DigitMill" ∈ kN := kN_at 73 (by decide +kernel) rfl
theorem kim_X1_init : Cond.instanceMethod yX1_init ∈ kG := kG_at 74 (by decide +kernel) rfl
theorem kco_X1_init : Cond.code yX1_init cX1_init 1 none ∈ kG := kG_at 75 rfl rfl
theorem kml_X1_3 : Cond.methodLink RX1 3 (⟨"java/lang/Object", "<init>", "()V"⟩ : MethodName) ∈ kG := kG_at 76 (by decide +kernel) rfl
theorem kct_X1_9 : Cond.constant RX1 9 (65536) ∈ kG := kG_at 77 (by decide +kernel) rfl
theorem kfl_X1_10 : Cond.fieldLink RX1 10 "DigitMill$TextOut" "row" "[B" ∈ kG := kG_at 78 (by decide +kernel) rfl
theorem kfl_X1_16 : Cond.fieldLink RX1 16 "DigitMill$TextOut" "start" "I" ∈ kG := kG_at 79 (by decide +kernel) rfl
theorem kcl_X3_23 : Cond.classLink RX3 23 RX2 ∈ kG := kG_at 85 (by decide +kernel) rfl
theorem kin_X2 : Cond.instantiable RX2 2 ∈ kG := kG_at 86 (by decide +kernel) rfl
theorem knl_X3_25 : Cond.methodLinkNest RX3 25 yX2_init "DigitMill" ∈ kN := kN_at 87 (by decide +kernel) rfl
theorem kim_X2_init : Cond.instanceMethod yX2_init ∈ kG := kG_at 88 (by decide +kernel) rfl
theorem kco_X2_init : Cond.code yX2_init cX2_init 2 none ∈ kG := kG_at 89 rfl rfl
theorem kml_X2_3 : Cond.methodLink RX2 3 (⟨"java/lang/Object", "<init>", "()V"⟩ : MethodName) ∈ kG := kG_at 90 (by decide +kernel) rfl
theorem kml_X2_9 : Cond.methodLink RX2 9 yJ9_max_7cf53 ∈ kG := kG_at 91 (by decide +kernel) rfl
theorem kst_J9_max_7cf53 : Cond.static yJ9_max_7cf53 ∈ kG := kG_at 92 (by decide +kernel) rfl
theorem kco_J9_max_7cf53 : Cond.code yJ9_max_7cf53 cJ9_max_7cf53 2 (some .int) ∈ kG := kG_at 93 rfl rfl
theorem kfl_X2_15 : Cond.fieldLink RX2 15 "DigitMill$Whole" "words" "[I" ∈ kG := kG_at 94 (by decide +kernel) rfl
theorem kfl_X2_21 : Cond.fieldLink RX2 21 "DigitMill$Whole" "used" "I" ∈ kG := kG_at 95 (by decide +kernel) rfl
theorem kac_int : Cond.arrayClass .int ∈ kG := kG_at 101 (by decide +kernel) rfl
theorem kfl_X3_10 : Cond.fieldLink RX3 10 "DigitMill" "textIn" "LDigitMill$TextIn;" ∈ kG := kG_at 102 (by decide +kernel) rfl
theorem kfl_X3_19 : Cond.fieldLink RX3 19 "DigitMill" "textOut" "LDigitMill$TextOut;" ∈ kG := kG_at 103 (by decide +kernel) rfl
theorem kfl_X3_28 : Cond.fieldLink RX3 28 "DigitMill" "number" "LDigitMill$Whole;" ∈ kG := kG_at 104 (by decide +kernel) rfl
theorem kfl_X3_32 : Cond.fieldLink RX3 32 "DigitMill" "spare" "LDigitMill$Whole;" ∈ kG := kG_at 105 (by decide +kernel) rfl
theorem kfl_X3_35 : Cond.fieldLink RX3 35 "DigitMill" "square" "LDigitMill$Whole;" ∈ kG := kG_at 106 (by decide +kernel) rfl
theorem kfl_X3_38 : Cond.fieldLink RX3 38 "DigitMill" "small" "LDigitMill$Whole;" ∈ kG := kG_at 107 (by decide +kernel) rfl
theorem kfl_X3_41 : Cond.fieldLink RX3 41 "DigitMill" "latestValue" "J" ∈ kG := kG_at 108 (by decide +kernel) rfl
theorem kml_L_15 : Cond.methodLink RL 15 yX3_type ∈ kG := kG_at 124 (by decide +kernel) rfl
theorem kim_X3_type : Cond.instanceMethod yX3_type ∈ kG := kG_at 125 (by decide +kernel) rfl
theorem kse_X3_type : Cond.selects RX3 yX3_type yX3_type ∈ kG := kG_at 126 (by decide +kernel) rfl
theorem kco_X3_type : Cond.code yX3_type cX3_type 3 (some .boolean) ∈ kG := kG_at 127 rfl rfl
theorem knl_X3_45 : Cond.methodLinkNest RX3 45 yX0_appendBytes "DigitMill" ∈ kN := kN_at 128 (by decide +kernel) rfl
theorem kim_X0_appendBytes : Cond.instanceMethod yX0_appendBytes ∈ kG := kG_at 130 (by decide +kernel) rfl
theorem kco_X0_appendBytes : Cond.code yX0_appendBytes cX0_appendBytes 6 (some .boolean) ∈ kG := kG_at 131 rfl rfl
theorem kml_L_20 : Cond.methodLink RL 20 yX3_repeat ∈ kG := kG_at 132 (by decide +kernel) rfl
theorem kim_X3_repeat : Cond.instanceMethod yX3_repeat ∈ kG := kG_at 133 (by decide +kernel) rfl
theorem kse_X3_repeat : Cond.selects RX3 yX3_repeat yX3_repeat ∈ kG := kG_at 134 (by decide +kernel) rfl
theorem kco_X3_repeat : Cond.code yX3_repeat cX3_repeat 3 (some .boolean) ∈ kG := kG_at 135 rfl rfl
theorem knl_X3_49 : Cond.methodLinkNest RX3 49 yX0_appendEnd "DigitMill" ∈ kN := kN_at 136 (by decide +kernel) rfl
theorem kim_X0_appendEnd : Cond.instanceMethod yX0_appendEnd ∈ kG := kG_at 138 (by decide +kernel) rfl
theorem kco_X0_appendEnd : Cond.code yX0_appendEnd cX0_appendEnd 7 (some .boolean) ∈ kG := kG_at 139 rfl rfl
theorem kml_L_25 : Cond.methodLink RL 25 yX3_read ∈ kG := kG_at 140 (by decide +kernel) rfl
theorem kim_X3_read : Cond.instanceMethod yX3_read ∈ kG := kG_at 141 (by decide +kernel) rfl
theorem kse_X3_read : Cond.selects RX3 yX3_read yX3_read ∈ kG := kG_at 142 (by decide +kernel) rfl
theorem kco_X3_read : Cond.code yX3_read cX3_read 3 (some .int) ∈ kG := kG_at 143 rfl rfl
theorem kml_X3_53 : Cond.methodLink RX3 53 yX3_isRadix ∈ kG := kG_at 144 (by decide +kernel) rfl
theorem kst_X3_isRadix : Cond.static yX3_isRadix ∈ kG := kG_at 145 (by decide +kernel) rfl
theorem kco_X3_isRadix : Cond.code yX3_isRadix cX3_isRadix 1 (some .boolean) ∈ kG := kG_at 146 rfl rfl
theorem kml_X3_57 : Cond.methodLink RX3 57 yX3_readNumber ∈ kG := kG_at 147 (by decide +kernel) rfl
theorem kim_X3_readNumber : Cond.instanceMethod yX3_readNumber ∈ kG := kG_at 149 (by decide +kernel) rfl
theorem kco_X3_readNumber : Cond.code yX3_readNumber cX3_readNumber 3 (some .int) ∈ kG := kG_at 150 rfl rfl
theorem knl_X3_114 : Cond.methodLinkNest RX3 114 yX0_firstOther "DigitMill" ∈ kN := kN_at 151 (by decide +kernel) rfl
theorem kim_X0_firstOther : Cond.instanceMethod yX0_firstOther ∈ kG := kG_at 153 (by decide +kernel) rfl
theorem kco_X0_firstOther : Cond.code yX0_firstOther cX0_firstOther 4 (some .int) ∈ kG := kG_at 154 rfl rfl
theorem kml_X0_20 : Cond.methodLink RX0 20 yX0_codeAt ∈ kG := kG_at 155 (by decide +kernel) rfl
theorem kim_X0_codeAt : Cond.instanceMethod yX0_codeAt ∈ kG := kG_at 157 (by decide +kernel) rfl
theorem kco_X0_codeAt : Cond.code yX0_codeAt cX0_codeAt 2 (some .int) ∈ kG := kG_at 158 rfl rfl
theorem knl_X0_24 : Cond.methodLinkNest RX0 24 yX3_digitOf "DigitMill" ∈ kN := kN_at 159 (by decide +kernel) rfl
theorem kst_X3_digitOf : Cond.static yX3_digitOf ∈ kG := kG_at 160 (by decide +kernel) rfl
theorem kco_X3_digitOf : Cond.code yX3_digitOf cX3_digitOf 1 (some .int) ∈ kG := kG_at 161 rfl rfl
theorem knl_X3_113 : Cond.methodLinkNest RX3 113 yX0_size "DigitMill" ∈ kN := kN_at 162 (by decide +kernel) rfl
theorem kim_X0_size : Cond.instanceMethod yX0_size ∈ kG := kG_at 164 (by decide +kernel) rfl
theorem kco_X0_size : Cond.code yX0_size cX0_size 1 (some .int) ∈ kG := kG_at 165 rfl rfl
theorem knl_X3_118 : Cond.methodLinkNest RX3 118 yX2_becomeDigitsOf "DigitMill" ∈ kN := kN_at 166 (by decide +kernel) rfl
theorem kim_X2_becomeDigitsOf : Cond.instanceMethod yX2_becomeDigitsOf ∈ kG := kG_at 168 (by decide +kernel) rfl
theorem kco_X2_becomeDigitsOf : Cond.code yX2_becomeDigitsOf cX2_becomeDigitsOf 11 (some .boolean) ∈ kG := kG_at 169 rfl rfl
theorem kct_X2_34 : Cond.constantLong RX2 34 (4294967295) ∈ kG := kG_at 170 (by decide +kernel) rfl
theorem knl_X2_49 : Cond.methodLinkNest RX2 49 yX0_size "DigitMill" ∈ kN := kN_at 171 (by decide +kernel) rfl
theorem knl_X2_55 : Cond.methodLinkNest RX2 55 yX0_codeAt "DigitMill" ∈ kN := kN_at 172 (by decide +kernel) rfl
theorem knl_X2_58 : Cond.methodLinkNest RX2 58 yX3_digitOf "DigitMill" ∈ kN := kN_at 173 (by decide +kernel) rfl
theorem kml_X2_61 : Cond.methodLink RX2 61 yX2_multiplyAndAdd ∈ kG := kG_at 174 (by decide +kernel) rfl
theorem kim_X2_multiplyAndAdd : Cond.instanceMethod yX2_multiplyAndAdd ∈ kG := kG_at 176 (by decide +kernel) rfl
theorem kco_X2_multiplyAndAdd : Cond.code yX2_multiplyAndAdd cX2_multiplyAndAdd 10 (some .boolean) ∈ kG := kG_at 177 rfl rfl
theorem kml_X2_65 : Cond.methodLink RX2 65 yX2_appendCarry ∈ kG := kG_at 178 (by decide +kernel) rfl
theorem kim_X2_appendCarry : Cond.instanceMethod yX2_appendCarry ∈ kG := kG_at 180 (by decide +kernel) rfl
theorem kco_X2_appendCarry : Cond.code yX2_appendCarry cX2_appendCarry 3 (some .boolean) ∈ kG := kG_at 181 rfl rfl
theorem knl_X3_64 : Cond.methodLinkNest RX3 64 yX2_becomeCopyOf "DigitMill" ∈ kN := kN_at 182 (by decide +kernel) rfl
theorem kim_X2_becomeCopyOf : Cond.instanceMethod yX2_becomeCopyOf ∈ kG := kG_at 184 (by decide +kernel) rfl
theorem kco_X2_becomeCopyOf : Cond.code yX2_becomeCopyOf cX2_becomeCopyOf 2 none ∈ kG := kG_at 185 rfl rfl
theorem kml_X2_40 : Cond.methodLink RX2 40 yJ9_min_7cf53 ∈ kG := kG_at 186 (by decide +kernel) rfl
theorem kst_J9_min_7cf53 : Cond.static yJ9_min_7cf53 ∈ kG := kG_at 187 (by decide +kernel) rfl
theorem kco_J9_min_7cf53 : Cond.code yJ9_min_7cf53 cJ9_min_7cf53 2 (some .int) ∈ kG := kG_at 188 rfl rfl
theorem kml_X2_43 : Cond.methodLink RX2 43 (⟨"java/lang/System", "arraycopy", "(Ljava/lang/Object;ILjava/lang/Object;II)V"⟩ : MethodName) ∈ kG := kG_at 189 (by decide +kernel) rfl
theorem kst_J10_arraycopy : Cond.static (⟨"java/lang/System", "arraycopy", "(Ljava/lang/Object;ILjava/lang/Object;II)V"⟩ : MethodName) ∈ kG := kG_at 190 (by decide +kernel) rfl
theorem kna_J10_arraycopy : Cond.native (⟨"java/lang/System", "arraycopy", "(Ljava/lang/Object;ILjava/lang/Object;II)V"⟩ : MethodName) ∈ kG := kG_at 191 (by decide +kernel) rfl
theorem knl_X3_61 : Cond.methodLinkNest RX3 61 yX0_clear "DigitMill" ∈ kN := kN_at 192 (by decide +kernel) rfl
theorem kim_X0_clear : Cond.instanceMethod yX0_clear ∈ kG := kG_at 194 (by decide +kernel) rfl
theorem kco_X0_clear : Cond.code yX0_clear cX0_clear 1 none ∈ kG := kG_at 195 rfl rfl
theorem kml_L_30 : Cond.methodLink RL 30 yX3_write ∈ kG := kG_at 196 (by decide +kernel) rfl
theorem kim_X3_write : Cond.instanceMethod yX3_write ∈ kG := kG_at 197 (by decide +kernel) rfl
theorem kse_X3_write : Cond.selects RX3 yX3_write yX3_write ∈ kG := kG_at 198 (by decide +kernel) rfl
theorem kco_X3_write : Cond.code yX3_write cX3_write 2 (some .int) ∈ kG := kG_at 199 rfl rfl
theorem knl_X3_68 : Cond.methodLinkNest RX3 68 yX1_becomeDigitsOf "DigitMill" ∈ kN := kN_at 200 (by decide +kernel) rfl
theorem kim_X1_becomeDigitsOf : Cond.instanceMethod yX1_becomeDigitsOf ∈ kG := kG_at 202 (by decide +kernel) rfl
theorem kco_X1_becomeDigitsOf : Cond.code yX1_becomeDigitsOf cX1_becomeDigitsOf 11 none ∈ kG := kG_at 203 rfl rfl
theorem kct_X1_24 : Cond.constantLong RX1 24 (2147483648) ∈ kG := kG_at 204 (by decide +kernel) rfl
theorem knl_X1_26 : Cond.methodLinkNest RX1 26 yX2_isZero "DigitMill" ∈ kN := kN_at 205 (by decide +kernel) rfl
theorem kim_X2_isZero : Cond.instanceMethod yX2_isZero ∈ kG := kG_at 207 (by decide +kernel) rfl
theorem kco_X2_isZero : Cond.code yX2_isZero cX2_isZero 1 (some .boolean) ∈ kG := kG_at 208 rfl rfl
theorem knl_X1_32 : Cond.methodLinkNest RX1 32 yX2_divideTwiceBy "DigitMill" ∈ kN := kN_at 209 (by decide +kernel) rfl
theorem kim_X2_divideTwiceBy : Cond.instanceMethod yX2_divideTwiceBy ∈ kG := kG_at 211 (by decide +kernel) rfl
theorem kco_X2_divideTwiceBy : Cond.code yX2_divideTwiceBy cX2_divideTwiceBy 12 (some .long) ∈ kG := kG_at 212 rfl rfl
theorem kml_X2_68 : Cond.methodLink RX2 68 yX2_dropZeros ∈ kG := kG_at 213 (by decide +kernel) rfl
theorem kim_X2_dropZeros : Cond.instanceMethod yX2_dropZeros ∈ kG := kG_at 215 (by decide +kernel) rfl
theorem kco_X2_dropZeros : Cond.code yX2_dropZeros cX2_dropZeros 1 none ∈ kG := kG_at 216 rfl rfl
theorem kml_X1_36 : Cond.methodLink RX1 36 yX1_prependDigits ∈ kG := kG_at 217 (by decide +kernel) rfl
theorem kim_X1_prependDigits : Cond.instanceMethod yX1_prependDigits ∈ kG := kG_at 219 (by decide +kernel) rfl
theorem kco_X1_prependDigits : Cond.code yX1_prependDigits cX1_prependDigits 9 none ∈ kG := kG_at 220 rfl rfl
theorem knl_X1_44 : Cond.methodLinkNest RX1 44 yX3_codeOf "DigitMill" ∈ kN := kN_at 221 (by decide +kernel) rfl
theorem kst_X3_codeOf : Cond.static yX3_codeOf ∈ kG := kG_at 222 (by decide +kernel) rfl
theorem kco_X3_codeOf : Cond.code yX3_codeOf cX3_codeOf 1 (some .int) ∈ kG := kG_at 223 rfl rfl
theorem kml_X1_40 : Cond.methodLink RX1 40 yX1_prepend ∈ kG := kG_at 224 (by decide +kernel) rfl
theorem kim_X1_prepend : Cond.instanceMethod yX1_prepend ∈ kG := kG_at 226 (by decide +kernel) rfl
theorem kco_X1_prepend : Cond.code yX1_prepend cX1_prepend 2 none ∈ kG := kG_at 227 rfl rfl
theorem kml_X1_20 : Cond.methodLink RX1 20 yX1_size ∈ kG := kG_at 228 (by decide +kernel) rfl
theorem kim_X1_size : Cond.instanceMethod yX1_size ∈ kG := kG_at 230 (by decide +kernel) rfl
theorem kco_X1_size : Cond.code yX1_size cX1_size 1 (some .int) ∈ kG := kG_at 231 rfl rfl
theorem knl_X3_72 : Cond.methodLinkNest RX3 72 yX1_size "DigitMill" ∈ kN := kN_at 232 (by decide +kernel) rfl
theorem kml_L_34 : Cond.methodLink RL 34 yX3_push ∈ kG := kG_at 233 (by decide +kernel) rfl
theorem kim_X3_push : Cond.instanceMethod yX3_push ∈ kG := kG_at 234 (by decide +kernel) rfl
theorem kse_X3_push : Cond.selects RX3 yX3_push yX3_push ∈ kG := kG_at 235 (by decide +kernel) rfl
theorem kco_X3_push : Cond.code yX3_push cX3_push 3 (some .boolean) ∈ kG := kG_at 236 rfl rfl
theorem knl_X3_76 : Cond.methodLinkNest RX3 76 yX2_appendLong "DigitMill" ∈ kN := kN_at 237 (by decide +kernel) rfl
theorem kim_X2_appendLong : Cond.instanceMethod yX2_appendLong ∈ kG := kG_at 239 (by decide +kernel) rfl
theorem kco_X2_appendLong : Cond.code yX2_appendLong cX2_appendLong 3 (some .boolean) ∈ kG := kG_at 240 rfl rfl
theorem kml_L_38 : Cond.methodLink RL 38 yX3_power ∈ kG := kG_at 241 (by decide +kernel) rfl
theorem kim_X3_power : Cond.instanceMethod yX3_power ∈ kG := kG_at 242 (by decide +kernel) rfl
theorem kse_X3_power : Cond.selects RX3 yX3_power yX3_power ∈ kG := kG_at 243 (by decide +kernel) rfl
theorem kco_X3_power : Cond.code yX3_power cX3_power 3 (some .boolean) ∈ kG := kG_at 244 rfl rfl
theorem kml_X3_79 : Cond.methodLink RX3 79 yX3_raiseInSpare ∈ kG := kG_at 245 (by decide +kernel) rfl
theorem kim_X3_raiseInSpare : Cond.instanceMethod yX3_raiseInSpare ∈ kG := kG_at 247 (by decide +kernel) rfl
theorem kco_X3_raiseInSpare : Cond.code yX3_raiseInSpare cX3_raiseInSpare 4 (some .boolean) ∈ kG := kG_at 248 rfl rfl
theorem knl_X3_93 : Cond.methodLinkNest RX3 93 yX2_becomeLong "DigitMill" ∈ kN := kN_at 249 (by decide +kernel) rfl
theorem kim_X2_becomeLong : Cond.instanceMethod yX2_becomeLong ∈ kG := kG_at 251 (by decide +kernel) rfl
theorem kco_X2_becomeLong : Cond.code yX2_becomeLong cX2_becomeLong 3 none ∈ kG := kG_at 252 rfl rfl
theorem kml_X2_36 : Cond.methodLink RX2 36 yX2_appendLong ∈ kG := kG_at 253 (by decide +kernel) rfl
theorem kml_X3_130 : Cond.methodLink RX3 130 yJ6_numberOfLeadingZeros_0f7a4 ∈ kG := kG_at 254 (by decide +kernel) rfl
theorem kst_J6_numberOfLeadingZeros_0f7a4 : Cond.static yJ6_numberOfLeadingZeros_0f7a4 ∈ kG := kG_at 255 (by decide +kernel) rfl
theorem kco_J6_numberOfLeadingZeros_0f7a4 : Cond.code yJ6_numberOfLeadingZeros_0f7a4 cJ6_numberOfLeadingZeros_0f7a4 2 (some .int) ∈ kG := kG_at 256 rfl rfl
theorem kct_J6_264 : Cond.constant RJ6 264 (65536) ∈ kG := kG_at 257 (by decide +kernel) rfl
theorem knl_X3_135 : Cond.methodLinkNest RX3 135 yX2_becomeSquareOf "DigitMill" ∈ kN := kN_at 258 (by decide +kernel) rfl
theorem kim_X2_becomeSquareOf : Cond.instanceMethod yX2_becomeSquareOf ∈ kG := kG_at 260 (by decide +kernel) rfl
theorem kco_X2_becomeSquareOf : Cond.code yX2_becomeSquareOf cX2_becomeSquareOf 4 (some .boolean) ∈ kG := kG_at 261 rfl rfl
theorem kml_X2_74 : Cond.methodLink RX2 74 yX2_addProductsAbove ∈ kG := kG_at 262 (by decide +kernel) rfl
theorem kim_X2_addProductsAbove : Cond.instanceMethod yX2_addProductsAbove ∈ kG := kG_at 264 (by decide +kernel) rfl
theorem kco_X2_addProductsAbove : Cond.code yX2_addProductsAbove cX2_addProductsAbove 11 none ∈ kG := kG_at 265 rfl rfl
theorem kml_X2_78 : Cond.methodLink RX2 78 yX2_doubleAndAddSquares ∈ kG := kG_at 266 (by decide +kernel) rfl
theorem kim_X2_doubleAndAddSquares : Cond.instanceMethod yX2_doubleAndAddSquares ∈ kG := kG_at 268 (by decide +kernel) rfl
theorem kco_X2_doubleAndAddSquares : Cond.code yX2_doubleAndAddSquares cX2_doubleAndAddSquares 12 none ∈ kG := kG_at 269 rfl rfl
theorem kct_X2_82 : Cond.constantLong RX2 82 (2) ∈ kG := kG_at 270 (by decide +kernel) rfl
theorem knl_X3_139 : Cond.methodLinkNest RX3 139 yX2_multiplyAndAdd "DigitMill" ∈ kN := kN_at 271 (by decide +kernel) rfl
theorem kml_L_42 : Cond.methodLink RL 42 yX3_add ∈ kG := kG_at 272 (by decide +kernel) rfl
theorem kim_X3_add : Cond.instanceMethod yX3_add ∈ kG := kG_at 273 (by decide +kernel) rfl
theorem kse_X3_add : Cond.selects RX3 yX3_add yX3_add ∈ kG := kG_at 274 (by decide +kernel) rfl
theorem kco_X3_add : Cond.code yX3_add cX3_add 2 (some .boolean) ∈ kG := kG_at 275 rfl rfl
theorem knl_X3_82 : Cond.methodLinkNest RX3 82 yX2_decrease "DigitMill" ∈ kN := kN_at 276 (by decide +kernel) rfl
theorem kim_X2_decrease : Cond.instanceMethod yX2_decrease ∈ kG := kG_at 278 (by decide +kernel) rfl
theorem kco_X2_decrease : Cond.code yX2_decrease cX2_decrease 8 (some .boolean) ∈ kG := kG_at 279 rfl rfl
theorem kml_X2_31 : Cond.methodLink RX2 31 yX2_wordAt ∈ kG := kG_at 280 (by decide +kernel) rfl
theorem kim_X2_wordAt : Cond.instanceMethod yX2_wordAt ∈ kG := kG_at 282 (by decide +kernel) rfl
theorem kco_X2_wordAt : Cond.code yX2_wordAt cX2_wordAt 2 (some .int) ∈ kG := kG_at 283 rfl rfl
theorem knl_X3_85 : Cond.methodLinkNest RX3 85 yX2_increase "DigitMill" ∈ kN := kN_at 284 (by decide +kernel) rfl
theorem kim_X2_increase : Cond.instanceMethod yX2_increase ∈ kG := kG_at 286 (by decide +kernel) rfl
theorem kco_X2_increase : Cond.code yX2_increase cX2_increase 8 (some .boolean) ∈ kG := kG_at 287 rfl rfl
theorem kml_X2_71 : Cond.methodLink RX2 71 yX2_hasRoomFor ∈ kG := kG_at 288 (by decide +kernel) rfl
theorem kim_X2_hasRoomFor : Cond.instanceMethod yX2_hasRoomFor ∈ kG := kG_at 290 (by decide +kernel) rfl
theorem kco_X2_hasRoomFor : Cond.code yX2_hasRoomFor cX2_hasRoomFor 4 (some .boolean) ∈ kG := kG_at 291 rfl rfl
theorem kml_L_47 : Cond.methodLink RL 47 yX3_show ∈ kG := kG_at 292 (by decide +kernel) rfl
theorem kim_X3_show : Cond.instanceMethod yX3_show ∈ kG := kG_at 293 (by decide +kernel) rfl
theorem kse_X3_show : Cond.selects RX3 yX3_show yX3_show ∈ kG := kG_at 294 (by decide +kernel) rfl
theorem kco_X3_show : Cond.code yX3_show cX3_show 9 (some .int) ∈ kG := kG_at 295 rfl rfl
theorem kml_X3_88 : Cond.methodLink RX3 88 yX3_isWidth ∈ kG := kG_at 296 (by decide +kernel) rfl
theorem kst_X3_isWidth : Cond.static yX3_isWidth ∈ kG := kG_at 297 (by decide +kernel) rfl
theorem kco_X3_isWidth : Cond.code yX3_isWidth cX3_isWidth 1 (some .boolean) ∈ kG := kG_at 298 rfl rfl
theorem kct_X3_91 : Cond.constantLong RX3 91 (4294967295) ∈ kG := kG_at 299 (by decide +kernel) rfl
theorem knl_X3_97 : Cond.methodLinkNest RX3 97 yX1_prepend "DigitMill" ∈ kN := kN_at 300 (by decide +kernel) rfl
theorem kml_L_52 : Cond.methodLink RL 52 yX3_parse ∈ kG := kG_at 301 (by decide +kernel) rfl
theorem kim_X3_parse : Cond.instanceMethod yX3_parse ∈ kG := kG_at 302 (by decide +kernel) rfl
theorem kse_X3_parse : Cond.selects RX3 yX3_parse yX3_parse ∈ kG := kG_at 303 (by decide +kernel) rfl
theorem kco_X3_parse : Cond.code yX3_parse cX3_parse 5 (some .int) ∈ kG := kG_at 304 rfl rfl
theorem kml_X3_100 : Cond.methodLink RX3 100 yX3_parseValue ∈ kG := kG_at 305 (by decide +kernel) rfl
theorem kim_X3_parseValue : Cond.instanceMethod yX3_parseValue ∈ kG := kG_at 307 (by decide +kernel) rfl
theorem kco_X3_parseValue : Cond.code yX3_parseValue cX3_parseValue 7 (some .int) ∈ kG := kG_at 308 rfl rfl
theorem knl_X3_121 : Cond.methodLinkNest RX3 121 yX0_codeAt "DigitMill" ∈ kN := kN_at 309 (by decide +kernel) rfl
theorem kml_X3_122 : Cond.methodLink RX3 122 yX3_smallHasWidth ∈ kG := kG_at 310 (by decide +kernel) rfl
theorem kim_X3_smallHasWidth : Cond.instanceMethod yX3_smallHasWidth ∈ kG := kG_at 312 (by decide +kernel) rfl
theorem kco_X3_smallHasWidth : Cond.code yX3_smallHasWidth cX3_smallHasWidth 4 (some .boolean) ∈ kG := kG_at 313 rfl rfl
theorem knl_X3_107 : Cond.methodLinkNest RX3 107 yX2_countBits "DigitMill" ∈ kN := kN_at 314 (by decide +kernel) rfl
theorem kim_X2_countBits : Cond.instanceMethod yX2_countBits ∈ kG := kG_at 316 (by decide +kernel) rfl
theorem kco_X2_countBits : Cond.code yX2_countBits cX2_countBits 1 (some .int) ∈ kG := kG_at 317 rfl rfl
theorem kml_X2_25 : Cond.methodLink RX2 25 yJ6_numberOfLeadingZeros_0f7a4 ∈ kG := kG_at 318 (by decide +kernel) rfl
theorem knl_X3_126 : Cond.methodLinkNest RX3 126 yX2_lowLong "DigitMill" ∈ kN := kN_at 319 (by decide +kernel) rfl
theorem kim_X2_lowLong : Cond.instanceMethod yX2_lowLong ∈ kG := kG_at 321 (by decide +kernel) rfl
theorem kco_X2_lowLong : Cond.code yX2_lowLong cX2_lowLong 1 (some .long) ∈ kG := kG_at 322 rfl rfl
theorem kml_L_57 : Cond.methodLink RL 57 yX3_value ∈ kG := kG_at 323 (by decide +kernel) rfl
theorem kim_X3_value : Cond.instanceMethod yX3_value ∈ kG := kG_at 324 (by decide +kernel) rfl
theorem kse_X3_value : Cond.selects RX3 yX3_value yX3_value ∈ kG := kG_at 325 (by decide +kernel) rfl
theorem kco_X3_value : Cond.code yX3_value cX3_value 1 (some .long) ∈ kG := kG_at 326 rfl rfl
theorem kml_L_62 : Cond.methodLink RL 62 yX3_word ∈ kG := kG_at 327 (by decide +kernel) rfl
theorem kim_X3_word : Cond.instanceMethod yX3_word ∈ kG := kG_at 328 (by decide +kernel) rfl
theorem kse_X3_word : Cond.selects RX3 yX3_word yX3_word ∈ kG := kG_at 329 (by decide +kernel) rfl
theorem kco_X3_word : Cond.code yX3_word cX3_word 2 (some .int) ∈ kG := kG_at 330 rfl rfl
theorem knl_X3_104 : Cond.methodLinkNest RX3 104 yX2_wordAt "DigitMill" ∈ kN := kN_at 331 (by decide +kernel) rfl
theorem kml_L_66 : Cond.methodLink RL 66 yX3_bits ∈ kG := kG_at 332 (by decide +kernel) rfl
theorem kim_X3_bits : Cond.instanceMethod yX3_bits ∈ kG := kG_at 333 (by decide +kernel) rfl
theorem kse_X3_bits : Cond.selects RX3 yX3_bits yX3_bits ∈ kG := kG_at 334 (by decide +kernel) rfl
theorem kco_X3_bits : Cond.code yX3_bits cX3_bits 1 (some .int) ∈ kG := kG_at 335 rfl rfl
theorem kml_L_71 : Cond.methodLink RL 71 yX3_characterAt ∈ kG := kG_at 336 (by decide +kernel) rfl
theorem kim_X3_characterAt : Cond.instanceMethod yX3_characterAt ∈ kG := kG_at 337 (by decide +kernel) rfl
theorem kse_X3_characterAt : Cond.selects RX3 yX3_characterAt yX3_characterAt ∈ kG := kG_at 338 (by decide +kernel) rfl
theorem kco_X3_characterAt : Cond.code yX3_characterAt cX3_characterAt 2 (some .int) ∈ kG := kG_at 339 rfl rfl
theorem knl_X3_110 : Cond.methodLinkNest RX3 110 yX1_codeAt "DigitMill" ∈ kN := kN_at 340 (by decide +kernel) rfl
theorem kim_X1_codeAt : Cond.instanceMethod yX1_codeAt ∈ kG := kG_at 342 (by decide +kernel) rfl
theorem kco_X1_codeAt : Cond.code yX1_codeAt cX1_codeAt 2 (some .int) ∈ kG := kG_at 343 rfl rfl
theorem kml_L_75 : Cond.methodLink RL 75 yX3_typed ∈ kG := kG_at 344 (by decide +kernel) rfl
theorem kim_X3_typed : Cond.instanceMethod yX3_typed ∈ kG := kG_at 345 (by decide +kernel) rfl
theorem kse_X3_typed : Cond.selects RX3 yX3_typed yX3_typed ∈ kG := kG_at 346 (by decide +kernel) rfl
theorem kco_X3_typed : Cond.code yX3_typed cX3_typed 1 (some .int) ∈ kG := kG_at 347 rfl rfl
theorem kcl_L_10 : Cond.classLink RL 10 RX4 ∈ kG := kG_at 348 (by decide +kernel) rfl
theorem kin_X4 : Cond.instantiable RX4 10 ∈ kG := kG_at 349 (by decide +kernel) rfl
theorem kml_L_12 : Cond.methodLink RL 12 yX4_init ∈ kG := kG_at 350 (by decide +kernel) rfl
theorem kim_X4_init : Cond.instanceMethod yX4_init ∈ kG := kG_at 351 (by decide +kernel) rfl
theorem kco_X4_init : Cond.code yX4_init cX4_init 1 none ∈ kG := kG_at 352 rfl rfl
theorem kml_X4_1 : Cond.methodLink RX4 1 (⟨"java/lang/Object", "<init>", "()V"⟩ : MethodName) ∈ kG := kG_at 353 (by decide +kernel) rfl
theorem kct_X4_7 : Cond.constant RX4 7 (65536) ∈ kG := kG_at 354 (by decide +kernel) rfl
theorem kfl_X4_24 : Cond.fieldLink RX4 24 "DigitMillModel" "thrown" "I" ∈ kG := kG_at 355 (by decide +kernel) rfl
theorem kfl_X4_38 : Cond.fieldLink RX4 38 "DigitMillModel" "typed" "I" ∈ kG := kG_at 356 (by decide +kernel) rfl
theorem kfl_X4_8 : Cond.fieldLink RX4 8 "DigitMillModel" "in" "[C" ∈ kG := kG_at 357 (by decide +kernel) rfl
theorem kfl_X4_56 : Cond.fieldLink RX4 56 "DigitMillModel" "written" "I" ∈ kG := kG_at 358 (by decide +kernel) rfl
theorem kfl_X4_14 : Cond.fieldLink RX4 14 "DigitMillModel" "out" "[C" ∈ kG := kG_at 359 (by decide +kernel) rfl
theorem kfl_X4_33 : Cond.fieldLink RX4 33 "DigitMillModel" "size" "I" ∈ kG := kG_at 360 (by decide +kernel) rfl
theorem kfl_X4_17 : Cond.fieldLink RX4 17 "DigitMillModel" "number" "[I" ∈ kG := kG_at 361 (by decide +kernel) rfl
theorem kfl_X4_28 : Cond.fieldLink RX4 28 "DigitMillModel" "rowSize" "I" ∈ kG := kG_at 362 (by decide +kernel) rfl
theorem kfl_X4_21 : Cond.fieldLink RX4 21 "DigitMillModel" "row" "[I" ∈ kG := kG_at 363 (by decide +kernel) rfl
theorem kfl_X4_84 : Cond.fieldLink RX4 84 "DigitMillModel" "value" "J" ∈ kG := kG_at 364 (by decide +kernel) rfl
theorem kac_char : Cond.arrayClass .char ∈ kG := kG_at 386 (by decide +kernel) rfl
theorem kml_L_19 : Cond.methodLink RL 19 yX4_type ∈ kG := kG_at 387 (by decide +kernel) rfl
theorem kim_X4_type : Cond.instanceMethod yX4_type ∈ kG := kG_at 388 (by decide +kernel) rfl
theorem kse_X4_type : Cond.selects RX4 yX4_type yX4_type ∈ kG := kG_at 389 (by decide +kernel) rfl
theorem kco_X4_type : Cond.code yX4_type cX4_type 7 (some .boolean) ∈ kG := kG_at 390 rfl rfl
theorem kct_X4_36 : Cond.constantLong RX4 36 (255) ∈ kG := kG_at 391 (by decide +kernel) rfl
theorem kml_L_24 : Cond.methodLink RL 24 yX4_repeat ∈ kG := kG_at 392 (by decide +kernel) rfl
theorem kim_X4_repeat : Cond.instanceMethod yX4_repeat ∈ kG := kG_at 393 (by decide +kernel) rfl
theorem kse_X4_repeat : Cond.selects RX4 yX4_repeat yX4_repeat ∈ kG := kG_at 394 (by decide +kernel) rfl
theorem kco_X4_repeat : Cond.code yX4_repeat cX4_repeat 4 (some .boolean) ∈ kG := kG_at 395 rfl rfl
theorem kml_L_29 : Cond.methodLink RL 29 yX4_read ∈ kG := kG_at 396 (by decide +kernel) rfl
theorem kim_X4_read : Cond.instanceMethod yX4_read ∈ kG := kG_at 397 (by decide +kernel) rfl
theorem kse_X4_read : Cond.selects RX4 yX4_read yX4_read ∈ kG := kG_at 398 (by decide +kernel) rfl
theorem kco_X4_read : Cond.code yX4_read cX4_read 4 (some .int) ∈ kG := kG_at 399 rfl rfl
theorem kml_X4_41 : Cond.methodLink RX4 41 yX4_isRadix ∈ kG := kG_at 400 (by decide +kernel) rfl
theorem kst_X4_isRadix : Cond.static yX4_isRadix ∈ kG := kG_at 401 (by decide +kernel) rfl
theorem kco_X4_isRadix : Cond.code yX4_isRadix cX4_isRadix 1 (some .boolean) ∈ kG := kG_at 402 rfl rfl
theorem kml_X4_45 : Cond.methodLink RX4 45 yX4_digit ∈ kG := kG_at 403 (by decide +kernel) rfl
theorem kst_X4_digit : Cond.static yX4_digit ∈ kG := kG_at 404 (by decide +kernel) rfl
theorem kco_X4_digit : Cond.code yX4_digit cX4_digit 1 (some .int) ∈ kG := kG_at 405 rfl rfl
theorem kml_X4_49 : Cond.methodLink RX4 49 yX4_timesAdd ∈ kG := kG_at 406 (by decide +kernel) rfl
theorem kim_X4_timesAdd : Cond.instanceMethod yX4_timesAdd ∈ kG := kG_at 408 (by decide +kernel) rfl
theorem kco_X4_timesAdd : Cond.code yX4_timesAdd cX4_timesAdd 6 (some .boolean) ∈ kG := kG_at 409 rfl rfl
theorem kct_X4_31 : Cond.constantLong RX4 31 (65535) ∈ kG := kG_at 410 (by decide +kernel) rfl
theorem kml_X4_53 : Cond.methodLink RX4 53 yX4_give ∈ kG := kG_at 411 (by decide +kernel) rfl
theorem kim_X4_give : Cond.instanceMethod yX4_give ∈ kG := kG_at 413 (by decide +kernel) rfl
theorem kco_X4_give : Cond.code yX4_give cX4_give 2 none ∈ kG := kG_at 414 rfl rfl
theorem kml_L_33 : Cond.methodLink RL 33 yX4_write ∈ kG := kG_at 415 (by decide +kernel) rfl
theorem kim_X4_write : Cond.instanceMethod yX4_write ∈ kG := kG_at 416 (by decide +kernel) rfl
theorem kse_X4_write : Cond.selects RX4 yX4_write yX4_write ∈ kG := kG_at 417 (by decide +kernel) rfl
theorem kco_X4_write : Cond.code yX4_write cX4_write 6 (some .int) ∈ kG := kG_at 418 rfl rfl
theorem kml_X4_59 : Cond.methodLink RX4 59 yX4_take ∈ kG := kG_at 419 (by decide +kernel) rfl
theorem kim_X4_take : Cond.instanceMethod yX4_take ∈ kG := kG_at 421 (by decide +kernel) rfl
theorem kco_X4_take : Cond.code yX4_take cX4_take 2 none ∈ kG := kG_at 422 rfl rfl
theorem kct_X4_62 : Cond.constant RX4 62 (32768) ∈ kG := kG_at 423 (by decide +kernel) rfl
theorem kml_X4_63 : Cond.methodLink RX4 63 yX4_divide ∈ kG := kG_at 424 (by decide +kernel) rfl
theorem kim_X4_divide : Cond.instanceMethod yX4_divide ∈ kG := kG_at 426 (by decide +kernel) rfl
theorem kco_X4_divide : Cond.code yX4_divide cX4_divide 5 (some .int) ∈ kG := kG_at 427 rfl rfl
theorem kml_X4_66 : Cond.methodLink RX4 66 yX4_character ∈ kG := kG_at 428 (by decide +kernel) rfl
theorem kst_X4_character : Cond.static yX4_character ∈ kG := kG_at 429 (by decide +kernel) rfl
theorem kco_X4_character : Cond.code yX4_character cX4_character 1 (some .char) ∈ kG := kG_at 430 rfl rfl
theorem kml_X4_70 : Cond.methodLink RX4 70 yX4_turnOut ∈ kG := kG_at 431 (by decide +kernel) rfl
theorem kim_X4_turnOut : Cond.instanceMethod yX4_turnOut ∈ kG := kG_at 433 (by decide +kernel) rfl
theorem kco_X4_turnOut : Cond.code yX4_turnOut cX4_turnOut 4 none ∈ kG := kG_at 434 rfl rfl
theorem kml_L_37 : Cond.methodLink RL 37 yX4_push ∈ kG := kG_at 435 (by decide +kernel) rfl
theorem kim_X4_push : Cond.instanceMethod yX4_push ∈ kG := kG_at 436 (by decide +kernel) rfl
theorem kse_X4_push : Cond.selects RX4 yX4_push yX4_push ∈ kG := kG_at 437 (by decide +kernel) rfl
theorem kco_X4_push : Cond.code yX4_push cX4_push 4 (some .boolean) ∈ kG := kG_at 438 rfl rfl
theorem kml_L_41 : Cond.methodLink RL 41 yX4_power ∈ kG := kG_at 439 (by decide +kernel) rfl
theorem kim_X4_power : Cond.instanceMethod yX4_power ∈ kG := kG_at 440 (by decide +kernel) rfl
theorem kse_X4_power : Cond.selects RX4 yX4_power yX4_power ∈ kG := kG_at 441 (by decide +kernel) rfl
theorem kco_X4_power : Cond.code yX4_power cX4_power 4 (some .boolean) ∈ kG := kG_at 442 rfl rfl
theorem kml_L_46 : Cond.methodLink RL 46 yX4_add ∈ kG := kG_at 443 (by decide +kernel) rfl
theorem kim_X4_add : Cond.instanceMethod yX4_add ∈ kG := kG_at 444 (by decide +kernel) rfl
theorem kse_X4_add : Cond.selects RX4 yX4_add yX4_add ∈ kG := kG_at 445 (by decide +kernel) rfl
theorem kco_X4_add : Cond.code yX4_add cX4_add 5 (some .boolean) ∈ kG := kG_at 446 rfl rfl
theorem kml_L_65 : Cond.methodLink RL 65 yX4_word ∈ kG := kG_at 447 (by decide +kernel) rfl
theorem kim_X4_word : Cond.instanceMethod yX4_word ∈ kG := kG_at 448 (by decide +kernel) rfl
theorem kse_X4_word : Cond.selects RX4 yX4_word yX4_word ∈ kG := kG_at 449 (by decide +kernel) rfl
theorem kco_X4_word : Cond.code yX4_word cX4_word 2 (some .int) ∈ kG := kG_at 450 rfl rfl
theorem kct_X4_73 : Cond.constantLong RX4 73 (2) ∈ kG := kG_at 451 (by decide +kernel) rfl
theorem kml_L_70 : Cond.methodLink RL 70 yX4_bits ∈ kG := kG_at 452 (by decide +kernel) rfl
theorem kim_X4_bits : Cond.instanceMethod yX4_bits ∈ kG := kG_at 453 (by decide +kernel) rfl
theorem kse_X4_bits : Cond.selects RX4 yX4_bits yX4_bits ∈ kG := kG_at 454 (by decide +kernel) rfl
theorem kco_X4_bits : Cond.code yX4_bits cX4_bits 2 (some .int) ∈ kG := kG_at 455 rfl rfl
theorem kml_L_74 : Cond.methodLink RL 74 yX4_characterAt ∈ kG := kG_at 456 (by decide +kernel) rfl
theorem kim_X4_characterAt : Cond.instanceMethod yX4_characterAt ∈ kG := kG_at 457 (by decide +kernel) rfl
theorem kse_X4_characterAt : Cond.selects RX4 yX4_characterAt yX4_characterAt ∈ kG := kG_at 458 (by decide +kernel) rfl
theorem kco_X4_characterAt : Cond.code yX4_characterAt cX4_characterAt 2 (some .int) ∈ kG := kG_at 459 rfl rfl
theorem kml_L_78 : Cond.methodLink RL 78 yX4_typed ∈ kG := kG_at 460 (by decide +kernel) rfl
theorem kim_X4_typed : Cond.instanceMethod yX4_typed ∈ kG := kG_at 461 (by decide +kernel) rfl
theorem kse_X4_typed : Cond.selects RX4 yX4_typed yX4_typed ∈ kG := kG_at 462 (by decide +kernel) rfl
theorem kco_X4_typed : Cond.code yX4_typed cX4_typed 1 (some .int) ∈ kG := kG_at 463 rfl rfl
theorem kml_L_51 : Cond.methodLink RL 51 yX4_show ∈ kG := kG_at 464 (by decide +kernel) rfl
theorem kim_X4_show : Cond.instanceMethod yX4_show ∈ kG := kG_at 465 (by decide +kernel) rfl
theorem kse_X4_show : Cond.selects RX4 yX4_show yX4_show ∈ kG := kG_at 466 (by decide +kernel) rfl
theorem kco_X4_show : Cond.code yX4_show cX4_show 9 (some .int) ∈ kG := kG_at 467 rfl rfl
theorem kml_X4_75 : Cond.methodLink RX4 75 yX4_isWidth ∈ kG := kG_at 468 (by decide +kernel) rfl
theorem kst_X4_isWidth : Cond.static yX4_isWidth ∈ kG := kG_at 469 (by decide +kernel) rfl
theorem kco_X4_isWidth : Cond.code yX4_isWidth cX4_isWidth 1 (some .boolean) ∈ kG := kG_at 470 rfl rfl
theorem kct_X4_78 : Cond.constantLong RX4 78 (4294967295) ∈ kG := kG_at 471 (by decide +kernel) rfl
theorem kml_X4_80 : Cond.methodLink RX4 80 yX4_load ∈ kG := kG_at 472 (by decide +kernel) rfl
theorem kim_X4_load : Cond.instanceMethod yX4_load ∈ kG := kG_at 474 (by decide +kernel) rfl
theorem kco_X4_load : Cond.code yX4_load cX4_load 4 none ∈ kG := kG_at 475 rfl rfl
theorem kml_L_56 : Cond.methodLink RL 56 yX4_parse ∈ kG := kG_at 476 (by decide +kernel) rfl
theorem kim_X4_parse : Cond.instanceMethod yX4_parse ∈ kG := kG_at 477 (by decide +kernel) rfl
theorem kse_X4_parse : Cond.selects RX4 yX4_parse yX4_parse ∈ kG := kG_at 478 (by decide +kernel) rfl
theorem kco_X4_parse : Cond.code yX4_parse cX4_parse 13 (some .int) ∈ kG := kG_at 479 rfl rfl
theorem kml_L_61 : Cond.methodLink RL 61 yX4_value ∈ kG := kG_at 480 (by decide +kernel) rfl
theorem kim_X4_value : Cond.instanceMethod yX4_value ∈ kG := kG_at 481 (by decide +kernel) rfl
theorem kse_X4_value : Cond.selects RX4 yX4_value yX4_value ∈ kG := kG_at 482 (by decide +kernel) rfl
theorem kco_X4_value : Cond.code yX4_value cX4_value 1 (some .long) ∈ kG := kG_at 483 rfl rfl
theorem kct_L_13 : Cond.constantLong RL 13 (4294967295) ∈ kG := kG_at 484 (by decide +kernel) rfl
theorem kin_X0_w : ∀ w ∈ u_ws RX0 TX0 2, w ∈ kG := by decide +kernel
theorem kin_X1_w : ∀ w ∈ u_ws RX1 TX1 2, w ∈ kG := by decide +kernel
theorem kin_X2_w : ∀ w ∈ u_ws RX2 TX2 2, w ∈ kG := by decide +kernel
theorem kin_X3_w : ∀ w ∈ u_ws RX3 TX3 7, w ∈ kG := by decide +kernel
theorem kin_X4_w : ∀ w ∈ u_ws RX4 TX4 10, w ∈ kG := by decide +kernel
end
section
section DMZ
variable {p : Program} {l : Launch} {e : Env} {R : Room} {s : State} {m : MethodId} {args : Array Value} {below : List Frame} {meth : Method} {c : Code} {H : Heap} {locs : List Loc} {cells slots : Nat} {Q : State → Prop}
variable {pc : Nat} {ls : Array Slot} {rest : List Value} {cc : ByteArray} {D : va_G} {tys : List (ClassId × FieldType)} {A : Nat → Prop} {ws : va_W} {H0 : Heap} {nL : Nat} {own : String} {ret0 : Option FieldType} {a : Nat}
theorem dm_copyi {index : Nat} {lv : List (Nat × Value)} {sp dp n : Nat} (hC : dm_C p s m args meth c cc nL ret0 own) (hl : lv_has ls nL lv) (hlink : (Cond.methodLink own index arraycopyName).before args s = true)
    (hK : va_K D vwCl tys s) (hP : va_P D vwCl ws H) (hD : va_D A ws) (hS : va_S A H0 H locs) (q0 q1 t0 t1 : Nat) {a0 : Nat} {c0 c1 : ClassId} {n0 n1 : Nat} {f g : Nat → Int32} (ha0 : ws[q0]? = some (a0, .inl (c0, n0, .inl f))) (ha1 : ws[q1]? = some (a, .inl (c1, n1, .inl g))) (ht0 : tys[t0]? = some (c0, .int)) (ht1 : tys[t1]? = some (c1, .int))
    (h4 : sp + n ≤ n0) (h5 : dp + n ≤ n1) (hn0 : n0 < 2 ^ 31) (hn1 : n1 < 2 ^ 31) (hR : 1 ≤ R.frames ∧ (rest.map fun v => v.category).sum + (nativeFrameWords "java/lang/System" "arraycopy" 5 + 11) ≤ R.locals) (hdg : decode cc pc = .ok (.invokestatic index, 3))
    (kk : ∀ (H1 : Heap) (locs1 : List Loc), va_P D vwCl (ws.set q1 (a, .inl (c1, n1, .inl (va_cpy f g sp dp n)))) H1 → va_D A (ws.set q1 (a, .inl (c1, n1, .inl (va_cpy f g sp dp n)))) → va_S A H0 H1 locs1 → W p l e R s m args below meth c H1 locs1 cells slots Q (F0 m (pc + 3) ls rest)) : W p l e R s m args below meth c H locs cells slots Q (F0 m pc ls (.int (nI n) :: .int (nI dp) :: .ref a :: .int (nI sp) :: .ref a0 :: rest)) := by
  obtain ⟨hx, hb, hr, hml, hown, hts, hlocks, hN⟩ := hC
  have e1 : (nI sp).toNatClampNeg = sp := nI_clamp (by omega)
  have e2 : (nI dp).toNatClampNeg = dp := nI_clamp (by omega)
  have e3 : (nI n).toNatClampNeg = n := nI_clamp (by omega)
  refine va_copyi hx hb (hml.trans hl.1.symm) hown hlink (hts _ kna_J10_arraycopy) (hts _ kst_J10_arraycopy) (hts _ ki_J10) hK hP hD hS q0 q1 t0 t1 ha0 ha1 ht0 ht1 rfl (nI_pos (by omega)) (nI_pos (by omega)) (nI_pos (by omega)) (by rw [e1, e3]; exact h4) (by rw [e2, e3]; exact h5) (fun _ _ => rfl) hR.1 hR.2 hdg ?_
  rw [e1, e2, e3]
  exact kk
theorem dm_cutR {σ : Type} {g : JFrame} (J : Nat) (P : σ → Prop) (lv : σ → List (Nat × Value)) (kk : (∀ (x : σ) (ls : Array Slot), P x → lv_has ls nL (lv x) → W p l e R s m args below meth c H locs cells slots Q (F0 m J ls [])) → W p l e R s m args below meth c H locs cells slots Q g) (kJ : ∀ (x : σ) (ls : Array Slot), P x → lv_has ls nL (lv x) → W p l e R s m args below meth c H locs cells slots Q (F0 m J ls [])) : W p l e R s m args below meth c H locs cells slots Q g := kk kJ
end DMZ
end
section
/-! ===== lN n to 2^64: shifts, and, or, masks, one bit ===== -/
theorem wb_tb (n : Nat) : (lN n).toBitVec = BitVec.ofNat 64 n := rfl
theorem wb_inj {a b : Int64} (h : a.toBitVec = b.toBitVec) : a = b := Int64.toBitVec_inj.mp h
theorem wb_tn {n : Nat} (h : n < 2 ^ 64) : (lN n).toBitVec.toNat = n := by rw [wb_tb, BitVec.toNat_ofNat, Nat.mod_eq_of_lt h]
theorem wb_of (x : Int64) : ∃ n, n < 2 ^ 64 ∧ x = lN n := ⟨x.toBitVec.toNat, x.toBitVec.isLt, wb_inj (by rw [wb_tb]; simp)⟩
theorem wb_of32 (x : Int32) : ∃ n, n < 2 ^ 32 ∧ x = nI n := ⟨x.toBitVec.toNat, x.toBitVec.isLt, Int32.toBitVec_inj.mp (by show _ = BitVec.ofNat 32 _; simp)⟩
theorem wb_c : ∀ k, k < 64 → ((nI k).toInt64 &&& 63) = lN k := by decide +kernel
theorem wb_cu : ∀ k, k < 64 → ((nI k).toInt64.toUInt64 &&& Int64.toUInt64 63) = UInt64.ofNat k := by decide +kernel
theorem wb_sm : ∀ k, k < 64 → (BitVec.ofNat 64 k).smod 64 = BitVec.ofNat 64 k := by decide +kernel
theorem wb_pw {a b : Nat} (h : a ≤ b) : 2 ^ b = 2 ^ a * 2 ^ (b - a) := by rw [← Nat.pow_add]; congr 1; omega
theorem wb_lt2 {a b : Nat} (h : a < b) : 2 ^ a < 2 ^ b := Nat.pow_lt_pow_right (by decide) h
theorem wb_mod (n : Nat) : lN n = lN (n % 2 ^ 64) := wb_inj (by rw [wb_tb, wb_tb]; apply BitVec.eq_of_toNat_eq; rw [BitVec.toNat_ofNat, BitVec.toNat_ofNat, Nat.mod_mod])
theorem wb_shr {n k : Nat} (hn : n < 2 ^ 64) (hk : k < 64) : ((lN n).toUInt64 >>> ((nI k).toInt64.toUInt64 &&& Int64.toUInt64 63)).toInt64 = lN (n / 2 ^ k) := by
  rw [wb_cu k hk]
  apply wb_inj
  apply BitVec.eq_of_toNat_eq
  show ((lN n).toUInt64 >>> UInt64.ofNat k).toNat = (BitVec.ofNat 64 _).toNat
  have h1 : (UInt64.ofNat k).toNat = k := by
    show (BitVec.ofNat 64 k).toNat = k
    rw [BitVec.toNat_ofNat, Nat.mod_eq_of_lt (by omega)]
  have h2 : (lN n).toUInt64.toNat = n := wb_tn hn
  rw [UInt64.toNat_shiftRight, h1, h2, Nat.mod_eq_of_lt hk, Nat.shiftRight_eq_div_pow, BitVec.toNat_ofNat, Nat.mod_eq_of_lt (Nat.lt_of_le_of_lt (Nat.div_le_self _ _) hn)]
theorem wb_shl (n : Nat) {k : Nat} (hk : k < 64) : lN n <<< ((nI k).toInt64 &&& 63) = lN (n * 2 ^ k) := by
  rw [wb_c k hk]
  apply wb_inj
  rw [Int64.toBitVec_shiftLeft, wb_tb, wb_tb, wb_tb, wb_sm k hk]
  apply BitVec.eq_of_toNat_eq
  rw [BitVec.shiftLeft_eq', BitVec.toNat_shiftLeft, BitVec.toNat_ofNat, BitVec.toNat_ofNat, BitVec.toNat_ofNat, Nat.mod_eq_of_lt (show k < 2 ^ 64 by omega), Nat.shiftLeft_eq, Nat.mul_mod, Nat.mod_mod, ← Nat.mul_mod]
theorem wb_and {a b : Nat} (ha : a < 2 ^ 64) (hb : b < 2 ^ 64) : lN a &&& lN b = lN (a &&& b) := by
  apply wb_inj
  rw [Int64.toBitVec_and, wb_tb, wb_tb, wb_tb]
  apply BitVec.eq_of_toNat_eq
  rw [BitVec.toNat_and, BitVec.toNat_ofNat, BitVec.toNat_ofNat, BitVec.toNat_ofNat, Nat.mod_eq_of_lt ha, Nat.mod_eq_of_lt hb, Nat.mod_eq_of_lt (Nat.and_lt_two_pow _ hb)]
theorem wb_or {a b : Nat} (ha : a < 2 ^ 64) (hb : b < 2 ^ 64) : lN a ||| lN b = lN (a ||| b) := by
  apply wb_inj
  rw [Int64.toBitVec_or, wb_tb, wb_tb, wb_tb]
  apply BitVec.eq_of_toNat_eq
  rw [BitVec.toNat_or, BitVec.toNat_ofNat, BitVec.toNat_ofNat, BitVec.toNat_ofNat, Nat.mod_eq_of_lt ha, Nat.mod_eq_of_lt hb, Nat.mod_eq_of_lt (Nat.or_lt_two_pow ha hb)]
theorem wb_mask {n k : Nat} (hn : n < 2 ^ 64) (hk : k < 64) : lN n &&& lN (2 ^ k - 1) = lN (n % 2 ^ k) := by
  rw [wb_and hn (by have := wb_lt2 hk; omega), Nat.and_two_pow_sub_one_eq_mod]
theorem wb_a1 {n : Nat} (hn : n < 2 ^ 64) : lN n &&& 1 = lN (n % 2) := wb_mask (k := 1) hn (by decide)
theorem wb_bit {n k : Nat} (hn : n < 2 ^ 64) (hk : k < 64) : ((lN n).toUInt64 >>> ((nI k).toInt64.toUInt64 &&& Int64.toUInt64 63)).toInt64 &&& 1 = lN (n / 2 ^ k % 2) := by
  rw [wb_shr hn hk, wb_a1 (Nat.lt_of_le_of_lt (Nat.div_le_self _ _) hn)]
theorem wb_xor {q k : Nat} (hk : k < 63) (h : 2 ^ k ≤ q) (h2 : q < 2 ^ (k + 1)) : lN q ^^^ lN (2 ^ k) = lN (q - 2 ^ k) := by
  obtain ⟨r, rfl⟩ : ∃ r, q = 2 ^ k + r := ⟨q - 2 ^ k, by omega⟩
  have hr : r < 2 ^ k := by rw [Nat.pow_succ] at h2; omega
  have hx : (2 ^ k + r) ^^^ 2 ^ k = r := by
    apply Nat.eq_of_testBit_eq
    intro i
    rw [Nat.testBit_xor, Nat.testBit_two_pow]
    rcases Nat.lt_trichotomy i k with h | h | h
    · rw [Nat.testBit_two_pow_add_gt h]
      simp [show ¬ k = i by omega]
    · subst h
      rw [Nat.testBit_two_pow_add_eq]
      simp
    · have a1 : 2 ^ (k + 1) ≤ 2 ^ i := Nat.pow_le_pow_right (by decide) h
      rw [Nat.testBit_lt_two_pow (show 2 ^ k + r < 2 ^ i by omega), Nat.testBit_lt_two_pow (show r < 2 ^ i by omega)]
      simp [show ¬ k = i by omega]
  have b1 := wb_lt2 (show k + 1 < 64 by omega)
  have b2 := wb_lt2 (show k < 64 by omega)
  apply wb_inj
  rw [Int64.toBitVec_xor, wb_tb, wb_tb, wb_tb]
  apply BitVec.eq_of_toNat_eq
  rw [BitVec.toNat_xor, BitVec.toNat_ofNat, BitVec.toNat_ofNat, BitVec.toNat_ofNat, Nat.mod_eq_of_lt (by omega : 2 ^ k + r < 2 ^ 64), Nat.mod_eq_of_lt b2, hx, Nat.add_sub_cancel_left, Nat.mod_eq_of_lt (by omega)]
/-! ===== lN: masks, 'or' of parts that don't overlap is a sum ===== -/
theorem u_tn {n : Nat} (h : n < 2 ^ 64) : (UInt64.ofNat n).toNat = n := Nat.mod_eq_of_lt h
theorem g_and {a b c : Nat} (ha : a < 2 ^ 64) (hb : b < 2 ^ 64) (hc : a &&& b = c) : lN a &&& lN b = lN c := by
  subst hc
  have h : UInt64.ofNat a &&& UInt64.ofNat b = UInt64.ofNat (a &&& b) := UInt64.toNat_inj.mp (by rw [UInt64.toNat_and, u_tn ha, u_tn hb, u_tn (Nat.and_lt_two_pow a hb)])
  have h2 := congrArg UInt64.toInt64 h
  exact h2
theorem g_and1 {a : Nat} (ha : a < 2 ^ 64) : lN a &&& 1 = lN (a % 2) := g_and (b := 1) ha (by decide) (Nat.and_two_pow_sub_one_eq_mod a 1)
theorem g_mask {a s p : Nat} (hp : 2 ^ s = p) (hs : s < 64) (ha : a < 2 ^ 64) : lN a &&& lN (p - 1) = lN (a % p) := by
  subst hp
  have := Nat.pow_lt_pow_right (show 1 < 2 by decide) hs
  exact g_and ha (by omega) (Nat.and_two_pow_sub_one_eq_mod a s)
theorem g_or {k p a b : Nat} (hp : 2 ^ k = p) (ha : a < p) (h : b * p + a < 2 ^ 64) : lN (b * p) ||| lN a = lN (b * p + a) := by
  subst hp
  have h1 : b * 2 ^ k ||| a = b * 2 ^ k + a := by rw [← Nat.shiftLeft_eq, Nat.shiftLeft_add_eq_or_of_lt ha]
  have h3 : UInt64.ofNat (b * 2 ^ k) ||| UInt64.ofNat a = UInt64.ofNat (b * 2 ^ k + a) := UInt64.toNat_inj.mp (by rw [UInt64.toNat_or, u_tn (by omega), u_tn (by omega), u_tn h, h1])
  have h2 := congrArg UInt64.toInt64 h3
  exact h2
theorem g_or' {k p a b : Nat} (hp : 2 ^ k = p) (ha : a < p) (h : a + b * p < 2 ^ 64) : lN a ||| lN (b * p) = lN (a + b * p) := by
  rw [Int64.or_comm, g_or hp ha (by omega), Nat.add_comm]
theorem g_ushr {a k p : Nat} {y : UInt64} (hy : y = UInt64.ofNat k) (hk : k < 64) (hp : 2 ^ k = p) (ha : a < 2 ^ 64) : ((lN a).toUInt64 >>> y).toInt64 = lN (a / p) := by
  subst hy hp
  have h : UInt64.ofNat a >>> UInt64.ofNat k = UInt64.ofNat (a / 2 ^ k) := UInt64.toNat_inj.mp (by rw [UInt64.toNat_shiftRight, u_tn ha, u_tn (by omega), u_tn (Nat.lt_of_le_of_lt (Nat.div_le_self _ _) ha), Nat.mod_eq_of_lt hk, Nat.shiftRight_eq_div_pow])
  have h2 := congrArg UInt64.toInt64 h
  exact h2
theorem g_shl {a k p : Nat} {y : Int64} (hy : y.toBitVec.smod 64 = BitVec.ofNat 64 k) (hk : k < 64) (hp : 2 ^ k = p) (ha : a < 2 ^ 64) : lN a <<< y = lN (a * p) := by
  subst hp
  apply Int64.toBitVec_inj.mp
  rw [Int64.toBitVec_shiftLeft, hy]
  apply BitVec.eq_of_toNat_eq
  have hb : (lN a).toBitVec.toNat = a := Nat.mod_eq_of_lt ha
  have hk' : (BitVec.ofNat 64 k).toNat = k := Nat.mod_eq_of_lt (by omega)
  have h : ((lN a).toBitVec <<< BitVec.ofNat 64 k).toNat = (a * 2 ^ k) % 2 ^ 64 := by simp only [BitVec.shiftLeft_eq', BitVec.toNat_shiftLeft, hb, hk', Nat.shiftLeft_eq]
  exact h
end
section
/-! ===== numbers as rows of digits ===== -/
def un (x : Int32) : Nat := x.toBitVec.toNat
theorem un_lt (x : Int32) : un x < 4294967296 := x.toBitVec.isLt
theorem un_nI {n : Nat} (h : n < 4294967296) : un (nI n) = n := pk_tn h
theorem nI_un (x : Int32) : nI (un x) = x := by
  have h : (nI (un x)).toBitVec = x.toBitVec := by
    apply BitVec.eq_of_toNat_eq
    rw [pk_tn (un_lt x)]
    rfl
  exact Int32.toBitVec_inj.mp h
theorem nI_mod (n : Nat) : nI n = nI (n % 4294967296) := by
  have h : (nI n).toBitVec = (nI (n % 4294967296)).toBitVec := by
    apply BitVec.eq_of_toNat_eq
    rw [pk_tn (Nat.mod_lt _ (by decide))]
    show (BitVec.ofNat 32 n).toNat = _
    rw [BitVec.toNat_ofNat]
  exact Int32.toBitVec_inj.mp h
theorem un_mod (n : Nat) : un (nI n) = n % 4294967296 := by rw [nI_mod, un_nI (Nat.mod_lt _ (by decide))]
theorem un_0 : un 0 = 0 := by decide
theorem un_eq0 {x : Int32} : un x = 0 ↔ x = 0 := by
  constructor
  · intro h
    rw [← nI_un x, h]
    exact nI_0
  · intro h; rw [h]; exact un_0
theorem un_inj {x y : Int32} (h : un x = un y) : x = y := by rw [← nI_un x, ← nI_un y, h]
theorem un_m1 : un (-1) = 4294967295 := by decide
/-- an int's word as a long without a sign -/
theorem wl_un (x : Int32) : (x.toInt64 &&& 4294967295) = lN (un x) := by
  apply wb_inj
  rw [wb_tb]
  apply BitVec.eq_of_toNat_eq
  rw [BitVec.toNat_ofNat]
  have h1 : (x.toInt64 &&& 4294967295).toBitVec = x.toBitVec.signExtend 64 &&& 4294967295#64 := rfl
  rw [h1, BitVec.toNat_and]
  have h2 : (4294967295#64).toNat = 2 ^ 32 - 1 := by decide
  rw [h2, Nat.and_two_pow_sub_one_eq_mod, BitVec.toNat_signExtend]
  have h3 : x.toBitVec.toNat < 4294967296 := un_lt x
  have h4 : un x = x.toBitVec.toNat := rfl
  rw [h4, BitVec.toNat_setWidth]
  split <;> omega
theorem lN_low {n : Nat} : (lN n).toInt32 = nI n := lN_i n
/-- >>> 32 -/
theorem wl_hi {n : Nat} (h : n < 18446744073709551616) : ((lN n).toUInt64 >>> ((32 : Int32).toInt64.toUInt64 &&& Int64.toUInt64 63)).toInt64 = lN (n / 4294967296) := wb_shr (n := n) (k := 32) h (by decide)
def dvb (b : Nat) (f : Nat → Int32) : Nat → Nat
  | 0 => 0
  | n + 1 => dvb b f n + un (f n) * b ^ n
theorem dvb_congr {b : Nat} {f g : Nat → Int32} : ∀ {n : Nat}, (∀ j, j < n → f j = g j) → dvb b f n = dvb b g n
  | 0, _ => rfl
  | n + 1, h => by
    show dvb b f n + un (f n) * b ^ n = dvb b g n + un (g n) * b ^ n
    rw [dvb_congr (fun j hj => h j (by omega)), h n (by omega)]
theorem dvb_upd {b : Nat} {f : Nat → Int32} {k n : Nat} {x : Int32} (h : n ≤ k) : dvb b (upd f k x) n = dvb b f n := dvb_congr (fun j hj => pk_un (by omega))
theorem dvb_lt {b : Nat} {f : Nat → Int32} : ∀ {n : Nat}, (∀ j, j < n → un (f j) < b) → dvb b f n < b ^ n
  | 0, _ => Nat.one_pos
  | n + 1, h => by
    have h1 := dvb_lt (n := n) (fun j hj => h j (by omega))
    have h2 : un (f n) * b ^ n ≤ (b - 1) * b ^ n := Nat.mul_le_mul_right _ (by have := h n (by omega); omega)
    have h3 : (b - 1) * b ^ n + b ^ n = b ^ (n + 1) := by
      have := h n (by omega)
      rw [Nat.pow_succ, ← Nat.succ_mul, Nat.mul_comm]
      congr 1
      omega
    show dvb b f n + un (f n) * b ^ n < b ^ (n + 1)
    omega
theorem dv32_lt (f : Nat → Int32) (n : Nat) : dvb 4294967296 f n < 4294967296 ^ n := dvb_lt (fun j _ => un_lt _)
/-- the top digit isn't 0: at least the power below -/
theorem dvb_ge {b : Nat} {f : Nat → Int32} {n : Nat} (h : f n ≠ 0) : b ^ n ≤ dvb b f (n + 1) := by
  have h1 : 1 ≤ un (f n) := Nat.pos_of_ne_zero (fun e => h (un_eq0.mp e))
  have h2 : 1 * b ^ n ≤ un (f n) * b ^ n := Nat.mul_le_mul_right _ h1
  show b ^ n ≤ dvb b f n + un (f n) * b ^ n
  omega
/-- one step of multiplying and adding -/
theorem dvb_mul_step {b : Nat} (hb : 0 < b) {f f' : Nat → Int32} {i fac car more : Nat} (h : dvb b f' i + car * b ^ i = dvb b f i * fac + more) :
    (dvb b f' i + ((un (f i) * fac + car) % b) * b ^ i) + ((un (f i) * fac + car) / b) * b ^ (i + 1) = dvb b f (i + 1) * fac + more := by
  have h1 := Nat.div_add_mod (un (f i) * fac + car) b
  generalize (un (f i) * fac + car) / b = q at *
  generalize (un (f i) * fac + car) % b = r at *
  show (dvb b f' i + r * b ^ i) + q * b ^ (i + 1) = (dvb b f i + un (f i) * b ^ i) * fac + more
  have h2 : b ^ (i + 1) = b ^ i * b := Nat.pow_succ ..
  rw [h2]
  generalize b ^ i = P at *
  have h3 : r * P + q * (P * b) = (un (f i) * fac + car) * P := by rw [← h1]; grind
  grind
/-- one step of dividing from the top -/
theorem div_step (Hi w d b : Nat) (hd : 0 < d) : (Hi * b + w) / d = (Hi / d) * b + ((Hi % d) * b + w) / d ∧ (Hi * b + w) % d = ((Hi % d) * b + w) % d := by
  have h1 := Nat.div_add_mod Hi d
  have h2 : Hi * b + w = ((Hi % d) * b + w) + d * ((Hi / d) * b) := by
    conv => lhs; rw [← h1]
    grind
  rw [h2]
  constructor
  · rw [Nat.add_mul_div_left _ _ hd, Nat.add_comm]
  · rw [Nat.add_mul_mod_self_left]
/-- the part of a row from place i on -/
def hib (b : Nat) (f : Nat → Int32) (n i : Nat) : Nat := dvb b (fun j => f (i + j)) (n - i)
theorem dvb_split {b : Nat} {f : Nat → Int32} {i : Nat} : ∀ {k : Nat}, dvb b f (i + k) = dvb b f i + b ^ i * dvb b (fun j => f (i + j)) k
  | 0 => by simp [dvb]
  | k + 1 => by
    show dvb b f (i + k) + un (f (i + k)) * b ^ (i + k) = dvb b f i + b ^ i * (dvb b (fun j => f (i + j)) k + un (f (i + k)) * b ^ k)
    rw [dvb_split (k := k), Nat.pow_add]
    grind
theorem dvb_low {b : Nat} {f : Nat → Int32} : ∀ {n : Nat}, dvb b f (n + 1) = un (f 0) + b * dvb b (fun j => f (j + 1)) n := by
  intro n
  have h := dvb_split (b := b) (f := f) (i := 1) (k := n)
  rw [Nat.add_comm 1 n] at h
  rw [h]
  have e1 : dvb b f 1 = un (f 0) := by simp [dvb]
  have e2 : (fun j => f (1 + j)) = (fun j => f (j + 1)) := by funext j; rw [Nat.add_comm]
  rw [e1, e2, Nat.pow_one]
theorem hib_n {b : Nat} {f : Nat → Int32} {n : Nat} : hib b f n n = 0 := by unfold hib; rw [Nat.sub_self]; rfl
theorem hib_0 {b : Nat} {f : Nat → Int32} {n : Nat} : hib b f n 0 = dvb b f n := by
  unfold hib
  exact dvb_congr (fun j _ => by rw [Nat.zero_add])
theorem hib_step {b : Nat} {f : Nat → Int32} {n i : Nat} (h : i < n) : hib b f n i = hib b f n (i + 1) * b + un (f i) := by
  unfold hib
  rw [show n - i = (n - (i + 1)) + 1 by omega, dvb_low]
  have e : (fun j => (fun j => f (i + j)) (j + 1)) = (fun j => f (i + 1 + j)) := by funext j; show f (i + (j + 1)) = _; congr 1; omega
  rw [e, Nat.add_zero]
  grind
theorem hib_congr {b : Nat} {f g : Nat → Int32} {n i : Nat} (h : ∀ j, i ≤ j → j < n → f j = g j) : hib b f n i = hib b g n i := dvb_congr (fun j hj => h (i + j) (by omega) (by omega))
theorem dvb_digit {b : Nat} (hb : 0 < b) {f : Nat → Int32} {n k : Nat} (hf : ∀ j, j < n → un (f j) < b) (hk : k < n) : dvb b f n / b ^ k % b = un (f k) := by
  have h1 : dvb b f n = dvb b f k + b ^ k * dvb b (fun j => f (k + j)) (n - k) := by
    have := dvb_split (b := b) (f := f) (i := k) (k := n - k)
    rwa [show k + (n - k) = n by omega] at this
  have h2 : dvb b f k < b ^ k := dvb_lt (fun j hj => hf j (by omega))
  rw [h1, Nat.add_mul_div_left _ _ (Nat.pow_pos hb), Nat.div_eq_of_lt h2, Nat.zero_add, show n - k = (n - k - 1) + 1 by omega, dvb_low, Nat.add_mul_mod_self_left, Nat.add_zero, Nat.mod_eq_of_lt (hf k hk)]
theorem dvb_high {b : Nat} (hb : 0 < b) {f : Nat → Int32} {n k : Nat} (hf : ∀ j, j < n → un (f j) < b) (hk : n ≤ k) : dvb b f n / b ^ k = 0 :=
  Nat.div_eq_of_lt (Nat.lt_of_lt_of_le (dvb_lt hf) (Nat.pow_le_pow_right hb hk))
end
section
set_option maxRecDepth 100000 in
set_option maxHeartbeats 4000000 in
theorem c_X2_isZero (l : Launch) (D : va_G) (cB cI cC : ClassId) (h a N u : Nat) (f : Nat → Int32) (hu : u < 2 ^ 31) : ROi l yX2_isZero (Cond.code yX2_isZero cX2_isZero 1 (some .boolean)) 0 D (TY cB cI cC) [.ref h] [(h, .inr (2, [.ref a, .int (nI u)])), (a, .inl (cI, N, .inl f))] (fun r => r = if u = 0 then 1 else 0) := by
  refine ROi.of (by decide) (Nat.le_of_ble_eq_true rfl) ?_
  intro p e s m below meth c ls A hC hA hP hK hD hS hl
  obtain ⟨hx, hb, hr, hml, hown, hts, hlocks, hN⟩ := id hC
  have hown : s.vm.findClass RX2 = some m.cls := hown
  have hl : lv_has ls 1 [(0, .ref h)] := hl
  refine lv_aload_n hx hb dX2_isZero_0 rfl (lv_at hl 0 rfl) ?_
  refine va_get (D := D) (ci := 2) (C := RX2) (T := TX2) (N := 2) (v := .int (nI u)) hx hb hts kin_X2_w hown hK hP 0 rfl rfl 1 (by decide) (hts _ kfl_X2_21) (fun _ h9 => h9) rfl dX2_isZero_1 ?_
  refine dm_if_ne (tgt := 11) hx hb hu dX2_isZero_4 (by decide) (fun hc => ?_) (fun hc => ?_)
  · refine lv_iconst (v := 0) hx hb dX2_isZero_11 (by decide) ?_
    exact ri_zret hC (Or.inl rfl) ((if_neg hc).symm) dX2_isZero_12
  · refine lv_iconst (v := 1) hx hb dX2_isZero_7 (by decide) ?_
    refine lv_goto (tgt := 12) hx hb dX2_isZero_8 (by decide) ?_
    exact ri_zret hC (Or.inr rfl) ((if_pos hc).symm) dX2_isZero_12

/-- the word at a place, 0 outside -/
def wAt (f : Nat → Int32) (u : Nat) (k : Int32) : Int32 := if 0 ≤ k.toInt ∧ k.toInt < u then f k.toNatClampNeg else 0
theorem wAt_in {f : Nat → Int32} {u j : Nat} (h : j < u) (hu : u < 2 ^ 31) : wAt f u (nI j) = f j := by
  unfold wAt
  rw [nI_toInt (by omega), nI_clamp (by omega), if_pos (by omega)]
theorem wAt_neg {f : Nat → Int32} {u : Nat} {k : Int32} (h : k < 0) : wAt f u k = 0 := if_neg (fun q => by have := Int32.lt_iff_toInt_lt.mp h; rw [show (0 : Int32).toInt = 0 from rfl] at this; omega)
theorem wAt_ge {f : Nat → Int32} {u : Nat} {k : Int32} (hu : u < 2 ^ 31) (h : nI u ≤ k) : wAt f u k = 0 := if_neg (fun q => by have := Int32.le_iff_toInt_le.mp h; rw [nI_toInt hu] at this; omega)

set_option maxRecDepth 100000 in
set_option maxHeartbeats 4000000 in
theorem c_X2_wordAt (l : Launch) (D : va_G) (cB cI cC : ClassId) (h a N u : Nat) (f : Nat → Int32) (k : Int32) (hu : u ≤ N) (hNb : N < 2 ^ 31) : ROi l yX2_wordAt (Cond.code yX2_wordAt cX2_wordAt 2 (some .int)) 0 D (TY cB cI cC) [.ref h, .int k] [(h, .inr (2, [.ref a, .int (nI u)])), (a, .inl (cI, N, .inl f))] (fun r => r = wAt f u k) := by
  refine ROi.of (by decide) (Nat.le_of_ble_eq_true rfl) ?_
  intro p e s m below meth c ls A hC hA hP hK hD hS hl
  obtain ⟨hx, hb, hr, hml, hown, hts, hlocks, hN⟩ := id hC
  have hown : s.vm.findClass RX2 = some m.cls := hown
  have hl : lv_has ls 2 [(0, .ref h), (1, .int k)] := hl
  refine lv_iload_n hx hb dX2_wordAt_0 rfl (lv_at hl 1 rfl) ?_
  refine lv_if_lt (tgt := 21) hx hb dX2_wordAt_1 (by decide) (fun hc => ?_) (fun hc => ?_)
  · refine lv_iconst (v := 0) hx hb dX2_wordAt_21 (by decide) ?_
    exact ri_iret hC ((wAt_neg hc).symm) dX2_wordAt_22
  · refine lv_iload_n hx hb dX2_wordAt_4 rfl (lv_at hl 1 rfl) ?_
    refine lv_aload_n hx hb dX2_wordAt_5 rfl (lv_at hl 0 rfl) ?_
    refine va_get (D := D) (ci := 2) (C := RX2) (T := TX2) (N := 2) (v := .int (nI u)) hx hb hts kin_X2_w hown hK hP 0 rfl rfl 1 (by decide) (hts _ kfl_X2_21) (fun _ h9 => h9) rfl dX2_wordAt_6 ?_
    refine lv_icmp_ge (tgt := 21) hx hb dX2_wordAt_9 (by decide) (fun hd => ?_) (fun hd => ?_)
    · refine lv_iconst (v := 0) hx hb dX2_wordAt_21 (by decide) ?_
      exact ri_iret hC ((wAt_ge (by omega) hd).symm) dX2_wordAt_22
    · obtain ⟨j, hj, rfl⟩ : ∃ j : Nat, j < u ∧ k = nI j := (pk_ix k (by omega)).resolve_left hc |>.resolve_left hd
      refine lv_aload_n hx hb dX2_wordAt_12 rfl (lv_at hl 0 rfl) ?_
      refine va_get (D := D) (ci := 2) (C := RX2) (T := TX2) (N := 2) (v := .ref a) hx hb hts kin_X2_w hown hK hP 0 rfl rfl 0 (by decide) (hts _ kfl_X2_15) (fun _ h9 => h9) rfl dX2_wordAt_13 ?_
      refine lv_iload_n hx hb dX2_wordAt_16 rfl (lv_at hl 1 rfl) ?_
      refine dm_iald (j := j) hx hb hK hP 1 1 rfl rfl (by omega) hNb dX2_wordAt_17 ?_
      refine lv_goto (tgt := 22) hx hb dX2_wordAt_18 (by decide) ?_
      exact ri_iret hC ((wAt_in hj (by omega)).symm) dX2_wordAt_22

set_option maxRecDepth 100000 in
set_option maxHeartbeats 4000000 in
theorem c_X0_size (l : Launch) (D : va_G) (cB cI cC : ClassId) (h a n : Nat) (f : Nat → Int32) : ROi l yX0_size (Cond.code yX0_size cX0_size 1 (some .int)) 0 D (TY cB cI cC) [.ref h] [(h, .inr (0, [.ref a, .int (nI n)])), (a, .inl (cB, 65536, .inl f))] (fun r => r = nI n) := by
  refine ROi.of (by decide) (Nat.le_of_ble_eq_true rfl) ?_
  intro p e s m below meth c ls A hC hA hP hK hD hS hl
  obtain ⟨hx, hb, hr, hml, hown, hts, hlocks, hN⟩ := id hC
  have hown : s.vm.findClass RX0 = some m.cls := hown
  have hl : lv_has ls 1 [(0, .ref h)] := hl
  refine lv_aload_n hx hb dX0_size_0 rfl (lv_at hl 0 rfl) ?_
  refine va_get (D := D) (ci := 0) (C := RX0) (T := TX0) (N := 2) (v := .int (nI n)) hx hb hts kin_X0_w hown hK hP 0 rfl rfl 1 (by decide) (hts _ kfl_X0_16) (fun _ h9 => h9) rfl dX0_size_1 ?_
  exact ri_iret hC (rfl) dX0_size_4

set_option maxRecDepth 100000 in
set_option maxHeartbeats 4000000 in
theorem c_X0_codeAt (l : Launch) (D : va_G) (cB cI cC : ClassId) (h a n : Nat) (f : Nat → Int32) (k : Int32) (hn : n ≤ 65536) : ROi l yX0_codeAt (Cond.code yX0_codeAt cX0_codeAt 2 (some .int)) 0 D (TY cB cI cC) [.ref h, .int k] [(h, .inr (0, [.ref a, .int (nI n)])), (a, .inl (cB, 65536, .inl f))] (fun r => (∀ j, j < n → k = nI j → r = f j) ∧ ((∀ j, j < n → k ≠ nI j) → r = -1)) := by
  refine ROi.of (by decide) (Nat.le_of_ble_eq_true rfl) ?_
  intro p e s m below meth c ls A hC hA hP hK hD hS hl
  obtain ⟨hx, hb, hr, hml, hown, hts, hlocks, hN⟩ := id hC
  have hown : s.vm.findClass RX0 = some m.cls := hown
  have hl : lv_has ls 2 [(0, .ref h), (1, .int k)] := hl
  refine lv_iload_n hx hb dX0_codeAt_0 rfl (lv_at hl 1 rfl) ?_
  refine lv_if_lt (tgt := 21) hx hb dX0_codeAt_1 (by decide) (fun hc => ?_) (fun hc => ?_)
  · refine lv_iconst (v := -1) hx hb dX0_codeAt_21 (by decide) ?_
    exact ri_iret hC (⟨fun j hj e0 => absurd hc (by rw [e0]; exact nI_pos (by omega)), fun _ => rfl⟩) dX0_codeAt_22
  · refine lv_iload_n hx hb dX0_codeAt_4 rfl (lv_at hl 1 rfl) ?_
    refine lv_aload_n hx hb dX0_codeAt_5 rfl (lv_at hl 0 rfl) ?_
    refine va_get (D := D) (ci := 0) (C := RX0) (T := TX0) (N := 2) (v := .int (nI n)) hx hb hts kin_X0_w hown hK hP 0 rfl rfl 1 (by decide) (hts _ kfl_X0_16) (fun _ h9 => h9) rfl dX0_codeAt_6 ?_
    refine lv_icmp_ge (tgt := 21) hx hb dX0_codeAt_9 (by decide) (fun hd => ?_) (fun hd => ?_)
    · refine lv_iconst (v := -1) hx hb dX0_codeAt_21 (by decide) ?_
      exact ri_iret hC (⟨fun j hj e0 => absurd hd (by rw [e0]; exact nI_ge hj (by omega)), fun _ => rfl⟩) dX0_codeAt_22
    · obtain ⟨j, hj, rfl⟩ : ∃ j : Nat, j < n ∧ k = nI j := (pk_ix k (by omega)).resolve_left hc |>.resolve_left hd
      refine lv_aload_n hx hb dX0_codeAt_12 rfl (lv_at hl 0 rfl) ?_
      refine va_get (D := D) (ci := 0) (C := RX0) (T := TX0) (N := 2) (v := .ref a) hx hb hts kin_X0_w hown hK hP 0 rfl rfl 0 (by decide) (hts _ kfl_X0_10) (fun _ h9 => h9) rfl dX0_codeAt_13 ?_
      refine lv_iload_n hx hb dX0_codeAt_16 rfl (lv_at hl 1 rfl) ?_
      refine dm_bald (j := j) hx hb hK hP 1 0 rfl rfl (by omega) (by decide) dX0_codeAt_17 ?_
      refine lv_goto (tgt := 22) hx hb dX0_codeAt_18 (by decide) ?_
      exact ri_iret hC (⟨fun i hi e0 => by rw [(nI_eq (by omega) (by omega)).mp e0], fun h9 => absurd rfl (h9 j hj)⟩) dX0_codeAt_22

set_option maxRecDepth 100000 in
set_option maxHeartbeats 4000000 in
theorem c_X0_clear (l : Launch) (D : va_G) (cB cI cC : ClassId) (h a n : Nat) (f : Nat → Int32) : MV l yX0_clear (Cond.code yX0_clear cX0_clear 1 none) 0 D (TY cB cI cC) [.ref h] [(h, .inr (0, [.ref a, .int (nI n)])), (a, .inl (cB, 65536, .inl f))] (S := Unit) (fun _ => True) (fun _ => [(h, .inr (0, [.ref a, .int (nI 0)])), (a, .inl (cB, 65536, .inl f))]) := by
  refine MV.of (by decide) (Nat.le_of_ble_eq_true rfl) ?_
  intro p e s m below meth c ls A hC hA hP hK hD hS hl
  obtain ⟨hx, hb, hr, hml, hown, hts, hlocks, hN⟩ := id hC
  have hown : s.vm.findClass RX0 = some m.cls := hown
  have hl : lv_has ls 1 [(0, .ref h)] := hl
  refine lv_aload_n hx hb dX0_clear_0 rfl (lv_at hl 0 rfl) ?_
  refine lv_iconst (v := 0) hx hb dX0_clear_1 (by decide) ?_
  refine va_put (D := D) (ci := 0) (v := .int 0) (ty := .int) (C := RX0) (T := TX0) (N := 2) hx hb hts kin_X0_w tyX0 tyX0_ok nmX0 hown hK hP hD hS 0 rfl rfl 1 (by decide) (hts _ kfl_X0_16) (fun _ h9 => h9) rfl (by decide +kernel) rfl rfl (Nat.le_of_ble_eq_true rfl) dX0_clear_2 (fun H locs hP hD hS => ?_)
  have hP : va_P D vwCl [(h, .inr (0, [.ref a, .int 0])), (a, .inl (cB, 65536, .inl f))] H := hP
  have hD : va_D A [(h, .inr (0, [.ref a, .int 0])), (a, .inl (cB, 65536, .inl f))] := hD
  exact dm_vret hC hK () trivial hP hD hS dX0_clear_5

/-- the highest word in use isn't 0 -/
def nrm (f : Nat → Int32) (u : Nat) : Prop := ∀ k, u = k + 1 → f k ≠ 0
theorem nrm_0 (f : Nat → Int32) : nrm f 0 := fun k h => by omega

set_option maxRecDepth 100000 in
set_option maxHeartbeats 4000000 in
theorem c_X2_dropZeros (l : Launch) (D : va_G) (cB cI cC : ClassId) (b h a N u : Nat) (f : Nat → Int32) (hu : u ≤ N) (hNb : N < 2 ^ 31) : MV l yX2_dropZeros (Cond.code yX2_dropZeros cX2_dropZeros 1 none) 0 D (TY cB cI cC) [.ref h] [(h, .inr (2, [.ref a, .int (nI u)])), (a, .inl (cI, N, .inl f))] (S := Nat) (fun u2 => u2 ≤ u ∧ dvb b f u2 = dvb b f u ∧ nrm f u2) (fun u2 => [(h, .inr (2, [.ref a, .int (nI u2)])), (a, .inl (cI, N, .inl f))]) := by
  refine MV.of (by decide) (Nat.le_of_ble_eq_true rfl) ?_
  intro p e s m below meth c ls A hC hA hP hK hD hS hl
  obtain ⟨hx, hb, hr, hml, hown, hts, hlocks, hN⟩ := id hC
  have hown : s.vm.findClass RX2 = some m.cls := hown
  have hl : lv_has ls 1 [(0, .ref h)] := hl
  refine dm_loop (nL := 1) (head := 0) (P := fun v => v ≤ u ∧ dvb b f v = dvb b f u) (w := fun v => [(h, .inr (2, [.ref a, .int (nI v)])), (a, .inl (cI, N, .inl f))]) (lv := fun _ => [(0, .ref h)]) (μ := fun v => v) ?_ u ⟨Nat.le_refl _, rfl⟩ hP hD hS hl
  intro v H locs ls hp hP hD hS hl ih
  obtain ⟨hv, he⟩ := hp
  refine lv_aload_n hx hb dX2_dropZeros_0 rfl (lv_at hl 0 rfl) ?_
  refine va_get (D := D) (ci := 2) (C := RX2) (T := TX2) (N := 2) (v := .int (nI v)) hx hb hts kin_X2_w hown hK hP 0 rfl rfl 1 (by decide) (hts _ kfl_X2_21) (fun _ h9 => h9) rfl dX2_dropZeros_1 ?_
  refine dm_if_le (tgt := 34) hx hb (by omega) dX2_dropZeros_4 (by decide) (fun hc => ?_) (fun hc => ?_)
  · exact dm_vret hC hK v ⟨hv, he, by rw [hc]; exact nrm_0 f⟩ hP hD hS dX2_dropZeros_34
  · obtain ⟨k, rfl⟩ : ∃ k, v = k + 1 := ⟨v - 1, by omega⟩
    refine lv_aload_n hx hb dX2_dropZeros_7 rfl (lv_at hl 0 rfl) ?_
    refine va_get (D := D) (ci := 2) (C := RX2) (T := TX2) (N := 2) (v := .ref a) hx hb hts kin_X2_w hown hK hP 0 rfl rfl 0 (by decide) (hts _ kfl_X2_15) (fun _ h9 => h9) rfl dX2_dropZeros_8 ?_
    refine lv_aload_n hx hb dX2_dropZeros_11 rfl (lv_at hl 0 rfl) ?_
    refine va_get (D := D) (ci := 2) (C := RX2) (T := TX2) (N := 2) (v := .int (nI (k + 1))) hx hb hts kin_X2_w hown hK hP 0 rfl rfl 1 (by decide) (hts _ kfl_X2_21) (fun _ h9 => h9) rfl dX2_dropZeros_12 ?_
    refine lv_iconst (v := 1) hx hb dX2_dropZeros_15 (by decide) ?_
    refine lv_isub hx hb dX2_dropZeros_16 ?_
    refine dm_ti (y := nI k) (nI_pred k) ?_
    refine dm_iald (j := k) hx hb hK hP 1 1 rfl rfl (by omega) hNb dX2_dropZeros_17 ?_
    refine lv_if_ne (tgt := 34) hx hb dX2_dropZeros_18 (by decide) (fun hd => ?_) (fun hd => ?_)
    · exact dm_vret hC hK (k + 1) ⟨hv, he, fun j e0 => by rw [show j = k by omega]; exact hd⟩ hP hD hS dX2_dropZeros_34
    · refine lv_aload_n hx hb dX2_dropZeros_21 rfl (lv_at hl 0 rfl) ?_
      refine lv_dup hx hb dX2_dropZeros_22 rfl ?_
      refine va_get (D := D) (ci := 2) (C := RX2) (T := TX2) (N := 2) (v := .int (nI (k + 1))) hx hb hts kin_X2_w hown hK hP 0 rfl rfl 1 (by decide) (hts _ kfl_X2_21) (fun _ h9 => h9) rfl dX2_dropZeros_23 ?_
      refine lv_iconst (v := 1) hx hb dX2_dropZeros_26 (by decide) ?_
      refine lv_isub hx hb dX2_dropZeros_27 ?_
      refine dm_ti (y := nI k) (nI_pred k) ?_
      refine va_put (D := D) (ci := 2) (v := .int (nI k)) (ty := .int) (C := RX2) (T := TX2) (N := 2) hx hb hts kin_X2_w tyX2 tyX2_ok nmX2 hown hK hP hD hS 0 rfl rfl 1 (by decide) (hts _ kfl_X2_21) (fun _ h9 => h9) rfl (by decide +kernel) rfl rfl (Nat.le_of_ble_eq_true rfl) dX2_dropZeros_28 (fun H locs hP hD hS => ?_)
      have hP : va_P D vwCl [(h, .inr (2, [.ref a, .int (nI k)])), (a, .inl (cI, N, .inl f))] H := hP
      have hD : va_D A [(h, .inr (2, [.ref a, .int (nI k)])), (a, .inl (cI, N, .inl f))] := hD
      refine lv_goto (tgt := 0) hx hb dX2_dropZeros_31 (by decide) ?_
      refine ih k H locs ls (Nat.lt_succ_self k) ⟨by omega, ?_⟩ hP hD hS hl
      rw [← he]
      show dvb b f k = dvb b f k + un (f k) * b ^ k
      rw [hd, un_0]; omega
end
section
theorem nrm_of_ge {f : Nat → Int32} {k : Nat} (h : 4294967296 ^ k ≤ dvb 4294967296 f (k + 1)) : nrm f (k + 1) := by
  intro j hj e0
  have hjk : j = k := by omega
  subst hjk
  have h1 : dvb 4294967296 f (j + 1) = dvb 4294967296 f j + un (f j) * 4294967296 ^ j := rfl
  rw [e0, un_0] at h1
  have h2 := dv32_lt f j
  omega
theorem nrm_ge {f : Nat → Int32} {k : Nat} (h : nrm f (k + 1)) : 4294967296 ^ k ≤ dvb 4294967296 f (k + 1) := dvb_ge (h k rfl)
theorem nI_ne0' {n : Nat} (h0 : 0 < n) (h : n < 4294967296) : nI n ≠ 0 := fun e0 => by
  have := congrArg un e0
  rw [un_nI h, un_0] at this
  omega

set_option maxRecDepth 100000 in
set_option maxHeartbeats 4000000 in
theorem c_X2_appendCarry (l : Launch) (D : va_G) (cB cI cC : ClassId) (h a N u cv : Nat) (f : Nat → Int32) (hu : u ≤ N) (hNb : N < 2 ^ 31) (hcv : cv < 4294967296) : MI l yX2_appendCarry (Cond.code yX2_appendCarry cX2_appendCarry 3 (some .boolean)) 0 D (TY cB cI cC) [.ref h, .long (lN cv)] [(h, .inr (2, [.ref a, .int (nI u)])), (a, .inl (cI, N, .inl f))] (S := (Nat → Int32) × Nat) (fun r q => (r = 1 ∧ q.2 ≤ N ∧ dvb 4294967296 q.1 q.2 = dvb 4294967296 f u + cv * 4294967296 ^ u ∧ ((cv ≠ 0 ∨ nrm f u) → nrm q.1 q.2)) ∨ (r = 0 ∧ q.2 ≤ N ∧ 4294967296 ^ N ≤ dvb 4294967296 f u + cv * 4294967296 ^ u)) (fun q => [(h, .inr (2, [.ref a, .int (nI q.2)])), (a, .inl (cI, N, .inl q.1))]) := by
  refine MI.of (by decide) (Nat.le_of_ble_eq_true rfl) ?_
  intro p e s m below meth c ls A hC hA hP hK hD hS hl
  obtain ⟨hx, hb, hr, hml, hown, hts, hlocks, hN⟩ := id hC
  have hown : s.vm.findClass RX2 = some m.cls := hown
  have hl : lv_has ls 3 [(0, .ref h), (1, .long (lN cv))] := hl
  refine lv_lload_n hx hb dX2_appendCarry_0 rfl (lv_at hl 1 rfl) ?_
  refine lv_lconst (v := lN 0) hx hb dX2_appendCarry_1 (by decide) ?_
  refine dm_lc_ne (tgt := 8) hx hb (by omega) (by omega) dX2_appendCarry_2 dX2_appendCarry_3 (by decide) (fun hc => ?_) (fun hc => ?_)
  · refine lv_aload_n hx hb dX2_appendCarry_8 rfl (lv_at hl 0 rfl) ?_
    refine va_get (D := D) (ci := 2) (C := RX2) (T := TX2) (N := 2) (v := .int (nI u)) hx hb hts kin_X2_w hown hK hP 0 rfl rfl 1 (by decide) (hts _ kfl_X2_21) (fun _ h9 => h9) rfl dX2_appendCarry_9 ?_
    refine lv_aload_n hx hb dX2_appendCarry_12 rfl (lv_at hl 0 rfl) ?_
    refine va_get (D := D) (ci := 2) (C := RX2) (T := TX2) (N := 2) (v := .ref a) hx hb hts kin_X2_w hown hK hP 0 rfl rfl 0 (by decide) (hts _ kfl_X2_15) (fun _ h9 => h9) rfl dX2_appendCarry_13 ?_
    refine va_alen (v := nI N) hx hb hK hP 1 1 rfl rfl rfl dX2_appendCarry_16 ?_
    refine dm_icmp_lt (tgt := 22) hx hb (by omega) (by omega) dX2_appendCarry_17 (by decide) (fun hd => ?_) (fun hd => ?_)
    · refine lv_aload_n hx hb dX2_appendCarry_22 rfl (lv_at hl 0 rfl) ?_
      refine va_get (D := D) (ci := 2) (C := RX2) (T := TX2) (N := 2) (v := .ref a) hx hb hts kin_X2_w hown hK hP 0 rfl rfl 0 (by decide) (hts _ kfl_X2_15) (fun _ h9 => h9) rfl dX2_appendCarry_23 ?_
      refine lv_aload_n hx hb dX2_appendCarry_26 rfl (lv_at hl 0 rfl) ?_
      refine va_get (D := D) (ci := 2) (C := RX2) (T := TX2) (N := 2) (v := .int (nI u)) hx hb hts kin_X2_w hown hK hP 0 rfl rfl 1 (by decide) (hts _ kfl_X2_21) (fun _ h9 => h9) rfl dX2_appendCarry_27 ?_
      refine lv_lload_n hx hb dX2_appendCarry_30 rfl (lv_at hl 1 rfl) ?_
      refine lv_l2i (v := nI cv) hx hb dX2_appendCarry_31 (lN_low) ?_
      refine dm_iast (j := u) (f' := upd f u (nI cv)) hx hb hK hP hD hS 1 1 rfl rfl (by omega) hNb (rfl) dX2_appendCarry_32 (fun H locs hP hD hS => ?_)
      have hP : va_P D vwCl [(h, .inr (2, [.ref a, .int (nI u)])), (a, .inl (cI, N, .inl (upd f u (nI cv))))] H := hP
      have hD : va_D A [(h, .inr (2, [.ref a, .int (nI u)])), (a, .inl (cI, N, .inl (upd f u (nI cv))))] := hD
      refine lv_aload_n hx hb dX2_appendCarry_33 rfl (lv_at hl 0 rfl) ?_
      refine lv_dup hx hb dX2_appendCarry_34 rfl ?_
      refine va_get (D := D) (ci := 2) (C := RX2) (T := TX2) (N := 2) (v := .int (nI u)) hx hb hts kin_X2_w hown hK hP 0 rfl rfl 1 (by decide) (hts _ kfl_X2_21) (fun _ h9 => h9) rfl dX2_appendCarry_35 ?_
      refine lv_iconst (v := 1) hx hb dX2_appendCarry_38 (by decide) ?_
      refine lv_iadd hx hb dX2_appendCarry_39 ?_
      refine dm_ti (y := nI (u + 1)) (nI_1 u) ?_
      refine va_put (D := D) (ci := 2) (v := .int (nI (u + 1))) (ty := .int) (C := RX2) (T := TX2) (N := 2) hx hb hts kin_X2_w tyX2 tyX2_ok nmX2 hown hK hP hD hS 0 rfl rfl 1 (by decide) (hts _ kfl_X2_21) (fun _ h9 => h9) rfl (by decide +kernel) rfl rfl (Nat.le_of_ble_eq_true rfl) dX2_appendCarry_40 (fun H locs hP hD hS => ?_)
      have hP : va_P D vwCl [(h, .inr (2, [.ref a, .int (nI (u + 1))])), (a, .inl (cI, N, .inl (upd f u (nI cv))))] H := hP
      have hD : va_D A [(h, .inr (2, [.ref a, .int (nI (u + 1))])), (a, .inl (cI, N, .inl (upd f u (nI cv))))] := hD
      refine lv_iconst (v := 1) hx hb dX2_appendCarry_43 (by decide) ?_
      refine dm_zret (v := 1) hC (Or.inr rfl) hK (upd f u (nI cv), u + 1) (Or.inl ⟨rfl, by show u + 1 ≤ N; omega, ?_, ?_⟩) hP hD hS dX2_appendCarry_44
      · show dvb 4294967296 (upd f u (nI cv)) u + un (upd f u (nI cv) u) * 4294967296 ^ u = _
        rw [dvb_upd (Nat.le_refl u), pk_us, un_nI hcv]
      · intro _ k hk
        have hk : u + 1 = k + 1 := hk
        show upd f u (nI cv) k ≠ 0
        rw [show k = u by omega, pk_us]
        exact nI_ne0' (by omega) hcv
    · refine lv_iconst (v := 0) hx hb dX2_appendCarry_20 (by decide) ?_
      refine dm_zret (v := 0) hC (Or.inl rfl) hK (f, u) (Or.inr ⟨rfl, hu, ?_⟩) hP hD hS dX2_appendCarry_21
      rw [show u = N by omega]
      have h1 : 1 * 4294967296 ^ N ≤ cv * 4294967296 ^ N := Nat.mul_le_mul_right _ (by omega)
      omega
  · refine lv_iconst (v := 1) hx hb dX2_appendCarry_6 (by decide) ?_
    exact dm_zret (v := 1) hC (Or.inr rfl) hK (f, u) (Or.inl ⟨rfl, hu, by show dvb 4294967296 f u = _; rw [hc]; omega, fun h9 => h9.resolve_left (fun q => q hc)⟩) hP hD hS dX2_appendCarry_7

set_option maxRecDepth 100000 in
set_option maxHeartbeats 4000000 in
/-- times the factor, and more -/
theorem c_X2_multiplyAndAdd (l : Launch) (D : va_G) (cB cI cC : ClassId) (h a N u fac mo : Nat) (f : Nat → Int32) (hu : u ≤ N) (hNb : N < 2 ^ 31) (hf1 : 0 < fac) (hfac : fac < 4294967296) (hmo : mo < 4294967296) (hn : nrm f u) : MI l yX2_multiplyAndAdd (Cond.code yX2_multiplyAndAdd cX2_multiplyAndAdd 10 (some .boolean)) 1 D (TY cB cI cC) [.ref h, .long (lN fac), .long (lN mo)] [(h, .inr (2, [.ref a, .int (nI u)])), (a, .inl (cI, N, .inl f))] (S := (Nat → Int32) × Nat) (fun r q => (r = 1 ∧ q.2 ≤ N ∧ dvb 4294967296 q.1 q.2 = dvb 4294967296 f u * fac + mo ∧ nrm q.1 q.2) ∨ (r = 0 ∧ q.2 ≤ N ∧ 4294967296 ^ N ≤ dvb 4294967296 f u * fac + mo)) (fun q => [(h, .inr (2, [.ref a, .int (nI q.2)])), (a, .inl (cI, N, .inl q.1))]) := by
  refine MI.of (by decide) (Nat.le_of_ble_eq_true rfl) ?_
  intro p e s m below meth c ls A hC hA hP hK hD hS hl
  obtain ⟨hx, hb, hr, hml, hown, hts, hlocks, hN⟩ := id hC
  have hown : s.vm.findClass RX2 = some m.cls := hown
  have hl : lv_has ls 10 [(0, .ref h), (1, .long (lN fac)), (3, .long (lN mo))] := hl
  refine lv_lload_n hx hb dX2_multiplyAndAdd_0 rfl (lv_at hl 2 rfl) ?_
  refine lv_lstore (lv' := [(5, .long (lN mo)), (0, .ref h), (1, .long (lN fac)), (3, .long (lN mo))]) hx hb dX2_multiplyAndAdd_1 hl (by decide) rfl (fun ls hl => ?_)
  refine lv_iconst (v := 0) hx hb dX2_multiplyAndAdd_3 (by decide) ?_
  refine dm_ti (y := nI 0) (nI_0.symm) ?_
  refine lv_istore (lv' := [(7, .int (nI 0)), (5, .long (lN mo)), (0, .ref h), (1, .long (lN fac)), (3, .long (lN mo))]) hx hb dX2_multiplyAndAdd_4 hl (by decide) rfl (fun ls hl => ?_)
  refine dm_loop (nL := 10) (head := 6) (P := fun (x : Nat × Nat × (Nat → Int32)) => x.1 ≤ u ∧ x.2.1 < 4294967296 ∧ dvb 4294967296 x.2.2 x.1 + x.2.1 * 4294967296 ^ x.1 = dvb 4294967296 f x.1 * fac + mo ∧ ∀ j, x.1 ≤ j → x.2.2 j = f j) (w := fun x => [(h, .inr (2, [.ref a, .int (nI u)])), (a, .inl (cI, N, .inl x.2.2))]) (lv := fun x => [(7, .int (nI x.1)), (5, .long (lN x.2.1)), (0, .ref h), (1, .long (lN fac)), (3, .long (lN mo))]) (μ := fun x => u - x.1) ?_ (0, mo, f) ⟨Nat.zero_le _, hmo, by simp [dvb], fun _ _ => rfl⟩ hP hD hS hl
  rintro ⟨i, car, g⟩ H locs ls ⟨hi, hcar, hinv, hge⟩ hP hD hS hl ih
  have hi : i ≤ u := hi
  have hcar : car < 4294967296 := hcar
  have hinv : dvb 4294967296 g i + car * 4294967296 ^ i = dvb 4294967296 f i * fac + mo := hinv
  have hge : ∀ j, i ≤ j → g j = f j := hge
  have hP : va_P D vwCl [(h, .inr (2, [.ref a, .int (nI u)])), (a, .inl (cI, N, .inl g))] H := hP
  have hl : lv_has ls 10 [(7, .int (nI i)), (5, .long (lN car)), (0, .ref h), (1, .long (lN fac)), (3, .long (lN mo))] := hl
  refine lv_iload hx hb dX2_multiplyAndAdd_6 (lv_at hl 0 rfl) ?_
  refine lv_aload_n hx hb dX2_multiplyAndAdd_8 rfl (lv_at hl 2 rfl) ?_
  refine va_get (D := D) (ci := 2) (C := RX2) (T := TX2) (N := 2) (v := .int (nI u)) hx hb hts kin_X2_w hown hK hP 0 rfl rfl 1 (by decide) (hts _ kfl_X2_21) (fun _ h9 => h9) rfl dX2_multiplyAndAdd_9 ?_
  refine dm_icmp_ge (tgt := 57) hx hb (by omega) (by omega) dX2_multiplyAndAdd_12 (by decide) (fun hc => ?_) (fun hc => ?_)
  · have hiu : i = u := by omega
    subst hiu
    refine lv_aload_n hx hb dX2_multiplyAndAdd_57 rfl (lv_at hl 2 rfl) ?_
    refine lv_lload hx hb dX2_multiplyAndAdd_58 (lv_at hl 1 rfl) ?_
    refine dm_goi (wr := []) (dm_rV (n := 1) (As := [.long (lN car)]) (rest := []) hC hl (c_X2_appendCarry l D cB cI cC h a N i car g hu hNb hcar H.size) kco_X2_appendCarry ki_X2 kim_X2_appendCarry kse_X2_appendCarry kml_X2_65 (by decide +kernel) ⟨Nat.le_of_ble_eq_true rfl, Nat.le_of_ble_eq_true rfl⟩ rfl rfl ⟨dm_blind, va_recv hK hP (ci := 2) (q0 := 0) rfl rfl, dm_preU hK hP hD hC.2.2.2.2.2.2.2 [0, 1] (by decide) rfl⟩ rfl rfl (Nat.le_of_ble_eq_true rfl) dX2_multiplyAndAdd_60 ⟨Nat.le_of_ble_eq_true rfl, Nat.le_of_ble_eq_true rfl⟩) hP hD hS hA [0, 1] [] rfl rfl (by decide) (by decide) (fun r q H locs hw hP hD hS => ?_)
    obtain ⟨g2, u2⟩ := q
    have hP : va_P D vwCl [(h, .inr (2, [.ref a, .int (nI u2)])), (a, .inl (cI, N, .inl g2))] H := hP
    have hD : va_D A [(h, .inr (2, [.ref a, .int (nI u2)])), (a, .inl (cI, N, .inl g2))] := hD
    refine dm_zret hC (hw.elim (fun h9 => Or.inr h9.1) (fun h9 => Or.inl h9.1)) hK (g2, u2) ?_ hP hD hS dX2_multiplyAndAdd_63
    rw [hinv] at hw
    rcases hw with ⟨h1, h2, h3, h4⟩ | ⟨h1, h2, h3⟩
    · refine Or.inl ⟨h1, h2, h3, ?_⟩
      by_cases hz : car = 0
      · refine h4 (Or.inr ?_)
        cases i with
        | zero => exact nrm_0 g
        | succ k =>
          refine nrm_of_ge ?_
          have h5 := nrm_ge hn
          rw [hz] at hinv
          have h6 : dvb 4294967296 f (k + 1) * 1 ≤ dvb 4294967296 f (k + 1) * fac := Nat.mul_le_mul_left _ hf1
          omega
      · exact h4 (Or.inl hz)
    · exact Or.inr ⟨h1, h2, h3⟩
  · refine lv_aload_n hx hb dX2_multiplyAndAdd_15 rfl (lv_at hl 2 rfl) ?_
    refine va_get (D := D) (ci := 2) (C := RX2) (T := TX2) (N := 2) (v := .ref a) hx hb hts kin_X2_w hown hK hP 0 rfl rfl 0 (by decide) (hts _ kfl_X2_15) (fun _ h9 => h9) rfl dX2_multiplyAndAdd_16 ?_
    refine lv_iload hx hb dX2_multiplyAndAdd_19 (lv_at hl 0 rfl) ?_
    refine dm_iald (j := i) hx hb hK hP 1 1 rfl rfl (by omega) hNb dX2_multiplyAndAdd_21 ?_
    refine dm_ti (y := f i) (hge i (Nat.le_refl i)) ?_
    refine lv_i2l (v := (f i : Int32).toInt64) hx hb dX2_multiplyAndAdd_22 (rfl) ?_
    refine lv_ldc2 (v := 4294967295) hx hb hown (hts _ kct_X2_34) dX2_multiplyAndAdd_23 ?_
    refine lv_land hx hb dX2_multiplyAndAdd_26 ?_
    refine dm_tl (y := lN (un (f i))) (wl_un (f i)) ?_
    refine lv_lload_n hx hb dX2_multiplyAndAdd_27 rfl (lv_at hl 3 rfl) ?_
    refine lv_lmul hx hb dX2_multiplyAndAdd_28 ?_
    refine dm_tl (y := lN (un (f i) * fac)) (lN_mul _ _) ?_
    refine lv_lload hx hb dX2_multiplyAndAdd_29 (lv_at hl 1 rfl) ?_
    refine lv_ladd hx hb dX2_multiplyAndAdd_31 ?_
    refine dm_tl (y := lN (un (f i) * fac + car)) (lN_add _ _) ?_
    have hb1 : un (f i) * fac + car < 18446744073709551616 := by
      have h1 : un (f i) * fac ≤ 4294967295 * 4294967295 := Nat.mul_le_mul (by have := un_lt (f i); omega) (by omega)
      omega
    refine lv_lstore (lv' := [(8, .long (lN (un (f i) * fac + car))), (7, .int (nI i)), (5, .long (lN car)), (0, .ref h), (1, .long (lN fac)), (3, .long (lN mo))]) hx hb dX2_multiplyAndAdd_32 hl (by decide) rfl (fun ls hl => ?_)
    refine lv_aload_n hx hb dX2_multiplyAndAdd_34 rfl (lv_at hl 3 rfl) ?_
    refine va_get (D := D) (ci := 2) (C := RX2) (T := TX2) (N := 2) (v := .ref a) hx hb hts kin_X2_w hown hK hP 0 rfl rfl 0 (by decide) (hts _ kfl_X2_15) (fun _ h9 => h9) rfl dX2_multiplyAndAdd_35 ?_
    refine lv_iload hx hb dX2_multiplyAndAdd_38 (lv_at hl 1 rfl) ?_
    refine lv_lload hx hb dX2_multiplyAndAdd_40 (lv_at hl 0 rfl) ?_
    refine lv_l2i (v := nI (un (f i) * fac + car)) hx hb dX2_multiplyAndAdd_42 (lN_low) ?_
    refine dm_iast (j := i) (f' := upd g i (nI (un (f i) * fac + car))) hx hb hK hP hD hS 1 1 rfl rfl (by omega) hNb (rfl) dX2_multiplyAndAdd_43 (fun H locs hP hD hS => ?_)
    have hP : va_P D vwCl [(h, .inr (2, [.ref a, .int (nI u)])), (a, .inl (cI, N, .inl (upd g i (nI (un (f i) * fac + car)))))] H := hP
    have hD : va_D A [(h, .inr (2, [.ref a, .int (nI u)])), (a, .inl (cI, N, .inl (upd g i (nI (un (f i) * fac + car)))))] := hD
    refine lv_lload hx hb dX2_multiplyAndAdd_44 (lv_at hl 0 rfl) ?_
    refine lv_bipush (v := 32) hx hb dX2_multiplyAndAdd_46 (by decide) ?_
    refine lv_lushr (v := lN ((un (f i) * fac + car) / 4294967296)) hx hb dX2_multiplyAndAdd_48 (wl_hi hb1) ?_
    refine lv_lstore (lv' := [(5, .long (lN ((un (f i) * fac + car) / 4294967296))), (8, .long (lN (un (f i) * fac + car))), (7, .int (nI i)), (0, .ref h), (1, .long (lN fac)), (3, .long (lN mo))]) hx hb dX2_multiplyAndAdd_49 hl (by decide) rfl (fun ls hl => ?_)
    refine lv_iinc (v := nI (i + 1)) (lv' := [(7, .int (nI (i + 1))), (5, .long (lN ((un (f i) * fac + car) / 4294967296))), (8, .long (lN (un (f i) * fac + car))), (0, .ref h), (1, .long (lN fac)), (3, .long (lN mo))]) hx hb dX2_multiplyAndAdd_51 hl (k := 2) rfl ((nI_succ i).symm) (by decide) rfl (fun ls hl => ?_)
    refine lv_goto (tgt := 6) hx hb dX2_multiplyAndAdd_54 (by decide) ?_
    refine ih (i + 1, (un (f i) * fac + car) / 4294967296, upd g i (nI (un (f i) * fac + car))) H locs ls (by show u - (i + 1) < u - i; omega) ⟨by show i + 1 ≤ u; omega, by show _ / _ < _; omega, ?_, fun j hj => ?_⟩ hP hD hS (lv_sub hl [0, 1, 3, 4, 5] rfl)
    · show dvb 4294967296 (upd g i _) i + un (upd g i _ i) * 4294967296 ^ i + _ * 4294967296 ^ (i + 1) = _
      rw [dvb_upd (Nat.le_refl i), pk_us, un_mod]
      exact dvb_mul_step (by decide) hinv
    · show upd g i _ j = f j
      rw [pk_un (by have : i + 1 ≤ j := hj; omega)]
      exact hge j (by have : i + 1 ≤ j := hj; omega)
end
section
theorem i_dec (x : Int32) : x + Int32.ofInt (-1) = x - nI 1 := by rw [Int32.sub_eq_add_neg, show -(nI 1) = Int32.ofInt (-1) by decide]

set_option maxRecDepth 100000 in
set_option maxHeartbeats 4000000 in
/-- divided twice: what is left over is below the square of the divisor -/
theorem c_X2_divideTwiceBy (l : Launch) (D : va_G) (cB cI cC : ClassId) (h a N u dd : Nat) (f : Nat → Int32) (hu : u ≤ N) (hNb : N < 2 ^ 31) (hd1 : 0 < dd) (hdd : dd ≤ 2147483648) : ML l yX2_divideTwiceBy (Cond.code yX2_divideTwiceBy cX2_divideTwiceBy 12 (some .long)) 1 D (TY cB cI cC) [.ref h, .long (lN dd)] [(h, .inr (2, [.ref a, .int (nI u)])), (a, .inl (cI, N, .inl f))] (S := (Nat → Int32) × Nat) (fun r q => r = lN (dvb 4294967296 f u % (dd * dd)) ∧ q.2 ≤ u ∧ dvb 4294967296 q.1 q.2 = dvb 4294967296 f u / (dd * dd) ∧ nrm q.1 q.2) (fun q => [(h, .inr (2, [.ref a, .int (nI q.2)])), (a, .inl (cI, N, .inl q.1))]) := by
  refine ML.of (by decide) (Nat.le_of_ble_eq_true rfl) ?_
  intro p e s m below meth c ls A hC hA hP hK hD hS hl
  obtain ⟨hx, hb, hr, hml, hown, hts, hlocks, hN⟩ := id hC
  have hown : s.vm.findClass RX2 = some m.cls := hown
  have hl : lv_has ls 12 [(0, .ref h), (1, .long (lN dd))] := hl
  refine lv_lconst (v := lN 0) hx hb dX2_divideTwiceBy_0 (by decide) ?_
  refine lv_lstore_n (lv' := [(3, .long (lN 0)), (0, .ref h), (1, .long (lN dd))]) hx hb dX2_divideTwiceBy_1 rfl hl (by decide) rfl (fun ls hl => ?_)
  refine lv_lconst (v := lN 0) hx hb dX2_divideTwiceBy_2 (by decide) ?_
  refine lv_lstore (lv' := [(5, .long (lN 0)), (3, .long (lN 0)), (0, .ref h), (1, .long (lN dd))]) hx hb dX2_divideTwiceBy_3 hl (by decide) rfl (fun ls hl => ?_)
  refine lv_aload_n hx hb dX2_divideTwiceBy_5 rfl (lv_at hl 2 rfl) ?_
  refine va_get (D := D) (ci := 2) (C := RX2) (T := TX2) (N := 2) (v := .int (nI u)) hx hb hts kin_X2_w hown hK hP 0 rfl rfl 1 (by decide) (hts _ kfl_X2_21) (fun _ h9 => h9) rfl dX2_divideTwiceBy_6 ?_
  refine lv_iconst (v := nI 1) hx hb dX2_divideTwiceBy_9 (by decide) ?_
  refine lv_isub hx hb dX2_divideTwiceBy_10 ?_
  refine lv_istore (lv' := [(7, .int (nI u - nI 1)), (5, .long (lN 0)), (3, .long (lN 0)), (0, .ref h), (1, .long (lN dd))]) hx hb dX2_divideTwiceBy_11 hl (by decide) rfl (fun ls hl => ?_)
  refine dm_loop (nL := 12) (head := 13) (P := fun (x : Nat × Nat × Nat × (Nat → Int32)) => x.1 ≤ u ∧ x.2.1 = hib 4294967296 f u x.1 % dd ∧ x.2.2.1 = hib 4294967296 f u x.1 / dd % dd ∧ hib 4294967296 x.2.2.2 u x.1 = hib 4294967296 f u x.1 / dd / dd ∧ ∀ j, j < x.1 → x.2.2.2 j = f j) (w := fun x => [(h, .inr (2, [.ref a, .int (nI u)])), (a, .inl (cI, N, .inl x.2.2.2))]) (lv := fun x => [(7, .int (nI x.1 - nI 1)), (5, .long (lN x.2.2.1)), (3, .long (lN x.2.1)), (0, .ref h), (1, .long (lN dd))]) (μ := fun x => x.1) ?_ (u, 0, 0, f) ⟨Nat.le_refl _, by show 0 = _ % _; rw [hib_n]; simp, by show 0 = _ / _ % _; rw [hib_n]; simp, by show hib _ f u u = _; rw [hib_n]; simp, fun _ _ => rfl⟩ hP hD hS hl
  rintro ⟨k, a1, a2, g⟩ H locs ls ⟨hk, ha1, ha2, hg, hlo⟩ hP hD hS hl ih
  dsimp only at hk ha1 ha2 hg hlo
  have hP : va_P D vwCl [(h, .inr (2, [.ref a, .int (nI u)])), (a, .inl (cI, N, .inl g))] H := hP
  have hl : lv_has ls 12 [(7, .int (nI k - nI 1)), (5, .long (lN a2)), (3, .long (lN a1)), (0, .ref h), (1, .long (lN dd))] := hl
  have hl1 : a1 < dd := by rw [ha1]; exact Nat.mod_lt _ hd1
  have hl2 : a2 < dd := by rw [ha2]; exact Nat.mod_lt _ hd1
  rcases Nat.eq_zero_or_pos k with hk0 | hk0
  · subst hk0
    refine lv_iload hx hb dX2_divideTwiceBy_13 (lv_at hl 0 rfl) ?_
    refine lv_if_lt (tgt := 92) hx hb dX2_divideTwiceBy_15 (by decide) (fun hc => ?_) (fun hc => ?_)
    · refine lv_aload_n hx hb dX2_divideTwiceBy_92 rfl (lv_at hl 3 rfl) ?_
      refine dm_gov (wr := []) (dm_rV (n := 0) (As := []) (rest := []) hC hl (c_X2_dropZeros l D cB cI cC 4294967296 h a N u g hu hNb H.size) kco_X2_dropZeros ki_X2 kim_X2_dropZeros kse_X2_dropZeros kml_X2_68 (by decide +kernel) ⟨Nat.le_of_ble_eq_true rfl, Nat.le_of_ble_eq_true rfl⟩ rfl rfl ⟨dm_blind, va_recv hK hP (ci := 2) (q0 := 0) rfl rfl, dm_preU hK hP hD hC.2.2.2.2.2.2.2 [0, 1] (by decide) rfl⟩ rfl rfl (Nat.le_of_ble_eq_true rfl) dX2_divideTwiceBy_93 ⟨Nat.le_of_ble_eq_true rfl, Nat.le_of_ble_eq_true rfl⟩) hP hD hS hA [0, 1] [] rfl rfl (by decide) (by decide) (fun u2 H locs hw hP hD hS => ?_)
      have hP : va_P D vwCl [(h, .inr (2, [.ref a, .int (nI u2)])), (a, .inl (cI, N, .inl g))] H := hP
      have hD : va_D A [(h, .inr (2, [.ref a, .int (nI u2)])), (a, .inl (cI, N, .inl g))] := hD
      refine lv_lload hx hb dX2_divideTwiceBy_96 (lv_at hl 1 rfl) ?_
      refine lv_lload_n hx hb dX2_divideTwiceBy_98 rfl (lv_at hl 4 rfl) ?_
      refine lv_lmul hx hb dX2_divideTwiceBy_99 ?_
      refine dm_tl (y := lN (a2 * dd)) (lN_mul _ _) ?_
      refine lv_lload_n hx hb dX2_divideTwiceBy_100 rfl (lv_at hl 2 rfl) ?_
      refine lv_ladd hx hb dX2_divideTwiceBy_101 ?_
      refine dm_tl (y := lN (a2 * dd + a1)) (lN_add _ _) ?_
      rw [hib_0] at ha1 ha2 hg
      rw [hib_0] at hg
      refine dm_lret hC hK (g, u2) ⟨?_, hw.1, ?_, hw.2.2⟩ hP hD hS dX2_divideTwiceBy_102
      · rw [Nat.mod_mul, ← ha1, ← ha2, Nat.mul_comm, Nat.add_comm]
      · show dvb _ g u2 = _
        rw [hw.2.1, hg, Nat.div_div_eq_div_mul]
    · exact absurd (by decide) hc
  · obtain ⟨j, rfl⟩ : ∃ j, k = j + 1 := ⟨k - 1, by omega⟩
    have hl : lv_has ls 12 [(7, .int (nI j)), (5, .long (lN a2)), (3, .long (lN a1)), (0, .ref h), (1, .long (lN dd))] := by rw [show nI j = nI (j + 1) - nI 1 from (nI_pred j).symm]; exact hl
    refine lv_iload hx hb dX2_divideTwiceBy_13 (lv_at hl 0 rfl) ?_
    refine dm_if_lt (tgt := 92) hx hb (by omega) dX2_divideTwiceBy_15 (by decide) (fun hc => ?_) (fun hc => ?_)
    · exact hc.elim
    · refine lv_lload_n hx hb dX2_divideTwiceBy_18 rfl (lv_at hl 2 rfl) ?_
      refine lv_bipush (v := nI 32) hx hb dX2_divideTwiceBy_19 (by decide) ?_
      refine lv_lshl (v := lN (a1 * 4294967296)) hx hb dX2_divideTwiceBy_21 (wb_shl a1 (k := 32) (by decide)) ?_
      refine lv_aload_n hx hb dX2_divideTwiceBy_22 rfl (lv_at hl 3 rfl) ?_
      refine va_get (D := D) (ci := 2) (C := RX2) (T := TX2) (N := 2) (v := .ref a) hx hb hts kin_X2_w hown hK hP 0 rfl rfl 0 (by decide) (hts _ kfl_X2_15) (fun _ h9 => h9) rfl dX2_divideTwiceBy_23 ?_
      refine lv_iload hx hb dX2_divideTwiceBy_26 (lv_at hl 0 rfl) ?_
      refine dm_iald (j := j) hx hb hK hP 1 1 rfl rfl (by omega) hNb dX2_divideTwiceBy_28 ?_
      refine dm_ti (y := f j) (hlo j (Nat.lt_succ_self j)) ?_
      have hw := un_lt (f j)
      obtain ⟨P1, hP1⟩ : ∃ P, P = a1 * 4294967296 + un (f j) := ⟨_, rfl⟩
      have hp1 : P1 < dd * 4294967296 := by
        have h8 : (a1 + 1) * 4294967296 ≤ dd * 4294967296 := Nat.mul_le_mul_right _ hl1
        omega
      refine lv_i2l (v := (f j : Int32).toInt64) hx hb dX2_divideTwiceBy_29 (rfl) ?_
      refine lv_ldc2 (v := 4294967295) hx hb hown (hts _ kct_X2_34) dX2_divideTwiceBy_30 ?_
      refine lv_land hx hb dX2_divideTwiceBy_33 ?_
      refine dm_tl (y := lN (un (f j))) (wl_un (f j)) ?_
      refine lv_lor hx hb dX2_divideTwiceBy_34 ?_
      refine dm_tl (y := lN P1) (by rw [hP1]; exact g_or (k := 32) (by decide) hw (by omega)) ?_
      refine lv_lstore (lv' := [(8, .long (lN P1)), (7, .int (nI j)), (5, .long (lN a2)), (3, .long (lN a1)), (0, .ref h), (1, .long (lN dd))]) hx hb dX2_divideTwiceBy_35 hl (by decide) rfl (fun ls hl => ?_)
      refine lv_lload hx hb dX2_divideTwiceBy_37 (lv_at hl 0 rfl) ?_
      refine lv_lload_n hx hb dX2_divideTwiceBy_39 rfl (lv_at hl 5 rfl) ?_
      have hq1 : P1 / dd < 4294967296 := Nat.div_lt_of_lt_mul hp1
      have hm1 : P1 / dd * dd ≤ P1 := Nat.div_mul_le_self _ _
      have hr1 : P1 - P1 / dd * dd = P1 % dd := by have h8 := Nat.div_add_mod P1 dd; rw [Nat.mul_comm] at h8; omega
      have hds : hib 4294967296 f u j / dd = hib 4294967296 f u (j + 1) / dd * 4294967296 + P1 / dd ∧ hib 4294967296 f u j % dd = P1 % dd := by rw [hib_step (show j < u by omega), hP1, ha1]; exact div_step _ _ _ _ hd1
      obtain ⟨P2, hP2⟩ : ∃ P, P = a2 * 4294967296 + P1 / dd := ⟨_, rfl⟩
      have hp2 : P2 < dd * 4294967296 := by
        have h8 : (a2 + 1) * 4294967296 ≤ dd * 4294967296 := Nat.mul_le_mul_right _ hl2
        omega
      refine lv_ldiv hx hb dX2_divideTwiceBy_40 (fun e0 => by have := (pk_lEQ (b := 0) (by omega) (by decide)).mp e0; omega) ?_
      refine dm_tl (y := lN (P1 / dd)) (pk_lDiv (by omega) hd1 (by omega)) ?_
      refine lv_lstore (lv' := [(10, .long (lN (P1 / dd))), (8, .long (lN P1)), (7, .int (nI j)), (5, .long (lN a2)), (3, .long (lN a1)), (0, .ref h), (1, .long (lN dd))]) hx hb dX2_divideTwiceBy_41 hl (by decide) rfl (fun ls hl => ?_)
      refine lv_lload hx hb dX2_divideTwiceBy_43 (lv_at hl 1 rfl) ?_
      refine lv_lload hx hb dX2_divideTwiceBy_45 (lv_at hl 0 rfl) ?_
      refine lv_lload_n hx hb dX2_divideTwiceBy_47 rfl (lv_at hl 6 rfl) ?_
      refine lv_lmul hx hb dX2_divideTwiceBy_48 ?_
      refine dm_tl (y := lN (P1 / dd * dd)) (lN_mul _ _) ?_
      refine lv_lsub hx hb dX2_divideTwiceBy_49 ?_
      refine dm_tl (y := lN (P1 % dd)) (by rw [lN_sub hm1, hr1]) ?_
      refine lv_lstore_n (lv' := [(3, .long (lN (P1 % dd))), (10, .long (lN (P1 / dd))), (8, .long (lN P1)), (7, .int (nI j)), (5, .long (lN a2)), (0, .ref h), (1, .long (lN dd))]) hx hb dX2_divideTwiceBy_50 rfl hl (by decide) rfl (fun ls hl => ?_)
      refine lv_lload hx hb dX2_divideTwiceBy_51 (lv_at hl 4 rfl) ?_
      refine lv_bipush (v := nI 32) hx hb dX2_divideTwiceBy_53 (by decide) ?_
      refine lv_lshl (v := lN (a2 * 4294967296)) hx hb dX2_divideTwiceBy_55 (wb_shl a2 (k := 32) (by decide)) ?_
      refine lv_lload hx hb dX2_divideTwiceBy_56 (lv_at hl 1 rfl) ?_
      refine lv_lor hx hb dX2_divideTwiceBy_58 ?_
      refine dm_tl (y := lN P2) (by rw [hP2]; exact g_or (k := 32) (by decide) hq1 (by omega)) ?_
      refine lv_lstore (lv' := [(8, .long (lN P2)), (3, .long (lN (P1 % dd))), (10, .long (lN (P1 / dd))), (7, .int (nI j)), (5, .long (lN a2)), (0, .ref h), (1, .long (lN dd))]) hx hb dX2_divideTwiceBy_59 hl (by decide) rfl (fun ls hl => ?_)
      refine lv_lload hx hb dX2_divideTwiceBy_61 (lv_at hl 0 rfl) ?_
      refine lv_lload_n hx hb dX2_divideTwiceBy_63 rfl (lv_at hl 6 rfl) ?_
      have hq2 : P2 / dd < 4294967296 := Nat.div_lt_of_lt_mul hp2
      have hm2 : P2 / dd * dd ≤ P2 := Nat.div_mul_le_self _ _
      have hr2 : P2 - P2 / dd * dd = P2 % dd := by have h8 := Nat.div_add_mod P2 dd; rw [Nat.mul_comm] at h8; omega
      have hds2 : hib 4294967296 f u j / dd / dd = hib 4294967296 g u (j + 1) * 4294967296 + P2 / dd ∧ hib 4294967296 f u j / dd % dd = P2 % dd := by rw [hds.1, hP2, ha2, hg]; exact div_step _ _ _ _ hd1
      refine lv_ldiv hx hb dX2_divideTwiceBy_64 (fun e0 => by have := (pk_lEQ (b := 0) (by omega) (by decide)).mp e0; omega) ?_
      refine dm_tl (y := lN (P2 / dd)) (pk_lDiv (by omega) hd1 (by omega)) ?_
      refine lv_lstore (lv' := [(10, .long (lN (P2 / dd))), (8, .long (lN P2)), (3, .long (lN (P1 % dd))), (7, .int (nI j)), (5, .long (lN a2)), (0, .ref h), (1, .long (lN dd))]) hx hb dX2_divideTwiceBy_65 hl (by decide) rfl (fun ls hl => ?_)
      refine lv_lload hx hb dX2_divideTwiceBy_67 (lv_at hl 1 rfl) ?_
      refine lv_lload hx hb dX2_divideTwiceBy_69 (lv_at hl 0 rfl) ?_
      refine lv_lload_n hx hb dX2_divideTwiceBy_71 rfl (lv_at hl 6 rfl) ?_
      refine lv_lmul hx hb dX2_divideTwiceBy_72 ?_
      refine dm_tl (y := lN (P2 / dd * dd)) (lN_mul _ _) ?_
      refine lv_lsub hx hb dX2_divideTwiceBy_73 ?_
      refine dm_tl (y := lN (P2 % dd)) (by rw [lN_sub hm2, hr2]) ?_
      refine lv_lstore (lv' := [(5, .long (lN (P2 % dd))), (10, .long (lN (P2 / dd))), (8, .long (lN P2)), (3, .long (lN (P1 % dd))), (7, .int (nI j)), (0, .ref h), (1, .long (lN dd))]) hx hb dX2_divideTwiceBy_74 hl (by decide) rfl (fun ls hl => ?_)
      refine lv_aload_n hx hb dX2_divideTwiceBy_76 rfl (lv_at hl 5 rfl) ?_
      refine va_get (D := D) (ci := 2) (C := RX2) (T := TX2) (N := 2) (v := .ref a) hx hb hts kin_X2_w hown hK hP 0 rfl rfl 0 (by decide) (hts _ kfl_X2_15) (fun _ h9 => h9) rfl dX2_divideTwiceBy_77 ?_
      refine lv_iload hx hb dX2_divideTwiceBy_80 (lv_at hl 4 rfl) ?_
      refine lv_lload hx hb dX2_divideTwiceBy_82 (lv_at hl 1 rfl) ?_
      refine lv_l2i (v := nI (P2 / dd)) hx hb dX2_divideTwiceBy_84 (lN_low) ?_
      refine dm_iast (j := j) (f' := upd g j (nI (P2 / dd))) hx hb hK hP hD hS 1 1 rfl rfl (by omega) hNb (rfl) dX2_divideTwiceBy_85 (fun H locs hP hD hS => ?_)
      have hP : va_P D vwCl [(h, .inr (2, [.ref a, .int (nI u)])), (a, .inl (cI, N, .inl (upd g j (nI (P2 / dd)))))] H := hP
      have hD : va_D A [(h, .inr (2, [.ref a, .int (nI u)])), (a, .inl (cI, N, .inl (upd g j (nI (P2 / dd)))))] := hD
      refine lv_iinc (v := (nI j - nI 1)) (lv' := [(7, .int (nI j - nI 1)), (5, .long (lN (P2 % dd))), (10, .long (lN (P2 / dd))), (8, .long (lN P2)), (3, .long (lN (P1 % dd))), (0, .ref h), (1, .long (lN dd))]) hx hb dX2_divideTwiceBy_86 hl (k := 4) rfl (i_dec _) (by decide) rfl (fun ls hl => ?_)
      refine lv_goto (tgt := 13) hx hb dX2_divideTwiceBy_89 (by decide) ?_
      refine ih (j, P1 % dd, P2 % dd, upd g j (nI (P2 / dd))) H locs ls (Nat.lt_succ_self j) ⟨by show j ≤ u; omega, hds.2.symm, hds2.2.symm, ?_, fun i hi => ?_⟩ hP hD hS (lv_sub hl [0, 1, 4, 5, 6] rfl)
      · show hib _ (upd g j _) u j = _
        rw [hib_step (show j < u by omega), pk_us, un_nI hq2, hib_congr (g := g) (fun i h1 h2 => pk_un (by omega)), hds2.1]
      · show upd g j _ i = f i
        have hi : i < j := hi
        rw [pk_un (by omega)]
        exact hlo i (by omega)
end
section
theorem dvb_shift2 {f g : Nat → Int32} {u x : Nat} (hx : x < 18446744073709551616) (h0 : g 0 = nI x) (h1 : g 1 = nI (x / 4294967296)) (h : ∀ j, j < u → g (j + 2) = f j) : dvb 4294967296 g (u + 2) = dvb 4294967296 f u * 18446744073709551616 + x := by
  rw [show u + 2 = (u + 1) + 1 from rfl, dvb_low, dvb_low, h0]
  have e1 : g (0 + 1) = nI (x / 4294967296) := h1
  rw [e1, un_mod, un_mod]
  have e2 : dvb 4294967296 (fun j => g (j + 1 + 1)) u = dvb 4294967296 f u := dvb_congr (fun j hj => h j hj)
  rw [e2]
  omega
theorem wl_shl (x : Int32) : x.toInt64 <<< ((32 : Int32).toInt64 &&& 63) = lN (un x * 4294967296) := by
  obtain ⟨n, hn, hx⟩ := wb_of x.toInt64
  have h1 := wl_un x
  rw [hx] at h1 ⊢
  have h2 : lN n &&& 4294967295 = lN (n % 2 ^ 32) := wb_mask (k := 32) hn (by decide)
  rw [h2] at h1
  have h3 : n % 2 ^ 32 = un x := by
    have h4 := congrArg (fun z => Int64.toBitVec z |>.toNat) h1
    have h5 := un_lt x
    rw [wb_tn (by omega), wb_tn (by omega)] at h4
    exact h4
  have h6 : lN n <<< ((32 : Int32).toInt64 &&& 63) = lN (n * 2 ^ 32) := wb_shl n (k := 32) (by decide)
  rw [h6, wb_mod, ← h3]
  congr 1
  omega
theorem dvb_two {f : Nat → Int32} {u : Nat} (hu : u ≤ 2) : un (wAt f u (nI 1)) * 4294967296 + un (wAt f u (nI 0)) = dvb 4294967296 f u := by
  rcases (show u = 0 ∨ u = 1 ∨ u = 2 by omega) with rfl | rfl | rfl
  · rw [wAt_ge (by decide) (by decide), wAt_ge (by decide) (by decide), un_0]; rfl
  · rw [wAt_ge (by decide) (by decide), wAt_in (by decide) (by decide), un_0]; simp [dvb]
  · rw [wAt_in (by decide) (by decide), wAt_in (by decide) (by decide)]; simp [dvb]; omega

set_option maxRecDepth 100000 in
set_option maxHeartbeats 4000000 in
theorem c_X2_appendLong (l : Launch) (D : va_G) (cB cI cC : ClassId) (h a N u x : Nat) (f : Nat → Int32) (hu : u ≤ N) (hN2 : 2 ≤ N) (hNb : N < 2 ^ 31) (hx8 : x < 18446744073709551616) : MI l yX2_appendLong (Cond.code yX2_appendLong cX2_appendLong 3 (some .boolean)) 1 D (TY cB cI cC) [.ref h, .long (lN x)] [(h, .inr (2, [.ref a, .int (nI u)])), (a, .inl (cI, N, .inl f))] (S := (Nat → Int32) × Nat) (fun r q => (u + 2 ≤ N → r = 1 ∧ q.2 ≤ N ∧ dvb 4294967296 q.1 q.2 = dvb 4294967296 f u * 18446744073709551616 + x ∧ nrm q.1 q.2) ∧ (N < u + 2 → r = 0 ∧ q = (f, u))) (fun q => [(h, .inr (2, [.ref a, .int (nI q.2)])), (a, .inl (cI, N, .inl q.1))]) := by
  refine MI.of (by decide) (Nat.le_of_ble_eq_true rfl) ?_
  intro p e s m below meth c ls A hC hA hP hK hD hS hl
  obtain ⟨hx, hb, hr, hml, hown, hts, hlocks, hN⟩ := id hC
  have hown : s.vm.findClass RX2 = some m.cls := hown
  have hl : lv_has ls 3 [(0, .ref h), (1, .long (lN x))] := hl
  refine lv_aload_n hx hb dX2_appendLong_0 rfl (lv_at hl 0 rfl) ?_
  refine va_get (D := D) (ci := 2) (C := RX2) (T := TX2) (N := 2) (v := .int (nI u)) hx hb hts kin_X2_w hown hK hP 0 rfl rfl 1 (by decide) (hts _ kfl_X2_21) (fun _ h9 => h9) rfl dX2_appendLong_1 ?_
  refine lv_aload_n hx hb dX2_appendLong_4 rfl (lv_at hl 0 rfl) ?_
  refine va_get (D := D) (ci := 2) (C := RX2) (T := TX2) (N := 2) (v := .ref a) hx hb hts kin_X2_w hown hK hP 0 rfl rfl 0 (by decide) (hts _ kfl_X2_15) (fun _ h9 => h9) rfl dX2_appendLong_5 ?_
  refine va_alen (v := nI N) hx hb hK hP 1 1 rfl rfl rfl dX2_appendLong_8 ?_
  refine lv_iconst (v := nI 2) hx hb dX2_appendLong_9 (by decide) ?_
  refine lv_isub hx hb dX2_appendLong_10 ?_
  refine dm_ti (y := nI (N - 2)) (pk_sub hN2) ?_
  refine dm_icmp_le (tgt := 16) hx hb (by omega) (by omega) dX2_appendLong_11 (by decide) (fun hc => ?_) (fun hc => ?_)
  · refine lv_aload_n hx hb dX2_appendLong_16 rfl (lv_at hl 0 rfl) ?_
    refine va_get (D := D) (ci := 2) (C := RX2) (T := TX2) (N := 2) (v := .ref a) hx hb hts kin_X2_w hown hK hP 0 rfl rfl 0 (by decide) (hts _ kfl_X2_15) (fun _ h9 => h9) rfl dX2_appendLong_17 ?_
    refine lv_iconst (v := nI 0) hx hb dX2_appendLong_20 (by decide) ?_
    refine lv_aload_n hx hb dX2_appendLong_21 rfl (lv_at hl 0 rfl) ?_
    refine va_get (D := D) (ci := 2) (C := RX2) (T := TX2) (N := 2) (v := .ref a) hx hb hts kin_X2_w hown hK hP 0 rfl rfl 0 (by decide) (hts _ kfl_X2_15) (fun _ h9 => h9) rfl dX2_appendLong_22 ?_
    refine lv_iconst (v := nI 2) hx hb dX2_appendLong_25 (by decide) ?_
    refine lv_aload_n hx hb dX2_appendLong_26 rfl (lv_at hl 0 rfl) ?_
    refine va_get (D := D) (ci := 2) (C := RX2) (T := TX2) (N := 2) (v := .int (nI u)) hx hb hts kin_X2_w hown hK hP 0 rfl rfl 1 (by decide) (hts _ kfl_X2_21) (fun _ h9 => h9) rfl dX2_appendLong_27 ?_
    refine dm_copyi (sp := 0) (dp := 2) (n := u) hC hl (hts _ kml_X2_43) hK hP hD hS 1 1 1 1 rfl rfl rfl rfl (by omega) (by omega) hNb hNb ⟨Nat.le_of_ble_eq_true rfl, Nat.le_of_ble_eq_true rfl⟩ dX2_appendLong_30 (fun H locs hP hD hS => ?_)
    have hP : va_P D vwCl [(h, .inr (2, [.ref a, .int (nI u)])), (a, .inl (cI, N, .inl (va_cpy f f 0 2 u)))] H := hP
    have hD : va_D A [(h, .inr (2, [.ref a, .int (nI u)])), (a, .inl (cI, N, .inl (va_cpy f f 0 2 u)))] := hD
    refine lv_aload_n hx hb dX2_appendLong_33 rfl (lv_at hl 0 rfl) ?_
    refine va_get (D := D) (ci := 2) (C := RX2) (T := TX2) (N := 2) (v := .ref a) hx hb hts kin_X2_w hown hK hP 0 rfl rfl 0 (by decide) (hts _ kfl_X2_15) (fun _ h9 => h9) rfl dX2_appendLong_34 ?_
    refine lv_iconst (v := nI 0) hx hb dX2_appendLong_37 (by decide) ?_
    refine lv_lload_n hx hb dX2_appendLong_38 rfl (lv_at hl 1 rfl) ?_
    refine lv_l2i (v := nI x) hx hb dX2_appendLong_39 (lN_low) ?_
    refine dm_iast (j := 0) (f' := upd (va_cpy f f 0 2 u) 0 (nI x)) hx hb hK hP hD hS 1 1 rfl rfl (by omega) hNb (rfl) dX2_appendLong_40 (fun H locs hP hD hS => ?_)
    have hP : va_P D vwCl [(h, .inr (2, [.ref a, .int (nI u)])), (a, .inl (cI, N, .inl (upd (va_cpy f f 0 2 u) 0 (nI x))))] H := hP
    have hD : va_D A [(h, .inr (2, [.ref a, .int (nI u)])), (a, .inl (cI, N, .inl (upd (va_cpy f f 0 2 u) 0 (nI x))))] := hD
    refine lv_aload_n hx hb dX2_appendLong_41 rfl (lv_at hl 0 rfl) ?_
    refine va_get (D := D) (ci := 2) (C := RX2) (T := TX2) (N := 2) (v := .ref a) hx hb hts kin_X2_w hown hK hP 0 rfl rfl 0 (by decide) (hts _ kfl_X2_15) (fun _ h9 => h9) rfl dX2_appendLong_42 ?_
    refine lv_iconst (v := nI 1) hx hb dX2_appendLong_45 (by decide) ?_
    refine lv_lload_n hx hb dX2_appendLong_46 rfl (lv_at hl 1 rfl) ?_
    refine lv_bipush (v := nI 32) hx hb dX2_appendLong_47 (by decide) ?_
    refine lv_lushr (v := lN (x / 4294967296)) hx hb dX2_appendLong_49 (wl_hi hx8) ?_
    refine lv_l2i (v := nI (x / 4294967296)) hx hb dX2_appendLong_50 (lN_low) ?_
    refine dm_iast (j := 1) (f' := upd (upd (va_cpy f f 0 2 u) 0 (nI x)) 1 (nI (x / 4294967296))) hx hb hK hP hD hS 1 1 rfl rfl (by omega) hNb (rfl) dX2_appendLong_51 (fun H locs hP hD hS => ?_)
    have hP : va_P D vwCl [(h, .inr (2, [.ref a, .int (nI u)])), (a, .inl (cI, N, .inl (upd (upd (va_cpy f f 0 2 u) 0 (nI x)) 1 (nI (x / 4294967296)))))] H := hP
    have hD : va_D A [(h, .inr (2, [.ref a, .int (nI u)])), (a, .inl (cI, N, .inl (upd (upd (va_cpy f f 0 2 u) 0 (nI x)) 1 (nI (x / 4294967296)))))] := hD
    refine lv_aload_n hx hb dX2_appendLong_52 rfl (lv_at hl 0 rfl) ?_
    refine lv_dup hx hb dX2_appendLong_53 rfl ?_
    refine va_get (D := D) (ci := 2) (C := RX2) (T := TX2) (N := 2) (v := .int (nI u)) hx hb hts kin_X2_w hown hK hP 0 rfl rfl 1 (by decide) (hts _ kfl_X2_21) (fun _ h9 => h9) rfl dX2_appendLong_54 ?_
    refine lv_iconst (v := nI 2) hx hb dX2_appendLong_57 (by decide) ?_
    refine lv_iadd hx hb dX2_appendLong_58 ?_
    refine dm_ti (y := nI (u + 2)) (nI_add u 2) ?_
    refine va_put (D := D) (ci := 2) (v := .int (nI (u + 2))) (ty := .int) (C := RX2) (T := TX2) (N := 2) hx hb hts kin_X2_w tyX2 tyX2_ok nmX2 hown hK hP hD hS 0 rfl rfl 1 (by decide) (hts _ kfl_X2_21) (fun _ h9 => h9) rfl (by decide +kernel) rfl rfl (Nat.le_of_ble_eq_true rfl) dX2_appendLong_59 (fun H locs hP hD hS => ?_)
    have hP : va_P D vwCl [(h, .inr (2, [.ref a, .int (nI (u + 2))])), (a, .inl (cI, N, .inl (upd (upd (va_cpy f f 0 2 u) 0 (nI x)) 1 (nI (x / 4294967296)))))] H := hP
    have hD : va_D A [(h, .inr (2, [.ref a, .int (nI (u + 2))])), (a, .inl (cI, N, .inl (upd (upd (va_cpy f f 0 2 u) 0 (nI x)) 1 (nI (x / 4294967296)))))] := hD
    refine lv_aload_n hx hb dX2_appendLong_62 rfl (lv_at hl 0 rfl) ?_
    have hv : dvb 4294967296 (upd (upd (va_cpy f f 0 2 u) 0 (nI x)) 1 (nI (x / 4294967296))) (u + 2) = dvb 4294967296 f u * 18446744073709551616 + x := by
      refine dvb_shift2 hx8 ?_ ?_ ?_
      · rw [pk_un (by decide), pk_us]
      · rw [pk_us]
      · intro j hj
        rw [pk_un (by omega), pk_un (by omega), pk_cpy_in (by omega) (by omega)]
        congr 1
        omega
    refine dm_gov (wr := []) (dm_rV (n := 0) (As := []) (rest := []) hC hl (c_X2_dropZeros l D cB cI cC 4294967296 h a N (u + 2) (upd (upd (va_cpy f f 0 2 u) 0 (nI x)) 1 (nI (x / 4294967296))) (by omega) hNb H.size) kco_X2_dropZeros ki_X2 kim_X2_dropZeros kse_X2_dropZeros kml_X2_68 (by decide +kernel) ⟨Nat.le_of_ble_eq_true rfl, Nat.le_of_ble_eq_true rfl⟩ rfl rfl ⟨dm_blind, va_recv hK hP (ci := 2) (q0 := 0) rfl rfl, dm_preU hK hP hD hC.2.2.2.2.2.2.2 [0, 1] (by decide) rfl⟩ rfl rfl (Nat.le_of_ble_eq_true rfl) dX2_appendLong_63 ⟨Nat.le_of_ble_eq_true rfl, Nat.le_of_ble_eq_true rfl⟩) hP hD hS hA [0, 1] [] rfl rfl (by decide) (by decide) (fun u2 H locs hw hP hD hS => ?_)
    have hP : va_P D vwCl [(h, .inr (2, [.ref a, .int (nI u2)])), (a, .inl (cI, N, .inl (upd (upd (va_cpy f f 0 2 u) 0 (nI x)) 1 (nI (x / 4294967296)))))] H := hP
    have hD : va_D A [(h, .inr (2, [.ref a, .int (nI u2)])), (a, .inl (cI, N, .inl (upd (upd (va_cpy f f 0 2 u) 0 (nI x)) 1 (nI (x / 4294967296)))))] := hD
    refine lv_iconst (v := nI 1) hx hb dX2_appendLong_66 (by decide) ?_
    refine dm_zret (v := nI 1) hC (Or.inr rfl) hK (upd (upd (va_cpy f f 0 2 u) 0 (nI x)) 1 (nI (x / 4294967296)), u2) ⟨fun _ => ⟨rfl, by show u2 ≤ N; omega, by show dvb _ _ u2 = _; rw [hw.2.1]; exact hv, hw.2.2⟩, fun h9 => absurd h9 (by omega)⟩ hP hD hS dX2_appendLong_67
  · refine lv_iconst (v := nI 0) hx hb dX2_appendLong_14 (by decide) ?_
    exact dm_zret (v := nI 0) hC (Or.inl rfl) hK (f, u) ⟨fun h9 => absurd h9 (by omega), fun _ => ⟨rfl, rfl⟩⟩ hP hD hS dX2_appendLong_15

set_option maxRecDepth 100000 in
set_option maxHeartbeats 4000000 in
theorem c_X2_becomeLong (l : Launch) (D : va_G) (cB cI cC : ClassId) (h a N u x : Nat) (f : Nat → Int32) (hN2 : 2 ≤ N) (hNb : N < 2 ^ 31) (hx8 : x < 18446744073709551616) : MV l yX2_becomeLong (Cond.code yX2_becomeLong cX2_becomeLong 3 none) 2 D (TY cB cI cC) [.ref h, .long (lN x)] [(h, .inr (2, [.ref a, .int (nI u)])), (a, .inl (cI, N, .inl f))] (S := (Nat → Int32) × Nat) (fun q => q.2 ≤ N ∧ dvb 4294967296 q.1 q.2 = x ∧ nrm q.1 q.2) (fun q => [(h, .inr (2, [.ref a, .int (nI q.2)])), (a, .inl (cI, N, .inl q.1))]) := by
  refine MV.of (by decide) (Nat.le_of_ble_eq_true rfl) ?_
  intro p e s m below meth c ls A hC hA hP hK hD hS hl
  obtain ⟨hx, hb, hr, hml, hown, hts, hlocks, hN⟩ := id hC
  have hown : s.vm.findClass RX2 = some m.cls := hown
  have hl : lv_has ls 3 [(0, .ref h), (1, .long (lN x))] := hl
  refine lv_aload_n hx hb dX2_becomeLong_0 rfl (lv_at hl 0 rfl) ?_
  refine lv_iconst (v := nI 0) hx hb dX2_becomeLong_1 (by decide) ?_
  refine va_put (D := D) (ci := 2) (v := .int (nI 0)) (ty := .int) (C := RX2) (T := TX2) (N := 2) hx hb hts kin_X2_w tyX2 tyX2_ok nmX2 hown hK hP hD hS 0 rfl rfl 1 (by decide) (hts _ kfl_X2_21) (fun _ h9 => h9) rfl (by decide +kernel) rfl rfl (Nat.le_of_ble_eq_true rfl) dX2_becomeLong_2 (fun H locs hP hD hS => ?_)
  have hP : va_P D vwCl [(h, .inr (2, [.ref a, .int (nI 0)])), (a, .inl (cI, N, .inl f))] H := hP
  have hD : va_D A [(h, .inr (2, [.ref a, .int (nI 0)])), (a, .inl (cI, N, .inl f))] := hD
  refine lv_aload_n hx hb dX2_becomeLong_5 rfl (lv_at hl 0 rfl) ?_
  refine lv_lload_n hx hb dX2_becomeLong_6 rfl (lv_at hl 1 rfl) ?_
  refine dm_goi (wr := []) (dm_rV (n := 1) (As := [.long (lN x)]) (rest := []) hC hl (c_X2_appendLong l D cB cI cC h a N 0 x f (by omega) hN2 hNb hx8 H.size) kco_X2_appendLong ki_X2 kim_X2_appendLong kse_X2_appendLong kml_X2_36 (by decide +kernel) ⟨Nat.le_of_ble_eq_true rfl, Nat.le_of_ble_eq_true rfl⟩ rfl rfl ⟨dm_blind, va_recv hK hP (ci := 2) (q0 := 0) rfl rfl, dm_preU hK hP hD hC.2.2.2.2.2.2.2 [0, 1] (by decide) rfl⟩ rfl rfl (Nat.le_of_ble_eq_true rfl) dX2_becomeLong_7 ⟨Nat.le_of_ble_eq_true rfl, Nat.le_of_ble_eq_true rfl⟩) hP hD hS hA [0, 1] [] rfl rfl (by decide) (by decide) (fun r q H locs hw hP hD hS => ?_)
  obtain ⟨g2, u2⟩ := q
  have hP : va_P D vwCl [(h, .inr (2, [.ref a, .int (nI u2)])), (a, .inl (cI, N, .inl g2))] H := hP
  have hD : va_D A [(h, .inr (2, [.ref a, .int (nI u2)])), (a, .inl (cI, N, .inl g2))] := hD
  have hw := hw.1 (by omega)
  refine lv_pop hx hb dX2_becomeLong_10 rfl ?_
  refine dm_vret hC hK (g2, u2) ⟨hw.2.1, by rw [hw.2.2.1]; simp [dvb], hw.2.2.2⟩ hP hD hS dX2_becomeLong_11

set_option maxRecDepth 100000 in
set_option maxHeartbeats 4000000 in
theorem c_X2_becomeCopyOf (l : Launch) (D : va_G) (cB cI cC : ClassId) (h a h2 a2 N u v : Nat) (f g : Nat → Int32) (hv : v ≤ N) (hNb : N < 2 ^ 31) : MV l yX2_becomeCopyOf (Cond.code yX2_becomeCopyOf cX2_becomeCopyOf 2 none) 1 D (TY cB cI cC) [.ref h, .ref h2] [(h, .inr (2, [.ref a, .int (nI u)])), (a, .inl (cI, N, .inl f)), (h2, .inr (2, [.ref a2, .int (nI v)])), (a2, .inl (cI, N, .inl g))] (S := Nat → Int32) (fun g2 => ∀ j, j < v → g2 j = g j) (fun g2 => [(h, .inr (2, [.ref a, .int (nI v)])), (a, .inl (cI, N, .inl g2)), (h2, .inr (2, [.ref a2, .int (nI v)])), (a2, .inl (cI, N, .inl g))]) := by
  refine MV.of (by decide) (Nat.le_of_ble_eq_true rfl) ?_
  intro p e s m below meth c ls A hC hA hP hK hD hS hl
  obtain ⟨hx, hb, hr, hml, hown, hts, hlocks, hN⟩ := id hC
  have hown : s.vm.findClass RX2 = some m.cls := hown
  have hl : lv_has ls 2 [(0, .ref h), (1, .ref h2)] := hl
  refine lv_aload_n hx hb dX2_becomeCopyOf_0 rfl (lv_at hl 0 rfl) ?_
  refine lv_aload_n hx hb dX2_becomeCopyOf_1 rfl (lv_at hl 1 rfl) ?_
  refine va_get (D := D) (ci := 2) (C := RX2) (T := TX2) (N := 2) (v := .int (nI v)) hx hb hts kin_X2_w hown hK hP 2 rfl rfl 1 (by decide) (hts _ kfl_X2_21) (fun _ h9 => h9) rfl dX2_becomeCopyOf_2 ?_
  refine lv_aload_n hx hb dX2_becomeCopyOf_5 rfl (lv_at hl 0 rfl) ?_
  refine va_get (D := D) (ci := 2) (C := RX2) (T := TX2) (N := 2) (v := .ref a) hx hb hts kin_X2_w hown hK hP 0 rfl rfl 0 (by decide) (hts _ kfl_X2_15) (fun _ h9 => h9) rfl dX2_becomeCopyOf_6 ?_
  refine va_alen (v := nI N) hx hb hK hP 1 1 rfl rfl rfl dX2_becomeCopyOf_9 ?_
  refine va_mmin hx hb (hml.trans hl.1.symm) hown (hts _ kml_X2_40) (hts _ kst_J9_min_7cf53) (hts _ ki_J9) (hts _ kco_J9_min_7cf53) (Nat.le_of_ble_eq_true rfl) (Nat.le_of_ble_eq_true rfl) (Nat.le_of_ble_eq_true rfl) (Nat.le_of_ble_eq_true rfl) dX2_becomeCopyOf_10 ?_
  refine dm_ti (y := nI v) (if_neg (nI_nlt hv hNb)) ?_
  refine va_put (D := D) (ci := 2) (v := .int (nI v)) (ty := .int) (C := RX2) (T := TX2) (N := 2) hx hb hts kin_X2_w tyX2 tyX2_ok nmX2 hown hK hP hD hS 0 rfl rfl 1 (by decide) (hts _ kfl_X2_21) (fun _ h9 => h9) rfl (by decide +kernel) rfl rfl (Nat.le_of_ble_eq_true rfl) dX2_becomeCopyOf_13 (fun H locs hP hD hS => ?_)
  have hP : va_P D vwCl [(h, .inr (2, [.ref a, .int (nI v)])), (a, .inl (cI, N, .inl f)), (h2, .inr (2, [.ref a2, .int (nI v)])), (a2, .inl (cI, N, .inl g))] H := hP
  have hD : va_D A [(h, .inr (2, [.ref a, .int (nI v)])), (a, .inl (cI, N, .inl f)), (h2, .inr (2, [.ref a2, .int (nI v)])), (a2, .inl (cI, N, .inl g))] := hD
  refine lv_aload_n hx hb dX2_becomeCopyOf_16 rfl (lv_at hl 1 rfl) ?_
  refine va_get (D := D) (ci := 2) (C := RX2) (T := TX2) (N := 2) (v := .ref a2) hx hb hts kin_X2_w hown hK hP 2 rfl rfl 0 (by decide) (hts _ kfl_X2_15) (fun _ h9 => h9) rfl dX2_becomeCopyOf_17 ?_
  refine lv_iconst (v := nI 0) hx hb dX2_becomeCopyOf_20 (by decide) ?_
  refine lv_aload_n hx hb dX2_becomeCopyOf_21 rfl (lv_at hl 0 rfl) ?_
  refine va_get (D := D) (ci := 2) (C := RX2) (T := TX2) (N := 2) (v := .ref a) hx hb hts kin_X2_w hown hK hP 0 rfl rfl 0 (by decide) (hts _ kfl_X2_15) (fun _ h9 => h9) rfl dX2_becomeCopyOf_22 ?_
  refine lv_iconst (v := nI 0) hx hb dX2_becomeCopyOf_25 (by decide) ?_
  refine lv_aload_n hx hb dX2_becomeCopyOf_26 rfl (lv_at hl 0 rfl) ?_
  refine va_get (D := D) (ci := 2) (C := RX2) (T := TX2) (N := 2) (v := .int (nI v)) hx hb hts kin_X2_w hown hK hP 0 rfl rfl 1 (by decide) (hts _ kfl_X2_21) (fun _ h9 => h9) rfl dX2_becomeCopyOf_27 ?_
  refine dm_copyi (sp := 0) (dp := 0) (n := v) hC hl (hts _ kml_X2_43) hK hP hD hS 3 1 1 1 rfl rfl rfl rfl (by omega) (by omega) hNb hNb ⟨Nat.le_of_ble_eq_true rfl, Nat.le_of_ble_eq_true rfl⟩ dX2_becomeCopyOf_30 (fun H locs hP hD hS => ?_)
  have hP : va_P D vwCl [(h, .inr (2, [.ref a, .int (nI v)])), (a, .inl (cI, N, .inl (va_cpy g f 0 0 v))), (h2, .inr (2, [.ref a2, .int (nI v)])), (a2, .inl (cI, N, .inl g))] H := hP
  have hD : va_D A [(h, .inr (2, [.ref a, .int (nI v)])), (a, .inl (cI, N, .inl (va_cpy g f 0 0 v))), (h2, .inr (2, [.ref a2, .int (nI v)])), (a2, .inl (cI, N, .inl g))] := hD
  exact dm_vret hC hK (va_cpy g f 0 0 v) (fun j hj => sb_cpy0 hj) hP hD hS dX2_becomeCopyOf_33

set_option maxRecDepth 100000 in
set_option maxHeartbeats 4000000 in
theorem c_X2_lowLong (l : Launch) (D : va_G) (cB cI cC : ClassId) (h a N u : Nat) (f : Nat → Int32) (hu : u ≤ N) (hu2 : u ≤ 2) (hNb : N < 2 ^ 31) : ROl l yX2_lowLong (Cond.code yX2_lowLong cX2_lowLong 1 (some .long)) 1 D (TY cB cI cC) [.ref h] [(h, .inr (2, [.ref a, .int (nI u)])), (a, .inl (cI, N, .inl f))] (fun r => r = lN (dvb 4294967296 f u)) := by
  refine ROl.of (by decide) (Nat.le_of_ble_eq_true rfl) ?_
  intro p e s m below meth c ls A hC hA hP hK hD hS hl
  obtain ⟨hx, hb, hr, hml, hown, hts, hlocks, hN⟩ := id hC
  have hown : s.vm.findClass RX2 = some m.cls := hown
  have hl : lv_has ls 1 [(0, .ref h)] := hl
  refine lv_aload_n hx hb dX2_lowLong_0 rfl (lv_at hl 0 rfl) ?_
  refine lv_iconst (v := nI 1) hx hb dX2_lowLong_1 (by decide) ?_
  refine dm_gori (dm_rV (n := 1) (As := [.int (nI 1)]) (rest := []) hC hl (c_X2_wordAt l D cB cI cC h a N u f (nI 1) hu hNb s.heap.size) kco_X2_wordAt ki_X2 kim_X2_wordAt kse_X2_wordAt kml_X2_31 (by decide +kernel) ⟨Nat.le_of_ble_eq_true rfl, Nat.le_of_ble_eq_true rfl⟩ rfl rfl ⟨dm_blind, va_recv hK hP (ci := 2) (q0 := 0) rfl rfl, dm_preU hK hP hD hC.2.2.2.2.2.2.2 [0, 1] (by decide) rfl⟩ rfl rfl (Nat.le_of_ble_eq_true rfl) dX2_lowLong_2 ⟨Nat.le_of_ble_eq_true rfl, Nat.le_of_ble_eq_true rfl⟩) (fun r1 h1 => ?_)
  subst h1
  refine lv_i2l (v := (wAt f u (nI 1) : Int32).toInt64) hx hb dX2_lowLong_5 (rfl) ?_
  refine lv_bipush (v := nI 32) hx hb dX2_lowLong_6 (by decide) ?_
  refine lv_lshl (v := lN (un (wAt f u (nI 1)) * 4294967296)) hx hb dX2_lowLong_8 (wl_shl _) ?_
  refine lv_aload_n hx hb dX2_lowLong_9 rfl (lv_at hl 0 rfl) ?_
  refine lv_iconst (v := nI 0) hx hb dX2_lowLong_10 (by decide) ?_
  refine dm_gori (dm_rV (n := 1) (As := [.int (nI 0)]) (rest := [.long (lN (un (wAt f u (nI 1)) * 4294967296))]) hC hl (c_X2_wordAt l D cB cI cC h a N u f (nI 0) hu hNb s.heap.size) kco_X2_wordAt ki_X2 kim_X2_wordAt kse_X2_wordAt kml_X2_31 (by decide +kernel) ⟨Nat.le_of_ble_eq_true rfl, Nat.le_of_ble_eq_true rfl⟩ rfl rfl ⟨dm_blind, va_recv hK hP (ci := 2) (q0 := 0) rfl rfl, dm_preU hK hP hD hC.2.2.2.2.2.2.2 [0, 1] (by decide) rfl⟩ rfl rfl (Nat.le_of_ble_eq_true rfl) dX2_lowLong_11 ⟨Nat.le_of_ble_eq_true rfl, Nat.le_of_ble_eq_true rfl⟩) (fun r0 h0 => ?_)
  subst h0
  have hb0 := un_lt (wAt f u (nI 0))
  have hb1 := un_lt (wAt f u (nI 1))
  refine lv_i2l (v := (wAt f u (nI 0) : Int32).toInt64) hx hb dX2_lowLong_14 (rfl) ?_
  refine lv_ldc2 (v := 4294967295) hx hb hown (hts _ kct_X2_34) dX2_lowLong_15 ?_
  refine lv_land hx hb dX2_lowLong_18 ?_
  refine dm_tl (y := lN (un (wAt f u (nI 0)))) (wl_un _) ?_
  refine lv_lor hx hb dX2_lowLong_19 ?_
  refine dm_tl (y := lN (un (wAt f u (nI 1)) * 4294967296 + un (wAt f u (nI 0)))) (g_or (k := 32) (by decide) hb0 (by omega)) ?_
  exact ri_lret hC (by rw [dvb_two hu2]) dX2_lowLong_20
end
section
/-! bits of a number -/
def bl (n : Nat) : Nat := if n = 0 then 0 else Nat.log2 n + 1
theorem bl_le {n k : Nat} : bl n ≤ k ↔ n < 2 ^ k := by
  unfold bl
  split
  · next h => subst h; simp [Nat.pow_pos]
  · next h => rw [Nat.succ_le_iff, Nat.log2_lt h]
theorem bl_lt (n : Nat) : n < 2 ^ bl n := bl_le.mp (Nat.le_refl _)
theorem bl_div {n s : Nat} (h : 2 ^ s ≤ n) : bl n = bl (n / 2 ^ s) + s := by
  have hp : 0 < 2 ^ s := Nat.pow_pos (by decide)
  apply Nat.le_antisymm
  · rw [bl_le, Nat.pow_add]
    exact (Nat.div_lt_iff_lt_mul hp).mp (bl_lt _)
  · have h1 := bl_lt n
    have h2 : s < bl n := (Nat.pow_lt_pow_iff_right (by decide)).mp (Nat.lt_of_le_of_lt h h1)
    have h3 : bl (n / 2 ^ s) ≤ bl n - s := by
      rw [bl_le, Nat.div_lt_iff_lt_mul hp, ← Nat.pow_add, show bl n - s + s = bl n by omega]
      exact h1
    omega
theorem bl_0 : bl 0 = 0 := rfl
theorem bl_big {n : Nat} (h : 2147483648 ≤ n) (h2 : n < 4294967296) : bl n = 32 := by
  have h3 := bl_div (s := 31) h
  have h4 : n / 2 ^ 31 = 1 := by omega
  rw [h3, h4]; rfl
theorem bl_32 {n : Nat} (h : n < 4294967296) : bl n ≤ 32 := bl_le.mpr h
theorem i_dec16 (x : Int32) : x + Int32.ofInt (-16) = x - nI 16 := by rw [Int32.sub_eq_add_neg, show -(nI 16) = Int32.ofInt (-16) by decide]
theorem i_dec8 (x : Int32) : x + Int32.ofInt (-8) = x - nI 8 := by rw [Int32.sub_eq_add_neg, show -(nI 8) = Int32.ofInt (-8) by decide]
theorem i_dec4 (x : Int32) : x + Int32.ofInt (-4) = x - nI 4 := by rw [Int32.sub_eq_add_neg, show -(nI 4) = Int32.ofInt (-4) by decide]
theorem i_dec2 (x : Int32) : x + Int32.ofInt (-2) = x - nI 2 := by rw [Int32.sub_eq_add_neg, show -(nI 2) = Int32.ofInt (-2) by decide]
theorem un_neg {x : Int32} (h : ¬ 0 < x) (h0 : ¬ x = 0) : 2147483648 ≤ un x := by
  apply Nat.le_of_not_lt
  intro h1
  apply h
  rw [← nI_un x, ← nI_0]
  exact nI_lt (Nat.pos_of_ne_zero (fun e0 => h0 (un_eq0.mp e0))) h1
theorem bl_dv {f : Nat → Int32} {k : Nat} (h : nrm f (k + 1)) : bl (dvb 4294967296 f (k + 1)) = 32 * k + bl (un (f k)) := by
  have e : (4294967296 : Nat) ^ k = 2 ^ (32 * k) := by rw [Nat.pow_mul]
  have h1 : 2 ^ (32 * k) ≤ dvb 4294967296 f (k + 1) := by rw [← e]; exact nrm_ge h
  rw [bl_div h1, ← e]
  have h2 : dvb 4294967296 f (k + 1) / 4294967296 ^ k = un (f k) := by
    show (dvb 4294967296 f k + un (f k) * 4294967296 ^ k) / _ = _
    rw [Nat.add_mul_div_right _ _ (Nat.pow_pos (by decide)), Nat.div_eq_of_lt (dv32_lt f k), Nat.zero_add]
  rw [h2]; omega

set_option maxRecDepth 100000 in
set_option maxHeartbeats 4000000 in
theorem c_J6_nlz (l : Launch) (D : va_G) (cB cI cC : ClassId) (x : Int32) : ROi l yJ6_numberOfLeadingZeros_0f7a4 (Cond.code yJ6_numberOfLeadingZeros_0f7a4 cJ6_numberOfLeadingZeros_0f7a4 2 (some .int)) 0 D (TY cB cI cC) [.int x] [] (fun r => r = nI (32 - bl (un x))) := by
  refine ROi.of (by decide) (Nat.le_of_ble_eq_true rfl) ?_
  intro p e s m below meth c ls A hC hA hP hK hD hS hl
  obtain ⟨hx, hb, hr, hml, hown, hts, hlocks, hN⟩ := id hC
  have hown : s.vm.findClass RJ6 = some m.cls := hown
  have hl : lv_has ls 2 [(0, .int x)] := hl
  refine lv_iload_n hx hb dJ6_numberOfLeadingZeros_0f7a4_0 rfl (lv_at hl 0 rfl) ?_
  refine lv_if_gt (tgt := 15) hx hb dJ6_numberOfLeadingZeros_0f7a4_1 (by decide) (fun hc => ?_) (fun hc => ?_)
  · obtain ⟨n, hn, rfl⟩ : ∃ n : Nat, n < 2 ^ 31 ∧ x = nI n := nI_of (fun h9 => by have h1 := Int32.lt_iff_toInt_lt.mp h9; have h2 := Int32.lt_iff_toInt_lt.mp hc; omega)
    have hn0 : 0 < n := Nat.pos_of_ne_zero (fun e0 => by rw [e0] at hc; exact absurd hc (by decide))
    rw [un_nI (by omega)]
    refine lv_bipush (v := nI 31) hx hb dJ6_numberOfLeadingZeros_0f7a4_15 (by decide) ?_
    refine lv_istore_n (lv' := [(1, .int (nI 31)), (0, .int (nI n))]) hx hb dJ6_numberOfLeadingZeros_0f7a4_17 rfl hl (by decide) rfl (fun ls hl => ?_)
    refine dm_cutR (nL := 2) (σ := Nat × Nat) 33 (fun x => 0 < x.1 ∧ x.1 < 65536 ∧ 15 ≤ x.2 ∧ x.2 ≤ 31 ∧ bl n = bl x.1 + (31 - x.2)) (fun x => [(1, .int (nI x.2)), (0, .int (nI x.1))]) (fun hJ => ?_) ?_
    · refine lv_iload_n hx hb dJ6_numberOfLeadingZeros_0f7a4_18 rfl (lv_at hl 1 rfl) ?_
      refine lv_ldcw (v := nI 65536) hx hb hown (hts _ kct_J6_264) dJ6_numberOfLeadingZeros_0f7a4_19 ?_
      refine dm_icmp_lt (tgt := 33) hx hb (by omega) (by omega) dJ6_numberOfLeadingZeros_0f7a4_22 (by decide) (fun hd => ?_) (fun hd => ?_)
      · exact hJ (n, 31) ls ⟨by show 0 < n; omega, by show n < 65536; omega, by show 15 ≤ 31; omega, by show 31 ≤ 31; omega, by show bl n = bl n + 0; omega⟩ (lv_sub hl [0, 1] rfl)
      · refine lv_iinc (v := nI (31 - 16)) (lv' := [(1, .int (nI (31 - 16))), (0, .int (nI n))]) hx hb dJ6_numberOfLeadingZeros_0f7a4_25 hl (k := 0) rfl (by rw [i_dec16]; exact pk_sub (by omega)) (by decide) rfl (fun ls hl => ?_)
        refine lv_iload_n hx hb dJ6_numberOfLeadingZeros_0f7a4_28 rfl (lv_at hl 1 rfl) ?_
        refine lv_bipush (v := nI 16) hx hb dJ6_numberOfLeadingZeros_0f7a4_29 (by decide) ?_
        refine lv_iushr (v := nI (n / 65536)) hx hb dJ6_numberOfLeadingZeros_0f7a4_31 (pk_ushrN (n := n) (by omega) (nI 16) 16 (by decide)) ?_
        refine lv_istore_n (lv' := [(0, .int (nI (n / 65536))), (1, .int (nI (31 - 16)))]) hx hb dJ6_numberOfLeadingZeros_0f7a4_32 rfl hl (by decide) rfl (fun ls hl => ?_)
        have hbd := bl_div (n := n) (s := 16) (by omega)
        rw [show (2 : Nat) ^ 16 = 65536 from rfl] at hbd
        exact hJ (n / 65536, 31 - 16) ls ⟨by show 0 < n / 65536; omega, by show n / 65536 < 65536; omega, by show 15 ≤ 31 - 16; omega, by show 31 - 16 ≤ 31; omega, by show bl n = bl (n / 65536) + (31 - (31 - 16)); omega⟩ (lv_sub hl [1, 0] rfl)
    · rintro ⟨i, k⟩ ls ⟨hq1, hq2, hq3, hq4, hq5⟩ hl
      dsimp only at hq1 hq2 hq3 hq4 hq5
      have hl : lv_has ls 2 [(1, .int (nI k)), (0, .int (nI i))] := hl
      refine dm_cutR (nL := 2) (σ := Nat × Nat) 48 (fun x => 0 < x.1 ∧ x.1 < 256 ∧ 7 ≤ x.2 ∧ x.2 ≤ 31 ∧ bl n = bl x.1 + (31 - x.2)) (fun x => [(1, .int (nI x.2)), (0, .int (nI x.1))]) (fun hJ => ?_) ?_
      · refine lv_iload_n hx hb dJ6_numberOfLeadingZeros_0f7a4_33 rfl (lv_at hl 1 rfl) ?_
        refine lv_sipush (v := nI 256) hx hb dJ6_numberOfLeadingZeros_0f7a4_34 (by decide) ?_
        refine dm_icmp_lt (tgt := 48) hx hb (by omega) (by omega) dJ6_numberOfLeadingZeros_0f7a4_37 (by decide) (fun hd => ?_) (fun hd => ?_)
        · exact hJ (i, k) ls ⟨by show 0 < i; omega, by show i < 256; omega, by show 7 ≤ k; omega, by show k ≤ 31; omega, hq5⟩ (lv_sub hl [0, 1] rfl)
        · refine lv_iinc (v := nI (k - 8)) (lv' := [(1, .int (nI (k - 8))), (0, .int (nI i))]) hx hb dJ6_numberOfLeadingZeros_0f7a4_40 hl (k := 0) rfl (by rw [i_dec8]; exact pk_sub (by omega)) (by decide) rfl (fun ls hl => ?_)
          refine lv_iload_n hx hb dJ6_numberOfLeadingZeros_0f7a4_43 rfl (lv_at hl 1 rfl) ?_
          refine lv_bipush (v := nI 8) hx hb dJ6_numberOfLeadingZeros_0f7a4_44 (by decide) ?_
          refine lv_iushr (v := nI (i / 256)) hx hb dJ6_numberOfLeadingZeros_0f7a4_46 (pk_ushrN (n := i) (by omega) (nI 8) 8 (by decide)) ?_
          refine lv_istore_n (lv' := [(0, .int (nI (i / 256))), (1, .int (nI (k - 8)))]) hx hb dJ6_numberOfLeadingZeros_0f7a4_47 rfl hl (by decide) rfl (fun ls hl => ?_)
          have hbd := bl_div (n := i) (s := 8) (by omega)
          rw [show (2 : Nat) ^ 8 = 256 from rfl] at hbd
          exact hJ (i / 256, k - 8) ls ⟨by show 0 < i / 256; omega, by show i / 256 < 256; omega, by show 7 ≤ k - 8; omega, by show k - 8 ≤ 31; omega, by show bl n = bl (i / 256) + (31 - (k - 8)); omega⟩ (lv_sub hl [1, 0] rfl)
      · rintro ⟨i, k⟩ ls ⟨hq1, hq2, hq3, hq4, hq5⟩ hl
        dsimp only at hq1 hq2 hq3 hq4 hq5
        have hl : lv_has ls 2 [(1, .int (nI k)), (0, .int (nI i))] := hl
        refine dm_cutR (nL := 2) (σ := Nat × Nat) 61 (fun x => 0 < x.1 ∧ x.1 < 16 ∧ 3 ≤ x.2 ∧ x.2 ≤ 31 ∧ bl n = bl x.1 + (31 - x.2)) (fun x => [(1, .int (nI x.2)), (0, .int (nI x.1))]) (fun hJ => ?_) ?_
        · refine lv_iload_n hx hb dJ6_numberOfLeadingZeros_0f7a4_48 rfl (lv_at hl 1 rfl) ?_
          refine lv_bipush (v := nI 16) hx hb dJ6_numberOfLeadingZeros_0f7a4_49 (by decide) ?_
          refine dm_icmp_lt (tgt := 61) hx hb (by omega) (by omega) dJ6_numberOfLeadingZeros_0f7a4_51 (by decide) (fun hd => ?_) (fun hd => ?_)
          · exact hJ (i, k) ls ⟨by show 0 < i; omega, by show i < 16; omega, by show 3 ≤ k; omega, by show k ≤ 31; omega, hq5⟩ (lv_sub hl [0, 1] rfl)
          · refine lv_iinc (v := nI (k - 4)) (lv' := [(1, .int (nI (k - 4))), (0, .int (nI i))]) hx hb dJ6_numberOfLeadingZeros_0f7a4_54 hl (k := 0) rfl (by rw [i_dec4]; exact pk_sub (by omega)) (by decide) rfl (fun ls hl => ?_)
            refine lv_iload_n hx hb dJ6_numberOfLeadingZeros_0f7a4_57 rfl (lv_at hl 1 rfl) ?_
            refine lv_iconst (v := nI 4) hx hb dJ6_numberOfLeadingZeros_0f7a4_58 (by decide) ?_
            refine lv_iushr (v := nI (i / 16)) hx hb dJ6_numberOfLeadingZeros_0f7a4_59 (pk_ushrN (n := i) (by omega) (nI 4) 4 (by decide)) ?_
            refine lv_istore_n (lv' := [(0, .int (nI (i / 16))), (1, .int (nI (k - 4)))]) hx hb dJ6_numberOfLeadingZeros_0f7a4_60 rfl hl (by decide) rfl (fun ls hl => ?_)
            have hbd := bl_div (n := i) (s := 4) (by omega)
            rw [show (2 : Nat) ^ 4 = 16 from rfl] at hbd
            exact hJ (i / 16, k - 4) ls ⟨by show 0 < i / 16; omega, by show i / 16 < 16; omega, by show 3 ≤ k - 4; omega, by show k - 4 ≤ 31; omega, by show bl n = bl (i / 16) + (31 - (k - 4)); omega⟩ (lv_sub hl [1, 0] rfl)
        · rintro ⟨i, k⟩ ls ⟨hq1, hq2, hq3, hq4, hq5⟩ hl
          dsimp only at hq1 hq2 hq3 hq4 hq5
          have hl : lv_has ls 2 [(1, .int (nI k)), (0, .int (nI i))] := hl
          refine dm_cutR (nL := 2) (σ := Nat × Nat) 73 (fun x => 0 < x.1 ∧ x.1 < 4 ∧ 1 ≤ x.2 ∧ x.2 ≤ 31 ∧ bl n = bl x.1 + (31 - x.2)) (fun x => [(1, .int (nI x.2)), (0, .int (nI x.1))]) (fun hJ => ?_) ?_
          · refine lv_iload_n hx hb dJ6_numberOfLeadingZeros_0f7a4_61 rfl (lv_at hl 1 rfl) ?_
            refine lv_iconst (v := nI 4) hx hb dJ6_numberOfLeadingZeros_0f7a4_62 (by decide) ?_
            refine dm_icmp_lt (tgt := 73) hx hb (by omega) (by omega) dJ6_numberOfLeadingZeros_0f7a4_63 (by decide) (fun hd => ?_) (fun hd => ?_)
            · exact hJ (i, k) ls ⟨by show 0 < i; omega, by show i < 4; omega, by show 1 ≤ k; omega, by show k ≤ 31; omega, hq5⟩ (lv_sub hl [0, 1] rfl)
            · refine lv_iinc (v := nI (k - 2)) (lv' := [(1, .int (nI (k - 2))), (0, .int (nI i))]) hx hb dJ6_numberOfLeadingZeros_0f7a4_66 hl (k := 0) rfl (by rw [i_dec2]; exact pk_sub (by omega)) (by decide) rfl (fun ls hl => ?_)
              refine lv_iload_n hx hb dJ6_numberOfLeadingZeros_0f7a4_69 rfl (lv_at hl 1 rfl) ?_
              refine lv_iconst (v := nI 2) hx hb dJ6_numberOfLeadingZeros_0f7a4_70 (by decide) ?_
              refine lv_iushr (v := nI (i / 4)) hx hb dJ6_numberOfLeadingZeros_0f7a4_71 (pk_ushrN (n := i) (by omega) (nI 2) 2 (by decide)) ?_
              refine lv_istore_n (lv' := [(0, .int (nI (i / 4))), (1, .int (nI (k - 2)))]) hx hb dJ6_numberOfLeadingZeros_0f7a4_72 rfl hl (by decide) rfl (fun ls hl => ?_)
              have hbd := bl_div (n := i) (s := 2) (by omega)
              rw [show (2 : Nat) ^ 2 = 4 from rfl] at hbd
              exact hJ (i / 4, k - 2) ls ⟨by show 0 < i / 4; omega, by show i / 4 < 4; omega, by show 1 ≤ k - 2; omega, by show k - 2 ≤ 31; omega, by show bl n = bl (i / 4) + (31 - (k - 2)); omega⟩ (lv_sub hl [1, 0] rfl)
          · rintro ⟨i, k⟩ ls ⟨hq1, hq2, hq3, hq4, hq5⟩ hl
            dsimp only at hq1 hq2 hq3 hq4 hq5
            have hl : lv_has ls 2 [(1, .int (nI k)), (0, .int (nI i))] := hl
            refine lv_iload_n hx hb dJ6_numberOfLeadingZeros_0f7a4_73 rfl (lv_at hl 0 rfl) ?_
            refine lv_iload_n hx hb dJ6_numberOfLeadingZeros_0f7a4_74 rfl (lv_at hl 1 rfl) ?_
            refine lv_iconst (v := nI 1) hx hb dJ6_numberOfLeadingZeros_0f7a4_75 (by decide) ?_
            refine lv_iushr (v := nI (i / 2)) hx hb dJ6_numberOfLeadingZeros_0f7a4_76 (pk_ushrN (n := i) (by omega) (nI 1) 1 (by decide)) ?_
            refine lv_isub hx hb dJ6_numberOfLeadingZeros_0f7a4_77 ?_
            refine dm_ti (y := nI (k - i / 2)) (pk_sub (by omega)) ?_
            have hb3 : bl i = 1 + i / 2 := by rcases (show i = 1 ∨ i = 2 ∨ i = 3 by omega) with rfl | rfl | rfl <;> rfl
            exact ri_iret hC (by show nI _ = nI _; rw [hq5, hb3]; congr 1; omega) dJ6_numberOfLeadingZeros_0f7a4_78
  · refine lv_iload_n hx hb dJ6_numberOfLeadingZeros_0f7a4_4 rfl (lv_at hl 0 rfl) ?_
    refine lv_if_ne (tgt := 13) hx hb dJ6_numberOfLeadingZeros_0f7a4_5 (by decide) (fun hd => ?_) (fun hd => ?_)
    · refine lv_iconst (v := nI 0) hx hb dJ6_numberOfLeadingZeros_0f7a4_13 (by decide) ?_
      exact ri_iret hC (by rw [bl_big (un_neg hc hd) (un_lt x)]) dJ6_numberOfLeadingZeros_0f7a4_14
    · refine lv_bipush (v := nI 32) hx hb dJ6_numberOfLeadingZeros_0f7a4_8 (by decide) ?_
      refine lv_goto (tgt := 14) hx hb dJ6_numberOfLeadingZeros_0f7a4_10 (by decide) ?_
      exact ri_iret hC (by rw [hd, un_0]; rfl) dJ6_numberOfLeadingZeros_0f7a4_14

set_option maxRecDepth 100000 in
set_option maxHeartbeats 4000000 in
theorem c_X2_countBits (l : Launch) (D : va_G) (cB cI cC : ClassId) (h a N u : Nat) (f : Nat → Int32) (hu : u ≤ N) (hNb : N < 67108864) (hn : nrm f u) : ROi l yX2_countBits (Cond.code yX2_countBits cX2_countBits 1 (some .int)) 1 D (TY cB cI cC) [.ref h] [(h, .inr (2, [.ref a, .int (nI u)])), (a, .inl (cI, N, .inl f))] (fun r => r = nI (bl (dvb 4294967296 f u))) := by
  refine ROi.of (by decide) (Nat.le_of_ble_eq_true rfl) ?_
  intro p e s m below meth c ls A hC hA hP hK hD hS hl
  obtain ⟨hx, hb, hr, hml, hown, hts, hlocks, hN⟩ := id hC
  have hown : s.vm.findClass RX2 = some m.cls := hown
  have hl : lv_has ls 1 [(0, .ref h)] := hl
  have hNb2 := hNb
  have hNb : N < 2 ^ 31 := by omega
  refine lv_bipush (v := nI 32) hx hb dX2_countBits_0 (by decide) ?_
  refine lv_aload_n hx hb dX2_countBits_2 rfl (lv_at hl 0 rfl) ?_
  refine va_get (D := D) (ci := 2) (C := RX2) (T := TX2) (N := 2) (v := .int (nI u)) hx hb hts kin_X2_w hown hK hP 0 rfl rfl 1 (by decide) (hts _ kfl_X2_21) (fun _ h9 => h9) rfl dX2_countBits_3 ?_
  refine lv_imul hx hb dX2_countBits_6 ?_
  refine dm_ti (y := nI (32 * u)) (pk_mul 32 u) ?_
  refine lv_aload_n hx hb dX2_countBits_7 rfl (lv_at hl 0 rfl) ?_
  refine va_get (D := D) (ci := 2) (C := RX2) (T := TX2) (N := 2) (v := .int (nI u)) hx hb hts kin_X2_w hown hK hP 0 rfl rfl 1 (by decide) (hts _ kfl_X2_21) (fun _ h9 => h9) rfl dX2_countBits_8 ?_
  refine dm_if_ne (tgt := 18) hx hb (by omega) dX2_countBits_11 (by decide) (fun hc => ?_) (fun hc => ?_)
  · obtain ⟨k, rfl⟩ : ∃ k, u = k + 1 := ⟨u - 1, by omega⟩
    refine lv_aload_n hx hb dX2_countBits_18 rfl (lv_at hl 0 rfl) ?_
    refine va_get (D := D) (ci := 2) (C := RX2) (T := TX2) (N := 2) (v := .ref a) hx hb hts kin_X2_w hown hK hP 0 rfl rfl 0 (by decide) (hts _ kfl_X2_15) (fun _ h9 => h9) rfl dX2_countBits_19 ?_
    refine lv_aload_n hx hb dX2_countBits_22 rfl (lv_at hl 0 rfl) ?_
    refine va_get (D := D) (ci := 2) (C := RX2) (T := TX2) (N := 2) (v := .int (nI (k + 1))) hx hb hts kin_X2_w hown hK hP 0 rfl rfl 1 (by decide) (hts _ kfl_X2_21) (fun _ h9 => h9) rfl dX2_countBits_23 ?_
    refine lv_iconst (v := nI 1) hx hb dX2_countBits_26 (by decide) ?_
    refine lv_isub hx hb dX2_countBits_27 ?_
    refine dm_ti (y := nI k) (nI_pred k) ?_
    refine dm_iald (j := k) hx hb hK hP 1 1 rfl rfl (by omega) hNb dX2_countBits_28 ?_
    refine dm_gori (dm_rS (n := 1) (As := [.int (f k)]) (rest := [.int (nI (32 * (k + 1)))]) hC hl (c_J6_nlz l D cB cI cC (f k) s.heap.size) kco_J6_numberOfLeadingZeros_0f7a4 ki_J6 kst_J6_numberOfLeadingZeros_0f7a4 kml_X2_25 (by decide +kernel) ⟨Nat.le_of_ble_eq_true rfl, Nat.le_of_ble_eq_true rfl⟩ rfl rfl ⟨dm_blind, dm_preU hK hP hD hC.2.2.2.2.2.2.2 [] (by decide) rfl⟩ rfl rfl (Nat.le_of_ble_eq_true rfl) dX2_countBits_29 ⟨Nat.le_of_ble_eq_true rfl, Nat.le_of_ble_eq_true rfl⟩) (fun r1 h1 => ?_)
    subst h1
    have h32 := bl_32 (un_lt (f k))
    refine lv_isub hx hb dX2_countBits_32 ?_
    refine dm_ti (y := nI (32 * (k + 1) - (32 - bl (un (f k))))) (pk_sub (by omega)) ?_
    exact ri_iret hC (by rw [bl_dv hn]; congr 1; omega) dX2_countBits_33
  · refine lv_iconst (v := nI 0) hx hb dX2_countBits_14 (by decide) ?_
    refine lv_goto (tgt := 32) hx hb dX2_countBits_15 (by decide) ?_
    refine lv_isub hx hb dX2_countBits_32 ?_
    refine dm_ti (y := nI (32 * u - 0)) (pk_sub (by omega)) ?_
    exact ri_iret hC (by rw [hc]; rfl) dX2_countBits_33
end
section
theorem dvb_max {f : Nat → Int32} : ∀ {n : Nat}, (∀ j, j < n → f j = -1) → dvb 4294967296 f n + 1 = 4294967296 ^ n
  | 0, _ => rfl
  | n + 1, h => by
    have h1 := dvb_max (n := n) (fun j hj => h j (by omega))
    show dvb 4294967296 f n + un (f n) * 4294967296 ^ n + 1 = 4294967296 ^ (n + 1)
    rw [h n (by omega), un_m1, Nat.pow_succ]
    omega
theorem dvb_notmax {f : Nat → Int32} : ∀ {n : Nat}, (∃ j, j < n ∧ f j ≠ -1) → dvb 4294967296 f n + 2 ≤ 4294967296 ^ n
  | 0, ⟨j, hj, _⟩ => absurd hj (Nat.not_lt_zero _)
  | n + 1, ⟨j, hj, hne⟩ => by
    have h1 := dv32_lt f n
    have hp : 0 < 4294967296 ^ n := Nat.pow_pos (by decide)
    show dvb 4294967296 f n + un (f n) * 4294967296 ^ n + 2 ≤ 4294967296 ^ (n + 1)
    rw [Nat.pow_succ]
    by_cases hn : f n = -1
    · have h2 := dvb_notmax (f := f) (n := n) ⟨j, by have : j ≠ n := fun e0 => hne (e0 ▸ hn)
                                                     omega, hne⟩
      rw [hn, un_m1]
      omega
    · have h3 : un (f n) ≤ 4294967294 := by
        have h4 := un_lt (f n)
        have h5 : un (f n) ≠ 4294967295 := fun e0 => hn (un_inj (e0.trans un_m1.symm))
        omega
      have h6 : un (f n) * 4294967296 ^ n ≤ 4294967294 * 4294967296 ^ n := Nat.mul_le_mul_right _ h3
      omega
/-- room while a word is free -/
theorem room_lt {f : Nat → Int32} {u N y : Nat} (h : u < N) (hy : y < 4294967296) : dvb 4294967296 f u + y < 4294967296 ^ N := by
  have h1 := dv32_lt f u
  have hm : 4294967296 ^ u ≤ 4294967296 ^ (N - 1) := Nat.pow_le_pow_right (by decide) (by omega)
  have e : 4294967296 ^ N = 4294967296 ^ (N - 1) * 4294967296 := by rw [← Nat.pow_succ]; congr 1; omega
  have hp : 0 < 4294967296 ^ (N - 1) := Nat.pow_pos (by decide)
  rw [e]
  rcases Nat.eq_zero_or_pos u with h0 | h0
  · subst h0
    show 0 + y < _
    omega
  · have h2 : 4294967296 ^ 1 ≤ 4294967296 ^ (N - 1) := Nat.pow_le_pow_right (by decide) (by omega)
    omega
theorem dv_tail {f g : Nat → Int32} {i u : Nat} (hi : i ≤ u) (h : ∀ j, i ≤ j → g j = f j) : dvb 4294967296 g u + dvb 4294967296 f i = dvb 4294967296 f u + dvb 4294967296 g i := by
  obtain ⟨k, rfl⟩ : ∃ k, u = i + k := ⟨u - i, by omega⟩
  rw [dvb_split, dvb_split, dvb_congr (f := fun j => g (i + j)) (g := fun j => f (i + j)) (fun j _ => h (i + j) (by omega))]
  omega
theorem lN_neg {a : Nat} (h : 9223372036854775808 ≤ a) (h2 : a < 18446744073709551616) : lN a < 0 := by
  rw [Int64.lt_iff_toInt_lt]
  show (lN a).toBitVec.toInt < _
  rw [BitVec.toInt_eq_toNat_cond, wb_tn h2, if_neg (by omega)]
  show (a : Int) - _ < 0
  omega

set_option maxRecDepth 100000 in
set_option maxHeartbeats 4000000 in
theorem c_X2_hasRoomFor (l : Launch) (D : va_G) (cB cI cC : ClassId) (h a N u y : Nat) (f : Nat → Int32) (hu : u ≤ N) (hN1 : 1 ≤ N) (hNb : N < 2 ^ 31) (hy : y < 4294967296) : ROi l yX2_hasRoomFor (Cond.code yX2_hasRoomFor cX2_hasRoomFor 4 (some .boolean)) 0 D (TY cB cI cC) [.ref h, .long (lN y)] [(h, .inr (2, [.ref a, .int (nI u)])), (a, .inl (cI, N, .inl f))] (fun r => r = if dvb 4294967296 f u + y < 4294967296 ^ N then 1 else 0) := by
  refine ROi.of (by decide) (Nat.le_of_ble_eq_true rfl) ?_
  intro p e s m below meth c ls A hC hA hP hK hD hS hl
  obtain ⟨hx, hb, hr, hml, hown, hts, hlocks, hN⟩ := id hC
  have hown : s.vm.findClass RX2 = some m.cls := hown
  have hl : lv_has ls 4 [(0, .ref h), (1, .long (lN y))] := hl
  refine lv_aload_n hx hb dX2_hasRoomFor_0 rfl (lv_at hl 0 rfl) ?_
  refine va_get (D := D) (ci := 2) (C := RX2) (T := TX2) (N := 2) (v := .int (nI u)) hx hb hts kin_X2_w hown hK hP 0 rfl rfl 1 (by decide) (hts _ kfl_X2_21) (fun _ h9 => h9) rfl dX2_hasRoomFor_1 ?_
  refine lv_aload_n hx hb dX2_hasRoomFor_4 rfl (lv_at hl 0 rfl) ?_
  refine va_get (D := D) (ci := 2) (C := RX2) (T := TX2) (N := 2) (v := .ref a) hx hb hts kin_X2_w hown hK hP 0 rfl rfl 0 (by decide) (hts _ kfl_X2_15) (fun _ h9 => h9) rfl dX2_hasRoomFor_5 ?_
  refine va_alen (v := nI N) hx hb hK hP 1 1 rfl rfl rfl dX2_hasRoomFor_8 ?_
  refine dm_icmp_lt (tgt := 32) hx hb (by omega) (by omega) dX2_hasRoomFor_9 (by decide) (fun hc => ?_) (fun hc => ?_)
  · refine lv_iconst (v := nI 1) hx hb dX2_hasRoomFor_32 (by decide) ?_
    exact ri_zret hC (Or.inr rfl) ((if_pos (room_lt hc hy)).symm) dX2_hasRoomFor_33
  · obtain ⟨M, rfl⟩ : ∃ M, u = M + 1 := ⟨u - 1, by omega⟩
    have hNM : N = M + 1 := by omega
    subst hNM
    have hb0 := un_lt (f 0)
    refine lv_aload_n hx hb dX2_hasRoomFor_12 rfl (lv_at hl 0 rfl) ?_
    refine va_get (D := D) (ci := 2) (C := RX2) (T := TX2) (N := 2) (v := .ref a) hx hb hts kin_X2_w hown hK hP 0 rfl rfl 0 (by decide) (hts _ kfl_X2_15) (fun _ h9 => h9) rfl dX2_hasRoomFor_13 ?_
    refine lv_iconst (v := nI 0) hx hb dX2_hasRoomFor_16 (by decide) ?_
    refine dm_iald (j := 0) hx hb hK hP 1 1 rfl rfl (by omega) hNb dX2_hasRoomFor_17 ?_
    refine lv_i2l (v := ((f 0) : Int32).toInt64) hx hb dX2_hasRoomFor_18 (rfl) ?_
    refine lv_ldc2 (v := 4294967295) hx hb hown (hts _ kct_X2_34) dX2_hasRoomFor_19 ?_
    refine lv_land hx hb dX2_hasRoomFor_22 ?_
    refine dm_tl (y := lN (un (f 0))) (wl_un _) ?_
    refine lv_lload_n hx hb dX2_hasRoomFor_23 rfl (lv_at hl 1 rfl) ?_
    refine lv_ladd hx hb dX2_hasRoomFor_24 ?_
    refine dm_tl (y := lN (un (f 0) + y)) (lN_add _ _) ?_
    refine lv_ldc2 (v := 4294967295) hx hb hown (hts _ kct_X2_34) dX2_hasRoomFor_25 ?_
    refine dm_tl (y := lN 4294967295) (rfl) ?_
    refine dm_lc_gt (tgt := 34) hx hb (by omega) (by omega) dX2_hasRoomFor_28 dX2_hasRoomFor_29 (by decide) (fun hd => ?_) (fun hd => ?_)
    · refine lv_iconst (v := nI 1) hx hb dX2_hasRoomFor_34 (by decide) ?_
      refine lv_istore_n (lv' := [(3, .int (nI 1)), (0, .ref h), (1, .long (lN y))]) hx hb dX2_hasRoomFor_35 rfl hl (by decide) rfl (fun ls hl => ?_)
      rw [dvb_low, Nat.pow_succ]
      refine dm_loopR (nL := 4) 36 (fun i => 1 ≤ i ∧ i ≤ M + 1 ∧ ∀ j, 1 ≤ j → j < i → f j = -1) (fun i => [(3, .int (nI i)), (0, .ref h), (1, .long (lN y))]) (fun i => M + 1 - i) ?_ 1 ⟨Nat.le_refl _, by omega, fun j h1 h2 => absurd h1 (by omega)⟩ hl
      intro i ls hp hl ih
      obtain ⟨hi1, hi2, hall⟩ := hp
      refine lv_iload_n hx hb dX2_hasRoomFor_36 rfl (lv_at hl 0 rfl) ?_
      refine lv_aload_n hx hb dX2_hasRoomFor_37 rfl (lv_at hl 1 rfl) ?_
      refine va_get (D := D) (ci := 2) (C := RX2) (T := TX2) (N := 2) (v := .int (nI (M + 1))) hx hb hts kin_X2_w hown hK hP 0 rfl rfl 1 (by decide) (hts _ kfl_X2_21) (fun _ h9 => h9) rfl dX2_hasRoomFor_38 ?_
      refine dm_icmp_ge (tgt := 62) hx hb (by omega) (by omega) dX2_hasRoomFor_41 (by decide) (fun he => ?_) (fun he => ?_)
      · refine lv_iconst (v := nI 0) hx hb dX2_hasRoomFor_62 (by decide) ?_
        exact ri_zret hC (Or.inl rfl) ((if_neg (by have h5 := dvb_max (f := fun j => f (j + 1)) (n := M) (fun j hj => hall (j + 1) (by omega) (by omega)); omega)).symm) dX2_hasRoomFor_63
      · refine lv_aload_n hx hb dX2_hasRoomFor_44 rfl (lv_at hl 1 rfl) ?_
        refine va_get (D := D) (ci := 2) (C := RX2) (T := TX2) (N := 2) (v := .ref a) hx hb hts kin_X2_w hown hK hP 0 rfl rfl 0 (by decide) (hts _ kfl_X2_15) (fun _ h9 => h9) rfl dX2_hasRoomFor_45 ?_
        refine lv_iload_n hx hb dX2_hasRoomFor_48 rfl (lv_at hl 0 rfl) ?_
        refine dm_iald (j := i) hx hb hK hP 1 1 rfl rfl (by omega) hNb dX2_hasRoomFor_49 ?_
        refine lv_iconst (v := -1) hx hb dX2_hasRoomFor_50 (by decide) ?_
        refine lv_icmp_eq (tgt := 56) hx hb dX2_hasRoomFor_51 (by decide) (fun hm => ?_) (fun hm => ?_)
        · refine lv_iinc (v := nI (i + 1)) (lv' := [(3, .int (nI (i + 1))), (0, .ref h), (1, .long (lN y))]) hx hb dX2_hasRoomFor_56 hl (k := 0) rfl ((nI_succ i).symm) (by decide) rfl (fun ls hl => ?_)
          refine lv_goto (tgt := 36) hx hb dX2_hasRoomFor_59 (by decide) ?_
          exact ih (i + 1) ls (by omega) ⟨by omega, by omega, fun j h1 h2 => (Nat.lt_or_eq_of_le (Nat.le_of_lt_succ h2)).elim (fun h3 => hall j h1 h3) (fun h3 => by rw [h3]; exact hm)⟩ (lv_sub hl [0, 1, 2] rfl)
        · refine lv_iconst (v := nI 1) hx hb dX2_hasRoomFor_54 (by decide) ?_
          exact ri_zret hC (Or.inr rfl) ((if_pos (by have h5 := dvb_notmax (f := fun j => f (j + 1)) (n := M) ⟨i - 1, by omega, by show f (i - 1 + 1) ≠ -1; rw [show i - 1 + 1 = i by omega]; exact hm⟩; omega)).symm) dX2_hasRoomFor_55
    · refine lv_iconst (v := nI 1) hx hb dX2_hasRoomFor_32 (by decide) ?_
      exact ri_zret hC (Or.inr rfl) ((if_pos (by rw [dvb_low, Nat.pow_succ]; have h5 := dv32_lt (fun j => f (j + 1)) M; omega)).symm) dX2_hasRoomFor_33

set_option maxRecDepth 100000 in
set_option maxHeartbeats 4000000 in
theorem c_X2_increase (l : Launch) (D : va_G) (cB cI cC : ClassId) (h a N u y : Nat) (f : Nat → Int32) (hu : u ≤ N) (hN1 : 1 ≤ N) (hNb : N < 2 ^ 31) (hy : y < 4294967296) (hn : nrm f u) : MI l yX2_increase (Cond.code yX2_increase cX2_increase 8 (some .boolean)) 1 D (TY cB cI cC) [.ref h, .long (lN y)] [(h, .inr (2, [.ref a, .int (nI u)])), (a, .inl (cI, N, .inl f))] (S := (Nat → Int32) × Nat) (fun r q => (dvb 4294967296 f u + y < 4294967296 ^ N → r = 1 ∧ q.2 ≤ N ∧ dvb 4294967296 q.1 q.2 = dvb 4294967296 f u + y ∧ nrm q.1 q.2) ∧ (4294967296 ^ N ≤ dvb 4294967296 f u + y → r = 0 ∧ q = (f, u))) (fun q => [(h, .inr (2, [.ref a, .int (nI q.2)])), (a, .inl (cI, N, .inl q.1))]) := by
  refine MI.of (by decide) (Nat.le_of_ble_eq_true rfl) ?_
  intro p e s m below meth c ls A hC hA hP hK hD hS hl
  obtain ⟨hx, hb, hr, hml, hown, hts, hlocks, hN⟩ := id hC
  have hown : s.vm.findClass RX2 = some m.cls := hown
  have hl : lv_has ls 8 [(0, .ref h), (1, .long (lN y))] := hl
  refine lv_aload_n hx hb dX2_increase_0 rfl (lv_at hl 0 rfl) ?_
  refine lv_lload_n hx hb dX2_increase_1 rfl (lv_at hl 1 rfl) ?_
  refine dm_gori (dm_rV (n := 1) (As := [.long (lN y)]) (rest := []) hC hl (c_X2_hasRoomFor l D cB cI cC h a N u y f hu hN1 hNb hy s.heap.size) kco_X2_hasRoomFor ki_X2 kim_X2_hasRoomFor kse_X2_hasRoomFor kml_X2_71 (by decide +kernel) ⟨Nat.le_of_ble_eq_true rfl, Nat.le_of_ble_eq_true rfl⟩ rfl rfl ⟨dm_blind, va_recv hK hP (ci := 2) (q0 := 0) rfl rfl, dm_preU hK hP hD hC.2.2.2.2.2.2.2 [0, 1] (by decide) rfl⟩ rfl rfl (Nat.le_of_ble_eq_true rfl) dX2_increase_2 ⟨Nat.le_of_ble_eq_true rfl, Nat.le_of_ble_eq_true rfl⟩) (fun r1 h1 => ?_)
  refine lv_if_ne (tgt := 10) hx hb dX2_increase_5 (by decide) (fun hc => ?_) (fun hc => ?_)
  · have hfit : dvb 4294967296 f u + y < 4294967296 ^ N := by
      by_cases h2 : dvb 4294967296 f u + y < 4294967296 ^ N
      · exact h2
      · rw [if_neg h2] at h1; exact absurd h1 hc
    refine lv_lload_n hx hb dX2_increase_10 rfl (lv_at hl 1 rfl) ?_
    refine lv_lstore_n (lv' := [(3, .long (lN y)), (0, .ref h), (1, .long (lN y))]) hx hb dX2_increase_11 rfl hl (by decide) rfl (fun ls hl => ?_)
    refine lv_iconst (v := nI 0) hx hb dX2_increase_12 (by decide) ?_
    refine lv_istore (lv' := [(5, .int (nI 0)), (3, .long (lN y)), (0, .ref h), (1, .long (lN y))]) hx hb dX2_increase_13 hl (by decide) rfl (fun ls hl => ?_)
    refine dm_loop (nL := 8) (head := 15) (P := fun (x : Nat × Nat × (Nat → Int32)) => x.1 ≤ u ∧ x.2.1 < 4294967296 ∧ dvb 4294967296 x.2.2 x.1 + x.2.1 * 4294967296 ^ x.1 = dvb 4294967296 f x.1 + y ∧ ∀ j, x.1 ≤ j → x.2.2 j = f j) (w := fun x => [(h, .inr (2, [.ref a, .int (nI u)])), (a, .inl (cI, N, .inl x.2.2))]) (lv := fun x => [(5, .int (nI x.1)), (3, .long (lN x.2.1)), (0, .ref h), (1, .long (lN y))]) (μ := fun x => u - x.1) ?_ (0, y, f) ⟨Nat.zero_le _, hy, by simp [dvb], fun _ _ => rfl⟩ hP hD hS hl
    rintro ⟨i, car, g⟩ H locs ls ⟨hi, hcar, hinv, hge⟩ hP hD hS hl ih
    dsimp only at hi hcar hinv hge
    have hP : va_P D vwCl [(h, .inr (2, [.ref a, .int (nI u)])), (a, .inl (cI, N, .inl g))] H := hP
    have hl : lv_has ls 8 [(5, .int (nI i)), (3, .long (lN car)), (0, .ref h), (1, .long (lN y))] := hl
    refine dm_cutR (nL := 8) (σ := Unit) 68 (fun _ => dvb 4294967296 g u + car * 4294967296 ^ u = dvb 4294967296 f u + y) (fun _ => [(5, .int (nI i)), (3, .long (lN car)), (0, .ref h), (1, .long (lN y))]) (fun hJ => ?_) ?_
    · refine lv_iload hx hb dX2_increase_15 (lv_at hl 0 rfl) ?_
      refine lv_aload_n hx hb dX2_increase_17 rfl (lv_at hl 2 rfl) ?_
      refine va_get (D := D) (ci := 2) (C := RX2) (T := TX2) (N := 2) (v := .int (nI u)) hx hb hts kin_X2_w hown hK hP 0 rfl rfl 1 (by decide) (hts _ kfl_X2_21) (fun _ h9 => h9) rfl dX2_increase_18 ?_
      refine dm_icmp_ge (tgt := 68) hx hb (by omega) (by omega) dX2_increase_21 (by decide) (fun hd => ?_) (fun hd => ?_)
      · have hiu : i = u := by omega
        exact hJ () ls (by rw [← hiu]; exact hinv) hl
      · refine lv_lload_n hx hb dX2_increase_24 rfl (lv_at hl 1 rfl) ?_
        refine lv_lconst (v := lN 0) hx hb dX2_increase_25 (by decide) ?_
        refine dm_lc_eq (tgt := 68) hx hb (by omega) (by omega) dX2_increase_26 dX2_increase_27 (by decide) (fun he => ?_) (fun he => ?_)
        · refine hJ () ls ?_ hl
          have h5 := dv_tail hi hge
          rw [he] at hinv ⊢
          omega
        · refine lv_aload_n hx hb dX2_increase_30 rfl (lv_at hl 2 rfl) ?_
          refine va_get (D := D) (ci := 2) (C := RX2) (T := TX2) (N := 2) (v := .ref a) hx hb hts kin_X2_w hown hK hP 0 rfl rfl 0 (by decide) (hts _ kfl_X2_15) (fun _ h9 => h9) rfl dX2_increase_31 ?_
          refine lv_iload hx hb dX2_increase_34 (lv_at hl 0 rfl) ?_
          refine dm_iald (j := i) hx hb hK hP 1 1 rfl rfl (by omega) hNb dX2_increase_36 ?_
          refine dm_ti (y := f i) (hge i (Nat.le_refl i)) ?_
          have hb1 := un_lt (f i)
          refine lv_i2l (v := (f i : Int32).toInt64) hx hb dX2_increase_37 (rfl) ?_
          refine lv_ldc2 (v := 4294967295) hx hb hown (hts _ kct_X2_34) dX2_increase_38 ?_
          refine lv_land hx hb dX2_increase_41 ?_
          refine dm_tl (y := lN (un (f i))) (wl_un (f i)) ?_
          refine lv_lload_n hx hb dX2_increase_42 rfl (lv_at hl 1 rfl) ?_
          refine lv_ladd hx hb dX2_increase_43 ?_
          refine dm_tl (y := lN (un (f i) + car)) (lN_add _ _) ?_
          refine lv_lstore (lv' := [(6, .long (lN (un (f i) + car))), (5, .int (nI i)), (3, .long (lN car)), (0, .ref h), (1, .long (lN y))]) hx hb dX2_increase_44 hl (by decide) rfl (fun ls hl => ?_)
          refine lv_aload_n hx hb dX2_increase_46 rfl (lv_at hl 3 rfl) ?_
          refine va_get (D := D) (ci := 2) (C := RX2) (T := TX2) (N := 2) (v := .ref a) hx hb hts kin_X2_w hown hK hP 0 rfl rfl 0 (by decide) (hts _ kfl_X2_15) (fun _ h9 => h9) rfl dX2_increase_47 ?_
          refine lv_iload hx hb dX2_increase_50 (lv_at hl 1 rfl) ?_
          refine lv_lload hx hb dX2_increase_52 (lv_at hl 0 rfl) ?_
          refine lv_l2i (v := nI (un (f i) + car)) hx hb dX2_increase_54 (lN_low) ?_
          refine dm_iast (j := i) (f' := upd g i (nI (un (f i) + car))) hx hb hK hP hD hS 1 1 rfl rfl (by omega) hNb (rfl) dX2_increase_55 (fun H locs hP hD hS => ?_)
          have hP : va_P D vwCl [(h, .inr (2, [.ref a, .int (nI u)])), (a, .inl (cI, N, .inl (upd g i (nI (un (f i) + car)))))] H := hP
          have hD : va_D A [(h, .inr (2, [.ref a, .int (nI u)])), (a, .inl (cI, N, .inl (upd g i (nI (un (f i) + car)))))] := hD
          refine lv_lload hx hb dX2_increase_56 (lv_at hl 0 rfl) ?_
          refine lv_bipush (v := nI 32) hx hb dX2_increase_58 (by decide) ?_
          refine lv_lushr (v := lN ((un (f i) + car) / 4294967296)) hx hb dX2_increase_60 (wl_hi (by omega)) ?_
          refine lv_lstore_n (lv' := [(3, .long (lN ((un (f i) + car) / 4294967296))), (6, .long (lN (un (f i) + car))), (5, .int (nI i)), (0, .ref h), (1, .long (lN y))]) hx hb dX2_increase_61 rfl hl (by decide) rfl (fun ls hl => ?_)
          refine lv_iinc (v := nI (i + 1)) (lv' := [(5, .int (nI (i + 1))), (3, .long (lN ((un (f i) + car) / 4294967296))), (6, .long (lN (un (f i) + car))), (0, .ref h), (1, .long (lN y))]) hx hb dX2_increase_62 hl (k := 2) rfl ((nI_succ i).symm) (by decide) rfl (fun ls hl => ?_)
          refine lv_goto (tgt := 15) hx hb dX2_increase_65 (by decide) ?_
          refine ih (i + 1, (un (f i) + car) / 4294967296, upd g i (nI (un (f i) + car))) H locs ls (by show u - (i + 1) < u - i; omega) ⟨by show i + 1 ≤ u; omega, by show _ / _ < _; omega, ?_, fun j hj => ?_⟩ hP hD hS (lv_sub hl [0, 1, 3, 4] rfl)
          · show dvb 4294967296 (upd g i _) i + un (upd g i _ i) * 4294967296 ^ i + _ * 4294967296 ^ (i + 1) = _
            rw [dvb_upd (Nat.le_refl i), pk_us, un_mod]
            have h6 := dvb_mul_step (b := 4294967296) (by decide) (fac := 1) (more := y) (car := car) (f := f) (f' := g) (i := i) (by rw [Nat.mul_one]; exact hinv)
            rw [Nat.mul_one, Nat.mul_one] at h6
            exact h6
          · show upd g i _ j = f j
            have hj : i + 1 ≤ j := hj
            rw [pk_un (by omega)]
            exact hge j (by omega)
    · rintro - ls hv hl
      refine lv_aload_n hx hb dX2_increase_68 rfl (lv_at hl 2 rfl) ?_
      refine lv_lload_n hx hb dX2_increase_69 rfl (lv_at hl 1 rfl) ?_
      refine dm_goi (wr := []) (dm_rV (n := 1) (As := [.long (lN car)]) (rest := []) hC hl (c_X2_appendCarry l D cB cI cC h a N u car g hu hNb hcar H.size) kco_X2_appendCarry ki_X2 kim_X2_appendCarry kse_X2_appendCarry kml_X2_65 (by decide +kernel) ⟨Nat.le_of_ble_eq_true rfl, Nat.le_of_ble_eq_true rfl⟩ rfl rfl ⟨dm_blind, va_recv hK hP (ci := 2) (q0 := 0) rfl rfl, dm_preU hK hP hD hC.2.2.2.2.2.2.2 [0, 1] (by decide) rfl⟩ rfl rfl (Nat.le_of_ble_eq_true rfl) dX2_increase_70 ⟨Nat.le_of_ble_eq_true rfl, Nat.le_of_ble_eq_true rfl⟩) hP hD hS hA [0, 1] [] rfl rfl (by decide) (by decide) (fun r q H locs hw hP hD hS => ?_)
      obtain ⟨g2, u2⟩ := q
      have hP : va_P D vwCl [(h, .inr (2, [.ref a, .int (nI u2)])), (a, .inl (cI, N, .inl g2))] H := hP
      have hD : va_D A [(h, .inr (2, [.ref a, .int (nI u2)])), (a, .inl (cI, N, .inl g2))] := hD
      rw [hv] at hw
      have hw1 := hw.resolve_right (fun h9 => absurd hfit (by omega))
      refine dm_zret hC (Or.inr hw1.1) hK (g2, u2) ⟨fun _ => ⟨hw1.1, hw1.2.1, hw1.2.2.1, hw1.2.2.2 ?_⟩, fun h9 => absurd hfit (by omega)⟩ hP hD hS dX2_increase_73
      by_cases hz : car = 0
      · refine Or.inr ?_
        cases u with
        | zero => exact nrm_0 g
        | succ k =>
          refine nrm_of_ge ?_
          have h5 := nrm_ge hn
          rw [hz] at hv
          omega
      · exact Or.inl hz
  · refine lv_iconst (v := nI 0) hx hb dX2_increase_8 (by decide) ?_
    refine dm_zret (v := nI 0) hC (Or.inl rfl) hK (f, u) ⟨fun h9 => ?_, fun _ => ⟨rfl, rfl⟩⟩ hP hD hS dX2_increase_9
    rw [if_pos h9, hc] at h1
    exact absurd h1 (by decide)
end
section
theorem dvb_one {f : Nat → Int32} {u : Nat} (hu : u < 2) : un (wAt f u (nI 0)) = dvb 4294967296 f u := by
  rcases (show u = 0 ∨ u = 1 by omega) with rfl | rfl
  · rw [wAt_ge (by decide) (by decide), un_0]; rfl
  · rw [wAt_in (by decide) (by decide)]; simp [dvb]
theorem lN_wrap {a b : Nat} (h : a < b) (hb : b ≤ 18446744073709551616) : lN a - lN b = lN (18446744073709551616 + a - b) := by
  have h1 : lN (18446744073709551616 + a - b) + lN b = lN a := by
    rw [lN_add, wb_mod (18446744073709551616 + a - b + b), wb_mod a]
    congr 1
    omega
  rw [← h1, Int64.add_sub_cancel]
/-- one step of subtracting -/
theorem dvb_sub_step {f g : Nat → Int32} {i bo bo2 d y : Nat} (h : dvb 4294967296 f i + bo * 4294967296 ^ i = dvb 4294967296 g i + y) (hd : un (f i) + bo2 * 4294967296 = d + bo) :
    dvb 4294967296 f (i + 1) + bo2 * 4294967296 ^ (i + 1) = (dvb 4294967296 g i + d * 4294967296 ^ i) + y := by
  show dvb 4294967296 f i + un (f i) * 4294967296 ^ i + bo2 * 4294967296 ^ (i + 1) = _
  rw [Nat.pow_succ]
  generalize 4294967296 ^ i = P at *
  have h2 : (un (f i) + bo2 * 4294967296) * P = (d + bo) * P := by rw [hd]
  grind

set_option maxRecDepth 100000 in
set_option maxHeartbeats 4000000 in
theorem c_X2_decrease (l : Launch) (D : va_G) (cB cI cC : ClassId) (h a N u y : Nat) (f : Nat → Int32) (hu : u ≤ N) (hNb : N < 2 ^ 31) (hy : y < 4294967296) (hn : nrm f u) : MI l yX2_decrease (Cond.code yX2_decrease cX2_decrease 8 (some .boolean)) 1 D (TY cB cI cC) [.ref h, .long (lN y)] [(h, .inr (2, [.ref a, .int (nI u)])), (a, .inl (cI, N, .inl f))] (S := (Nat → Int32) × Nat) (fun r q => (y ≤ dvb 4294967296 f u → r = 1 ∧ q.2 ≤ N ∧ dvb 4294967296 q.1 q.2 = dvb 4294967296 f u - y ∧ nrm q.1 q.2) ∧ (dvb 4294967296 f u < y → r = 0 ∧ q = (f, u))) (fun q => [(h, .inr (2, [.ref a, .int (nI q.2)])), (a, .inl (cI, N, .inl q.1))]) := by
  refine MI.of (by decide) (Nat.le_of_ble_eq_true rfl) ?_
  intro p e s m below meth c ls A hC hA hP hK hD hS hl
  obtain ⟨hx, hb, hr, hml, hown, hts, hlocks, hN⟩ := id hC
  have hown : s.vm.findClass RX2 = some m.cls := hown
  have hl : lv_has ls 8 [(0, .ref h), (1, .long (lN y))] := hl
  refine dm_cutR (nL := 8) (σ := Unit) 25 (fun _ => y ≤ dvb 4294967296 f u) (fun _ => [(0, .ref h), (1, .long (lN y))]) (fun hJ => ?_) ?_
  · refine lv_aload_n hx hb dX2_decrease_0 rfl (lv_at hl 0 rfl) ?_
    refine va_get (D := D) (ci := 2) (C := RX2) (T := TX2) (N := 2) (v := .int (nI u)) hx hb hts kin_X2_w hown hK hP 0 rfl rfl 1 (by decide) (hts _ kfl_X2_21) (fun _ h9 => h9) rfl dX2_decrease_1 ?_
    refine lv_iconst (v := nI 2) hx hb dX2_decrease_4 (by decide) ?_
    refine dm_icmp_ge (tgt := 25) hx hb (by omega) (by omega) dX2_decrease_5 (by decide) (fun hc => ?_) (fun hc => ?_)
    · refine hJ () ls ?_ hl
      obtain ⟨k, rfl⟩ : ∃ k, u = k + 1 := ⟨u - 1, by omega⟩
      have h5 := nrm_ge hn
      have h6 : 4294967296 ^ 1 ≤ 4294967296 ^ k := Nat.pow_le_pow_right (by decide) (by omega)
      omega
    · refine lv_aload_n hx hb dX2_decrease_8 rfl (lv_at hl 0 rfl) ?_
      refine lv_iconst (v := nI 0) hx hb dX2_decrease_9 (by decide) ?_
      refine dm_gori (dm_rV (n := 1) (As := [.int (nI 0)]) (rest := []) hC hl (c_X2_wordAt l D cB cI cC h a N u f (nI 0) hu hNb s.heap.size) kco_X2_wordAt ki_X2 kim_X2_wordAt kse_X2_wordAt kml_X2_31 (by decide +kernel) ⟨Nat.le_of_ble_eq_true rfl, Nat.le_of_ble_eq_true rfl⟩ rfl rfl ⟨dm_blind, va_recv hK hP (ci := 2) (q0 := 0) rfl rfl, dm_preU hK hP hD hC.2.2.2.2.2.2.2 [0, 1] (by decide) rfl⟩ rfl rfl (Nat.le_of_ble_eq_true rfl) dX2_decrease_10 ⟨Nat.le_of_ble_eq_true rfl, Nat.le_of_ble_eq_true rfl⟩) (fun r0 h0 => ?_)
      subst h0
      have hb0 := un_lt (wAt f u (nI 0))
      refine lv_i2l (v := (wAt f u (nI 0) : Int32).toInt64) hx hb dX2_decrease_13 (rfl) ?_
      refine lv_ldc2 (v := 4294967295) hx hb hown (hts _ kct_X2_34) dX2_decrease_14 ?_
      refine lv_land hx hb dX2_decrease_17 ?_
      refine dm_tl (y := lN (un (wAt f u (nI 0)))) (wl_un _) ?_
      refine lv_lload_n hx hb dX2_decrease_18 rfl (lv_at hl 1 rfl) ?_
      rw [dvb_one hc] at hb0 ⊢
      refine dm_lc_ge (tgt := 25) hx hb (by omega) (by omega) dX2_decrease_19 dX2_decrease_20 (by decide) (fun hd => ?_) (fun hd => ?_)
      · exact hJ () ls hd hl
      · refine lv_iconst (v := nI 0) hx hb dX2_decrease_23 (by decide) ?_
        exact dm_zret (v := nI 0) hC (Or.inl rfl) hK (f, u) ⟨fun h9 => absurd h9 (by omega), fun _ => ⟨rfl, rfl⟩⟩ hP hD hS dX2_decrease_24
  · rintro - ls hle hl
    have hle : y ≤ dvb 4294967296 f u := hle
    refine lv_lload_n hx hb dX2_decrease_25 rfl (lv_at hl 1 rfl) ?_
    refine lv_lstore_n (lv' := [(3, .long (lN y)), (0, .ref h), (1, .long (lN y))]) hx hb dX2_decrease_26 rfl hl (by decide) rfl (fun ls hl => ?_)
    refine lv_iconst (v := nI 0) hx hb dX2_decrease_27 (by decide) ?_
    refine lv_istore (lv' := [(5, .int (nI 0)), (3, .long (lN y)), (0, .ref h), (1, .long (lN y))]) hx hb dX2_decrease_28 hl (by decide) rfl (fun ls hl => ?_)
    refine dm_loop (nL := 8) (head := 30) (P := fun (x : Nat × Nat × (Nat → Int32)) => x.1 ≤ u ∧ x.2.1 < 4294967296 ∧ dvb 4294967296 f x.1 + x.2.1 * 4294967296 ^ x.1 = dvb 4294967296 x.2.2 x.1 + y ∧ ∀ j, x.1 ≤ j → x.2.2 j = f j) (w := fun x => [(h, .inr (2, [.ref a, .int (nI u)])), (a, .inl (cI, N, .inl x.2.2))]) (lv := fun x => [(5, .int (nI x.1)), (3, .long (lN x.2.1)), (0, .ref h), (1, .long (lN y))]) (μ := fun x => u - x.1) ?_ (0, y, f) ⟨Nat.zero_le _, hy, by simp [dvb], fun _ _ => rfl⟩ hP hD hS hl
    rintro ⟨i, bo, g⟩ H locs ls ⟨hi, hbo, hinv, hge⟩ hP hD hS hl ih
    dsimp only at hi hbo hinv hge
    have hP : va_P D vwCl [(h, .inr (2, [.ref a, .int (nI u)])), (a, .inl (cI, N, .inl g))] H := hP
    have hl : lv_has ls 8 [(5, .int (nI i)), (3, .long (lN bo)), (0, .ref h), (1, .long (lN y))] := hl
    refine dm_cutR (nL := 8) (σ := Unit) 90 (fun _ => dvb 4294967296 f u = dvb 4294967296 g u + y) (fun _ => [(5, .int (nI i)), (3, .long (lN bo)), (0, .ref h), (1, .long (lN y))]) (fun hJ => ?_) ?_
    · refine lv_iload hx hb dX2_decrease_30 (lv_at hl 0 rfl) ?_
      refine lv_aload_n hx hb dX2_decrease_32 rfl (lv_at hl 2 rfl) ?_
      refine va_get (D := D) (ci := 2) (C := RX2) (T := TX2) (N := 2) (v := .int (nI u)) hx hb hts kin_X2_w hown hK hP 0 rfl rfl 1 (by decide) (hts _ kfl_X2_21) (fun _ h9 => h9) rfl dX2_decrease_33 ?_
      refine dm_icmp_ge (tgt := 90) hx hb (by omega) (by omega) dX2_decrease_36 (by decide) (fun hd => ?_) (fun hd => ?_)
      · have hiu : i = u := by omega
        subst hiu
        refine hJ () ls ?_ hl
        have h7 := dv32_lt g i
        have h8 : bo = 0 := by
          rcases Nat.eq_zero_or_pos bo with h9 | h9
          · exact h9
          · have h10 : 1 * 4294967296 ^ i ≤ bo * 4294967296 ^ i := Nat.mul_le_mul_right _ h9
            omega
        rw [h8] at hinv
        omega
      · refine lv_lload_n hx hb dX2_decrease_39 rfl (lv_at hl 1 rfl) ?_
        refine lv_lconst (v := lN 0) hx hb dX2_decrease_40 (by decide) ?_
        refine dm_lc_eq (tgt := 90) hx hb (by omega) (by omega) dX2_decrease_41 dX2_decrease_42 (by decide) (fun he => ?_) (fun he => ?_)
        · refine hJ () ls ?_ hl
          have h5 := dv_tail hi hge
          rw [he] at hinv
          omega
        · refine lv_aload_n hx hb dX2_decrease_45 rfl (lv_at hl 2 rfl) ?_
          refine va_get (D := D) (ci := 2) (C := RX2) (T := TX2) (N := 2) (v := .ref a) hx hb hts kin_X2_w hown hK hP 0 rfl rfl 0 (by decide) (hts _ kfl_X2_15) (fun _ h9 => h9) rfl dX2_decrease_46 ?_
          refine lv_iload hx hb dX2_decrease_49 (lv_at hl 0 rfl) ?_
          refine dm_iald (j := i) hx hb hK hP 1 1 rfl rfl (by omega) hNb dX2_decrease_51 ?_
          refine dm_ti (y := f i) (hge i (Nat.le_refl i)) ?_
          have hb1 := un_lt (f i)
          refine lv_i2l (v := (f i : Int32).toInt64) hx hb dX2_decrease_52 (rfl) ?_
          refine lv_ldc2 (v := 4294967295) hx hb hown (hts _ kct_X2_34) dX2_decrease_53 ?_
          refine lv_land hx hb dX2_decrease_56 ?_
          refine dm_tl (y := lN (un (f i))) (wl_un (f i)) ?_
          refine lv_lload_n hx hb dX2_decrease_57 rfl (lv_at hl 1 rfl) ?_
          by_cases hwb : bo ≤ un (f i)
          · refine lv_lsub hx hb dX2_decrease_58 ?_
            refine dm_tl (y := lN (un (f i) - bo)) (lN_sub hwb) ?_
            refine lv_lstore (lv' := [(6, .long (lN (un (f i) - bo))), (5, .int (nI i)), (3, .long (lN bo)), (0, .ref h), (1, .long (lN y))]) hx hb dX2_decrease_59 hl (by decide) rfl (fun ls hl => ?_)
            refine lv_aload_n hx hb dX2_decrease_61 rfl (lv_at hl 3 rfl) ?_
            refine va_get (D := D) (ci := 2) (C := RX2) (T := TX2) (N := 2) (v := .ref a) hx hb hts kin_X2_w hown hK hP 0 rfl rfl 0 (by decide) (hts _ kfl_X2_15) (fun _ h9 => h9) rfl dX2_decrease_62 ?_
            refine lv_iload hx hb dX2_decrease_65 (lv_at hl 1 rfl) ?_
            refine lv_lload hx hb dX2_decrease_67 (lv_at hl 0 rfl) ?_
            refine lv_l2i (v := nI (un (f i) - bo)) hx hb dX2_decrease_69 (lN_low) ?_
            refine dm_iast (j := i) (f' := upd g i (nI (un (f i) - bo))) hx hb hK hP hD hS 1 1 rfl rfl (by omega) hNb (rfl) dX2_decrease_70 (fun H locs hP hD hS => ?_)
            have hP : va_P D vwCl [(h, .inr (2, [.ref a, .int (nI u)])), (a, .inl (cI, N, .inl (upd g i (nI (un (f i) - bo)))))] H := hP
            have hD : va_D A [(h, .inr (2, [.ref a, .int (nI u)])), (a, .inl (cI, N, .inl (upd g i (nI (un (f i) - bo)))))] := hD
            refine lv_lload hx hb dX2_decrease_71 (lv_at hl 0 rfl) ?_
            refine lv_lconst (v := lN 0) hx hb dX2_decrease_73 (by decide) ?_
            refine dm_lc_ge (tgt := 82) hx hb (by omega) (by omega) dX2_decrease_74 dX2_decrease_75 (by decide) (fun hg => ?_) (fun hg => ?_)
            · refine lv_lconst (v := lN 0) hx hb dX2_decrease_82 (by decide) ?_
              refine lv_lstore_n (lv' := [(3, .long (lN 0)), (6, .long (lN (un (f i) - bo))), (5, .int (nI i)), (0, .ref h), (1, .long (lN y))]) hx hb dX2_decrease_83 rfl hl (by decide) rfl (fun ls hl => ?_)
              refine lv_iinc (v := nI (i + 1)) (lv' := [(5, .int (nI (i + 1))), (3, .long (lN 0)), (6, .long (lN (un (f i) - bo))), (0, .ref h), (1, .long (lN y))]) hx hb dX2_decrease_84 hl (k := 2) rfl ((nI_succ i).symm) (by decide) rfl (fun ls hl => ?_)
              refine lv_goto (tgt := 30) hx hb dX2_decrease_87 (by decide) ?_
              refine ih (i + 1, 0, upd g i (nI (un (f i) - bo))) H locs ls (by show u - (i + 1) < u - i; omega) ⟨by show i + 1 ≤ u; omega, by show 0 < _; omega, ?_, fun j hj => ?_⟩ hP hD hS (lv_sub hl [0, 1, 3, 4] rfl)
              · show dvb 4294967296 f (i + 1) + 0 * 4294967296 ^ (i + 1) = dvb 4294967296 (upd g i _) i + un (upd g i _ i) * 4294967296 ^ i + y
                rw [dvb_upd (Nat.le_refl i), pk_us, un_mod]
                exact dvb_sub_step hinv (by omega)
              · show upd g i _ j = f j
                have hj : i + 1 ≤ j := hj
                rw [pk_un (by omega)]
                exact hge j (by omega)
            · exact absurd hg (Nat.not_lt_zero _)
          · refine lv_lsub hx hb dX2_decrease_58 ?_
            refine dm_tl (y := lN (18446744073709551616 + un (f i) - bo)) (lN_wrap (by omega) (by omega)) ?_
            refine lv_lstore (lv' := [(6, .long (lN (18446744073709551616 + un (f i) - bo))), (5, .int (nI i)), (3, .long (lN bo)), (0, .ref h), (1, .long (lN y))]) hx hb dX2_decrease_59 hl (by decide) rfl (fun ls hl => ?_)
            refine lv_aload_n hx hb dX2_decrease_61 rfl (lv_at hl 3 rfl) ?_
            refine va_get (D := D) (ci := 2) (C := RX2) (T := TX2) (N := 2) (v := .ref a) hx hb hts kin_X2_w hown hK hP 0 rfl rfl 0 (by decide) (hts _ kfl_X2_15) (fun _ h9 => h9) rfl dX2_decrease_62 ?_
            refine lv_iload hx hb dX2_decrease_65 (lv_at hl 1 rfl) ?_
            refine lv_lload hx hb dX2_decrease_67 (lv_at hl 0 rfl) ?_
            refine lv_l2i (v := nI (18446744073709551616 + un (f i) - bo)) hx hb dX2_decrease_69 (lN_low) ?_
            refine dm_iast (j := i) (f' := upd g i (nI (18446744073709551616 + un (f i) - bo))) hx hb hK hP hD hS 1 1 rfl rfl (by omega) hNb (rfl) dX2_decrease_70 (fun H locs hP hD hS => ?_)
            have hP : va_P D vwCl [(h, .inr (2, [.ref a, .int (nI u)])), (a, .inl (cI, N, .inl (upd g i (nI (18446744073709551616 + un (f i) - bo)))))] H := hP
            have hD : va_D A [(h, .inr (2, [.ref a, .int (nI u)])), (a, .inl (cI, N, .inl (upd g i (nI (18446744073709551616 + un (f i) - bo)))))] := hD
            refine lv_lload hx hb dX2_decrease_71 (lv_at hl 0 rfl) ?_
            refine lv_lconst (v := lN 0) hx hb dX2_decrease_73 (by decide) ?_
            refine W.lcmp hx hb dX2_decrease_74 ?_
            refine dm_ti (y := lg_cmp (lN (18446744073709551616 + un (f i) - bo)) (lN 0)) (rfl) ?_
            refine lv_if_ge (tgt := 82) hx hb dX2_decrease_75 (by decide) (fun hg => ?_) (fun hg => ?_)
            · exact absurd ((lg_cmp_ge _ _).mp hg) (Int64.not_le.mpr (lN_neg (by omega) (by omega)))
            · refine lv_lconst (v := lN 1) hx hb dX2_decrease_78 (by decide) ?_
              refine lv_goto (tgt := 83) hx hb dX2_decrease_79 (by decide) ?_
              refine lv_lstore_n (lv' := [(3, .long (lN 1)), (6, .long (lN (18446744073709551616 + un (f i) - bo))), (5, .int (nI i)), (0, .ref h), (1, .long (lN y))]) hx hb dX2_decrease_83 rfl hl (by decide) rfl (fun ls hl => ?_)
              refine lv_iinc (v := nI (i + 1)) (lv' := [(5, .int (nI (i + 1))), (3, .long (lN 1)), (6, .long (lN (18446744073709551616 + un (f i) - bo))), (0, .ref h), (1, .long (lN y))]) hx hb dX2_decrease_84 hl (k := 2) rfl ((nI_succ i).symm) (by decide) rfl (fun ls hl => ?_)
              refine lv_goto (tgt := 30) hx hb dX2_decrease_87 (by decide) ?_
              refine ih (i + 1, 1, upd g i (nI (18446744073709551616 + un (f i) - bo))) H locs ls (by show u - (i + 1) < u - i; omega) ⟨by show i + 1 ≤ u; omega, by show 1 < _; omega, ?_, fun j hj => ?_⟩ hP hD hS (lv_sub hl [0, 1, 3, 4] rfl)
              · show dvb 4294967296 f (i + 1) + 1 * 4294967296 ^ (i + 1) = dvb 4294967296 (upd g i _) i + un (upd g i _ i) * 4294967296 ^ i + y
                rw [dvb_upd (Nat.le_refl i), pk_us, un_mod]
                exact dvb_sub_step hinv (by omega)
              · show upd g i _ j = f j
                have hj : i + 1 ≤ j := hj
                rw [pk_un (by omega)]
                exact hge j (by omega)
    · rintro - ls hv hl
      have hv : dvb 4294967296 f u = dvb 4294967296 g u + y := hv
      refine lv_aload_n hx hb dX2_decrease_90 rfl (lv_at hl 2 rfl) ?_
      refine dm_gov (wr := []) (dm_rV (n := 0) (As := []) (rest := []) hC hl (c_X2_dropZeros l D cB cI cC 4294967296 h a N u g hu hNb H.size) kco_X2_dropZeros ki_X2 kim_X2_dropZeros kse_X2_dropZeros kml_X2_68 (by decide +kernel) ⟨Nat.le_of_ble_eq_true rfl, Nat.le_of_ble_eq_true rfl⟩ rfl rfl ⟨dm_blind, va_recv hK hP (ci := 2) (q0 := 0) rfl rfl, dm_preU hK hP hD hC.2.2.2.2.2.2.2 [0, 1] (by decide) rfl⟩ rfl rfl (Nat.le_of_ble_eq_true rfl) dX2_decrease_91 ⟨Nat.le_of_ble_eq_true rfl, Nat.le_of_ble_eq_true rfl⟩) hP hD hS hA [0, 1] [] rfl rfl (by decide) (by decide) (fun u2 H locs hw hP hD hS => ?_)
      have hP : va_P D vwCl [(h, .inr (2, [.ref a, .int (nI u2)])), (a, .inl (cI, N, .inl g))] H := hP
      have hD : va_D A [(h, .inr (2, [.ref a, .int (nI u2)])), (a, .inl (cI, N, .inl g))] := hD
      refine lv_iconst (v := nI 1) hx hb dX2_decrease_94 (by decide) ?_
      exact dm_zret (v := nI 1) hC (Or.inr rfl) hK (g, u2) ⟨fun _ => ⟨rfl, by show u2 ≤ N; omega, by show dvb _ g u2 = _; rw [hw.2.1]; omega, hw.2.2⟩, fun h9 => absurd h9 (by omega)⟩ hP hD hS dX2_decrease_95
end
section
/-- the squares of the single words -/
def sqs (g : Nat → Int32) : Nat → Nat
  | 0 => 0
  | n + 1 => sqs g n + un (g n) * un (g n) * 4294967296 ^ (2 * n)
theorem prod_step {F f g : Nat → Int32} {i j ai car sm : Nat} (h : dvb 4294967296 F (i + j) + car * 4294967296 ^ (i + j) + ai * 4294967296 ^ i * dvb 4294967296 g (i + 1) = dvb 4294967296 f (i + j) + ai * 4294967296 ^ i * dvb 4294967296 g j) (hs : sm = ai * un (g j) + un (f (i + j)) + car) :
    (dvb 4294967296 F (i + j) + sm % 4294967296 * 4294967296 ^ (i + j)) + sm / 4294967296 * 4294967296 ^ (i + j + 1) + ai * 4294967296 ^ i * dvb 4294967296 g (i + 1) = dvb 4294967296 f (i + j + 1) + ai * 4294967296 ^ i * dvb 4294967296 g (j + 1) := by
  show _ = dvb 4294967296 f (i + j) + un (f (i + j)) * 4294967296 ^ (i + j) + ai * 4294967296 ^ i * (dvb 4294967296 g j + un (g j) * 4294967296 ^ j)
  have h1 := Nat.div_add_mod sm 4294967296
  rw [Nat.pow_succ, Nat.pow_add] at *
  generalize sm / 4294967296 = q at *
  generalize sm % 4294967296 = r at *
  generalize 4294967296 ^ i = P at *
  generalize 4294967296 ^ j = R at *
  have h2 : r * (P * R) + q * (P * R * 4294967296) = sm * (P * R) := by rw [← h1]; grind
  rw [hs] at h2
  grind
theorem dbl_step {F f g : Nat → Int32} {i car lo hi : Nat} (h : dvb 4294967296 F (2 * i) + car * 4294967296 ^ (2 * i) = 2 * dvb 4294967296 f (2 * i) + sqs g i)
    (hlo : lo = 2 * un (f (2 * i)) + un (g i) * un (g i) % 4294967296 + car) (hhi : hi = 2 * un (f (2 * i + 1)) + un (g i) * un (g i) / 4294967296 + lo / 4294967296) :
    dvb 4294967296 F (2 * i) + lo % 4294967296 * 4294967296 ^ (2 * i) + hi % 4294967296 * 4294967296 ^ (2 * i + 1) + hi / 4294967296 * 4294967296 ^ (2 * (i + 1)) = 2 * dvb 4294967296 f (2 * (i + 1)) + sqs g (i + 1) := by
  have ef : dvb 4294967296 f (2 * (i + 1)) = dvb 4294967296 f (2 * i) + un (f (2 * i)) * 4294967296 ^ (2 * i) + un (f (2 * i + 1)) * 4294967296 ^ (2 * i + 1) := by rw [show 2 * (i + 1) = 2 * i + 1 + 1 by omega]; rfl
  have es : sqs g (i + 1) = sqs g i + un (g i) * un (g i) * 4294967296 ^ (2 * i) := rfl
  rw [ef, es]
  have h1 := Nat.div_add_mod lo 4294967296
  have h2 := Nat.div_add_mod hi 4294967296
  have h3 := Nat.div_add_mod (un (g i) * un (g i)) 4294967296
  have hQ : 4294967296 ^ (2 * i + 1) = 4294967296 ^ (2 * i) * 4294967296 := Nat.pow_succ ..
  have hR : 4294967296 ^ (2 * i + 1 + 1) = 4294967296 ^ (2 * i + 1) * 4294967296 := Nat.pow_succ ..
  rw [show 2 * (i + 1) = 2 * i + 1 + 1 by omega]
  clear ef es
  generalize 4294967296 ^ (2 * i + 1 + 1) = R at *
  generalize 4294967296 ^ (2 * i + 1) = Q at *
  generalize 4294967296 ^ (2 * i) = P at *
  generalize un (g i) * un (g i) = o at *
  generalize lo / 4294967296 = l1 at *
  generalize lo % 4294967296 = l0 at *
  generalize hi / 4294967296 = k1 at *
  generalize hi % 4294967296 = k0 at *
  generalize o / 4294967296 = o1 at *
  generalize o % 4294967296 = o0 at *
  have e1 : l0 * P + l1 * Q = lo * P := by rw [← h1, hQ]; grind
  have e2 : k0 * Q + k1 * R = hi * Q := by rw [← h2, hR]; grind
  have e3 : o * P = o1 * Q + o0 * P := by rw [← h3, hQ]; grind
  clear h1 h2 h3 hQ hR
  rw [hlo, Nat.add_mul, Nat.add_mul, Nat.mul_assoc] at e1
  rw [hhi, Nat.add_mul, Nat.add_mul, Nat.mul_assoc] at e2
  omega
theorem dvb_mono {f : Nat → Int32} {i n : Nat} (h : i ≤ n) : ∃ t, dvb 4294967296 f n = dvb 4294967296 f i + t := by
  obtain ⟨k, rfl⟩ : ∃ k, n = i + k := ⟨n - i, by omega⟩
  exact ⟨_, dvb_split⟩
theorem dvb_zero {b : Nat} {f : Nat → Int32} : ∀ {n : Nat}, (∀ j, j < n → f j = 0) → dvb b f n = 0
  | 0, _ => rfl
  | n + 1, h => by
    show dvb b f n + un (f n) * b ^ n = 0
    rw [dvb_zero (fun j hj => h j (by omega)), h n (by omega), un_0]
    omega
theorem sq_step {x x' A T ai P t : Nat} (h1 : x' + ai * P * (A + ai * P) = x + ai * P * T) (hT : T = A + ai * P + t) {sq TT : Nat} (h2 : 2 * x + sq + (ai * P + t) * (ai * P + t) = TT) : 2 * x' + (sq + ai * ai * (P * P)) + t * t = TT := by
  have h3 : x' = x + ai * P * t := by
    have h4 : ai * P * T = ai * P * (A + ai * P) + ai * P * t := by rw [hT, Nat.mul_add]
    omega
  rw [h3, ← h2]
  grind

set_option maxRecDepth 100000 in
set_option maxHeartbeats 4000000 in
theorem c_X2_addProductsAbove (l : Launch) (D : va_G) (cB cI cC : ClassId) (h a a2 N u i n : Nat) (f g : Nat → Int32) (hi : i < n) (hn : 2 * n ≤ N) (hNb : N < 2 ^ 31) (hz : f (i + n) = 0) : MV l yX2_addProductsAbove (Cond.code yX2_addProductsAbove cX2_addProductsAbove 11 none) 0 D (TY cB cI cC) [.ref h, .int (nI i), .ref a2, .int (nI n)] [(h, .inr (2, [.ref a, .int (nI u)])), (a, .inl (cI, N, .inl f)), (a2, .inl (cI, N, .inl g))] (S := Nat → Int32) (fun f2 => (∀ k, i + n + 1 ≤ k → f2 k = f k) ∧ dvb 4294967296 f2 (2 * n) + un (g i) * 4294967296 ^ i * dvb 4294967296 g (i + 1) = dvb 4294967296 f (2 * n) + un (g i) * 4294967296 ^ i * dvb 4294967296 g n) (fun f2 => [(h, .inr (2, [.ref a, .int (nI u)])), (a, .inl (cI, N, .inl f2)), (a2, .inl (cI, N, .inl g))]) := by
  refine MV.of (by decide) (Nat.le_of_ble_eq_true rfl) ?_
  intro p e s m below meth c ls A hC hA hP hK hD hS hl
  obtain ⟨hx, hb, hr, hml, hown, hts, hlocks, hN⟩ := id hC
  have hown : s.vm.findClass RX2 = some m.cls := hown
  have hl : lv_has ls 11 [(0, .ref h), (1, .int (nI i)), (2, .ref a2), (3, .int (nI n))] := hl
  refine lv_aload_n hx hb dX2_addProductsAbove_0 rfl (lv_at hl 2 rfl) ?_
  refine lv_iload_n hx hb dX2_addProductsAbove_1 rfl (lv_at hl 1 rfl) ?_
  refine dm_iald (j := i) hx hb hK hP 2 1 rfl rfl (by omega) hNb dX2_addProductsAbove_2 ?_
  have hbi := un_lt (g i)
  refine lv_i2l (v := ((g i) : Int32).toInt64) hx hb dX2_addProductsAbove_3 (rfl) ?_
  refine lv_ldc2 (v := 4294967295) hx hb hown (hts _ kct_X2_34) dX2_addProductsAbove_4 ?_
  refine lv_land hx hb dX2_addProductsAbove_7 ?_
  refine dm_tl (y := lN (un (g i))) (wl_un _) ?_
  refine lv_lstore (lv' := [(4, .long (lN (un (g i)))), (0, .ref h), (1, .int (nI i)), (2, .ref a2), (3, .int (nI n))]) hx hb dX2_addProductsAbove_8 hl (by decide) rfl (fun ls hl => ?_)
  refine lv_lload hx hb dX2_addProductsAbove_10 (lv_at hl 0 rfl) ?_
  refine lv_lconst (v := lN 0) hx hb dX2_addProductsAbove_12 (by decide) ?_
  refine dm_lc_ne (tgt := 18) hx hb (by omega) (by omega) dX2_addProductsAbove_13 dX2_addProductsAbove_14 (by decide) (fun hc => ?_) (fun hc => ?_)
  · refine lv_lconst (v := lN 0) hx hb dX2_addProductsAbove_18 (by decide) ?_
    refine lv_lstore (lv' := [(6, .long (lN 0)), (4, .long (lN (un (g i)))), (0, .ref h), (1, .int (nI i)), (2, .ref a2), (3, .int (nI n))]) hx hb dX2_addProductsAbove_19 hl (by decide) rfl (fun ls hl => ?_)
    refine lv_iload_n hx hb dX2_addProductsAbove_21 rfl (lv_at hl 3 rfl) ?_
    refine lv_iconst (v := nI 1) hx hb dX2_addProductsAbove_22 (by decide) ?_
    refine lv_iadd hx hb dX2_addProductsAbove_23 ?_
    refine dm_ti (y := nI (i + 1)) (nI_1 i) ?_
    refine lv_istore (lv' := [(8, .int (nI (i + 1))), (6, .long (lN 0)), (4, .long (lN (un (g i)))), (0, .ref h), (1, .int (nI i)), (2, .ref a2), (3, .int (nI n))]) hx hb dX2_addProductsAbove_24 hl (by decide) rfl (fun ls hl => ?_)
    refine dm_loop (nL := 11) (head := 26) (P := fun (x : Nat × Nat × (Nat → Int32)) => i + 1 ≤ x.1 ∧ x.1 ≤ n ∧ x.2.1 < 4294967296 ∧ (dvb 4294967296 x.2.2 (i + x.1) + x.2.1 * 4294967296 ^ (i + x.1) + un (g i) * 4294967296 ^ i * dvb 4294967296 g (i + 1) = dvb 4294967296 f (i + x.1) + un (g i) * 4294967296 ^ i * dvb 4294967296 g x.1) ∧ ∀ k, i + x.1 ≤ k → x.2.2 k = f k) (w := fun x => [(h, .inr (2, [.ref a, .int (nI u)])), (a, .inl (cI, N, .inl x.2.2)), (a2, .inl (cI, N, .inl g))]) (lv := fun x => [(8, .int (nI x.1)), (6, .long (lN x.2.1)), (4, .long (lN (un (g i)))), (0, .ref h), (1, .int (nI i)), (2, .ref a2), (3, .int (nI n))]) (μ := fun x => n - x.1) ?_ (i + 1, 0, f) ⟨Nat.le_refl _, hi, by show 0 < 4294967296; decide, by dsimp only; omega, fun _ _ => rfl⟩ hP hD hS hl
    rintro ⟨j, car, F⟩ H locs ls ⟨hj1, hj2, hcar, hinv, hge⟩ hP hD hS hl ih
    dsimp only at hj1 hj2 hcar hinv hge
    have hP : va_P D vwCl [(h, .inr (2, [.ref a, .int (nI u)])), (a, .inl (cI, N, .inl F)), (a2, .inl (cI, N, .inl g))] H := hP
    have hl : lv_has ls 11 [(8, .int (nI j)), (6, .long (lN car)), (4, .long (lN (un (g i)))), (0, .ref h), (1, .int (nI i)), (2, .ref a2), (3, .int (nI n))] := hl
    refine lv_iload hx hb dX2_addProductsAbove_26 (lv_at hl 0 rfl) ?_
    refine lv_iload_n hx hb dX2_addProductsAbove_28 rfl (lv_at hl 6 rfl) ?_
    refine dm_icmp_ge (tgt := 89) hx hb (by omega) (by omega) dX2_addProductsAbove_29 (by decide) (fun hd => ?_) (fun hd => ?_)
    · have hjn : j = n := by omega
      subst hjn
      refine lv_aload_n hx hb dX2_addProductsAbove_89 rfl (lv_at hl 3 rfl) ?_
      refine va_get (D := D) (ci := 2) (C := RX2) (T := TX2) (N := 2) (v := .ref a) hx hb hts kin_X2_w hown hK hP 0 rfl rfl 0 (by decide) (hts _ kfl_X2_15) (fun _ h9 => h9) rfl dX2_addProductsAbove_90 ?_
      refine lv_iload_n hx hb dX2_addProductsAbove_93 rfl (lv_at hl 4 rfl) ?_
      refine lv_iload_n hx hb dX2_addProductsAbove_94 rfl (lv_at hl 6 rfl) ?_
      refine lv_iadd hx hb dX2_addProductsAbove_95 ?_
      refine dm_ti (y := nI (i + j)) (nI_add i j) ?_
      refine lv_lload hx hb dX2_addProductsAbove_96 (lv_at hl 1 rfl) ?_
      refine lv_l2i (v := nI car) hx hb dX2_addProductsAbove_98 (lN_low) ?_
      refine dm_iast (j := (i + j)) (f' := upd F (i + j) (nI car)) hx hb hK hP hD hS 1 1 rfl rfl (by omega) hNb (rfl) dX2_addProductsAbove_99 (fun H locs hP hD hS => ?_)
      have hP : va_P D vwCl [(h, .inr (2, [.ref a, .int (nI u)])), (a, .inl (cI, N, .inl (upd F (i + j) (nI car)))), (a2, .inl (cI, N, .inl g))] H := hP
      have hD : va_D A [(h, .inr (2, [.ref a, .int (nI u)])), (a, .inl (cI, N, .inl (upd F (i + j) (nI car)))), (a2, .inl (cI, N, .inl g))] := hD
      refine dm_vret hC hK (upd F (i + j) (nI car)) ⟨fun k hk => by rw [pk_un (by omega)]; exact hge k (by omega), ?_⟩ hP hD hS dX2_addProductsAbove_100
      have h5 := dv_tail (f := f) (g := upd F (i + j) (nI car)) (i := i + j + 1) (u := 2 * j) (by omega) (fun k hk => by rw [pk_un (by omega)]; exact hge k (by omega))
      have h6 : dvb 4294967296 (upd F (i + j) (nI car)) (i + j + 1) = dvb 4294967296 F (i + j) + car * 4294967296 ^ (i + j) := by
        show dvb 4294967296 (upd F (i + j) (nI car)) (i + j) + un (upd F (i + j) (nI car) (i + j)) * _ = _
        rw [dvb_upd (Nat.le_refl _), pk_us, un_nI hcar]
      have h7 : dvb 4294967296 f (i + j + 1) = dvb 4294967296 f (i + j) := by
        show dvb 4294967296 f (i + j) + un (f (i + j)) * _ = _
        rw [hz, un_0]; omega
      omega
    · refine lv_lload hx hb dX2_addProductsAbove_32 (lv_at hl 2 rfl) ?_
      refine lv_aload_n hx hb dX2_addProductsAbove_34 rfl (lv_at hl 5 rfl) ?_
      refine lv_iload hx hb dX2_addProductsAbove_35 (lv_at hl 0 rfl) ?_
      refine dm_iald (j := j) hx hb hK hP 2 1 rfl rfl (by omega) hNb dX2_addProductsAbove_37 ?_
      have hbj := un_lt (g j)
      have hbf := un_lt (f (i + j))
      refine lv_i2l (v := ((g j) : Int32).toInt64) hx hb dX2_addProductsAbove_38 (rfl) ?_
      refine lv_ldc2 (v := 4294967295) hx hb hown (hts _ kct_X2_34) dX2_addProductsAbove_39 ?_
      refine lv_land hx hb dX2_addProductsAbove_42 ?_
      refine dm_tl (y := lN (un (g j))) (wl_un _) ?_
      refine lv_lmul hx hb dX2_addProductsAbove_43 ?_
      refine dm_tl (y := lN (un (g i) * un (g j))) (lN_mul _ _) ?_
      refine lv_aload_n hx hb dX2_addProductsAbove_44 rfl (lv_at hl 3 rfl) ?_
      refine va_get (D := D) (ci := 2) (C := RX2) (T := TX2) (N := 2) (v := .ref a) hx hb hts kin_X2_w hown hK hP 0 rfl rfl 0 (by decide) (hts _ kfl_X2_15) (fun _ h9 => h9) rfl dX2_addProductsAbove_45 ?_
      refine lv_iload_n hx hb dX2_addProductsAbove_48 rfl (lv_at hl 4 rfl) ?_
      refine lv_iload hx hb dX2_addProductsAbove_49 (lv_at hl 0 rfl) ?_
      refine lv_iadd hx hb dX2_addProductsAbove_51 ?_
      refine dm_ti (y := nI (i + j)) (nI_add i j) ?_
      refine dm_iald (j := (i + j)) hx hb hK hP 1 1 rfl rfl (by omega) hNb dX2_addProductsAbove_52 ?_
      refine dm_ti (y := f (i + j)) (hge (i + j) (Nat.le_refl _)) ?_
      obtain ⟨sm, hsm⟩ : ∃ z, z = un (g i) * un (g j) + un (f (i + j)) + car := ⟨_, rfl⟩
      have hb1 : sm < 18446744073709551616 := by
        have h1 : un (g i) * un (g j) ≤ 4294967295 * 4294967295 := Nat.mul_le_mul (by omega) (by omega)
        omega
      refine lv_i2l (v := (f (i + j) : Int32).toInt64) hx hb dX2_addProductsAbove_53 (rfl) ?_
      refine lv_ldc2 (v := 4294967295) hx hb hown (hts _ kct_X2_34) dX2_addProductsAbove_54 ?_
      refine lv_land hx hb dX2_addProductsAbove_57 ?_
      refine dm_tl (y := lN (un (f (i + j)))) (wl_un _) ?_
      refine lv_ladd hx hb dX2_addProductsAbove_58 ?_
      refine dm_tl (y := lN (un (g i) * un (g j) + un (f (i + j)))) (lN_add _ _) ?_
      refine lv_lload hx hb dX2_addProductsAbove_59 (lv_at hl 1 rfl) ?_
      refine lv_ladd hx hb dX2_addProductsAbove_61 ?_
      refine dm_tl (y := lN sm) (by rw [hsm]; exact lN_add _ _) ?_
      refine lv_lstore (lv' := [(9, .long (lN sm)), (8, .int (nI j)), (6, .long (lN car)), (4, .long (lN (un (g i)))), (0, .ref h), (1, .int (nI i)), (2, .ref a2), (3, .int (nI n))]) hx hb dX2_addProductsAbove_62 hl (by decide) rfl (fun ls hl => ?_)
      refine lv_aload_n hx hb dX2_addProductsAbove_64 rfl (lv_at hl 4 rfl) ?_
      refine va_get (D := D) (ci := 2) (C := RX2) (T := TX2) (N := 2) (v := .ref a) hx hb hts kin_X2_w hown hK hP 0 rfl rfl 0 (by decide) (hts _ kfl_X2_15) (fun _ h9 => h9) rfl dX2_addProductsAbove_65 ?_
      refine lv_iload_n hx hb dX2_addProductsAbove_68 rfl (lv_at hl 5 rfl) ?_
      refine lv_iload hx hb dX2_addProductsAbove_69 (lv_at hl 1 rfl) ?_
      refine lv_iadd hx hb dX2_addProductsAbove_71 ?_
      refine dm_ti (y := nI (i + j)) (nI_add i j) ?_
      refine lv_lload hx hb dX2_addProductsAbove_72 (lv_at hl 0 rfl) ?_
      refine lv_l2i (v := nI sm) hx hb dX2_addProductsAbove_74 (lN_low) ?_
      refine dm_iast (j := (i + j)) (f' := upd F (i + j) (nI sm)) hx hb hK hP hD hS 1 1 rfl rfl (by omega) hNb (rfl) dX2_addProductsAbove_75 (fun H locs hP hD hS => ?_)
      have hP : va_P D vwCl [(h, .inr (2, [.ref a, .int (nI u)])), (a, .inl (cI, N, .inl (upd F (i + j) (nI sm)))), (a2, .inl (cI, N, .inl g))] H := hP
      have hD : va_D A [(h, .inr (2, [.ref a, .int (nI u)])), (a, .inl (cI, N, .inl (upd F (i + j) (nI sm)))), (a2, .inl (cI, N, .inl g))] := hD
      refine lv_lload hx hb dX2_addProductsAbove_76 (lv_at hl 0 rfl) ?_
      refine lv_bipush (v := nI 32) hx hb dX2_addProductsAbove_78 (by decide) ?_
      refine lv_lushr (v := lN (sm / 4294967296)) hx hb dX2_addProductsAbove_80 (wl_hi hb1) ?_
      refine lv_lstore (lv' := [(6, .long (lN (sm / 4294967296))), (9, .long (lN sm)), (8, .int (nI j)), (4, .long (lN (un (g i)))), (0, .ref h), (1, .int (nI i)), (2, .ref a2), (3, .int (nI n))]) hx hb dX2_addProductsAbove_81 hl (by decide) rfl (fun ls hl => ?_)
      refine lv_iinc (v := nI (j + 1)) (lv' := [(8, .int (nI (j + 1))), (6, .long (lN (sm / 4294967296))), (9, .long (lN sm)), (4, .long (lN (un (g i)))), (0, .ref h), (1, .int (nI i)), (2, .ref a2), (3, .int (nI n))]) hx hb dX2_addProductsAbove_83 hl (k := 2) rfl ((nI_succ j).symm) (by decide) rfl (fun ls hl => ?_)
      refine lv_goto (tgt := 26) hx hb dX2_addProductsAbove_86 (by decide) ?_
      refine ih (j + 1, sm / 4294967296, upd F (i + j) (nI sm)) H locs ls (by show n - (j + 1) < n - j; omega) ⟨by show i + 1 ≤ j + 1; omega, by show j + 1 ≤ n; omega, by show _ / _ < _; omega, ?_, fun k hk => ?_⟩ hP hD hS (lv_sub hl [0, 1, 3, 4, 5, 6, 7] rfl)
      · show dvb 4294967296 (upd F (i + j) _) (i + j) + un (upd F (i + j) _ (i + j)) * 4294967296 ^ (i + j) + _ * 4294967296 ^ (i + j + 1) + _ = _
        rw [dvb_upd (Nat.le_refl _), pk_us, un_mod]
        exact prod_step hinv hsm
      · show upd F (i + j) _ k = f k
        have hk : i + (j + 1) ≤ k := hk
        rw [pk_un (by omega)]
        exact hge k (by omega)
  · exact dm_vret hC hK f ⟨fun _ _ => rfl, by rw [hc]; omega⟩ hP hD hS dX2_addProductsAbove_17

set_option maxRecDepth 100000 in
set_option maxHeartbeats 4000000 in
theorem c_X2_doubleAndAddSquares (l : Launch) (D : va_G) (cB cI cC : ClassId) (h a a2 N u n : Nat) (f g : Nat → Int32) (hn : 2 * n ≤ N) (hNb : N < 2 ^ 31) (hfit : 2 * dvb 4294967296 f (2 * n) + sqs g n < 4294967296 ^ (2 * n)) : MV l yX2_doubleAndAddSquares (Cond.code yX2_doubleAndAddSquares cX2_doubleAndAddSquares 12 none) 0 D (TY cB cI cC) [.ref h, .ref a2, .int (nI n)] [(h, .inr (2, [.ref a, .int (nI u)])), (a, .inl (cI, N, .inl f)), (a2, .inl (cI, N, .inl g))] (S := Nat → Int32) (fun f2 => dvb 4294967296 f2 (2 * n) = 2 * dvb 4294967296 f (2 * n) + sqs g n) (fun f2 => [(h, .inr (2, [.ref a, .int (nI u)])), (a, .inl (cI, N, .inl f2)), (a2, .inl (cI, N, .inl g))]) := by
  refine MV.of (by decide) (Nat.le_of_ble_eq_true rfl) ?_
  intro p e s m below meth c ls A hC hA hP hK hD hS hl
  obtain ⟨hx, hb, hr, hml, hown, hts, hlocks, hN⟩ := id hC
  have hown : s.vm.findClass RX2 = some m.cls := hown
  have hl : lv_has ls 12 [(0, .ref h), (1, .ref a2), (2, .int (nI n))] := hl
  refine lv_lconst (v := lN 0) hx hb dX2_doubleAndAddSquares_0 (by decide) ?_
  refine lv_lstore_n (lv' := [(3, .long (lN 0)), (0, .ref h), (1, .ref a2), (2, .int (nI n))]) hx hb dX2_doubleAndAddSquares_1 rfl hl (by decide) rfl (fun ls hl => ?_)
  refine lv_iconst (v := nI 0) hx hb dX2_doubleAndAddSquares_2 (by decide) ?_
  refine lv_istore (lv' := [(5, .int (nI 0)), (3, .long (lN 0)), (0, .ref h), (1, .ref a2), (2, .int (nI n))]) hx hb dX2_doubleAndAddSquares_3 hl (by decide) rfl (fun ls hl => ?_)
  refine dm_loop (nL := 12) (head := 5) (P := fun (x : Nat × Nat × (Nat → Int32)) => x.1 ≤ n ∧ x.2.1 < 4294967296 ∧ (dvb 4294967296 x.2.2 (2 * x.1) + x.2.1 * 4294967296 ^ (2 * x.1) = 2 * dvb 4294967296 f (2 * x.1) + sqs g x.1) ∧ ∀ k, 2 * x.1 ≤ k → x.2.2 k = f k) (w := fun x => [(h, .inr (2, [.ref a, .int (nI u)])), (a, .inl (cI, N, .inl x.2.2)), (a2, .inl (cI, N, .inl g))]) (lv := fun x => [(5, .int (nI x.1)), (3, .long (lN x.2.1)), (0, .ref h), (1, .ref a2), (2, .int (nI n))]) (μ := fun x => n - x.1) ?_ (0, 0, f) ⟨Nat.zero_le _, by show 0 < 4294967296; decide, by simp [dvb, sqs], fun _ _ => rfl⟩ hP hD hS hl
  rintro ⟨i, car, F⟩ H locs ls ⟨hi, hcar, hinv, hge⟩ hP hD hS hl ih
  dsimp only at hi hcar hinv hge
  have hP : va_P D vwCl [(h, .inr (2, [.ref a, .int (nI u)])), (a, .inl (cI, N, .inl F)), (a2, .inl (cI, N, .inl g))] H := hP
  have hl : lv_has ls 12 [(5, .int (nI i)), (3, .long (lN car)), (0, .ref h), (1, .ref a2), (2, .int (nI n))] := hl
  refine lv_iload hx hb dX2_doubleAndAddSquares_5 (lv_at hl 0 rfl) ?_
  refine lv_iload_n hx hb dX2_doubleAndAddSquares_7 rfl (lv_at hl 4 rfl) ?_
  refine dm_icmp_ge (tgt := 133) hx hb (by omega) (by omega) dX2_doubleAndAddSquares_8 (by decide) (fun hd => ?_) (fun hd => ?_)
  · have hin : i = n := by omega
    subst hin
    refine dm_vret hC hK F ?_ hP hD hS dX2_doubleAndAddSquares_133
    have h8 : car = 0 := by
      rcases Nat.eq_zero_or_pos car with h9 | h9
      · exact h9
      · have h10 : 1 * 4294967296 ^ (2 * i) ≤ car * 4294967296 ^ (2 * i) := Nat.mul_le_mul_right _ h9
        omega
    rw [h8] at hinv
    omega
  · have hbg := un_lt (g i)
    have hb0 := un_lt (f (2 * i))
    have hb1 := un_lt (f (2 * i + 1))
    have hoo : un (g i) * un (g i) < 18446744073709551616 := by
      have h1 : un (g i) * un (g i) ≤ 4294967295 * 4294967295 := Nat.mul_le_mul (by omega) (by omega)
      omega
    obtain ⟨lo, hlo⟩ : ∃ z, z = 2 * un (f (2 * i)) + un (g i) * un (g i) % 4294967296 + car := ⟨_, rfl⟩
    obtain ⟨hi2, hhi⟩ : ∃ z, z = 2 * un (f (2 * i + 1)) + un (g i) * un (g i) / 4294967296 + lo / 4294967296 := ⟨_, rfl⟩
    refine lv_aload_n hx hb dX2_doubleAndAddSquares_11 rfl (lv_at hl 3 rfl) ?_
    refine lv_iload hx hb dX2_doubleAndAddSquares_12 (lv_at hl 0 rfl) ?_
    refine dm_iald (j := i) hx hb hK hP 2 1 rfl rfl (by omega) hNb dX2_doubleAndAddSquares_14 ?_
    refine lv_i2l (v := ((g i) : Int32).toInt64) hx hb dX2_doubleAndAddSquares_15 (rfl) ?_
    refine lv_ldc2 (v := 4294967295) hx hb hown (hts _ kct_X2_34) dX2_doubleAndAddSquares_16 ?_
    refine lv_land hx hb dX2_doubleAndAddSquares_19 ?_
    refine dm_tl (y := lN (un (g i))) (wl_un _) ?_
    refine lv_aload_n hx hb dX2_doubleAndAddSquares_20 rfl (lv_at hl 3 rfl) ?_
    refine lv_iload hx hb dX2_doubleAndAddSquares_21 (lv_at hl 0 rfl) ?_
    refine dm_iald (j := i) hx hb hK hP 2 1 rfl rfl (by omega) hNb dX2_doubleAndAddSquares_23 ?_
    refine lv_i2l (v := ((g i) : Int32).toInt64) hx hb dX2_doubleAndAddSquares_24 (rfl) ?_
    refine lv_ldc2 (v := 4294967295) hx hb hown (hts _ kct_X2_34) dX2_doubleAndAddSquares_25 ?_
    refine lv_land hx hb dX2_doubleAndAddSquares_28 ?_
    refine dm_tl (y := lN (un (g i))) (wl_un _) ?_
    refine lv_lmul hx hb dX2_doubleAndAddSquares_29 ?_
    refine dm_tl (y := lN (un (g i) * un (g i))) (lN_mul _ _) ?_
    refine lv_lstore (lv' := [(6, .long (lN (un (g i) * un (g i)))), (5, .int (nI i)), (3, .long (lN car)), (0, .ref h), (1, .ref a2), (2, .int (nI n))]) hx hb dX2_doubleAndAddSquares_30 hl (by decide) rfl (fun ls hl => ?_)
    refine lv_ldc2 (v := 2) hx hb hown (hts _ kct_X2_82) dX2_doubleAndAddSquares_32 ?_
    refine dm_tl (y := lN 2) (rfl) ?_
    refine lv_aload_n hx hb dX2_doubleAndAddSquares_35 rfl (lv_at hl 3 rfl) ?_
    refine va_get (D := D) (ci := 2) (C := RX2) (T := TX2) (N := 2) (v := .ref a) hx hb hts kin_X2_w hown hK hP 0 rfl rfl 0 (by decide) (hts _ kfl_X2_15) (fun _ h9 => h9) rfl dX2_doubleAndAddSquares_36 ?_
    refine lv_iconst (v := nI 2) hx hb dX2_doubleAndAddSquares_39 (by decide) ?_
    refine lv_iload hx hb dX2_doubleAndAddSquares_40 (lv_at hl 1 rfl) ?_
    refine lv_imul hx hb dX2_doubleAndAddSquares_42 ?_
    refine dm_ti (y := nI (2 * i)) (pk_mul 2 i) ?_
    refine dm_iald (j := (2 * i)) hx hb hK hP 1 1 rfl rfl (by omega) hNb dX2_doubleAndAddSquares_43 ?_
    refine dm_ti (y := f (2 * i)) (hge _ (Nat.le_refl _)) ?_
    refine lv_i2l (v := (f (2 * i) : Int32).toInt64) hx hb dX2_doubleAndAddSquares_44 (rfl) ?_
    refine lv_ldc2 (v := 4294967295) hx hb hown (hts _ kct_X2_34) dX2_doubleAndAddSquares_45 ?_
    refine lv_land hx hb dX2_doubleAndAddSquares_48 ?_
    refine dm_tl (y := lN (un (f (2 * i)))) (wl_un _) ?_
    refine lv_lmul hx hb dX2_doubleAndAddSquares_49 ?_
    refine dm_tl (y := lN (2 * un (f (2 * i)))) (lN_mul _ _) ?_
    refine lv_lload hx hb dX2_doubleAndAddSquares_50 (lv_at hl 0 rfl) ?_
    refine lv_ldc2 (v := 4294967295) hx hb hown (hts _ kct_X2_34) dX2_doubleAndAddSquares_52 ?_
    refine lv_land hx hb dX2_doubleAndAddSquares_55 ?_
    refine dm_tl (y := lN (un (g i) * un (g i) % 4294967296)) (wb_mask (k := 32) hoo (by decide)) ?_
    refine lv_ladd hx hb dX2_doubleAndAddSquares_56 ?_
    refine dm_tl (y := lN (2 * un (f (2 * i)) + un (g i) * un (g i) % 4294967296)) (lN_add _ _) ?_
    refine lv_lload_n hx hb dX2_doubleAndAddSquares_57 rfl (lv_at hl 2 rfl) ?_
    refine lv_ladd hx hb dX2_doubleAndAddSquares_58 ?_
    refine dm_tl (y := lN lo) (by rw [hlo]; exact lN_add _ _) ?_
    refine lv_lstore (lv' := [(8, .long (lN lo)), (6, .long (lN (un (g i) * un (g i)))), (5, .int (nI i)), (3, .long (lN car)), (0, .ref h), (1, .ref a2), (2, .int (nI n))]) hx hb dX2_doubleAndAddSquares_59 hl (by decide) rfl (fun ls hl => ?_)
    refine lv_aload_n hx hb dX2_doubleAndAddSquares_61 rfl (lv_at hl 4 rfl) ?_
    refine va_get (D := D) (ci := 2) (C := RX2) (T := TX2) (N := 2) (v := .ref a) hx hb hts kin_X2_w hown hK hP 0 rfl rfl 0 (by decide) (hts _ kfl_X2_15) (fun _ h9 => h9) rfl dX2_doubleAndAddSquares_62 ?_
    refine lv_iconst (v := nI 2) hx hb dX2_doubleAndAddSquares_65 (by decide) ?_
    refine lv_iload hx hb dX2_doubleAndAddSquares_66 (lv_at hl 2 rfl) ?_
    refine lv_imul hx hb dX2_doubleAndAddSquares_68 ?_
    refine dm_ti (y := nI (2 * i)) (pk_mul 2 i) ?_
    refine lv_lload hx hb dX2_doubleAndAddSquares_69 (lv_at hl 0 rfl) ?_
    refine lv_l2i (v := nI lo) hx hb dX2_doubleAndAddSquares_71 (lN_low) ?_
    refine dm_iast (j := (2 * i)) (f' := upd F (2 * i) (nI lo)) hx hb hK hP hD hS 1 1 rfl rfl (by omega) hNb (rfl) dX2_doubleAndAddSquares_72 (fun H locs hP hD hS => ?_)
    have hP : va_P D vwCl [(h, .inr (2, [.ref a, .int (nI u)])), (a, .inl (cI, N, .inl (upd F (2 * i) (nI lo)))), (a2, .inl (cI, N, .inl g))] H := hP
    have hD : va_D A [(h, .inr (2, [.ref a, .int (nI u)])), (a, .inl (cI, N, .inl (upd F (2 * i) (nI lo)))), (a2, .inl (cI, N, .inl g))] := hD
    refine lv_ldc2 (v := 2) hx hb hown (hts _ kct_X2_82) dX2_doubleAndAddSquares_73 ?_
    refine dm_tl (y := lN 2) (rfl) ?_
    refine lv_aload_n hx hb dX2_doubleAndAddSquares_76 rfl (lv_at hl 4 rfl) ?_
    refine va_get (D := D) (ci := 2) (C := RX2) (T := TX2) (N := 2) (v := .ref a) hx hb hts kin_X2_w hown hK hP 0 rfl rfl 0 (by decide) (hts _ kfl_X2_15) (fun _ h9 => h9) rfl dX2_doubleAndAddSquares_77 ?_
    refine lv_iconst (v := nI 2) hx hb dX2_doubleAndAddSquares_80 (by decide) ?_
    refine lv_iload hx hb dX2_doubleAndAddSquares_81 (lv_at hl 2 rfl) ?_
    refine lv_imul hx hb dX2_doubleAndAddSquares_83 ?_
    refine dm_ti (y := nI (2 * i)) (pk_mul 2 i) ?_
    refine lv_iconst (v := nI 1) hx hb dX2_doubleAndAddSquares_84 (by decide) ?_
    refine lv_iadd hx hb dX2_doubleAndAddSquares_85 ?_
    refine dm_ti (y := nI (2 * i + 1)) (nI_1 _) ?_
    refine dm_iald (j := (2 * i + 1)) hx hb hK hP 1 1 rfl rfl (by omega) hNb dX2_doubleAndAddSquares_86 ?_
    refine dm_ti (y := f (2 * i + 1)) (by rw [pk_un (by omega)]; exact hge _ (by omega)) ?_
    refine lv_i2l (v := (f (2 * i + 1) : Int32).toInt64) hx hb dX2_doubleAndAddSquares_87 (rfl) ?_
    refine lv_ldc2 (v := 4294967295) hx hb hown (hts _ kct_X2_34) dX2_doubleAndAddSquares_88 ?_
    refine lv_land hx hb dX2_doubleAndAddSquares_91 ?_
    refine dm_tl (y := lN (un (f (2 * i + 1)))) (wl_un _) ?_
    refine lv_lmul hx hb dX2_doubleAndAddSquares_92 ?_
    refine dm_tl (y := lN (2 * un (f (2 * i + 1)))) (lN_mul _ _) ?_
    refine lv_lload hx hb dX2_doubleAndAddSquares_93 (lv_at hl 1 rfl) ?_
    refine lv_bipush (v := nI 32) hx hb dX2_doubleAndAddSquares_95 (by decide) ?_
    refine lv_lushr (v := lN (un (g i) * un (g i) / 4294967296)) hx hb dX2_doubleAndAddSquares_97 (wl_hi hoo) ?_
    refine lv_ladd hx hb dX2_doubleAndAddSquares_98 ?_
    refine dm_tl (y := lN (2 * un (f (2 * i + 1)) + un (g i) * un (g i) / 4294967296)) (lN_add _ _) ?_
    refine lv_lload hx hb dX2_doubleAndAddSquares_99 (lv_at hl 0 rfl) ?_
    refine lv_bipush (v := nI 32) hx hb dX2_doubleAndAddSquares_101 (by decide) ?_
    refine lv_lushr (v := lN (lo / 4294967296)) hx hb dX2_doubleAndAddSquares_103 (wl_hi (by omega)) ?_
    refine lv_ladd hx hb dX2_doubleAndAddSquares_104 ?_
    refine dm_tl (y := lN hi2) (by rw [hhi]; exact lN_add _ _) ?_
    refine lv_lstore (lv' := [(10, .long (lN hi2)), (8, .long (lN lo)), (6, .long (lN (un (g i) * un (g i)))), (5, .int (nI i)), (3, .long (lN car)), (0, .ref h), (1, .ref a2), (2, .int (nI n))]) hx hb dX2_doubleAndAddSquares_105 hl (by decide) rfl (fun ls hl => ?_)
    refine lv_aload_n hx hb dX2_doubleAndAddSquares_107 rfl (lv_at hl 5 rfl) ?_
    refine va_get (D := D) (ci := 2) (C := RX2) (T := TX2) (N := 2) (v := .ref a) hx hb hts kin_X2_w hown hK hP 0 rfl rfl 0 (by decide) (hts _ kfl_X2_15) (fun _ h9 => h9) rfl dX2_doubleAndAddSquares_108 ?_
    refine lv_iconst (v := nI 2) hx hb dX2_doubleAndAddSquares_111 (by decide) ?_
    refine lv_iload hx hb dX2_doubleAndAddSquares_112 (lv_at hl 3 rfl) ?_
    refine lv_imul hx hb dX2_doubleAndAddSquares_114 ?_
    refine dm_ti (y := nI (2 * i)) (pk_mul 2 i) ?_
    refine lv_iconst (v := nI 1) hx hb dX2_doubleAndAddSquares_115 (by decide) ?_
    refine lv_iadd hx hb dX2_doubleAndAddSquares_116 ?_
    refine dm_ti (y := nI (2 * i + 1)) (nI_1 _) ?_
    refine lv_lload hx hb dX2_doubleAndAddSquares_117 (lv_at hl 0 rfl) ?_
    refine lv_l2i (v := nI hi2) hx hb dX2_doubleAndAddSquares_119 (lN_low) ?_
    refine dm_iast (j := (2 * i + 1)) (f' := upd (upd F (2 * i) (nI lo)) (2 * i + 1) (nI hi2)) hx hb hK hP hD hS 1 1 rfl rfl (by omega) hNb (rfl) dX2_doubleAndAddSquares_120 (fun H locs hP hD hS => ?_)
    have hP : va_P D vwCl [(h, .inr (2, [.ref a, .int (nI u)])), (a, .inl (cI, N, .inl (upd (upd F (2 * i) (nI lo)) (2 * i + 1) (nI hi2)))), (a2, .inl (cI, N, .inl g))] H := hP
    have hD : va_D A [(h, .inr (2, [.ref a, .int (nI u)])), (a, .inl (cI, N, .inl (upd (upd F (2 * i) (nI lo)) (2 * i + 1) (nI hi2)))), (a2, .inl (cI, N, .inl g))] := hD
    refine lv_lload hx hb dX2_doubleAndAddSquares_121 (lv_at hl 0 rfl) ?_
    refine lv_bipush (v := nI 32) hx hb dX2_doubleAndAddSquares_123 (by decide) ?_
    refine lv_lushr (v := lN (hi2 / 4294967296)) hx hb dX2_doubleAndAddSquares_125 (wl_hi (by omega)) ?_
    refine lv_lstore_n (lv' := [(3, .long (lN (hi2 / 4294967296))), (10, .long (lN hi2)), (8, .long (lN lo)), (6, .long (lN (un (g i) * un (g i)))), (5, .int (nI i)), (0, .ref h), (1, .ref a2), (2, .int (nI n))]) hx hb dX2_doubleAndAddSquares_126 rfl hl (by decide) rfl (fun ls hl => ?_)
    refine lv_iinc (v := nI (i + 1)) (lv' := [(5, .int (nI (i + 1))), (3, .long (lN (hi2 / 4294967296))), (10, .long (lN hi2)), (8, .long (lN lo)), (6, .long (lN (un (g i) * un (g i)))), (0, .ref h), (1, .ref a2), (2, .int (nI n))]) hx hb dX2_doubleAndAddSquares_127 hl (k := 4) rfl ((nI_succ i).symm) (by decide) rfl (fun ls hl => ?_)
    refine lv_goto (tgt := 5) hx hb dX2_doubleAndAddSquares_130 (by decide) ?_
    refine ih (i + 1, hi2 / 4294967296, upd (upd F (2 * i) (nI lo)) (2 * i + 1) (nI hi2)) H locs ls (by show n - (i + 1) < n - i; omega) ⟨by show i + 1 ≤ n; omega, by show _ / _ < _; omega, ?_, fun k hk => ?_⟩ hP hD hS (lv_sub hl [0, 1, 5, 6, 7] rfl)
    · have h5 : dvb 4294967296 (upd (upd F (2 * i) (nI lo)) (2 * i + 1) (nI hi2)) (2 * (i + 1)) = dvb 4294967296 F (2 * i) + lo % 4294967296 * 4294967296 ^ (2 * i) + hi2 % 4294967296 * 4294967296 ^ (2 * i + 1) := by
        rw [show 2 * (i + 1) = 2 * i + 1 + 1 by omega]
        show dvb 4294967296 (upd (upd F (2 * i) (nI lo)) (2 * i + 1) (nI hi2)) (2 * i) + un (upd (upd F (2 * i) (nI lo)) (2 * i + 1) (nI hi2) (2 * i)) * 4294967296 ^ (2 * i) + un (upd (upd F (2 * i) (nI lo)) (2 * i + 1) (nI hi2) (2 * i + 1)) * 4294967296 ^ (2 * i + 1) = _
        rw [dvb_upd (by omega), dvb_upd (Nat.le_refl _), pk_us, pk_un (by omega), pk_us, un_mod, un_mod]
      dsimp only
      rw [h5]
      exact dbl_step hinv hlo hhi
    · show upd (upd F (2 * i) (nI lo)) (2 * i + 1) (nI hi2) k = f k
      have hk : 2 * (i + 1) ≤ k := hk
      rw [pk_un (by omega), pk_un (by omega)]
      exact hge k (by omega)
end
section
set_option maxRecDepth 100000 in
set_option maxHeartbeats 4000000 in
theorem c_X2_becomeSquareOf (l : Launch) (D : va_G) (cB cI cC : ClassId) (h a h2 a2 N u v : Nat) (f g : Nat → Int32) (hv : v ≤ N) (hNb : N < 1073741824) : MI l yX2_becomeSquareOf (Cond.code yX2_becomeSquareOf cX2_becomeSquareOf 4 (some .boolean)) 1 D (TY cB cI cC) [.ref h, .ref h2] [(h, .inr (2, [.ref a, .int (nI u)])), (a, .inl (cI, N, .inl f)), (h2, .inr (2, [.ref a2, .int (nI v)])), (a2, .inl (cI, N, .inl g))] (S := (Nat → Int32) × Nat) (fun r q => (2 * v ≤ N → r = 1 ∧ q.2 ≤ N ∧ dvb 4294967296 q.1 q.2 = dvb 4294967296 g v * dvb 4294967296 g v ∧ nrm q.1 q.2) ∧ (N < 2 * v → r = 0 ∧ q = (f, u))) (fun q => [(h, .inr (2, [.ref a, .int (nI q.2)])), (a, .inl (cI, N, .inl q.1)), (h2, .inr (2, [.ref a2, .int (nI v)])), (a2, .inl (cI, N, .inl g))]) := by
  refine MI.of (by decide) (Nat.le_of_ble_eq_true rfl) ?_
  intro p e s m below meth c ls A hC hA hP hK hD hS hl
  obtain ⟨hx, hb, hr, hml, hown, hts, hlocks, hN⟩ := id hC
  have hown : s.vm.findClass RX2 = some m.cls := hown
  have hl : lv_has ls 4 [(0, .ref h), (1, .ref h2)] := hl
  have hNb2 := hNb
  have hNb : N < 2 ^ 31 := by omega
  refine lv_aload_n hx hb dX2_becomeSquareOf_0 rfl (lv_at hl 1 rfl) ?_
  refine va_get (D := D) (ci := 2) (C := RX2) (T := TX2) (N := 2) (v := .int (nI v)) hx hb hts kin_X2_w hown hK hP 2 rfl rfl 1 (by decide) (hts _ kfl_X2_21) (fun _ h9 => h9) rfl dX2_becomeSquareOf_1 ?_
  refine lv_istore_n (lv' := [(2, .int (nI v)), (0, .ref h), (1, .ref h2)]) hx hb dX2_becomeSquareOf_4 rfl hl (by decide) rfl (fun ls hl => ?_)
  refine lv_iload_n hx hb dX2_becomeSquareOf_5 rfl (lv_at hl 0 rfl) ?_
  refine lv_aload_n hx hb dX2_becomeSquareOf_6 rfl (lv_at hl 1 rfl) ?_
  refine va_get (D := D) (ci := 2) (C := RX2) (T := TX2) (N := 2) (v := .ref a) hx hb hts kin_X2_w hown hK hP 0 rfl rfl 0 (by decide) (hts _ kfl_X2_15) (fun _ h9 => h9) rfl dX2_becomeSquareOf_7 ?_
  refine va_alen (v := nI N) hx hb hK hP 1 1 rfl rfl rfl dX2_becomeSquareOf_10 ?_
  refine lv_iconst (v := nI 2) hx hb dX2_becomeSquareOf_11 (by decide) ?_
  refine lv_idiv hx hb dX2_becomeSquareOf_12 (by decide) ?_
  refine dm_ti (y := nI (N / 2)) (pk_div hNb (by decide) (by decide)) ?_
  refine dm_icmp_le (tgt := 18) hx hb (by omega) (by omega) dX2_becomeSquareOf_13 (by decide) (fun hc => ?_) (fun hc => ?_)
  · have h2v : 2 * v ≤ N := by omega
    refine lv_iconst (v := nI 0) hx hb dX2_becomeSquareOf_18 (by decide) ?_
    refine lv_istore_n (lv' := [(3, .int (nI 0)), (2, .int (nI v)), (0, .ref h), (1, .ref h2)]) hx hb dX2_becomeSquareOf_19 rfl hl (by decide) rfl (fun ls hl => ?_)
    refine dm_loop (nL := 4) (head := 20) (P := fun (x : Nat × (Nat → Int32)) => x.1 ≤ 2 * v ∧ ∀ j, j < x.1 → x.2 j = 0) (w := fun x => [(h, .inr (2, [.ref a, .int (nI u)])), (a, .inl (cI, N, .inl x.2)), (h2, .inr (2, [.ref a2, .int (nI v)])), (a2, .inl (cI, N, .inl g))]) (lv := fun x => [(3, .int (nI x.1)), (2, .int (nI v)), (0, .ref h), (1, .ref h2)]) (μ := fun x => 2 * v - x.1) ?_ (0, f) ⟨Nat.zero_le _, fun j hj => absurd hj (Nat.not_lt_zero _)⟩ hP hD hS hl
    rintro ⟨i, F⟩ H locs ls ⟨hi, hz⟩ hP hD hS hl ih
    dsimp only at hi hz
    have hP : va_P D vwCl [(h, .inr (2, [.ref a, .int (nI u)])), (a, .inl (cI, N, .inl F)), (h2, .inr (2, [.ref a2, .int (nI v)])), (a2, .inl (cI, N, .inl g))] H := hP
    have hl : lv_has ls 4 [(3, .int (nI i)), (2, .int (nI v)), (0, .ref h), (1, .ref h2)] := hl
    refine lv_iload_n hx hb dX2_becomeSquareOf_20 rfl (lv_at hl 0 rfl) ?_
    refine lv_iconst (v := nI 2) hx hb dX2_becomeSquareOf_21 (by decide) ?_
    refine lv_iload_n hx hb dX2_becomeSquareOf_22 rfl (lv_at hl 1 rfl) ?_
    refine lv_imul hx hb dX2_becomeSquareOf_23 ?_
    refine dm_ti (y := nI (2 * v)) (pk_mul 2 v) ?_
    refine dm_icmp_ge (tgt := 40) hx hb (by omega) (by omega) dX2_becomeSquareOf_24 (by decide) (fun hd => ?_) (fun hd => ?_)
    · have hi2 : i = 2 * v := by omega
      subst hi2
      refine lv_iconst (v := nI 0) hx hb dX2_becomeSquareOf_40 (by decide) ?_
      refine lv_istore_n (lv' := [(3, .int (nI 0)), (2, .int (nI v)), (0, .ref h), (1, .ref h2)]) hx hb dX2_becomeSquareOf_41 rfl hl (by decide) rfl (fun ls hl => ?_)
      refine dm_loop (nL := 4) (head := 42) (P := fun (x : Nat × (Nat → Int32)) => x.1 ≤ v ∧ (∀ k, x.1 + v ≤ k → k < 2 * v → x.2 k = 0) ∧ ∃ t, dvb 4294967296 g v = dvb 4294967296 g x.1 + t ∧ 2 * dvb 4294967296 x.2 (2 * v) + sqs g x.1 + t * t = dvb 4294967296 g v * dvb 4294967296 g v) (w := fun x => [(h, .inr (2, [.ref a, .int (nI u)])), (a, .inl (cI, N, .inl x.2)), (h2, .inr (2, [.ref a2, .int (nI v)])), (a2, .inl (cI, N, .inl g))]) (lv := fun x => [(3, .int (nI x.1)), (2, .int (nI v)), (0, .ref h), (1, .ref h2)]) (μ := fun x => v - x.1) ?_ (0, F) ⟨Nat.zero_le _, fun k _ hk => hz k hk, dvb 4294967296 g v, (Nat.zero_add _).symm, by dsimp only; rw [dvb_zero hz]; show 2 * 0 + 0 + _ = _; omega⟩ hP hD hS hl
      clear ih hz
      rintro ⟨i, F⟩ H locs ls ⟨hi, hz, tt, ht1, ht2⟩ hP hD hS hl ih
      dsimp only at hi hz ht1 ht2
      have hP : va_P D vwCl [(h, .inr (2, [.ref a, .int (nI u)])), (a, .inl (cI, N, .inl F)), (h2, .inr (2, [.ref a2, .int (nI v)])), (a2, .inl (cI, N, .inl g))] H := hP
      have hD : va_D A [(h, .inr (2, [.ref a, .int (nI u)])), (a, .inl (cI, N, .inl F)), (h2, .inr (2, [.ref a2, .int (nI v)])), (a2, .inl (cI, N, .inl g))] := hD
      have hl : lv_has ls 4 [(3, .int (nI i)), (2, .int (nI v)), (0, .ref h), (1, .ref h2)] := hl
      refine lv_iload_n hx hb dX2_becomeSquareOf_42 rfl (lv_at hl 0 rfl) ?_
      refine lv_iload_n hx hb dX2_becomeSquareOf_43 rfl (lv_at hl 1 rfl) ?_
      refine dm_icmp_ge (tgt := 63) hx hb (by omega) (by omega) dX2_becomeSquareOf_44 (by decide) (fun he => ?_) (fun he => ?_)
      · have hiv : i = v := by omega
        subst hiv
        have ht0 : tt = 0 := by omega
        rw [ht0] at ht2
        have hlt := dv32_lt g i
        have hTT : dvb 4294967296 g i * dvb 4294967296 g i < 4294967296 ^ (2 * i) := by
          rw [show 2 * i = i + i by omega, Nat.pow_add]
          exact Nat.mul_lt_mul'' hlt hlt
        refine lv_aload_n hx hb dX2_becomeSquareOf_63 rfl (lv_at hl 2 rfl) ?_
        refine lv_aload_n hx hb dX2_becomeSquareOf_64 rfl (lv_at hl 3 rfl) ?_
        refine va_get (D := D) (ci := 2) (C := RX2) (T := TX2) (N := 2) (v := .ref a2) hx hb hts kin_X2_w hown hK hP 2 rfl rfl 0 (by decide) (hts _ kfl_X2_15) (fun _ h9 => h9) rfl dX2_becomeSquareOf_65 ?_
        refine lv_iload_n hx hb dX2_becomeSquareOf_68 rfl (lv_at hl 1 rfl) ?_
        refine dm_gov (wr := [(h2, .inr (2, [.ref a2, .int (nI i)]))]) (dm_rV (n := 2) (As := [.ref a2, .int (nI i)]) (rest := []) hC hl (c_X2_doubleAndAddSquares l D cB cI cC h a a2 N u i F g h2v hNb (by omega) H.size) kco_X2_doubleAndAddSquares ki_X2 kim_X2_doubleAndAddSquares kse_X2_doubleAndAddSquares kml_X2_78 (by decide +kernel) ⟨Nat.le_of_ble_eq_true rfl, Nat.le_of_ble_eq_true rfl⟩ rfl rfl ⟨dm_blind, va_recv hK hP (ci := 2) (q0 := 0) rfl rfl, dm_preU hK hP hD hC.2.2.2.2.2.2.2 [0, 1, 3] (by decide) rfl⟩ rfl rfl (Nat.le_of_ble_eq_true rfl) dX2_becomeSquareOf_69 ⟨Nat.le_of_ble_eq_true rfl, Nat.le_of_ble_eq_true rfl⟩) hP hD hS hA [0, 1, 3] [2] rfl rfl (by decide) (by decide) (fun F2 H locs hw hP hD hS => ?_)
        have hP : va_P D vwCl [(h2, .inr (2, [.ref a2, .int (nI i)])), (h, .inr (2, [.ref a, .int (nI u)])), (a, .inl (cI, N, .inl F2)), (a2, .inl (cI, N, .inl g))] H := hP
        have hD : va_D A [(h2, .inr (2, [.ref a2, .int (nI i)])), (h, .inr (2, [.ref a, .int (nI u)])), (a, .inl (cI, N, .inl F2)), (a2, .inl (cI, N, .inl g))] := hD
        refine lv_aload_n hx hb dX2_becomeSquareOf_72 rfl (lv_at hl 2 rfl) ?_
        refine lv_iconst (v := nI 2) hx hb dX2_becomeSquareOf_73 (by decide) ?_
        refine lv_iload_n hx hb dX2_becomeSquareOf_74 rfl (lv_at hl 1 rfl) ?_
        refine lv_imul hx hb dX2_becomeSquareOf_75 ?_
        refine dm_ti (y := nI (2 * i)) (pk_mul 2 i) ?_
        refine va_put (D := D) (ci := 2) (v := .int (nI (2 * i))) (ty := .int) (C := RX2) (T := TX2) (N := 2) hx hb hts kin_X2_w tyX2 tyX2_ok nmX2 hown hK hP hD hS 1 rfl rfl 1 (by decide) (hts _ kfl_X2_21) (fun _ h9 => h9) rfl (by decide +kernel) rfl rfl (Nat.le_of_ble_eq_true rfl) dX2_becomeSquareOf_76 (fun H locs hP hD hS => ?_)
        have hP : va_P D vwCl [(h2, .inr (2, [.ref a2, .int (nI i)])), (h, .inr (2, [.ref a, .int (nI (2 * i))])), (a, .inl (cI, N, .inl F2)), (a2, .inl (cI, N, .inl g))] H := hP
        have hD : va_D A [(h2, .inr (2, [.ref a2, .int (nI i)])), (h, .inr (2, [.ref a, .int (nI (2 * i))])), (a, .inl (cI, N, .inl F2)), (a2, .inl (cI, N, .inl g))] := hD
        refine lv_aload_n hx hb dX2_becomeSquareOf_79 rfl (lv_at hl 2 rfl) ?_
        refine dm_gov (wr := [(h2, .inr (2, [.ref a2, .int (nI i)])), (a2, .inl (cI, N, .inl g))]) (dm_rV (n := 0) (As := []) (rest := []) hC hl (c_X2_dropZeros l D cB cI cC 4294967296 h a N (2 * i) F2 h2v hNb H.size) kco_X2_dropZeros ki_X2 kim_X2_dropZeros kse_X2_dropZeros kml_X2_68 (by decide +kernel) ⟨Nat.le_of_ble_eq_true rfl, Nat.le_of_ble_eq_true rfl⟩ rfl rfl ⟨dm_blind, va_recv hK hP (ci := 2) (q0 := 1) rfl rfl, dm_preU hK hP hD hC.2.2.2.2.2.2.2 [1, 2] (by decide) rfl⟩ rfl rfl (Nat.le_of_ble_eq_true rfl) dX2_becomeSquareOf_80 ⟨Nat.le_of_ble_eq_true rfl, Nat.le_of_ble_eq_true rfl⟩) hP hD hS hA [1, 2] [0, 3] rfl rfl (by decide) (by decide) (fun u2 H locs hw2 hP hD hS => ?_)
        have hP : va_P D vwCl [(h2, .inr (2, [.ref a2, .int (nI i)])), (a2, .inl (cI, N, .inl g)), (h, .inr (2, [.ref a, .int (nI u2)])), (a, .inl (cI, N, .inl F2))] H := hP
        have hD : va_D A [(h2, .inr (2, [.ref a2, .int (nI i)])), (a2, .inl (cI, N, .inl g)), (h, .inr (2, [.ref a, .int (nI u2)])), (a, .inl (cI, N, .inl F2))] := hD
        have hP := hP.sub (ws' := [(h, .inr (2, [.ref a, .int (nI u2)])), (a, .inl (cI, N, .inl F2)), (h2, .inr (2, [.ref a2, .int (nI i)])), (a2, .inl (cI, N, .inl g))]) [2, 3, 0, 1] rfl
        have hD := hD.sub (ws' := [(h, .inr (2, [.ref a, .int (nI u2)])), (a, .inl (cI, N, .inl F2)), (h2, .inr (2, [.ref a2, .int (nI i)])), (a2, .inl (cI, N, .inl g))]) [2, 3, 0, 1] (by decide) rfl
        refine lv_iconst (v := nI 1) hx hb dX2_becomeSquareOf_83 (by decide) ?_
        exact dm_zret (v := nI 1) hC (Or.inr rfl) hK (F2, u2) ⟨fun _ => ⟨rfl, by show u2 ≤ N; omega, by show dvb _ F2 u2 = _; rw [hw2.2.1, hw, ← ht2]; omega, hw2.2.2⟩, fun h9 => absurd h9 (by omega)⟩ hP hD hS dX2_becomeSquareOf_84
      · refine lv_aload_n hx hb dX2_becomeSquareOf_47 rfl (lv_at hl 2 rfl) ?_
        refine lv_iload_n hx hb dX2_becomeSquareOf_48 rfl (lv_at hl 0 rfl) ?_
        refine lv_aload_n hx hb dX2_becomeSquareOf_49 rfl (lv_at hl 3 rfl) ?_
        refine va_get (D := D) (ci := 2) (C := RX2) (T := TX2) (N := 2) (v := .ref a2) hx hb hts kin_X2_w hown hK hP 2 rfl rfl 0 (by decide) (hts _ kfl_X2_15) (fun _ h9 => h9) rfl dX2_becomeSquareOf_50 ?_
        refine lv_iload_n hx hb dX2_becomeSquareOf_53 rfl (lv_at hl 1 rfl) ?_
        refine dm_gov (wr := [(h2, .inr (2, [.ref a2, .int (nI v)]))]) (dm_rV (n := 3) (As := [.int (nI i), .ref a2, .int (nI v)]) (rest := []) hC hl (c_X2_addProductsAbove l D cB cI cC h a a2 N u i v F g he h2v hNb (hz (i + v) (Nat.le_refl _) (by omega)) H.size) kco_X2_addProductsAbove ki_X2 kim_X2_addProductsAbove kse_X2_addProductsAbove kml_X2_74 (by decide +kernel) ⟨Nat.le_of_ble_eq_true rfl, Nat.le_of_ble_eq_true rfl⟩ rfl rfl ⟨dm_blind, va_recv hK hP (ci := 2) (q0 := 0) rfl rfl, dm_preU hK hP hD hC.2.2.2.2.2.2.2 [0, 1, 3] (by decide) rfl⟩ rfl rfl (Nat.le_of_ble_eq_true rfl) dX2_becomeSquareOf_54 ⟨Nat.le_of_ble_eq_true rfl, Nat.le_of_ble_eq_true rfl⟩) hP hD hS hA [0, 1, 3] [2] rfl rfl (by decide) (by decide) (fun F2 H locs hw hP hD hS => ?_)
        have hP : va_P D vwCl [(h2, .inr (2, [.ref a2, .int (nI v)])), (h, .inr (2, [.ref a, .int (nI u)])), (a, .inl (cI, N, .inl F2)), (a2, .inl (cI, N, .inl g))] H := hP
        have hD : va_D A [(h2, .inr (2, [.ref a2, .int (nI v)])), (h, .inr (2, [.ref a, .int (nI u)])), (a, .inl (cI, N, .inl F2)), (a2, .inl (cI, N, .inl g))] := hD
        have hP := hP.sub (ws' := [(h, .inr (2, [.ref a, .int (nI u)])), (a, .inl (cI, N, .inl F2)), (h2, .inr (2, [.ref a2, .int (nI v)])), (a2, .inl (cI, N, .inl g))]) [1, 2, 0, 3] rfl
        have hD := hD.sub (ws' := [(h, .inr (2, [.ref a, .int (nI u)])), (a, .inl (cI, N, .inl F2)), (h2, .inr (2, [.ref a2, .int (nI v)])), (a2, .inl (cI, N, .inl g))]) [1, 2, 0, 3] (by decide) rfl
        refine lv_iinc (v := nI (i + 1)) (lv' := [(3, .int (nI (i + 1))), (2, .int (nI v)), (0, .ref h), (1, .ref h2)]) hx hb dX2_becomeSquareOf_57 hl (k := 0) rfl ((nI_succ i).symm) (by decide) rfl (fun ls hl => ?_)
        refine lv_goto (tgt := 42) hx hb dX2_becomeSquareOf_60 (by decide) ?_
        obtain ⟨t2, ht3⟩ := dvb_mono (f := g) (show i + 1 ≤ v by omega)
        have e1 : dvb 4294967296 g (i + 1) = dvb 4294967296 g i + un (g i) * 4294967296 ^ i := rfl
        refine ih (i + 1, F2) H locs ls (by show v - (i + 1) < v - i; omega) ⟨by show i + 1 ≤ v; omega, fun k hk1 hk2 => ?_, t2, ht3, ?_⟩ hP hD hS (lv_sub hl [0, 1, 2, 3] rfl)
        · show F2 k = 0
          have hk1 : i + 1 + v ≤ k := hk1
          rw [hw.1 k (by omega)]
          exact hz k (by omega) hk2
        · show 2 * dvb 4294967296 F2 (2 * v) + (sqs g i + un (g i) * un (g i) * 4294967296 ^ (2 * i)) + t2 * t2 = _
          rw [show 2 * i = i + i by omega, Nat.pow_add]
          have h3 := hw.2
          rw [e1] at h3 ht3
          refine sq_step h3 ht3 ?_
          rw [← ht2, show tt = un (g i) * 4294967296 ^ i + t2 by omega]
    · refine lv_aload_n hx hb dX2_becomeSquareOf_27 rfl (lv_at hl 2 rfl) ?_
      refine va_get (D := D) (ci := 2) (C := RX2) (T := TX2) (N := 2) (v := .ref a) hx hb hts kin_X2_w hown hK hP 0 rfl rfl 0 (by decide) (hts _ kfl_X2_15) (fun _ h9 => h9) rfl dX2_becomeSquareOf_28 ?_
      refine lv_iload_n hx hb dX2_becomeSquareOf_31 rfl (lv_at hl 0 rfl) ?_
      refine lv_iconst (v := nI 0) hx hb dX2_becomeSquareOf_32 (by decide) ?_
      refine dm_iast (j := i) (f' := upd F i (nI 0)) hx hb hK hP hD hS 1 1 rfl rfl (by omega) hNb (rfl) dX2_becomeSquareOf_33 (fun H locs hP hD hS => ?_)
      have hP : va_P D vwCl [(h, .inr (2, [.ref a, .int (nI u)])), (a, .inl (cI, N, .inl (upd F i (nI 0)))), (h2, .inr (2, [.ref a2, .int (nI v)])), (a2, .inl (cI, N, .inl g))] H := hP
      have hD : va_D A [(h, .inr (2, [.ref a, .int (nI u)])), (a, .inl (cI, N, .inl (upd F i (nI 0)))), (h2, .inr (2, [.ref a2, .int (nI v)])), (a2, .inl (cI, N, .inl g))] := hD
      refine lv_iinc (v := nI (i + 1)) (lv' := [(3, .int (nI (i + 1))), (2, .int (nI v)), (0, .ref h), (1, .ref h2)]) hx hb dX2_becomeSquareOf_34 hl (k := 0) rfl ((nI_succ i).symm) (by decide) rfl (fun ls hl => ?_)
      refine lv_goto (tgt := 20) hx hb dX2_becomeSquareOf_37 (by decide) ?_
      exact ih (i + 1, upd F i (nI 0)) H locs ls (by show 2 * v - (i + 1) < 2 * v - i; omega) ⟨by show i + 1 ≤ 2 * v; omega, fun j hj => (Nat.lt_or_eq_of_le (Nat.le_of_lt_succ hj)).elim (fun h3 => by show upd F i (nI 0) j = 0; rw [pk_un (by omega)]; exact hz j h3) (fun h3 => by show upd F i (nI 0) j = 0; rw [h3, pk_us]; rfl)⟩ hP hD hS (lv_sub hl [0, 1, 2, 3] rfl)
  · refine lv_iconst (v := nI 0) hx hb dX2_becomeSquareOf_16 (by decide) ?_
    exact dm_zret (v := nI 0) hC (Or.inl rfl) hK (f, u) ⟨fun h9 => absurd h9 (by omega), fun _ => ⟨rfl, rfl⟩⟩ hP hD hS dX2_becomeSquareOf_17
end
section
/-! digits and their characters -/
def isR (x : Int32) : Prop := ∃ n : Nat, 2 ≤ n ∧ n ≤ 36 ∧ x = nI n
def isWd (x : Int32) : Prop := x = nI 32 ∨ x = nI 64
def dgv (c : Nat) : Nat := if 48 ≤ c ∧ c ≤ 57 then c - 48 else if 97 ≤ c ∧ c ≤ 122 then c - 87 else if 65 ≤ c ∧ c ≤ 90 then c - 55 else 36
def cdv (d : Nat) : Nat := if d < 10 then 48 + d else 87 + d
theorem dgv_le (c : Nat) : dgv c ≤ 36 := by unfold dgv; (repeat' split) <;> omega
theorem isR_of {x : Int32} (h1 : ¬ x < nI 2) (h2 : ¬ nI 36 < x) : isR x := by
  have h3 : ¬ x.toInt < (nI 2).toInt := fun q => h1 (Int32.lt_iff_toInt_lt.mpr q)
  have h4 : ¬ (nI 36).toInt < x.toInt := fun q => h2 (Int32.lt_iff_toInt_lt.mpr q)
  rw [nI_toInt (by decide)] at h3 h4
  obtain ⟨n, hn, rfl⟩ := nI_of (x := x) (fun q => by have := Int32.lt_iff_toInt_lt.mp q; rw [show (0 : Int32).toInt = 0 from rfl] at this; omega)
  rw [nI_toInt hn] at h3 h4
  exact ⟨n, by omega, by omega, rfl⟩
theorem isR_not1 {x : Int32} (h : x < nI 2) : ¬ isR x := fun ⟨n, h1, h2, e0⟩ => by
  rw [e0] at h
  exact nI_nlt h1 (by omega) h
theorem isR_not2 {x : Int32} (h : nI 36 < x) : ¬ isR x := fun ⟨n, h1, h2, e0⟩ => by
  rw [e0] at h
  exact nI_nlt h2 (by decide) h

set_option maxRecDepth 100000 in
set_option maxHeartbeats 4000000 in
theorem c_X3_isRadix (l : Launch) (D : va_G) (cB cI cC : ClassId) (x : Int32) : ROi l yX3_isRadix (Cond.code yX3_isRadix cX3_isRadix 1 (some .boolean)) 0 D (TY cB cI cC) [.int x] [] (fun r => (isR x ∧ r = 1) ∨ (¬ isR x ∧ r = 0)) := by
  refine ROi.of (by decide) (Nat.le_of_ble_eq_true rfl) ?_
  intro p e s m below meth c ls A hC hA hP hK hD hS hl
  obtain ⟨hx, hb, hr, hml, hown, hts, hlocks, hN⟩ := id hC
  have hown : s.vm.findClass RX3 = some m.cls := hown
  have hl : lv_has ls 1 [(0, .int x)] := hl
  refine lv_iload_n hx hb dX3_isRadix_0 rfl (lv_at hl 0 rfl) ?_
  refine lv_iconst (v := nI 2) hx hb dX3_isRadix_1 (by decide) ?_
  refine lv_icmp_lt (tgt := 15) hx hb dX3_isRadix_2 (by decide) (fun hc => ?_) (fun hc => ?_)
  · refine lv_iconst (v := nI 0) hx hb dX3_isRadix_15 (by decide) ?_
    exact ri_zret hC (Or.inl rfl) (Or.inr ⟨isR_not1 hc, rfl⟩) dX3_isRadix_16
  · refine lv_iload_n hx hb dX3_isRadix_5 rfl (lv_at hl 0 rfl) ?_
    refine lv_bipush (v := nI 36) hx hb dX3_isRadix_6 (by decide) ?_
    refine lv_icmp_gt (tgt := 15) hx hb dX3_isRadix_8 (by decide) (fun hd => ?_) (fun hd => ?_)
    · refine lv_iconst (v := nI 0) hx hb dX3_isRadix_15 (by decide) ?_
      exact ri_zret hC (Or.inl rfl) (Or.inr ⟨isR_not2 hd, rfl⟩) dX3_isRadix_16
    · refine lv_iconst (v := nI 1) hx hb dX3_isRadix_11 (by decide) ?_
      refine lv_goto (tgt := 16) hx hb dX3_isRadix_12 (by decide) ?_
      exact ri_zret hC (Or.inr rfl) (Or.inl ⟨isR_of hc hd, rfl⟩) dX3_isRadix_16

set_option maxRecDepth 100000 in
set_option maxHeartbeats 4000000 in
theorem c_X3_isWidth (l : Launch) (D : va_G) (cB cI cC : ClassId) (x : Int32) : ROi l yX3_isWidth (Cond.code yX3_isWidth cX3_isWidth 1 (some .boolean)) 0 D (TY cB cI cC) [.int x] [] (fun r => (isWd x ∧ r = 1) ∨ (¬ isWd x ∧ r = 0)) := by
  refine ROi.of (by decide) (Nat.le_of_ble_eq_true rfl) ?_
  intro p e s m below meth c ls A hC hA hP hK hD hS hl
  obtain ⟨hx, hb, hr, hml, hown, hts, hlocks, hN⟩ := id hC
  have hown : s.vm.findClass RX3 = some m.cls := hown
  have hl : lv_has ls 1 [(0, .int x)] := hl
  refine lv_iload_n hx hb dX3_isWidth_0 rfl (lv_at hl 0 rfl) ?_
  refine lv_bipush (v := nI 32) hx hb dX3_isWidth_1 (by decide) ?_
  refine lv_icmp_eq (tgt := 12) hx hb dX3_isWidth_3 (by decide) (fun hc => ?_) (fun hc => ?_)
  · refine lv_iconst (v := nI 1) hx hb dX3_isWidth_12 (by decide) ?_
    refine lv_goto (tgt := 17) hx hb dX3_isWidth_13 (by decide) ?_
    exact ri_zret hC (Or.inr rfl) (Or.inl ⟨Or.inl hc, rfl⟩) dX3_isWidth_17
  · refine lv_iload_n hx hb dX3_isWidth_6 rfl (lv_at hl 0 rfl) ?_
    refine lv_bipush (v := nI 64) hx hb dX3_isWidth_7 (by decide) ?_
    refine lv_icmp_ne (tgt := 16) hx hb dX3_isWidth_9 (by decide) (fun hd => ?_) (fun hd => ?_)
    · refine lv_iconst (v := nI 0) hx hb dX3_isWidth_16 (by decide) ?_
      exact ri_zret hC (Or.inl rfl) (Or.inr ⟨fun h9 => h9.elim hc hd, rfl⟩) dX3_isWidth_17
    · refine lv_iconst (v := nI 1) hx hb dX3_isWidth_12 (by decide) ?_
      refine lv_goto (tgt := 17) hx hb dX3_isWidth_13 (by decide) ?_
      exact ri_zret hC (Or.inr rfl) (Or.inl ⟨Or.inr hd, rfl⟩) dX3_isWidth_17

set_option maxRecDepth 100000 in
set_option maxHeartbeats 4000000 in
theorem c_X3_digitOf (l : Launch) (D : va_G) (cB cI cC : ClassId) (c0 : Nat) (hc0 : c0 < 256) : ROi l yX3_digitOf (Cond.code yX3_digitOf cX3_digitOf 1 (some .int)) 0 D (TY cB cI cC) [.int (nI c0)] [] (fun r => r = nI (dgv c0)) := by
  refine ROi.of (by decide) (Nat.le_of_ble_eq_true rfl) ?_
  intro p e s m below meth c ls A hC hA hP hK hD hS hl
  obtain ⟨hx, hb, hr, hml, hown, hts, hlocks, hN⟩ := id hC
  have hown : s.vm.findClass RX3 = some m.cls := hown
  have hl : lv_has ls 1 [(0, .int (nI c0))] := hl
  refine lv_iload_n hx hb dX3_digitOf_0 rfl (lv_at hl 0 rfl) ?_
  refine lv_bipush (v := nI 48) hx hb dX3_digitOf_1 (by decide) ?_
  refine dm_icmp_lt (tgt := 17) hx hb (by omega) (by omega) dX3_digitOf_3 (by decide) (fun h1 => ?_) (fun h1 => ?_)
  · refine lv_iload_n hx hb dX3_digitOf_17 rfl (lv_at hl 0 rfl) ?_
    refine lv_bipush (v := nI 97) hx hb dX3_digitOf_18 (by decide) ?_
    refine dm_icmp_lt (tgt := 37) hx hb (by omega) (by omega) dX3_digitOf_20 (by decide) (fun h3 => ?_) (fun h3 => ?_)
    · refine lv_iload_n hx hb dX3_digitOf_37 rfl (lv_at hl 0 rfl) ?_
      refine lv_bipush (v := nI 65) hx hb dX3_digitOf_38 (by decide) ?_
      refine dm_icmp_lt (tgt := 57) hx hb (by omega) (by omega) dX3_digitOf_40 (by decide) (fun h5 => ?_) (fun h5 => ?_)
      · refine lv_bipush (v := nI 36) hx hb dX3_digitOf_57 (by decide) ?_
        exact ri_iret hC (by unfold dgv; rw [if_neg (by omega), if_neg (by omega), if_neg (by omega)]) dX3_digitOf_59
      · refine lv_iload_n hx hb dX3_digitOf_43 rfl (lv_at hl 0 rfl) ?_
        refine lv_bipush (v := nI 90) hx hb dX3_digitOf_44 (by decide) ?_
        refine dm_icmp_gt (tgt := 57) hx hb (by omega) (by omega) dX3_digitOf_46 (by decide) (fun h6 => ?_) (fun h6 => ?_)
        · refine lv_bipush (v := nI 36) hx hb dX3_digitOf_57 (by decide) ?_
          exact ri_iret hC (by unfold dgv; rw [if_neg (by omega), if_neg (by omega), if_neg (by omega)]) dX3_digitOf_59
        · refine lv_iload_n hx hb dX3_digitOf_49 rfl (lv_at hl 0 rfl) ?_
          refine lv_bipush (v := nI 65) hx hb dX3_digitOf_50 (by decide) ?_
          refine lv_isub hx hb dX3_digitOf_52 ?_
          refine dm_ti (y := nI (c0 - 65)) (pk_sub (by omega)) ?_
          refine lv_bipush (v := nI 10) hx hb dX3_digitOf_53 (by decide) ?_
          refine lv_iadd hx hb dX3_digitOf_55 ?_
          refine dm_ti (y := nI (c0 - 65 + 10)) (nI_add _ _) ?_
          exact ri_iret hC (by unfold dgv; rw [if_neg (by omega), if_neg (by omega), if_pos (by omega)]; congr 1; omega) dX3_digitOf_56
    · refine lv_iload_n hx hb dX3_digitOf_23 rfl (lv_at hl 0 rfl) ?_
      refine lv_bipush (v := nI 122) hx hb dX3_digitOf_24 (by decide) ?_
      refine dm_icmp_gt (tgt := 37) hx hb (by omega) (by omega) dX3_digitOf_26 (by decide) (fun h4 => ?_) (fun h4 => ?_)
      · refine lv_iload_n hx hb dX3_digitOf_37 rfl (lv_at hl 0 rfl) ?_
        refine lv_bipush (v := nI 65) hx hb dX3_digitOf_38 (by decide) ?_
        refine dm_icmp_lt (tgt := 57) hx hb (by omega) (by omega) dX3_digitOf_40 (by decide) (fun h5 => ?_) (fun h5 => ?_)
        · refine lv_bipush (v := nI 36) hx hb dX3_digitOf_57 (by decide) ?_
          exact ri_iret hC (by unfold dgv; rw [if_neg (by omega), if_neg (by omega), if_neg (by omega)]) dX3_digitOf_59
        · refine lv_iload_n hx hb dX3_digitOf_43 rfl (lv_at hl 0 rfl) ?_
          refine lv_bipush (v := nI 90) hx hb dX3_digitOf_44 (by decide) ?_
          refine dm_icmp_gt (tgt := 57) hx hb (by omega) (by omega) dX3_digitOf_46 (by decide) (fun h6 => ?_) (fun h6 => ?_)
          · refine lv_bipush (v := nI 36) hx hb dX3_digitOf_57 (by decide) ?_
            exact ri_iret hC (by unfold dgv; rw [if_neg (by omega), if_neg (by omega), if_neg (by omega)]) dX3_digitOf_59
          · refine lv_iload_n hx hb dX3_digitOf_49 rfl (lv_at hl 0 rfl) ?_
            refine lv_bipush (v := nI 65) hx hb dX3_digitOf_50 (by decide) ?_
            refine lv_isub hx hb dX3_digitOf_52 ?_
            refine dm_ti (y := nI (c0 - 65)) (pk_sub (by omega)) ?_
            refine lv_bipush (v := nI 10) hx hb dX3_digitOf_53 (by decide) ?_
            refine lv_iadd hx hb dX3_digitOf_55 ?_
            refine dm_ti (y := nI (c0 - 65 + 10)) (nI_add _ _) ?_
            exact ri_iret hC (by unfold dgv; rw [if_neg (by omega), if_neg (by omega), if_pos (by omega)]; congr 1; omega) dX3_digitOf_56
      · refine lv_iload_n hx hb dX3_digitOf_29 rfl (lv_at hl 0 rfl) ?_
        refine lv_bipush (v := nI 97) hx hb dX3_digitOf_30 (by decide) ?_
        refine lv_isub hx hb dX3_digitOf_32 ?_
        refine dm_ti (y := nI (c0 - 97)) (pk_sub (by omega)) ?_
        refine lv_bipush (v := nI 10) hx hb dX3_digitOf_33 (by decide) ?_
        refine lv_iadd hx hb dX3_digitOf_35 ?_
        refine dm_ti (y := nI (c0 - 97 + 10)) (nI_add _ _) ?_
        exact ri_iret hC (by unfold dgv; rw [if_neg (by omega), if_pos (by omega)]; congr 1; omega) dX3_digitOf_36
  · refine lv_iload_n hx hb dX3_digitOf_6 rfl (lv_at hl 0 rfl) ?_
    refine lv_bipush (v := nI 57) hx hb dX3_digitOf_7 (by decide) ?_
    refine dm_icmp_gt (tgt := 17) hx hb (by omega) (by omega) dX3_digitOf_9 (by decide) (fun h2 => ?_) (fun h2 => ?_)
    · refine lv_iload_n hx hb dX3_digitOf_17 rfl (lv_at hl 0 rfl) ?_
      refine lv_bipush (v := nI 97) hx hb dX3_digitOf_18 (by decide) ?_
      refine dm_icmp_lt (tgt := 37) hx hb (by omega) (by omega) dX3_digitOf_20 (by decide) (fun h3 => ?_) (fun h3 => ?_)
      · refine lv_iload_n hx hb dX3_digitOf_37 rfl (lv_at hl 0 rfl) ?_
        refine lv_bipush (v := nI 65) hx hb dX3_digitOf_38 (by decide) ?_
        refine dm_icmp_lt (tgt := 57) hx hb (by omega) (by omega) dX3_digitOf_40 (by decide) (fun h5 => ?_) (fun h5 => ?_)
        · refine lv_bipush (v := nI 36) hx hb dX3_digitOf_57 (by decide) ?_
          exact ri_iret hC (by unfold dgv; rw [if_neg (by omega), if_neg (by omega), if_neg (by omega)]) dX3_digitOf_59
        · refine lv_iload_n hx hb dX3_digitOf_43 rfl (lv_at hl 0 rfl) ?_
          refine lv_bipush (v := nI 90) hx hb dX3_digitOf_44 (by decide) ?_
          refine dm_icmp_gt (tgt := 57) hx hb (by omega) (by omega) dX3_digitOf_46 (by decide) (fun h6 => ?_) (fun h6 => ?_)
          · refine lv_bipush (v := nI 36) hx hb dX3_digitOf_57 (by decide) ?_
            exact ri_iret hC (by unfold dgv; rw [if_neg (by omega), if_neg (by omega), if_neg (by omega)]) dX3_digitOf_59
          · refine lv_iload_n hx hb dX3_digitOf_49 rfl (lv_at hl 0 rfl) ?_
            refine lv_bipush (v := nI 65) hx hb dX3_digitOf_50 (by decide) ?_
            refine lv_isub hx hb dX3_digitOf_52 ?_
            refine dm_ti (y := nI (c0 - 65)) (pk_sub (by omega)) ?_
            refine lv_bipush (v := nI 10) hx hb dX3_digitOf_53 (by decide) ?_
            refine lv_iadd hx hb dX3_digitOf_55 ?_
            refine dm_ti (y := nI (c0 - 65 + 10)) (nI_add _ _) ?_
            exact ri_iret hC (by unfold dgv; rw [if_neg (by omega), if_neg (by omega), if_pos (by omega)]; congr 1; omega) dX3_digitOf_56
      · refine lv_iload_n hx hb dX3_digitOf_23 rfl (lv_at hl 0 rfl) ?_
        refine lv_bipush (v := nI 122) hx hb dX3_digitOf_24 (by decide) ?_
        refine dm_icmp_gt (tgt := 37) hx hb (by omega) (by omega) dX3_digitOf_26 (by decide) (fun h4 => ?_) (fun h4 => ?_)
        · refine lv_iload_n hx hb dX3_digitOf_37 rfl (lv_at hl 0 rfl) ?_
          refine lv_bipush (v := nI 65) hx hb dX3_digitOf_38 (by decide) ?_
          refine dm_icmp_lt (tgt := 57) hx hb (by omega) (by omega) dX3_digitOf_40 (by decide) (fun h5 => ?_) (fun h5 => ?_)
          · refine lv_bipush (v := nI 36) hx hb dX3_digitOf_57 (by decide) ?_
            exact ri_iret hC (by unfold dgv; rw [if_neg (by omega), if_neg (by omega), if_neg (by omega)]) dX3_digitOf_59
          · refine lv_iload_n hx hb dX3_digitOf_43 rfl (lv_at hl 0 rfl) ?_
            refine lv_bipush (v := nI 90) hx hb dX3_digitOf_44 (by decide) ?_
            refine dm_icmp_gt (tgt := 57) hx hb (by omega) (by omega) dX3_digitOf_46 (by decide) (fun h6 => ?_) (fun h6 => ?_)
            · refine lv_bipush (v := nI 36) hx hb dX3_digitOf_57 (by decide) ?_
              exact ri_iret hC (by unfold dgv; rw [if_neg (by omega), if_neg (by omega), if_neg (by omega)]) dX3_digitOf_59
            · refine lv_iload_n hx hb dX3_digitOf_49 rfl (lv_at hl 0 rfl) ?_
              refine lv_bipush (v := nI 65) hx hb dX3_digitOf_50 (by decide) ?_
              refine lv_isub hx hb dX3_digitOf_52 ?_
              refine dm_ti (y := nI (c0 - 65)) (pk_sub (by omega)) ?_
              refine lv_bipush (v := nI 10) hx hb dX3_digitOf_53 (by decide) ?_
              refine lv_iadd hx hb dX3_digitOf_55 ?_
              refine dm_ti (y := nI (c0 - 65 + 10)) (nI_add _ _) ?_
              exact ri_iret hC (by unfold dgv; rw [if_neg (by omega), if_neg (by omega), if_pos (by omega)]; congr 1; omega) dX3_digitOf_56
        · refine lv_iload_n hx hb dX3_digitOf_29 rfl (lv_at hl 0 rfl) ?_
          refine lv_bipush (v := nI 97) hx hb dX3_digitOf_30 (by decide) ?_
          refine lv_isub hx hb dX3_digitOf_32 ?_
          refine dm_ti (y := nI (c0 - 97)) (pk_sub (by omega)) ?_
          refine lv_bipush (v := nI 10) hx hb dX3_digitOf_33 (by decide) ?_
          refine lv_iadd hx hb dX3_digitOf_35 ?_
          refine dm_ti (y := nI (c0 - 97 + 10)) (nI_add _ _) ?_
          exact ri_iret hC (by unfold dgv; rw [if_neg (by omega), if_pos (by omega)]; congr 1; omega) dX3_digitOf_36
    · refine lv_iload_n hx hb dX3_digitOf_12 rfl (lv_at hl 0 rfl) ?_
      refine lv_bipush (v := nI 48) hx hb dX3_digitOf_13 (by decide) ?_
      refine lv_isub hx hb dX3_digitOf_15 ?_
      refine dm_ti (y := nI (c0 - 48)) (pk_sub (by omega)) ?_
      exact ri_iret hC (by unfold dgv; rw [if_pos (by omega)]) dX3_digitOf_16

set_option maxRecDepth 100000 in
set_option maxHeartbeats 4000000 in
theorem c_X3_codeOf (l : Launch) (D : va_G) (cB cI cC : ClassId) (d0 : Nat) (hd0 : d0 < 36) : ROi l yX3_codeOf (Cond.code yX3_codeOf cX3_codeOf 1 (some .int)) 0 D (TY cB cI cC) [.int (nI d0)] [] (fun r => r = nI (cdv d0)) := by
  refine ROi.of (by decide) (Nat.le_of_ble_eq_true rfl) ?_
  intro p e s m below meth c ls A hC hA hP hK hD hS hl
  obtain ⟨hx, hb, hr, hml, hown, hts, hlocks, hN⟩ := id hC
  have hown : s.vm.findClass RX3 = some m.cls := hown
  have hl : lv_has ls 1 [(0, .int (nI d0))] := hl
  refine lv_iload_n hx hb dX3_codeOf_0 rfl (lv_at hl 0 rfl) ?_
  refine lv_bipush (v := nI 10) hx hb dX3_codeOf_1 (by decide) ?_
  refine dm_icmp_ge (tgt := 13) hx hb (by omega) (by omega) dX3_codeOf_3 (by decide) (fun h1 => ?_) (fun h1 => ?_)
  · refine lv_bipush (v := nI 97) hx hb dX3_codeOf_13 (by decide) ?_
    refine lv_iload_n hx hb dX3_codeOf_15 rfl (lv_at hl 0 rfl) ?_
    refine lv_iadd hx hb dX3_codeOf_16 ?_
    refine dm_ti (y := nI (97 + d0)) (nI_add _ _) ?_
    refine lv_bipush (v := nI 10) hx hb dX3_codeOf_17 (by decide) ?_
    refine lv_isub hx hb dX3_codeOf_19 ?_
    refine dm_ti (y := nI (97 + d0 - 10)) (pk_sub (by omega)) ?_
    exact ri_iret hC (by unfold cdv; rw [if_neg (by omega)]; congr 1; omega) dX3_codeOf_20
  · refine lv_bipush (v := nI 48) hx hb dX3_codeOf_6 (by decide) ?_
    refine lv_iload_n hx hb dX3_codeOf_8 rfl (lv_at hl 0 rfl) ?_
    refine lv_iadd hx hb dX3_codeOf_9 ?_
    refine dm_ti (y := nI (48 + d0)) (nI_add _ _) ?_
    refine lv_goto (tgt := 20) hx hb dX3_codeOf_10 (by decide) ?_
    exact ri_iret hC (by unfold cdv; rw [if_pos (by omega)]) dX3_codeOf_20

/-- a text: its characters by place, as the row has them -/
def txt (n : Nat) (T : Nat → Nat) (f : Nat → Int32) : Prop := ∀ j, j < n → f j = nI (T j) ∧ T j < 128
/-- the first place from i on, of k, whose character is no digit -/
def fo (r : Nat) (T : Nat → Nat) (i : Nat) : Nat → Nat
  | 0 => i
  | k + 1 => if r ≤ dgv (T i) then i else fo r T (i + 1) k
theorem fo_succ {r : Nat} {T : Nat → Nat} {i k : Nat} : fo r T i (k + 1) = if r ≤ dgv (T i) then i else fo r T (i + 1) k := rfl
theorem fo_le {r : Nat} {T : Nat → Nat} : ∀ {k i : Nat}, i ≤ fo r T i k ∧ fo r T i k ≤ i + k
  | 0, i => ⟨Nat.le_refl _, Nat.le_refl _⟩
  | k + 1, i => by
    unfold fo
    split
    · omega
    · have h := fo_le (r := r) (T := T) (k := k) (i := i + 1)
      omega
theorem fo_all {r : Nat} {T : Nat → Nat} : ∀ {k i : Nat}, fo r T i k = i + k → ∀ j, i ≤ j → j < i + k → dgv (T j) < r
  | 0, i => fun _ j h1 h2 => absurd h1 (by omega)
  | k + 1, i => fun h j h1 h2 => by
    unfold fo at h
    split at h
    · omega
    · rcases (show j = i ∨ i + 1 ≤ j by omega) with h3 | h3
      · rw [h3]; omega
      · exact fo_all (k := k) (i := i + 1) (by omega) j h3 (by omega)
/-- the number of k digits from place i on -/
def hn (r : Nat) (T : Nat → Nat) (i : Nat) : Nat → Nat
  | 0 => 0
  | k + 1 => hn r T i k * r + dgv (T (i + k))
theorem hn_mono {r : Nat} (hr : 1 ≤ r) {T : Nat → Nat} {i k : Nat} : ∀ {d : Nat}, hn r T i k ≤ hn r T i (k + d)
  | 0 => Nat.le_refl _
  | d + 1 => by
    have h1 := hn_mono (r := r) hr (T := T) (i := i) (k := k) (d := d)
    have h2 : hn r T i (k + d) * 1 ≤ hn r T i (k + d) * r := Nat.mul_le_mul_left _ hr
    show _ ≤ hn r T i (k + d) * r + dgv (T (i + (k + d)))
    omega

set_option maxRecDepth 100000 in
set_option maxHeartbeats 4000000 in
theorem c_X0_firstOther (l : Launch) (D : va_G) (cB cI cC : ClassId) (h a n i0 r : Nat) (T : Nat → Nat) (f : Nat → Int32) (hn : n ≤ 65536) (hi0 : i0 ≤ n) (hr : r ≤ 36) (ht : txt n T f) : ROi l yX0_firstOther (Cond.code yX0_firstOther cX0_firstOther 4 (some .int)) 1 D (TY cB cI cC) [.ref h, .int (nI i0), .int (nI r)] [(h, .inr (0, [.ref a, .int (nI n)])), (a, .inl (cB, 65536, .inl f))] (fun q => q = nI (fo r T i0 (n - i0))) := by
  refine ROi.of (by decide) (Nat.le_of_ble_eq_true rfl) ?_
  intro p e s m below meth c ls A hC hA hP hK hD hS hl
  obtain ⟨hx, hb, hr, hml, hown, hts, hlocks, hN⟩ := id hC
  have hown : s.vm.findClass RX0 = some m.cls := hown
  have hl : lv_has ls 4 [(0, .ref h), (1, .int (nI i0)), (2, .int (nI r))] := hl
  refine lv_iload_n hx hb dX0_firstOther_0 rfl (lv_at hl 1 rfl) ?_
  refine lv_istore_n (lv' := [(3, .int (nI i0)), (0, .ref h), (1, .int (nI i0)), (2, .int (nI r))]) hx hb dX0_firstOther_1 rfl hl (by decide) rfl (fun ls hl => ?_)
  refine dm_loopR (nL := 4) 2 (fun i => i0 ≤ i ∧ i ≤ n ∧ fo r T i (n - i) = fo r T i0 (n - i0)) (fun i => [(3, .int (nI i)), (0, .ref h), (1, .int (nI i0)), (2, .int (nI r))]) (fun i => n - i) ?_ i0 ⟨Nat.le_refl _, hi0, rfl⟩ hl
  rintro i ls ⟨hi1, hi2, hfo⟩ hl ih
  refine lv_iload_n hx hb dX0_firstOther_2 rfl (lv_at hl 0 rfl) ?_
  refine lv_aload_n hx hb dX0_firstOther_3 rfl (lv_at hl 1 rfl) ?_
  refine va_get (D := D) (ci := 0) (C := RX0) (T := TX0) (N := 2) (v := .int (nI n)) hx hb hts kin_X0_w hown hK hP 0 rfl rfl 1 (by decide) (hts _ kfl_X0_16) (fun _ h9 => h9) rfl dX0_firstOther_4 ?_
  refine dm_icmp_ge (tgt := 30) hx hb (by omega) (by omega) dX0_firstOther_7 (by decide) (fun hc => ?_) (fun hc => ?_)
  · refine lv_aload_n hx hb dX0_firstOther_30 rfl (lv_at hl 1 rfl) ?_
    refine va_get (D := D) (ci := 0) (C := RX0) (T := TX0) (N := 2) (v := .int (nI n)) hx hb hts kin_X0_w hown hK hP 0 rfl rfl 1 (by decide) (hts _ kfl_X0_16) (fun _ h9 => h9) rfl dX0_firstOther_31 ?_
    exact ri_iret hC (by rw [← hfo, show i = n by omega, Nat.sub_self]; rfl) dX0_firstOther_34
  · refine lv_aload_n hx hb dX0_firstOther_10 rfl (lv_at hl 1 rfl) ?_
    refine lv_iload_n hx hb dX0_firstOther_11 rfl (lv_at hl 0 rfl) ?_
    refine dm_gori (dm_rV (n := 1) (As := [.int (nI i)]) (rest := []) hC hl (c_X0_codeAt l D cB cI cC h a n f (nI i) hn s.heap.size) kco_X0_codeAt ki_X0 kim_X0_codeAt kse_X0_codeAt kml_X0_20 (by decide +kernel) ⟨Nat.le_of_ble_eq_true rfl, Nat.le_of_ble_eq_true rfl⟩ rfl rfl ⟨dm_blind, va_recv hK hP (ci := 0) (q0 := 0) rfl rfl, dm_preU hK hP hD hC.2.2.2.2.2.2.2 [0, 1] (by decide) rfl⟩ rfl rfl (Nat.le_of_ble_eq_true rfl) dX0_firstOther_12 ⟨Nat.le_of_ble_eq_true rfl, Nat.le_of_ble_eq_true rfl⟩) (fun r1 h1 => ?_)
    have e1 : r1 = nI (T i) := (h1.1 i hc rfl).trans (ht i hc).1
    subst e1
    have hTi := (ht i hc).2
    refine dm_gori (dm_rSN (n := 1) (As := [.int (nI (T i))]) (rest := []) hC hl (c_X3_digitOf l D cB cI cC (T i) (by omega) s.heap.size) kco_X3_digitOf ki_X3 kst_X3_digitOf knl_X0_24 (by decide +kernel) ⟨Nat.le_of_ble_eq_true rfl, Nat.le_of_ble_eq_true rfl⟩ rfl rfl ⟨dm_blind, dm_preU hK hP hD hC.2.2.2.2.2.2.2 [] (by decide) rfl⟩ rfl rfl (Nat.le_of_ble_eq_true rfl) dX0_firstOther_15 ⟨Nat.le_of_ble_eq_true rfl, Nat.le_of_ble_eq_true rfl⟩) (fun r2 h2 => ?_)
    subst h2
    have hdg := dgv_le (T i)
    rw [show n - i = (n - (i + 1)) + 1 by omega] at hfo
    rw [fo_succ] at hfo
    refine lv_iload_n hx hb dX0_firstOther_18 rfl (lv_at hl 3 rfl) ?_
    refine dm_icmp_lt (tgt := 24) hx hb (by omega) (by omega) dX0_firstOther_19 (by decide) (fun hd => ?_) (fun hd => ?_)
    · rw [if_neg (by omega)] at hfo
      refine lv_iinc (v := nI (i + 1)) (lv' := [(3, .int (nI (i + 1))), (0, .ref h), (1, .int (nI i0)), (2, .int (nI r))]) hx hb dX0_firstOther_24 hl (k := 0) rfl ((nI_succ i).symm) (by decide) rfl (fun ls hl => ?_)
      refine lv_goto (tgt := 2) hx hb dX0_firstOther_27 (by decide) ?_
      exact ih (i + 1) ls (by omega) ⟨by omega, by omega, hfo⟩ (lv_sub hl [0, 1, 2, 3] rfl)
    · rw [if_pos (by omega)] at hfo
      refine lv_iload_n hx hb dX0_firstOther_22 rfl (lv_at hl 0 rfl) ?_
      exact ri_iret hC (by rw [← hfo]) dX0_firstOther_23
end
section
set_option maxRecDepth 100000 in
set_option maxHeartbeats 4000000 in
theorem c_X2_becomeDigitsOf (l : Launch) (D : va_G) (cB cI cC : ClassId) (h a ht at_ N u n i0 r : Nat) (T : Nat → Nat) (f tf : Nat → Int32) (hNb : N < 2 ^ 31) (hn6 : n ≤ 65536) (hi0 : i0 ≤ n) (hr2 : 2 ≤ r) (hr : r ≤ 36) (htx : txt n T tf) (hall : ∀ j, i0 ≤ j → j < n → dgv (T j) < r) : MI l yX2_becomeDigitsOf (Cond.code yX2_becomeDigitsOf cX2_becomeDigitsOf 11 (some .boolean)) 2 D (TY cB cI cC) [.ref h, .ref ht, .int (nI i0), .int (nI r)] [(h, .inr (2, [.ref a, .int (nI u)])), (a, .inl (cI, N, .inl f)), (ht, .inr (0, [.ref at_, .int (nI n)])), (at_, .inl (cB, 65536, .inl tf))] (S := (Nat → Int32) × Nat) (fun b q => (b = 1 ∧ q.2 ≤ N ∧ dvb 4294967296 q.1 q.2 = hn r T i0 (n - i0) ∧ nrm q.1 q.2) ∨ (b = 0 ∧ q.2 ≤ N ∧ 4294967296 ^ N ≤ hn r T i0 (n - i0))) (fun q => [(h, .inr (2, [.ref a, .int (nI q.2)])), (a, .inl (cI, N, .inl q.1)), (ht, .inr (0, [.ref at_, .int (nI n)])), (at_, .inl (cB, 65536, .inl tf))]) := by
  refine MI.of (by decide) (Nat.le_of_ble_eq_true rfl) ?_
  intro p e s m below meth c ls A hC hA hP hK hD hS hl
  obtain ⟨hx, hb, hr, hml, hown, hts, hlocks, hN⟩ := id hC
  have hown : s.vm.findClass RX2 = some m.cls := hown
  have hl : lv_has ls 11 [(0, .ref h), (1, .ref ht), (2, .int (nI i0)), (3, .int (nI r))] := hl
  refine lv_aload_n hx hb dX2_becomeDigitsOf_0 rfl (lv_at hl 0 rfl) ?_
  refine lv_iconst (v := nI 0) hx hb dX2_becomeDigitsOf_1 (by decide) ?_
  refine va_put (D := D) (ci := 2) (v := .int (nI 0)) (ty := .int) (C := RX2) (T := TX2) (N := 2) hx hb hts kin_X2_w tyX2 tyX2_ok nmX2 hown hK hP hD hS 0 rfl rfl 1 (by decide) (hts _ kfl_X2_21) (fun _ h9 => h9) rfl (by decide +kernel) rfl rfl (Nat.le_of_ble_eq_true rfl) dX2_becomeDigitsOf_2 (fun H locs hP hD hS => ?_)
  have hP : va_P D vwCl [(h, .inr (2, [.ref a, .int (nI 0)])), (a, .inl (cI, N, .inl f)), (ht, .inr (0, [.ref at_, .int (nI n)])), (at_, .inl (cB, 65536, .inl tf))] H := hP
  have hD : va_D A [(h, .inr (2, [.ref a, .int (nI 0)])), (a, .inl (cI, N, .inl f)), (ht, .inr (0, [.ref at_, .int (nI n)])), (at_, .inl (cB, 65536, .inl tf))] := hD
  refine lv_ldc2 (v := 4294967295) hx hb hown (hts _ kct_X2_34) dX2_becomeDigitsOf_5 ?_
  refine dm_tl (y := lN 4294967295) (rfl) ?_
  refine lv_iload_n hx hb dX2_becomeDigitsOf_8 rfl (lv_at hl 3 rfl) ?_
  refine lv_i2l (v := lN r) hx hb dX2_becomeDigitsOf_9 (nI_l (by omega)) ?_
  obtain ⟨mo, hmo⟩ : ∃ z, z = 4294967295 / r := ⟨_, rfl⟩
  have hmo1 : 1 ≤ mo := by rw [hmo]; exact (Nat.le_div_iff_mul_le (by omega)).mpr (by omega)
  have hmor : ∀ z, z ≤ mo → z * r ≤ 4294967295 := fun z hz => (Nat.le_div_iff_mul_le (by omega)).mp (by rw [← hmo]; exact hz)
  have hmob : mo ≤ 4294967295 := by rw [hmo]; exact Nat.div_le_self _ _
  refine lv_ldiv hx hb dX2_becomeDigitsOf_10 (fun e0 => by have := (pk_lEQ (b := 0) (by omega) (by decide)).mp e0; omega) ?_
  refine dm_tl (y := lN mo) (by rw [hmo]; exact pk_lDiv (by decide) (by omega) (by omega)) ?_
  refine lv_lstore (lv' := [(4, .long (lN mo)), (0, .ref h), (1, .ref ht), (2, .int (nI i0)), (3, .int (nI r))]) hx hb dX2_becomeDigitsOf_11 hl (by decide) rfl (fun ls hl => ?_)
  refine lv_lconst (v := lN 1) hx hb dX2_becomeDigitsOf_13 (by decide) ?_
  refine lv_lstore (lv' := [(6, .long (lN 1)), (4, .long (lN mo)), (0, .ref h), (1, .ref ht), (2, .int (nI i0)), (3, .int (nI r))]) hx hb dX2_becomeDigitsOf_14 hl (by decide) rfl (fun ls hl => ?_)
  refine lv_lconst (v := lN 0) hx hb dX2_becomeDigitsOf_16 (by decide) ?_
  refine lv_lstore (lv' := [(8, .long (lN 0)), (6, .long (lN 1)), (4, .long (lN mo)), (0, .ref h), (1, .ref ht), (2, .int (nI i0)), (3, .int (nI r))]) hx hb dX2_becomeDigitsOf_17 hl (by decide) rfl (fun ls hl => ?_)
  refine lv_iload_n hx hb dX2_becomeDigitsOf_19 rfl (lv_at hl 5 rfl) ?_
  refine lv_istore (lv' := [(10, .int (nI i0)), (8, .long (lN 0)), (6, .long (lN 1)), (4, .long (lN mo)), (0, .ref h), (1, .ref ht), (2, .int (nI i0)), (3, .int (nI r))]) hx hb dX2_becomeDigitsOf_20 hl (by decide) rfl (fun ls hl => ?_)
  refine dm_loop (nL := 11) (head := 22) (P := fun (x : Nat × Nat × Nat × (Nat → Int32) × Nat) => i0 ≤ x.1 ∧ x.1 ≤ n ∧ 1 ≤ x.2.1 ∧ x.2.1 ≤ mo ∧ x.2.2.1 < x.2.1 ∧ x.2.2.2.2 ≤ N ∧ nrm x.2.2.2.1 x.2.2.2.2 ∧ dvb 4294967296 x.2.2.2.1 x.2.2.2.2 * x.2.1 + x.2.2.1 = hn r T i0 (x.1 - i0) ∧ (x.1 = n → x.2.1 = 1)) (w := fun x => [(h, .inr (2, [.ref a, .int (nI x.2.2.2.2)])), (a, .inl (cI, N, .inl x.2.2.2.1)), (ht, .inr (0, [.ref at_, .int (nI n)])), (at_, .inl (cB, 65536, .inl tf))]) (lv := fun x => [(10, .int (nI x.1)), (8, .long (lN x.2.2.1)), (6, .long (lN x.2.1)), (4, .long (lN mo)), (0, .ref h), (1, .ref ht), (2, .int (nI i0)), (3, .int (nI r))]) (μ := fun x => n - x.1) ?_ (i0, 1, 0, f, 0) ⟨Nat.le_refl _, hi0, Nat.le_refl _, hmo1, by show 0 < 1; decide, Nat.zero_le _, nrm_0 f, by dsimp only; rw [Nat.sub_self]; rfl, fun _ => rfl⟩ hP hD hS hl
  rintro ⟨i, fa, pr, F, U⟩ H locs ls ⟨hi1, hi2, hf1, hf2, hp1, hU, hnr, hval, hend⟩ hP hD hS hl ih
  dsimp only at hi1 hi2 hf1 hf2 hp1 hU hnr hval hend
  have hP : va_P D vwCl [(h, .inr (2, [.ref a, .int (nI U)])), (a, .inl (cI, N, .inl F)), (ht, .inr (0, [.ref at_, .int (nI n)])), (at_, .inl (cB, 65536, .inl tf))] H := hP
  have hD : va_D A [(h, .inr (2, [.ref a, .int (nI U)])), (a, .inl (cI, N, .inl F)), (ht, .inr (0, [.ref at_, .int (nI n)])), (at_, .inl (cB, 65536, .inl tf))] := hD
  have hl : lv_has ls 11 [(10, .int (nI i)), (8, .long (lN pr)), (6, .long (lN fa)), (4, .long (lN mo)), (0, .ref h), (1, .ref ht), (2, .int (nI i0)), (3, .int (nI r))] := hl
  refine lv_iload hx hb dX2_becomeDigitsOf_22 (lv_at hl 0 rfl) ?_
  refine lv_aload_n hx hb dX2_becomeDigitsOf_24 rfl (lv_at hl 5 rfl) ?_
  refine dm_gori (dm_rVN (n := 0) (As := []) (rest := [.int (nI i)]) hC hl (c_X0_size l D cB cI cC ht at_ n tf H.size) kco_X0_size ki_X0 kim_X0_size kse_X0_size knl_X2_49 (by decide +kernel) ⟨Nat.le_of_ble_eq_true rfl, Nat.le_of_ble_eq_true rfl⟩ rfl rfl ⟨dm_blind, va_recv hK hP (ci := 0) (q0 := 2) rfl rfl, dm_preU hK hP hD hC.2.2.2.2.2.2.2 [2, 3] (by decide) rfl⟩ rfl rfl (Nat.le_of_ble_eq_true rfl) dX2_becomeDigitsOf_25 ⟨Nat.le_of_ble_eq_true rfl, Nat.le_of_ble_eq_true rfl⟩) (fun z1 hs1 => ?_)
  subst hs1
  refine dm_icmp_ge (tgt := 100) hx hb (by omega) (by omega) dX2_becomeDigitsOf_28 (by decide) (fun hc => ?_) (fun hc => ?_)
  · have hin : i = n := by omega
    subst hin
    have hf := hend rfl
    subst hf
    refine lv_iconst (v := nI 1) hx hb dX2_becomeDigitsOf_100 (by decide) ?_
    refine dm_zret (v := nI 1) hC (Or.inr rfl) hK (F, U) (Or.inl ⟨rfl, hU, ?_, hnr⟩) hP hD hS dX2_becomeDigitsOf_101
    show dvb _ F U = _
    omega
  · have hmf := hmor fa hf2
    have hdi := hall i hi1 hc
    have hTi := (htx i hc).2
    obtain ⟨fa2, hfa2⟩ : ∃ z, z = fa * r := ⟨_, rfl⟩
    obtain ⟨pr2, hpr2⟩ : ∃ z, z = pr * r + dgv (T i) := ⟨_, rfl⟩
    have hlt2 : pr2 < fa2 := by
      have h8 : (pr + 1) * r ≤ fa * r := Nat.mul_le_mul_right _ hp1
      rw [Nat.add_mul] at h8
      omega
    have hval2 : dvb 4294967296 F U * fa2 + pr2 = hn r T i0 (i + 1 - i0) := by
      rw [show i + 1 - i0 = (i - i0) + 1 by omega]
      show _ = hn r T i0 (i - i0) * r + dgv (T (i0 + (i - i0)))
      rw [← hval, show i0 + (i - i0) = i by omega, hfa2, hpr2, Nat.add_mul, Nat.mul_assoc]
      omega
    have hfa1 : 1 ≤ fa2 := by omega
    refine lv_lload hx hb dX2_becomeDigitsOf_31 (lv_at hl 2 rfl) ?_
    refine lv_iload_n hx hb dX2_becomeDigitsOf_33 rfl (lv_at hl 7 rfl) ?_
    refine lv_i2l (v := lN r) hx hb dX2_becomeDigitsOf_34 (nI_l (by omega)) ?_
    refine lv_lmul hx hb dX2_becomeDigitsOf_35 ?_
    refine dm_tl (y := lN fa2) (by rw [hfa2]; exact lN_mul _ _) ?_
    refine lv_lstore (lv' := [(6, .long (lN fa2)), (10, .int (nI i)), (8, .long (lN pr)), (4, .long (lN mo)), (0, .ref h), (1, .ref ht), (2, .int (nI i0)), (3, .int (nI r))]) hx hb dX2_becomeDigitsOf_36 hl (by decide) rfl (fun ls hl => ?_)
    refine lv_lload hx hb dX2_becomeDigitsOf_38 (lv_at hl 2 rfl) ?_
    refine lv_iload_n hx hb dX2_becomeDigitsOf_40 rfl (lv_at hl 7 rfl) ?_
    refine lv_i2l (v := lN r) hx hb dX2_becomeDigitsOf_41 (nI_l (by omega)) ?_
    refine lv_lmul hx hb dX2_becomeDigitsOf_42 ?_
    refine dm_tl (y := lN (pr * r)) (lN_mul _ _) ?_
    refine lv_aload_n hx hb dX2_becomeDigitsOf_43 rfl (lv_at hl 5 rfl) ?_
    refine lv_iload hx hb dX2_becomeDigitsOf_44 (lv_at hl 1 rfl) ?_
    refine dm_gori (dm_rVN (n := 1) (As := [.int (nI i)]) (rest := [.long (lN (pr * r))]) hC hl (c_X0_codeAt l D cB cI cC ht at_ n tf (nI i) hn6 H.size) kco_X0_codeAt ki_X0 kim_X0_codeAt kse_X0_codeAt knl_X2_55 (by decide +kernel) ⟨Nat.le_of_ble_eq_true rfl, Nat.le_of_ble_eq_true rfl⟩ rfl rfl ⟨dm_blind, va_recv hK hP (ci := 0) (q0 := 2) rfl rfl, dm_preU hK hP hD hC.2.2.2.2.2.2.2 [2, 3] (by decide) rfl⟩ rfl rfl (Nat.le_of_ble_eq_true rfl) dX2_becomeDigitsOf_46 ⟨Nat.le_of_ble_eq_true rfl, Nat.le_of_ble_eq_true rfl⟩) (fun r1 h1 => ?_)
    have e1 : r1 = nI (T i) := (h1.1 i hc rfl).trans (htx i hc).1
    subst e1
    refine dm_gori (dm_rSN (n := 1) (As := [.int (nI (T i))]) (rest := [.long (lN (pr * r))]) hC hl (c_X3_digitOf l D cB cI cC (T i) (by omega) H.size) kco_X3_digitOf ki_X3 kst_X3_digitOf knl_X2_58 (by decide +kernel) ⟨Nat.le_of_ble_eq_true rfl, Nat.le_of_ble_eq_true rfl⟩ rfl rfl ⟨dm_blind, dm_preU hK hP hD hC.2.2.2.2.2.2.2 [] (by decide) rfl⟩ rfl rfl (Nat.le_of_ble_eq_true rfl) dX2_becomeDigitsOf_49 ⟨Nat.le_of_ble_eq_true rfl, Nat.le_of_ble_eq_true rfl⟩) (fun r2 h2 => ?_)
    subst h2
    refine lv_i2l (v := lN (dgv (T i))) hx hb dX2_becomeDigitsOf_52 (nI_l (by omega)) ?_
    refine lv_ladd hx hb dX2_becomeDigitsOf_53 ?_
    refine dm_tl (y := lN pr2) (by rw [hpr2]; exact lN_add _ _) ?_
    refine lv_lstore (lv' := [(8, .long (lN pr2)), (6, .long (lN fa2)), (10, .int (nI i)), (4, .long (lN mo)), (0, .ref h), (1, .ref ht), (2, .int (nI i0)), (3, .int (nI r))]) hx hb dX2_becomeDigitsOf_54 hl (by decide) rfl (fun ls hl => ?_)
    refine lv_lload hx hb dX2_becomeDigitsOf_56 (lv_at hl 1 rfl) ?_
    refine lv_lload hx hb dX2_becomeDigitsOf_58 (lv_at hl 3 rfl) ?_
    refine dm_cutR (nL := 11) (σ := Unit) 75 (fun _ => True) (fun _ => [(8, .long (lN pr2)), (6, .long (lN fa2)), (10, .int (nI i)), (4, .long (lN mo)), (0, .ref h), (1, .ref ht), (2, .int (nI i0)), (3, .int (nI r))]) (fun hJ => ?_) ?_
    · refine dm_lc_gt (tgt := 75) hx hb (by omega) (by omega) dX2_becomeDigitsOf_60 dX2_becomeDigitsOf_61 (by decide) (fun hd => ?_) (fun hd => ?_)
      · exact hJ () ls trivial hl
      · refine lv_iload hx hb dX2_becomeDigitsOf_64 (lv_at hl 2 rfl) ?_
        refine lv_aload_n hx hb dX2_becomeDigitsOf_66 rfl (lv_at hl 5 rfl) ?_
        refine dm_gori (dm_rVN (n := 0) (As := []) (rest := [.int (nI i)]) hC hl (c_X0_size l D cB cI cC ht at_ n tf H.size) kco_X0_size ki_X0 kim_X0_size kse_X0_size knl_X2_49 (by decide +kernel) ⟨Nat.le_of_ble_eq_true rfl, Nat.le_of_ble_eq_true rfl⟩ rfl rfl ⟨dm_blind, va_recv hK hP (ci := 0) (q0 := 2) rfl rfl, dm_preU hK hP hD hC.2.2.2.2.2.2.2 [2, 3] (by decide) rfl⟩ rfl rfl (Nat.le_of_ble_eq_true rfl) dX2_becomeDigitsOf_67 ⟨Nat.le_of_ble_eq_true rfl, Nat.le_of_ble_eq_true rfl⟩) (fun z2 hs1 => ?_)
        subst hs1
        refine lv_iconst (v := nI 1) hx hb dX2_becomeDigitsOf_70 (by decide) ?_
        refine lv_isub hx hb dX2_becomeDigitsOf_71 ?_
        refine dm_ti (y := nI (n - 1)) (pk_sub (by omega)) ?_
        refine dm_icmp_ne (tgt := 94) hx hb (by omega) (by omega) dX2_becomeDigitsOf_72 (by decide) (fun he => ?_) (fun he => ?_)
        · refine lv_iinc (v := nI (i + 1)) (lv' := [(10, .int (nI (i + 1))), (8, .long (lN pr2)), (6, .long (lN fa2)), (4, .long (lN mo)), (0, .ref h), (1, .ref ht), (2, .int (nI i0)), (3, .int (nI r))]) hx hb dX2_becomeDigitsOf_94 hl (k := 2) rfl ((nI_succ i).symm) (by decide) rfl (fun ls hl => ?_)
          refine lv_goto (tgt := 22) hx hb dX2_becomeDigitsOf_97 (by decide) ?_
          exact ih (i + 1, fa2, pr2, F, U) H locs ls (by show n - (i + 1) < n - i; omega) ⟨by show i0 ≤ i + 1; omega, by show i + 1 ≤ n; omega, hfa1, hd, hlt2, hU, hnr, hval2, fun h9 => by have h9 : i + 1 = n := h9; omega⟩ hP hD hS (lv_sub hl [0, 1, 2, 3, 4, 5, 6, 7] rfl)
        · exact hJ () ls trivial hl
    · rintro - ls - hl
      refine lv_aload_n hx hb dX2_becomeDigitsOf_75 rfl (lv_at hl 4 rfl) ?_
      refine lv_lload hx hb dX2_becomeDigitsOf_76 (lv_at hl 1 rfl) ?_
      refine lv_lload hx hb dX2_becomeDigitsOf_78 (lv_at hl 0 rfl) ?_
      refine dm_goi (wr := [(ht, .inr (0, [.ref at_, .int (nI n)])), (at_, .inl (cB, 65536, .inl tf))]) (dm_rV (n := 2) (As := [.long (lN fa2), .long (lN pr2)]) (rest := []) hC hl (c_X2_multiplyAndAdd l D cB cI cC h a N U fa2 pr2 F hU hNb (by omega) (by omega) (by omega) hnr H.size) kco_X2_multiplyAndAdd ki_X2 kim_X2_multiplyAndAdd kse_X2_multiplyAndAdd kml_X2_61 (by decide +kernel) ⟨Nat.le_of_ble_eq_true rfl, Nat.le_of_ble_eq_true rfl⟩ rfl rfl ⟨dm_blind, va_recv hK hP (ci := 2) (q0 := 0) rfl rfl, dm_preU hK hP hD hC.2.2.2.2.2.2.2 [0, 1] (by decide) rfl⟩ rfl rfl (Nat.le_of_ble_eq_true rfl) dX2_becomeDigitsOf_80 ⟨Nat.le_of_ble_eq_true rfl, Nat.le_of_ble_eq_true rfl⟩) hP hD hS hA [0, 1] [2, 3] rfl rfl (by decide) (by decide) (fun rb q H locs hw hP hD hS => ?_)
      obtain ⟨G, U2⟩ := q
      have hP : va_P D vwCl [(ht, .inr (0, [.ref at_, .int (nI n)])), (at_, .inl (cB, 65536, .inl tf)), (h, .inr (2, [.ref a, .int (nI U2)])), (a, .inl (cI, N, .inl G))] H := hP
      have hD : va_D A [(ht, .inr (0, [.ref at_, .int (nI n)])), (at_, .inl (cB, 65536, .inl tf)), (h, .inr (2, [.ref a, .int (nI U2)])), (a, .inl (cI, N, .inl G))] := hD
      have hP := hP.sub (ws' := [(h, .inr (2, [.ref a, .int (nI U2)])), (a, .inl (cI, N, .inl G)), (ht, .inr (0, [.ref at_, .int (nI n)])), (at_, .inl (cB, 65536, .inl tf))]) [2, 3, 0, 1] rfl
      have hD := hD.sub (ws' := [(h, .inr (2, [.ref a, .int (nI U2)])), (a, .inl (cI, N, .inl G)), (ht, .inr (0, [.ref at_, .int (nI n)])), (at_, .inl (cB, 65536, .inl tf))]) [2, 3, 0, 1] (by decide) rfl
      rw [hval2] at hw
      dsimp only at hw
      refine lv_if_ne (tgt := 88) hx hb dX2_becomeDigitsOf_83 (by decide) (fun hb1 => ?_) (fun hb1 => ?_)
      · have hw1 := hw.resolve_right (fun h9 => hb1 h9.1)
        refine lv_lconst (v := lN 1) hx hb dX2_becomeDigitsOf_88 (by decide) ?_
        refine lv_lstore (lv' := [(6, .long (lN 1)), (8, .long (lN pr2)), (10, .int (nI i)), (4, .long (lN mo)), (0, .ref h), (1, .ref ht), (2, .int (nI i0)), (3, .int (nI r))]) hx hb dX2_becomeDigitsOf_89 hl (by decide) rfl (fun ls hl => ?_)
        refine lv_lconst (v := lN 0) hx hb dX2_becomeDigitsOf_91 (by decide) ?_
        refine lv_lstore (lv' := [(8, .long (lN 0)), (6, .long (lN 1)), (10, .int (nI i)), (4, .long (lN mo)), (0, .ref h), (1, .ref ht), (2, .int (nI i0)), (3, .int (nI r))]) hx hb dX2_becomeDigitsOf_92 hl (by decide) rfl (fun ls hl => ?_)
        refine lv_iinc (v := nI (i + 1)) (lv' := [(10, .int (nI (i + 1))), (8, .long (lN 0)), (6, .long (lN 1)), (4, .long (lN mo)), (0, .ref h), (1, .ref ht), (2, .int (nI i0)), (3, .int (nI r))]) hx hb dX2_becomeDigitsOf_94 hl (k := 2) rfl ((nI_succ i).symm) (by decide) rfl (fun ls hl => ?_)
        refine lv_goto (tgt := 22) hx hb dX2_becomeDigitsOf_97 (by decide) ?_
        exact ih (i + 1, 1, 0, G, U2) H locs ls (by show n - (i + 1) < n - i; omega) ⟨by show i0 ≤ i + 1; omega, by show i + 1 ≤ n; omega, Nat.le_refl _, hmo1, by show 0 < 1; decide, hw1.2.1, hw1.2.2.2, by show dvb _ G U2 * 1 + 0 = hn r T i0 (i + 1 - i0); rw [hw1.2.2.1]; omega, fun _ => rfl⟩ hP hD hS (lv_sub hl [0, 1, 2, 3, 4, 5, 6, 7] rfl)
      · have hw1 := hw.resolve_left (fun h9 => absurd (hb1.symm.trans h9.1) (by decide))
        refine lv_iconst (v := nI 0) hx hb dX2_becomeDigitsOf_86 (by decide) ?_
        refine dm_zret (v := nI 0) hC (Or.inl rfl) hK (G, U2) (Or.inr ⟨rfl, hw1.2.1, Nat.le_trans hw1.2.2 ?_⟩) hP hD hS dX2_becomeDigitsOf_87
        have h8 := hn_mono (r := r) (by omega) (T := T) (i := i0) (k := i + 1 - i0) (d := n - (i + 1))
        rwa [show i + 1 - i0 + (n - (i + 1)) = n - i0 by omega] at h8
end
section
/-! what type and repeat append -/
def tb (x d : Nat) : Nat := x / 2 ^ (56 - 8 * d) % 256
theorem tb_lt (x d : Nat) : tb x d < 256 := Nat.mod_lt _ (by decide)
def tyl (x : Nat) : Nat → List Nat
  | 0 => []
  | d + 1 => tyl x d ++ (if tb x d = 0 then [] else [tb x d])
def tyOK (x n : Nat) : Prop := (∀ d, d < 8 → tb x d ≤ 126) ∧ n + (tyl x 8).length ≤ 65536
def T2 (n : Nat) (T : Nat → Nat) (L : List Nat) : Nat → Nat := fun j => if j < n then T j else L.getD (j - n) 0
def T3 (n m : Nat) (T : Nat → Nat) : Nat → Nat := fun j => if j < n then T j else T (n - m + (j - n) % m)
theorem tyl_len (x : Nat) : ∀ d, (tyl x d).length ≤ d
  | 0 => Nat.le_refl _
  | d + 1 => by
    have h := tyl_len x d
    unfold tyl
    rw [List.length_append]
    split <;> simp <;> omega
theorem sh_dec : ∀ d, d < 8 → nI (56 - 8 * d) + Int32.ofInt (-8) = nI 56 - nI (8 * (d + 1)) := by decide
theorem and255 (M : Nat) : nI M &&& nI 255 = nI (M % 256) := by
  rw [pk_and (nI M) (m := nI 255) 8 (by decide)]
  show nI (un (nI M) % 2 ^ 8) = _
  rw [un_mod]
  congr 1
  omega
theorem b7 : ∀ c, c < 128 → (nI c).toInt8.toInt32 = nI c := by decide
theorem nar7 {c : Nat} (h : c < 128) : vp_nar .byte (nI c) = nI c := by rw [vp_nar_byte, b7 c h]
theorem T2_nil {n : Nat} {T : Nat → Nat} {f : Nat → Int32} (h : txt n T f) : txt (n + 0) (T2 n T []) f := fun j hj => by
  unfold T2
  rw [if_pos (by omega)]
  exact h j (by omega)
theorem T2_push {n : Nat} {T : Nat → Nat} {L : List Nat} {f : Nat → Int32} {c : Nat} (h : txt (n + L.length) (T2 n T L) f) (hc : c < 128) : txt (n + (L ++ [c]).length) (T2 n T (L ++ [c])) (upd f (n + L.length) (nI c)) := by
  intro j hj
  rw [List.length_append, List.length_singleton] at hj
  unfold T2
  rcases (show j < n + L.length ∨ j = n + L.length by omega) with h1 | h1
  · have h2 := h j h1
    unfold T2 at h2
    rw [pk_un (by omega)]
    by_cases h3 : j < n
    · rw [if_pos h3] at h2 ⊢; exact h2
    · rw [if_neg h3] at h2 ⊢
      rw [List.getD_eq_getElem?_getD, List.getElem?_append_left (by omega), ← List.getD_eq_getElem?_getD]
      exact h2
  · rw [h1, pk_us, if_neg (by omega), show n + L.length - n = L.length by omega, List.getD_eq_getElem?_getD, List.getElem?_append_right (Nat.le_refl _), Nat.sub_self]
    exact ⟨rfl, hc⟩
theorem T3_back {n m : Nat} {T : Nat → Nat} {i : Nat} (hm : 1 ≤ m) (hmn : m ≤ n) (hi : n ≤ i) : T3 n m T i = T3 n m T (i - m) := by
  unfold T3
  rw [if_neg (by omega)]
  by_cases h : i - m < n
  · rw [if_pos h, Nat.mod_eq_of_lt (by omega)]
    congr 1
    omega
  · rw [if_neg h]
    congr 2
    rw [show i - n = (i - m - n) + m by omega, Nat.add_mod_right]
def rpOK (mm kk : Int32) (n m k : Nat) : Prop := mm = nI m ∧ kk = nI k ∧ 1 ≤ m ∧ m ≤ n ∧ k < 2 ^ 31 ∧ n + m * k ≤ 65536
theorem rng1 {x : Int32} {n : Nat} (hn : n < 2 ^ 31) (h1 : ¬ x < nI 1) (h2 : ¬ nI n < x) : ∃ m : Nat, 1 ≤ m ∧ m ≤ n ∧ x = nI m := by
  have h3 : ¬ x.toInt < (nI 1).toInt := fun q => h1 (Int32.lt_iff_toInt_lt.mpr q)
  have h4 : ¬ (nI n).toInt < x.toInt := fun q => h2 (Int32.lt_iff_toInt_lt.mpr q)
  rw [nI_toInt (by decide)] at h3
  rw [nI_toInt hn] at h4
  obtain ⟨m, hm, rfl⟩ := nI_of (x := x) (fun q => by have := Int32.lt_iff_toInt_lt.mp q; rw [show (0 : Int32).toInt = 0 from rfl] at this; omega)
  rw [nI_toInt hm] at h3 h4
  exact ⟨m, by omega, by omega, rfl⟩
theorem nI_nn {x : Int32} (h : 0 ≤ x) : ∃ k : Nat, k < 2 ^ 31 ∧ x = nI k := nI_of (fun q => by have h1 := Int32.lt_iff_toInt_lt.mp q; have h2 := Int32.le_iff_toInt_le.mp h; omega)

set_option maxRecDepth 100000 in
set_option maxHeartbeats 4000000 in
theorem c_X0_appendBytes (l : Launch) (D : va_G) (cB cI cC : ClassId) (h a n x : Nat) (T : Nat → Nat) (f : Nat → Int32) (hn : n ≤ 65536) (hx8 : x < 18446744073709551616) (htx : txt n T f) : MI l yX0_appendBytes (Cond.code yX0_appendBytes cX0_appendBytes 6 (some .boolean)) 0 D (TY cB cI cC) [.ref h, .long (lN x)] [(h, .inr (0, [.ref a, .int (nI n)])), (a, .inl (cB, 65536, .inl f))] (S := (Nat → Int32) × Nat) (fun r q => (tyOK x n ∧ r = 1 ∧ q.2 = n + (tyl x 8).length ∧ txt q.2 (T2 n T (tyl x 8)) q.1) ∨ (¬ tyOK x n ∧ r = 0 ∧ q = (f, n))) (fun q => [(h, .inr (0, [.ref a, .int (nI q.2)])), (a, .inl (cB, 65536, .inl q.1))]) := by
  refine MI.of (by decide) (Nat.le_of_ble_eq_true rfl) ?_
  intro p e s m below meth c ls A hC hA hP hK hD hS hl
  obtain ⟨hx, hb, hr, hml, hown, hts, hlocks, hN⟩ := id hC
  have hown : s.vm.findClass RX0 = some m.cls := hown
  have hl : lv_has ls 6 [(0, .ref h), (1, .long (lN x))] := hl
  refine lv_iconst (v := nI 0) hx hb dX0_appendBytes_0 (by decide) ?_
  refine lv_istore_n (lv' := [(3, .int (nI 0)), (0, .ref h), (1, .long (lN x))]) hx hb dX0_appendBytes_1 rfl hl (by decide) rfl (fun ls hl => ?_)
  refine lv_bipush (v := nI 56) hx hb dX0_appendBytes_2 (by decide) ?_
  refine lv_istore (lv' := [(4, .int (nI 56)), (3, .int (nI 0)), (0, .ref h), (1, .long (lN x))]) hx hb dX0_appendBytes_4 hl (by decide) rfl (fun ls hl => ?_)
  have hl : lv_has ls 6 [(4, .int (nI 56 - nI (8 * 0))), (3, .int (nI (tyl x 0).length)), (0, .ref h), (1, .long (lN x))] := by rw [show nI 56 - nI (8 * 0) = nI 56 by decide]; exact hl
  refine dm_loopR (nL := 6) 6 (fun d => d ≤ 8 ∧ ∀ j, j < d → tb x j ≤ 126) (fun d => [(4, .int (nI 56 - nI (8 * d))), (3, .int (nI (tyl x d).length)), (0, .ref h), (1, .long (lN x))]) (fun d => 8 - d) ?_ 0 ⟨Nat.zero_le _, fun j hj => absurd hj (Nat.not_lt_zero _)⟩ hl
  rintro d ls ⟨hd8, hok⟩ hl ih
  rcases (show d = 8 ∨ d < 8 by omega) with hd | hd
  · subst hd
    refine lv_iload hx hb dX0_appendBytes_6 (lv_at hl 0 rfl) ?_
    refine lv_if_lt (tgt := 50) hx hb dX0_appendBytes_8 (by decide) (fun hc => ?_) (fun hc => ?_)
    · have hlen := tyl_len x 8
      refine lv_iload_n hx hb dX0_appendBytes_50 rfl (lv_at hl 1 rfl) ?_
      refine lv_aload_n hx hb dX0_appendBytes_51 rfl (lv_at hl 2 rfl) ?_
      refine va_get (D := D) (ci := 0) (C := RX0) (T := TX0) (N := 2) (v := .ref a) hx hb hts kin_X0_w hown hK hP 0 rfl rfl 0 (by decide) (hts _ kfl_X0_10) (fun _ h9 => h9) rfl dX0_appendBytes_52 ?_
      refine va_alen (v := nI 65536) hx hb hK hP 1 0 rfl rfl rfl dX0_appendBytes_55 ?_
      refine lv_aload_n hx hb dX0_appendBytes_56 rfl (lv_at hl 2 rfl) ?_
      refine va_get (D := D) (ci := 0) (C := RX0) (T := TX0) (N := 2) (v := .int (nI n)) hx hb hts kin_X0_w hown hK hP 0 rfl rfl 1 (by decide) (hts _ kfl_X0_16) (fun _ h9 => h9) rfl dX0_appendBytes_57 ?_
      refine lv_isub hx hb dX0_appendBytes_60 ?_
      refine dm_ti (y := nI (65536 - n)) (pk_sub hn) ?_
      refine dm_icmp_le (tgt := 66) hx hb (by omega) (by omega) dX0_appendBytes_61 (by decide) (fun he => ?_) (fun he => ?_)
      · refine lv_bipush (v := nI 56) hx hb dX0_appendBytes_66 (by decide) ?_
        refine lv_istore (lv' := [(4, .int (nI 56)), (3, .int (nI (tyl x 8).length)), (0, .ref h), (1, .long (lN x))]) hx hb dX0_appendBytes_68 hl (by decide) rfl (fun ls hl => ?_)
        have hl : lv_has ls 6 [(4, .int (nI 56 - nI (8 * 0))), (0, .ref h), (1, .long (lN x))] := by rw [show nI 56 - nI (8 * 0) = nI 56 by decide]; exact lv_sub hl [0, 2, 3] rfl
        refine dm_loop (nL := 6) (head := 70) (P := fun (x8 : Nat × (Nat → Int32)) => x8.1 ≤ 8 ∧ txt (n + (tyl x x8.1).length) (T2 n T (tyl x x8.1)) x8.2) (w := fun x8 => [(h, .inr (0, [.ref a, .int (nI (n + (tyl x x8.1).length))])), (a, .inl (cB, 65536, .inl x8.2))]) (lv := fun x8 => [(4, .int (nI 56 - nI (8 * x8.1))), (0, .ref h), (1, .long (lN x))]) (μ := fun x8 => 8 - x8.1) ?_ (0, f) ⟨Nat.zero_le _, T2_nil htx⟩ hP hD hS hl
        clear ih
        rintro ⟨d, F⟩ H locs ls ⟨hd8, hF⟩ hP hD hS hl ih
        dsimp only at hd8 hF
        have hP : va_P D vwCl [(h, .inr (0, [.ref a, .int (nI (n + (tyl x d).length))])), (a, .inl (cB, 65536, .inl F))] H := hP
        have hD : va_D A [(h, .inr (0, [.ref a, .int (nI (n + (tyl x d).length))])), (a, .inl (cB, 65536, .inl F))] := hD
        have hl : lv_has ls 6 [(4, .int (nI 56 - nI (8 * d))), (0, .ref h), (1, .long (lN x))] := hl
        rcases (show d = 8 ∨ d < 8 by omega) with hd | hd
        · subst hd
          refine lv_iload hx hb dX0_appendBytes_70 (lv_at hl 0 rfl) ?_
          refine lv_if_lt (tgt := 119) hx hb dX0_appendBytes_72 (by decide) (fun hc1 => ?_) (fun hc1 => ?_)
          · refine lv_iconst (v := nI 1) hx hb dX0_appendBytes_119 (by decide) ?_
            exact dm_zret (v := nI 1) hC (Or.inr rfl) hK (F, n + (tyl x 8).length) (Or.inl ⟨⟨hok, by omega⟩, rfl, rfl, hF⟩) hP hD hS dX0_appendBytes_120
          · exact absurd (by decide) hc1
        · have hl : lv_has ls 6 [(4, .int (nI (56 - 8 * d))), (0, .ref h), (1, .long (lN x))] := by rw [show nI (56 - 8 * d) = nI 56 - nI (8 * d) from (pk_sub (by omega)).symm]; exact hl
          have hb8 := tb_lt x d
          have hok1 := hok d hd
          have hlen2 := tyl_len x d
          refine lv_iload hx hb dX0_appendBytes_70 (lv_at hl 0 rfl) ?_
          refine dm_if_lt (tgt := 119) hx hb (by omega) dX0_appendBytes_72 (by decide) (fun hc1 => ?_) (fun hc1 => ?_)
          · exact hc1.elim
          · refine lv_lload_n hx hb dX0_appendBytes_75 rfl (lv_at hl 2 rfl) ?_
            refine lv_iload hx hb dX0_appendBytes_76 (lv_at hl 0 rfl) ?_
            refine lv_lushr (v := lN (x / 2 ^ (56 - 8 * d))) hx hb dX0_appendBytes_78 (wb_shr hx8 (by omega)) ?_
            refine lv_l2i (v := nI (x / 2 ^ (56 - 8 * d))) hx hb dX0_appendBytes_79 (lN_low) ?_
            refine lv_sipush (v := nI 255) hx hb dX0_appendBytes_80 (by decide) ?_
            refine lv_iand hx hb dX0_appendBytes_83 ?_
            refine dm_ti (y := nI (tb x d)) (and255 _) ?_
            refine lv_istore (lv' := [(5, .int (nI (tb x d))), (4, .int (nI (56 - 8 * d))), (0, .ref h), (1, .long (lN x))]) hx hb dX0_appendBytes_84 hl (by decide) rfl (fun ls hl => ?_)
            refine lv_iload hx hb dX0_appendBytes_86 (lv_at hl 0 rfl) ?_
            refine dm_if_eq (tgt := 113) hx hb (by omega) dX0_appendBytes_88 (by decide) (fun hz => ?_) (fun hz => ?_)
            · refine lv_iinc (v := (nI 56 - nI (8 * (d + 1)))) (lv' := [(4, .int (nI 56 - nI (8 * (d + 1)))), (5, .int (nI (tb x d))), (0, .ref h), (1, .long (lN x))]) hx hb dX0_appendBytes_113 hl (k := 1) rfl (sh_dec d hd) (by decide) rfl (fun ls hl => ?_)
              refine lv_goto (tgt := 70) hx hb dX0_appendBytes_116 (by decide) ?_
              have e1 : tyl x (d + 1) = tyl x d := by show tyl x d ++ _ = _; rw [if_pos hz, List.append_nil]
              exact ih (d + 1, F) H locs ls (by show 8 - (d + 1) < 8 - d; omega) ⟨by show d + 1 ≤ 8; omega, by show txt (n + (tyl x (d + 1)).length) (T2 n T (tyl x (d + 1))) F; rw [e1]; exact hF⟩ (by show va_P D vwCl [(h, .inr (0, [.ref a, .int (nI (n + (tyl x (d + 1)).length))])), (a, .inl (cB, 65536, .inl F))] H; rw [e1]; exact hP) (by show va_D A [(h, .inr (0, [.ref a, .int (nI (n + (tyl x (d + 1)).length))])), (a, .inl (cB, 65536, .inl F))]; rw [e1]; exact hD) hS (lv_sub hl [0, 2, 3] rfl)
            · have e1 : tyl x (d + 1) = tyl x d ++ [tb x d] := by show tyl x d ++ _ = _; rw [if_neg hz]
              have hroom : n + (tyl x d).length < 65536 := by
                have h9 : ∀ c, d + c ≤ 8 → (tyl x d).length ≤ (tyl x (d + c)).length := by
                  intro c
                  induction c with
                  | zero => intro _; exact Nat.le_refl _
                  | succ c ihc =>
                    intro hc2
                    have := ihc (by omega)
                    show _ ≤ (tyl x (d + c) ++ _).length
                    rw [List.length_append]; omega
                have h10 : (tyl x d).length + 1 ≤ (tyl x 8).length := by
                  have h11 : ∀ c, d + 1 + c ≤ 8 → (tyl x (d + 1)).length ≤ (tyl x (d + 1 + c)).length := by
                    intro c
                    induction c with
                    | zero => intro _; exact Nat.le_refl _
                    | succ c ihc =>
                      intro hc2
                      have := ihc (by omega)
                      show _ ≤ (tyl x (d + 1 + c) ++ _).length
                      rw [List.length_append]; omega
                  have h12 := h11 (7 - d) (by omega)
                  rw [show d + 1 + (7 - d) = 8 by omega, e1, List.length_append, List.length_singleton] at h12
                  exact h12
                omega
              refine lv_aload_n hx hb dX0_appendBytes_91 rfl (lv_at hl 2 rfl) ?_
              refine va_get (D := D) (ci := 0) (C := RX0) (T := TX0) (N := 2) (v := .ref a) hx hb hts kin_X0_w hown hK hP 0 rfl rfl 0 (by decide) (hts _ kfl_X0_10) (fun _ h9 => h9) rfl dX0_appendBytes_92 ?_
              refine lv_aload_n hx hb dX0_appendBytes_95 rfl (lv_at hl 2 rfl) ?_
              refine va_get (D := D) (ci := 0) (C := RX0) (T := TX0) (N := 2) (v := .int (nI (n + (tyl x d).length))) hx hb hts kin_X0_w hown hK hP 0 rfl rfl 1 (by decide) (hts _ kfl_X0_16) (fun _ h9 => h9) rfl dX0_appendBytes_96 ?_
              refine lv_iload hx hb dX0_appendBytes_99 (lv_at hl 0 rfl) ?_
              refine lv_i2b (v := nI (tb x d)) hx hb dX0_appendBytes_101 (b7 _ (by omega)) ?_
              refine dm_bast (j := (n + (tyl x d).length)) (f' := upd F (n + (tyl x d).length) (nI (tb x d))) hx hb hK hP hD hS 1 0 rfl rfl (hroom) (by decide) (by rw [nar7 (by omega)]) dX0_appendBytes_102 (fun H locs hP hD hS => ?_)
              have hP : va_P D vwCl [(h, .inr (0, [.ref a, .int (nI (n + (tyl x d).length))])), (a, .inl (cB, 65536, .inl (upd F (n + (tyl x d).length) (nI (tb x d)))))] H := hP
              have hD : va_D A [(h, .inr (0, [.ref a, .int (nI (n + (tyl x d).length))])), (a, .inl (cB, 65536, .inl (upd F (n + (tyl x d).length) (nI (tb x d)))))] := hD
              refine lv_aload_n hx hb dX0_appendBytes_103 rfl (lv_at hl 2 rfl) ?_
              refine lv_dup hx hb dX0_appendBytes_104 rfl ?_
              refine va_get (D := D) (ci := 0) (C := RX0) (T := TX0) (N := 2) (v := .int (nI (n + (tyl x d).length))) hx hb hts kin_X0_w hown hK hP 0 rfl rfl 1 (by decide) (hts _ kfl_X0_16) (fun _ h9 => h9) rfl dX0_appendBytes_105 ?_
              refine lv_iconst (v := nI 1) hx hb dX0_appendBytes_108 (by decide) ?_
              refine lv_iadd hx hb dX0_appendBytes_109 ?_
              refine dm_ti (y := nI (n + (tyl x d).length + 1)) (nI_1 _) ?_
              refine va_put (D := D) (ci := 0) (v := .int (nI (n + (tyl x d).length + 1))) (ty := .int) (C := RX0) (T := TX0) (N := 2) hx hb hts kin_X0_w tyX0 tyX0_ok nmX0 hown hK hP hD hS 0 rfl rfl 1 (by decide) (hts _ kfl_X0_16) (fun _ h9 => h9) rfl (by decide +kernel) rfl rfl (Nat.le_of_ble_eq_true rfl) dX0_appendBytes_110 (fun H locs hP hD hS => ?_)
              have hP : va_P D vwCl [(h, .inr (0, [.ref a, .int (nI (n + (tyl x d).length + 1))])), (a, .inl (cB, 65536, .inl (upd F (n + (tyl x d).length) (nI (tb x d)))))] H := hP
              have hD : va_D A [(h, .inr (0, [.ref a, .int (nI (n + (tyl x d).length + 1))])), (a, .inl (cB, 65536, .inl (upd F (n + (tyl x d).length) (nI (tb x d)))))] := hD
              refine lv_iinc (v := (nI 56 - nI (8 * (d + 1)))) (lv' := [(4, .int (nI 56 - nI (8 * (d + 1)))), (5, .int (nI (tb x d))), (0, .ref h), (1, .long (lN x))]) hx hb dX0_appendBytes_113 hl (k := 1) rfl (sh_dec d hd) (by decide) rfl (fun ls hl => ?_)
              refine lv_goto (tgt := 70) hx hb dX0_appendBytes_116 (by decide) ?_
              have e2 : n + (tyl x d).length + 1 = n + (tyl x (d + 1)).length := by rw [e1, List.length_append, List.length_singleton]; omega
              rw [e2] at hP hD
              exact ih (d + 1, upd F (n + (tyl x d).length) (nI (tb x d))) H locs ls (by show 8 - (d + 1) < 8 - d; omega) ⟨by show d + 1 ≤ 8; omega, by show txt (n + (tyl x (d + 1)).length) (T2 n T (tyl x (d + 1))) _; rw [e1]; exact T2_push hF (by omega)⟩ hP hD hS (lv_sub hl [0, 2, 3] rfl)
      · refine lv_iconst (v := nI 0) hx hb dX0_appendBytes_64 (by decide) ?_
        exact dm_zret (v := nI 0) hC (Or.inl rfl) hK (f, n) (Or.inr ⟨fun h9 => by have := h9.2; omega, rfl, rfl⟩) hP hD hS dX0_appendBytes_65
    · exact absurd (by decide) hc
  · have hl : lv_has ls 6 [(4, .int (nI (56 - 8 * d))), (3, .int (nI (tyl x d).length)), (0, .ref h), (1, .long (lN x))] := by rw [show nI (56 - 8 * d) = nI 56 - nI (8 * d) from (pk_sub (by omega)).symm]; exact hl
    have hb8 := tb_lt x d
    refine lv_iload hx hb dX0_appendBytes_6 (lv_at hl 0 rfl) ?_
    refine dm_if_lt (tgt := 50) hx hb (by omega) dX0_appendBytes_8 (by decide) (fun hc => ?_) (fun hc => ?_)
    · exact hc.elim
    · refine lv_lload_n hx hb dX0_appendBytes_11 rfl (lv_at hl 3 rfl) ?_
      refine lv_iload hx hb dX0_appendBytes_12 (lv_at hl 0 rfl) ?_
      refine lv_lushr (v := lN (x / 2 ^ (56 - 8 * d))) hx hb dX0_appendBytes_14 (wb_shr hx8 (by omega)) ?_
      refine lv_l2i (v := nI (x / 2 ^ (56 - 8 * d))) hx hb dX0_appendBytes_15 (lN_low) ?_
      refine lv_sipush (v := nI 255) hx hb dX0_appendBytes_16 (by decide) ?_
      refine lv_iand hx hb dX0_appendBytes_19 ?_
      refine dm_ti (y := nI (tb x d)) (and255 _) ?_
      refine lv_istore (lv' := [(5, .int (nI (tb x d))), (4, .int (nI (56 - 8 * d))), (3, .int (nI (tyl x d).length)), (0, .ref h), (1, .long (lN x))]) hx hb dX0_appendBytes_20 hl (by decide) rfl (fun ls hl => ?_)
      refine lv_iload hx hb dX0_appendBytes_22 (lv_at hl 0 rfl) ?_
      refine lv_bipush (v := nI 126) hx hb dX0_appendBytes_24 (by decide) ?_
      refine dm_icmp_le (tgt := 31) hx hb (by omega) (by omega) dX0_appendBytes_26 (by decide) (fun he => ?_) (fun he => ?_)
      · have hok2 : ∀ j, j < d + 1 → tb x j ≤ 126 := lt_s hok he
        refine lv_iload_n hx hb dX0_appendBytes_31 rfl (lv_at hl 2 rfl) ?_
        refine lv_iload hx hb dX0_appendBytes_32 (lv_at hl 0 rfl) ?_
        refine dm_if_ne (tgt := 41) hx hb (by omega) dX0_appendBytes_34 (by decide) (fun hz => ?_) (fun hz => ?_)
        · refine lv_iconst (v := nI 1) hx hb dX0_appendBytes_41 (by decide) ?_
          refine lv_iadd hx hb dX0_appendBytes_42 ?_
          refine dm_ti (y := nI (tyl x (d + 1)).length) (by rw [nI_add]; congr 1; show _ = (tyl x d ++ _).length; rw [if_neg hz, List.length_append]; rfl) ?_
          refine lv_istore_n (lv' := [(3, .int (nI (tyl x (d + 1)).length)), (5, .int (nI (tb x d))), (4, .int (nI (56 - 8 * d))), (0, .ref h), (1, .long (lN x))]) hx hb dX0_appendBytes_43 rfl hl (by decide) rfl (fun ls hl => ?_)
          refine lv_iinc (v := (nI 56 - nI (8 * (d + 1)))) (lv' := [(4, .int (nI 56 - nI (8 * (d + 1)))), (3, .int (nI (tyl x (d + 1)).length)), (5, .int (nI (tb x d))), (0, .ref h), (1, .long (lN x))]) hx hb dX0_appendBytes_44 hl (k := 2) rfl (sh_dec d hd) (by decide) rfl (fun ls hl => ?_)
          refine lv_goto (tgt := 6) hx hb dX0_appendBytes_47 (by decide) ?_
          exact ih (d + 1) ls (by omega) ⟨by omega, hok2⟩ (lv_sub hl [0, 1, 3, 4] rfl)
        · refine lv_iconst (v := nI 0) hx hb dX0_appendBytes_37 (by decide) ?_
          refine lv_goto (tgt := 42) hx hb dX0_appendBytes_38 (by decide) ?_
          refine lv_iadd hx hb dX0_appendBytes_42 ?_
          refine dm_ti (y := nI (tyl x (d + 1)).length) (by rw [nI_add]; congr 1; show _ = (tyl x d ++ _).length; rw [if_pos hz, List.append_nil]; rfl) ?_
          refine lv_istore_n (lv' := [(3, .int (nI (tyl x (d + 1)).length)), (5, .int (nI (tb x d))), (4, .int (nI (56 - 8 * d))), (0, .ref h), (1, .long (lN x))]) hx hb dX0_appendBytes_43 rfl hl (by decide) rfl (fun ls hl => ?_)
          refine lv_iinc (v := (nI 56 - nI (8 * (d + 1)))) (lv' := [(4, .int (nI 56 - nI (8 * (d + 1)))), (3, .int (nI (tyl x (d + 1)).length)), (5, .int (nI (tb x d))), (0, .ref h), (1, .long (lN x))]) hx hb dX0_appendBytes_44 hl (k := 2) rfl (sh_dec d hd) (by decide) rfl (fun ls hl => ?_)
          refine lv_goto (tgt := 6) hx hb dX0_appendBytes_47 (by decide) ?_
          exact ih (d + 1) ls (by omega) ⟨by omega, hok2⟩ (lv_sub hl [0, 1, 3, 4] rfl)
      · refine lv_iconst (v := nI 0) hx hb dX0_appendBytes_29 (by decide) ?_
        exact dm_zret (v := nI 0) hC (Or.inl rfl) hK (f, n) (Or.inr ⟨fun h9 => by have := h9.1 d hd; omega, rfl, rfl⟩) hP hD hS dX0_appendBytes_30

set_option maxRecDepth 100000 in
set_option maxHeartbeats 4000000 in
theorem c_X0_appendEnd (l : Launch) (D : va_G) (cB cI cC : ClassId) (h a n : Nat) (mm kk : Int32) (T : Nat → Nat) (f : Nat → Int32) (hn : n ≤ 65536) (htx : txt n T f) : MI l yX0_appendEnd (Cond.code yX0_appendEnd cX0_appendEnd 7 (some .boolean)) 0 D (TY cB cI cC) [.ref h, .int mm, .int kk] [(h, .inr (0, [.ref a, .int (nI n)])), (a, .inl (cB, 65536, .inl f))] (S := (Nat → Int32) × Nat) (fun r q => (∃ m k, rpOK mm kk n m k ∧ r = 1 ∧ q.2 = n + m * k ∧ txt q.2 (T3 n m T) q.1) ∨ ((∀ m k, ¬ rpOK mm kk n m k) ∧ r = 0 ∧ q = (f, n))) (fun q => [(h, .inr (0, [.ref a, .int (nI q.2)])), (a, .inl (cB, 65536, .inl q.1))]) := by
  refine MI.of (by decide) (Nat.le_of_ble_eq_true rfl) ?_
  intro p e s m below meth c ls A hC hA hP hK hD hS hl
  obtain ⟨hx, hb, hr, hml, hown, hts, hlocks, hN⟩ := id hC
  have hown : s.vm.findClass RX0 = some m.cls := hown
  have hl : lv_has ls 7 [(0, .ref h), (1, .int mm), (2, .int kk)] := hl
  refine lv_iload_n hx hb dX0_appendEnd_0 rfl (lv_at hl 1 rfl) ?_
  refine lv_iconst (v := nI 1) hx hb dX0_appendEnd_1 (by decide) ?_
  refine lv_icmp_lt (tgt := 17) hx hb dX0_appendEnd_2 (by decide) (fun h1 => ?_) (fun h1 => ?_)
  · refine lv_iconst (v := nI 0) hx hb dX0_appendEnd_17 (by decide) ?_
    exact dm_zret (v := nI 0) hC (Or.inl rfl) hK (f, n) (Or.inr ⟨fun m k h9 => by rw [h9.1] at h1; exact nI_nlt h9.2.2.1 (by have := h9.2.2.2.1; omega) h1, rfl, rfl⟩) hP hD hS dX0_appendEnd_18
  · refine lv_iload_n hx hb dX0_appendEnd_5 rfl (lv_at hl 1 rfl) ?_
    refine lv_aload_n hx hb dX0_appendEnd_6 rfl (lv_at hl 0 rfl) ?_
    refine va_get (D := D) (ci := 0) (C := RX0) (T := TX0) (N := 2) (v := .int (nI n)) hx hb hts kin_X0_w hown hK hP 0 rfl rfl 1 (by decide) (hts _ kfl_X0_16) (fun _ h9 => h9) rfl dX0_appendEnd_7 ?_
    refine lv_icmp_gt (tgt := 17) hx hb dX0_appendEnd_10 (by decide) (fun h2 => ?_) (fun h2 => ?_)
    · refine lv_iconst (v := nI 0) hx hb dX0_appendEnd_17 (by decide) ?_
      exact dm_zret (v := nI 0) hC (Or.inl rfl) hK (f, n) (Or.inr ⟨fun m k h9 => by rw [h9.1] at h2; exact nI_nlt h9.2.2.2.1 (by omega) h2, rfl, rfl⟩) hP hD hS dX0_appendEnd_18
    · obtain ⟨m, hm1, hmn, rfl⟩ := rng1 (by omega) h1 h2
      refine lv_iload_n hx hb dX0_appendEnd_13 rfl (lv_at hl 2 rfl) ?_
      refine lv_if_ge (tgt := 19) hx hb dX0_appendEnd_14 (by decide) (fun h3 => ?_) (fun h3 => ?_)
      · obtain ⟨k, hk, rfl⟩ := nI_nn h3
        have hmk : m * k < 2 ^ 63 := by
          have h8 : m * k ≤ 65536 * 2147483648 := Nat.mul_le_mul (by omega) (by omega)
          omega
        refine lv_iload_n hx hb dX0_appendEnd_19 rfl (lv_at hl 1 rfl) ?_
        refine lv_i2l (v := lN m) hx hb dX0_appendEnd_20 (nI_l (by omega)) ?_
        refine lv_iload_n hx hb dX0_appendEnd_21 rfl (lv_at hl 2 rfl) ?_
        refine lv_i2l (v := lN k) hx hb dX0_appendEnd_22 (nI_l hk) ?_
        refine lv_lmul hx hb dX0_appendEnd_23 ?_
        refine dm_tl (y := lN (m * k)) (lN_mul _ _) ?_
        refine lv_lstore_n (lv' := [(3, .long (lN (m * k))), (0, .ref h), (1, .int (nI m)), (2, .int (nI k))]) hx hb dX0_appendEnd_24 rfl hl (by decide) rfl (fun ls hl => ?_)
        refine lv_lload_n hx hb dX0_appendEnd_25 rfl (lv_at hl 0 rfl) ?_
        refine lv_aload_n hx hb dX0_appendEnd_26 rfl (lv_at hl 1 rfl) ?_
        refine va_get (D := D) (ci := 0) (C := RX0) (T := TX0) (N := 2) (v := .ref a) hx hb hts kin_X0_w hown hK hP 0 rfl rfl 0 (by decide) (hts _ kfl_X0_10) (fun _ h9 => h9) rfl dX0_appendEnd_27 ?_
        refine va_alen (v := nI 65536) hx hb hK hP 1 0 rfl rfl rfl dX0_appendEnd_30 ?_
        refine lv_aload_n hx hb dX0_appendEnd_31 rfl (lv_at hl 1 rfl) ?_
        refine va_get (D := D) (ci := 0) (C := RX0) (T := TX0) (N := 2) (v := .int (nI n)) hx hb hts kin_X0_w hown hK hP 0 rfl rfl 1 (by decide) (hts _ kfl_X0_16) (fun _ h9 => h9) rfl dX0_appendEnd_32 ?_
        refine lv_isub hx hb dX0_appendEnd_35 ?_
        refine dm_ti (y := nI (65536 - n)) (pk_sub hn) ?_
        refine lv_i2l (v := lN (65536 - n)) hx hb dX0_appendEnd_36 (nI_l (by omega)) ?_
        refine dm_lc_le (tgt := 43) hx hb (by omega) (by omega) dX0_appendEnd_37 dX0_appendEnd_38 (by decide) (fun h4 => ?_) (fun h4 => ?_)
        · refine lv_aload_n hx hb dX0_appendEnd_43 rfl (lv_at hl 1 rfl) ?_
          refine va_get (D := D) (ci := 0) (C := RX0) (T := TX0) (N := 2) (v := .int (nI n)) hx hb hts kin_X0_w hown hK hP 0 rfl rfl 1 (by decide) (hts _ kfl_X0_16) (fun _ h9 => h9) rfl dX0_appendEnd_44 ?_
          refine lv_lload_n hx hb dX0_appendEnd_47 rfl (lv_at hl 0 rfl) ?_
          refine lv_l2i (v := nI (m * k)) hx hb dX0_appendEnd_48 (lN_low) ?_
          refine lv_iadd hx hb dX0_appendEnd_49 ?_
          refine dm_ti (y := nI (n + m * k)) (nI_add _ _) ?_
          refine lv_istore (lv' := [(5, .int (nI (n + m * k))), (3, .long (lN (m * k))), (0, .ref h), (1, .int (nI m)), (2, .int (nI k))]) hx hb dX0_appendEnd_50 hl (by decide) rfl (fun ls hl => ?_)
          refine lv_aload_n hx hb dX0_appendEnd_52 rfl (lv_at hl 2 rfl) ?_
          refine va_get (D := D) (ci := 0) (C := RX0) (T := TX0) (N := 2) (v := .int (nI n)) hx hb hts kin_X0_w hown hK hP 0 rfl rfl 1 (by decide) (hts _ kfl_X0_16) (fun _ h9 => h9) rfl dX0_appendEnd_53 ?_
          refine lv_istore (lv' := [(6, .int (nI n)), (5, .int (nI (n + m * k))), (3, .long (lN (m * k))), (0, .ref h), (1, .int (nI m)), (2, .int (nI k))]) hx hb dX0_appendEnd_56 hl (by decide) rfl (fun ls hl => ?_)
          refine dm_loop (nL := 7) (head := 58) (P := fun (q : Nat × (Nat → Int32)) => n ≤ q.1 ∧ q.1 ≤ n + m * k ∧ txt q.1 (T3 n m T) q.2) (w := fun q => [(h, .inr (0, [.ref a, .int (nI n)])), (a, .inl (cB, 65536, .inl q.2))]) (lv := fun q => [(6, .int (nI q.1)), (5, .int (nI (n + m * k))), (0, .ref h), (1, .int (nI m)), (2, .int (nI k))]) (μ := fun q => n + m * k - q.1) ?_ (n, f) ⟨Nat.le_refl _, Nat.le_add_right _ _, fun j hj => by unfold T3; rw [if_pos hj]; exact htx j hj⟩ hP hD hS (lv_sub hl [0, 1, 3, 4, 5] rfl)
          rintro ⟨i, F⟩ H locs ls ⟨hi1, hi2, hF⟩ hP hD hS hl ih
          dsimp only at hi1 hi2 hF
          have hP : va_P D vwCl [(h, .inr (0, [.ref a, .int (nI n)])), (a, .inl (cB, 65536, .inl F))] H := hP
          have hD : va_D A [(h, .inr (0, [.ref a, .int (nI n)])), (a, .inl (cB, 65536, .inl F))] := hD
          have hl : lv_has ls 7 [(6, .int (nI i)), (5, .int (nI (n + m * k))), (0, .ref h), (1, .int (nI m)), (2, .int (nI k))] := hl
          refine lv_iload hx hb dX0_appendEnd_58 (lv_at hl 0 rfl) ?_
          refine lv_iload hx hb dX0_appendEnd_60 (lv_at hl 1 rfl) ?_
          refine dm_icmp_ge (tgt := 87) hx hb (by omega) (by omega) dX0_appendEnd_62 (by decide) (fun h5 => ?_) (fun h5 => ?_)
          · have hin : i = n + m * k := by omega
            subst hin
            refine lv_aload_n hx hb dX0_appendEnd_87 rfl (lv_at hl 2 rfl) ?_
            refine lv_iload hx hb dX0_appendEnd_88 (lv_at hl 1 rfl) ?_
            refine va_put (D := D) (ci := 0) (v := .int (nI (n + m * k))) (ty := .int) (C := RX0) (T := TX0) (N := 2) hx hb hts kin_X0_w tyX0 tyX0_ok nmX0 hown hK hP hD hS 0 rfl rfl 1 (by decide) (hts _ kfl_X0_16) (fun _ h9 => h9) rfl (by decide +kernel) rfl rfl (Nat.le_of_ble_eq_true rfl) dX0_appendEnd_90 (fun H locs hP hD hS => ?_)
            have hP : va_P D vwCl [(h, .inr (0, [.ref a, .int (nI (n + m * k))])), (a, .inl (cB, 65536, .inl F))] H := hP
            have hD : va_D A [(h, .inr (0, [.ref a, .int (nI (n + m * k))])), (a, .inl (cB, 65536, .inl F))] := hD
            refine lv_iconst (v := nI 1) hx hb dX0_appendEnd_93 (by decide) ?_
            exact dm_zret (v := nI 1) hC (Or.inr rfl) hK (F, n + m * k) (Or.inl ⟨m, k, ⟨rfl, rfl, hm1, hmn, hk, by omega⟩, rfl, rfl, hF⟩) hP hD hS dX0_appendEnd_94
          · have hbT := hF (i - m) (by omega)
            refine lv_aload_n hx hb dX0_appendEnd_65 rfl (lv_at hl 2 rfl) ?_
            refine va_get (D := D) (ci := 0) (C := RX0) (T := TX0) (N := 2) (v := .ref a) hx hb hts kin_X0_w hown hK hP 0 rfl rfl 0 (by decide) (hts _ kfl_X0_10) (fun _ h9 => h9) rfl dX0_appendEnd_66 ?_
            refine lv_iload hx hb dX0_appendEnd_69 (lv_at hl 0 rfl) ?_
            refine lv_aload_n hx hb dX0_appendEnd_71 rfl (lv_at hl 2 rfl) ?_
            refine va_get (D := D) (ci := 0) (C := RX0) (T := TX0) (N := 2) (v := .ref a) hx hb hts kin_X0_w hown hK hP 0 rfl rfl 0 (by decide) (hts _ kfl_X0_10) (fun _ h9 => h9) rfl dX0_appendEnd_72 ?_
            refine lv_iload hx hb dX0_appendEnd_75 (lv_at hl 0 rfl) ?_
            refine lv_iload_n hx hb dX0_appendEnd_77 rfl (lv_at hl 3 rfl) ?_
            refine lv_isub hx hb dX0_appendEnd_78 ?_
            refine dm_ti (y := nI (i - m)) (pk_sub (by omega)) ?_
            refine dm_bald (j := (i - m)) hx hb hK hP 1 0 rfl rfl (by omega) (by decide) dX0_appendEnd_79 ?_
            refine dm_ti (y := nI (T3 n m T (i - m))) (hbT.1) ?_
            refine dm_bast (j := i) (f' := upd F i (nI (T3 n m T (i - m)))) hx hb hK hP hD hS 1 0 rfl rfl (by omega) (by decide) (by rw [nar7 hbT.2]) dX0_appendEnd_80 (fun H locs hP hD hS => ?_)
            have hP : va_P D vwCl [(h, .inr (0, [.ref a, .int (nI n)])), (a, .inl (cB, 65536, .inl (upd F i (nI (T3 n m T (i - m))))))] H := hP
            have hD : va_D A [(h, .inr (0, [.ref a, .int (nI n)])), (a, .inl (cB, 65536, .inl (upd F i (nI (T3 n m T (i - m))))))] := hD
            refine lv_iinc (v := nI (i + 1)) (lv' := [(6, .int (nI (i + 1))), (5, .int (nI (n + m * k))), (0, .ref h), (1, .int (nI m)), (2, .int (nI k))]) hx hb dX0_appendEnd_81 hl (k := 0) rfl ((nI_succ i).symm) (by decide) rfl (fun ls hl => ?_)
            refine lv_goto (tgt := 58) hx hb dX0_appendEnd_84 (by decide) ?_
            exact ih (i + 1, upd F i (nI (T3 n m T (i - m)))) H locs ls (by show n + m * k - (i + 1) < n + m * k - i; omega) ⟨by show n ≤ i + 1; omega, by show i + 1 ≤ n + m * k; omega, fun j hj => (Nat.lt_or_eq_of_le (Nat.le_of_lt_succ hj)).elim (fun h6 => by show upd F i _ j = _ ∧ _; rw [pk_un (by omega)]; exact hF j h6) (fun h6 => by show upd F i _ j = _ ∧ _; rw [h6, pk_us, T3_back hm1 hmn hi1]; exact ⟨rfl, hbT.2⟩)⟩ hP hD hS (lv_sub hl [0, 1, 2, 3, 4] rfl)
        · refine lv_iconst (v := nI 0) hx hb dX0_appendEnd_41 (by decide) ?_
          exact dm_zret (v := nI 0) hC (Or.inl rfl) hK (f, n) (Or.inr ⟨fun m2 k2 h9 => by have e1 := (nI_eq (by omega) (by have := h9.2.2.2.1; omega)).mp h9.1; have e2 := (nI_eq hk h9.2.2.2.2.1).mp h9.2.1; have := h9.2.2.2.2.2; rw [← e1, ← e2] at this; omega, rfl, rfl⟩) hP hD hS dX0_appendEnd_42
      · refine lv_iconst (v := nI 0) hx hb dX0_appendEnd_17 (by decide) ?_
        exact dm_zret (v := nI 0) hC (Or.inl rfl) hK (f, n) (Or.inr ⟨fun m k h9 => by rw [h9.2.1] at h3; exact h3 (nI_pos' h9.2.2.2.2.1), rfl, rfl⟩) hP hD hS dX0_appendEnd_18
end
section
set_option maxRecDepth 100000 in
set_option maxHeartbeats 4000000 in
theorem c_X1_size (l : Launch) (D : va_G) (cB cI cC : ClassId) (h a st : Nat) (f : Nat → Int32) (hst : st ≤ 65536) : ROi l yX1_size (Cond.code yX1_size cX1_size 1 (some .int)) 0 D (TY cB cI cC) [.ref h] [(h, .inr (1, [.ref a, .int (nI st)])), (a, .inl (cB, 65536, .inl f))] (fun r => r = nI (65536 - st)) := by
  refine ROi.of (by decide) (Nat.le_of_ble_eq_true rfl) ?_
  intro p e s m below meth c ls A hC hA hP hK hD hS hl
  obtain ⟨hx, hb, hr, hml, hown, hts, hlocks, hN⟩ := id hC
  have hown : s.vm.findClass RX1 = some m.cls := hown
  have hl : lv_has ls 1 [(0, .ref h)] := hl
  refine lv_aload_n hx hb dX1_size_0 rfl (lv_at hl 0 rfl) ?_
  refine va_get (D := D) (ci := 1) (C := RX1) (T := TX1) (N := 2) (v := .ref a) hx hb hts kin_X1_w hown hK hP 0 rfl rfl 0 (by decide) (hts _ kfl_X1_10) (fun _ h9 => h9) rfl dX1_size_1 ?_
  refine va_alen (v := nI 65536) hx hb hK hP 1 0 rfl rfl rfl dX1_size_4 ?_
  refine lv_aload_n hx hb dX1_size_5 rfl (lv_at hl 0 rfl) ?_
  refine va_get (D := D) (ci := 1) (C := RX1) (T := TX1) (N := 2) (v := .int (nI st)) hx hb hts kin_X1_w hown hK hP 0 rfl rfl 1 (by decide) (hts _ kfl_X1_16) (fun _ h9 => h9) rfl dX1_size_6 ?_
  refine lv_isub hx hb dX1_size_9 ?_
  refine dm_ti (y := nI (65536 - st)) (pk_sub hst) ?_
  exact ri_iret hC (rfl) dX1_size_10

set_option maxRecDepth 100000 in
set_option maxHeartbeats 4000000 in
theorem c_X1_codeAt (l : Launch) (D : va_G) (cB cI cC : ClassId) (h a st : Nat) (f : Nat → Int32) (k : Int32) (hst : st ≤ 65536) : ROi l yX1_codeAt (Cond.code yX1_codeAt cX1_codeAt 2 (some .int)) 1 D (TY cB cI cC) [.ref h, .int k] [(h, .inr (1, [.ref a, .int (nI st)])), (a, .inl (cB, 65536, .inl f))] (fun r => (∀ j, j < 65536 - st → k = nI j → r = f (st + j)) ∧ ((∀ j, j < 65536 - st → k ≠ nI j) → r = -1)) := by
  refine ROi.of (by decide) (Nat.le_of_ble_eq_true rfl) ?_
  intro p e s m below meth c ls A hC hA hP hK hD hS hl
  obtain ⟨hx, hb, hr, hml, hown, hts, hlocks, hN⟩ := id hC
  have hown : s.vm.findClass RX1 = some m.cls := hown
  have hl : lv_has ls 2 [(0, .ref h), (1, .int k)] := hl
  refine lv_iload_n hx hb dX1_codeAt_0 rfl (lv_at hl 1 rfl) ?_
  refine lv_if_lt (tgt := 26) hx hb dX1_codeAt_1 (by decide) (fun hc => ?_) (fun hc => ?_)
  · refine lv_iconst (v := -1) hx hb dX1_codeAt_26 (by decide) ?_
    exact ri_iret hC (⟨fun j hj e0 => absurd hc (by rw [e0]; exact nI_pos (by omega)), fun _ => rfl⟩) dX1_codeAt_27
  · refine lv_iload_n hx hb dX1_codeAt_4 rfl (lv_at hl 1 rfl) ?_
    refine lv_aload_n hx hb dX1_codeAt_5 rfl (lv_at hl 0 rfl) ?_
    refine dm_gori (dm_rV (n := 0) (As := []) (rest := [.int k]) hC hl (c_X1_size l D cB cI cC h a st f hst s.heap.size) kco_X1_size ki_X1 kim_X1_size kse_X1_size kml_X1_20 (by decide +kernel) ⟨Nat.le_of_ble_eq_true rfl, Nat.le_of_ble_eq_true rfl⟩ rfl rfl ⟨dm_blind, va_recv hK hP (ci := 1) (q0 := 0) rfl rfl, dm_preU hK hP hD hC.2.2.2.2.2.2.2 [0, 1] (by decide) rfl⟩ rfl rfl (Nat.le_of_ble_eq_true rfl) dX1_codeAt_6 ⟨Nat.le_of_ble_eq_true rfl, Nat.le_of_ble_eq_true rfl⟩) (fun r1 h1 => ?_)
    subst h1
    refine lv_icmp_ge (tgt := 26) hx hb dX1_codeAt_9 (by decide) (fun hd => ?_) (fun hd => ?_)
    · refine lv_iconst (v := -1) hx hb dX1_codeAt_26 (by decide) ?_
      exact ri_iret hC (⟨fun j hj e0 => absurd hd (by rw [e0]; exact nI_ge hj (by omega)), fun _ => rfl⟩) dX1_codeAt_27
    · obtain ⟨j, hj, rfl⟩ : ∃ j : Nat, j < 65536 - st ∧ k = nI j := (pk_ix k (by omega)).resolve_left hc |>.resolve_left hd
      refine lv_aload_n hx hb dX1_codeAt_12 rfl (lv_at hl 0 rfl) ?_
      refine va_get (D := D) (ci := 1) (C := RX1) (T := TX1) (N := 2) (v := .ref a) hx hb hts kin_X1_w hown hK hP 0 rfl rfl 0 (by decide) (hts _ kfl_X1_10) (fun _ h9 => h9) rfl dX1_codeAt_13 ?_
      refine lv_aload_n hx hb dX1_codeAt_16 rfl (lv_at hl 0 rfl) ?_
      refine va_get (D := D) (ci := 1) (C := RX1) (T := TX1) (N := 2) (v := .int (nI st)) hx hb hts kin_X1_w hown hK hP 0 rfl rfl 1 (by decide) (hts _ kfl_X1_16) (fun _ h9 => h9) rfl dX1_codeAt_17 ?_
      refine lv_iload_n hx hb dX1_codeAt_20 rfl (lv_at hl 1 rfl) ?_
      refine lv_iadd hx hb dX1_codeAt_21 ?_
      refine dm_ti (y := nI (st + j)) (nI_add _ _) ?_
      refine dm_bald (j := (st + j)) hx hb hK hP 1 0 rfl rfl (by omega) (by decide) dX1_codeAt_22 ?_
      refine lv_goto (tgt := 27) hx hb dX1_codeAt_23 (by decide) ?_
      exact ri_iret hC (⟨fun i hi e0 => by rw [(nI_eq (by omega) (by omega)).mp e0], fun h9 => absurd rfl (h9 j hj)⟩) dX1_codeAt_27

set_option maxRecDepth 100000 in
set_option maxHeartbeats 4000000 in
theorem c_X1_prepend (l : Launch) (D : va_G) (cB cI cC : ClassId) (h a st c0 : Nat) (f : Nat → Int32) (hst : st ≤ 65536) (hs0 : 0 < st) (hc0 : c0 < 128) : MV l yX1_prepend (Cond.code yX1_prepend cX1_prepend 2 none) 0 D (TY cB cI cC) [.ref h, .int (nI c0)] [(h, .inr (1, [.ref a, .int (nI st)])), (a, .inl (cB, 65536, .inl f))] (S := Unit) (fun _ => True) (fun _ => [(h, .inr (1, [.ref a, .int (nI (st - 1))])), (a, .inl (cB, 65536, .inl (upd f (st - 1) (nI c0))))]) := by
  refine MV.of (by decide) (Nat.le_of_ble_eq_true rfl) ?_
  intro p e s m below meth c ls A hC hA hP hK hD hS hl
  obtain ⟨hx, hb, hr, hml, hown, hts, hlocks, hN⟩ := id hC
  have hown : s.vm.findClass RX1 = some m.cls := hown
  have hl : lv_has ls 2 [(0, .ref h), (1, .int (nI c0))] := hl
  refine lv_aload_n hx hb dX1_prepend_0 rfl (lv_at hl 0 rfl) ?_
  refine va_get (D := D) (ci := 1) (C := RX1) (T := TX1) (N := 2) (v := .int (nI st)) hx hb hts kin_X1_w hown hK hP 0 rfl rfl 1 (by decide) (hts _ kfl_X1_16) (fun _ h9 => h9) rfl dX1_prepend_1 ?_
  refine dm_if_le (tgt := 28) hx hb (by omega) dX1_prepend_4 (by decide) (fun hc => ?_) (fun hc => ?_)
  · exact absurd hc (by omega)
  · refine lv_aload_n hx hb dX1_prepend_7 rfl (lv_at hl 0 rfl) ?_
    refine lv_dup hx hb dX1_prepend_8 rfl ?_
    refine va_get (D := D) (ci := 1) (C := RX1) (T := TX1) (N := 2) (v := .int (nI st)) hx hb hts kin_X1_w hown hK hP 0 rfl rfl 1 (by decide) (hts _ kfl_X1_16) (fun _ h9 => h9) rfl dX1_prepend_9 ?_
    refine lv_iconst (v := nI 1) hx hb dX1_prepend_12 (by decide) ?_
    refine lv_isub hx hb dX1_prepend_13 ?_
    refine dm_ti (y := nI (st - 1)) (pk_sub hs0) ?_
    refine va_put (D := D) (ci := 1) (v := .int (nI (st - 1))) (ty := .int) (C := RX1) (T := TX1) (N := 2) hx hb hts kin_X1_w tyX1 tyX1_ok nmX1 hown hK hP hD hS 0 rfl rfl 1 (by decide) (hts _ kfl_X1_16) (fun _ h9 => h9) rfl (by decide +kernel) rfl rfl (Nat.le_of_ble_eq_true rfl) dX1_prepend_14 (fun H locs hP hD hS => ?_)
    have hP : va_P D vwCl [(h, .inr (1, [.ref a, .int (nI (st - 1))])), (a, .inl (cB, 65536, .inl f))] H := hP
    have hD : va_D A [(h, .inr (1, [.ref a, .int (nI (st - 1))])), (a, .inl (cB, 65536, .inl f))] := hD
    refine lv_aload_n hx hb dX1_prepend_17 rfl (lv_at hl 0 rfl) ?_
    refine va_get (D := D) (ci := 1) (C := RX1) (T := TX1) (N := 2) (v := .ref a) hx hb hts kin_X1_w hown hK hP 0 rfl rfl 0 (by decide) (hts _ kfl_X1_10) (fun _ h9 => h9) rfl dX1_prepend_18 ?_
    refine lv_aload_n hx hb dX1_prepend_21 rfl (lv_at hl 0 rfl) ?_
    refine va_get (D := D) (ci := 1) (C := RX1) (T := TX1) (N := 2) (v := .int (nI (st - 1))) hx hb hts kin_X1_w hown hK hP 0 rfl rfl 1 (by decide) (hts _ kfl_X1_16) (fun _ h9 => h9) rfl dX1_prepend_22 ?_
    refine lv_iload_n hx hb dX1_prepend_25 rfl (lv_at hl 1 rfl) ?_
    refine lv_i2b (v := nI c0) hx hb dX1_prepend_26 (b7 _ hc0) ?_
    refine dm_bast (j := (st - 1)) (f' := upd f (st - 1) (nI c0)) hx hb hK hP hD hS 1 0 rfl rfl (by omega) (by decide) (by rw [nar7 hc0]) dX1_prepend_27 (fun H locs hP hD hS => ?_)
    have hP : va_P D vwCl [(h, .inr (1, [.ref a, .int (nI (st - 1))])), (a, .inl (cB, 65536, .inl (upd f (st - 1) (nI c0))))] H := hP
    have hD : va_D A [(h, .inr (1, [.ref a, .int (nI (st - 1))])), (a, .inl (cB, 65536, .inl (upd f (st - 1) (nI c0))))] := hD
    exact dm_vret hC hK () trivial hP hD hS dX1_prepend_28

theorem cdv_lt {d : Nat} (h : d < 36) : cdv d < 128 := by unfold cdv; split <;> omega

set_option maxRecDepth 100000 in
set_option maxHeartbeats 4000000 in
theorem c_X1_prependDigits (l : Launch) (D : va_G) (cB cI cC : ClassId) (h a st pt K r z : Nat) (f : Nat → Int32) (hst : st ≤ 65536) (hpt : pt < 9223372036854775808) (hK31 : K < 2 ^ 31) (hr2 : 2 ≤ r) (hr : r ≤ 36) (hz : z < 2) (hz1 : z = 1 → K ≤ st) (hz0 : z = 0 → pt < r ^ st ∧ pt < r ^ K) : MV l yX1_prependDigits (Cond.code yX1_prependDigits cX1_prependDigits 9 none) 1 D (TY cB cI cC) [.ref h, .long (lN pt), .int (nI K), .int (nI r), .int (nI z)] [(h, .inr (1, [.ref a, .int (nI st)])), (a, .inl (cB, 65536, .inl f))] (S := (Nat → Int32) × Nat) (fun q => q.2 ≤ st ∧ (z = 1 → q.2 + K = st) ∧ (z = 0 → pt < r ^ (st - q.2) ∧ (q.2 = st ∨ r ^ (st - q.2 - 1) ≤ pt)) ∧ (∀ i, i < st - q.2 → q.1 (st - 1 - i) = nI (cdv (pt / r ^ i % r))) ∧ ∀ j, st ≤ j → q.1 j = f j) (fun q => [(h, .inr (1, [.ref a, .int (nI q.2)])), (a, .inl (cB, 65536, .inl q.1))]) := by
  refine MV.of (by decide) (Nat.le_of_ble_eq_true rfl) ?_
  intro p e s m below meth c ls A hC hA hP hK hD hS hl
  obtain ⟨hx, hb, hr, hml, hown, hts, hlocks, hN⟩ := id hC
  have hown : s.vm.findClass RX1 = some m.cls := hown
  have hl : lv_has ls 9 [(0, .ref h), (1, .long (lN pt)), (3, .int (nI K)), (4, .int (nI r)), (5, .int (nI z))] := hl
  refine lv_lload_n hx hb dX1_prependDigits_0 rfl (lv_at hl 1 rfl) ?_
  refine lv_lstore (lv' := [(6, .long (lN pt)), (0, .ref h), (1, .long (lN pt)), (3, .int (nI K)), (4, .int (nI r)), (5, .int (nI z))]) hx hb dX1_prependDigits_1 hl (by decide) rfl (fun ls hl => ?_)
  refine lv_iconst (v := nI 0) hx hb dX1_prependDigits_3 (by decide) ?_
  refine lv_istore (lv' := [(8, .int (nI 0)), (6, .long (lN pt)), (0, .ref h), (1, .long (lN pt)), (3, .int (nI K)), (4, .int (nI r)), (5, .int (nI z))]) hx hb dX1_prependDigits_4 hl (by decide) rfl (fun ls hl => ?_)
  have hl : lv_has ls 9 [(8, .int (nI 0)), (6, .long (lN (pt / r ^ 0))), (0, .ref h), (1, .long (lN pt)), (3, .int (nI K)), (4, .int (nI r)), (5, .int (nI z))] := by rw [Nat.pow_zero, Nat.div_one]; exact lv_sub hl [0, 1, 2, 3, 4, 5, 6] rfl
  refine dm_loop (nL := 9) (head := 6) (P := fun (x : Nat × (Nat → Int32)) => x.1 ≤ K ∧ x.1 ≤ st ∧ (z = 0 → x.1 = 0 ∨ r ^ (x.1 - 1) ≤ pt) ∧ (∀ i, i < x.1 → x.2 (st - 1 - i) = nI (cdv (pt / r ^ i % r))) ∧ ∀ j, st ≤ j → x.2 j = f j) (w := fun x => [(h, .inr (1, [.ref a, .int (nI (st - x.1))])), (a, .inl (cB, 65536, .inl x.2))]) (lv := fun x => [(8, .int (nI x.1)), (6, .long (lN (pt / r ^ x.1))), (0, .ref h), (1, .long (lN pt)), (3, .int (nI K)), (4, .int (nI r)), (5, .int (nI z))]) (μ := fun x => K - x.1) ?_ (0, f) ⟨Nat.zero_le _, Nat.zero_le _, fun _ => Or.inl rfl, fun i hi => absurd hi (Nat.not_lt_zero _), fun _ _ => rfl⟩ hP hD hS hl
  rintro ⟨k, F⟩ H locs ls ⟨hk1, hk2, hk3, hk4, hk5⟩ hP hD hS hl ih
  dsimp only at hk1 hk2 hk3 hk4 hk5
  have hP : va_P D vwCl [(h, .inr (1, [.ref a, .int (nI (st - k))])), (a, .inl (cB, 65536, .inl F))] H := hP
  have hD : va_D A [(h, .inr (1, [.ref a, .int (nI (st - k))])), (a, .inl (cB, 65536, .inl F))] := hD
  have hl : lv_has ls 9 [(8, .int (nI k)), (6, .long (lN (pt / r ^ k))), (0, .ref h), (1, .long (lN pt)), (3, .int (nI K)), (4, .int (nI r)), (5, .int (nI z))] := hl
  have hQb : pt / r ^ k < 9223372036854775808 := Nat.lt_of_le_of_lt (Nat.div_le_self _ _) hpt
  have hrp : 0 < r ^ k := Nat.pow_pos (by omega)
  refine dm_cutR (nL := 9) (σ := Unit) 24 (fun _ => k < K ∧ k < st ∧ (z = 0 → r ^ k ≤ pt)) (fun _ => [(8, .int (nI k)), (6, .long (lN (pt / r ^ k))), (0, .ref h), (1, .long (lN pt)), (3, .int (nI K)), (4, .int (nI r)), (5, .int (nI z))]) (fun hJ => ?_) ?_
  · refine lv_iload hx hb dX1_prependDigits_6 (lv_at hl 0 rfl) ?_
    refine lv_iload_n hx hb dX1_prependDigits_8 rfl (lv_at hl 4 rfl) ?_
    refine dm_icmp_ge (tgt := 52) hx hb (by omega) (by omega) dX1_prependDigits_9 (by decide) (fun hc => ?_) (fun hc => ?_)
    · have hkK : k = K := by omega
      subst hkK
      exact dm_vret hC hK (F, st - k) ⟨Nat.sub_le _ _, fun h9 => by show st - k + k = st; omega, fun h9 => by dsimp only; rw [show st - (st - k) = k by omega]; exact ⟨(hz0 h9).2, (hk3 h9).elim (fun h8 => Or.inl (by omega)) Or.inr⟩, fun i hi => hk4 i (by have hi : i < st - (st - k) := hi; omega), hk5⟩ hP hD hS dX1_prependDigits_52
    · refine lv_iload hx hb dX1_prependDigits_12 (lv_at hl 6 rfl) ?_
      refine dm_if_ne (tgt := 24) hx hb (by omega) dX1_prependDigits_14 (by decide) (fun hd => ?_) (fun hd => ?_)
      · have hz9 : z = 1 := by omega
        exact hJ () ls ⟨hc, by have := hz1 hz9; omega, fun h9 => absurd h9 (by omega)⟩ hl
      · refine lv_lload hx hb dX1_prependDigits_17 (lv_at hl 1 rfl) ?_
        refine lv_lconst (v := lN 0) hx hb dX1_prependDigits_19 (by decide) ?_
        refine dm_lc_le (tgt := 52) hx hb (by omega) (by omega) dX1_prependDigits_20 dX1_prependDigits_21 (by decide) (fun he => ?_) (fun he => ?_)
        · have hQ0 : pt / r ^ k = 0 := Nat.eq_zero_of_le_zero he
          have hlt : pt < r ^ k := (Nat.div_eq_zero_iff.mp hQ0).resolve_left (by omega)
          exact dm_vret hC hK (F, st - k) ⟨Nat.sub_le _ _, fun h9 => absurd h9 (by omega), fun h9 => by dsimp only; rw [show st - (st - k) = k by omega]; exact ⟨hlt, (hk3 h9).elim (fun h8 => Or.inl (by omega)) Or.inr⟩, fun i hi => hk4 i (by have hi : i < st - (st - k) := hi; omega), hk5⟩ hP hD hS dX1_prependDigits_52
        · have hge : r ^ k ≤ pt := Nat.le_of_not_lt (fun h9 => by have := Nat.div_eq_of_lt h9; omega)
          exact hJ () ls ⟨hc, (Nat.pow_lt_pow_iff_right (by omega)).mp (Nat.lt_of_le_of_lt hge (hz0 hd).1), fun _ => hge⟩ hl
  · rintro - ls ⟨hkK, hks, hkz⟩ hl
    have hmr : pt / r ^ k % r < r := Nat.mod_lt _ (by omega)
    refine lv_aload_n hx hb dX1_prependDigits_24 rfl (lv_at hl 2 rfl) ?_
    refine lv_lload hx hb dX1_prependDigits_25 (lv_at hl 1 rfl) ?_
    refine lv_iload hx hb dX1_prependDigits_27 (lv_at hl 5 rfl) ?_
    refine lv_i2l (v := lN r) hx hb dX1_prependDigits_29 (nI_l (by omega)) ?_
    refine lv_lrem hx hb dX1_prependDigits_30 (fun e0 => by have := (pk_lEQ (b := 0) (by omega) (by decide)).mp e0; omega) ?_
    refine dm_tl (y := lN (pt / r ^ k % r)) (pk_lRem (by omega) (by omega) (by omega)) ?_
    refine lv_l2i (v := nI (pt / r ^ k % r)) hx hb dX1_prependDigits_31 (lN_low) ?_
    refine dm_gori (dm_rSN (n := 1) (As := [.int (nI (pt / r ^ k % r))]) (rest := [.ref h]) hC hl (c_X3_codeOf l D cB cI cC (pt / r ^ k % r) (by omega) H.size) kco_X3_codeOf ki_X3 kst_X3_codeOf knl_X1_44 (by decide +kernel) ⟨Nat.le_of_ble_eq_true rfl, Nat.le_of_ble_eq_true rfl⟩ rfl rfl ⟨dm_blind, dm_preU hK hP hD hC.2.2.2.2.2.2.2 [] (by decide) rfl⟩ rfl rfl (Nat.le_of_ble_eq_true rfl) dX1_prependDigits_32 ⟨Nat.le_of_ble_eq_true rfl, Nat.le_of_ble_eq_true rfl⟩) (fun r1 h1 => ?_)
    subst h1
    refine dm_gov (wr := []) (dm_rV (n := 1) (As := [.int (nI (cdv (pt / r ^ k % r)))]) (rest := []) hC hl (c_X1_prepend l D cB cI cC h a (st - k) (cdv (pt / r ^ k % r)) F (by omega) (by omega) (cdv_lt (by omega)) H.size) kco_X1_prepend ki_X1 kim_X1_prepend kse_X1_prepend kml_X1_40 (by decide +kernel) ⟨Nat.le_of_ble_eq_true rfl, Nat.le_of_ble_eq_true rfl⟩ rfl rfl ⟨dm_blind, va_recv hK hP (ci := 1) (q0 := 0) rfl rfl, dm_preU hK hP hD hC.2.2.2.2.2.2.2 [0, 1] (by decide) rfl⟩ rfl rfl (Nat.le_of_ble_eq_true rfl) dX1_prependDigits_35 ⟨Nat.le_of_ble_eq_true rfl, Nat.le_of_ble_eq_true rfl⟩) hP hD hS hA [0, 1] [] rfl rfl (by decide) (by decide) (fun _ H locs _ hP hD hS => ?_)
    have hP : va_P D vwCl [(h, .inr (1, [.ref a, .int (nI (st - k - 1))])), (a, .inl (cB, 65536, .inl (upd F (st - k - 1) (nI (cdv (pt / r ^ k % r))))))] H := hP
    have hD : va_D A [(h, .inr (1, [.ref a, .int (nI (st - k - 1))])), (a, .inl (cB, 65536, .inl (upd F (st - k - 1) (nI (cdv (pt / r ^ k % r))))))] := hD
    refine lv_lload hx hb dX1_prependDigits_38 (lv_at hl 1 rfl) ?_
    refine lv_iload hx hb dX1_prependDigits_40 (lv_at hl 5 rfl) ?_
    refine lv_i2l (v := lN r) hx hb dX1_prependDigits_42 (nI_l (by omega)) ?_
    refine lv_ldiv hx hb dX1_prependDigits_43 (fun e0 => by have := (pk_lEQ (b := 0) (by omega) (by decide)).mp e0; omega) ?_
    refine dm_tl (y := lN (pt / r ^ k / r)) (pk_lDiv (by omega) (by omega) (by omega)) ?_
    refine dm_tl (y := lN (pt / r ^ (k + 1))) (by rw [Nat.div_div_eq_div_mul, ← Nat.pow_succ]) ?_
    refine lv_lstore (lv' := [(6, .long (lN (pt / r ^ (k + 1)))), (8, .int (nI k)), (0, .ref h), (1, .long (lN pt)), (3, .int (nI K)), (4, .int (nI r)), (5, .int (nI z))]) hx hb dX1_prependDigits_44 hl (by decide) rfl (fun ls hl => ?_)
    refine lv_iinc (v := nI (k + 1)) (lv' := [(8, .int (nI (k + 1))), (6, .long (lN (pt / r ^ (k + 1)))), (0, .ref h), (1, .long (lN pt)), (3, .int (nI K)), (4, .int (nI r)), (5, .int (nI z))]) hx hb dX1_prependDigits_46 hl (k := 1) rfl ((nI_succ k).symm) (by decide) rfl (fun ls hl => ?_)
    refine lv_goto (tgt := 6) hx hb dX1_prependDigits_49 (by decide) ?_
    rw [show st - k - 1 = st - (k + 1) by omega] at hP hD
    refine ih (k + 1, upd F (st - (k + 1)) (nI (cdv (pt / r ^ k % r)))) H locs ls (by show K - (k + 1) < K - k; omega) ⟨by show k + 1 ≤ K; omega, by show k + 1 ≤ st; omega, fun h9 => Or.inr (by show r ^ (k + 1 - 1) ≤ pt; rw [Nat.add_sub_cancel]; exact hkz h9), fun i hi => ?_, fun j hj => ?_⟩ hP hD hS (lv_sub hl [0, 1, 2, 3, 4, 5, 6] rfl)
    · have hi : i < k + 1 := hi
      show upd F (st - (k + 1)) _ (st - 1 - i) = _
      rcases (show i < k ∨ i = k by omega) with h6 | h6
      · rw [pk_un (by omega)]; exact hk4 i h6
      · rw [h6, show st - 1 - k = st - (k + 1) by omega, pk_us]
    · show upd F (st - (k + 1)) _ j = f j
      rw [pk_un (by omega)]
      exact hk5 j hj
end
section
/-- how many digits a number has -/
def isND (r V c : Nat) : Prop := 1 ≤ c ∧ V < r ^ c ∧ (c = 1 ∨ r ^ (c - 1) ≤ V)
theorem isND_uniq {r V c d : Nat} (hr : 2 ≤ r) (h1 : isND r V c) (h2 : isND r V d) : c = d := by
  have key : ∀ {c d : Nat}, isND r V c → isND r V d → c ≤ d := by
    intro c d h1 h2
    rcases h1.2.2 with h | h
    · have := h2.1; omega
    · have h3 := (Nat.pow_lt_pow_iff_right (show 1 < r by omega)).mp (Nat.lt_of_le_of_lt h h2.2.1)
      omega
  exact Nat.le_antisymm (key h1 h2) (key h2 h1)
theorem mod_digit {x r K j : Nat} (hr : 0 < r) (h : j < K) : x % r ^ K / r ^ j % r = x / r ^ j % r := by
  obtain ⟨d, rfl⟩ : ∃ d, K = j + (d + 1) := ⟨K - j - 1, by omega⟩
  rw [Nat.pow_add, Nat.mod_mul, Nat.add_mul_div_left _ _ (Nat.pow_pos hr), Nat.div_eq_of_lt (Nat.mod_lt _ (Nat.pow_pos hr)), Nat.zero_add, Nat.pow_succ, Nat.mul_comm (r ^ d) r, Nat.mod_mul_right_mod]
theorem div_pow_add {x r a b : Nat} : x / r ^ a / r ^ b = x / r ^ (a + b) := by rw [Nat.div_div_eq_div_mul, ← Nat.pow_add]
theorem pow_le_of_div {V r c k : Nat} (hr : 0 < r) (h : r ^ k ≤ V / r ^ c) : r ^ (c + k) ≤ V := by
  rw [Nat.pow_add, Nat.mul_comm]
  exact (Nat.le_div_iff_mul_le (Nat.pow_pos hr)).mp h

set_option maxRecDepth 100000 in
set_option maxHeartbeats 4000000 in
theorem c_X1_becomeDigitsOf (l : Launch) (D : va_G) (cB cI cC : ClassId) (h a hw aw N st u r : Nat) (f g : Nat → Int32) (hu : u ≤ N) (hNb : N < 2 ^ 31) (hnr : nrm g u) (hr2 : 2 ≤ r) (hr36 : r ≤ 36) (hV : dvb 4294967296 g u < r ^ 65536) : MV l yX1_becomeDigitsOf (Cond.code yX1_becomeDigitsOf cX1_becomeDigitsOf 11 none) 2 D (TY cB cI cC) [.ref h, .ref hw, .int (nI r)] [(h, .inr (1, [.ref a, .int (nI st)])), (a, .inl (cB, 65536, .inl f)), (hw, .inr (2, [.ref aw, .int (nI u)])), (aw, .inl (cI, N, .inl g))] (S := (Nat → Int32) × Nat × (Nat → Int32) × Nat) (fun q => q.2.1 ≤ 65536 ∧ q.2.2.2 ≤ N ∧ isND r (dvb 4294967296 g u) (65536 - q.2.1) ∧ ∀ i, i < 65536 - q.2.1 → q.1 (65535 - i) = nI (cdv (dvb 4294967296 g u / r ^ i % r))) (fun q => [(h, .inr (1, [.ref a, .int (nI q.2.1)])), (a, .inl (cB, 65536, .inl q.1)), (hw, .inr (2, [.ref aw, .int (nI q.2.2.2)])), (aw, .inl (cI, N, .inl q.2.2.1))]) := by
  refine MV.of (by decide) (Nat.le_of_ble_eq_true rfl) ?_
  intro p e s m below meth c ls A hC hA hP hK hD hS hl
  obtain ⟨hx, hb, hr, hml, hown, hts, hlocks, hN⟩ := id hC
  have hown : s.vm.findClass RX1 = some m.cls := hown
  have hl : lv_has ls 11 [(0, .ref h), (1, .ref hw), (2, .int (nI r))] := hl
  obtain ⟨V, hVe⟩ : ∃ z, z = dvb 4294967296 g u := ⟨_, rfl⟩
  rw [← hVe] at hV ⊢
  refine lv_iload_n hx hb dX1_becomeDigitsOf_0 rfl (lv_at hl 2 rfl) ?_
  refine lv_i2l (v := lN r) hx hb dX1_becomeDigitsOf_1 (nI_l (by omega)) ?_
  refine lv_lstore_n (lv' := [(3, .long (lN r)), (0, .ref h), (1, .ref hw), (2, .int (nI r))]) hx hb dX1_becomeDigitsOf_2 rfl hl (by decide) rfl (fun ls hl => ?_)
  refine lv_iconst (v := nI 1) hx hb dX1_becomeDigitsOf_3 (by decide) ?_
  refine lv_istore (lv' := [(5, .int (nI 1)), (3, .long (lN r)), (0, .ref h), (1, .ref hw), (2, .int (nI r))]) hx hb dX1_becomeDigitsOf_4 hl (by decide) rfl (fun ls hl => ?_)
  refine lv_ldc2 (v := 2147483648) hx hb hown (hts _ kct_X1_24) dX1_becomeDigitsOf_6 ?_
  refine dm_tl (y := lN 2147483648) (rfl) ?_
  refine lv_iload_n hx hb dX1_becomeDigitsOf_9 rfl (lv_at hl 4 rfl) ?_
  refine lv_i2l (v := lN r) hx hb dX1_becomeDigitsOf_10 (nI_l (by omega)) ?_
  obtain ⟨mo, hmo⟩ : ∃ z, z = 2147483648 / r := ⟨_, rfl⟩
  have hmor : ∀ z, z ≤ mo → z * r ≤ 2147483648 := fun z hz => (Nat.le_div_iff_mul_le (by omega)).mp (by rw [← hmo]; exact hz)
  have hmob : mo ≤ 2147483648 := by rw [hmo]; exact Nat.div_le_self _ _
  refine lv_ldiv hx hb dX1_becomeDigitsOf_11 (fun e0 => by have := (pk_lEQ (b := 0) (by omega) (by decide)).mp e0; omega) ?_
  refine dm_tl (y := lN mo) (by rw [hmo]; exact pk_lDiv (by decide) (by omega) (by omega)) ?_
  refine lv_lstore (lv' := [(6, .long (lN mo)), (5, .int (nI 1)), (3, .long (lN r)), (0, .ref h), (1, .ref hw), (2, .int (nI r))]) hx hb dX1_becomeDigitsOf_12 hl (by decide) rfl (fun ls hl => ?_)
  refine lv_iconst (v := nI 0) hx hb dX1_becomeDigitsOf_14 (by decide) ?_
  refine lv_istore (lv' := [(8, .int (nI 0)), (6, .long (lN mo)), (5, .int (nI 1)), (3, .long (lN r)), (0, .ref h), (1, .ref hw), (2, .int (nI r))]) hx hb dX1_becomeDigitsOf_15 hl (by decide) rfl (fun ls hl => ?_)
  have hl : lv_has ls 11 [(8, .int (nI 0)), (6, .long (lN mo)), (5, .int (nI (0 + 1))), (3, .long (lN (r ^ (0 + 1)))), (0, .ref h), (1, .ref hw), (2, .int (nI r))] := by rw [Nat.zero_add, Nat.pow_one]; exact lv_sub hl [0, 1, 2, 3, 4, 5, 6] rfl
  refine dm_cutR (nL := 11) (σ := Nat) 45 (fun k => k ≤ 32 ∧ r ^ (k + 1) ≤ 2147483648) (fun k => [(8, .int (nI k)), (6, .long (lN mo)), (5, .int (nI (k + 1))), (3, .long (lN (r ^ (k + 1)))), (0, .ref h), (1, .ref hw), (2, .int (nI r))]) (fun hJ => ?_) ?_
  · refine dm_loopR (nL := 11) 17 (fun k => k ≤ 32 ∧ r ^ (k + 1) ≤ 2147483648) (fun k => [(8, .int (nI k)), (6, .long (lN mo)), (5, .int (nI (k + 1))), (3, .long (lN (r ^ (k + 1)))), (0, .ref h), (1, .ref hw), (2, .int (nI r))]) (fun k => 32 - k) ?_ 0 ⟨by decide, by rw [Nat.zero_add, Nat.pow_one]; omega⟩ hl
    rintro k ls ⟨hk, hdd⟩ hl ih
    refine lv_iload hx hb dX1_becomeDigitsOf_17 (lv_at hl 0 rfl) ?_
    refine lv_bipush (v := nI 32) hx hb dX1_becomeDigitsOf_19 (by decide) ?_
    refine dm_icmp_ge (tgt := 45) hx hb (by omega) (by omega) dX1_becomeDigitsOf_21 (by decide) (fun hc => ?_) (fun hc => ?_)
    · exact hJ k ls ⟨hk, hdd⟩ hl
    · refine lv_lload_n hx hb dX1_becomeDigitsOf_24 rfl (lv_at hl 3 rfl) ?_
      refine lv_lload hx hb dX1_becomeDigitsOf_25 (lv_at hl 1 rfl) ?_
      refine dm_lc_gt (tgt := 45) hx hb (by omega) (by omega) dX1_becomeDigitsOf_27 dX1_becomeDigitsOf_28 (by decide) (fun hd => ?_) (fun hd => ?_)
      · exact hJ k ls ⟨hk, hdd⟩ hl
      · refine lv_lload_n hx hb dX1_becomeDigitsOf_31 rfl (lv_at hl 3 rfl) ?_
        refine lv_iload_n hx hb dX1_becomeDigitsOf_32 rfl (lv_at hl 6 rfl) ?_
        refine lv_i2l (v := lN r) hx hb dX1_becomeDigitsOf_33 (nI_l (by omega)) ?_
        refine lv_lmul hx hb dX1_becomeDigitsOf_34 ?_
        refine dm_tl (y := lN (r ^ (k + 1 + 1))) (by rw [lN_mul, ← Nat.pow_succ]) ?_
        refine lv_lstore_n (lv' := [(3, .long (lN (r ^ (k + 1 + 1)))), (8, .int (nI k)), (6, .long (lN mo)), (5, .int (nI (k + 1))), (0, .ref h), (1, .ref hw), (2, .int (nI r))]) hx hb dX1_becomeDigitsOf_35 rfl hl (by decide) rfl (fun ls hl => ?_)
        refine lv_iinc (v := nI (k + 1 + 1)) (lv' := [(5, .int (nI (k + 1 + 1))), (3, .long (lN (r ^ (k + 1 + 1)))), (8, .int (nI k)), (6, .long (lN mo)), (0, .ref h), (1, .ref hw), (2, .int (nI r))]) hx hb dX1_becomeDigitsOf_36 hl (k := 3) rfl ((nI_succ _).symm) (by decide) rfl (fun ls hl => ?_)
        refine lv_iinc (v := nI (k + 1)) (lv' := [(8, .int (nI (k + 1))), (5, .int (nI (k + 1 + 1))), (3, .long (lN (r ^ (k + 1 + 1)))), (6, .long (lN mo)), (0, .ref h), (1, .ref hw), (2, .int (nI r))]) hx hb dX1_becomeDigitsOf_39 hl (k := 2) rfl ((nI_succ k).symm) (by decide) rfl (fun ls hl => ?_)
        refine lv_goto (tgt := 17) hx hb dX1_becomeDigitsOf_42 (by decide) ?_
        exact ih (k + 1) ls (by omega) ⟨by omega, by rw [Nat.pow_succ]; exact hmor _ hd⟩ (lv_sub hl [0, 3, 1, 2, 4, 5, 6] rfl)
  · rintro k0 ls ⟨hk0, hdd⟩ hl
    obtain ⟨dg, hdg⟩ : ∃ z, z = k0 + 1 := ⟨_, rfl⟩
    rw [← hdg] at hdd hl
    have hl : lv_has ls 11 [(8, .int (nI k0)), (6, .long (lN mo)), (5, .int (nI dg)), (3, .long (lN (r ^ dg))), (0, .ref h), (1, .ref hw), (2, .int (nI r))] := hl
    have hdd1 : 0 < r ^ dg := Nat.pow_pos (by omega)
    have hsq : r ^ dg * r ^ dg = r ^ (2 * dg) := by rw [← Nat.pow_add]; congr 1; omega
    refine lv_aload_n hx hb dX1_becomeDigitsOf_45 rfl (lv_at hl 4 rfl) ?_
    refine lv_aload_n hx hb dX1_becomeDigitsOf_46 rfl (lv_at hl 4 rfl) ?_
    refine va_get (D := D) (ci := 1) (C := RX1) (T := TX1) (N := 2) (v := .ref a) hx hb hts kin_X1_w hown hK hP 0 rfl rfl 0 (by decide) (hts _ kfl_X1_10) (fun _ h9 => h9) rfl dX1_becomeDigitsOf_47 ?_
    refine va_alen (v := nI 65536) hx hb hK hP 1 0 rfl rfl rfl dX1_becomeDigitsOf_50 ?_
    refine va_put (D := D) (ci := 1) (v := .int (nI 65536)) (ty := .int) (C := RX1) (T := TX1) (N := 2) hx hb hts kin_X1_w tyX1 tyX1_ok nmX1 hown hK hP hD hS 0 rfl rfl 1 (by decide) (hts _ kfl_X1_16) (fun _ h9 => h9) rfl (by decide +kernel) rfl rfl (Nat.le_of_ble_eq_true rfl) dX1_becomeDigitsOf_51 (fun H locs hP hD hS => ?_)
    have hP : va_P D vwCl [(h, .inr (1, [.ref a, .int (nI 65536)])), (a, .inl (cB, 65536, .inl f)), (hw, .inr (2, [.ref aw, .int (nI u)])), (aw, .inl (cI, N, .inl g))] H := hP
    have hD : va_D A [(h, .inr (1, [.ref a, .int (nI 65536)])), (a, .inl (cB, 65536, .inl f)), (hw, .inr (2, [.ref aw, .int (nI u)])), (aw, .inl (cI, N, .inl g))] := hD
    refine lv_iconst (v := nI 0) hx hb dX1_becomeDigitsOf_54 (by decide) ?_
    refine lv_istore (lv' := [(8, .int (nI 0)), (6, .long (lN mo)), (5, .int (nI dg)), (3, .long (lN (r ^ dg))), (0, .ref h), (1, .ref hw), (2, .int (nI r))]) hx hb dX1_becomeDigitsOf_55 hl (by decide) rfl (fun ls hl => ?_)
    refine dm_loop (nL := 11) (head := 57) (P := fun (x : Nat × (Nat → Int32) × Nat × (Nat → Int32) × Nat) => x.2.2.1 ≤ 65536 ∧ x.1 + x.2.2.1 ≤ 65536 ∧ x.2.2.2.2 ≤ N ∧ nrm x.2.2.2.1 x.2.2.2.2 ∧ dvb 4294967296 x.2.2.2.1 x.2.2.2.2 = V / r ^ (65536 - x.2.2.1) ∧ (x.2.2.1 = 65536 ∨ r ^ (65536 - x.2.2.1 - 1) ≤ V) ∧ ∀ i, i < 65536 - x.2.2.1 → x.2.1 (65535 - i) = nI (cdv (V / r ^ i % r))) (w := fun x => [(h, .inr (1, [.ref a, .int (nI x.2.2.1)])), (a, .inl (cB, 65536, .inl x.2.1)), (hw, .inr (2, [.ref aw, .int (nI x.2.2.2.2)])), (aw, .inl (cI, N, .inl x.2.2.2.1))]) (lv := fun x => [(8, .int (nI x.1)), (5, .int (nI dg)), (3, .long (lN (r ^ dg))), (0, .ref h), (1, .ref hw), (2, .int (nI r))]) (μ := fun x => x.2.2.1) ?_ (0, f, 65536, g, u) ⟨Nat.le_refl _, by show 0 + 65536 ≤ 65536; omega, hu, hnr, by dsimp only; rw [Nat.sub_self, Nat.pow_zero, Nat.div_one, hVe], Or.inl rfl, fun i hi => absurd hi (Nat.not_lt_zero _)⟩ hP hD hS (lv_sub hl [0, 2, 3, 4, 5, 6] rfl)
    rintro ⟨t, F, sk, G, U⟩ H locs ls ⟨h1, h2, h3, h4, h5, h6, h7⟩ hP hD hS hl ih
    dsimp only at h1 h2 h3 h4 h5 h6 h7
    have hP : va_P D vwCl [(h, .inr (1, [.ref a, .int (nI sk)])), (a, .inl (cB, 65536, .inl F)), (hw, .inr (2, [.ref aw, .int (nI U)])), (aw, .inl (cI, N, .inl G))] H := hP
    have hD : va_D A [(h, .inr (1, [.ref a, .int (nI sk)])), (a, .inl (cB, 65536, .inl F)), (hw, .inr (2, [.ref aw, .int (nI U)])), (aw, .inl (cI, N, .inl G))] := hD
    have hl : lv_has ls 11 [(8, .int (nI t)), (5, .int (nI dg)), (3, .long (lN (r ^ dg))), (0, .ref h), (1, .ref hw), (2, .int (nI r))] := hl
    refine dm_cutR (nL := 11) (σ := Unit) 107 (fun _ => V < r ^ (65536 - sk)) (fun _ => [(8, .int (nI t)), (5, .int (nI dg)), (3, .long (lN (r ^ dg))), (0, .ref h), (1, .ref hw), (2, .int (nI r))]) (fun hJ => ?_) ?_
    · refine lv_iload hx hb dX1_becomeDigitsOf_57 (lv_at hl 0 rfl) ?_
      refine lv_ldc (v := nI 65536) hx hb hown (hts _ kct_X1_9) dX1_becomeDigitsOf_59 ?_
      refine dm_icmp_ge (tgt := 107) hx hb (by omega) (by omega) dX1_becomeDigitsOf_61 (by decide) (fun hc => ?_) (fun hc => ?_)
      · exact hJ () ls (by rw [show sk = 0 by omega]; exact hV) hl
      · refine lv_aload_n hx hb dX1_becomeDigitsOf_64 rfl (lv_at hl 4 rfl) ?_
        refine dm_gori (dm_rVN (n := 0) (As := []) (rest := []) hC hl (c_X2_isZero l D cB cI cC hw aw N U G (by omega) H.size) kco_X2_isZero ki_X2 kim_X2_isZero kse_X2_isZero knl_X1_26 (by decide +kernel) ⟨Nat.le_of_ble_eq_true rfl, Nat.le_of_ble_eq_true rfl⟩ rfl rfl ⟨dm_blind, va_recv hK hP (ci := 2) (q0 := 2) rfl rfl, dm_preU hK hP hD hC.2.2.2.2.2.2.2 [2, 3] (by decide) rfl⟩ rfl rfl (Nat.le_of_ble_eq_true rfl) dX1_becomeDigitsOf_65 ⟨Nat.le_of_ble_eq_true rfl, Nat.le_of_ble_eq_true rfl⟩) (fun r1 e1 => ?_)
        by_cases hU0 : U = 0
        · rw [if_pos hU0] at e1
          subst e1
          refine lv_if_ne (tgt := 107) hx hb dX1_becomeDigitsOf_68 (by decide) (fun hd => ?_) (fun hd => ?_)
          · exact hJ () ls ((Nat.div_eq_zero_iff.mp (by rw [← h5, hU0]; rfl)).resolve_left (Nat.ne_of_gt (Nat.pow_pos (by omega)))) hl
          · exact absurd hd (by decide)
        · rw [if_neg hU0] at e1
          subst e1
          refine lv_if_ne (tgt := 107) hx hb dX1_becomeDigitsOf_68 (by decide) (fun hd => ?_) (fun hd => ?_)
          · exact absurd rfl hd
          · have hVt : 0 < V / r ^ (65536 - sk) := by
              obtain ⟨k, rfl⟩ : ∃ k, U = k + 1 := ⟨U - 1, by omega⟩
              rw [← h5]
              exact Nat.lt_of_lt_of_le (Nat.pow_pos (by decide)) (nrm_ge h4)
            have hVc : r ^ (65536 - sk) ≤ V := pow_le_of_div (k := 0) (by omega) (by rw [Nat.pow_zero]; exact hVt)
            have hsk0 : 0 < sk := by have := (Nat.pow_lt_pow_iff_right (show 1 < r by omega)).mp (Nat.lt_of_le_of_lt hVc hV); omega
            obtain ⟨Vt, hVte⟩ : ∃ z, z = V / r ^ (65536 - sk) := ⟨_, rfl⟩
            rw [← hVte] at h5 hVt
            refine lv_aload_n hx hb dX1_becomeDigitsOf_71 rfl (lv_at hl 4 rfl) ?_
            refine lv_lload_n hx hb dX1_becomeDigitsOf_72 rfl (lv_at hl 2 rfl) ?_
            refine dm_gol (wr := [(h, .inr (1, [.ref a, .int (nI sk)])), (a, .inl (cB, 65536, .inl F))]) (dm_rVN (n := 1) (As := [.long (lN (r ^ dg))]) (rest := []) hC hl (c_X2_divideTwiceBy l D cB cI cC hw aw N U (r ^ dg) G h3 hNb hdd1 hdd H.size) kco_X2_divideTwiceBy ki_X2 kim_X2_divideTwiceBy kse_X2_divideTwiceBy knl_X1_32 (by decide +kernel) ⟨Nat.le_of_ble_eq_true rfl, Nat.le_of_ble_eq_true rfl⟩ rfl rfl ⟨dm_blind, va_recv hK hP (ci := 2) (q0 := 2) rfl rfl, dm_preU hK hP hD hC.2.2.2.2.2.2.2 [2, 3] (by decide) rfl⟩ rfl rfl (Nat.le_of_ble_eq_true rfl) dX1_becomeDigitsOf_73 ⟨Nat.le_of_ble_eq_true rfl, Nat.le_of_ble_eq_true rfl⟩) hP hD hS hA [2, 3] [0, 1] rfl rfl (by decide) (by decide) (fun r2 q H locs hw1 hP hD hS => ?_)
            obtain ⟨G2, U2⟩ := q
            have hP : va_P D vwCl [(h, .inr (1, [.ref a, .int (nI sk)])), (a, .inl (cB, 65536, .inl F)), (hw, .inr (2, [.ref aw, .int (nI U2)])), (aw, .inl (cI, N, .inl G2))] H := hP
            have hD : va_D A [(h, .inr (1, [.ref a, .int (nI sk)])), (a, .inl (cB, 65536, .inl F)), (hw, .inr (2, [.ref aw, .int (nI U2)])), (aw, .inl (cI, N, .inl G2))] := hD
            obtain ⟨e2, hU2, hv2, hn2⟩ := hw1
            dsimp only at hU2 hv2 hn2
            rw [hsq, h5] at e2 hv2
            subst e2
            have hsq2 : r ^ (2 * dg) ≤ 4611686018427387904 := by rw [← hsq]; exact Nat.mul_le_mul hdd hdd
            have hPt : Vt % r ^ (2 * dg) < r ^ (2 * dg) := Nat.mod_lt _ (Nat.pow_pos (by omega))
            refine lv_lstore (lv' := [(9, .long (lN (Vt % r ^ (2 * dg)))), (8, .int (nI t)), (5, .int (nI dg)), (3, .long (lN (r ^ dg))), (0, .ref h), (1, .ref hw), (2, .int (nI r))]) hx hb dX1_becomeDigitsOf_76 hl (by decide) rfl (fun ls hl => ?_)
            refine lv_aload_n hx hb dX1_becomeDigitsOf_78 rfl (lv_at hl 4 rfl) ?_
            refine lv_lload hx hb dX1_becomeDigitsOf_79 (lv_at hl 0 rfl) ?_
            refine lv_iconst (v := nI 2) hx hb dX1_becomeDigitsOf_81 (by decide) ?_
            refine lv_iload hx hb dX1_becomeDigitsOf_82 (lv_at hl 2 rfl) ?_
            refine lv_imul hx hb dX1_becomeDigitsOf_84 ?_
            refine dm_ti (y := nI (2 * dg)) (pk_mul 2 dg) ?_
            refine lv_iload_n hx hb dX1_becomeDigitsOf_85 rfl (lv_at hl 6 rfl) ?_
            refine lv_aload_n hx hb dX1_becomeDigitsOf_86 rfl (lv_at hl 5 rfl) ?_
            refine dm_gori (dm_rVN (n := 0) (As := []) (rest := [.int (nI r), .int (nI (2 * dg)), .long (lN (Vt % r ^ (2 * dg))), .ref h]) hC hl (c_X2_isZero l D cB cI cC hw aw N U2 G2 (by omega) H.size) kco_X2_isZero ki_X2 kim_X2_isZero kse_X2_isZero knl_X1_26 (by decide +kernel) ⟨Nat.le_of_ble_eq_true rfl, Nat.le_of_ble_eq_true rfl⟩ rfl rfl ⟨dm_blind, va_recv hK hP (ci := 2) (q0 := 2) rfl rfl, dm_preU hK hP hD hC.2.2.2.2.2.2.2 [2, 3] (by decide) rfl⟩ rfl rfl (Nat.le_of_ble_eq_true rfl) dX1_becomeDigitsOf_87 ⟨Nat.le_of_ble_eq_true rfl, Nat.le_of_ble_eq_true rfl⟩) (fun r3 e3 => ?_)
            by_cases hU20 : U2 = 0
            · rw [if_pos hU20] at e3
              subst e3
              refine lv_if_ne (tgt := 97) hx hb dX1_becomeDigitsOf_90 (by decide) (fun hg => ?_) (fun hg => ?_)
              · have hq0 : Vt / r ^ (2 * dg) = 0 := by rw [← hv2, hU20]; rfl
                have hVtl : Vt < r ^ (2 * dg) := (Nat.div_eq_zero_iff.mp hq0).resolve_left (Nat.ne_of_gt (Nat.pow_pos (by omega)))
                have hPe : Vt % r ^ (2 * dg) = Vt := Nat.mod_eq_of_lt hVtl
                have hroom : Vt % r ^ (2 * dg) < r ^ sk := by
                  rw [hPe, hVte]
                  refine Nat.div_lt_of_lt_mul ?_
                  rw [← Nat.pow_add, show 65536 - sk + sk = 65536 by omega]
                  exact hV
                refine lv_iconst (v := nI 0) hx hb dX1_becomeDigitsOf_97 (by decide) ?_
                refine dm_gov (wr := [(hw, .inr (2, [.ref aw, .int (nI U2)])), (aw, .inl (cI, N, .inl G2))]) (dm_rV (n := 4) (As := [.long (lN (Vt % r ^ (2 * dg))), .int (nI (2 * dg)), .int (nI r), .int (nI 0)]) (rest := []) hC hl (c_X1_prependDigits l D cB cI cC h a sk (Vt % r ^ (2 * dg)) (2 * dg) r 0 F h1 (by omega) (by omega) hr2 hr36 (by decide) (fun h9 => absurd h9 (by decide)) (fun _ => ⟨hroom, hPt⟩) H.size) kco_X1_prependDigits ki_X1 kim_X1_prependDigits kse_X1_prependDigits kml_X1_36 (by decide +kernel) ⟨Nat.le_of_ble_eq_true rfl, Nat.le_of_ble_eq_true rfl⟩ rfl rfl ⟨dm_blind, va_recv hK hP (ci := 1) (q0 := 0) rfl rfl, dm_preU hK hP hD hC.2.2.2.2.2.2.2 [0, 1] (by decide) rfl⟩ rfl rfl (Nat.le_of_ble_eq_true rfl) dX1_becomeDigitsOf_98 ⟨Nat.le_of_ble_eq_true rfl, Nat.le_of_ble_eq_true rfl⟩) hP hD hS hA [0, 1] [2, 3] rfl rfl (by decide) (by decide) (fun q H locs hp hP hD hS => ?_)
                obtain ⟨F2, s2⟩ := q
                have hP : va_P D vwCl [(hw, .inr (2, [.ref aw, .int (nI U2)])), (aw, .inl (cI, N, .inl G2)), (h, .inr (1, [.ref a, .int (nI s2)])), (a, .inl (cB, 65536, .inl F2))] H := hP
                have hD : va_D A [(hw, .inr (2, [.ref aw, .int (nI U2)])), (aw, .inl (cI, N, .inl G2)), (h, .inr (1, [.ref a, .int (nI s2)])), (a, .inl (cB, 65536, .inl F2))] := hD
                have hP := hP.sub (ws' := [(h, .inr (1, [.ref a, .int (nI s2)])), (a, .inl (cB, 65536, .inl F2)), (hw, .inr (2, [.ref aw, .int (nI U2)])), (aw, .inl (cI, N, .inl G2))]) [2, 3, 0, 1] rfl
                have hD := hD.sub (ws' := [(h, .inr (1, [.ref a, .int (nI s2)])), (a, .inl (cB, 65536, .inl F2)), (hw, .inr (2, [.ref aw, .int (nI U2)])), (aw, .inl (cI, N, .inl G2))]) [2, 3, 0, 1] (by decide) rfl
                obtain ⟨p1, p2, p3, p4, p5⟩ := hp
                dsimp only at p1 p2 p3 p4 p5
                have p3 := p3 rfl
                rw [hPe] at p3 p4
                have hs2 : s2 < sk := by
                  rcases (show s2 = sk ∨ s2 < sk by omega) with h9 | h9
                  · rw [h9, Nat.sub_self, Nat.pow_zero] at p3; omega
                  · exact h9
                refine lv_iinc (v := nI (t + 1)) (lv' := [(8, .int (nI (t + 1))), (9, .long (lN (Vt % r ^ (2 * dg)))), (5, .int (nI dg)), (3, .long (lN (r ^ dg))), (0, .ref h), (1, .ref hw), (2, .int (nI r))]) hx hb dX1_becomeDigitsOf_101 hl (k := 1) rfl ((nI_succ t).symm) (by decide) rfl (fun ls hl => ?_)
                refine lv_goto (tgt := 57) hx hb dX1_becomeDigitsOf_104 (by decide) ?_
                refine ih (t + 1, F2, s2, G2, U2) H locs ls hs2 ⟨by show s2 ≤ 65536; omega, by show t + 1 + s2 ≤ 65536; omega, by show U2 ≤ N; omega, hn2, ?_, Or.inr ?_, fun i hi => ?_⟩ hP hD hS (lv_sub hl [0, 2, 3, 4, 5, 6] rfl)
                · show dvb _ G2 U2 = V / r ^ (65536 - s2)
                  rw [hv2, hq0, show 65536 - s2 = (65536 - sk) + (sk - s2) by omega, ← div_pow_add, ← hVte, Nat.div_eq_of_lt p3.1]
                · show r ^ (65536 - s2 - 1) ≤ V
                  rw [show 65536 - s2 - 1 = (65536 - sk) + (sk - s2 - 1) by omega]
                  refine pow_le_of_div (by omega) ?_
                  rw [← hVte]
                  exact p3.2.resolve_left (by omega)
                · have hi : i < 65536 - s2 := hi
                  show F2 (65535 - i) = _
                  by_cases hi2 : i < 65536 - sk
                  · rw [p5 (65535 - i) (by omega)]; exact h7 i hi2
                  · have h8 := p4 (i - (65536 - sk)) (by omega)
                    rw [show sk - 1 - (i - (65536 - sk)) = 65535 - i by omega] at h8
                    rw [h8, hVte, div_pow_add, show 65536 - sk + (i - (65536 - sk)) = i by omega]
              · exact absurd hg (by decide)
            · rw [if_neg hU20] at e3
              subst e3
              refine lv_if_ne (tgt := 97) hx hb dX1_becomeDigitsOf_90 (by decide) (fun hg => ?_) (fun hg => ?_)
              · exact absurd rfl hg
              · have hq1 : 0 < Vt / r ^ (2 * dg) := by
                  obtain ⟨k, rfl⟩ : ∃ k, U2 = k + 1 := ⟨U2 - 1, by omega⟩
                  rw [← hv2]
                  exact Nat.lt_of_lt_of_le (Nat.pow_pos (by decide)) (nrm_ge hn2)
                have hVk : r ^ (65536 - sk + 2 * dg) ≤ V := by
                  refine pow_le_of_div (by omega) ?_
                  rw [← hVte]
                  have := pow_le_of_div (V := Vt) (r := r) (c := 2 * dg) (k := 0) (by omega) (by rw [Nat.pow_zero]; exact hq1)
                  exact this
                have hroom : 2 * dg ≤ sk := by have := (Nat.pow_lt_pow_iff_right (show 1 < r by omega)).mp (Nat.lt_of_le_of_lt hVk hV); omega
                refine lv_iconst (v := nI 1) hx hb dX1_becomeDigitsOf_93 (by decide) ?_
                refine lv_goto (tgt := 98) hx hb dX1_becomeDigitsOf_94 (by decide) ?_
                refine dm_gov (wr := [(hw, .inr (2, [.ref aw, .int (nI U2)])), (aw, .inl (cI, N, .inl G2))]) (dm_rV (n := 4) (As := [.long (lN (Vt % r ^ (2 * dg))), .int (nI (2 * dg)), .int (nI r), .int (nI 1)]) (rest := []) hC hl (c_X1_prependDigits l D cB cI cC h a sk (Vt % r ^ (2 * dg)) (2 * dg) r 1 F h1 (by omega) (by omega) hr2 hr36 (by decide) (fun _ => hroom) (fun h9 => absurd h9 (by decide)) H.size) kco_X1_prependDigits ki_X1 kim_X1_prependDigits kse_X1_prependDigits kml_X1_36 (by decide +kernel) ⟨Nat.le_of_ble_eq_true rfl, Nat.le_of_ble_eq_true rfl⟩ rfl rfl ⟨dm_blind, va_recv hK hP (ci := 1) (q0 := 0) rfl rfl, dm_preU hK hP hD hC.2.2.2.2.2.2.2 [0, 1] (by decide) rfl⟩ rfl rfl (Nat.le_of_ble_eq_true rfl) dX1_becomeDigitsOf_98 ⟨Nat.le_of_ble_eq_true rfl, Nat.le_of_ble_eq_true rfl⟩) hP hD hS hA [0, 1] [2, 3] rfl rfl (by decide) (by decide) (fun q H locs hp hP hD hS => ?_)
                obtain ⟨F2, s2⟩ := q
                have hP : va_P D vwCl [(hw, .inr (2, [.ref aw, .int (nI U2)])), (aw, .inl (cI, N, .inl G2)), (h, .inr (1, [.ref a, .int (nI s2)])), (a, .inl (cB, 65536, .inl F2))] H := hP
                have hD : va_D A [(hw, .inr (2, [.ref aw, .int (nI U2)])), (aw, .inl (cI, N, .inl G2)), (h, .inr (1, [.ref a, .int (nI s2)])), (a, .inl (cB, 65536, .inl F2))] := hD
                have hP := hP.sub (ws' := [(h, .inr (1, [.ref a, .int (nI s2)])), (a, .inl (cB, 65536, .inl F2)), (hw, .inr (2, [.ref aw, .int (nI U2)])), (aw, .inl (cI, N, .inl G2))]) [2, 3, 0, 1] rfl
                have hD := hD.sub (ws' := [(h, .inr (1, [.ref a, .int (nI s2)])), (a, .inl (cB, 65536, .inl F2)), (hw, .inr (2, [.ref aw, .int (nI U2)])), (aw, .inl (cI, N, .inl G2))]) [2, 3, 0, 1] (by decide) rfl
                obtain ⟨p1, p2, p3, p4, p5⟩ := hp
                dsimp only at p1 p2 p3 p4 p5
                have p2 := p2 rfl
                have hs2 : s2 < sk := by omega
                refine lv_iinc (v := nI (t + 1)) (lv' := [(8, .int (nI (t + 1))), (9, .long (lN (Vt % r ^ (2 * dg)))), (5, .int (nI dg)), (3, .long (lN (r ^ dg))), (0, .ref h), (1, .ref hw), (2, .int (nI r))]) hx hb dX1_becomeDigitsOf_101 hl (k := 1) rfl ((nI_succ t).symm) (by decide) rfl (fun ls hl => ?_)
                refine lv_goto (tgt := 57) hx hb dX1_becomeDigitsOf_104 (by decide) ?_
                refine ih (t + 1, F2, s2, G2, U2) H locs ls hs2 ⟨by show s2 ≤ 65536; omega, by show t + 1 + s2 ≤ 65536; omega, by show U2 ≤ N; omega, hn2, ?_, Or.inr ?_, fun i hi => ?_⟩ hP hD hS (lv_sub hl [0, 2, 3, 4, 5, 6] rfl)
                · show dvb _ G2 U2 = V / r ^ (65536 - s2)
                  rw [hv2, hVte, div_pow_add, show 65536 - sk + 2 * dg = 65536 - s2 by omega]
                · show r ^ (65536 - s2 - 1) ≤ V
                  exact Nat.le_trans (Nat.pow_le_pow_right (by omega) (by omega)) hVk
                · have hi : i < 65536 - s2 := hi
                  show F2 (65535 - i) = _
                  by_cases hi2 : i < 65536 - sk
                  · rw [p5 (65535 - i) (by omega)]; exact h7 i hi2
                  · have h8 := p4 (i - (65536 - sk)) (by omega)
                    rw [show sk - 1 - (i - (65536 - sk)) = 65535 - i by omega] at h8
                    rw [h8, mod_digit (by omega) (by omega), hVte, div_pow_add, show 65536 - sk + (i - (65536 - sk)) = i by omega]
    · rintro - ls hlt hl
      have hlt : V < r ^ (65536 - sk) := hlt
      refine lv_aload_n hx hb dX1_becomeDigitsOf_107 rfl (lv_at hl 3 rfl) ?_
      refine dm_gori (dm_rV (n := 0) (As := []) (rest := []) hC hl (c_X1_size l D cB cI cC h a sk F h1 H.size) kco_X1_size ki_X1 kim_X1_size kse_X1_size kml_X1_20 (by decide +kernel) ⟨Nat.le_of_ble_eq_true rfl, Nat.le_of_ble_eq_true rfl⟩ rfl rfl ⟨dm_blind, va_recv hK hP (ci := 1) (q0 := 0) rfl rfl, dm_preU hK hP hD hC.2.2.2.2.2.2.2 [0, 1] (by decide) rfl⟩ rfl rfl (Nat.le_of_ble_eq_true rfl) dX1_becomeDigitsOf_108 ⟨Nat.le_of_ble_eq_true rfl, Nat.le_of_ble_eq_true rfl⟩) (fun r1 e1 => ?_)
      subst e1
      refine dm_if_ne (tgt := 120) hx hb (by omega) dX1_becomeDigitsOf_111 (by decide) (fun hc => ?_) (fun hc => ?_)
      · refine dm_vret hC hK (F, sk, G, U) ⟨h1, h3, ⟨by show 1 ≤ 65536 - sk; omega, hlt, Or.inr (h6.resolve_left (by omega))⟩, h7⟩ hP hD hS dX1_becomeDigitsOf_120
      · have hsk : sk = 65536 := by omega
        have hl0 := hl
        have hP0 := hP
        have hD0 := hD
        have hS0 := hS
        subst hsk
        have hl := hl0
        have hP := hP0
        have hD := hD0
        have hS := hS0
        have hV0 : V = 0 := by rw [Nat.sub_self, Nat.pow_zero] at hlt; omega
        refine lv_aload_n hx hb dX1_becomeDigitsOf_114 rfl (lv_at hl 3 rfl) ?_
        refine lv_bipush (v := nI 48) hx hb dX1_becomeDigitsOf_115 (by decide) ?_
        refine dm_gov (wr := [(hw, .inr (2, [.ref aw, .int (nI U)])), (aw, .inl (cI, N, .inl G))]) (dm_rV (n := 1) (As := [.int (nI 48)]) (rest := []) hC hl (c_X1_prepend l D cB cI cC h a 65536 48 F (by decide) (by decide) (by decide) H.size) kco_X1_prepend ki_X1 kim_X1_prepend kse_X1_prepend kml_X1_40 (by decide +kernel) ⟨Nat.le_of_ble_eq_true rfl, Nat.le_of_ble_eq_true rfl⟩ rfl rfl ⟨dm_blind, va_recv hK hP (ci := 1) (q0 := 0) rfl rfl, dm_preU hK hP hD hC.2.2.2.2.2.2.2 [0, 1] (by decide) rfl⟩ rfl rfl (Nat.le_of_ble_eq_true rfl) dX1_becomeDigitsOf_117 ⟨Nat.le_of_ble_eq_true rfl, Nat.le_of_ble_eq_true rfl⟩) hP hD hS hA [0, 1] [2, 3] rfl rfl (by decide) (by decide) (fun _ H locs _ hP hD hS => ?_)
        have hP : va_P D vwCl [(hw, .inr (2, [.ref aw, .int (nI U)])), (aw, .inl (cI, N, .inl G)), (h, .inr (1, [.ref a, .int (nI (65536 - 1))])), (a, .inl (cB, 65536, .inl (upd F (65536 - 1) (nI 48))))] H := hP
        have hD : va_D A [(hw, .inr (2, [.ref aw, .int (nI U)])), (aw, .inl (cI, N, .inl G)), (h, .inr (1, [.ref a, .int (nI (65536 - 1))])), (a, .inl (cB, 65536, .inl (upd F (65536 - 1) (nI 48))))] := hD
        have hP := hP.sub (ws' := [(h, .inr (1, [.ref a, .int (nI (65536 - 1))])), (a, .inl (cB, 65536, .inl (upd F (65536 - 1) (nI 48)))), (hw, .inr (2, [.ref aw, .int (nI U)])), (aw, .inl (cI, N, .inl G))]) [2, 3, 0, 1] rfl
        have hD := hD.sub (ws' := [(h, .inr (1, [.ref a, .int (nI (65536 - 1))])), (a, .inl (cB, 65536, .inl (upd F (65536 - 1) (nI 48)))), (hw, .inr (2, [.ref aw, .int (nI U)])), (aw, .inl (cI, N, .inl G))]) [2, 3, 0, 1] (by decide) rfl
        refine dm_vret hC hK (upd F (65536 - 1) (nI 48), 65536 - 1, G, U) ⟨by show 65536 - 1 ≤ 65536; omega, h3, ⟨by show 1 ≤ 65536 - (65536 - 1); omega, ?_, Or.inl (by show 65536 - (65536 - 1) = 1; omega)⟩, fun i hi => ?_⟩ hP hD hS dX1_becomeDigitsOf_120
        · show V < r ^ (65536 - (65536 - 1))
          rw [hV0]
          exact Nat.pow_pos (by omega)
        · have hi : i < 65536 - (65536 - 1) := hi
          rw [show i = 0 by omega, hV0]
          show upd F (65536 - 1) (nI 48) (65535 - 0) = _
          rw [show 65535 - 0 = 65536 - 1 from rfl, pk_us, Nat.zero_div, Nat.zero_mod]
          rfl
end
section
set_option maxRecDepth 100000 in
set_option maxHeartbeats 4000000 in
theorem c_X3_typed (l : Launch) (D : va_G) (cB cI cC : ClassId) (h hti ati hto ato hnu anu hsp asp hsq asq hsm asm n st uN us uq um : Nat) (ft fx fN fs fq fm : Nat → Int32) (lv : Int64) : ROi l yX3_typed (Cond.code yX3_typed cX3_typed 1 (some .int)) 1 D (TY cB cI cC) [.ref h] [(h, .inr (3, [.ref hti, .ref hto, .ref hnu, .ref hsp, .ref hsq, .ref hsm, .long lv])), (hti, .inr (0, [.ref ati, .int (nI n)])), (ati, .inl (cB, 65536, .inl ft)), (hto, .inr (1, [.ref ato, .int (nI st)])), (ato, .inl (cB, 65536, .inl fx)), (hnu, .inr (2, [.ref anu, .int (nI uN)])), (anu, .inl (cI, 2048, .inl fN)), (hsp, .inr (2, [.ref asp, .int (nI us)])), (asp, .inl (cI, 2048, .inl fs)), (hsq, .inr (2, [.ref asq, .int (nI uq)])), (asq, .inl (cI, 2048, .inl fq)), (hsm, .inr (2, [.ref asm, .int (nI um)])), (asm, .inl (cI, 2, .inl fm))] (fun r => r = nI n) := by
  refine ROi.of (by decide) (Nat.le_of_ble_eq_true rfl) ?_
  intro p e s m below meth c ls A hC hA hP hK hD hS hl
  obtain ⟨hx, hb, hr, hml, hown, hts, hlocks, hN⟩ := id hC
  have hown : s.vm.findClass RX3 = some m.cls := hown
  have hl : lv_has ls 1 [(0, .ref h)] := hl
  refine lv_aload_n hx hb dX3_typed_0 rfl (lv_at hl 0 rfl) ?_
  refine va_get (D := D) (ci := 3) (C := RX3) (T := TX3) (N := 7) (v := .ref hti) hx hb hts kin_X3_w hown hK hP 0 rfl rfl 0 (by decide) (hts _ kfl_X3_10) (fun _ h9 => h9) rfl dX3_typed_1 ?_
  refine dm_gori (dm_rVN (n := 0) (As := []) (rest := []) hC hl (c_X0_size l D cB cI cC hti ati n ft s.heap.size) kco_X0_size ki_X0 kim_X0_size kse_X0_size knl_X3_113 (by decide +kernel) ⟨Nat.le_of_ble_eq_true rfl, Nat.le_of_ble_eq_true rfl⟩ rfl rfl ⟨dm_blind, va_recv hK hP (ci := 0) (q0 := 1) rfl rfl, dm_preU hK hP hD hC.2.2.2.2.2.2.2 [1, 2] (by decide) rfl⟩ rfl rfl (Nat.le_of_ble_eq_true rfl) dX3_typed_4 ⟨Nat.le_of_ble_eq_true rfl, Nat.le_of_ble_eq_true rfl⟩) (fun r h1 => ?_)
  exact ri_iret hC (h1) dX3_typed_7

set_option maxRecDepth 100000 in
set_option maxHeartbeats 4000000 in
theorem c_X3_word (l : Launch) (D : va_G) (cB cI cC : ClassId) (h hti ati hto ato hnu anu hsp asp hsq asq hsm asm n st uN us uq um : Nat) (ft fx fN fs fq fm : Nat → Int32) (lv : Int64) (k : Int32) (huN : uN ≤ 2048) : ROi l yX3_word (Cond.code yX3_word cX3_word 2 (some .int)) 1 D (TY cB cI cC) [.ref h, .int k] [(h, .inr (3, [.ref hti, .ref hto, .ref hnu, .ref hsp, .ref hsq, .ref hsm, .long lv])), (hti, .inr (0, [.ref ati, .int (nI n)])), (ati, .inl (cB, 65536, .inl ft)), (hto, .inr (1, [.ref ato, .int (nI st)])), (ato, .inl (cB, 65536, .inl fx)), (hnu, .inr (2, [.ref anu, .int (nI uN)])), (anu, .inl (cI, 2048, .inl fN)), (hsp, .inr (2, [.ref asp, .int (nI us)])), (asp, .inl (cI, 2048, .inl fs)), (hsq, .inr (2, [.ref asq, .int (nI uq)])), (asq, .inl (cI, 2048, .inl fq)), (hsm, .inr (2, [.ref asm, .int (nI um)])), (asm, .inl (cI, 2, .inl fm))] (fun r => r = wAt fN uN k) := by
  refine ROi.of (by decide) (Nat.le_of_ble_eq_true rfl) ?_
  intro p e s m below meth c ls A hC hA hP hK hD hS hl
  obtain ⟨hx, hb, hr, hml, hown, hts, hlocks, hN⟩ := id hC
  have hown : s.vm.findClass RX3 = some m.cls := hown
  have hl : lv_has ls 2 [(0, .ref h), (1, .int k)] := hl
  refine lv_aload_n hx hb dX3_word_0 rfl (lv_at hl 0 rfl) ?_
  refine va_get (D := D) (ci := 3) (C := RX3) (T := TX3) (N := 7) (v := .ref hnu) hx hb hts kin_X3_w hown hK hP 0 rfl rfl 2 (by decide) (hts _ kfl_X3_28) (fun _ h9 => h9) rfl dX3_word_1 ?_
  refine lv_iload_n hx hb dX3_word_4 rfl (lv_at hl 1 rfl) ?_
  refine dm_gori (dm_rVN (n := 1) (As := [.int k]) (rest := []) hC hl (c_X2_wordAt l D cB cI cC hnu anu 2048 uN fN k huN (by decide) s.heap.size) kco_X2_wordAt ki_X2 kim_X2_wordAt kse_X2_wordAt knl_X3_104 (by decide +kernel) ⟨Nat.le_of_ble_eq_true rfl, Nat.le_of_ble_eq_true rfl⟩ rfl rfl ⟨dm_blind, va_recv hK hP (ci := 2) (q0 := 5) rfl rfl, dm_preU hK hP hD hC.2.2.2.2.2.2.2 [5, 6] (by decide) rfl⟩ rfl rfl (Nat.le_of_ble_eq_true rfl) dX3_word_5 ⟨Nat.le_of_ble_eq_true rfl, Nat.le_of_ble_eq_true rfl⟩) (fun r h1 => ?_)
  exact ri_iret hC (h1) dX3_word_8

set_option maxRecDepth 100000 in
set_option maxHeartbeats 4000000 in
theorem c_X3_bits (l : Launch) (D : va_G) (cB cI cC : ClassId) (h hti ati hto ato hnu anu hsp asp hsq asq hsm asm n st uN us uq um : Nat) (ft fx fN fs fq fm : Nat → Int32) (lv : Int64) (huN : uN ≤ 2048) (hnr : nrm fN uN) : ROi l yX3_bits (Cond.code yX3_bits cX3_bits 1 (some .int)) 2 D (TY cB cI cC) [.ref h] [(h, .inr (3, [.ref hti, .ref hto, .ref hnu, .ref hsp, .ref hsq, .ref hsm, .long lv])), (hti, .inr (0, [.ref ati, .int (nI n)])), (ati, .inl (cB, 65536, .inl ft)), (hto, .inr (1, [.ref ato, .int (nI st)])), (ato, .inl (cB, 65536, .inl fx)), (hnu, .inr (2, [.ref anu, .int (nI uN)])), (anu, .inl (cI, 2048, .inl fN)), (hsp, .inr (2, [.ref asp, .int (nI us)])), (asp, .inl (cI, 2048, .inl fs)), (hsq, .inr (2, [.ref asq, .int (nI uq)])), (asq, .inl (cI, 2048, .inl fq)), (hsm, .inr (2, [.ref asm, .int (nI um)])), (asm, .inl (cI, 2, .inl fm))] (fun r => r = nI (bl (dvb 4294967296 fN uN))) := by
  refine ROi.of (by decide) (Nat.le_of_ble_eq_true rfl) ?_
  intro p e s m below meth c ls A hC hA hP hK hD hS hl
  obtain ⟨hx, hb, hr, hml, hown, hts, hlocks, hN⟩ := id hC
  have hown : s.vm.findClass RX3 = some m.cls := hown
  have hl : lv_has ls 1 [(0, .ref h)] := hl
  refine lv_aload_n hx hb dX3_bits_0 rfl (lv_at hl 0 rfl) ?_
  refine va_get (D := D) (ci := 3) (C := RX3) (T := TX3) (N := 7) (v := .ref hnu) hx hb hts kin_X3_w hown hK hP 0 rfl rfl 2 (by decide) (hts _ kfl_X3_28) (fun _ h9 => h9) rfl dX3_bits_1 ?_
  refine dm_gori (dm_rVN (n := 0) (As := []) (rest := []) hC hl (c_X2_countBits l D cB cI cC hnu anu 2048 uN fN huN (by decide) hnr s.heap.size) kco_X2_countBits ki_X2 kim_X2_countBits kse_X2_countBits knl_X3_107 (by decide +kernel) ⟨Nat.le_of_ble_eq_true rfl, Nat.le_of_ble_eq_true rfl⟩ rfl rfl ⟨dm_blind, va_recv hK hP (ci := 2) (q0 := 5) rfl rfl, dm_preU hK hP hD hC.2.2.2.2.2.2.2 [5, 6] (by decide) rfl⟩ rfl rfl (Nat.le_of_ble_eq_true rfl) dX3_bits_4 ⟨Nat.le_of_ble_eq_true rfl, Nat.le_of_ble_eq_true rfl⟩) (fun r h1 => ?_)
  exact ri_iret hC (h1) dX3_bits_7

set_option maxRecDepth 100000 in
set_option maxHeartbeats 4000000 in
theorem c_X3_characterAt (l : Launch) (D : va_G) (cB cI cC : ClassId) (h hti ati hto ato hnu anu hsp asp hsq asq hsm asm n st uN us uq um : Nat) (ft fx fN fs fq fm : Nat → Int32) (lv : Int64) (k : Int32) (hst : st ≤ 65536) : ROi l yX3_characterAt (Cond.code yX3_characterAt cX3_characterAt 2 (some .int)) 2 D (TY cB cI cC) [.ref h, .int k] [(h, .inr (3, [.ref hti, .ref hto, .ref hnu, .ref hsp, .ref hsq, .ref hsm, .long lv])), (hti, .inr (0, [.ref ati, .int (nI n)])), (ati, .inl (cB, 65536, .inl ft)), (hto, .inr (1, [.ref ato, .int (nI st)])), (ato, .inl (cB, 65536, .inl fx)), (hnu, .inr (2, [.ref anu, .int (nI uN)])), (anu, .inl (cI, 2048, .inl fN)), (hsp, .inr (2, [.ref asp, .int (nI us)])), (asp, .inl (cI, 2048, .inl fs)), (hsq, .inr (2, [.ref asq, .int (nI uq)])), (asq, .inl (cI, 2048, .inl fq)), (hsm, .inr (2, [.ref asm, .int (nI um)])), (asm, .inl (cI, 2, .inl fm))] (fun r => (∀ j, j < 65536 - st → k = nI j → r = fx (st + j)) ∧ ((∀ j, j < 65536 - st → k ≠ nI j) → r = -1)) := by
  refine ROi.of (by decide) (Nat.le_of_ble_eq_true rfl) ?_
  intro p e s m below meth c ls A hC hA hP hK hD hS hl
  obtain ⟨hx, hb, hr, hml, hown, hts, hlocks, hN⟩ := id hC
  have hown : s.vm.findClass RX3 = some m.cls := hown
  have hl : lv_has ls 2 [(0, .ref h), (1, .int k)] := hl
  refine lv_aload_n hx hb dX3_characterAt_0 rfl (lv_at hl 0 rfl) ?_
  refine va_get (D := D) (ci := 3) (C := RX3) (T := TX3) (N := 7) (v := .ref hto) hx hb hts kin_X3_w hown hK hP 0 rfl rfl 1 (by decide) (hts _ kfl_X3_19) (fun _ h9 => h9) rfl dX3_characterAt_1 ?_
  refine lv_iload_n hx hb dX3_characterAt_4 rfl (lv_at hl 1 rfl) ?_
  refine dm_gori (dm_rVN (n := 1) (As := [.int k]) (rest := []) hC hl (c_X1_codeAt l D cB cI cC hto ato st fx k hst s.heap.size) kco_X1_codeAt ki_X1 kim_X1_codeAt kse_X1_codeAt knl_X3_110 (by decide +kernel) ⟨Nat.le_of_ble_eq_true rfl, Nat.le_of_ble_eq_true rfl⟩ rfl rfl ⟨dm_blind, va_recv hK hP (ci := 1) (q0 := 3) rfl rfl, dm_preU hK hP hD hC.2.2.2.2.2.2.2 [3, 4] (by decide) rfl⟩ rfl rfl (Nat.le_of_ble_eq_true rfl) dX3_characterAt_5 ⟨Nat.le_of_ble_eq_true rfl, Nat.le_of_ble_eq_true rfl⟩) (fun r h1 => ?_)
  exact ri_iret hC (h1) dX3_characterAt_8

set_option maxRecDepth 100000 in
set_option maxHeartbeats 4000000 in
theorem c_X3_value (l : Launch) (D : va_G) (cB cI cC : ClassId) (h hti ati hto ato hnu anu hsp asp hsq asq hsm asm n st uN us uq um : Nat) (ft fx fN fs fq fm : Nat → Int32) (lv : Int64) : ROl l yX3_value (Cond.code yX3_value cX3_value 1 (some .long)) 0 D (TY cB cI cC) [.ref h] [(h, .inr (3, [.ref hti, .ref hto, .ref hnu, .ref hsp, .ref hsq, .ref hsm, .long lv])), (hti, .inr (0, [.ref ati, .int (nI n)])), (ati, .inl (cB, 65536, .inl ft)), (hto, .inr (1, [.ref ato, .int (nI st)])), (ato, .inl (cB, 65536, .inl fx)), (hnu, .inr (2, [.ref anu, .int (nI uN)])), (anu, .inl (cI, 2048, .inl fN)), (hsp, .inr (2, [.ref asp, .int (nI us)])), (asp, .inl (cI, 2048, .inl fs)), (hsq, .inr (2, [.ref asq, .int (nI uq)])), (asq, .inl (cI, 2048, .inl fq)), (hsm, .inr (2, [.ref asm, .int (nI um)])), (asm, .inl (cI, 2, .inl fm))] (fun r => r = lv) := by
  refine ROl.of (by decide) (Nat.le_of_ble_eq_true rfl) ?_
  intro p e s m below meth c ls A hC hA hP hK hD hS hl
  obtain ⟨hx, hb, hr, hml, hown, hts, hlocks, hN⟩ := id hC
  have hown : s.vm.findClass RX3 = some m.cls := hown
  have hl : lv_has ls 1 [(0, .ref h)] := hl
  refine lv_aload_n hx hb dX3_value_0 rfl (lv_at hl 0 rfl) ?_
  refine va_get (D := D) (ci := 3) (C := RX3) (T := TX3) (N := 7) (v := .long lv) hx hb hts kin_X3_w hown hK hP 0 rfl rfl 6 (by decide) (hts _ kfl_X3_41) (fun _ h9 => h9) rfl dX3_value_1 ?_
  exact ri_lret hC (rfl) dX3_value_4

set_option maxRecDepth 100000 in
set_option maxHeartbeats 4000000 in
theorem c_X3_type (l : Launch) (D : va_G) (cB cI cC : ClassId) (h hti ati hto ato hnu anu hsp asp hsq asq hsm asm n st uN us uq um : Nat) (ft fx fN fs fq fm : Nat → Int32) (lv : Int64) (x : Nat) (T : Nat → Nat) (hn : n ≤ 65536) (hx8 : x < 18446744073709551616) (htx : txt n T ft) : MI l yX3_type (Cond.code yX3_type cX3_type 3 (some .boolean)) 1 D (TY cB cI cC) [.ref h, .long (lN x)] [(h, .inr (3, [.ref hti, .ref hto, .ref hnu, .ref hsp, .ref hsq, .ref hsm, .long lv])), (hti, .inr (0, [.ref ati, .int (nI n)])), (ati, .inl (cB, 65536, .inl ft)), (hto, .inr (1, [.ref ato, .int (nI st)])), (ato, .inl (cB, 65536, .inl fx)), (hnu, .inr (2, [.ref anu, .int (nI uN)])), (anu, .inl (cI, 2048, .inl fN)), (hsp, .inr (2, [.ref asp, .int (nI us)])), (asp, .inl (cI, 2048, .inl fs)), (hsq, .inr (2, [.ref asq, .int (nI uq)])), (asq, .inl (cI, 2048, .inl fq)), (hsm, .inr (2, [.ref asm, .int (nI um)])), (asm, .inl (cI, 2, .inl fm))] (S := (Nat → Int32) × Nat) (fun r q => (tyOK x n ∧ r = 1 ∧ q.2 = n + (tyl x 8).length ∧ txt q.2 (T2 n T (tyl x 8)) q.1) ∨ (¬ tyOK x n ∧ r = 0 ∧ q = (ft, n))) (fun q => [(h, .inr (3, [.ref hti, .ref hto, .ref hnu, .ref hsp, .ref hsq, .ref hsm, .long lv])), (hti, .inr (0, [.ref ati, .int (nI q.2)])), (ati, .inl (cB, 65536, .inl q.1)), (hto, .inr (1, [.ref ato, .int (nI st)])), (ato, .inl (cB, 65536, .inl fx)), (hnu, .inr (2, [.ref anu, .int (nI uN)])), (anu, .inl (cI, 2048, .inl fN)), (hsp, .inr (2, [.ref asp, .int (nI us)])), (asp, .inl (cI, 2048, .inl fs)), (hsq, .inr (2, [.ref asq, .int (nI uq)])), (asq, .inl (cI, 2048, .inl fq)), (hsm, .inr (2, [.ref asm, .int (nI um)])), (asm, .inl (cI, 2, .inl fm))]) := by
  refine MI.of (by decide) (Nat.le_of_ble_eq_true rfl) ?_
  intro p e s m below meth c ls A hC hA hP hK hD hS hl
  obtain ⟨hx, hb, hr, hml, hown, hts, hlocks, hN⟩ := id hC
  have hown : s.vm.findClass RX3 = some m.cls := hown
  have hl : lv_has ls 3 [(0, .ref h), (1, .long (lN x))] := hl
  refine lv_aload_n hx hb dX3_type_0 rfl (lv_at hl 0 rfl) ?_
  refine va_get (D := D) (ci := 3) (C := RX3) (T := TX3) (N := 7) (v := .ref hti) hx hb hts kin_X3_w hown hK hP 0 rfl rfl 0 (by decide) (hts _ kfl_X3_10) (fun _ h9 => h9) rfl dX3_type_1 ?_
  refine lv_lload_n hx hb dX3_type_4 rfl (lv_at hl 1 rfl) ?_
  refine dm_goi (wr := [(h, .inr (3, [.ref hti, .ref hto, .ref hnu, .ref hsp, .ref hsq, .ref hsm, .long lv])), (hto, .inr (1, [.ref ato, .int (nI st)])), (ato, .inl (cB, 65536, .inl fx)), (hnu, .inr (2, [.ref anu, .int (nI uN)])), (anu, .inl (cI, 2048, .inl fN)), (hsp, .inr (2, [.ref asp, .int (nI us)])), (asp, .inl (cI, 2048, .inl fs)), (hsq, .inr (2, [.ref asq, .int (nI uq)])), (asq, .inl (cI, 2048, .inl fq)), (hsm, .inr (2, [.ref asm, .int (nI um)])), (asm, .inl (cI, 2, .inl fm))]) (dm_rVN (n := 1) (As := [.long (lN x)]) (rest := []) hC hl (c_X0_appendBytes l D cB cI cC hti ati n x T ft hn hx8 htx s.heap.size) kco_X0_appendBytes ki_X0 kim_X0_appendBytes kse_X0_appendBytes knl_X3_45 (by decide +kernel) ⟨Nat.le_of_ble_eq_true rfl, Nat.le_of_ble_eq_true rfl⟩ rfl rfl ⟨dm_blind, va_recv hK hP (ci := 0) (q0 := 1) rfl rfl, dm_preU hK hP hD hC.2.2.2.2.2.2.2 [1, 2] (by decide) rfl⟩ rfl rfl (Nat.le_of_ble_eq_true rfl) dX3_type_5 ⟨Nat.le_of_ble_eq_true rfl, Nat.le_of_ble_eq_true rfl⟩) hP hD hS hA [1, 2] [0, 3, 4, 5, 6, 7, 8, 9, 10, 11, 12] rfl rfl (by decide) (by decide) (fun r q H locs hw hP hD hS => ?_)
  obtain ⟨f2, n2⟩ := q
  have hP : va_P D vwCl [(h, .inr (3, [.ref hti, .ref hto, .ref hnu, .ref hsp, .ref hsq, .ref hsm, .long lv])), (hto, .inr (1, [.ref ato, .int (nI st)])), (ato, .inl (cB, 65536, .inl fx)), (hnu, .inr (2, [.ref anu, .int (nI uN)])), (anu, .inl (cI, 2048, .inl fN)), (hsp, .inr (2, [.ref asp, .int (nI us)])), (asp, .inl (cI, 2048, .inl fs)), (hsq, .inr (2, [.ref asq, .int (nI uq)])), (asq, .inl (cI, 2048, .inl fq)), (hsm, .inr (2, [.ref asm, .int (nI um)])), (asm, .inl (cI, 2, .inl fm)), (hti, .inr (0, [.ref ati, .int (nI n2)])), (ati, .inl (cB, 65536, .inl f2))] H := hP
  have hD : va_D A [(h, .inr (3, [.ref hti, .ref hto, .ref hnu, .ref hsp, .ref hsq, .ref hsm, .long lv])), (hto, .inr (1, [.ref ato, .int (nI st)])), (ato, .inl (cB, 65536, .inl fx)), (hnu, .inr (2, [.ref anu, .int (nI uN)])), (anu, .inl (cI, 2048, .inl fN)), (hsp, .inr (2, [.ref asp, .int (nI us)])), (asp, .inl (cI, 2048, .inl fs)), (hsq, .inr (2, [.ref asq, .int (nI uq)])), (asq, .inl (cI, 2048, .inl fq)), (hsm, .inr (2, [.ref asm, .int (nI um)])), (asm, .inl (cI, 2, .inl fm)), (hti, .inr (0, [.ref ati, .int (nI n2)])), (ati, .inl (cB, 65536, .inl f2))] := hD
  have hP := hP.sub (ws' := [(h, .inr (3, [.ref hti, .ref hto, .ref hnu, .ref hsp, .ref hsq, .ref hsm, .long lv])), (hti, .inr (0, [.ref ati, .int (nI n2)])), (ati, .inl (cB, 65536, .inl f2)), (hto, .inr (1, [.ref ato, .int (nI st)])), (ato, .inl (cB, 65536, .inl fx)), (hnu, .inr (2, [.ref anu, .int (nI uN)])), (anu, .inl (cI, 2048, .inl fN)), (hsp, .inr (2, [.ref asp, .int (nI us)])), (asp, .inl (cI, 2048, .inl fs)), (hsq, .inr (2, [.ref asq, .int (nI uq)])), (asq, .inl (cI, 2048, .inl fq)), (hsm, .inr (2, [.ref asm, .int (nI um)])), (asm, .inl (cI, 2, .inl fm))]) [0, 11, 12, 1, 2, 3, 4, 5, 6, 7, 8, 9, 10] rfl
  have hD := hD.sub (ws' := [(h, .inr (3, [.ref hti, .ref hto, .ref hnu, .ref hsp, .ref hsq, .ref hsm, .long lv])), (hti, .inr (0, [.ref ati, .int (nI n2)])), (ati, .inl (cB, 65536, .inl f2)), (hto, .inr (1, [.ref ato, .int (nI st)])), (ato, .inl (cB, 65536, .inl fx)), (hnu, .inr (2, [.ref anu, .int (nI uN)])), (anu, .inl (cI, 2048, .inl fN)), (hsp, .inr (2, [.ref asp, .int (nI us)])), (asp, .inl (cI, 2048, .inl fs)), (hsq, .inr (2, [.ref asq, .int (nI uq)])), (asq, .inl (cI, 2048, .inl fq)), (hsm, .inr (2, [.ref asm, .int (nI um)])), (asm, .inl (cI, 2, .inl fm))]) [0, 11, 12, 1, 2, 3, 4, 5, 6, 7, 8, 9, 10] (by decide) rfl
  exact dm_zret hC (hw.elim (fun h9 => Or.inr h9.2.1) (fun h9 => Or.inl h9.2.1)) hK (f2, n2) hw hP hD hS dX3_type_8

set_option maxRecDepth 100000 in
set_option maxHeartbeats 4000000 in
theorem c_X3_repeat (l : Launch) (D : va_G) (cB cI cC : ClassId) (h hti ati hto ato hnu anu hsp asp hsq asq hsm asm n st uN us uq um : Nat) (ft fx fN fs fq fm : Nat → Int32) (lv : Int64) (mm kk : Int32) (T : Nat → Nat) (hn : n ≤ 65536) (htx : txt n T ft) : MI l yX3_repeat (Cond.code yX3_repeat cX3_repeat 3 (some .boolean)) 1 D (TY cB cI cC) [.ref h, .int mm, .int kk] [(h, .inr (3, [.ref hti, .ref hto, .ref hnu, .ref hsp, .ref hsq, .ref hsm, .long lv])), (hti, .inr (0, [.ref ati, .int (nI n)])), (ati, .inl (cB, 65536, .inl ft)), (hto, .inr (1, [.ref ato, .int (nI st)])), (ato, .inl (cB, 65536, .inl fx)), (hnu, .inr (2, [.ref anu, .int (nI uN)])), (anu, .inl (cI, 2048, .inl fN)), (hsp, .inr (2, [.ref asp, .int (nI us)])), (asp, .inl (cI, 2048, .inl fs)), (hsq, .inr (2, [.ref asq, .int (nI uq)])), (asq, .inl (cI, 2048, .inl fq)), (hsm, .inr (2, [.ref asm, .int (nI um)])), (asm, .inl (cI, 2, .inl fm))] (S := (Nat → Int32) × Nat) (fun r q => (∃ m k, rpOK mm kk n m k ∧ r = 1 ∧ q.2 = n + m * k ∧ txt q.2 (T3 n m T) q.1) ∨ ((∀ m k, ¬ rpOK mm kk n m k) ∧ r = 0 ∧ q = (ft, n))) (fun q => [(h, .inr (3, [.ref hti, .ref hto, .ref hnu, .ref hsp, .ref hsq, .ref hsm, .long lv])), (hti, .inr (0, [.ref ati, .int (nI q.2)])), (ati, .inl (cB, 65536, .inl q.1)), (hto, .inr (1, [.ref ato, .int (nI st)])), (ato, .inl (cB, 65536, .inl fx)), (hnu, .inr (2, [.ref anu, .int (nI uN)])), (anu, .inl (cI, 2048, .inl fN)), (hsp, .inr (2, [.ref asp, .int (nI us)])), (asp, .inl (cI, 2048, .inl fs)), (hsq, .inr (2, [.ref asq, .int (nI uq)])), (asq, .inl (cI, 2048, .inl fq)), (hsm, .inr (2, [.ref asm, .int (nI um)])), (asm, .inl (cI, 2, .inl fm))]) := by
  refine MI.of (by decide) (Nat.le_of_ble_eq_true rfl) ?_
  intro p e s m below meth c ls A hC hA hP hK hD hS hl
  obtain ⟨hx, hb, hr, hml, hown, hts, hlocks, hN⟩ := id hC
  have hown : s.vm.findClass RX3 = some m.cls := hown
  have hl : lv_has ls 3 [(0, .ref h), (1, .int mm), (2, .int kk)] := hl
  refine lv_aload_n hx hb dX3_repeat_0 rfl (lv_at hl 0 rfl) ?_
  refine va_get (D := D) (ci := 3) (C := RX3) (T := TX3) (N := 7) (v := .ref hti) hx hb hts kin_X3_w hown hK hP 0 rfl rfl 0 (by decide) (hts _ kfl_X3_10) (fun _ h9 => h9) rfl dX3_repeat_1 ?_
  refine lv_iload_n hx hb dX3_repeat_4 rfl (lv_at hl 1 rfl) ?_
  refine lv_iload_n hx hb dX3_repeat_5 rfl (lv_at hl 2 rfl) ?_
  refine dm_goi (wr := [(h, .inr (3, [.ref hti, .ref hto, .ref hnu, .ref hsp, .ref hsq, .ref hsm, .long lv])), (hto, .inr (1, [.ref ato, .int (nI st)])), (ato, .inl (cB, 65536, .inl fx)), (hnu, .inr (2, [.ref anu, .int (nI uN)])), (anu, .inl (cI, 2048, .inl fN)), (hsp, .inr (2, [.ref asp, .int (nI us)])), (asp, .inl (cI, 2048, .inl fs)), (hsq, .inr (2, [.ref asq, .int (nI uq)])), (asq, .inl (cI, 2048, .inl fq)), (hsm, .inr (2, [.ref asm, .int (nI um)])), (asm, .inl (cI, 2, .inl fm))]) (dm_rVN (n := 2) (As := [.int mm, .int kk]) (rest := []) hC hl (c_X0_appendEnd l D cB cI cC hti ati n mm kk T ft hn htx s.heap.size) kco_X0_appendEnd ki_X0 kim_X0_appendEnd kse_X0_appendEnd knl_X3_49 (by decide +kernel) ⟨Nat.le_of_ble_eq_true rfl, Nat.le_of_ble_eq_true rfl⟩ rfl rfl ⟨dm_blind, va_recv hK hP (ci := 0) (q0 := 1) rfl rfl, dm_preU hK hP hD hC.2.2.2.2.2.2.2 [1, 2] (by decide) rfl⟩ rfl rfl (Nat.le_of_ble_eq_true rfl) dX3_repeat_6 ⟨Nat.le_of_ble_eq_true rfl, Nat.le_of_ble_eq_true rfl⟩) hP hD hS hA [1, 2] [0, 3, 4, 5, 6, 7, 8, 9, 10, 11, 12] rfl rfl (by decide) (by decide) (fun r q H locs hw hP hD hS => ?_)
  obtain ⟨f2, n2⟩ := q
  have hP : va_P D vwCl [(h, .inr (3, [.ref hti, .ref hto, .ref hnu, .ref hsp, .ref hsq, .ref hsm, .long lv])), (hto, .inr (1, [.ref ato, .int (nI st)])), (ato, .inl (cB, 65536, .inl fx)), (hnu, .inr (2, [.ref anu, .int (nI uN)])), (anu, .inl (cI, 2048, .inl fN)), (hsp, .inr (2, [.ref asp, .int (nI us)])), (asp, .inl (cI, 2048, .inl fs)), (hsq, .inr (2, [.ref asq, .int (nI uq)])), (asq, .inl (cI, 2048, .inl fq)), (hsm, .inr (2, [.ref asm, .int (nI um)])), (asm, .inl (cI, 2, .inl fm)), (hti, .inr (0, [.ref ati, .int (nI n2)])), (ati, .inl (cB, 65536, .inl f2))] H := hP
  have hD : va_D A [(h, .inr (3, [.ref hti, .ref hto, .ref hnu, .ref hsp, .ref hsq, .ref hsm, .long lv])), (hto, .inr (1, [.ref ato, .int (nI st)])), (ato, .inl (cB, 65536, .inl fx)), (hnu, .inr (2, [.ref anu, .int (nI uN)])), (anu, .inl (cI, 2048, .inl fN)), (hsp, .inr (2, [.ref asp, .int (nI us)])), (asp, .inl (cI, 2048, .inl fs)), (hsq, .inr (2, [.ref asq, .int (nI uq)])), (asq, .inl (cI, 2048, .inl fq)), (hsm, .inr (2, [.ref asm, .int (nI um)])), (asm, .inl (cI, 2, .inl fm)), (hti, .inr (0, [.ref ati, .int (nI n2)])), (ati, .inl (cB, 65536, .inl f2))] := hD
  have hP := hP.sub (ws' := [(h, .inr (3, [.ref hti, .ref hto, .ref hnu, .ref hsp, .ref hsq, .ref hsm, .long lv])), (hti, .inr (0, [.ref ati, .int (nI n2)])), (ati, .inl (cB, 65536, .inl f2)), (hto, .inr (1, [.ref ato, .int (nI st)])), (ato, .inl (cB, 65536, .inl fx)), (hnu, .inr (2, [.ref anu, .int (nI uN)])), (anu, .inl (cI, 2048, .inl fN)), (hsp, .inr (2, [.ref asp, .int (nI us)])), (asp, .inl (cI, 2048, .inl fs)), (hsq, .inr (2, [.ref asq, .int (nI uq)])), (asq, .inl (cI, 2048, .inl fq)), (hsm, .inr (2, [.ref asm, .int (nI um)])), (asm, .inl (cI, 2, .inl fm))]) [0, 11, 12, 1, 2, 3, 4, 5, 6, 7, 8, 9, 10] rfl
  have hD := hD.sub (ws' := [(h, .inr (3, [.ref hti, .ref hto, .ref hnu, .ref hsp, .ref hsq, .ref hsm, .long lv])), (hti, .inr (0, [.ref ati, .int (nI n2)])), (ati, .inl (cB, 65536, .inl f2)), (hto, .inr (1, [.ref ato, .int (nI st)])), (ato, .inl (cB, 65536, .inl fx)), (hnu, .inr (2, [.ref anu, .int (nI uN)])), (anu, .inl (cI, 2048, .inl fN)), (hsp, .inr (2, [.ref asp, .int (nI us)])), (asp, .inl (cI, 2048, .inl fs)), (hsq, .inr (2, [.ref asq, .int (nI uq)])), (asq, .inl (cI, 2048, .inl fq)), (hsm, .inr (2, [.ref asm, .int (nI um)])), (asm, .inl (cI, 2, .inl fm))]) [0, 11, 12, 1, 2, 3, 4, 5, 6, 7, 8, 9, 10] (by decide) rfl
  exact dm_zret hC (hw.elim (fun ⟨_, _, h9⟩ => Or.inr h9.2.1) (fun h9 => Or.inl h9.2.1)) hK (f2, n2) hw hP hD hS dX3_repeat_9

set_option maxRecDepth 100000 in
set_option maxHeartbeats 4000000 in
theorem c_X3_push (l : Launch) (D : va_G) (cB cI cC : ClassId) (h hti ati hto ato hnu anu hsp asp hsq asq hsm asm n st uN us uq um : Nat) (ft fx fN fs fq fm : Nat → Int32) (lv : Int64) (x : Nat) (huN : uN ≤ 2048) (hx8 : x < 18446744073709551616) : MI l yX3_push (Cond.code yX3_push cX3_push 3 (some .boolean)) 2 D (TY cB cI cC) [.ref h, .long (lN x)] [(h, .inr (3, [.ref hti, .ref hto, .ref hnu, .ref hsp, .ref hsq, .ref hsm, .long lv])), (hti, .inr (0, [.ref ati, .int (nI n)])), (ati, .inl (cB, 65536, .inl ft)), (hto, .inr (1, [.ref ato, .int (nI st)])), (ato, .inl (cB, 65536, .inl fx)), (hnu, .inr (2, [.ref anu, .int (nI uN)])), (anu, .inl (cI, 2048, .inl fN)), (hsp, .inr (2, [.ref asp, .int (nI us)])), (asp, .inl (cI, 2048, .inl fs)), (hsq, .inr (2, [.ref asq, .int (nI uq)])), (asq, .inl (cI, 2048, .inl fq)), (hsm, .inr (2, [.ref asm, .int (nI um)])), (asm, .inl (cI, 2, .inl fm))] (S := (Nat → Int32) × Nat) (fun r q => (uN + 2 ≤ 2048 → r = 1 ∧ q.2 ≤ 2048 ∧ dvb 4294967296 q.1 q.2 = dvb 4294967296 fN uN * 18446744073709551616 + x ∧ nrm q.1 q.2) ∧ (2048 < uN + 2 → r = 0 ∧ q = (fN, uN))) (fun q => [(h, .inr (3, [.ref hti, .ref hto, .ref hnu, .ref hsp, .ref hsq, .ref hsm, .long lv])), (hti, .inr (0, [.ref ati, .int (nI n)])), (ati, .inl (cB, 65536, .inl ft)), (hto, .inr (1, [.ref ato, .int (nI st)])), (ato, .inl (cB, 65536, .inl fx)), (hnu, .inr (2, [.ref anu, .int (nI q.2)])), (anu, .inl (cI, 2048, .inl q.1)), (hsp, .inr (2, [.ref asp, .int (nI us)])), (asp, .inl (cI, 2048, .inl fs)), (hsq, .inr (2, [.ref asq, .int (nI uq)])), (asq, .inl (cI, 2048, .inl fq)), (hsm, .inr (2, [.ref asm, .int (nI um)])), (asm, .inl (cI, 2, .inl fm))]) := by
  refine MI.of (by decide) (Nat.le_of_ble_eq_true rfl) ?_
  intro p e s m below meth c ls A hC hA hP hK hD hS hl
  obtain ⟨hx, hb, hr, hml, hown, hts, hlocks, hN⟩ := id hC
  have hown : s.vm.findClass RX3 = some m.cls := hown
  have hl : lv_has ls 3 [(0, .ref h), (1, .long (lN x))] := hl
  refine lv_aload_n hx hb dX3_push_0 rfl (lv_at hl 0 rfl) ?_
  refine va_get (D := D) (ci := 3) (C := RX3) (T := TX3) (N := 7) (v := .ref hnu) hx hb hts kin_X3_w hown hK hP 0 rfl rfl 2 (by decide) (hts _ kfl_X3_28) (fun _ h9 => h9) rfl dX3_push_1 ?_
  refine lv_lload_n hx hb dX3_push_4 rfl (lv_at hl 1 rfl) ?_
  refine dm_goi (wr := [(h, .inr (3, [.ref hti, .ref hto, .ref hnu, .ref hsp, .ref hsq, .ref hsm, .long lv])), (hti, .inr (0, [.ref ati, .int (nI n)])), (ati, .inl (cB, 65536, .inl ft)), (hto, .inr (1, [.ref ato, .int (nI st)])), (ato, .inl (cB, 65536, .inl fx)), (hsp, .inr (2, [.ref asp, .int (nI us)])), (asp, .inl (cI, 2048, .inl fs)), (hsq, .inr (2, [.ref asq, .int (nI uq)])), (asq, .inl (cI, 2048, .inl fq)), (hsm, .inr (2, [.ref asm, .int (nI um)])), (asm, .inl (cI, 2, .inl fm))]) (dm_rVN (n := 1) (As := [.long (lN x)]) (rest := []) hC hl (c_X2_appendLong l D cB cI cC hnu anu 2048 uN x fN huN (by decide) (by decide) hx8 s.heap.size) kco_X2_appendLong ki_X2 kim_X2_appendLong kse_X2_appendLong knl_X3_76 (by decide +kernel) ⟨Nat.le_of_ble_eq_true rfl, Nat.le_of_ble_eq_true rfl⟩ rfl rfl ⟨dm_blind, va_recv hK hP (ci := 2) (q0 := 5) rfl rfl, dm_preU hK hP hD hC.2.2.2.2.2.2.2 [5, 6] (by decide) rfl⟩ rfl rfl (Nat.le_of_ble_eq_true rfl) dX3_push_5 ⟨Nat.le_of_ble_eq_true rfl, Nat.le_of_ble_eq_true rfl⟩) hP hD hS hA [5, 6] [0, 1, 2, 3, 4, 7, 8, 9, 10, 11, 12] rfl rfl (by decide) (by decide) (fun r q H locs hw hP hD hS => ?_)
  obtain ⟨f2, u2⟩ := q
  have hP : va_P D vwCl [(h, .inr (3, [.ref hti, .ref hto, .ref hnu, .ref hsp, .ref hsq, .ref hsm, .long lv])), (hti, .inr (0, [.ref ati, .int (nI n)])), (ati, .inl (cB, 65536, .inl ft)), (hto, .inr (1, [.ref ato, .int (nI st)])), (ato, .inl (cB, 65536, .inl fx)), (hsp, .inr (2, [.ref asp, .int (nI us)])), (asp, .inl (cI, 2048, .inl fs)), (hsq, .inr (2, [.ref asq, .int (nI uq)])), (asq, .inl (cI, 2048, .inl fq)), (hsm, .inr (2, [.ref asm, .int (nI um)])), (asm, .inl (cI, 2, .inl fm)), (hnu, .inr (2, [.ref anu, .int (nI u2)])), (anu, .inl (cI, 2048, .inl f2))] H := hP
  have hD : va_D A [(h, .inr (3, [.ref hti, .ref hto, .ref hnu, .ref hsp, .ref hsq, .ref hsm, .long lv])), (hti, .inr (0, [.ref ati, .int (nI n)])), (ati, .inl (cB, 65536, .inl ft)), (hto, .inr (1, [.ref ato, .int (nI st)])), (ato, .inl (cB, 65536, .inl fx)), (hsp, .inr (2, [.ref asp, .int (nI us)])), (asp, .inl (cI, 2048, .inl fs)), (hsq, .inr (2, [.ref asq, .int (nI uq)])), (asq, .inl (cI, 2048, .inl fq)), (hsm, .inr (2, [.ref asm, .int (nI um)])), (asm, .inl (cI, 2, .inl fm)), (hnu, .inr (2, [.ref anu, .int (nI u2)])), (anu, .inl (cI, 2048, .inl f2))] := hD
  have hP := hP.sub (ws' := [(h, .inr (3, [.ref hti, .ref hto, .ref hnu, .ref hsp, .ref hsq, .ref hsm, .long lv])), (hti, .inr (0, [.ref ati, .int (nI n)])), (ati, .inl (cB, 65536, .inl ft)), (hto, .inr (1, [.ref ato, .int (nI st)])), (ato, .inl (cB, 65536, .inl fx)), (hnu, .inr (2, [.ref anu, .int (nI u2)])), (anu, .inl (cI, 2048, .inl f2)), (hsp, .inr (2, [.ref asp, .int (nI us)])), (asp, .inl (cI, 2048, .inl fs)), (hsq, .inr (2, [.ref asq, .int (nI uq)])), (asq, .inl (cI, 2048, .inl fq)), (hsm, .inr (2, [.ref asm, .int (nI um)])), (asm, .inl (cI, 2, .inl fm))]) [0, 1, 2, 3, 4, 11, 12, 5, 6, 7, 8, 9, 10] rfl
  have hD := hD.sub (ws' := [(h, .inr (3, [.ref hti, .ref hto, .ref hnu, .ref hsp, .ref hsq, .ref hsm, .long lv])), (hti, .inr (0, [.ref ati, .int (nI n)])), (ati, .inl (cB, 65536, .inl ft)), (hto, .inr (1, [.ref ato, .int (nI st)])), (ato, .inl (cB, 65536, .inl fx)), (hnu, .inr (2, [.ref anu, .int (nI u2)])), (anu, .inl (cI, 2048, .inl f2)), (hsp, .inr (2, [.ref asp, .int (nI us)])), (asp, .inl (cI, 2048, .inl fs)), (hsq, .inr (2, [.ref asq, .int (nI uq)])), (asq, .inl (cI, 2048, .inl fq)), (hsm, .inr (2, [.ref asm, .int (nI um)])), (asm, .inl (cI, 2, .inl fm))]) [0, 1, 2, 3, 4, 11, 12, 5, 6, 7, 8, 9, 10] (by decide) rfl
  refine dm_zret hC ?_ hK (f2, u2) hw hP hD hS dX3_push_8
  by_cases h9 : uN + 2 ≤ 2048
  · exact Or.inr (hw.1 h9).1
  · exact Or.inl (hw.2 (by omega)).1

theorem un_nneg {x : Int32} (h : 0 ≤ x) : un x < 2147483648 ∧ x.toInt64 = lN (un x) := by
  obtain ⟨k, hk, rfl⟩ := nI_nn h
  rw [un_nI (by omega), nI_l hk]
  exact ⟨hk, rfl⟩
theorem un_isneg {x : Int32} (h : ¬ 0 ≤ x) : 2147483648 ≤ un x ∧ -(x.toInt64) = lN (4294967296 - un x) := by
  have h0 : ¬ 0 < x := fun q => h (Int32.le_of_lt q)
  have h00 : ¬ x = 0 := fun q => h (by rw [q]; decide)
  have hb := un_neg h0 h00
  have hl := un_lt x
  refine ⟨hb, ?_⟩
  obtain ⟨m, hm, hx⟩ := wb_of x.toInt64
  have h1 : x.toInt64.toBitVec.toNat = 18446744073709551616 - 4294967296 + un x := by
    show (x.toBitVec.signExtend 64).toNat = _
    rw [BitVec.toNat_signExtend, BitVec.toNat_setWidth]
    have hu : x.toBitVec.toNat = un x := rfl
    have hmsb : x.toBitVec.msb = true := by
      rw [BitVec.msb_eq_decide, hu]
      simp
      exact hb
    rw [hmsb, hu]
    simp
    omega
  rw [hx, wb_tn hm] at h1
  rw [hx, h1]
  have h2 : lN (18446744073709551616 - 4294967296 + un x) + lN (4294967296 - un x) = 0 := by
    rw [lN_add, wb_mod, show (18446744073709551616 - 4294967296 + un x + (4294967296 - un x)) % 2 ^ 64 = 0 by omega]
    rfl
  have h3 : lN (4294967296 - un x) = 0 - lN (18446744073709551616 - 4294967296 + un x) := by
    rw [← h2, Int64.add_comm, Int64.add_sub_cancel]
  rw [h3, Int64.zero_sub]

set_option maxRecDepth 100000 in
set_option maxHeartbeats 4000000 in
theorem c_X3_add (l : Launch) (D : va_G) (cB cI cC : ClassId) (h hti ati hto ato hnu anu hsp asp hsq asq hsm asm n st uN us uq um : Nat) (ft fx fN fs fq fm : Nat → Int32) (lv : Int64) (v : Int32) (huN : uN ≤ 2048) (hnr : nrm fN uN) : MI l yX3_add (Cond.code yX3_add cX3_add 2 (some .boolean)) 2 D (TY cB cI cC) [.ref h, .int v] [(h, .inr (3, [.ref hti, .ref hto, .ref hnu, .ref hsp, .ref hsq, .ref hsm, .long lv])), (hti, .inr (0, [.ref ati, .int (nI n)])), (ati, .inl (cB, 65536, .inl ft)), (hto, .inr (1, [.ref ato, .int (nI st)])), (ato, .inl (cB, 65536, .inl fx)), (hnu, .inr (2, [.ref anu, .int (nI uN)])), (anu, .inl (cI, 2048, .inl fN)), (hsp, .inr (2, [.ref asp, .int (nI us)])), (asp, .inl (cI, 2048, .inl fs)), (hsq, .inr (2, [.ref asq, .int (nI uq)])), (asq, .inl (cI, 2048, .inl fq)), (hsm, .inr (2, [.ref asm, .int (nI um)])), (asm, .inl (cI, 2, .inl fm))] (S := (Nat → Int32) × Nat) (fun r q => (0 ≤ v → (dvb 4294967296 fN uN + un v < 4294967296 ^ 2048 → r = 1 ∧ q.2 ≤ 2048 ∧ dvb 4294967296 q.1 q.2 = dvb 4294967296 fN uN + un v ∧ nrm q.1 q.2) ∧ (4294967296 ^ 2048 ≤ dvb 4294967296 fN uN + un v → r = 0 ∧ q = (fN, uN))) ∧ (¬ 0 ≤ v → (4294967296 - un v ≤ dvb 4294967296 fN uN → r = 1 ∧ q.2 ≤ 2048 ∧ dvb 4294967296 q.1 q.2 = dvb 4294967296 fN uN - (4294967296 - un v) ∧ nrm q.1 q.2) ∧ (dvb 4294967296 fN uN < 4294967296 - un v → r = 0 ∧ q = (fN, uN)))) (fun q => [(h, .inr (3, [.ref hti, .ref hto, .ref hnu, .ref hsp, .ref hsq, .ref hsm, .long lv])), (hti, .inr (0, [.ref ati, .int (nI n)])), (ati, .inl (cB, 65536, .inl ft)), (hto, .inr (1, [.ref ato, .int (nI st)])), (ato, .inl (cB, 65536, .inl fx)), (hnu, .inr (2, [.ref anu, .int (nI q.2)])), (anu, .inl (cI, 2048, .inl q.1)), (hsp, .inr (2, [.ref asp, .int (nI us)])), (asp, .inl (cI, 2048, .inl fs)), (hsq, .inr (2, [.ref asq, .int (nI uq)])), (asq, .inl (cI, 2048, .inl fq)), (hsm, .inr (2, [.ref asm, .int (nI um)])), (asm, .inl (cI, 2, .inl fm))]) := by
  refine MI.of (by decide) (Nat.le_of_ble_eq_true rfl) ?_
  intro p e s m below meth c ls A hC hA hP hK hD hS hl
  obtain ⟨hx, hb, hr, hml, hown, hts, hlocks, hN⟩ := id hC
  have hown : s.vm.findClass RX3 = some m.cls := hown
  have hl : lv_has ls 2 [(0, .ref h), (1, .int v)] := hl
  refine lv_iload_n hx hb dX3_add_0 rfl (lv_at hl 1 rfl) ?_
  refine lv_if_ge (tgt := 17) hx hb dX3_add_1 (by decide) (fun hc => ?_) (fun hc => ?_)
  · obtain ⟨hb1, hb2⟩ := un_nneg hc
    have hub := un_lt v
    refine lv_aload_n hx hb dX3_add_17 rfl (lv_at hl 0 rfl) ?_
    refine va_get (D := D) (ci := 3) (C := RX3) (T := TX3) (N := 7) (v := .ref hnu) hx hb hts kin_X3_w hown hK hP 0 rfl rfl 2 (by decide) (hts _ kfl_X3_28) (fun _ h9 => h9) rfl dX3_add_18 ?_
    refine lv_iload_n hx hb dX3_add_21 rfl (lv_at hl 1 rfl) ?_
    refine lv_i2l (v := lN (un v)) hx hb dX3_add_22 (hb2) ?_
    refine dm_goi (wr := [(h, .inr (3, [.ref hti, .ref hto, .ref hnu, .ref hsp, .ref hsq, .ref hsm, .long lv])), (hti, .inr (0, [.ref ati, .int (nI n)])), (ati, .inl (cB, 65536, .inl ft)), (hto, .inr (1, [.ref ato, .int (nI st)])), (ato, .inl (cB, 65536, .inl fx)), (hsp, .inr (2, [.ref asp, .int (nI us)])), (asp, .inl (cI, 2048, .inl fs)), (hsq, .inr (2, [.ref asq, .int (nI uq)])), (asq, .inl (cI, 2048, .inl fq)), (hsm, .inr (2, [.ref asm, .int (nI um)])), (asm, .inl (cI, 2, .inl fm))]) (dm_rVN (n := 1) (As := [.long (lN (un v))]) (rest := []) hC hl (c_X2_increase l D cB cI cC hnu anu 2048 uN (un v) fN huN (by decide) (by decide) hub hnr s.heap.size) kco_X2_increase ki_X2 kim_X2_increase kse_X2_increase knl_X3_85 (by decide +kernel) ⟨Nat.le_of_ble_eq_true rfl, Nat.le_of_ble_eq_true rfl⟩ rfl rfl ⟨dm_blind, va_recv hK hP (ci := 2) (q0 := 5) rfl rfl, dm_preU hK hP hD hC.2.2.2.2.2.2.2 [5, 6] (by decide) rfl⟩ rfl rfl (Nat.le_of_ble_eq_true rfl) dX3_add_23 ⟨Nat.le_of_ble_eq_true rfl, Nat.le_of_ble_eq_true rfl⟩) hP hD hS hA [5, 6] [0, 1, 2, 3, 4, 7, 8, 9, 10, 11, 12] rfl rfl (by decide) (by decide) (fun r q H locs hw hP hD hS => ?_)
    obtain ⟨f2, u2⟩ := q
    have hP : va_P D vwCl [(h, .inr (3, [.ref hti, .ref hto, .ref hnu, .ref hsp, .ref hsq, .ref hsm, .long lv])), (hti, .inr (0, [.ref ati, .int (nI n)])), (ati, .inl (cB, 65536, .inl ft)), (hto, .inr (1, [.ref ato, .int (nI st)])), (ato, .inl (cB, 65536, .inl fx)), (hsp, .inr (2, [.ref asp, .int (nI us)])), (asp, .inl (cI, 2048, .inl fs)), (hsq, .inr (2, [.ref asq, .int (nI uq)])), (asq, .inl (cI, 2048, .inl fq)), (hsm, .inr (2, [.ref asm, .int (nI um)])), (asm, .inl (cI, 2, .inl fm)), (hnu, .inr (2, [.ref anu, .int (nI u2)])), (anu, .inl (cI, 2048, .inl f2))] H := hP
    have hD : va_D A [(h, .inr (3, [.ref hti, .ref hto, .ref hnu, .ref hsp, .ref hsq, .ref hsm, .long lv])), (hti, .inr (0, [.ref ati, .int (nI n)])), (ati, .inl (cB, 65536, .inl ft)), (hto, .inr (1, [.ref ato, .int (nI st)])), (ato, .inl (cB, 65536, .inl fx)), (hsp, .inr (2, [.ref asp, .int (nI us)])), (asp, .inl (cI, 2048, .inl fs)), (hsq, .inr (2, [.ref asq, .int (nI uq)])), (asq, .inl (cI, 2048, .inl fq)), (hsm, .inr (2, [.ref asm, .int (nI um)])), (asm, .inl (cI, 2, .inl fm)), (hnu, .inr (2, [.ref anu, .int (nI u2)])), (anu, .inl (cI, 2048, .inl f2))] := hD
    have hP := hP.sub (ws' := [(h, .inr (3, [.ref hti, .ref hto, .ref hnu, .ref hsp, .ref hsq, .ref hsm, .long lv])), (hti, .inr (0, [.ref ati, .int (nI n)])), (ati, .inl (cB, 65536, .inl ft)), (hto, .inr (1, [.ref ato, .int (nI st)])), (ato, .inl (cB, 65536, .inl fx)), (hnu, .inr (2, [.ref anu, .int (nI u2)])), (anu, .inl (cI, 2048, .inl f2)), (hsp, .inr (2, [.ref asp, .int (nI us)])), (asp, .inl (cI, 2048, .inl fs)), (hsq, .inr (2, [.ref asq, .int (nI uq)])), (asq, .inl (cI, 2048, .inl fq)), (hsm, .inr (2, [.ref asm, .int (nI um)])), (asm, .inl (cI, 2, .inl fm))]) [0, 1, 2, 3, 4, 11, 12, 5, 6, 7, 8, 9, 10] rfl
    have hD := hD.sub (ws' := [(h, .inr (3, [.ref hti, .ref hto, .ref hnu, .ref hsp, .ref hsq, .ref hsm, .long lv])), (hti, .inr (0, [.ref ati, .int (nI n)])), (ati, .inl (cB, 65536, .inl ft)), (hto, .inr (1, [.ref ato, .int (nI st)])), (ato, .inl (cB, 65536, .inl fx)), (hnu, .inr (2, [.ref anu, .int (nI u2)])), (anu, .inl (cI, 2048, .inl f2)), (hsp, .inr (2, [.ref asp, .int (nI us)])), (asp, .inl (cI, 2048, .inl fs)), (hsq, .inr (2, [.ref asq, .int (nI uq)])), (asq, .inl (cI, 2048, .inl fq)), (hsm, .inr (2, [.ref asm, .int (nI um)])), (asm, .inl (cI, 2, .inl fm))]) [0, 1, 2, 3, 4, 11, 12, 5, 6, 7, 8, 9, 10] (by decide) rfl
    refine dm_zret hC ?_ hK (f2, u2) ⟨fun _ => hw, fun h9 => absurd hc h9⟩ hP hD hS dX3_add_26
    rcases Nat.lt_or_ge (dvb 4294967296 fN uN + un v) (4294967296 ^ 2048) with h9 | h9
    · exact Or.inr (hw.1 h9).1
    · exact Or.inl (hw.2 h9).1
  · obtain ⟨hb1, hb2⟩ := un_isneg hc
    refine lv_aload_n hx hb dX3_add_4 rfl (lv_at hl 0 rfl) ?_
    refine va_get (D := D) (ci := 3) (C := RX3) (T := TX3) (N := 7) (v := .ref hnu) hx hb hts kin_X3_w hown hK hP 0 rfl rfl 2 (by decide) (hts _ kfl_X3_28) (fun _ h9 => h9) rfl dX3_add_5 ?_
    refine lv_iload_n hx hb dX3_add_8 rfl (lv_at hl 1 rfl) ?_
    refine lv_i2l (v := (v : Int32).toInt64) hx hb dX3_add_9 (rfl) ?_
    refine lv_lneg hx hb dX3_add_10 ?_
    refine dm_tl (y := lN (4294967296 - un v)) (hb2) ?_
    refine dm_goi (wr := [(h, .inr (3, [.ref hti, .ref hto, .ref hnu, .ref hsp, .ref hsq, .ref hsm, .long lv])), (hti, .inr (0, [.ref ati, .int (nI n)])), (ati, .inl (cB, 65536, .inl ft)), (hto, .inr (1, [.ref ato, .int (nI st)])), (ato, .inl (cB, 65536, .inl fx)), (hsp, .inr (2, [.ref asp, .int (nI us)])), (asp, .inl (cI, 2048, .inl fs)), (hsq, .inr (2, [.ref asq, .int (nI uq)])), (asq, .inl (cI, 2048, .inl fq)), (hsm, .inr (2, [.ref asm, .int (nI um)])), (asm, .inl (cI, 2, .inl fm))]) (dm_rVN (n := 1) (As := [.long (lN (4294967296 - un v))]) (rest := []) hC hl (c_X2_decrease l D cB cI cC hnu anu 2048 uN (4294967296 - un v) fN huN (by decide) (by omega) hnr s.heap.size) kco_X2_decrease ki_X2 kim_X2_decrease kse_X2_decrease knl_X3_82 (by decide +kernel) ⟨Nat.le_of_ble_eq_true rfl, Nat.le_of_ble_eq_true rfl⟩ rfl rfl ⟨dm_blind, va_recv hK hP (ci := 2) (q0 := 5) rfl rfl, dm_preU hK hP hD hC.2.2.2.2.2.2.2 [5, 6] (by decide) rfl⟩ rfl rfl (Nat.le_of_ble_eq_true rfl) dX3_add_11 ⟨Nat.le_of_ble_eq_true rfl, Nat.le_of_ble_eq_true rfl⟩) hP hD hS hA [5, 6] [0, 1, 2, 3, 4, 7, 8, 9, 10, 11, 12] rfl rfl (by decide) (by decide) (fun r q H locs hw hP hD hS => ?_)
    obtain ⟨f2, u2⟩ := q
    have hP : va_P D vwCl [(h, .inr (3, [.ref hti, .ref hto, .ref hnu, .ref hsp, .ref hsq, .ref hsm, .long lv])), (hti, .inr (0, [.ref ati, .int (nI n)])), (ati, .inl (cB, 65536, .inl ft)), (hto, .inr (1, [.ref ato, .int (nI st)])), (ato, .inl (cB, 65536, .inl fx)), (hsp, .inr (2, [.ref asp, .int (nI us)])), (asp, .inl (cI, 2048, .inl fs)), (hsq, .inr (2, [.ref asq, .int (nI uq)])), (asq, .inl (cI, 2048, .inl fq)), (hsm, .inr (2, [.ref asm, .int (nI um)])), (asm, .inl (cI, 2, .inl fm)), (hnu, .inr (2, [.ref anu, .int (nI u2)])), (anu, .inl (cI, 2048, .inl f2))] H := hP
    have hD : va_D A [(h, .inr (3, [.ref hti, .ref hto, .ref hnu, .ref hsp, .ref hsq, .ref hsm, .long lv])), (hti, .inr (0, [.ref ati, .int (nI n)])), (ati, .inl (cB, 65536, .inl ft)), (hto, .inr (1, [.ref ato, .int (nI st)])), (ato, .inl (cB, 65536, .inl fx)), (hsp, .inr (2, [.ref asp, .int (nI us)])), (asp, .inl (cI, 2048, .inl fs)), (hsq, .inr (2, [.ref asq, .int (nI uq)])), (asq, .inl (cI, 2048, .inl fq)), (hsm, .inr (2, [.ref asm, .int (nI um)])), (asm, .inl (cI, 2, .inl fm)), (hnu, .inr (2, [.ref anu, .int (nI u2)])), (anu, .inl (cI, 2048, .inl f2))] := hD
    have hP := hP.sub (ws' := [(h, .inr (3, [.ref hti, .ref hto, .ref hnu, .ref hsp, .ref hsq, .ref hsm, .long lv])), (hti, .inr (0, [.ref ati, .int (nI n)])), (ati, .inl (cB, 65536, .inl ft)), (hto, .inr (1, [.ref ato, .int (nI st)])), (ato, .inl (cB, 65536, .inl fx)), (hnu, .inr (2, [.ref anu, .int (nI u2)])), (anu, .inl (cI, 2048, .inl f2)), (hsp, .inr (2, [.ref asp, .int (nI us)])), (asp, .inl (cI, 2048, .inl fs)), (hsq, .inr (2, [.ref asq, .int (nI uq)])), (asq, .inl (cI, 2048, .inl fq)), (hsm, .inr (2, [.ref asm, .int (nI um)])), (asm, .inl (cI, 2, .inl fm))]) [0, 1, 2, 3, 4, 11, 12, 5, 6, 7, 8, 9, 10] rfl
    have hD := hD.sub (ws' := [(h, .inr (3, [.ref hti, .ref hto, .ref hnu, .ref hsp, .ref hsq, .ref hsm, .long lv])), (hti, .inr (0, [.ref ati, .int (nI n)])), (ati, .inl (cB, 65536, .inl ft)), (hto, .inr (1, [.ref ato, .int (nI st)])), (ato, .inl (cB, 65536, .inl fx)), (hnu, .inr (2, [.ref anu, .int (nI u2)])), (anu, .inl (cI, 2048, .inl f2)), (hsp, .inr (2, [.ref asp, .int (nI us)])), (asp, .inl (cI, 2048, .inl fs)), (hsq, .inr (2, [.ref asq, .int (nI uq)])), (asq, .inl (cI, 2048, .inl fq)), (hsm, .inr (2, [.ref asm, .int (nI um)])), (asm, .inl (cI, 2, .inl fm))]) [0, 1, 2, 3, 4, 11, 12, 5, 6, 7, 8, 9, 10] (by decide) rfl
    refine lv_goto (tgt := 26) hx hb dX3_add_14 (by decide) ?_
    refine dm_zret hC ?_ hK (f2, u2) ⟨fun h9 => absurd h9 hc, fun _ => hw⟩ hP hD hS dX3_add_26
    rcases Nat.lt_or_ge (dvb 4294967296 fN uN) (4294967296 - un v) with h9 | h9
    · exact Or.inl (hw.2 h9).1
    · exact Or.inr (hw.1 h9).1
end
section
/-! what read answers and what the number becomes -/
def rdA (r n : Nat) (T : Nat → Nat) : Int32 := if n = 0 then 0 else if fo r T 0 n < n then nI (fo r T 0 n) else if hn r T 0 n < 4294967296 ^ 2048 then -1 else -2
def rdV (r n : Nat) (T : Nat → Nat) (V : Nat) : Nat := if n = 0 then V else if fo r T 0 n < n then V else if hn r T 0 n < 4294967296 ^ 2048 then hn r T 0 n else V
theorem nrm_congr {f g : Nat → Int32} {u : Nat} (h : ∀ j, j < u → g j = f j) (hn : nrm f u) : nrm g u := fun k hk => by
  rw [h k (by omega)]
  exact hn k hk

set_option maxRecDepth 100000 in
set_option maxHeartbeats 4000000 in
theorem c_X3_readNumber (l : Launch) (D : va_G) (cB cI cC : ClassId) (h hti ati hto ato hnu anu hsp asp hsq asq hsm asm n st uN us uq um : Nat) (ft fx fN fs fq fm : Nat → Int32) (lv : Int64) (r : Nat) (T : Nat → Nat) (hn6 : n ≤ 65536) (hr2 : 2 ≤ r) (hr36 : r ≤ 36) (htx : txt n T ft) (huN : uN ≤ 2048) (hnr : nrm fN uN) : MI l yX3_readNumber (Cond.code yX3_readNumber cX3_readNumber 3 (some .int)) 3 D (TY cB cI cC) [.ref h, .int (nI r)] [(h, .inr (3, [.ref hti, .ref hto, .ref hnu, .ref hsp, .ref hsq, .ref hsm, .long lv])), (hti, .inr (0, [.ref ati, .int (nI n)])), (ati, .inl (cB, 65536, .inl ft)), (hto, .inr (1, [.ref ato, .int (nI st)])), (ato, .inl (cB, 65536, .inl fx)), (hnu, .inr (2, [.ref anu, .int (nI uN)])), (anu, .inl (cI, 2048, .inl fN)), (hsp, .inr (2, [.ref asp, .int (nI us)])), (asp, .inl (cI, 2048, .inl fs)), (hsq, .inr (2, [.ref asq, .int (nI uq)])), (asq, .inl (cI, 2048, .inl fq)), (hsm, .inr (2, [.ref asm, .int (nI um)])), (asm, .inl (cI, 2, .inl fm))] (S := (Nat → Int32) × Nat × (Nat → Int32) × Nat) (fun b q => b = rdA r n T ∧ q.2.2.2 ≤ 2048 ∧ nrm q.2.2.1 q.2.2.2 ∧ dvb 4294967296 q.2.2.1 q.2.2.2 = rdV r n T (dvb 4294967296 fN uN)) (fun q => [(h, .inr (3, [.ref hti, .ref hto, .ref hnu, .ref hsp, .ref hsq, .ref hsm, .long lv])), (hti, .inr (0, [.ref ati, .int (nI n)])), (ati, .inl (cB, 65536, .inl ft)), (hto, .inr (1, [.ref ato, .int (nI st)])), (ato, .inl (cB, 65536, .inl fx)), (hnu, .inr (2, [.ref anu, .int (nI q.2.2.2)])), (anu, .inl (cI, 2048, .inl q.2.2.1)), (hsp, .inr (2, [.ref asp, .int (nI q.2.1)])), (asp, .inl (cI, 2048, .inl q.1)), (hsq, .inr (2, [.ref asq, .int (nI uq)])), (asq, .inl (cI, 2048, .inl fq)), (hsm, .inr (2, [.ref asm, .int (nI um)])), (asm, .inl (cI, 2, .inl fm))]) := by
  refine MI.of (by decide) (Nat.le_of_ble_eq_true rfl) ?_
  intro p e s m below meth c ls A hC hA hP hK hD hS hl
  obtain ⟨hx, hb, hr, hml, hown, hts, hlocks, hN⟩ := id hC
  have hown : s.vm.findClass RX3 = some m.cls := hown
  have hl : lv_has ls 3 [(0, .ref h), (1, .int (nI r))] := hl
  refine lv_aload_n hx hb dX3_readNumber_0 rfl (lv_at hl 0 rfl) ?_
  refine va_get (D := D) (ci := 3) (C := RX3) (T := TX3) (N := 7) (v := .ref hti) hx hb hts kin_X3_w hown hK hP 0 rfl rfl 0 (by decide) (hts _ kfl_X3_10) (fun _ h9 => h9) rfl dX3_readNumber_1 ?_
  refine lv_iconst (v := nI 0) hx hb dX3_readNumber_4 (by decide) ?_
  refine lv_iload_n hx hb dX3_readNumber_5 rfl (lv_at hl 1 rfl) ?_
  refine dm_gori (dm_rVN (n := 2) (As := [.int (nI 0), .int (nI r)]) (rest := []) hC hl (c_X0_firstOther l D cB cI cC hti ati n 0 r T ft hn6 (Nat.zero_le _) hr36 htx s.heap.size) kco_X0_firstOther ki_X0 kim_X0_firstOther kse_X0_firstOther knl_X3_114 (by decide +kernel) ⟨Nat.le_of_ble_eq_true rfl, Nat.le_of_ble_eq_true rfl⟩ rfl rfl ⟨dm_blind, va_recv hK hP (ci := 0) (q0 := 1) rfl rfl, dm_preU hK hP hD hC.2.2.2.2.2.2.2 [1, 2] (by decide) rfl⟩ rfl rfl (Nat.le_of_ble_eq_true rfl) dX3_readNumber_6 ⟨Nat.le_of_ble_eq_true rfl, Nat.le_of_ble_eq_true rfl⟩) (fun r1 e1 => ?_)
  rw [Nat.sub_zero] at e1
  subst e1
  have hfo := fo_le (r := r) (T := T) (k := n) (i := 0)
  refine lv_istore_n (lv' := [(2, .int (nI (fo r T 0 n))), (0, .ref h), (1, .int (nI r))]) hx hb dX3_readNumber_9 rfl hl (by decide) rfl (fun ls hl => ?_)
  refine lv_aload_n hx hb dX3_readNumber_10 rfl (lv_at hl 1 rfl) ?_
  refine va_get (D := D) (ci := 3) (C := RX3) (T := TX3) (N := 7) (v := .ref hti) hx hb hts kin_X3_w hown hK hP 0 rfl rfl 0 (by decide) (hts _ kfl_X3_10) (fun _ h9 => h9) rfl dX3_readNumber_11 ?_
  refine dm_gori (dm_rVN (n := 0) (As := []) (rest := []) hC hl (c_X0_size l D cB cI cC hti ati n ft s.heap.size) kco_X0_size ki_X0 kim_X0_size kse_X0_size knl_X3_113 (by decide +kernel) ⟨Nat.le_of_ble_eq_true rfl, Nat.le_of_ble_eq_true rfl⟩ rfl rfl ⟨dm_blind, va_recv hK hP (ci := 0) (q0 := 1) rfl rfl, dm_preU hK hP hD hC.2.2.2.2.2.2.2 [1, 2] (by decide) rfl⟩ rfl rfl (Nat.le_of_ble_eq_true rfl) dX3_readNumber_14 ⟨Nat.le_of_ble_eq_true rfl, Nat.le_of_ble_eq_true rfl⟩) (fun z1 hs => ?_)
  subst hs
  refine dm_if_eq (tgt := 31) hx hb (by omega) dX3_readNumber_17 (by decide) (fun hc => ?_) (fun hc => ?_)
  · refine lv_iload_n hx hb dX3_readNumber_31 rfl (lv_at hl 0 rfl) ?_
    exact dm_iret hC hK (fs, us, fN, uN) ⟨by unfold rdA; rw [if_pos hc]; rw [show fo r T 0 n = 0 by omega]; rfl, huN, hnr, by unfold rdV; rw [if_pos hc]⟩ hP hD hS dX3_readNumber_32
  · refine lv_iload_n hx hb dX3_readNumber_20 rfl (lv_at hl 0 rfl) ?_
    refine lv_aload_n hx hb dX3_readNumber_21 rfl (lv_at hl 1 rfl) ?_
    refine va_get (D := D) (ci := 3) (C := RX3) (T := TX3) (N := 7) (v := .ref hti) hx hb hts kin_X3_w hown hK hP 0 rfl rfl 0 (by decide) (hts _ kfl_X3_10) (fun _ h9 => h9) rfl dX3_readNumber_22 ?_
    refine dm_gori (dm_rVN (n := 0) (As := []) (rest := [.int (nI (fo r T 0 n))]) hC hl (c_X0_size l D cB cI cC hti ati n ft s.heap.size) kco_X0_size ki_X0 kim_X0_size kse_X0_size knl_X3_113 (by decide +kernel) ⟨Nat.le_of_ble_eq_true rfl, Nat.le_of_ble_eq_true rfl⟩ rfl rfl ⟨dm_blind, va_recv hK hP (ci := 0) (q0 := 1) rfl rfl, dm_preU hK hP hD hC.2.2.2.2.2.2.2 [1, 2] (by decide) rfl⟩ rfl rfl (Nat.le_of_ble_eq_true rfl) dX3_readNumber_25 ⟨Nat.le_of_ble_eq_true rfl, Nat.le_of_ble_eq_true rfl⟩) (fun z2 hs => ?_)
    subst hs
    refine dm_icmp_ge (tgt := 33) hx hb (by omega) (by omega) dX3_readNumber_28 (by decide) (fun hd => ?_) (fun hd => ?_)
    · have hall := fo_all (r := r) (T := T) (k := n) (i := 0) (by omega)
      rw [Nat.zero_add] at hall
      refine lv_aload_n hx hb dX3_readNumber_33 rfl (lv_at hl 1 rfl) ?_
      refine va_get (D := D) (ci := 3) (C := RX3) (T := TX3) (N := 7) (v := .ref hsp) hx hb hts kin_X3_w hown hK hP 0 rfl rfl 3 (by decide) (hts _ kfl_X3_32) (fun _ h9 => h9) rfl dX3_readNumber_34 ?_
      refine lv_aload_n hx hb dX3_readNumber_37 rfl (lv_at hl 1 rfl) ?_
      refine va_get (D := D) (ci := 3) (C := RX3) (T := TX3) (N := 7) (v := .ref hti) hx hb hts kin_X3_w hown hK hP 0 rfl rfl 0 (by decide) (hts _ kfl_X3_10) (fun _ h9 => h9) rfl dX3_readNumber_38 ?_
      refine lv_iconst (v := nI 0) hx hb dX3_readNumber_41 (by decide) ?_
      refine lv_iload_n hx hb dX3_readNumber_42 rfl (lv_at hl 2 rfl) ?_
      refine dm_goi (wr := [(h, .inr (3, [.ref hti, .ref hto, .ref hnu, .ref hsp, .ref hsq, .ref hsm, .long lv])), (hto, .inr (1, [.ref ato, .int (nI st)])), (ato, .inl (cB, 65536, .inl fx)), (hnu, .inr (2, [.ref anu, .int (nI uN)])), (anu, .inl (cI, 2048, .inl fN)), (hsq, .inr (2, [.ref asq, .int (nI uq)])), (asq, .inl (cI, 2048, .inl fq)), (hsm, .inr (2, [.ref asm, .int (nI um)])), (asm, .inl (cI, 2, .inl fm))]) (dm_rVN (n := 3) (As := [.ref hti, .int (nI 0), .int (nI r)]) (rest := []) hC hl (c_X2_becomeDigitsOf l D cB cI cC hsp asp hti ati 2048 us n 0 r T fs ft (by decide) hn6 (Nat.zero_le _) hr2 hr36 htx hall s.heap.size) kco_X2_becomeDigitsOf ki_X2 kim_X2_becomeDigitsOf kse_X2_becomeDigitsOf knl_X3_118 (by decide +kernel) ⟨Nat.le_of_ble_eq_true rfl, Nat.le_of_ble_eq_true rfl⟩ rfl rfl ⟨dm_blind, va_recv hK hP (ci := 2) (q0 := 7) rfl rfl, dm_preU hK hP hD hC.2.2.2.2.2.2.2 [7, 8, 1, 2] (by decide) rfl⟩ rfl rfl (Nat.le_of_ble_eq_true rfl) dX3_readNumber_43 ⟨Nat.le_of_ble_eq_true rfl, Nat.le_of_ble_eq_true rfl⟩) hP hD hS hA [7, 8, 1, 2] [0, 3, 4, 5, 6, 9, 10, 11, 12] rfl rfl (by decide) (by decide) (fun rb q H locs hw hP hD hS => ?_)
      obtain ⟨f2, u2⟩ := q
      have hP : va_P D vwCl [(h, .inr (3, [.ref hti, .ref hto, .ref hnu, .ref hsp, .ref hsq, .ref hsm, .long lv])), (hto, .inr (1, [.ref ato, .int (nI st)])), (ato, .inl (cB, 65536, .inl fx)), (hnu, .inr (2, [.ref anu, .int (nI uN)])), (anu, .inl (cI, 2048, .inl fN)), (hsq, .inr (2, [.ref asq, .int (nI uq)])), (asq, .inl (cI, 2048, .inl fq)), (hsm, .inr (2, [.ref asm, .int (nI um)])), (asm, .inl (cI, 2, .inl fm)), (hsp, .inr (2, [.ref asp, .int (nI u2)])), (asp, .inl (cI, 2048, .inl f2)), (hti, .inr (0, [.ref ati, .int (nI n)])), (ati, .inl (cB, 65536, .inl ft))] H := hP
      have hD : va_D A [(h, .inr (3, [.ref hti, .ref hto, .ref hnu, .ref hsp, .ref hsq, .ref hsm, .long lv])), (hto, .inr (1, [.ref ato, .int (nI st)])), (ato, .inl (cB, 65536, .inl fx)), (hnu, .inr (2, [.ref anu, .int (nI uN)])), (anu, .inl (cI, 2048, .inl fN)), (hsq, .inr (2, [.ref asq, .int (nI uq)])), (asq, .inl (cI, 2048, .inl fq)), (hsm, .inr (2, [.ref asm, .int (nI um)])), (asm, .inl (cI, 2, .inl fm)), (hsp, .inr (2, [.ref asp, .int (nI u2)])), (asp, .inl (cI, 2048, .inl f2)), (hti, .inr (0, [.ref ati, .int (nI n)])), (ati, .inl (cB, 65536, .inl ft))] := hD
      have hP := hP.sub (ws' := [(h, .inr (3, [.ref hti, .ref hto, .ref hnu, .ref hsp, .ref hsq, .ref hsm, .long lv])), (hti, .inr (0, [.ref ati, .int (nI n)])), (ati, .inl (cB, 65536, .inl ft)), (hto, .inr (1, [.ref ato, .int (nI st)])), (ato, .inl (cB, 65536, .inl fx)), (hnu, .inr (2, [.ref anu, .int (nI uN)])), (anu, .inl (cI, 2048, .inl fN)), (hsp, .inr (2, [.ref asp, .int (nI u2)])), (asp, .inl (cI, 2048, .inl f2)), (hsq, .inr (2, [.ref asq, .int (nI uq)])), (asq, .inl (cI, 2048, .inl fq)), (hsm, .inr (2, [.ref asm, .int (nI um)])), (asm, .inl (cI, 2, .inl fm))]) [0, 11, 12, 1, 2, 3, 4, 9, 10, 5, 6, 7, 8] rfl
      have hD := hD.sub (ws' := [(h, .inr (3, [.ref hti, .ref hto, .ref hnu, .ref hsp, .ref hsq, .ref hsm, .long lv])), (hti, .inr (0, [.ref ati, .int (nI n)])), (ati, .inl (cB, 65536, .inl ft)), (hto, .inr (1, [.ref ato, .int (nI st)])), (ato, .inl (cB, 65536, .inl fx)), (hnu, .inr (2, [.ref anu, .int (nI uN)])), (anu, .inl (cI, 2048, .inl fN)), (hsp, .inr (2, [.ref asp, .int (nI u2)])), (asp, .inl (cI, 2048, .inl f2)), (hsq, .inr (2, [.ref asq, .int (nI uq)])), (asq, .inl (cI, 2048, .inl fq)), (hsm, .inr (2, [.ref asm, .int (nI um)])), (asm, .inl (cI, 2, .inl fm))]) [0, 11, 12, 1, 2, 3, 4, 9, 10, 5, 6, 7, 8] (by decide) rfl
      rw [Nat.sub_zero] at hw
      dsimp only at hw
      refine lv_if_ne (tgt := 52) hx hb dX3_readNumber_46 (by decide) (fun hb1 => ?_) (fun hb1 => ?_)
      · have hw1 := hw.resolve_right (fun h9 => hb1 h9.1)
        have hfit : hn r T 0 n < 4294967296 ^ 2048 := by rw [← hw1.2.2.1]; exact Nat.lt_of_lt_of_le (dv32_lt f2 u2) (Nat.pow_le_pow_right (by decide) hw1.2.1)
        refine lv_aload_n hx hb dX3_readNumber_52 rfl (lv_at hl 1 rfl) ?_
        refine va_get (D := D) (ci := 3) (C := RX3) (T := TX3) (N := 7) (v := .ref hnu) hx hb hts kin_X3_w hown hK hP 0 rfl rfl 2 (by decide) (hts _ kfl_X3_28) (fun _ h9 => h9) rfl dX3_readNumber_53 ?_
        refine lv_aload_n hx hb dX3_readNumber_56 rfl (lv_at hl 1 rfl) ?_
        refine va_get (D := D) (ci := 3) (C := RX3) (T := TX3) (N := 7) (v := .ref hsp) hx hb hts kin_X3_w hown hK hP 0 rfl rfl 3 (by decide) (hts _ kfl_X3_32) (fun _ h9 => h9) rfl dX3_readNumber_57 ?_
        refine dm_gov (wr := [(h, .inr (3, [.ref hti, .ref hto, .ref hnu, .ref hsp, .ref hsq, .ref hsm, .long lv])), (hti, .inr (0, [.ref ati, .int (nI n)])), (ati, .inl (cB, 65536, .inl ft)), (hto, .inr (1, [.ref ato, .int (nI st)])), (ato, .inl (cB, 65536, .inl fx)), (hsq, .inr (2, [.ref asq, .int (nI uq)])), (asq, .inl (cI, 2048, .inl fq)), (hsm, .inr (2, [.ref asm, .int (nI um)])), (asm, .inl (cI, 2, .inl fm))]) (dm_rVN (n := 1) (As := [.ref hsp]) (rest := []) hC hl (c_X2_becomeCopyOf l D cB cI cC hnu anu hsp asp 2048 uN u2 fN f2 hw1.2.1 (by decide) H.size) kco_X2_becomeCopyOf ki_X2 kim_X2_becomeCopyOf kse_X2_becomeCopyOf knl_X3_64 (by decide +kernel) ⟨Nat.le_of_ble_eq_true rfl, Nat.le_of_ble_eq_true rfl⟩ rfl rfl ⟨dm_blind, va_recv hK hP (ci := 2) (q0 := 5) rfl rfl, dm_preU hK hP hD hC.2.2.2.2.2.2.2 [5, 6, 7, 8] (by decide) rfl⟩ rfl rfl (Nat.le_of_ble_eq_true rfl) dX3_readNumber_60 ⟨Nat.le_of_ble_eq_true rfl, Nat.le_of_ble_eq_true rfl⟩) hP hD hS hA [5, 6, 7, 8] [0, 1, 2, 3, 4, 9, 10, 11, 12] rfl rfl (by decide) (by decide) (fun g2 H locs hg hP hD hS => ?_)
        have hP : va_P D vwCl [(h, .inr (3, [.ref hti, .ref hto, .ref hnu, .ref hsp, .ref hsq, .ref hsm, .long lv])), (hti, .inr (0, [.ref ati, .int (nI n)])), (ati, .inl (cB, 65536, .inl ft)), (hto, .inr (1, [.ref ato, .int (nI st)])), (ato, .inl (cB, 65536, .inl fx)), (hsq, .inr (2, [.ref asq, .int (nI uq)])), (asq, .inl (cI, 2048, .inl fq)), (hsm, .inr (2, [.ref asm, .int (nI um)])), (asm, .inl (cI, 2, .inl fm)), (hnu, .inr (2, [.ref anu, .int (nI u2)])), (anu, .inl (cI, 2048, .inl g2)), (hsp, .inr (2, [.ref asp, .int (nI u2)])), (asp, .inl (cI, 2048, .inl f2))] H := hP
        have hD : va_D A [(h, .inr (3, [.ref hti, .ref hto, .ref hnu, .ref hsp, .ref hsq, .ref hsm, .long lv])), (hti, .inr (0, [.ref ati, .int (nI n)])), (ati, .inl (cB, 65536, .inl ft)), (hto, .inr (1, [.ref ato, .int (nI st)])), (ato, .inl (cB, 65536, .inl fx)), (hsq, .inr (2, [.ref asq, .int (nI uq)])), (asq, .inl (cI, 2048, .inl fq)), (hsm, .inr (2, [.ref asm, .int (nI um)])), (asm, .inl (cI, 2, .inl fm)), (hnu, .inr (2, [.ref anu, .int (nI u2)])), (anu, .inl (cI, 2048, .inl g2)), (hsp, .inr (2, [.ref asp, .int (nI u2)])), (asp, .inl (cI, 2048, .inl f2))] := hD
        have hP := hP.sub (ws' := [(h, .inr (3, [.ref hti, .ref hto, .ref hnu, .ref hsp, .ref hsq, .ref hsm, .long lv])), (hti, .inr (0, [.ref ati, .int (nI n)])), (ati, .inl (cB, 65536, .inl ft)), (hto, .inr (1, [.ref ato, .int (nI st)])), (ato, .inl (cB, 65536, .inl fx)), (hnu, .inr (2, [.ref anu, .int (nI u2)])), (anu, .inl (cI, 2048, .inl g2)), (hsp, .inr (2, [.ref asp, .int (nI u2)])), (asp, .inl (cI, 2048, .inl f2)), (hsq, .inr (2, [.ref asq, .int (nI uq)])), (asq, .inl (cI, 2048, .inl fq)), (hsm, .inr (2, [.ref asm, .int (nI um)])), (asm, .inl (cI, 2, .inl fm))]) [0, 1, 2, 3, 4, 9, 10, 11, 12, 5, 6, 7, 8] rfl
        have hD := hD.sub (ws' := [(h, .inr (3, [.ref hti, .ref hto, .ref hnu, .ref hsp, .ref hsq, .ref hsm, .long lv])), (hti, .inr (0, [.ref ati, .int (nI n)])), (ati, .inl (cB, 65536, .inl ft)), (hto, .inr (1, [.ref ato, .int (nI st)])), (ato, .inl (cB, 65536, .inl fx)), (hnu, .inr (2, [.ref anu, .int (nI u2)])), (anu, .inl (cI, 2048, .inl g2)), (hsp, .inr (2, [.ref asp, .int (nI u2)])), (asp, .inl (cI, 2048, .inl f2)), (hsq, .inr (2, [.ref asq, .int (nI uq)])), (asq, .inl (cI, 2048, .inl fq)), (hsm, .inr (2, [.ref asm, .int (nI um)])), (asm, .inl (cI, 2, .inl fm))]) [0, 1, 2, 3, 4, 9, 10, 11, 12, 5, 6, 7, 8] (by decide) rfl
        refine lv_iconst (v := -1) hx hb dX3_readNumber_63 (by decide) ?_
        exact dm_iret hC hK (f2, u2, g2, u2) ⟨by unfold rdA; rw [if_neg hc, if_neg (by omega), if_pos hfit], hw1.2.1, nrm_congr hg hw1.2.2.2, by show dvb _ g2 u2 = _; unfold rdV; rw [if_neg hc, if_neg (by omega), if_pos hfit, dvb_congr hg]; exact hw1.2.2.1⟩ hP hD hS dX3_readNumber_64
      · have hw1 := hw.resolve_left (fun h9 => absurd (hb1.symm.trans h9.1) (by decide))
        have hfit : ¬ hn r T 0 n < 4294967296 ^ 2048 := Nat.not_lt.mpr hw1.2.2
        refine lv_bipush (v := -2) hx hb dX3_readNumber_49 (by decide) ?_
        exact dm_iret hC hK (f2, u2, fN, uN) ⟨by unfold rdA; rw [if_neg hc, if_neg (by omega), if_neg hfit], huN, hnr, by unfold rdV; rw [if_neg hc, if_neg (by omega), if_neg hfit]⟩ hP hD hS dX3_readNumber_51
    · refine lv_iload_n hx hb dX3_readNumber_31 rfl (lv_at hl 0 rfl) ?_
      exact dm_iret hC hK (fs, us, fN, uN) ⟨by unfold rdA; rw [if_neg hc, if_pos hd], huN, hnr, by unfold rdV; rw [if_neg hc, if_pos hd]⟩ hP hD hS dX3_readNumber_32

set_option maxRecDepth 100000 in
set_option maxHeartbeats 4000000 in
theorem c_X3_read (l : Launch) (D : va_G) (cB cI cC : ClassId) (h hti ati hto ato hnu anu hsp asp hsq asq hsm asm n st uN us uq um : Nat) (ft fx fN fs fq fm : Nat → Int32) (lv : Int64) (x : Int32) (T : Nat → Nat) (hn6 : n ≤ 65536) (htx : txt n T ft) (huN : uN ≤ 2048) (hnr : nrm fN uN) : MI l yX3_read (Cond.code yX3_read cX3_read 3 (some .int)) 4 D (TY cB cI cC) [.ref h, .int x] [(h, .inr (3, [.ref hti, .ref hto, .ref hnu, .ref hsp, .ref hsq, .ref hsm, .long lv])), (hti, .inr (0, [.ref ati, .int (nI n)])), (ati, .inl (cB, 65536, .inl ft)), (hto, .inr (1, [.ref ato, .int (nI st)])), (ato, .inl (cB, 65536, .inl fx)), (hnu, .inr (2, [.ref anu, .int (nI uN)])), (anu, .inl (cI, 2048, .inl fN)), (hsp, .inr (2, [.ref asp, .int (nI us)])), (asp, .inl (cI, 2048, .inl fs)), (hsq, .inr (2, [.ref asq, .int (nI uq)])), (asq, .inl (cI, 2048, .inl fq)), (hsm, .inr (2, [.ref asm, .int (nI um)])), (asm, .inl (cI, 2, .inl fm))] (S := (Nat → Int32) × Nat × (Nat → Int32) × Nat × Nat) (fun b q => q.2.2.2.1 ≤ 2048 ∧ nrm q.2.2.1 q.2.2.2.1 ∧ ((¬ isR x ∧ b = -3 ∧ q.2.2.2.2 = n ∧ dvb 4294967296 q.2.2.1 q.2.2.2.1 = dvb 4294967296 fN uN) ∨ (∃ r, 2 ≤ r ∧ r ≤ 36 ∧ x = nI r ∧ b = rdA r n T ∧ q.2.2.2.2 = 0 ∧ dvb 4294967296 q.2.2.1 q.2.2.2.1 = rdV r n T (dvb 4294967296 fN uN)))) (fun q => [(h, .inr (3, [.ref hti, .ref hto, .ref hnu, .ref hsp, .ref hsq, .ref hsm, .long lv])), (hti, .inr (0, [.ref ati, .int (nI q.2.2.2.2)])), (ati, .inl (cB, 65536, .inl ft)), (hto, .inr (1, [.ref ato, .int (nI st)])), (ato, .inl (cB, 65536, .inl fx)), (hnu, .inr (2, [.ref anu, .int (nI q.2.2.2.1)])), (anu, .inl (cI, 2048, .inl q.2.2.1)), (hsp, .inr (2, [.ref asp, .int (nI q.2.1)])), (asp, .inl (cI, 2048, .inl q.1)), (hsq, .inr (2, [.ref asq, .int (nI uq)])), (asq, .inl (cI, 2048, .inl fq)), (hsm, .inr (2, [.ref asm, .int (nI um)])), (asm, .inl (cI, 2, .inl fm))]) := by
  refine MI.of (by decide) (Nat.le_of_ble_eq_true rfl) ?_
  intro p e s m below meth c ls A hC hA hP hK hD hS hl
  obtain ⟨hx, hb, hr, hml, hown, hts, hlocks, hN⟩ := id hC
  have hown : s.vm.findClass RX3 = some m.cls := hown
  have hl : lv_has ls 3 [(0, .ref h), (1, .int x)] := hl
  refine lv_iload_n hx hb dX3_read_0 rfl (lv_at hl 1 rfl) ?_
  refine dm_gori (dm_rS (n := 1) (As := [.int x]) (rest := []) hC hl (c_X3_isRadix l D cB cI cC x s.heap.size) kco_X3_isRadix ki_X3 kst_X3_isRadix kml_X3_53 (by decide +kernel) ⟨Nat.le_of_ble_eq_true rfl, Nat.le_of_ble_eq_true rfl⟩ rfl rfl ⟨dm_blind, dm_preU hK hP hD hC.2.2.2.2.2.2.2 [] (by decide) rfl⟩ rfl rfl (Nat.le_of_ble_eq_true rfl) dX3_read_1 ⟨Nat.le_of_ble_eq_true rfl, Nat.le_of_ble_eq_true rfl⟩) (fun r1 e1 => ?_)
  refine lv_if_ne (tgt := 10) hx hb dX3_read_4 (by decide) (fun hc => ?_) (fun hc => ?_)
  · obtain ⟨⟨r, hr2, hr36, rfl⟩, -⟩ := e1.resolve_right (fun h9 => hc h9.2)
    refine lv_aload_n hx hb dX3_read_10 rfl (lv_at hl 0 rfl) ?_
    refine lv_iload_n hx hb dX3_read_11 rfl (lv_at hl 1 rfl) ?_
    refine dm_goi (wr := []) (dm_rV (n := 1) (As := [.int (nI r)]) (rest := []) hC hl (c_X3_readNumber l D cB cI cC h hti ati hto ato hnu anu hsp asp hsq asq hsm asm n st uN us uq um ft fx fN fs fq fm lv r T hn6 hr2 hr36 htx huN hnr s.heap.size) kco_X3_readNumber ki_X3 kim_X3_readNumber kse_X3_readNumber kml_X3_57 (by decide +kernel) ⟨Nat.le_of_ble_eq_true rfl, Nat.le_of_ble_eq_true rfl⟩ rfl rfl ⟨dm_blind, va_recv hK hP (ci := 3) (q0 := 0) rfl rfl, dm_preU hK hP hD hC.2.2.2.2.2.2.2 [0, 1, 2, 3, 4, 5, 6, 7, 8, 9, 10, 11, 12] (by decide) rfl⟩ rfl rfl (Nat.le_of_ble_eq_true rfl) dX3_read_12 ⟨Nat.le_of_ble_eq_true rfl, Nat.le_of_ble_eq_true rfl⟩) hP hD hS hA [0, 1, 2, 3, 4, 5, 6, 7, 8, 9, 10, 11, 12] [] rfl rfl (by decide) (by decide) (fun rb q H locs hw hP hD hS => ?_)
    obtain ⟨fs2, us2, fN2, uN2⟩ := q
    have hP : va_P D vwCl [(h, .inr (3, [.ref hti, .ref hto, .ref hnu, .ref hsp, .ref hsq, .ref hsm, .long lv])), (hti, .inr (0, [.ref ati, .int (nI n)])), (ati, .inl (cB, 65536, .inl ft)), (hto, .inr (1, [.ref ato, .int (nI st)])), (ato, .inl (cB, 65536, .inl fx)), (hnu, .inr (2, [.ref anu, .int (nI uN2)])), (anu, .inl (cI, 2048, .inl fN2)), (hsp, .inr (2, [.ref asp, .int (nI us2)])), (asp, .inl (cI, 2048, .inl fs2)), (hsq, .inr (2, [.ref asq, .int (nI uq)])), (asq, .inl (cI, 2048, .inl fq)), (hsm, .inr (2, [.ref asm, .int (nI um)])), (asm, .inl (cI, 2, .inl fm))] H := hP
    have hD : va_D A [(h, .inr (3, [.ref hti, .ref hto, .ref hnu, .ref hsp, .ref hsq, .ref hsm, .long lv])), (hti, .inr (0, [.ref ati, .int (nI n)])), (ati, .inl (cB, 65536, .inl ft)), (hto, .inr (1, [.ref ato, .int (nI st)])), (ato, .inl (cB, 65536, .inl fx)), (hnu, .inr (2, [.ref anu, .int (nI uN2)])), (anu, .inl (cI, 2048, .inl fN2)), (hsp, .inr (2, [.ref asp, .int (nI us2)])), (asp, .inl (cI, 2048, .inl fs2)), (hsq, .inr (2, [.ref asq, .int (nI uq)])), (asq, .inl (cI, 2048, .inl fq)), (hsm, .inr (2, [.ref asm, .int (nI um)])), (asm, .inl (cI, 2, .inl fm))] := hD
    obtain ⟨w1, w2, w3, w4⟩ := hw
    dsimp only at w2 w3 w4
    refine lv_istore_n (lv' := [(2, .int rb), (0, .ref h), (1, .int (nI r))]) hx hb dX3_read_15 rfl hl (by decide) rfl (fun ls hl => ?_)
    refine lv_aload_n hx hb dX3_read_16 rfl (lv_at hl 1 rfl) ?_
    refine va_get (D := D) (ci := 3) (C := RX3) (T := TX3) (N := 7) (v := .ref hti) hx hb hts kin_X3_w hown hK hP 0 rfl rfl 0 (by decide) (hts _ kfl_X3_10) (fun _ h9 => h9) rfl dX3_read_17 ?_
    refine dm_gov (wr := [(h, .inr (3, [.ref hti, .ref hto, .ref hnu, .ref hsp, .ref hsq, .ref hsm, .long lv])), (hto, .inr (1, [.ref ato, .int (nI st)])), (ato, .inl (cB, 65536, .inl fx)), (hnu, .inr (2, [.ref anu, .int (nI uN2)])), (anu, .inl (cI, 2048, .inl fN2)), (hsp, .inr (2, [.ref asp, .int (nI us2)])), (asp, .inl (cI, 2048, .inl fs2)), (hsq, .inr (2, [.ref asq, .int (nI uq)])), (asq, .inl (cI, 2048, .inl fq)), (hsm, .inr (2, [.ref asm, .int (nI um)])), (asm, .inl (cI, 2, .inl fm))]) (dm_rVN (n := 0) (As := []) (rest := []) hC hl (c_X0_clear l D cB cI cC hti ati n ft H.size) kco_X0_clear ki_X0 kim_X0_clear kse_X0_clear knl_X3_61 (by decide +kernel) ⟨Nat.le_of_ble_eq_true rfl, Nat.le_of_ble_eq_true rfl⟩ rfl rfl ⟨dm_blind, va_recv hK hP (ci := 0) (q0 := 1) rfl rfl, dm_preU hK hP hD hC.2.2.2.2.2.2.2 [1, 2] (by decide) rfl⟩ rfl rfl (Nat.le_of_ble_eq_true rfl) dX3_read_20 ⟨Nat.le_of_ble_eq_true rfl, Nat.le_of_ble_eq_true rfl⟩) hP hD hS hA [1, 2] [0, 3, 4, 5, 6, 7, 8, 9, 10, 11, 12] rfl rfl (by decide) (by decide) (fun _ H locs _ hP hD hS => ?_)
    have hP : va_P D vwCl [(h, .inr (3, [.ref hti, .ref hto, .ref hnu, .ref hsp, .ref hsq, .ref hsm, .long lv])), (hto, .inr (1, [.ref ato, .int (nI st)])), (ato, .inl (cB, 65536, .inl fx)), (hnu, .inr (2, [.ref anu, .int (nI uN2)])), (anu, .inl (cI, 2048, .inl fN2)), (hsp, .inr (2, [.ref asp, .int (nI us2)])), (asp, .inl (cI, 2048, .inl fs2)), (hsq, .inr (2, [.ref asq, .int (nI uq)])), (asq, .inl (cI, 2048, .inl fq)), (hsm, .inr (2, [.ref asm, .int (nI um)])), (asm, .inl (cI, 2, .inl fm)), (hti, .inr (0, [.ref ati, .int (nI 0)])), (ati, .inl (cB, 65536, .inl ft))] H := hP
    have hD : va_D A [(h, .inr (3, [.ref hti, .ref hto, .ref hnu, .ref hsp, .ref hsq, .ref hsm, .long lv])), (hto, .inr (1, [.ref ato, .int (nI st)])), (ato, .inl (cB, 65536, .inl fx)), (hnu, .inr (2, [.ref anu, .int (nI uN2)])), (anu, .inl (cI, 2048, .inl fN2)), (hsp, .inr (2, [.ref asp, .int (nI us2)])), (asp, .inl (cI, 2048, .inl fs2)), (hsq, .inr (2, [.ref asq, .int (nI uq)])), (asq, .inl (cI, 2048, .inl fq)), (hsm, .inr (2, [.ref asm, .int (nI um)])), (asm, .inl (cI, 2, .inl fm)), (hti, .inr (0, [.ref ati, .int (nI 0)])), (ati, .inl (cB, 65536, .inl ft))] := hD
    have hP := hP.sub (ws' := [(h, .inr (3, [.ref hti, .ref hto, .ref hnu, .ref hsp, .ref hsq, .ref hsm, .long lv])), (hti, .inr (0, [.ref ati, .int (nI 0)])), (ati, .inl (cB, 65536, .inl ft)), (hto, .inr (1, [.ref ato, .int (nI st)])), (ato, .inl (cB, 65536, .inl fx)), (hnu, .inr (2, [.ref anu, .int (nI uN2)])), (anu, .inl (cI, 2048, .inl fN2)), (hsp, .inr (2, [.ref asp, .int (nI us2)])), (asp, .inl (cI, 2048, .inl fs2)), (hsq, .inr (2, [.ref asq, .int (nI uq)])), (asq, .inl (cI, 2048, .inl fq)), (hsm, .inr (2, [.ref asm, .int (nI um)])), (asm, .inl (cI, 2, .inl fm))]) [0, 11, 12, 1, 2, 3, 4, 5, 6, 7, 8, 9, 10] rfl
    have hD := hD.sub (ws' := [(h, .inr (3, [.ref hti, .ref hto, .ref hnu, .ref hsp, .ref hsq, .ref hsm, .long lv])), (hti, .inr (0, [.ref ati, .int (nI 0)])), (ati, .inl (cB, 65536, .inl ft)), (hto, .inr (1, [.ref ato, .int (nI st)])), (ato, .inl (cB, 65536, .inl fx)), (hnu, .inr (2, [.ref anu, .int (nI uN2)])), (anu, .inl (cI, 2048, .inl fN2)), (hsp, .inr (2, [.ref asp, .int (nI us2)])), (asp, .inl (cI, 2048, .inl fs2)), (hsq, .inr (2, [.ref asq, .int (nI uq)])), (asq, .inl (cI, 2048, .inl fq)), (hsm, .inr (2, [.ref asm, .int (nI um)])), (asm, .inl (cI, 2, .inl fm))]) [0, 11, 12, 1, 2, 3, 4, 5, 6, 7, 8, 9, 10] (by decide) rfl
    refine lv_iload_n hx hb dX3_read_23 rfl (lv_at hl 0 rfl) ?_
    exact dm_iret hC hK (fs2, us2, fN2, uN2, 0) ⟨w2, w3, Or.inr ⟨r, hr2, hr36, rfl, w1, rfl, w4⟩⟩ hP hD hS dX3_read_24
  · have e2 := e1.resolve_left (fun h9 => absurd (hc.symm.trans h9.2) (by decide))
    refine lv_bipush (v := -3) hx hb dX3_read_7 (by decide) ?_
    exact dm_iret hC hK (fs, us, fN, uN, n) ⟨huN, hnr, Or.inl ⟨e2.1, rfl, rfl, rfl⟩⟩ hP hD hS dX3_read_9

set_option maxRecDepth 100000 in
set_option maxHeartbeats 4000000 in
theorem c_X3_write (l : Launch) (D : va_G) (cB cI cC : ClassId) (h hti ati hto ato hnu anu hsp asp hsq asq hsm asm n st uN us uq um : Nat) (ft fx fN fs fq fm : Nat → Int32) (lv : Int64) (x : Int32) (hst : st ≤ 65536) (huN : uN ≤ 2048) (hnr : nrm fN uN) (hV : ∀ r, 2 ≤ r → dvb 4294967296 fN uN < r ^ 65536) : MI l yX3_write (Cond.code yX3_write cX3_write 2 (some .int)) 3 D (TY cB cI cC) [.ref h, .int x] [(h, .inr (3, [.ref hti, .ref hto, .ref hnu, .ref hsp, .ref hsq, .ref hsm, .long lv])), (hti, .inr (0, [.ref ati, .int (nI n)])), (ati, .inl (cB, 65536, .inl ft)), (hto, .inr (1, [.ref ato, .int (nI st)])), (ato, .inl (cB, 65536, .inl fx)), (hnu, .inr (2, [.ref anu, .int (nI uN)])), (anu, .inl (cI, 2048, .inl fN)), (hsp, .inr (2, [.ref asp, .int (nI us)])), (asp, .inl (cI, 2048, .inl fs)), (hsq, .inr (2, [.ref asq, .int (nI uq)])), (asq, .inl (cI, 2048, .inl fq)), (hsm, .inr (2, [.ref asm, .int (nI um)])), (asm, .inl (cI, 2, .inl fm))] (S := (Nat → Int32) × Nat × (Nat → Int32) × Nat) (fun b q => q.2.1 ≤ 65536 ∧ ((¬ isR x ∧ b = -1 ∧ q.1 = fx ∧ q.2.1 = st) ∨ (∃ r, 2 ≤ r ∧ r ≤ 36 ∧ x = nI r ∧ b = nI (65536 - q.2.1) ∧ isND r (dvb 4294967296 fN uN) (65536 - q.2.1) ∧ ∀ i, i < 65536 - q.2.1 → q.1 (65535 - i) = nI (cdv (dvb 4294967296 fN uN / r ^ i % r))))) (fun q => [(h, .inr (3, [.ref hti, .ref hto, .ref hnu, .ref hsp, .ref hsq, .ref hsm, .long lv])), (hti, .inr (0, [.ref ati, .int (nI n)])), (ati, .inl (cB, 65536, .inl ft)), (hto, .inr (1, [.ref ato, .int (nI q.2.1)])), (ato, .inl (cB, 65536, .inl q.1)), (hnu, .inr (2, [.ref anu, .int (nI uN)])), (anu, .inl (cI, 2048, .inl fN)), (hsp, .inr (2, [.ref asp, .int (nI q.2.2.2)])), (asp, .inl (cI, 2048, .inl q.2.2.1)), (hsq, .inr (2, [.ref asq, .int (nI uq)])), (asq, .inl (cI, 2048, .inl fq)), (hsm, .inr (2, [.ref asm, .int (nI um)])), (asm, .inl (cI, 2, .inl fm))]) := by
  refine MI.of (by decide) (Nat.le_of_ble_eq_true rfl) ?_
  intro p e s m below meth c ls A hC hA hP hK hD hS hl
  obtain ⟨hx, hb, hr, hml, hown, hts, hlocks, hN⟩ := id hC
  have hown : s.vm.findClass RX3 = some m.cls := hown
  have hl : lv_has ls 2 [(0, .ref h), (1, .int x)] := hl
  refine lv_iload_n hx hb dX3_write_0 rfl (lv_at hl 1 rfl) ?_
  refine dm_gori (dm_rS (n := 1) (As := [.int x]) (rest := []) hC hl (c_X3_isRadix l D cB cI cC x s.heap.size) kco_X3_isRadix ki_X3 kst_X3_isRadix kml_X3_53 (by decide +kernel) ⟨Nat.le_of_ble_eq_true rfl, Nat.le_of_ble_eq_true rfl⟩ rfl rfl ⟨dm_blind, dm_preU hK hP hD hC.2.2.2.2.2.2.2 [] (by decide) rfl⟩ rfl rfl (Nat.le_of_ble_eq_true rfl) dX3_write_1 ⟨Nat.le_of_ble_eq_true rfl, Nat.le_of_ble_eq_true rfl⟩) (fun r1 e1 => ?_)
  refine lv_if_ne (tgt := 9) hx hb dX3_write_4 (by decide) (fun hc => ?_) (fun hc => ?_)
  · obtain ⟨⟨r, hr2, hr36, rfl⟩, -⟩ := e1.resolve_right (fun h9 => hc h9.2)
    refine lv_aload_n hx hb dX3_write_9 rfl (lv_at hl 0 rfl) ?_
    refine va_get (D := D) (ci := 3) (C := RX3) (T := TX3) (N := 7) (v := .ref hsp) hx hb hts kin_X3_w hown hK hP 0 rfl rfl 3 (by decide) (hts _ kfl_X3_32) (fun _ h9 => h9) rfl dX3_write_10 ?_
    refine lv_aload_n hx hb dX3_write_13 rfl (lv_at hl 0 rfl) ?_
    refine va_get (D := D) (ci := 3) (C := RX3) (T := TX3) (N := 7) (v := .ref hnu) hx hb hts kin_X3_w hown hK hP 0 rfl rfl 2 (by decide) (hts _ kfl_X3_28) (fun _ h9 => h9) rfl dX3_write_14 ?_
    refine dm_gov (wr := [(h, .inr (3, [.ref hti, .ref hto, .ref hnu, .ref hsp, .ref hsq, .ref hsm, .long lv])), (hti, .inr (0, [.ref ati, .int (nI n)])), (ati, .inl (cB, 65536, .inl ft)), (hto, .inr (1, [.ref ato, .int (nI st)])), (ato, .inl (cB, 65536, .inl fx)), (hsq, .inr (2, [.ref asq, .int (nI uq)])), (asq, .inl (cI, 2048, .inl fq)), (hsm, .inr (2, [.ref asm, .int (nI um)])), (asm, .inl (cI, 2, .inl fm))]) (dm_rVN (n := 1) (As := [.ref hnu]) (rest := []) hC hl (c_X2_becomeCopyOf l D cB cI cC hsp asp hnu anu 2048 us uN fs fN huN (by decide) s.heap.size) kco_X2_becomeCopyOf ki_X2 kim_X2_becomeCopyOf kse_X2_becomeCopyOf knl_X3_64 (by decide +kernel) ⟨Nat.le_of_ble_eq_true rfl, Nat.le_of_ble_eq_true rfl⟩ rfl rfl ⟨dm_blind, va_recv hK hP (ci := 2) (q0 := 7) rfl rfl, dm_preU hK hP hD hC.2.2.2.2.2.2.2 [7, 8, 5, 6] (by decide) rfl⟩ rfl rfl (Nat.le_of_ble_eq_true rfl) dX3_write_17 ⟨Nat.le_of_ble_eq_true rfl, Nat.le_of_ble_eq_true rfl⟩) hP hD hS hA [7, 8, 5, 6] [0, 1, 2, 3, 4, 9, 10, 11, 12] rfl rfl (by decide) (by decide) (fun g2 H locs hg hP hD hS => ?_)
    have hP : va_P D vwCl [(h, .inr (3, [.ref hti, .ref hto, .ref hnu, .ref hsp, .ref hsq, .ref hsm, .long lv])), (hti, .inr (0, [.ref ati, .int (nI n)])), (ati, .inl (cB, 65536, .inl ft)), (hto, .inr (1, [.ref ato, .int (nI st)])), (ato, .inl (cB, 65536, .inl fx)), (hsq, .inr (2, [.ref asq, .int (nI uq)])), (asq, .inl (cI, 2048, .inl fq)), (hsm, .inr (2, [.ref asm, .int (nI um)])), (asm, .inl (cI, 2, .inl fm)), (hsp, .inr (2, [.ref asp, .int (nI uN)])), (asp, .inl (cI, 2048, .inl g2)), (hnu, .inr (2, [.ref anu, .int (nI uN)])), (anu, .inl (cI, 2048, .inl fN))] H := hP
    have hD : va_D A [(h, .inr (3, [.ref hti, .ref hto, .ref hnu, .ref hsp, .ref hsq, .ref hsm, .long lv])), (hti, .inr (0, [.ref ati, .int (nI n)])), (ati, .inl (cB, 65536, .inl ft)), (hto, .inr (1, [.ref ato, .int (nI st)])), (ato, .inl (cB, 65536, .inl fx)), (hsq, .inr (2, [.ref asq, .int (nI uq)])), (asq, .inl (cI, 2048, .inl fq)), (hsm, .inr (2, [.ref asm, .int (nI um)])), (asm, .inl (cI, 2, .inl fm)), (hsp, .inr (2, [.ref asp, .int (nI uN)])), (asp, .inl (cI, 2048, .inl g2)), (hnu, .inr (2, [.ref anu, .int (nI uN)])), (anu, .inl (cI, 2048, .inl fN))] := hD
    have hP := hP.sub (ws' := [(h, .inr (3, [.ref hti, .ref hto, .ref hnu, .ref hsp, .ref hsq, .ref hsm, .long lv])), (hti, .inr (0, [.ref ati, .int (nI n)])), (ati, .inl (cB, 65536, .inl ft)), (hto, .inr (1, [.ref ato, .int (nI st)])), (ato, .inl (cB, 65536, .inl fx)), (hnu, .inr (2, [.ref anu, .int (nI uN)])), (anu, .inl (cI, 2048, .inl fN)), (hsp, .inr (2, [.ref asp, .int (nI uN)])), (asp, .inl (cI, 2048, .inl g2)), (hsq, .inr (2, [.ref asq, .int (nI uq)])), (asq, .inl (cI, 2048, .inl fq)), (hsm, .inr (2, [.ref asm, .int (nI um)])), (asm, .inl (cI, 2, .inl fm))]) [0, 1, 2, 3, 4, 11, 12, 9, 10, 5, 6, 7, 8] rfl
    have hD := hD.sub (ws' := [(h, .inr (3, [.ref hti, .ref hto, .ref hnu, .ref hsp, .ref hsq, .ref hsm, .long lv])), (hti, .inr (0, [.ref ati, .int (nI n)])), (ati, .inl (cB, 65536, .inl ft)), (hto, .inr (1, [.ref ato, .int (nI st)])), (ato, .inl (cB, 65536, .inl fx)), (hnu, .inr (2, [.ref anu, .int (nI uN)])), (anu, .inl (cI, 2048, .inl fN)), (hsp, .inr (2, [.ref asp, .int (nI uN)])), (asp, .inl (cI, 2048, .inl g2)), (hsq, .inr (2, [.ref asq, .int (nI uq)])), (asq, .inl (cI, 2048, .inl fq)), (hsm, .inr (2, [.ref asm, .int (nI um)])), (asm, .inl (cI, 2, .inl fm))]) [0, 1, 2, 3, 4, 11, 12, 9, 10, 5, 6, 7, 8] (by decide) rfl
    have hve : dvb 4294967296 g2 uN = dvb 4294967296 fN uN := dvb_congr hg
    refine lv_aload_n hx hb dX3_write_20 rfl (lv_at hl 0 rfl) ?_
    refine va_get (D := D) (ci := 3) (C := RX3) (T := TX3) (N := 7) (v := .ref hto) hx hb hts kin_X3_w hown hK hP 0 rfl rfl 1 (by decide) (hts _ kfl_X3_19) (fun _ h9 => h9) rfl dX3_write_21 ?_
    refine lv_aload_n hx hb dX3_write_24 rfl (lv_at hl 0 rfl) ?_
    refine va_get (D := D) (ci := 3) (C := RX3) (T := TX3) (N := 7) (v := .ref hsp) hx hb hts kin_X3_w hown hK hP 0 rfl rfl 3 (by decide) (hts _ kfl_X3_32) (fun _ h9 => h9) rfl dX3_write_25 ?_
    refine lv_iload_n hx hb dX3_write_28 rfl (lv_at hl 1 rfl) ?_
    refine dm_gov (wr := [(h, .inr (3, [.ref hti, .ref hto, .ref hnu, .ref hsp, .ref hsq, .ref hsm, .long lv])), (hti, .inr (0, [.ref ati, .int (nI n)])), (ati, .inl (cB, 65536, .inl ft)), (hnu, .inr (2, [.ref anu, .int (nI uN)])), (anu, .inl (cI, 2048, .inl fN)), (hsq, .inr (2, [.ref asq, .int (nI uq)])), (asq, .inl (cI, 2048, .inl fq)), (hsm, .inr (2, [.ref asm, .int (nI um)])), (asm, .inl (cI, 2, .inl fm))]) (dm_rVN (n := 2) (As := [.ref hsp, .int (nI r)]) (rest := []) hC hl (c_X1_becomeDigitsOf l D cB cI cC hto ato hsp asp 2048 st uN r fx g2 huN (by decide) (nrm_congr hg hnr) hr2 hr36 (by rw [hve]; exact hV r hr2) H.size) kco_X1_becomeDigitsOf ki_X1 kim_X1_becomeDigitsOf kse_X1_becomeDigitsOf knl_X3_68 (by decide +kernel) ⟨Nat.le_of_ble_eq_true rfl, Nat.le_of_ble_eq_true rfl⟩ rfl rfl ⟨dm_blind, va_recv hK hP (ci := 1) (q0 := 3) rfl rfl, dm_preU hK hP hD hC.2.2.2.2.2.2.2 [3, 4, 7, 8] (by decide) rfl⟩ rfl rfl (Nat.le_of_ble_eq_true rfl) dX3_write_29 ⟨Nat.le_of_ble_eq_true rfl, Nat.le_of_ble_eq_true rfl⟩) hP hD hS hA [3, 4, 7, 8] [0, 1, 2, 5, 6, 9, 10, 11, 12] rfl rfl (by decide) (by decide) (fun q H locs hw hP hD hS => ?_)
    obtain ⟨F2, s2, G2, U2⟩ := q
    have hP : va_P D vwCl [(h, .inr (3, [.ref hti, .ref hto, .ref hnu, .ref hsp, .ref hsq, .ref hsm, .long lv])), (hti, .inr (0, [.ref ati, .int (nI n)])), (ati, .inl (cB, 65536, .inl ft)), (hnu, .inr (2, [.ref anu, .int (nI uN)])), (anu, .inl (cI, 2048, .inl fN)), (hsq, .inr (2, [.ref asq, .int (nI uq)])), (asq, .inl (cI, 2048, .inl fq)), (hsm, .inr (2, [.ref asm, .int (nI um)])), (asm, .inl (cI, 2, .inl fm)), (hto, .inr (1, [.ref ato, .int (nI s2)])), (ato, .inl (cB, 65536, .inl F2)), (hsp, .inr (2, [.ref asp, .int (nI U2)])), (asp, .inl (cI, 2048, .inl G2))] H := hP
    have hD : va_D A [(h, .inr (3, [.ref hti, .ref hto, .ref hnu, .ref hsp, .ref hsq, .ref hsm, .long lv])), (hti, .inr (0, [.ref ati, .int (nI n)])), (ati, .inl (cB, 65536, .inl ft)), (hnu, .inr (2, [.ref anu, .int (nI uN)])), (anu, .inl (cI, 2048, .inl fN)), (hsq, .inr (2, [.ref asq, .int (nI uq)])), (asq, .inl (cI, 2048, .inl fq)), (hsm, .inr (2, [.ref asm, .int (nI um)])), (asm, .inl (cI, 2, .inl fm)), (hto, .inr (1, [.ref ato, .int (nI s2)])), (ato, .inl (cB, 65536, .inl F2)), (hsp, .inr (2, [.ref asp, .int (nI U2)])), (asp, .inl (cI, 2048, .inl G2))] := hD
    have hP := hP.sub (ws' := [(h, .inr (3, [.ref hti, .ref hto, .ref hnu, .ref hsp, .ref hsq, .ref hsm, .long lv])), (hti, .inr (0, [.ref ati, .int (nI n)])), (ati, .inl (cB, 65536, .inl ft)), (hto, .inr (1, [.ref ato, .int (nI s2)])), (ato, .inl (cB, 65536, .inl F2)), (hnu, .inr (2, [.ref anu, .int (nI uN)])), (anu, .inl (cI, 2048, .inl fN)), (hsp, .inr (2, [.ref asp, .int (nI U2)])), (asp, .inl (cI, 2048, .inl G2)), (hsq, .inr (2, [.ref asq, .int (nI uq)])), (asq, .inl (cI, 2048, .inl fq)), (hsm, .inr (2, [.ref asm, .int (nI um)])), (asm, .inl (cI, 2, .inl fm))]) [0, 1, 2, 9, 10, 3, 4, 11, 12, 5, 6, 7, 8] rfl
    have hD := hD.sub (ws' := [(h, .inr (3, [.ref hti, .ref hto, .ref hnu, .ref hsp, .ref hsq, .ref hsm, .long lv])), (hti, .inr (0, [.ref ati, .int (nI n)])), (ati, .inl (cB, 65536, .inl ft)), (hto, .inr (1, [.ref ato, .int (nI s2)])), (ato, .inl (cB, 65536, .inl F2)), (hnu, .inr (2, [.ref anu, .int (nI uN)])), (anu, .inl (cI, 2048, .inl fN)), (hsp, .inr (2, [.ref asp, .int (nI U2)])), (asp, .inl (cI, 2048, .inl G2)), (hsq, .inr (2, [.ref asq, .int (nI uq)])), (asq, .inl (cI, 2048, .inl fq)), (hsm, .inr (2, [.ref asm, .int (nI um)])), (asm, .inl (cI, 2, .inl fm))]) [0, 1, 2, 9, 10, 3, 4, 11, 12, 5, 6, 7, 8] (by decide) rfl
    obtain ⟨w1, w2, w3, w4⟩ := hw
    dsimp only at w1 w2 w3 w4
    rw [hve] at w3 w4
    refine lv_aload_n hx hb dX3_write_32 rfl (lv_at hl 0 rfl) ?_
    refine va_get (D := D) (ci := 3) (C := RX3) (T := TX3) (N := 7) (v := .ref hto) hx hb hts kin_X3_w hown hK hP 0 rfl rfl 1 (by decide) (hts _ kfl_X3_19) (fun _ h9 => h9) rfl dX3_write_33 ?_
    refine dm_gori (dm_rVN (n := 0) (As := []) (rest := []) hC hl (c_X1_size l D cB cI cC hto ato s2 F2 w1 H.size) kco_X1_size ki_X1 kim_X1_size kse_X1_size knl_X3_72 (by decide +kernel) ⟨Nat.le_of_ble_eq_true rfl, Nat.le_of_ble_eq_true rfl⟩ rfl rfl ⟨dm_blind, va_recv hK hP (ci := 1) (q0 := 3) rfl rfl, dm_preU hK hP hD hC.2.2.2.2.2.2.2 [3, 4] (by decide) rfl⟩ rfl rfl (Nat.le_of_ble_eq_true rfl) dX3_write_36 ⟨Nat.le_of_ble_eq_true rfl, Nat.le_of_ble_eq_true rfl⟩) (fun r2 e2 => ?_)
    exact dm_iret hC hK (F2, s2, G2, U2) ⟨w1, Or.inr ⟨r, hr2, hr36, rfl, e2, w3, w4⟩⟩ hP hD hS dX3_write_39
  · have e2 := e1.resolve_left (fun h9 => absurd (hc.symm.trans h9.2) (by decide))
    refine lv_iconst (v := -1) hx hb dX3_write_7 (by decide) ?_
    exact dm_iret hC hK (fx, st, fs, us) ⟨hst, Or.inl ⟨e2.1, rfl, rfl, rfl⟩⟩ hP hD hS dX3_write_8
end
section
theorem pw_start : ∀ b, b ≤ 32 → nI 31 - nI (32 - b) = nI b - nI 1 := by decide
theorem su32 : ∀ j, j < 32 → (((nI j).toUInt32 &&& Int32.toUInt32 31).toBitVec % 32).toNat = j := by decide
theorem pw_le {b m n : Nat} (hb : 0 < b) (h : m ≤ n) : b ^ m ≤ b ^ n := Nat.pow_le_pow_right hb h
theorem sq_big {f : Nat → Int32} {u : Nat} (hn : nrm f u) (h : 2048 < 2 * u) : 4294967296 ^ 2048 ≤ dvb 4294967296 f u * dvb 4294967296 f u := by
  obtain ⟨k, rfl⟩ : ∃ k, u = k + 1 := ⟨u - 1, by omega⟩
  have h1 := nrm_ge hn
  have h2 : 4294967296 ^ k * 4294967296 ^ k ≤ dvb 4294967296 f (k + 1) * dvb 4294967296 f (k + 1) := Nat.mul_le_mul h1 h1
  refine Nat.le_trans ?_ h2
  rw [← Nat.pow_add]
  exact Nat.pow_le_pow_right (by decide) (by omega)
theorem half_bit {e j : Nat} : e / 2 ^ j = 2 * (e / 2 ^ (j + 1)) + e / 2 ^ j % 2 := by
  have h2 : e / 2 ^ (j + 1) = e / 2 ^ j / 2 := by rw [Nat.div_div_eq_div_mul, ← Nat.pow_succ]
  rw [h2]
  omega

set_option maxRecDepth 100000 in
set_option maxHeartbeats 4000000 in
theorem c_X3_raiseInSpare (l : Launch) (D : va_G) (cB cI cC : ClassId) (h hti ati hto ato hnu anu hsp asp hsq asq hsm asm n st uN us uq um : Nat) (ft fx fN fs fq fm : Nat → Int32) (lv : Int64) (bb ee : Nat) (hbb : bb < 2 ^ 31) (hee : ee < 2 ^ 31) : MI l yX3_raiseInSpare (Cond.code yX3_raiseInSpare cX3_raiseInSpare 4 (some .boolean)) 3 D (TY cB cI cC) [.ref h, .int (nI bb), .int (nI ee)] [(h, .inr (3, [.ref hti, .ref hto, .ref hnu, .ref hsp, .ref hsq, .ref hsm, .long lv])), (hti, .inr (0, [.ref ati, .int (nI n)])), (ati, .inl (cB, 65536, .inl ft)), (hto, .inr (1, [.ref ato, .int (nI st)])), (ato, .inl (cB, 65536, .inl fx)), (hnu, .inr (2, [.ref anu, .int (nI uN)])), (anu, .inl (cI, 2048, .inl fN)), (hsp, .inr (2, [.ref asp, .int (nI us)])), (asp, .inl (cI, 2048, .inl fs)), (hsq, .inr (2, [.ref asq, .int (nI uq)])), (asq, .inl (cI, 2048, .inl fq)), (hsm, .inr (2, [.ref asm, .int (nI um)])), (asm, .inl (cI, 2, .inl fm))] (S := (Nat → Int32) × Nat × (Nat → Int32) × Nat) (fun b q => (b = 1 ∧ q.2.1 ≤ 2048 ∧ nrm q.1 q.2.1 ∧ dvb 4294967296 q.1 q.2.1 = bb ^ ee) ∨ (b = 0 ∧ 4294967296 ^ 2048 ≤ bb ^ ee)) (fun q => [(h, .inr (3, [.ref hti, .ref hto, .ref hnu, .ref hsp, .ref hsq, .ref hsm, .long lv])), (hti, .inr (0, [.ref ati, .int (nI n)])), (ati, .inl (cB, 65536, .inl ft)), (hto, .inr (1, [.ref ato, .int (nI st)])), (ato, .inl (cB, 65536, .inl fx)), (hnu, .inr (2, [.ref anu, .int (nI uN)])), (anu, .inl (cI, 2048, .inl fN)), (hsp, .inr (2, [.ref asp, .int (nI q.2.1)])), (asp, .inl (cI, 2048, .inl q.1)), (hsq, .inr (2, [.ref asq, .int (nI q.2.2.2)])), (asq, .inl (cI, 2048, .inl q.2.2.1)), (hsm, .inr (2, [.ref asm, .int (nI um)])), (asm, .inl (cI, 2, .inl fm))]) := by
  refine MI.of (by decide) (Nat.le_of_ble_eq_true rfl) ?_
  intro p e s m below meth c ls A hC hA hP hK hD hS hl
  obtain ⟨hx, hb, hr, hml, hown, hts, hlocks, hN⟩ := id hC
  have hown : s.vm.findClass RX3 = some m.cls := hown
  have hl : lv_has ls 4 [(0, .ref h), (1, .int (nI bb)), (2, .int (nI ee))] := hl
  refine lv_iload_n hx hb dX3_raiseInSpare_0 rfl (lv_at hl 1 rfl) ?_
  refine dm_if_ne (tgt := 22) hx hb (by omega) dX3_raiseInSpare_1 (by decide) (fun hc => ?_) (fun hc => ?_)
  · have hb0 : 0 < bb := by omega
    refine lv_aload_n hx hb dX3_raiseInSpare_22 rfl (lv_at hl 0 rfl) ?_
    refine va_get (D := D) (ci := 3) (C := RX3) (T := TX3) (N := 7) (v := .ref hsp) hx hb hts kin_X3_w hown hK hP 0 rfl rfl 3 (by decide) (hts _ kfl_X3_32) (fun _ h9 => h9) rfl dX3_raiseInSpare_23 ?_
    refine lv_lconst (v := lN 1) hx hb dX3_raiseInSpare_26 (by decide) ?_
    refine dm_gov (wr := [(h, .inr (3, [.ref hti, .ref hto, .ref hnu, .ref hsp, .ref hsq, .ref hsm, .long lv])), (hti, .inr (0, [.ref ati, .int (nI n)])), (ati, .inl (cB, 65536, .inl ft)), (hto, .inr (1, [.ref ato, .int (nI st)])), (ato, .inl (cB, 65536, .inl fx)), (hnu, .inr (2, [.ref anu, .int (nI uN)])), (anu, .inl (cI, 2048, .inl fN)), (hsq, .inr (2, [.ref asq, .int (nI uq)])), (asq, .inl (cI, 2048, .inl fq)), (hsm, .inr (2, [.ref asm, .int (nI um)])), (asm, .inl (cI, 2, .inl fm))]) (dm_rVN (n := 1) (As := [.long (lN 1)]) (rest := []) hC hl (c_X2_becomeLong l D cB cI cC hsp asp 2048 us 1 fs (by decide) (by decide) (by decide) s.heap.size) kco_X2_becomeLong ki_X2 kim_X2_becomeLong kse_X2_becomeLong knl_X3_93 (by decide +kernel) ⟨Nat.le_of_ble_eq_true rfl, Nat.le_of_ble_eq_true rfl⟩ rfl rfl ⟨dm_blind, va_recv hK hP (ci := 2) (q0 := 7) rfl rfl, dm_preU hK hP hD hC.2.2.2.2.2.2.2 [7, 8] (by decide) rfl⟩ rfl rfl (Nat.le_of_ble_eq_true rfl) dX3_raiseInSpare_27 ⟨Nat.le_of_ble_eq_true rfl, Nat.le_of_ble_eq_true rfl⟩) hP hD hS hA [7, 8] [0, 1, 2, 3, 4, 5, 6, 9, 10, 11, 12] rfl rfl (by decide) (by decide) (fun q H locs hw hP hD hS => ?_)
    obtain ⟨f2, u2⟩ := q
    have hP : va_P D vwCl [(h, .inr (3, [.ref hti, .ref hto, .ref hnu, .ref hsp, .ref hsq, .ref hsm, .long lv])), (hti, .inr (0, [.ref ati, .int (nI n)])), (ati, .inl (cB, 65536, .inl ft)), (hto, .inr (1, [.ref ato, .int (nI st)])), (ato, .inl (cB, 65536, .inl fx)), (hnu, .inr (2, [.ref anu, .int (nI uN)])), (anu, .inl (cI, 2048, .inl fN)), (hsq, .inr (2, [.ref asq, .int (nI uq)])), (asq, .inl (cI, 2048, .inl fq)), (hsm, .inr (2, [.ref asm, .int (nI um)])), (asm, .inl (cI, 2, .inl fm)), (hsp, .inr (2, [.ref asp, .int (nI u2)])), (asp, .inl (cI, 2048, .inl f2))] H := hP
    have hD : va_D A [(h, .inr (3, [.ref hti, .ref hto, .ref hnu, .ref hsp, .ref hsq, .ref hsm, .long lv])), (hti, .inr (0, [.ref ati, .int (nI n)])), (ati, .inl (cB, 65536, .inl ft)), (hto, .inr (1, [.ref ato, .int (nI st)])), (ato, .inl (cB, 65536, .inl fx)), (hnu, .inr (2, [.ref anu, .int (nI uN)])), (anu, .inl (cI, 2048, .inl fN)), (hsq, .inr (2, [.ref asq, .int (nI uq)])), (asq, .inl (cI, 2048, .inl fq)), (hsm, .inr (2, [.ref asm, .int (nI um)])), (asm, .inl (cI, 2, .inl fm)), (hsp, .inr (2, [.ref asp, .int (nI u2)])), (asp, .inl (cI, 2048, .inl f2))] := hD
    have hP := hP.sub (ws' := [(h, .inr (3, [.ref hti, .ref hto, .ref hnu, .ref hsp, .ref hsq, .ref hsm, .long lv])), (hti, .inr (0, [.ref ati, .int (nI n)])), (ati, .inl (cB, 65536, .inl ft)), (hto, .inr (1, [.ref ato, .int (nI st)])), (ato, .inl (cB, 65536, .inl fx)), (hnu, .inr (2, [.ref anu, .int (nI uN)])), (anu, .inl (cI, 2048, .inl fN)), (hsp, .inr (2, [.ref asp, .int (nI u2)])), (asp, .inl (cI, 2048, .inl f2)), (hsq, .inr (2, [.ref asq, .int (nI uq)])), (asq, .inl (cI, 2048, .inl fq)), (hsm, .inr (2, [.ref asm, .int (nI um)])), (asm, .inl (cI, 2, .inl fm))]) [0, 1, 2, 3, 4, 5, 6, 11, 12, 7, 8, 9, 10] rfl
    have hD := hD.sub (ws' := [(h, .inr (3, [.ref hti, .ref hto, .ref hnu, .ref hsp, .ref hsq, .ref hsm, .long lv])), (hti, .inr (0, [.ref ati, .int (nI n)])), (ati, .inl (cB, 65536, .inl ft)), (hto, .inr (1, [.ref ato, .int (nI st)])), (ato, .inl (cB, 65536, .inl fx)), (hnu, .inr (2, [.ref anu, .int (nI uN)])), (anu, .inl (cI, 2048, .inl fN)), (hsp, .inr (2, [.ref asp, .int (nI u2)])), (asp, .inl (cI, 2048, .inl f2)), (hsq, .inr (2, [.ref asq, .int (nI uq)])), (asq, .inl (cI, 2048, .inl fq)), (hsm, .inr (2, [.ref asm, .int (nI um)])), (asm, .inl (cI, 2, .inl fm))]) [0, 1, 2, 3, 4, 5, 6, 11, 12, 7, 8, 9, 10] (by decide) rfl
    refine lv_bipush (v := nI 31) hx hb dX3_raiseInSpare_30 (by decide) ?_
    refine lv_iload_n hx hb dX3_raiseInSpare_32 rfl (lv_at hl 2 rfl) ?_
    refine dm_gori (dm_rS (n := 1) (As := [.int (nI ee)]) (rest := [.int (nI 31)]) hC hl (c_J6_nlz l D cB cI cC (nI ee) H.size) kco_J6_numberOfLeadingZeros_0f7a4 ki_J6 kst_J6_numberOfLeadingZeros_0f7a4 kml_X3_130 (by decide +kernel) ⟨Nat.le_of_ble_eq_true rfl, Nat.le_of_ble_eq_true rfl⟩ rfl rfl ⟨dm_blind, dm_preU hK hP hD hC.2.2.2.2.2.2.2 [] (by decide) rfl⟩ rfl rfl (Nat.le_of_ble_eq_true rfl) dX3_raiseInSpare_33 ⟨Nat.le_of_ble_eq_true rfl, Nat.le_of_ble_eq_true rfl⟩) (fun r1 e1 => ?_)
    rw [un_nI (by omega)] at e1
    subst e1
    have hbl : bl ee ≤ 32 := bl_32 (by omega)
    refine lv_isub hx hb dX3_raiseInSpare_36 ?_
    refine dm_ti (y := (nI (bl ee) - nI 1)) (pw_start _ hbl) ?_
    refine lv_istore_n (lv' := [(3, .int (nI (bl ee) - nI 1)), (0, .ref h), (1, .int (nI bb)), (2, .int (nI ee))]) hx hb dX3_raiseInSpare_37 rfl hl (by decide) rfl (fun ls hl => ?_)
    refine dm_loop (nL := 4) (head := 38) (P := fun (x : Nat × (Nat → Int32) × Nat × (Nat → Int32) × Nat) => x.1 ≤ 32 ∧ x.2.2.1 ≤ 2048 ∧ nrm x.2.1 x.2.2.1 ∧ dvb 4294967296 x.2.1 x.2.2.1 = bb ^ (ee / 2 ^ x.1)) (w := fun x => [(h, .inr (3, [.ref hti, .ref hto, .ref hnu, .ref hsp, .ref hsq, .ref hsm, .long lv])), (hti, .inr (0, [.ref ati, .int (nI n)])), (ati, .inl (cB, 65536, .inl ft)), (hto, .inr (1, [.ref ato, .int (nI st)])), (ato, .inl (cB, 65536, .inl fx)), (hnu, .inr (2, [.ref anu, .int (nI uN)])), (anu, .inl (cI, 2048, .inl fN)), (hsp, .inr (2, [.ref asp, .int (nI x.2.2.1)])), (asp, .inl (cI, 2048, .inl x.2.1)), (hsq, .inr (2, [.ref asq, .int (nI x.2.2.2.2)])), (asq, .inl (cI, 2048, .inl x.2.2.2.1)), (hsm, .inr (2, [.ref asm, .int (nI um)])), (asm, .inl (cI, 2, .inl fm))]) (lv := fun x => [(3, .int (nI x.1 - nI 1)), (0, .ref h), (1, .int (nI bb)), (2, .int (nI ee))]) (μ := fun x => x.1) ?_ (bl ee, f2, u2, fq, uq) ⟨hbl, hw.1, hw.2.2, by dsimp only at hw ⊢; rw [hw.2.1, Nat.div_eq_of_lt (bl_lt ee), Nat.pow_zero]⟩ hP hD hS hl
    clear hw
    rintro ⟨k, F, U, G, Q2⟩ H locs ls ⟨hk, hU, hnr, hv⟩ hP hD hS hl ih
    dsimp only at hk hU hnr hv
    have hP : va_P D vwCl [(h, .inr (3, [.ref hti, .ref hto, .ref hnu, .ref hsp, .ref hsq, .ref hsm, .long lv])), (hti, .inr (0, [.ref ati, .int (nI n)])), (ati, .inl (cB, 65536, .inl ft)), (hto, .inr (1, [.ref ato, .int (nI st)])), (ato, .inl (cB, 65536, .inl fx)), (hnu, .inr (2, [.ref anu, .int (nI uN)])), (anu, .inl (cI, 2048, .inl fN)), (hsp, .inr (2, [.ref asp, .int (nI U)])), (asp, .inl (cI, 2048, .inl F)), (hsq, .inr (2, [.ref asq, .int (nI Q2)])), (asq, .inl (cI, 2048, .inl G)), (hsm, .inr (2, [.ref asm, .int (nI um)])), (asm, .inl (cI, 2, .inl fm))] H := hP
    have hD : va_D A [(h, .inr (3, [.ref hti, .ref hto, .ref hnu, .ref hsp, .ref hsq, .ref hsm, .long lv])), (hti, .inr (0, [.ref ati, .int (nI n)])), (ati, .inl (cB, 65536, .inl ft)), (hto, .inr (1, [.ref ato, .int (nI st)])), (ato, .inl (cB, 65536, .inl fx)), (hnu, .inr (2, [.ref anu, .int (nI uN)])), (anu, .inl (cI, 2048, .inl fN)), (hsp, .inr (2, [.ref asp, .int (nI U)])), (asp, .inl (cI, 2048, .inl F)), (hsq, .inr (2, [.ref asq, .int (nI Q2)])), (asq, .inl (cI, 2048, .inl G)), (hsm, .inr (2, [.ref asm, .int (nI um)])), (asm, .inl (cI, 2, .inl fm))] := hD
    have hl : lv_has ls 4 [(3, .int (nI k - nI 1)), (0, .ref h), (1, .int (nI bb)), (2, .int (nI ee))] := hl
    rcases Nat.eq_zero_or_pos k with hk0 | hk0
    · rw [hk0] at hl hv
      refine lv_iload_n hx hb dX3_raiseInSpare_38 rfl (lv_at hl 0 rfl) ?_
      refine lv_if_lt (tgt := 99) hx hb dX3_raiseInSpare_39 (by decide) (fun hd => ?_) (fun hd => ?_)
      · refine lv_iconst (v := nI 1) hx hb dX3_raiseInSpare_99 (by decide) ?_
        exact dm_zret (v := nI 1) hC (Or.inr rfl) hK (F, U, G, Q2) (Or.inl ⟨rfl, hU, hnr, by show dvb _ F U = _; rw [hv, Nat.pow_zero, Nat.div_one]⟩) hP hD hS dX3_raiseInSpare_100
      · exact absurd (by decide) hd
    · obtain ⟨j, rfl⟩ : ∃ j, k = j + 1 := ⟨k - 1, by omega⟩
      have hl : lv_has ls 4 [(3, .int (nI j)), (0, .ref h), (1, .int (nI bb)), (2, .int (nI ee))] := by rw [show nI j = nI (j + 1) - nI 1 from (nI_pred j).symm]; exact hl
      have hbit := half_bit (e := ee) (j := j)
      have hej : ee / 2 ^ j ≤ ee := Nat.div_le_self _ _
      refine lv_iload_n hx hb dX3_raiseInSpare_38 rfl (lv_at hl 0 rfl) ?_
      refine dm_if_lt (tgt := 99) hx hb (by omega) dX3_raiseInSpare_39 (by decide) (fun hd => ?_) (fun hd => ?_)
      · exact hd.elim
      · refine lv_aload_n hx hb dX3_raiseInSpare_42 rfl (lv_at hl 1 rfl) ?_
        refine va_get (D := D) (ci := 3) (C := RX3) (T := TX3) (N := 7) (v := .ref hsq) hx hb hts kin_X3_w hown hK hP 0 rfl rfl 4 (by decide) (hts _ kfl_X3_35) (fun _ h9 => h9) rfl dX3_raiseInSpare_43 ?_
        refine lv_aload_n hx hb dX3_raiseInSpare_46 rfl (lv_at hl 1 rfl) ?_
        refine va_get (D := D) (ci := 3) (C := RX3) (T := TX3) (N := 7) (v := .ref hsp) hx hb hts kin_X3_w hown hK hP 0 rfl rfl 3 (by decide) (hts _ kfl_X3_32) (fun _ h9 => h9) rfl dX3_raiseInSpare_47 ?_
        refine dm_goi (wr := [(h, .inr (3, [.ref hti, .ref hto, .ref hnu, .ref hsp, .ref hsq, .ref hsm, .long lv])), (hti, .inr (0, [.ref ati, .int (nI n)])), (ati, .inl (cB, 65536, .inl ft)), (hto, .inr (1, [.ref ato, .int (nI st)])), (ato, .inl (cB, 65536, .inl fx)), (hnu, .inr (2, [.ref anu, .int (nI uN)])), (anu, .inl (cI, 2048, .inl fN)), (hsm, .inr (2, [.ref asm, .int (nI um)])), (asm, .inl (cI, 2, .inl fm))]) (dm_rVN (n := 1) (As := [.ref hsp]) (rest := []) hC hl (c_X2_becomeSquareOf l D cB cI cC hsq asq hsp asp 2048 Q2 U G F hU (by decide) H.size) kco_X2_becomeSquareOf ki_X2 kim_X2_becomeSquareOf kse_X2_becomeSquareOf knl_X3_135 (by decide +kernel) ⟨Nat.le_of_ble_eq_true rfl, Nat.le_of_ble_eq_true rfl⟩ rfl rfl ⟨dm_blind, va_recv hK hP (ci := 2) (q0 := 9) rfl rfl, dm_preU hK hP hD hC.2.2.2.2.2.2.2 [9, 10, 7, 8] (by decide) rfl⟩ rfl rfl (Nat.le_of_ble_eq_true rfl) dX3_raiseInSpare_50 ⟨Nat.le_of_ble_eq_true rfl, Nat.le_of_ble_eq_true rfl⟩) hP hD hS hA [9, 10, 7, 8] [0, 1, 2, 3, 4, 5, 6, 11, 12] rfl rfl (by decide) (by decide) (fun rb q H locs hw hP hD hS => ?_)
        obtain ⟨G2, U2⟩ := q
        have hP : va_P D vwCl [(h, .inr (3, [.ref hti, .ref hto, .ref hnu, .ref hsp, .ref hsq, .ref hsm, .long lv])), (hti, .inr (0, [.ref ati, .int (nI n)])), (ati, .inl (cB, 65536, .inl ft)), (hto, .inr (1, [.ref ato, .int (nI st)])), (ato, .inl (cB, 65536, .inl fx)), (hnu, .inr (2, [.ref anu, .int (nI uN)])), (anu, .inl (cI, 2048, .inl fN)), (hsm, .inr (2, [.ref asm, .int (nI um)])), (asm, .inl (cI, 2, .inl fm)), (hsq, .inr (2, [.ref asq, .int (nI U2)])), (asq, .inl (cI, 2048, .inl G2)), (hsp, .inr (2, [.ref asp, .int (nI U)])), (asp, .inl (cI, 2048, .inl F))] H := hP
        have hD : va_D A [(h, .inr (3, [.ref hti, .ref hto, .ref hnu, .ref hsp, .ref hsq, .ref hsm, .long lv])), (hti, .inr (0, [.ref ati, .int (nI n)])), (ati, .inl (cB, 65536, .inl ft)), (hto, .inr (1, [.ref ato, .int (nI st)])), (ato, .inl (cB, 65536, .inl fx)), (hnu, .inr (2, [.ref anu, .int (nI uN)])), (anu, .inl (cI, 2048, .inl fN)), (hsm, .inr (2, [.ref asm, .int (nI um)])), (asm, .inl (cI, 2, .inl fm)), (hsq, .inr (2, [.ref asq, .int (nI U2)])), (asq, .inl (cI, 2048, .inl G2)), (hsp, .inr (2, [.ref asp, .int (nI U)])), (asp, .inl (cI, 2048, .inl F))] := hD
        have hP := hP.sub (ws' := [(h, .inr (3, [.ref hti, .ref hto, .ref hnu, .ref hsp, .ref hsq, .ref hsm, .long lv])), (hti, .inr (0, [.ref ati, .int (nI n)])), (ati, .inl (cB, 65536, .inl ft)), (hto, .inr (1, [.ref ato, .int (nI st)])), (ato, .inl (cB, 65536, .inl fx)), (hnu, .inr (2, [.ref anu, .int (nI uN)])), (anu, .inl (cI, 2048, .inl fN)), (hsp, .inr (2, [.ref asp, .int (nI U)])), (asp, .inl (cI, 2048, .inl F)), (hsq, .inr (2, [.ref asq, .int (nI U2)])), (asq, .inl (cI, 2048, .inl G2)), (hsm, .inr (2, [.ref asm, .int (nI um)])), (asm, .inl (cI, 2, .inl fm))]) [0, 1, 2, 3, 4, 5, 6, 11, 12, 9, 10, 7, 8] rfl
        have hD := hD.sub (ws' := [(h, .inr (3, [.ref hti, .ref hto, .ref hnu, .ref hsp, .ref hsq, .ref hsm, .long lv])), (hti, .inr (0, [.ref ati, .int (nI n)])), (ati, .inl (cB, 65536, .inl ft)), (hto, .inr (1, [.ref ato, .int (nI st)])), (ato, .inl (cB, 65536, .inl fx)), (hnu, .inr (2, [.ref anu, .int (nI uN)])), (anu, .inl (cI, 2048, .inl fN)), (hsp, .inr (2, [.ref asp, .int (nI U)])), (asp, .inl (cI, 2048, .inl F)), (hsq, .inr (2, [.ref asq, .int (nI U2)])), (asq, .inl (cI, 2048, .inl G2)), (hsm, .inr (2, [.ref asm, .int (nI um)])), (asm, .inl (cI, 2, .inl fm))]) [0, 1, 2, 3, 4, 5, 6, 11, 12, 9, 10, 7, 8] (by decide) rfl
        dsimp only at hw
        refine lv_if_ne (tgt := 58) hx hb dX3_raiseInSpare_53 (by decide) (fun hb1 => ?_) (fun hb1 => ?_)
        · have h2U : 2 * U ≤ 2048 := by
            rcases Nat.lt_or_ge 2048 (2 * U) with h9 | h9
            · exact absurd (hw.2 h9).1 hb1
            · exact h9
          obtain ⟨-, w2, w3, w4⟩ := hw.1 h2U
          have w3 : dvb 4294967296 G2 U2 = bb ^ (2 * (ee / 2 ^ (j + 1))) := by rw [w3, hv, ← Nat.pow_add]; congr 1; omega
          refine lv_aload_n hx hb dX3_raiseInSpare_58 rfl (lv_at hl 1 rfl) ?_
          refine va_get (D := D) (ci := 3) (C := RX3) (T := TX3) (N := 7) (v := .ref hsp) hx hb hts kin_X3_w hown hK hP 0 rfl rfl 3 (by decide) (hts _ kfl_X3_32) (fun _ h9 => h9) rfl dX3_raiseInSpare_59 ?_
          refine lv_aload_n hx hb dX3_raiseInSpare_62 rfl (lv_at hl 1 rfl) ?_
          refine va_get (D := D) (ci := 3) (C := RX3) (T := TX3) (N := 7) (v := .ref hsq) hx hb hts kin_X3_w hown hK hP 0 rfl rfl 4 (by decide) (hts _ kfl_X3_35) (fun _ h9 => h9) rfl dX3_raiseInSpare_63 ?_
          refine dm_gov (wr := [(h, .inr (3, [.ref hti, .ref hto, .ref hnu, .ref hsp, .ref hsq, .ref hsm, .long lv])), (hti, .inr (0, [.ref ati, .int (nI n)])), (ati, .inl (cB, 65536, .inl ft)), (hto, .inr (1, [.ref ato, .int (nI st)])), (ato, .inl (cB, 65536, .inl fx)), (hnu, .inr (2, [.ref anu, .int (nI uN)])), (anu, .inl (cI, 2048, .inl fN)), (hsm, .inr (2, [.ref asm, .int (nI um)])), (asm, .inl (cI, 2, .inl fm))]) (dm_rVN (n := 1) (As := [.ref hsq]) (rest := []) hC hl (c_X2_becomeCopyOf l D cB cI cC hsp asp hsq asq 2048 U U2 F G2 w2 (by decide) H.size) kco_X2_becomeCopyOf ki_X2 kim_X2_becomeCopyOf kse_X2_becomeCopyOf knl_X3_64 (by decide +kernel) ⟨Nat.le_of_ble_eq_true rfl, Nat.le_of_ble_eq_true rfl⟩ rfl rfl ⟨dm_blind, va_recv hK hP (ci := 2) (q0 := 7) rfl rfl, dm_preU hK hP hD hC.2.2.2.2.2.2.2 [7, 8, 9, 10] (by decide) rfl⟩ rfl rfl (Nat.le_of_ble_eq_true rfl) dX3_raiseInSpare_66 ⟨Nat.le_of_ble_eq_true rfl, Nat.le_of_ble_eq_true rfl⟩) hP hD hS hA [7, 8, 9, 10] [0, 1, 2, 3, 4, 5, 6, 11, 12] rfl rfl (by decide) (by decide) (fun F2 H locs hg hP hD hS => ?_)
          have hP : va_P D vwCl [(h, .inr (3, [.ref hti, .ref hto, .ref hnu, .ref hsp, .ref hsq, .ref hsm, .long lv])), (hti, .inr (0, [.ref ati, .int (nI n)])), (ati, .inl (cB, 65536, .inl ft)), (hto, .inr (1, [.ref ato, .int (nI st)])), (ato, .inl (cB, 65536, .inl fx)), (hnu, .inr (2, [.ref anu, .int (nI uN)])), (anu, .inl (cI, 2048, .inl fN)), (hsm, .inr (2, [.ref asm, .int (nI um)])), (asm, .inl (cI, 2, .inl fm)), (hsp, .inr (2, [.ref asp, .int (nI U2)])), (asp, .inl (cI, 2048, .inl F2)), (hsq, .inr (2, [.ref asq, .int (nI U2)])), (asq, .inl (cI, 2048, .inl G2))] H := hP
          have hD : va_D A [(h, .inr (3, [.ref hti, .ref hto, .ref hnu, .ref hsp, .ref hsq, .ref hsm, .long lv])), (hti, .inr (0, [.ref ati, .int (nI n)])), (ati, .inl (cB, 65536, .inl ft)), (hto, .inr (1, [.ref ato, .int (nI st)])), (ato, .inl (cB, 65536, .inl fx)), (hnu, .inr (2, [.ref anu, .int (nI uN)])), (anu, .inl (cI, 2048, .inl fN)), (hsm, .inr (2, [.ref asm, .int (nI um)])), (asm, .inl (cI, 2, .inl fm)), (hsp, .inr (2, [.ref asp, .int (nI U2)])), (asp, .inl (cI, 2048, .inl F2)), (hsq, .inr (2, [.ref asq, .int (nI U2)])), (asq, .inl (cI, 2048, .inl G2))] := hD
          have hP := hP.sub (ws' := [(h, .inr (3, [.ref hti, .ref hto, .ref hnu, .ref hsp, .ref hsq, .ref hsm, .long lv])), (hti, .inr (0, [.ref ati, .int (nI n)])), (ati, .inl (cB, 65536, .inl ft)), (hto, .inr (1, [.ref ato, .int (nI st)])), (ato, .inl (cB, 65536, .inl fx)), (hnu, .inr (2, [.ref anu, .int (nI uN)])), (anu, .inl (cI, 2048, .inl fN)), (hsp, .inr (2, [.ref asp, .int (nI U2)])), (asp, .inl (cI, 2048, .inl F2)), (hsq, .inr (2, [.ref asq, .int (nI U2)])), (asq, .inl (cI, 2048, .inl G2)), (hsm, .inr (2, [.ref asm, .int (nI um)])), (asm, .inl (cI, 2, .inl fm))]) [0, 1, 2, 3, 4, 5, 6, 9, 10, 11, 12, 7, 8] rfl
          have hD := hD.sub (ws' := [(h, .inr (3, [.ref hti, .ref hto, .ref hnu, .ref hsp, .ref hsq, .ref hsm, .long lv])), (hti, .inr (0, [.ref ati, .int (nI n)])), (ati, .inl (cB, 65536, .inl ft)), (hto, .inr (1, [.ref ato, .int (nI st)])), (ato, .inl (cB, 65536, .inl fx)), (hnu, .inr (2, [.ref anu, .int (nI uN)])), (anu, .inl (cI, 2048, .inl fN)), (hsp, .inr (2, [.ref asp, .int (nI U2)])), (asp, .inl (cI, 2048, .inl F2)), (hsq, .inr (2, [.ref asq, .int (nI U2)])), (asq, .inl (cI, 2048, .inl G2)), (hsm, .inr (2, [.ref asm, .int (nI um)])), (asm, .inl (cI, 2, .inl fm))]) [0, 1, 2, 3, 4, 5, 6, 9, 10, 11, 12, 7, 8] (by decide) rfl
          have hF2 : dvb 4294967296 F2 U2 = bb ^ (2 * (ee / 2 ^ (j + 1))) := by rw [dvb_congr hg]; exact w3
          have hnF2 := nrm_congr hg w4
          refine lv_iload_n hx hb dX3_raiseInSpare_69 rfl (lv_at hl 3 rfl) ?_
          refine lv_iload_n hx hb dX3_raiseInSpare_70 rfl (lv_at hl 0 rfl) ?_
          refine lv_iushr (v := nI (ee / 2 ^ j)) hx hb dX3_raiseInSpare_71 (pk_ushrN (n := ee) (by omega) (nI j) j (su32 j (by omega))) ?_
          refine lv_iconst (v := nI 1) hx hb dX3_raiseInSpare_72 (by decide) ?_
          refine lv_iand hx hb dX3_raiseInSpare_73 ?_
          refine dm_ti (y := nI (ee / 2 ^ j % 2)) (pk_andN (by omega) 1 (by decide)) ?_
          refine lv_iconst (v := nI 1) hx hb dX3_raiseInSpare_74 (by decide) ?_
          refine dm_icmp_ne (tgt := 93) hx hb (by omega) (by omega) dX3_raiseInSpare_75 (by decide) (fun hg2 => ?_) (fun hg2 => ?_)
          · refine lv_iinc (v := (nI j - nI 1)) (lv' := [(3, .int (nI j - nI 1)), (0, .ref h), (1, .int (nI bb)), (2, .int (nI ee))]) hx hb dX3_raiseInSpare_93 hl (k := 0) rfl (i_dec _) (by decide) rfl (fun ls hl => ?_)
            refine lv_goto (tgt := 38) hx hb dX3_raiseInSpare_96 (by decide) ?_
            exact ih (j, F2, U2, G2, U2) H locs ls (Nat.lt_succ_self j) ⟨by show j ≤ 32; omega, w2, hnF2, by show dvb _ F2 U2 = bb ^ (ee / 2 ^ j); rw [hF2]; congr 1; omega⟩ hP hD hS (lv_sub hl [0, 1, 2, 3] rfl)
          · have hE : 2 * (ee / 2 ^ (j + 1)) + 1 = ee / 2 ^ j := by omega
            refine lv_aload_n hx hb dX3_raiseInSpare_78 rfl (lv_at hl 1 rfl) ?_
            refine va_get (D := D) (ci := 3) (C := RX3) (T := TX3) (N := 7) (v := .ref hsp) hx hb hts kin_X3_w hown hK hP 0 rfl rfl 3 (by decide) (hts _ kfl_X3_32) (fun _ h9 => h9) rfl dX3_raiseInSpare_79 ?_
            refine lv_iload_n hx hb dX3_raiseInSpare_82 rfl (lv_at hl 2 rfl) ?_
            refine lv_i2l (v := lN bb) hx hb dX3_raiseInSpare_83 (nI_l hbb) ?_
            refine lv_lconst (v := lN 0) hx hb dX3_raiseInSpare_84 (by decide) ?_
            refine dm_goi (wr := [(h, .inr (3, [.ref hti, .ref hto, .ref hnu, .ref hsp, .ref hsq, .ref hsm, .long lv])), (hti, .inr (0, [.ref ati, .int (nI n)])), (ati, .inl (cB, 65536, .inl ft)), (hto, .inr (1, [.ref ato, .int (nI st)])), (ato, .inl (cB, 65536, .inl fx)), (hnu, .inr (2, [.ref anu, .int (nI uN)])), (anu, .inl (cI, 2048, .inl fN)), (hsq, .inr (2, [.ref asq, .int (nI U2)])), (asq, .inl (cI, 2048, .inl G2)), (hsm, .inr (2, [.ref asm, .int (nI um)])), (asm, .inl (cI, 2, .inl fm))]) (dm_rVN (n := 2) (As := [.long (lN bb), .long (lN 0)]) (rest := []) hC hl (c_X2_multiplyAndAdd l D cB cI cC hsp asp 2048 U2 bb 0 F2 w2 (by decide) hb0 (by omega) (by decide) hnF2 H.size) kco_X2_multiplyAndAdd ki_X2 kim_X2_multiplyAndAdd kse_X2_multiplyAndAdd knl_X3_139 (by decide +kernel) ⟨Nat.le_of_ble_eq_true rfl, Nat.le_of_ble_eq_true rfl⟩ rfl rfl ⟨dm_blind, va_recv hK hP (ci := 2) (q0 := 7) rfl rfl, dm_preU hK hP hD hC.2.2.2.2.2.2.2 [7, 8] (by decide) rfl⟩ rfl rfl (Nat.le_of_ble_eq_true rfl) dX3_raiseInSpare_85 ⟨Nat.le_of_ble_eq_true rfl, Nat.le_of_ble_eq_true rfl⟩) hP hD hS hA [7, 8] [0, 1, 2, 3, 4, 5, 6, 9, 10, 11, 12] rfl rfl (by decide) (by decide) (fun rc q H locs hm hP hD hS => ?_)
            obtain ⟨F3, U3⟩ := q
            have hP : va_P D vwCl [(h, .inr (3, [.ref hti, .ref hto, .ref hnu, .ref hsp, .ref hsq, .ref hsm, .long lv])), (hti, .inr (0, [.ref ati, .int (nI n)])), (ati, .inl (cB, 65536, .inl ft)), (hto, .inr (1, [.ref ato, .int (nI st)])), (ato, .inl (cB, 65536, .inl fx)), (hnu, .inr (2, [.ref anu, .int (nI uN)])), (anu, .inl (cI, 2048, .inl fN)), (hsq, .inr (2, [.ref asq, .int (nI U2)])), (asq, .inl (cI, 2048, .inl G2)), (hsm, .inr (2, [.ref asm, .int (nI um)])), (asm, .inl (cI, 2, .inl fm)), (hsp, .inr (2, [.ref asp, .int (nI U3)])), (asp, .inl (cI, 2048, .inl F3))] H := hP
            have hD : va_D A [(h, .inr (3, [.ref hti, .ref hto, .ref hnu, .ref hsp, .ref hsq, .ref hsm, .long lv])), (hti, .inr (0, [.ref ati, .int (nI n)])), (ati, .inl (cB, 65536, .inl ft)), (hto, .inr (1, [.ref ato, .int (nI st)])), (ato, .inl (cB, 65536, .inl fx)), (hnu, .inr (2, [.ref anu, .int (nI uN)])), (anu, .inl (cI, 2048, .inl fN)), (hsq, .inr (2, [.ref asq, .int (nI U2)])), (asq, .inl (cI, 2048, .inl G2)), (hsm, .inr (2, [.ref asm, .int (nI um)])), (asm, .inl (cI, 2, .inl fm)), (hsp, .inr (2, [.ref asp, .int (nI U3)])), (asp, .inl (cI, 2048, .inl F3))] := hD
            have hP := hP.sub (ws' := [(h, .inr (3, [.ref hti, .ref hto, .ref hnu, .ref hsp, .ref hsq, .ref hsm, .long lv])), (hti, .inr (0, [.ref ati, .int (nI n)])), (ati, .inl (cB, 65536, .inl ft)), (hto, .inr (1, [.ref ato, .int (nI st)])), (ato, .inl (cB, 65536, .inl fx)), (hnu, .inr (2, [.ref anu, .int (nI uN)])), (anu, .inl (cI, 2048, .inl fN)), (hsp, .inr (2, [.ref asp, .int (nI U3)])), (asp, .inl (cI, 2048, .inl F3)), (hsq, .inr (2, [.ref asq, .int (nI U2)])), (asq, .inl (cI, 2048, .inl G2)), (hsm, .inr (2, [.ref asm, .int (nI um)])), (asm, .inl (cI, 2, .inl fm))]) [0, 1, 2, 3, 4, 5, 6, 11, 12, 7, 8, 9, 10] rfl
            have hD := hD.sub (ws' := [(h, .inr (3, [.ref hti, .ref hto, .ref hnu, .ref hsp, .ref hsq, .ref hsm, .long lv])), (hti, .inr (0, [.ref ati, .int (nI n)])), (ati, .inl (cB, 65536, .inl ft)), (hto, .inr (1, [.ref ato, .int (nI st)])), (ato, .inl (cB, 65536, .inl fx)), (hnu, .inr (2, [.ref anu, .int (nI uN)])), (anu, .inl (cI, 2048, .inl fN)), (hsp, .inr (2, [.ref asp, .int (nI U3)])), (asp, .inl (cI, 2048, .inl F3)), (hsq, .inr (2, [.ref asq, .int (nI U2)])), (asq, .inl (cI, 2048, .inl G2)), (hsm, .inr (2, [.ref asm, .int (nI um)])), (asm, .inl (cI, 2, .inl fm))]) [0, 1, 2, 3, 4, 5, 6, 11, 12, 7, 8, 9, 10] (by decide) rfl
            have hE2 : bb ^ (2 * (ee / 2 ^ (j + 1))) * bb = bb ^ (ee / 2 ^ j) := by rw [← hE]; rfl
            rw [hF2, hE2, Nat.add_zero] at hm
            dsimp only at hm
            refine lv_if_ne (tgt := 93) hx hb dX3_raiseInSpare_88 (by decide) (fun hb2 => ?_) (fun hb2 => ?_)
            · have hm1 := hm.resolve_right (fun h9 => hb2 h9.1)
              refine lv_iinc (v := (nI j - nI 1)) (lv' := [(3, .int (nI j - nI 1)), (0, .ref h), (1, .int (nI bb)), (2, .int (nI ee))]) hx hb dX3_raiseInSpare_93 hl (k := 0) rfl (i_dec _) (by decide) rfl (fun ls hl => ?_)
              refine lv_goto (tgt := 38) hx hb dX3_raiseInSpare_96 (by decide) ?_
              exact ih (j, F3, U3, G2, U2) H locs ls (Nat.lt_succ_self j) ⟨by show j ≤ 32; omega, hm1.2.1, hm1.2.2.2, hm1.2.2.1⟩ hP hD hS (lv_sub hl [0, 1, 2, 3] rfl)
            · have hm1 := hm.resolve_left (fun h9 => absurd (hb2.symm.trans h9.1) (by decide))
              refine lv_iconst (v := nI 0) hx hb dX3_raiseInSpare_91 (by decide) ?_
              exact dm_zret (v := nI 0) hC (Or.inl rfl) hK (F3, U3, G2, U2) (Or.inr ⟨rfl, Nat.le_trans hm1.2.2 (pw_le hb0 hej)⟩) hP hD hS dX3_raiseInSpare_92
        · have h2U : 2048 < 2 * U := by
            rcases Nat.lt_or_ge 2048 (2 * U) with h9 | h9
            · exact h9
            · exact absurd (hb1.symm.trans (hw.1 h9).1) (by decide)
          have hbig := sq_big hnr h2U
          rw [hv, ← Nat.pow_add] at hbig
          refine lv_iconst (v := nI 0) hx hb dX3_raiseInSpare_56 (by decide) ?_
          exact dm_zret (v := nI 0) hC (Or.inl rfl) hK (F, U, G2, U2) (Or.inr ⟨rfl, Nat.le_trans hbig (pw_le hb0 (by omega))⟩) hP hD hS dX3_raiseInSpare_57
  · subst hc
    refine lv_aload_n hx hb dX3_raiseInSpare_4 rfl (lv_at hl 0 rfl) ?_
    refine va_get (D := D) (ci := 3) (C := RX3) (T := TX3) (N := 7) (v := .ref hsp) hx hb hts kin_X3_w hown hK hP 0 rfl rfl 3 (by decide) (hts _ kfl_X3_32) (fun _ h9 => h9) rfl dX3_raiseInSpare_5 ?_
    refine lv_iload_n hx hb dX3_raiseInSpare_8 rfl (lv_at hl 2 rfl) ?_
    refine dm_if_ne (tgt := 16) hx hb (by omega) dX3_raiseInSpare_9 (by decide) (fun hd => ?_) (fun hd => ?_)
    · refine lv_lconst (v := lN 0) hx hb dX3_raiseInSpare_16 (by decide) ?_
      refine dm_gov (wr := [(h, .inr (3, [.ref hti, .ref hto, .ref hnu, .ref hsp, .ref hsq, .ref hsm, .long lv])), (hti, .inr (0, [.ref ati, .int (nI n)])), (ati, .inl (cB, 65536, .inl ft)), (hto, .inr (1, [.ref ato, .int (nI st)])), (ato, .inl (cB, 65536, .inl fx)), (hnu, .inr (2, [.ref anu, .int (nI uN)])), (anu, .inl (cI, 2048, .inl fN)), (hsq, .inr (2, [.ref asq, .int (nI uq)])), (asq, .inl (cI, 2048, .inl fq)), (hsm, .inr (2, [.ref asm, .int (nI um)])), (asm, .inl (cI, 2, .inl fm))]) (dm_rVN (n := 1) (As := [.long (lN 0)]) (rest := []) hC hl (c_X2_becomeLong l D cB cI cC hsp asp 2048 us 0 fs (by decide) (by decide) (by decide) s.heap.size) kco_X2_becomeLong ki_X2 kim_X2_becomeLong kse_X2_becomeLong knl_X3_93 (by decide +kernel) ⟨Nat.le_of_ble_eq_true rfl, Nat.le_of_ble_eq_true rfl⟩ rfl rfl ⟨dm_blind, va_recv hK hP (ci := 2) (q0 := 7) rfl rfl, dm_preU hK hP hD hC.2.2.2.2.2.2.2 [7, 8] (by decide) rfl⟩ rfl rfl (Nat.le_of_ble_eq_true rfl) dX3_raiseInSpare_17 ⟨Nat.le_of_ble_eq_true rfl, Nat.le_of_ble_eq_true rfl⟩) hP hD hS hA [7, 8] [0, 1, 2, 3, 4, 5, 6, 9, 10, 11, 12] rfl rfl (by decide) (by decide) (fun q H locs hw hP hD hS => ?_)
      obtain ⟨f2, u2⟩ := q
      have hP : va_P D vwCl [(h, .inr (3, [.ref hti, .ref hto, .ref hnu, .ref hsp, .ref hsq, .ref hsm, .long lv])), (hti, .inr (0, [.ref ati, .int (nI n)])), (ati, .inl (cB, 65536, .inl ft)), (hto, .inr (1, [.ref ato, .int (nI st)])), (ato, .inl (cB, 65536, .inl fx)), (hnu, .inr (2, [.ref anu, .int (nI uN)])), (anu, .inl (cI, 2048, .inl fN)), (hsq, .inr (2, [.ref asq, .int (nI uq)])), (asq, .inl (cI, 2048, .inl fq)), (hsm, .inr (2, [.ref asm, .int (nI um)])), (asm, .inl (cI, 2, .inl fm)), (hsp, .inr (2, [.ref asp, .int (nI u2)])), (asp, .inl (cI, 2048, .inl f2))] H := hP
      have hD : va_D A [(h, .inr (3, [.ref hti, .ref hto, .ref hnu, .ref hsp, .ref hsq, .ref hsm, .long lv])), (hti, .inr (0, [.ref ati, .int (nI n)])), (ati, .inl (cB, 65536, .inl ft)), (hto, .inr (1, [.ref ato, .int (nI st)])), (ato, .inl (cB, 65536, .inl fx)), (hnu, .inr (2, [.ref anu, .int (nI uN)])), (anu, .inl (cI, 2048, .inl fN)), (hsq, .inr (2, [.ref asq, .int (nI uq)])), (asq, .inl (cI, 2048, .inl fq)), (hsm, .inr (2, [.ref asm, .int (nI um)])), (asm, .inl (cI, 2, .inl fm)), (hsp, .inr (2, [.ref asp, .int (nI u2)])), (asp, .inl (cI, 2048, .inl f2))] := hD
      have hP := hP.sub (ws' := [(h, .inr (3, [.ref hti, .ref hto, .ref hnu, .ref hsp, .ref hsq, .ref hsm, .long lv])), (hti, .inr (0, [.ref ati, .int (nI n)])), (ati, .inl (cB, 65536, .inl ft)), (hto, .inr (1, [.ref ato, .int (nI st)])), (ato, .inl (cB, 65536, .inl fx)), (hnu, .inr (2, [.ref anu, .int (nI uN)])), (anu, .inl (cI, 2048, .inl fN)), (hsp, .inr (2, [.ref asp, .int (nI u2)])), (asp, .inl (cI, 2048, .inl f2)), (hsq, .inr (2, [.ref asq, .int (nI uq)])), (asq, .inl (cI, 2048, .inl fq)), (hsm, .inr (2, [.ref asm, .int (nI um)])), (asm, .inl (cI, 2, .inl fm))]) [0, 1, 2, 3, 4, 5, 6, 11, 12, 7, 8, 9, 10] rfl
      have hD := hD.sub (ws' := [(h, .inr (3, [.ref hti, .ref hto, .ref hnu, .ref hsp, .ref hsq, .ref hsm, .long lv])), (hti, .inr (0, [.ref ati, .int (nI n)])), (ati, .inl (cB, 65536, .inl ft)), (hto, .inr (1, [.ref ato, .int (nI st)])), (ato, .inl (cB, 65536, .inl fx)), (hnu, .inr (2, [.ref anu, .int (nI uN)])), (anu, .inl (cI, 2048, .inl fN)), (hsp, .inr (2, [.ref asp, .int (nI u2)])), (asp, .inl (cI, 2048, .inl f2)), (hsq, .inr (2, [.ref asq, .int (nI uq)])), (asq, .inl (cI, 2048, .inl fq)), (hsm, .inr (2, [.ref asm, .int (nI um)])), (asm, .inl (cI, 2, .inl fm))]) [0, 1, 2, 3, 4, 5, 6, 11, 12, 7, 8, 9, 10] (by decide) rfl
      refine lv_iconst (v := nI 1) hx hb dX3_raiseInSpare_20 (by decide) ?_
      exact dm_zret (v := nI 1) hC (Or.inr rfl) hK (f2, u2, fq, uq) (Or.inl ⟨rfl, hw.1, hw.2.2, by show dvb _ f2 u2 = _; rw [Nat.zero_pow (by omega)]; exact hw.2.1⟩) hP hD hS dX3_raiseInSpare_21
    · refine lv_lconst (v := lN 1) hx hb dX3_raiseInSpare_12 (by decide) ?_
      refine lv_goto (tgt := 17) hx hb dX3_raiseInSpare_13 (by decide) ?_
      refine dm_gov (wr := [(h, .inr (3, [.ref hti, .ref hto, .ref hnu, .ref hsp, .ref hsq, .ref hsm, .long lv])), (hti, .inr (0, [.ref ati, .int (nI n)])), (ati, .inl (cB, 65536, .inl ft)), (hto, .inr (1, [.ref ato, .int (nI st)])), (ato, .inl (cB, 65536, .inl fx)), (hnu, .inr (2, [.ref anu, .int (nI uN)])), (anu, .inl (cI, 2048, .inl fN)), (hsq, .inr (2, [.ref asq, .int (nI uq)])), (asq, .inl (cI, 2048, .inl fq)), (hsm, .inr (2, [.ref asm, .int (nI um)])), (asm, .inl (cI, 2, .inl fm))]) (dm_rVN (n := 1) (As := [.long (lN 1)]) (rest := []) hC hl (c_X2_becomeLong l D cB cI cC hsp asp 2048 us 1 fs (by decide) (by decide) (by decide) s.heap.size) kco_X2_becomeLong ki_X2 kim_X2_becomeLong kse_X2_becomeLong knl_X3_93 (by decide +kernel) ⟨Nat.le_of_ble_eq_true rfl, Nat.le_of_ble_eq_true rfl⟩ rfl rfl ⟨dm_blind, va_recv hK hP (ci := 2) (q0 := 7) rfl rfl, dm_preU hK hP hD hC.2.2.2.2.2.2.2 [7, 8] (by decide) rfl⟩ rfl rfl (Nat.le_of_ble_eq_true rfl) dX3_raiseInSpare_17 ⟨Nat.le_of_ble_eq_true rfl, Nat.le_of_ble_eq_true rfl⟩) hP hD hS hA [7, 8] [0, 1, 2, 3, 4, 5, 6, 9, 10, 11, 12] rfl rfl (by decide) (by decide) (fun q H locs hw hP hD hS => ?_)
      obtain ⟨f2, u2⟩ := q
      have hP : va_P D vwCl [(h, .inr (3, [.ref hti, .ref hto, .ref hnu, .ref hsp, .ref hsq, .ref hsm, .long lv])), (hti, .inr (0, [.ref ati, .int (nI n)])), (ati, .inl (cB, 65536, .inl ft)), (hto, .inr (1, [.ref ato, .int (nI st)])), (ato, .inl (cB, 65536, .inl fx)), (hnu, .inr (2, [.ref anu, .int (nI uN)])), (anu, .inl (cI, 2048, .inl fN)), (hsq, .inr (2, [.ref asq, .int (nI uq)])), (asq, .inl (cI, 2048, .inl fq)), (hsm, .inr (2, [.ref asm, .int (nI um)])), (asm, .inl (cI, 2, .inl fm)), (hsp, .inr (2, [.ref asp, .int (nI u2)])), (asp, .inl (cI, 2048, .inl f2))] H := hP
      have hD : va_D A [(h, .inr (3, [.ref hti, .ref hto, .ref hnu, .ref hsp, .ref hsq, .ref hsm, .long lv])), (hti, .inr (0, [.ref ati, .int (nI n)])), (ati, .inl (cB, 65536, .inl ft)), (hto, .inr (1, [.ref ato, .int (nI st)])), (ato, .inl (cB, 65536, .inl fx)), (hnu, .inr (2, [.ref anu, .int (nI uN)])), (anu, .inl (cI, 2048, .inl fN)), (hsq, .inr (2, [.ref asq, .int (nI uq)])), (asq, .inl (cI, 2048, .inl fq)), (hsm, .inr (2, [.ref asm, .int (nI um)])), (asm, .inl (cI, 2, .inl fm)), (hsp, .inr (2, [.ref asp, .int (nI u2)])), (asp, .inl (cI, 2048, .inl f2))] := hD
      have hP := hP.sub (ws' := [(h, .inr (3, [.ref hti, .ref hto, .ref hnu, .ref hsp, .ref hsq, .ref hsm, .long lv])), (hti, .inr (0, [.ref ati, .int (nI n)])), (ati, .inl (cB, 65536, .inl ft)), (hto, .inr (1, [.ref ato, .int (nI st)])), (ato, .inl (cB, 65536, .inl fx)), (hnu, .inr (2, [.ref anu, .int (nI uN)])), (anu, .inl (cI, 2048, .inl fN)), (hsp, .inr (2, [.ref asp, .int (nI u2)])), (asp, .inl (cI, 2048, .inl f2)), (hsq, .inr (2, [.ref asq, .int (nI uq)])), (asq, .inl (cI, 2048, .inl fq)), (hsm, .inr (2, [.ref asm, .int (nI um)])), (asm, .inl (cI, 2, .inl fm))]) [0, 1, 2, 3, 4, 5, 6, 11, 12, 7, 8, 9, 10] rfl
      have hD := hD.sub (ws' := [(h, .inr (3, [.ref hti, .ref hto, .ref hnu, .ref hsp, .ref hsq, .ref hsm, .long lv])), (hti, .inr (0, [.ref ati, .int (nI n)])), (ati, .inl (cB, 65536, .inl ft)), (hto, .inr (1, [.ref ato, .int (nI st)])), (ato, .inl (cB, 65536, .inl fx)), (hnu, .inr (2, [.ref anu, .int (nI uN)])), (anu, .inl (cI, 2048, .inl fN)), (hsp, .inr (2, [.ref asp, .int (nI u2)])), (asp, .inl (cI, 2048, .inl f2)), (hsq, .inr (2, [.ref asq, .int (nI uq)])), (asq, .inl (cI, 2048, .inl fq)), (hsm, .inr (2, [.ref asm, .int (nI um)])), (asm, .inl (cI, 2, .inl fm))]) [0, 1, 2, 3, 4, 5, 6, 11, 12, 7, 8, 9, 10] (by decide) rfl
      refine lv_iconst (v := nI 1) hx hb dX3_raiseInSpare_20 (by decide) ?_
      exact dm_zret (v := nI 1) hC (Or.inr rfl) hK (f2, u2, fq, uq) (Or.inl ⟨rfl, hw.1, hw.2.2, by show dvb _ f2 u2 = _; rw [hd, Nat.pow_zero]; exact hw.2.1⟩) hP hD hS dX3_raiseInSpare_21

def pwOK (b e : Int32) (bb ee : Nat) : Prop := b = nI bb ∧ e = nI ee ∧ bb < 2 ^ 31 ∧ ee < 2 ^ 31 ∧ bb ^ ee < 4294967296 ^ 2048

set_option maxRecDepth 100000 in
set_option maxHeartbeats 4000000 in
theorem c_X3_power (l : Launch) (D : va_G) (cB cI cC : ClassId) (h hti ati hto ato hnu anu hsp asp hsq asq hsm asm n st uN us uq um : Nat) (ft fx fN fs fq fm : Nat → Int32) (lv : Int64) (b e0 : Int32) (huN : uN ≤ 2048) (hnr : nrm fN uN) : MI l yX3_power (Cond.code yX3_power cX3_power 3 (some .boolean)) 4 D (TY cB cI cC) [.ref h, .int b, .int e0] [(h, .inr (3, [.ref hti, .ref hto, .ref hnu, .ref hsp, .ref hsq, .ref hsm, .long lv])), (hti, .inr (0, [.ref ati, .int (nI n)])), (ati, .inl (cB, 65536, .inl ft)), (hto, .inr (1, [.ref ato, .int (nI st)])), (ato, .inl (cB, 65536, .inl fx)), (hnu, .inr (2, [.ref anu, .int (nI uN)])), (anu, .inl (cI, 2048, .inl fN)), (hsp, .inr (2, [.ref asp, .int (nI us)])), (asp, .inl (cI, 2048, .inl fs)), (hsq, .inr (2, [.ref asq, .int (nI uq)])), (asq, .inl (cI, 2048, .inl fq)), (hsm, .inr (2, [.ref asm, .int (nI um)])), (asm, .inl (cI, 2, .inl fm))] (S := (Nat → Int32) × Nat × (Nat → Int32) × Nat × (Nat → Int32) × Nat) (fun r q => q.2.1 ≤ 2048 ∧ nrm q.1 q.2.1 ∧ ((∃ bb ee, pwOK b e0 bb ee ∧ r = 1 ∧ dvb 4294967296 q.1 q.2.1 = bb ^ ee) ∨ ((∀ bb ee, ¬ pwOK b e0 bb ee) ∧ r = 0 ∧ dvb 4294967296 q.1 q.2.1 = dvb 4294967296 fN uN))) (fun q => [(h, .inr (3, [.ref hti, .ref hto, .ref hnu, .ref hsp, .ref hsq, .ref hsm, .long lv])), (hti, .inr (0, [.ref ati, .int (nI n)])), (ati, .inl (cB, 65536, .inl ft)), (hto, .inr (1, [.ref ato, .int (nI st)])), (ato, .inl (cB, 65536, .inl fx)), (hnu, .inr (2, [.ref anu, .int (nI q.2.1)])), (anu, .inl (cI, 2048, .inl q.1)), (hsp, .inr (2, [.ref asp, .int (nI q.2.2.2.1)])), (asp, .inl (cI, 2048, .inl q.2.2.1)), (hsq, .inr (2, [.ref asq, .int (nI q.2.2.2.2.2)])), (asq, .inl (cI, 2048, .inl q.2.2.2.2.1)), (hsm, .inr (2, [.ref asm, .int (nI um)])), (asm, .inl (cI, 2, .inl fm))]) := by
  refine MI.of (by decide) (Nat.le_of_ble_eq_true rfl) ?_
  intro p e s m below meth c ls A hC hA hP hK hD hS hl
  obtain ⟨hx, hb, hr, hml, hown, hts, hlocks, hN⟩ := id hC
  have hown : s.vm.findClass RX3 = some m.cls := hown
  have hl : lv_has ls 3 [(0, .ref h), (1, .int b), (2, .int e0)] := hl
  refine lv_iload_n hx hb dX3_power_0 rfl (lv_at hl 1 rfl) ?_
  refine lv_if_lt (tgt := 17) hx hb dX3_power_1 (by decide) (fun h1 => ?_) (fun h1 => ?_)
  · refine lv_iconst (v := nI 0) hx hb dX3_power_17 (by decide) ?_
    exact dm_zret (v := nI 0) hC (Or.inl rfl) hK (fN, uN, fs, us, fq, uq) ⟨huN, hnr, Or.inr ⟨fun bb ee h9 => by rw [h9.1] at h1; exact nI_pos h9.2.2.1 h1, rfl, rfl⟩⟩ hP hD hS dX3_power_18
  · refine lv_iload_n hx hb dX3_power_4 rfl (lv_at hl 2 rfl) ?_
    refine lv_if_lt (tgt := 17) hx hb dX3_power_5 (by decide) (fun h2 => ?_) (fun h2 => ?_)
    · refine lv_iconst (v := nI 0) hx hb dX3_power_17 (by decide) ?_
      exact dm_zret (v := nI 0) hC (Or.inl rfl) hK (fN, uN, fs, us, fq, uq) ⟨huN, hnr, Or.inr ⟨fun bb ee h9 => by rw [h9.2.1] at h2; exact nI_pos h9.2.2.2.1 h2, rfl, rfl⟩⟩ hP hD hS dX3_power_18
    · obtain ⟨bb, hbb, rfl⟩ := nI_of h1
      obtain ⟨ee, hee, rfl⟩ := nI_of h2
      refine lv_aload_n hx hb dX3_power_8 rfl (lv_at hl 0 rfl) ?_
      refine lv_iload_n hx hb dX3_power_9 rfl (lv_at hl 1 rfl) ?_
      refine lv_iload_n hx hb dX3_power_10 rfl (lv_at hl 2 rfl) ?_
      refine dm_goi (wr := []) (dm_rV (n := 2) (As := [.int (nI bb), .int (nI ee)]) (rest := []) hC hl (c_X3_raiseInSpare l D cB cI cC h hti ati hto ato hnu anu hsp asp hsq asq hsm asm n st uN us uq um ft fx fN fs fq fm lv bb ee hbb hee s.heap.size) kco_X3_raiseInSpare ki_X3 kim_X3_raiseInSpare kse_X3_raiseInSpare kml_X3_79 (by decide +kernel) ⟨Nat.le_of_ble_eq_true rfl, Nat.le_of_ble_eq_true rfl⟩ rfl rfl ⟨dm_blind, va_recv hK hP (ci := 3) (q0 := 0) rfl rfl, dm_preU hK hP hD hC.2.2.2.2.2.2.2 [0, 1, 2, 3, 4, 5, 6, 7, 8, 9, 10, 11, 12] (by decide) rfl⟩ rfl rfl (Nat.le_of_ble_eq_true rfl) dX3_power_11 ⟨Nat.le_of_ble_eq_true rfl, Nat.le_of_ble_eq_true rfl⟩) hP hD hS hA [0, 1, 2, 3, 4, 5, 6, 7, 8, 9, 10, 11, 12] [] rfl rfl (by decide) (by decide) (fun rb q H locs hw hP hD hS => ?_)
      obtain ⟨fs2, us2, fq2, uq2⟩ := q
      have hP : va_P D vwCl [(h, .inr (3, [.ref hti, .ref hto, .ref hnu, .ref hsp, .ref hsq, .ref hsm, .long lv])), (hti, .inr (0, [.ref ati, .int (nI n)])), (ati, .inl (cB, 65536, .inl ft)), (hto, .inr (1, [.ref ato, .int (nI st)])), (ato, .inl (cB, 65536, .inl fx)), (hnu, .inr (2, [.ref anu, .int (nI uN)])), (anu, .inl (cI, 2048, .inl fN)), (hsp, .inr (2, [.ref asp, .int (nI us2)])), (asp, .inl (cI, 2048, .inl fs2)), (hsq, .inr (2, [.ref asq, .int (nI uq2)])), (asq, .inl (cI, 2048, .inl fq2)), (hsm, .inr (2, [.ref asm, .int (nI um)])), (asm, .inl (cI, 2, .inl fm))] H := hP
      have hD : va_D A [(h, .inr (3, [.ref hti, .ref hto, .ref hnu, .ref hsp, .ref hsq, .ref hsm, .long lv])), (hti, .inr (0, [.ref ati, .int (nI n)])), (ati, .inl (cB, 65536, .inl ft)), (hto, .inr (1, [.ref ato, .int (nI st)])), (ato, .inl (cB, 65536, .inl fx)), (hnu, .inr (2, [.ref anu, .int (nI uN)])), (anu, .inl (cI, 2048, .inl fN)), (hsp, .inr (2, [.ref asp, .int (nI us2)])), (asp, .inl (cI, 2048, .inl fs2)), (hsq, .inr (2, [.ref asq, .int (nI uq2)])), (asq, .inl (cI, 2048, .inl fq2)), (hsm, .inr (2, [.ref asm, .int (nI um)])), (asm, .inl (cI, 2, .inl fm))] := hD
      dsimp only at hw
      refine lv_if_ne (tgt := 19) hx hb dX3_power_14 (by decide) (fun hb1 => ?_) (fun hb1 => ?_)
      · have hw1 := hw.resolve_right (fun h9 => hb1 h9.1)
        have hfit : bb ^ ee < 4294967296 ^ 2048 := by rw [← hw1.2.2.2]; exact Nat.lt_of_lt_of_le (dv32_lt fs2 us2) (Nat.pow_le_pow_right (by decide) hw1.2.1)
        refine lv_aload_n hx hb dX3_power_19 rfl (lv_at hl 0 rfl) ?_
        refine va_get (D := D) (ci := 3) (C := RX3) (T := TX3) (N := 7) (v := .ref hnu) hx hb hts kin_X3_w hown hK hP 0 rfl rfl 2 (by decide) (hts _ kfl_X3_28) (fun _ h9 => h9) rfl dX3_power_20 ?_
        refine lv_aload_n hx hb dX3_power_23 rfl (lv_at hl 0 rfl) ?_
        refine va_get (D := D) (ci := 3) (C := RX3) (T := TX3) (N := 7) (v := .ref hsp) hx hb hts kin_X3_w hown hK hP 0 rfl rfl 3 (by decide) (hts _ kfl_X3_32) (fun _ h9 => h9) rfl dX3_power_24 ?_
        refine dm_gov (wr := [(h, .inr (3, [.ref hti, .ref hto, .ref hnu, .ref hsp, .ref hsq, .ref hsm, .long lv])), (hti, .inr (0, [.ref ati, .int (nI n)])), (ati, .inl (cB, 65536, .inl ft)), (hto, .inr (1, [.ref ato, .int (nI st)])), (ato, .inl (cB, 65536, .inl fx)), (hsq, .inr (2, [.ref asq, .int (nI uq2)])), (asq, .inl (cI, 2048, .inl fq2)), (hsm, .inr (2, [.ref asm, .int (nI um)])), (asm, .inl (cI, 2, .inl fm))]) (dm_rVN (n := 1) (As := [.ref hsp]) (rest := []) hC hl (c_X2_becomeCopyOf l D cB cI cC hnu anu hsp asp 2048 uN us2 fN fs2 hw1.2.1 (by decide) H.size) kco_X2_becomeCopyOf ki_X2 kim_X2_becomeCopyOf kse_X2_becomeCopyOf knl_X3_64 (by decide +kernel) ⟨Nat.le_of_ble_eq_true rfl, Nat.le_of_ble_eq_true rfl⟩ rfl rfl ⟨dm_blind, va_recv hK hP (ci := 2) (q0 := 5) rfl rfl, dm_preU hK hP hD hC.2.2.2.2.2.2.2 [5, 6, 7, 8] (by decide) rfl⟩ rfl rfl (Nat.le_of_ble_eq_true rfl) dX3_power_27 ⟨Nat.le_of_ble_eq_true rfl, Nat.le_of_ble_eq_true rfl⟩) hP hD hS hA [5, 6, 7, 8] [0, 1, 2, 3, 4, 9, 10, 11, 12] rfl rfl (by decide) (by decide) (fun g2 H locs hg hP hD hS => ?_)
        have hP : va_P D vwCl [(h, .inr (3, [.ref hti, .ref hto, .ref hnu, .ref hsp, .ref hsq, .ref hsm, .long lv])), (hti, .inr (0, [.ref ati, .int (nI n)])), (ati, .inl (cB, 65536, .inl ft)), (hto, .inr (1, [.ref ato, .int (nI st)])), (ato, .inl (cB, 65536, .inl fx)), (hsq, .inr (2, [.ref asq, .int (nI uq2)])), (asq, .inl (cI, 2048, .inl fq2)), (hsm, .inr (2, [.ref asm, .int (nI um)])), (asm, .inl (cI, 2, .inl fm)), (hnu, .inr (2, [.ref anu, .int (nI us2)])), (anu, .inl (cI, 2048, .inl g2)), (hsp, .inr (2, [.ref asp, .int (nI us2)])), (asp, .inl (cI, 2048, .inl fs2))] H := hP
        have hD : va_D A [(h, .inr (3, [.ref hti, .ref hto, .ref hnu, .ref hsp, .ref hsq, .ref hsm, .long lv])), (hti, .inr (0, [.ref ati, .int (nI n)])), (ati, .inl (cB, 65536, .inl ft)), (hto, .inr (1, [.ref ato, .int (nI st)])), (ato, .inl (cB, 65536, .inl fx)), (hsq, .inr (2, [.ref asq, .int (nI uq2)])), (asq, .inl (cI, 2048, .inl fq2)), (hsm, .inr (2, [.ref asm, .int (nI um)])), (asm, .inl (cI, 2, .inl fm)), (hnu, .inr (2, [.ref anu, .int (nI us2)])), (anu, .inl (cI, 2048, .inl g2)), (hsp, .inr (2, [.ref asp, .int (nI us2)])), (asp, .inl (cI, 2048, .inl fs2))] := hD
        have hP := hP.sub (ws' := [(h, .inr (3, [.ref hti, .ref hto, .ref hnu, .ref hsp, .ref hsq, .ref hsm, .long lv])), (hti, .inr (0, [.ref ati, .int (nI n)])), (ati, .inl (cB, 65536, .inl ft)), (hto, .inr (1, [.ref ato, .int (nI st)])), (ato, .inl (cB, 65536, .inl fx)), (hnu, .inr (2, [.ref anu, .int (nI us2)])), (anu, .inl (cI, 2048, .inl g2)), (hsp, .inr (2, [.ref asp, .int (nI us2)])), (asp, .inl (cI, 2048, .inl fs2)), (hsq, .inr (2, [.ref asq, .int (nI uq2)])), (asq, .inl (cI, 2048, .inl fq2)), (hsm, .inr (2, [.ref asm, .int (nI um)])), (asm, .inl (cI, 2, .inl fm))]) [0, 1, 2, 3, 4, 9, 10, 11, 12, 5, 6, 7, 8] rfl
        have hD := hD.sub (ws' := [(h, .inr (3, [.ref hti, .ref hto, .ref hnu, .ref hsp, .ref hsq, .ref hsm, .long lv])), (hti, .inr (0, [.ref ati, .int (nI n)])), (ati, .inl (cB, 65536, .inl ft)), (hto, .inr (1, [.ref ato, .int (nI st)])), (ato, .inl (cB, 65536, .inl fx)), (hnu, .inr (2, [.ref anu, .int (nI us2)])), (anu, .inl (cI, 2048, .inl g2)), (hsp, .inr (2, [.ref asp, .int (nI us2)])), (asp, .inl (cI, 2048, .inl fs2)), (hsq, .inr (2, [.ref asq, .int (nI uq2)])), (asq, .inl (cI, 2048, .inl fq2)), (hsm, .inr (2, [.ref asm, .int (nI um)])), (asm, .inl (cI, 2, .inl fm))]) [0, 1, 2, 3, 4, 9, 10, 11, 12, 5, 6, 7, 8] (by decide) rfl
        refine lv_iconst (v := nI 1) hx hb dX3_power_30 (by decide) ?_
        exact dm_zret (v := nI 1) hC (Or.inr rfl) hK (g2, us2, fs2, us2, fq2, uq2) ⟨hw1.2.1, nrm_congr hg hw1.2.2.1, Or.inl ⟨bb, ee, ⟨rfl, rfl, hbb, hee, hfit⟩, rfl, by show dvb _ g2 us2 = _; rw [dvb_congr hg]; exact hw1.2.2.2⟩⟩ hP hD hS dX3_power_31
      · have hw1 := hw.resolve_left (fun h9 => absurd (hb1.symm.trans h9.1) (by decide))
        refine lv_iconst (v := nI 0) hx hb dX3_power_17 (by decide) ?_
        refine dm_zret (v := nI 0) hC (Or.inl rfl) hK (fN, uN, fs2, us2, fq2, uq2) ⟨huN, hnr, Or.inr ⟨fun b2 e2 h9 => ?_, rfl, rfl⟩⟩ hP hD hS dX3_power_18
        have e1 := (nI_eq hbb h9.2.2.1).mp h9.1
        have e3 := (nI_eq hee h9.2.2.2.1).mp h9.2.1
        have h8 := h9.2.2.2.2
        rw [← e1, ← e3] at h8
        exact absurd hw1.2 (Nat.not_le.mpr h8)
end
section
/-! what show shows -/
def svf (wd : Int32) (sg xv : Nat) : Nat := if wd = nI 32 then (if sg = 1 then (if xv % 4294967296 < 2147483648 then xv % 4294967296 else 18446744069414584320 + xv % 4294967296) else xv % 4294967296) else xv
def sng (wd : Int32) (sg xv : Nat) : Nat := if sg = 1 ∧ 9223372036854775808 ≤ svf wd sg xv then 1 else 0
def smg (wd : Int32) (sg xv : Nat) : Nat := if sg = 1 ∧ 9223372036854775808 ≤ svf wd sg xv then 18446744073709551616 - svf wd sg xv else svf wd sg xv
def outG (r V c : Nat) : Nat → Nat := fun i => if i < c then cdv (V / r ^ i % r) else 45
theorem svf_lt {wd : Int32} {sg xv : Nat} (h : xv < 18446744073709551616) : svf wd sg xv < 18446744073709551616 := by
  unfold svf
  repeat' split
  all_goals omega
theorem lN_negate {a : Nat} (h0 : 0 < a) (h : a < 18446744073709551616) : -(lN a) = lN (18446744073709551616 - a) := by
  have h2 : lN a + lN (18446744073709551616 - a) = 0 := by
    rw [lN_add, wb_mod, show (a + (18446744073709551616 - a)) % 2 ^ 64 = 0 by omega]
    rfl
  have h3 : lN (18446744073709551616 - a) = 0 - lN a := by
    rw [← h2, Int64.add_comm, Int64.add_sub_cancel]
  rw [h3, Int64.zero_sub]
theorem sxl (x : Int32) : x.toInt64 = lN (if un x < 2147483648 then un x else 18446744069414584320 + un x) := by
  have hl := un_lt x
  by_cases h : 0 ≤ x
  · obtain ⟨h1, h2⟩ := un_nneg h
    rw [if_pos h1, h2]
  · obtain ⟨h1, h2⟩ := un_isneg h
    rw [if_neg (by omega)]
    have h3 : x.toInt64 = -(lN (4294967296 - un x)) := by rw [← h2, Int64.neg_neg]
    rw [h3, lN_negate (by omega) (by omega)]
    congr 1
    omega
theorem pow64 {r V : Nat} (hr : 2 ≤ r) (h : V < 18446744073709551616) : V < r ^ 65536 := by
  have h1 : 2 ^ 64 ≤ r ^ 64 := Nat.pow_le_pow_left hr 64
  have h2 : r ^ 64 ≤ r ^ 65536 := Nat.pow_le_pow_right (by omega) (by omega)
  exact Nat.lt_of_lt_of_le h (Nat.le_trans h1 h2)
theorem isND_64 {r V c : Nat} (hr : 2 ≤ r) (h : V < 18446744073709551616) (hc : isND r V c) : c ≤ 64 := by
  rcases hc.2.2 with h1 | h1
  · omega
  · have h2 : V < r ^ 64 := Nat.lt_of_lt_of_le h (Nat.pow_le_pow_left hr 64)
    have h3 := (Nat.pow_lt_pow_iff_right (show 1 < r by omega)).mp (Nat.lt_of_le_of_lt h1 h2)
    omega

set_option maxRecDepth 100000 in
set_option maxHeartbeats 4000000 in
theorem c_X3_show (l : Launch) (D : va_G) (cB cI cC : ClassId) (h hti ati hto ato hnu anu hsp asp hsq asq hsm asm n st uN us uq um : Nat) (ft fx fN fs fq fm : Nat → Int32) (lv : Int64) (xv sg : Nat) (wd x : Int32) (hst : st ≤ 65536) (hxv : xv < 18446744073709551616) (hsg : sg < 2) : MI l yX3_show (Cond.code yX3_show cX3_show 9 (some .int)) 3 D (TY cB cI cC) [.ref h, .long (lN xv), .int wd, .int x, .int (nI sg)] [(h, .inr (3, [.ref hti, .ref hto, .ref hnu, .ref hsp, .ref hsq, .ref hsm, .long lv])), (hti, .inr (0, [.ref ati, .int (nI n)])), (ati, .inl (cB, 65536, .inl ft)), (hto, .inr (1, [.ref ato, .int (nI st)])), (ato, .inl (cB, 65536, .inl fx)), (hnu, .inr (2, [.ref anu, .int (nI uN)])), (anu, .inl (cI, 2048, .inl fN)), (hsp, .inr (2, [.ref asp, .int (nI us)])), (asp, .inl (cI, 2048, .inl fs)), (hsq, .inr (2, [.ref asq, .int (nI uq)])), (asq, .inl (cI, 2048, .inl fq)), (hsm, .inr (2, [.ref asm, .int (nI um)])), (asm, .inl (cI, 2, .inl fm))] (S := (Nat → Int32) × Nat × (Nat → Int32) × Nat) (fun b q => q.2.1 ≤ 65536 ∧ ((¬ (isWd wd ∧ isR x) ∧ b = -1 ∧ q.1 = fx ∧ q.2.1 = st) ∨ (isWd wd ∧ ∃ r c, 2 ≤ r ∧ r ≤ 36 ∧ x = nI r ∧ isND r (smg wd sg xv) c ∧ 65536 - q.2.1 = c + sng wd sg xv ∧ b = nI (65536 - q.2.1) ∧ ∀ i, i < 65536 - q.2.1 → q.1 (65535 - i) = nI (outG r (smg wd sg xv) c i)))) (fun q => [(h, .inr (3, [.ref hti, .ref hto, .ref hnu, .ref hsp, .ref hsq, .ref hsm, .long lv])), (hti, .inr (0, [.ref ati, .int (nI n)])), (ati, .inl (cB, 65536, .inl ft)), (hto, .inr (1, [.ref ato, .int (nI q.2.1)])), (ato, .inl (cB, 65536, .inl q.1)), (hnu, .inr (2, [.ref anu, .int (nI uN)])), (anu, .inl (cI, 2048, .inl fN)), (hsp, .inr (2, [.ref asp, .int (nI us)])), (asp, .inl (cI, 2048, .inl fs)), (hsq, .inr (2, [.ref asq, .int (nI uq)])), (asq, .inl (cI, 2048, .inl fq)), (hsm, .inr (2, [.ref asm, .int (nI q.2.2.2)])), (asm, .inl (cI, 2, .inl q.2.2.1))]) := by
  refine MI.of (by decide) (Nat.le_of_ble_eq_true rfl) ?_
  intro p e s m below meth c ls A hC hA hP hK hD hS hl
  obtain ⟨hx, hb, hr, hml, hown, hts, hlocks, hN⟩ := id hC
  have hown : s.vm.findClass RX3 = some m.cls := hown
  have hl : lv_has ls 9 [(0, .ref h), (1, .long (lN xv)), (3, .int wd), (4, .int x), (5, .int (nI sg))] := hl
  refine lv_iload_n hx hb dX3_show_0 rfl (lv_at hl 2 rfl) ?_
  refine dm_gori (dm_rS (n := 1) (As := [.int wd]) (rest := []) hC hl (c_X3_isWidth l D cB cI cC wd s.heap.size) kco_X3_isWidth ki_X3 kst_X3_isWidth kml_X3_88 (by decide +kernel) ⟨Nat.le_of_ble_eq_true rfl, Nat.le_of_ble_eq_true rfl⟩ rfl rfl ⟨dm_blind, dm_preU hK hP hD hC.2.2.2.2.2.2.2 [] (by decide) rfl⟩ rfl rfl (Nat.le_of_ble_eq_true rfl) dX3_show_1 ⟨Nat.le_of_ble_eq_true rfl, Nat.le_of_ble_eq_true rfl⟩) (fun r1 e1 => ?_)
  refine lv_if_eq (tgt := 15) hx hb dX3_show_4 (by decide) (fun hc => ?_) (fun hc => ?_)
  · refine lv_iconst (v := -1) hx hb dX3_show_15 (by decide) ?_
    exact dm_iret hC hK (fx, st, fm, um) ⟨hst, Or.inl ⟨fun h9 => (e1.resolve_left (fun h8 => absurd (hc.symm.trans h8.2) (by decide))).1 h9.1, rfl, rfl, rfl⟩⟩ hP hD hS dX3_show_16
  · have hwd := (e1.resolve_right (fun h8 => hc h8.2)).1
    refine lv_iload hx hb dX3_show_7 (lv_at hl 3 rfl) ?_
    refine dm_gori (dm_rS (n := 1) (As := [.int x]) (rest := []) hC hl (c_X3_isRadix l D cB cI cC x s.heap.size) kco_X3_isRadix ki_X3 kst_X3_isRadix kml_X3_53 (by decide +kernel) ⟨Nat.le_of_ble_eq_true rfl, Nat.le_of_ble_eq_true rfl⟩ rfl rfl ⟨dm_blind, dm_preU hK hP hD hC.2.2.2.2.2.2.2 [] (by decide) rfl⟩ rfl rfl (Nat.le_of_ble_eq_true rfl) dX3_show_9 ⟨Nat.le_of_ble_eq_true rfl, Nat.le_of_ble_eq_true rfl⟩) (fun r2 e2 => ?_)
    refine lv_if_ne (tgt := 17) hx hb dX3_show_12 (by decide) (fun hd => ?_) (fun hd => ?_)
    · obtain ⟨⟨r, hr2, hr36, rfl⟩, -⟩ := e2.resolve_right (fun h9 => hd h9.2)
      have hsv := svf_lt (wd := wd) (sg := sg) hxv
      obtain ⟨sv, hsve⟩ : ∃ z, z = svf wd sg xv := ⟨_, rfl⟩
      refine lv_lload_n hx hb dX3_show_17 rfl (lv_at hl 1 rfl) ?_
      refine lv_lstore (lv' := [(6, .long (lN xv)), (0, .ref h), (1, .long (lN xv)), (3, .int wd), (4, .int (nI r)), (5, .int (nI sg))]) hx hb dX3_show_18 hl (by decide) rfl (fun ls hl => ?_)
      refine dm_cutR (nL := 9) (σ := Unit) 44 (fun _ => True) (fun _ => [(6, .long (lN sv)), (0, .ref h), (1, .long (lN xv)), (3, .int wd), (4, .int (nI r)), (5, .int (nI sg))]) (fun hJ => ?_) ?_
      · refine lv_iload_n hx hb dX3_show_20 rfl (lv_at hl 3 rfl) ?_
        refine lv_bipush (v := nI 32) hx hb dX3_show_21 (by decide) ?_
        refine lv_icmp_ne (tgt := 44) hx hb dX3_show_23 (by decide) (fun hw => ?_) (fun hw => ?_)
        · have e3 : sv = xv := by rw [hsve]; unfold svf; rw [if_neg hw]
          rw [← e3] at hl
          exact hJ () ls trivial (by rw [e3] at hl ⊢; exact lv_sub hl [0, 1, 2, 3, 4, 5] rfl)
        · refine lv_iload hx hb dX3_show_26 (lv_at hl 5 rfl) ?_
          refine dm_if_eq (tgt := 37) hx hb (by omega) dX3_show_28 (by decide) (fun hs => ?_) (fun hs => ?_)
          · refine lv_lload_n hx hb dX3_show_37 rfl (lv_at hl 2 rfl) ?_
            refine lv_ldc2 (v := 4294967295) hx hb hown (hts _ kct_X3_91) dX3_show_38 ?_
            refine lv_land hx hb dX3_show_41 ?_
            refine dm_tl (y := lN sv) (by rw [hsve]; unfold svf; rw [if_pos hw, if_neg (show ¬ sg = 1 by omega)]; exact wb_mask (k := 32) hxv (by decide)) ?_
            refine lv_lstore (lv' := [(6, .long (lN sv)), (0, .ref h), (1, .long (lN xv)), (3, .int wd), (4, .int (nI r)), (5, .int (nI sg))]) hx hb dX3_show_42 hl (by decide) rfl (fun ls hl => ?_)
            exact hJ () ls trivial (lv_sub hl [0, 1, 2, 3, 4, 5] rfl)
          · refine lv_lload_n hx hb dX3_show_31 rfl (lv_at hl 2 rfl) ?_
            refine lv_l2i (v := nI xv) hx hb dX3_show_32 (lN_low) ?_
            refine lv_i2l (v := lN sv) hx hb dX3_show_33 (by rw [sxl, un_mod, hsve]; unfold svf; rw [if_pos hw, if_pos (show sg = 1 by omega)]) ?_
            refine lv_goto (tgt := 42) hx hb dX3_show_34 (by decide) ?_
            refine lv_lstore (lv' := [(6, .long (lN sv)), (0, .ref h), (1, .long (lN xv)), (3, .int wd), (4, .int (nI r)), (5, .int (nI sg))]) hx hb dX3_show_42 hl (by decide) rfl (fun ls hl => ?_)
            exact hJ () ls trivial (lv_sub hl [0, 1, 2, 3, 4, 5] rfl)
      · rintro - ls - hl
        have hsv : sv < 18446744073709551616 := by rw [hsve]; exact hsv
        obtain ⟨mg, hmg⟩ : ∃ z, z = smg wd sg xv := ⟨_, rfl⟩
        obtain ⟨ng, hng⟩ : ∃ z, z = sng wd sg xv := ⟨_, rfl⟩
        rw [← hmg, ← hng]
        unfold smg at hmg
        unfold sng at hng
        rw [← hsve] at hmg hng
        by_cases hneg : sg = 1 ∧ 9223372036854775808 ≤ sv
        · rw [if_pos hneg] at hmg hng
          have hmgl : mg < 18446744073709551616 := by omega
          refine lv_iload hx hb dX3_show_44 (lv_at hl 5 rfl) ?_
          refine dm_if_eq (tgt := 60) hx hb (by omega) dX3_show_46 (by decide) (fun hs => ?_) (fun hs => ?_)
          · omega
          · refine lv_lload hx hb dX3_show_49 (lv_at hl 0 rfl) ?_
            refine lv_lconst (v := lN 0) hx hb dX3_show_51 (by decide) ?_
            refine W.lcmp hx hb dX3_show_52 ?_
            refine dm_ti (y := lg_cmp (lN sv) (lN 0)) (rfl) ?_
            refine lv_if_ge (tgt := 60) hx hb dX3_show_53 (by decide) (fun hs2 => ?_) (fun hs2 => ?_)
            · exact absurd ((lg_cmp_ge _ _).mp hs2) (Int64.not_le.mpr (lN_neg hneg.2 hsv))
            · refine lv_iconst (v := nI 1) hx hb dX3_show_56 (by decide) ?_
              refine lv_goto (tgt := 61) hx hb dX3_show_57 (by decide) ?_
              refine lv_istore (lv' := [(8, .int (nI 1)), (6, .long (lN sv)), (0, .ref h), (1, .long (lN xv)), (3, .int wd), (4, .int (nI r)), (5, .int (nI sg))]) hx hb dX3_show_61 hl (by decide) rfl (fun ls hl => ?_)
              refine lv_aload_n hx hb dX3_show_63 rfl (lv_at hl 2 rfl) ?_
              refine va_get (D := D) (ci := 3) (C := RX3) (T := TX3) (N := 7) (v := .ref hsm) hx hb hts kin_X3_w hown hK hP 0 rfl rfl 5 (by decide) (hts _ kfl_X3_38) (fun _ h9 => h9) rfl dX3_show_64 ?_
              refine lv_iload hx hb dX3_show_67 (lv_at hl 0 rfl) ?_
              refine dm_if_eq (tgt := 78) hx hb (by omega) dX3_show_69 (by decide) (fun hg => ?_) (fun hg => ?_)
              · omega
              · refine lv_lload hx hb dX3_show_72 (lv_at hl 1 rfl) ?_
                refine lv_lneg hx hb dX3_show_74 ?_
                refine dm_tl (y := lN mg) (by rw [hmg]; exact lN_negate (by omega) (by omega)) ?_
                refine lv_goto (tgt := 80) hx hb dX3_show_75 (by decide) ?_
                refine dm_gov (wr := [(h, .inr (3, [.ref hti, .ref hto, .ref hnu, .ref hsp, .ref hsq, .ref hsm, .long lv])), (hti, .inr (0, [.ref ati, .int (nI n)])), (ati, .inl (cB, 65536, .inl ft)), (hto, .inr (1, [.ref ato, .int (nI st)])), (ato, .inl (cB, 65536, .inl fx)), (hnu, .inr (2, [.ref anu, .int (nI uN)])), (anu, .inl (cI, 2048, .inl fN)), (hsp, .inr (2, [.ref asp, .int (nI us)])), (asp, .inl (cI, 2048, .inl fs)), (hsq, .inr (2, [.ref asq, .int (nI uq)])), (asq, .inl (cI, 2048, .inl fq))]) (dm_rVN (n := 1) (As := [.long (lN mg)]) (rest := []) hC hl (c_X2_becomeLong l D cB cI cC hsm asm 2 um mg fm (by decide) (by decide) hmgl s.heap.size) kco_X2_becomeLong ki_X2 kim_X2_becomeLong kse_X2_becomeLong knl_X3_93 (by decide +kernel) ⟨Nat.le_of_ble_eq_true rfl, Nat.le_of_ble_eq_true rfl⟩ rfl rfl ⟨dm_blind, va_recv hK hP (ci := 2) (q0 := 11) rfl rfl, dm_preU hK hP hD hC.2.2.2.2.2.2.2 [11, 12] (by decide) rfl⟩ rfl rfl (Nat.le_of_ble_eq_true rfl) dX3_show_80 ⟨Nat.le_of_ble_eq_true rfl, Nat.le_of_ble_eq_true rfl⟩) hP hD hS hA [11, 12] [0, 1, 2, 3, 4, 5, 6, 7, 8, 9, 10] rfl rfl (by decide) (by decide) (fun q H locs hb9 hP hD hS => ?_)
                obtain ⟨f2, u2⟩ := q
                have hP : va_P D vwCl [(h, .inr (3, [.ref hti, .ref hto, .ref hnu, .ref hsp, .ref hsq, .ref hsm, .long lv])), (hti, .inr (0, [.ref ati, .int (nI n)])), (ati, .inl (cB, 65536, .inl ft)), (hto, .inr (1, [.ref ato, .int (nI st)])), (ato, .inl (cB, 65536, .inl fx)), (hnu, .inr (2, [.ref anu, .int (nI uN)])), (anu, .inl (cI, 2048, .inl fN)), (hsp, .inr (2, [.ref asp, .int (nI us)])), (asp, .inl (cI, 2048, .inl fs)), (hsq, .inr (2, [.ref asq, .int (nI uq)])), (asq, .inl (cI, 2048, .inl fq)), (hsm, .inr (2, [.ref asm, .int (nI u2)])), (asm, .inl (cI, 2, .inl f2))] H := hP
                have hD : va_D A [(h, .inr (3, [.ref hti, .ref hto, .ref hnu, .ref hsp, .ref hsq, .ref hsm, .long lv])), (hti, .inr (0, [.ref ati, .int (nI n)])), (ati, .inl (cB, 65536, .inl ft)), (hto, .inr (1, [.ref ato, .int (nI st)])), (ato, .inl (cB, 65536, .inl fx)), (hnu, .inr (2, [.ref anu, .int (nI uN)])), (anu, .inl (cI, 2048, .inl fN)), (hsp, .inr (2, [.ref asp, .int (nI us)])), (asp, .inl (cI, 2048, .inl fs)), (hsq, .inr (2, [.ref asq, .int (nI uq)])), (asq, .inl (cI, 2048, .inl fq)), (hsm, .inr (2, [.ref asm, .int (nI u2)])), (asm, .inl (cI, 2, .inl f2))] := hD
                obtain ⟨b1, b2, b3⟩ := hb9
                dsimp only at b1 b2 b3
                refine lv_aload_n hx hb dX3_show_83 rfl (lv_at hl 2 rfl) ?_
                refine va_get (D := D) (ci := 3) (C := RX3) (T := TX3) (N := 7) (v := .ref hto) hx hb hts kin_X3_w hown hK hP 0 rfl rfl 1 (by decide) (hts _ kfl_X3_19) (fun _ h9 => h9) rfl dX3_show_84 ?_
                refine lv_aload_n hx hb dX3_show_87 rfl (lv_at hl 2 rfl) ?_
                refine va_get (D := D) (ci := 3) (C := RX3) (T := TX3) (N := 7) (v := .ref hsm) hx hb hts kin_X3_w hown hK hP 0 rfl rfl 5 (by decide) (hts _ kfl_X3_38) (fun _ h9 => h9) rfl dX3_show_88 ?_
                refine lv_iload hx hb dX3_show_91 (lv_at hl 5 rfl) ?_
                refine dm_gov (wr := [(h, .inr (3, [.ref hti, .ref hto, .ref hnu, .ref hsp, .ref hsq, .ref hsm, .long lv])), (hti, .inr (0, [.ref ati, .int (nI n)])), (ati, .inl (cB, 65536, .inl ft)), (hnu, .inr (2, [.ref anu, .int (nI uN)])), (anu, .inl (cI, 2048, .inl fN)), (hsp, .inr (2, [.ref asp, .int (nI us)])), (asp, .inl (cI, 2048, .inl fs)), (hsq, .inr (2, [.ref asq, .int (nI uq)])), (asq, .inl (cI, 2048, .inl fq))]) (dm_rVN (n := 2) (As := [.ref hsm, .int (nI r)]) (rest := []) hC hl (c_X1_becomeDigitsOf l D cB cI cC hto ato hsm asm 2 st u2 r fx f2 b1 (by decide) b3 hr2 hr36 (by rw [b2]; exact pow64 hr2 hmgl) H.size) kco_X1_becomeDigitsOf ki_X1 kim_X1_becomeDigitsOf kse_X1_becomeDigitsOf knl_X3_68 (by decide +kernel) ⟨Nat.le_of_ble_eq_true rfl, Nat.le_of_ble_eq_true rfl⟩ rfl rfl ⟨dm_blind, va_recv hK hP (ci := 1) (q0 := 3) rfl rfl, dm_preU hK hP hD hC.2.2.2.2.2.2.2 [3, 4, 11, 12] (by decide) rfl⟩ rfl rfl (Nat.le_of_ble_eq_true rfl) dX3_show_93 ⟨Nat.le_of_ble_eq_true rfl, Nat.le_of_ble_eq_true rfl⟩) hP hD hS hA [3, 4, 11, 12] [0, 1, 2, 5, 6, 7, 8, 9, 10] rfl rfl (by decide) (by decide) (fun q H locs hw9 hP hD hS => ?_)
                obtain ⟨F2, s2, G2, U2⟩ := q
                have hP : va_P D vwCl [(h, .inr (3, [.ref hti, .ref hto, .ref hnu, .ref hsp, .ref hsq, .ref hsm, .long lv])), (hti, .inr (0, [.ref ati, .int (nI n)])), (ati, .inl (cB, 65536, .inl ft)), (hnu, .inr (2, [.ref anu, .int (nI uN)])), (anu, .inl (cI, 2048, .inl fN)), (hsp, .inr (2, [.ref asp, .int (nI us)])), (asp, .inl (cI, 2048, .inl fs)), (hsq, .inr (2, [.ref asq, .int (nI uq)])), (asq, .inl (cI, 2048, .inl fq)), (hto, .inr (1, [.ref ato, .int (nI s2)])), (ato, .inl (cB, 65536, .inl F2)), (hsm, .inr (2, [.ref asm, .int (nI U2)])), (asm, .inl (cI, 2, .inl G2))] H := hP
                have hD : va_D A [(h, .inr (3, [.ref hti, .ref hto, .ref hnu, .ref hsp, .ref hsq, .ref hsm, .long lv])), (hti, .inr (0, [.ref ati, .int (nI n)])), (ati, .inl (cB, 65536, .inl ft)), (hnu, .inr (2, [.ref anu, .int (nI uN)])), (anu, .inl (cI, 2048, .inl fN)), (hsp, .inr (2, [.ref asp, .int (nI us)])), (asp, .inl (cI, 2048, .inl fs)), (hsq, .inr (2, [.ref asq, .int (nI uq)])), (asq, .inl (cI, 2048, .inl fq)), (hto, .inr (1, [.ref ato, .int (nI s2)])), (ato, .inl (cB, 65536, .inl F2)), (hsm, .inr (2, [.ref asm, .int (nI U2)])), (asm, .inl (cI, 2, .inl G2))] := hD
                have hP := hP.sub (ws' := [(h, .inr (3, [.ref hti, .ref hto, .ref hnu, .ref hsp, .ref hsq, .ref hsm, .long lv])), (hti, .inr (0, [.ref ati, .int (nI n)])), (ati, .inl (cB, 65536, .inl ft)), (hto, .inr (1, [.ref ato, .int (nI s2)])), (ato, .inl (cB, 65536, .inl F2)), (hnu, .inr (2, [.ref anu, .int (nI uN)])), (anu, .inl (cI, 2048, .inl fN)), (hsp, .inr (2, [.ref asp, .int (nI us)])), (asp, .inl (cI, 2048, .inl fs)), (hsq, .inr (2, [.ref asq, .int (nI uq)])), (asq, .inl (cI, 2048, .inl fq)), (hsm, .inr (2, [.ref asm, .int (nI U2)])), (asm, .inl (cI, 2, .inl G2))]) [0, 1, 2, 9, 10, 3, 4, 5, 6, 7, 8, 11, 12] rfl
                have hD := hD.sub (ws' := [(h, .inr (3, [.ref hti, .ref hto, .ref hnu, .ref hsp, .ref hsq, .ref hsm, .long lv])), (hti, .inr (0, [.ref ati, .int (nI n)])), (ati, .inl (cB, 65536, .inl ft)), (hto, .inr (1, [.ref ato, .int (nI s2)])), (ato, .inl (cB, 65536, .inl F2)), (hnu, .inr (2, [.ref anu, .int (nI uN)])), (anu, .inl (cI, 2048, .inl fN)), (hsp, .inr (2, [.ref asp, .int (nI us)])), (asp, .inl (cI, 2048, .inl fs)), (hsq, .inr (2, [.ref asq, .int (nI uq)])), (asq, .inl (cI, 2048, .inl fq)), (hsm, .inr (2, [.ref asm, .int (nI U2)])), (asm, .inl (cI, 2, .inl G2))]) [0, 1, 2, 9, 10, 3, 4, 5, 6, 7, 8, 11, 12] (by decide) rfl
                obtain ⟨w1, w2, w3, w4⟩ := hw9
                dsimp only at w1 w2 w3 w4
                rw [b2] at w3 w4
                have hc64 := isND_64 hr2 hmgl w3
                refine lv_iload hx hb dX3_show_96 (lv_at hl 0 rfl) ?_
                refine dm_if_eq (tgt := 110) hx hb (by omega) dX3_show_98 (by decide) (fun hk => ?_) (fun hk => ?_)
                · omega
                · refine lv_aload_n hx hb dX3_show_101 rfl (lv_at hl 2 rfl) ?_
                  refine va_get (D := D) (ci := 3) (C := RX3) (T := TX3) (N := 7) (v := .ref hto) hx hb hts kin_X3_w hown hK hP 0 rfl rfl 1 (by decide) (hts _ kfl_X3_19) (fun _ h9 => h9) rfl dX3_show_102 ?_
                  refine lv_bipush (v := nI 45) hx hb dX3_show_105 (by decide) ?_
                  refine dm_gov (wr := [(h, .inr (3, [.ref hti, .ref hto, .ref hnu, .ref hsp, .ref hsq, .ref hsm, .long lv])), (hti, .inr (0, [.ref ati, .int (nI n)])), (ati, .inl (cB, 65536, .inl ft)), (hnu, .inr (2, [.ref anu, .int (nI uN)])), (anu, .inl (cI, 2048, .inl fN)), (hsp, .inr (2, [.ref asp, .int (nI us)])), (asp, .inl (cI, 2048, .inl fs)), (hsq, .inr (2, [.ref asq, .int (nI uq)])), (asq, .inl (cI, 2048, .inl fq)), (hsm, .inr (2, [.ref asm, .int (nI U2)])), (asm, .inl (cI, 2, .inl G2))]) (dm_rVN (n := 1) (As := [.int (nI 45)]) (rest := []) hC hl (c_X1_prepend l D cB cI cC hto ato s2 45 F2 w1 (by omega) (by decide) H.size) kco_X1_prepend ki_X1 kim_X1_prepend kse_X1_prepend knl_X3_97 (by decide +kernel) ⟨Nat.le_of_ble_eq_true rfl, Nat.le_of_ble_eq_true rfl⟩ rfl rfl ⟨dm_blind, va_recv hK hP (ci := 1) (q0 := 3) rfl rfl, dm_preU hK hP hD hC.2.2.2.2.2.2.2 [3, 4] (by decide) rfl⟩ rfl rfl (Nat.le_of_ble_eq_true rfl) dX3_show_107 ⟨Nat.le_of_ble_eq_true rfl, Nat.le_of_ble_eq_true rfl⟩) hP hD hS hA [3, 4] [0, 1, 2, 5, 6, 7, 8, 9, 10, 11, 12] rfl rfl (by decide) (by decide) (fun _ H locs _ hP hD hS => ?_)
                  have hP : va_P D vwCl [(h, .inr (3, [.ref hti, .ref hto, .ref hnu, .ref hsp, .ref hsq, .ref hsm, .long lv])), (hti, .inr (0, [.ref ati, .int (nI n)])), (ati, .inl (cB, 65536, .inl ft)), (hnu, .inr (2, [.ref anu, .int (nI uN)])), (anu, .inl (cI, 2048, .inl fN)), (hsp, .inr (2, [.ref asp, .int (nI us)])), (asp, .inl (cI, 2048, .inl fs)), (hsq, .inr (2, [.ref asq, .int (nI uq)])), (asq, .inl (cI, 2048, .inl fq)), (hsm, .inr (2, [.ref asm, .int (nI U2)])), (asm, .inl (cI, 2, .inl G2)), (hto, .inr (1, [.ref ato, .int (nI (s2 - 1))])), (ato, .inl (cB, 65536, .inl (upd F2 (s2 - 1) (nI 45))))] H := hP
                  have hD : va_D A [(h, .inr (3, [.ref hti, .ref hto, .ref hnu, .ref hsp, .ref hsq, .ref hsm, .long lv])), (hti, .inr (0, [.ref ati, .int (nI n)])), (ati, .inl (cB, 65536, .inl ft)), (hnu, .inr (2, [.ref anu, .int (nI uN)])), (anu, .inl (cI, 2048, .inl fN)), (hsp, .inr (2, [.ref asp, .int (nI us)])), (asp, .inl (cI, 2048, .inl fs)), (hsq, .inr (2, [.ref asq, .int (nI uq)])), (asq, .inl (cI, 2048, .inl fq)), (hsm, .inr (2, [.ref asm, .int (nI U2)])), (asm, .inl (cI, 2, .inl G2)), (hto, .inr (1, [.ref ato, .int (nI (s2 - 1))])), (ato, .inl (cB, 65536, .inl (upd F2 (s2 - 1) (nI 45))))] := hD
                  have hP := hP.sub (ws' := [(h, .inr (3, [.ref hti, .ref hto, .ref hnu, .ref hsp, .ref hsq, .ref hsm, .long lv])), (hti, .inr (0, [.ref ati, .int (nI n)])), (ati, .inl (cB, 65536, .inl ft)), (hto, .inr (1, [.ref ato, .int (nI (s2 - 1))])), (ato, .inl (cB, 65536, .inl (upd F2 (s2 - 1) (nI 45)))), (hnu, .inr (2, [.ref anu, .int (nI uN)])), (anu, .inl (cI, 2048, .inl fN)), (hsp, .inr (2, [.ref asp, .int (nI us)])), (asp, .inl (cI, 2048, .inl fs)), (hsq, .inr (2, [.ref asq, .int (nI uq)])), (asq, .inl (cI, 2048, .inl fq)), (hsm, .inr (2, [.ref asm, .int (nI U2)])), (asm, .inl (cI, 2, .inl G2))]) [0, 1, 2, 11, 12, 3, 4, 5, 6, 7, 8, 9, 10] rfl
                  have hD := hD.sub (ws' := [(h, .inr (3, [.ref hti, .ref hto, .ref hnu, .ref hsp, .ref hsq, .ref hsm, .long lv])), (hti, .inr (0, [.ref ati, .int (nI n)])), (ati, .inl (cB, 65536, .inl ft)), (hto, .inr (1, [.ref ato, .int (nI (s2 - 1))])), (ato, .inl (cB, 65536, .inl (upd F2 (s2 - 1) (nI 45)))), (hnu, .inr (2, [.ref anu, .int (nI uN)])), (anu, .inl (cI, 2048, .inl fN)), (hsp, .inr (2, [.ref asp, .int (nI us)])), (asp, .inl (cI, 2048, .inl fs)), (hsq, .inr (2, [.ref asq, .int (nI uq)])), (asq, .inl (cI, 2048, .inl fq)), (hsm, .inr (2, [.ref asm, .int (nI U2)])), (asm, .inl (cI, 2, .inl G2))]) [0, 1, 2, 11, 12, 3, 4, 5, 6, 7, 8, 9, 10] (by decide) rfl
                  refine lv_aload_n hx hb dX3_show_110 rfl (lv_at hl 2 rfl) ?_
                  refine va_get (D := D) (ci := 3) (C := RX3) (T := TX3) (N := 7) (v := .ref hto) hx hb hts kin_X3_w hown hK hP 0 rfl rfl 1 (by decide) (hts _ kfl_X3_19) (fun _ h9 => h9) rfl dX3_show_111 ?_
                  refine dm_gori (dm_rVN (n := 0) (As := []) (rest := []) hC hl (c_X1_size l D cB cI cC hto ato (s2 - 1) (upd F2 (s2 - 1) (nI 45)) (by omega) H.size) kco_X1_size ki_X1 kim_X1_size kse_X1_size knl_X3_72 (by decide +kernel) ⟨Nat.le_of_ble_eq_true rfl, Nat.le_of_ble_eq_true rfl⟩ rfl rfl ⟨dm_blind, va_recv hK hP (ci := 1) (q0 := 3) rfl rfl, dm_preU hK hP hD hC.2.2.2.2.2.2.2 [3, 4] (by decide) rfl⟩ rfl rfl (Nat.le_of_ble_eq_true rfl) dX3_show_114 ⟨Nat.le_of_ble_eq_true rfl, Nat.le_of_ble_eq_true rfl⟩) (fun r9 e9 => ?_)
                  refine dm_iret hC hK (upd F2 (s2 - 1) (nI 45), s2 - 1, G2, U2) ⟨by show s2 - 1 ≤ 65536; omega, Or.inr ⟨hwd, r, 65536 - s2, hr2, hr36, rfl, w3, by show 65536 - (s2 - 1) = _; rw [hng]; omega, e9, fun i hi => ?_⟩⟩ hP hD hS dX3_show_117
                  have hi : i < 65536 - (s2 - 1) := hi
                  show upd F2 (s2 - 1) (nI 45) (65535 - i) = nI (outG r mg (65536 - s2) i)
                  unfold outG
                  by_cases hi2 : i < 65536 - s2
                  · rw [if_pos hi2, pk_un (by omega)]; exact w4 i hi2
                  · rw [if_neg hi2, show 65535 - i = s2 - 1 by omega, pk_us]
        · rw [if_neg hneg] at hmg hng
          have hmgl : mg < 18446744073709551616 := by omega
          refine lv_iload hx hb dX3_show_44 (lv_at hl 5 rfl) ?_
          refine dm_if_eq (tgt := 60) hx hb (by omega) dX3_show_46 (by decide) (fun hs => ?_) (fun hs => ?_)
          · refine lv_iconst (v := nI 0) hx hb dX3_show_60 (by decide) ?_
            refine lv_istore (lv' := [(8, .int (nI 0)), (6, .long (lN sv)), (0, .ref h), (1, .long (lN xv)), (3, .int wd), (4, .int (nI r)), (5, .int (nI sg))]) hx hb dX3_show_61 hl (by decide) rfl (fun ls hl => ?_)
            refine lv_aload_n hx hb dX3_show_63 rfl (lv_at hl 2 rfl) ?_
            refine va_get (D := D) (ci := 3) (C := RX3) (T := TX3) (N := 7) (v := .ref hsm) hx hb hts kin_X3_w hown hK hP 0 rfl rfl 5 (by decide) (hts _ kfl_X3_38) (fun _ h9 => h9) rfl dX3_show_64 ?_
            refine lv_iload hx hb dX3_show_67 (lv_at hl 0 rfl) ?_
            refine dm_if_eq (tgt := 78) hx hb (by omega) dX3_show_69 (by decide) (fun hg => ?_) (fun hg => ?_)
            · refine lv_lload hx hb dX3_show_78 (lv_at hl 1 rfl) ?_
              refine dm_tl (y := lN mg) (by rw [hmg]) ?_
              refine dm_gov (wr := [(h, .inr (3, [.ref hti, .ref hto, .ref hnu, .ref hsp, .ref hsq, .ref hsm, .long lv])), (hti, .inr (0, [.ref ati, .int (nI n)])), (ati, .inl (cB, 65536, .inl ft)), (hto, .inr (1, [.ref ato, .int (nI st)])), (ato, .inl (cB, 65536, .inl fx)), (hnu, .inr (2, [.ref anu, .int (nI uN)])), (anu, .inl (cI, 2048, .inl fN)), (hsp, .inr (2, [.ref asp, .int (nI us)])), (asp, .inl (cI, 2048, .inl fs)), (hsq, .inr (2, [.ref asq, .int (nI uq)])), (asq, .inl (cI, 2048, .inl fq))]) (dm_rVN (n := 1) (As := [.long (lN mg)]) (rest := []) hC hl (c_X2_becomeLong l D cB cI cC hsm asm 2 um mg fm (by decide) (by decide) hmgl s.heap.size) kco_X2_becomeLong ki_X2 kim_X2_becomeLong kse_X2_becomeLong knl_X3_93 (by decide +kernel) ⟨Nat.le_of_ble_eq_true rfl, Nat.le_of_ble_eq_true rfl⟩ rfl rfl ⟨dm_blind, va_recv hK hP (ci := 2) (q0 := 11) rfl rfl, dm_preU hK hP hD hC.2.2.2.2.2.2.2 [11, 12] (by decide) rfl⟩ rfl rfl (Nat.le_of_ble_eq_true rfl) dX3_show_80 ⟨Nat.le_of_ble_eq_true rfl, Nat.le_of_ble_eq_true rfl⟩) hP hD hS hA [11, 12] [0, 1, 2, 3, 4, 5, 6, 7, 8, 9, 10] rfl rfl (by decide) (by decide) (fun q H locs hb9 hP hD hS => ?_)
              obtain ⟨f2, u2⟩ := q
              have hP : va_P D vwCl [(h, .inr (3, [.ref hti, .ref hto, .ref hnu, .ref hsp, .ref hsq, .ref hsm, .long lv])), (hti, .inr (0, [.ref ati, .int (nI n)])), (ati, .inl (cB, 65536, .inl ft)), (hto, .inr (1, [.ref ato, .int (nI st)])), (ato, .inl (cB, 65536, .inl fx)), (hnu, .inr (2, [.ref anu, .int (nI uN)])), (anu, .inl (cI, 2048, .inl fN)), (hsp, .inr (2, [.ref asp, .int (nI us)])), (asp, .inl (cI, 2048, .inl fs)), (hsq, .inr (2, [.ref asq, .int (nI uq)])), (asq, .inl (cI, 2048, .inl fq)), (hsm, .inr (2, [.ref asm, .int (nI u2)])), (asm, .inl (cI, 2, .inl f2))] H := hP
              have hD : va_D A [(h, .inr (3, [.ref hti, .ref hto, .ref hnu, .ref hsp, .ref hsq, .ref hsm, .long lv])), (hti, .inr (0, [.ref ati, .int (nI n)])), (ati, .inl (cB, 65536, .inl ft)), (hto, .inr (1, [.ref ato, .int (nI st)])), (ato, .inl (cB, 65536, .inl fx)), (hnu, .inr (2, [.ref anu, .int (nI uN)])), (anu, .inl (cI, 2048, .inl fN)), (hsp, .inr (2, [.ref asp, .int (nI us)])), (asp, .inl (cI, 2048, .inl fs)), (hsq, .inr (2, [.ref asq, .int (nI uq)])), (asq, .inl (cI, 2048, .inl fq)), (hsm, .inr (2, [.ref asm, .int (nI u2)])), (asm, .inl (cI, 2, .inl f2))] := hD
              obtain ⟨b1, b2, b3⟩ := hb9
              dsimp only at b1 b2 b3
              refine lv_aload_n hx hb dX3_show_83 rfl (lv_at hl 2 rfl) ?_
              refine va_get (D := D) (ci := 3) (C := RX3) (T := TX3) (N := 7) (v := .ref hto) hx hb hts kin_X3_w hown hK hP 0 rfl rfl 1 (by decide) (hts _ kfl_X3_19) (fun _ h9 => h9) rfl dX3_show_84 ?_
              refine lv_aload_n hx hb dX3_show_87 rfl (lv_at hl 2 rfl) ?_
              refine va_get (D := D) (ci := 3) (C := RX3) (T := TX3) (N := 7) (v := .ref hsm) hx hb hts kin_X3_w hown hK hP 0 rfl rfl 5 (by decide) (hts _ kfl_X3_38) (fun _ h9 => h9) rfl dX3_show_88 ?_
              refine lv_iload hx hb dX3_show_91 (lv_at hl 5 rfl) ?_
              refine dm_gov (wr := [(h, .inr (3, [.ref hti, .ref hto, .ref hnu, .ref hsp, .ref hsq, .ref hsm, .long lv])), (hti, .inr (0, [.ref ati, .int (nI n)])), (ati, .inl (cB, 65536, .inl ft)), (hnu, .inr (2, [.ref anu, .int (nI uN)])), (anu, .inl (cI, 2048, .inl fN)), (hsp, .inr (2, [.ref asp, .int (nI us)])), (asp, .inl (cI, 2048, .inl fs)), (hsq, .inr (2, [.ref asq, .int (nI uq)])), (asq, .inl (cI, 2048, .inl fq))]) (dm_rVN (n := 2) (As := [.ref hsm, .int (nI r)]) (rest := []) hC hl (c_X1_becomeDigitsOf l D cB cI cC hto ato hsm asm 2 st u2 r fx f2 b1 (by decide) b3 hr2 hr36 (by rw [b2]; exact pow64 hr2 hmgl) H.size) kco_X1_becomeDigitsOf ki_X1 kim_X1_becomeDigitsOf kse_X1_becomeDigitsOf knl_X3_68 (by decide +kernel) ⟨Nat.le_of_ble_eq_true rfl, Nat.le_of_ble_eq_true rfl⟩ rfl rfl ⟨dm_blind, va_recv hK hP (ci := 1) (q0 := 3) rfl rfl, dm_preU hK hP hD hC.2.2.2.2.2.2.2 [3, 4, 11, 12] (by decide) rfl⟩ rfl rfl (Nat.le_of_ble_eq_true rfl) dX3_show_93 ⟨Nat.le_of_ble_eq_true rfl, Nat.le_of_ble_eq_true rfl⟩) hP hD hS hA [3, 4, 11, 12] [0, 1, 2, 5, 6, 7, 8, 9, 10] rfl rfl (by decide) (by decide) (fun q H locs hw9 hP hD hS => ?_)
              obtain ⟨F2, s2, G2, U2⟩ := q
              have hP : va_P D vwCl [(h, .inr (3, [.ref hti, .ref hto, .ref hnu, .ref hsp, .ref hsq, .ref hsm, .long lv])), (hti, .inr (0, [.ref ati, .int (nI n)])), (ati, .inl (cB, 65536, .inl ft)), (hnu, .inr (2, [.ref anu, .int (nI uN)])), (anu, .inl (cI, 2048, .inl fN)), (hsp, .inr (2, [.ref asp, .int (nI us)])), (asp, .inl (cI, 2048, .inl fs)), (hsq, .inr (2, [.ref asq, .int (nI uq)])), (asq, .inl (cI, 2048, .inl fq)), (hto, .inr (1, [.ref ato, .int (nI s2)])), (ato, .inl (cB, 65536, .inl F2)), (hsm, .inr (2, [.ref asm, .int (nI U2)])), (asm, .inl (cI, 2, .inl G2))] H := hP
              have hD : va_D A [(h, .inr (3, [.ref hti, .ref hto, .ref hnu, .ref hsp, .ref hsq, .ref hsm, .long lv])), (hti, .inr (0, [.ref ati, .int (nI n)])), (ati, .inl (cB, 65536, .inl ft)), (hnu, .inr (2, [.ref anu, .int (nI uN)])), (anu, .inl (cI, 2048, .inl fN)), (hsp, .inr (2, [.ref asp, .int (nI us)])), (asp, .inl (cI, 2048, .inl fs)), (hsq, .inr (2, [.ref asq, .int (nI uq)])), (asq, .inl (cI, 2048, .inl fq)), (hto, .inr (1, [.ref ato, .int (nI s2)])), (ato, .inl (cB, 65536, .inl F2)), (hsm, .inr (2, [.ref asm, .int (nI U2)])), (asm, .inl (cI, 2, .inl G2))] := hD
              have hP := hP.sub (ws' := [(h, .inr (3, [.ref hti, .ref hto, .ref hnu, .ref hsp, .ref hsq, .ref hsm, .long lv])), (hti, .inr (0, [.ref ati, .int (nI n)])), (ati, .inl (cB, 65536, .inl ft)), (hto, .inr (1, [.ref ato, .int (nI s2)])), (ato, .inl (cB, 65536, .inl F2)), (hnu, .inr (2, [.ref anu, .int (nI uN)])), (anu, .inl (cI, 2048, .inl fN)), (hsp, .inr (2, [.ref asp, .int (nI us)])), (asp, .inl (cI, 2048, .inl fs)), (hsq, .inr (2, [.ref asq, .int (nI uq)])), (asq, .inl (cI, 2048, .inl fq)), (hsm, .inr (2, [.ref asm, .int (nI U2)])), (asm, .inl (cI, 2, .inl G2))]) [0, 1, 2, 9, 10, 3, 4, 5, 6, 7, 8, 11, 12] rfl
              have hD := hD.sub (ws' := [(h, .inr (3, [.ref hti, .ref hto, .ref hnu, .ref hsp, .ref hsq, .ref hsm, .long lv])), (hti, .inr (0, [.ref ati, .int (nI n)])), (ati, .inl (cB, 65536, .inl ft)), (hto, .inr (1, [.ref ato, .int (nI s2)])), (ato, .inl (cB, 65536, .inl F2)), (hnu, .inr (2, [.ref anu, .int (nI uN)])), (anu, .inl (cI, 2048, .inl fN)), (hsp, .inr (2, [.ref asp, .int (nI us)])), (asp, .inl (cI, 2048, .inl fs)), (hsq, .inr (2, [.ref asq, .int (nI uq)])), (asq, .inl (cI, 2048, .inl fq)), (hsm, .inr (2, [.ref asm, .int (nI U2)])), (asm, .inl (cI, 2, .inl G2))]) [0, 1, 2, 9, 10, 3, 4, 5, 6, 7, 8, 11, 12] (by decide) rfl
              obtain ⟨w1, w2, w3, w4⟩ := hw9
              dsimp only at w1 w2 w3 w4
              rw [b2] at w3 w4
              have hc64 := isND_64 hr2 hmgl w3
              refine lv_iload hx hb dX3_show_96 (lv_at hl 0 rfl) ?_
              refine dm_if_eq (tgt := 110) hx hb (by omega) dX3_show_98 (by decide) (fun hk => ?_) (fun hk => ?_)
              · refine lv_aload_n hx hb dX3_show_110 rfl (lv_at hl 2 rfl) ?_
                refine va_get (D := D) (ci := 3) (C := RX3) (T := TX3) (N := 7) (v := .ref hto) hx hb hts kin_X3_w hown hK hP 0 rfl rfl 1 (by decide) (hts _ kfl_X3_19) (fun _ h9 => h9) rfl dX3_show_111 ?_
                refine dm_gori (dm_rVN (n := 0) (As := []) (rest := []) hC hl (c_X1_size l D cB cI cC hto ato s2 F2 w1 H.size) kco_X1_size ki_X1 kim_X1_size kse_X1_size knl_X3_72 (by decide +kernel) ⟨Nat.le_of_ble_eq_true rfl, Nat.le_of_ble_eq_true rfl⟩ rfl rfl ⟨dm_blind, va_recv hK hP (ci := 1) (q0 := 3) rfl rfl, dm_preU hK hP hD hC.2.2.2.2.2.2.2 [3, 4] (by decide) rfl⟩ rfl rfl (Nat.le_of_ble_eq_true rfl) dX3_show_114 ⟨Nat.le_of_ble_eq_true rfl, Nat.le_of_ble_eq_true rfl⟩) (fun r9 e9 => ?_)
                refine dm_iret hC hK (F2, s2, G2, U2) ⟨w1, Or.inr ⟨hwd, r, 65536 - s2, hr2, hr36, rfl, w3, by show 65536 - s2 = _; rw [hng]; omega, e9, fun i hi => ?_⟩⟩ hP hD hS dX3_show_117
                have hi : i < 65536 - s2 := hi
                show F2 (65535 - i) = nI (outG r mg (65536 - s2) i)
                unfold outG
                rw [if_pos hi]; exact w4 i hi
              · omega
            · omega
          · have hsvl : sv < 9223372036854775808 := by omega
            refine lv_lload hx hb dX3_show_49 (lv_at hl 0 rfl) ?_
            refine lv_lconst (v := lN 0) hx hb dX3_show_51 (by decide) ?_
            refine dm_lc_ge (tgt := 60) hx hb (by omega) (by omega) dX3_show_52 dX3_show_53 (by decide) (fun hs2 => ?_) (fun hs2 => ?_)
            · refine lv_iconst (v := nI 0) hx hb dX3_show_60 (by decide) ?_
              refine lv_istore (lv' := [(8, .int (nI 0)), (6, .long (lN sv)), (0, .ref h), (1, .long (lN xv)), (3, .int wd), (4, .int (nI r)), (5, .int (nI sg))]) hx hb dX3_show_61 hl (by decide) rfl (fun ls hl => ?_)
              refine lv_aload_n hx hb dX3_show_63 rfl (lv_at hl 2 rfl) ?_
              refine va_get (D := D) (ci := 3) (C := RX3) (T := TX3) (N := 7) (v := .ref hsm) hx hb hts kin_X3_w hown hK hP 0 rfl rfl 5 (by decide) (hts _ kfl_X3_38) (fun _ h9 => h9) rfl dX3_show_64 ?_
              refine lv_iload hx hb dX3_show_67 (lv_at hl 0 rfl) ?_
              refine dm_if_eq (tgt := 78) hx hb (by omega) dX3_show_69 (by decide) (fun hg => ?_) (fun hg => ?_)
              · refine lv_lload hx hb dX3_show_78 (lv_at hl 1 rfl) ?_
                refine dm_tl (y := lN mg) (by rw [hmg]) ?_
                refine dm_gov (wr := [(h, .inr (3, [.ref hti, .ref hto, .ref hnu, .ref hsp, .ref hsq, .ref hsm, .long lv])), (hti, .inr (0, [.ref ati, .int (nI n)])), (ati, .inl (cB, 65536, .inl ft)), (hto, .inr (1, [.ref ato, .int (nI st)])), (ato, .inl (cB, 65536, .inl fx)), (hnu, .inr (2, [.ref anu, .int (nI uN)])), (anu, .inl (cI, 2048, .inl fN)), (hsp, .inr (2, [.ref asp, .int (nI us)])), (asp, .inl (cI, 2048, .inl fs)), (hsq, .inr (2, [.ref asq, .int (nI uq)])), (asq, .inl (cI, 2048, .inl fq))]) (dm_rVN (n := 1) (As := [.long (lN mg)]) (rest := []) hC hl (c_X2_becomeLong l D cB cI cC hsm asm 2 um mg fm (by decide) (by decide) hmgl s.heap.size) kco_X2_becomeLong ki_X2 kim_X2_becomeLong kse_X2_becomeLong knl_X3_93 (by decide +kernel) ⟨Nat.le_of_ble_eq_true rfl, Nat.le_of_ble_eq_true rfl⟩ rfl rfl ⟨dm_blind, va_recv hK hP (ci := 2) (q0 := 11) rfl rfl, dm_preU hK hP hD hC.2.2.2.2.2.2.2 [11, 12] (by decide) rfl⟩ rfl rfl (Nat.le_of_ble_eq_true rfl) dX3_show_80 ⟨Nat.le_of_ble_eq_true rfl, Nat.le_of_ble_eq_true rfl⟩) hP hD hS hA [11, 12] [0, 1, 2, 3, 4, 5, 6, 7, 8, 9, 10] rfl rfl (by decide) (by decide) (fun q H locs hb9 hP hD hS => ?_)
                obtain ⟨f2, u2⟩ := q
                have hP : va_P D vwCl [(h, .inr (3, [.ref hti, .ref hto, .ref hnu, .ref hsp, .ref hsq, .ref hsm, .long lv])), (hti, .inr (0, [.ref ati, .int (nI n)])), (ati, .inl (cB, 65536, .inl ft)), (hto, .inr (1, [.ref ato, .int (nI st)])), (ato, .inl (cB, 65536, .inl fx)), (hnu, .inr (2, [.ref anu, .int (nI uN)])), (anu, .inl (cI, 2048, .inl fN)), (hsp, .inr (2, [.ref asp, .int (nI us)])), (asp, .inl (cI, 2048, .inl fs)), (hsq, .inr (2, [.ref asq, .int (nI uq)])), (asq, .inl (cI, 2048, .inl fq)), (hsm, .inr (2, [.ref asm, .int (nI u2)])), (asm, .inl (cI, 2, .inl f2))] H := hP
                have hD : va_D A [(h, .inr (3, [.ref hti, .ref hto, .ref hnu, .ref hsp, .ref hsq, .ref hsm, .long lv])), (hti, .inr (0, [.ref ati, .int (nI n)])), (ati, .inl (cB, 65536, .inl ft)), (hto, .inr (1, [.ref ato, .int (nI st)])), (ato, .inl (cB, 65536, .inl fx)), (hnu, .inr (2, [.ref anu, .int (nI uN)])), (anu, .inl (cI, 2048, .inl fN)), (hsp, .inr (2, [.ref asp, .int (nI us)])), (asp, .inl (cI, 2048, .inl fs)), (hsq, .inr (2, [.ref asq, .int (nI uq)])), (asq, .inl (cI, 2048, .inl fq)), (hsm, .inr (2, [.ref asm, .int (nI u2)])), (asm, .inl (cI, 2, .inl f2))] := hD
                obtain ⟨b1, b2, b3⟩ := hb9
                dsimp only at b1 b2 b3
                refine lv_aload_n hx hb dX3_show_83 rfl (lv_at hl 2 rfl) ?_
                refine va_get (D := D) (ci := 3) (C := RX3) (T := TX3) (N := 7) (v := .ref hto) hx hb hts kin_X3_w hown hK hP 0 rfl rfl 1 (by decide) (hts _ kfl_X3_19) (fun _ h9 => h9) rfl dX3_show_84 ?_
                refine lv_aload_n hx hb dX3_show_87 rfl (lv_at hl 2 rfl) ?_
                refine va_get (D := D) (ci := 3) (C := RX3) (T := TX3) (N := 7) (v := .ref hsm) hx hb hts kin_X3_w hown hK hP 0 rfl rfl 5 (by decide) (hts _ kfl_X3_38) (fun _ h9 => h9) rfl dX3_show_88 ?_
                refine lv_iload hx hb dX3_show_91 (lv_at hl 5 rfl) ?_
                refine dm_gov (wr := [(h, .inr (3, [.ref hti, .ref hto, .ref hnu, .ref hsp, .ref hsq, .ref hsm, .long lv])), (hti, .inr (0, [.ref ati, .int (nI n)])), (ati, .inl (cB, 65536, .inl ft)), (hnu, .inr (2, [.ref anu, .int (nI uN)])), (anu, .inl (cI, 2048, .inl fN)), (hsp, .inr (2, [.ref asp, .int (nI us)])), (asp, .inl (cI, 2048, .inl fs)), (hsq, .inr (2, [.ref asq, .int (nI uq)])), (asq, .inl (cI, 2048, .inl fq))]) (dm_rVN (n := 2) (As := [.ref hsm, .int (nI r)]) (rest := []) hC hl (c_X1_becomeDigitsOf l D cB cI cC hto ato hsm asm 2 st u2 r fx f2 b1 (by decide) b3 hr2 hr36 (by rw [b2]; exact pow64 hr2 hmgl) H.size) kco_X1_becomeDigitsOf ki_X1 kim_X1_becomeDigitsOf kse_X1_becomeDigitsOf knl_X3_68 (by decide +kernel) ⟨Nat.le_of_ble_eq_true rfl, Nat.le_of_ble_eq_true rfl⟩ rfl rfl ⟨dm_blind, va_recv hK hP (ci := 1) (q0 := 3) rfl rfl, dm_preU hK hP hD hC.2.2.2.2.2.2.2 [3, 4, 11, 12] (by decide) rfl⟩ rfl rfl (Nat.le_of_ble_eq_true rfl) dX3_show_93 ⟨Nat.le_of_ble_eq_true rfl, Nat.le_of_ble_eq_true rfl⟩) hP hD hS hA [3, 4, 11, 12] [0, 1, 2, 5, 6, 7, 8, 9, 10] rfl rfl (by decide) (by decide) (fun q H locs hw9 hP hD hS => ?_)
                obtain ⟨F2, s2, G2, U2⟩ := q
                have hP : va_P D vwCl [(h, .inr (3, [.ref hti, .ref hto, .ref hnu, .ref hsp, .ref hsq, .ref hsm, .long lv])), (hti, .inr (0, [.ref ati, .int (nI n)])), (ati, .inl (cB, 65536, .inl ft)), (hnu, .inr (2, [.ref anu, .int (nI uN)])), (anu, .inl (cI, 2048, .inl fN)), (hsp, .inr (2, [.ref asp, .int (nI us)])), (asp, .inl (cI, 2048, .inl fs)), (hsq, .inr (2, [.ref asq, .int (nI uq)])), (asq, .inl (cI, 2048, .inl fq)), (hto, .inr (1, [.ref ato, .int (nI s2)])), (ato, .inl (cB, 65536, .inl F2)), (hsm, .inr (2, [.ref asm, .int (nI U2)])), (asm, .inl (cI, 2, .inl G2))] H := hP
                have hD : va_D A [(h, .inr (3, [.ref hti, .ref hto, .ref hnu, .ref hsp, .ref hsq, .ref hsm, .long lv])), (hti, .inr (0, [.ref ati, .int (nI n)])), (ati, .inl (cB, 65536, .inl ft)), (hnu, .inr (2, [.ref anu, .int (nI uN)])), (anu, .inl (cI, 2048, .inl fN)), (hsp, .inr (2, [.ref asp, .int (nI us)])), (asp, .inl (cI, 2048, .inl fs)), (hsq, .inr (2, [.ref asq, .int (nI uq)])), (asq, .inl (cI, 2048, .inl fq)), (hto, .inr (1, [.ref ato, .int (nI s2)])), (ato, .inl (cB, 65536, .inl F2)), (hsm, .inr (2, [.ref asm, .int (nI U2)])), (asm, .inl (cI, 2, .inl G2))] := hD
                have hP := hP.sub (ws' := [(h, .inr (3, [.ref hti, .ref hto, .ref hnu, .ref hsp, .ref hsq, .ref hsm, .long lv])), (hti, .inr (0, [.ref ati, .int (nI n)])), (ati, .inl (cB, 65536, .inl ft)), (hto, .inr (1, [.ref ato, .int (nI s2)])), (ato, .inl (cB, 65536, .inl F2)), (hnu, .inr (2, [.ref anu, .int (nI uN)])), (anu, .inl (cI, 2048, .inl fN)), (hsp, .inr (2, [.ref asp, .int (nI us)])), (asp, .inl (cI, 2048, .inl fs)), (hsq, .inr (2, [.ref asq, .int (nI uq)])), (asq, .inl (cI, 2048, .inl fq)), (hsm, .inr (2, [.ref asm, .int (nI U2)])), (asm, .inl (cI, 2, .inl G2))]) [0, 1, 2, 9, 10, 3, 4, 5, 6, 7, 8, 11, 12] rfl
                have hD := hD.sub (ws' := [(h, .inr (3, [.ref hti, .ref hto, .ref hnu, .ref hsp, .ref hsq, .ref hsm, .long lv])), (hti, .inr (0, [.ref ati, .int (nI n)])), (ati, .inl (cB, 65536, .inl ft)), (hto, .inr (1, [.ref ato, .int (nI s2)])), (ato, .inl (cB, 65536, .inl F2)), (hnu, .inr (2, [.ref anu, .int (nI uN)])), (anu, .inl (cI, 2048, .inl fN)), (hsp, .inr (2, [.ref asp, .int (nI us)])), (asp, .inl (cI, 2048, .inl fs)), (hsq, .inr (2, [.ref asq, .int (nI uq)])), (asq, .inl (cI, 2048, .inl fq)), (hsm, .inr (2, [.ref asm, .int (nI U2)])), (asm, .inl (cI, 2, .inl G2))]) [0, 1, 2, 9, 10, 3, 4, 5, 6, 7, 8, 11, 12] (by decide) rfl
                obtain ⟨w1, w2, w3, w4⟩ := hw9
                dsimp only at w1 w2 w3 w4
                rw [b2] at w3 w4
                have hc64 := isND_64 hr2 hmgl w3
                refine lv_iload hx hb dX3_show_96 (lv_at hl 0 rfl) ?_
                refine dm_if_eq (tgt := 110) hx hb (by omega) dX3_show_98 (by decide) (fun hk => ?_) (fun hk => ?_)
                · refine lv_aload_n hx hb dX3_show_110 rfl (lv_at hl 2 rfl) ?_
                  refine va_get (D := D) (ci := 3) (C := RX3) (T := TX3) (N := 7) (v := .ref hto) hx hb hts kin_X3_w hown hK hP 0 rfl rfl 1 (by decide) (hts _ kfl_X3_19) (fun _ h9 => h9) rfl dX3_show_111 ?_
                  refine dm_gori (dm_rVN (n := 0) (As := []) (rest := []) hC hl (c_X1_size l D cB cI cC hto ato s2 F2 w1 H.size) kco_X1_size ki_X1 kim_X1_size kse_X1_size knl_X3_72 (by decide +kernel) ⟨Nat.le_of_ble_eq_true rfl, Nat.le_of_ble_eq_true rfl⟩ rfl rfl ⟨dm_blind, va_recv hK hP (ci := 1) (q0 := 3) rfl rfl, dm_preU hK hP hD hC.2.2.2.2.2.2.2 [3, 4] (by decide) rfl⟩ rfl rfl (Nat.le_of_ble_eq_true rfl) dX3_show_114 ⟨Nat.le_of_ble_eq_true rfl, Nat.le_of_ble_eq_true rfl⟩) (fun r9 e9 => ?_)
                  refine dm_iret hC hK (F2, s2, G2, U2) ⟨w1, Or.inr ⟨hwd, r, 65536 - s2, hr2, hr36, rfl, w3, by show 65536 - s2 = _; rw [hng]; omega, e9, fun i hi => ?_⟩⟩ hP hD hS dX3_show_117
                  have hi : i < 65536 - s2 := hi
                  show F2 (65535 - i) = nI (outG r mg (65536 - s2) i)
                  unfold outG
                  rw [if_pos hi]; exact w4 i hi
                · omega
              · omega
            · exact absurd hs2 (Nat.not_lt_zero _)
    · refine lv_iconst (v := -1) hx hb dX3_show_15 (by decide) ?_
      exact dm_iret hC hK (fx, st, fm, um) ⟨hst, Or.inl ⟨fun h9 => (e2.resolve_left (fun h8 => absurd (hd.symm.trans h8.2) (by decide))).1 h9.2, rfl, rfl, rfl⟩⟩ hP hD hS dX3_show_16
end
section
/-! what parse answers -/
def pmn (sg n : Nat) (T : Nat → Nat) : Nat := if sg = 1 ∧ 0 < n ∧ T 0 = 45 then 1 else 0
def pfr (sg n : Nat) (T : Nat → Nat) : Nat := if pmn sg n T = 1 ∨ (0 < n ∧ T 0 = 43) then 1 else 0
def pfit (wn sg mi V : Nat) : Prop := V < 2 ^ (if sg = 1 then wn - 1 else wn) ∨ (mi = 1 ∧ V = 2 ^ (wn - 1))
def pgood (r sg n : Nat) (T : Nat → Nat) : Prop := pfr sg n T < n ∧ fo r T (pfr sg n T) (n - pfr sg n T) = n
def pval (r sg n : Nat) (T : Nat → Nat) : Nat := hn r T (pfr sg n T) (n - pfr sg n T)
theorem lN_inj64 {a b : Nat} (ha : a < 18446744073709551616) (hb : b < 18446744073709551616) : lN a = lN b ↔ a = b := by
  constructor
  · intro h
    have h1 := congrArg (fun z => (Int64.toBitVec z).toNat) h
    have h2 : (lN a).toBitVec.toNat = (lN b).toBitVec.toNat := h1
    rw [wb_tn ha, wb_tn hb] at h2
    exact h2
  · intro h; rw [h]

set_option maxRecDepth 100000 in
set_option maxHeartbeats 4000000 in
theorem c_X3_smallHasWidth (l : Launch) (D : va_G) (cB cI cC : ClassId) (h hti ati hto ato hnu anu hsp asp hsq asq hsm asm n st uN us uq um : Nat) (ft fx fN fs fq fm : Nat → Int32) (lv : Int64) (wn sg mi : Nat) (hwn : wn = 32 ∨ wn = 64) (hsg : sg < 2) (hmi : mi < 2) (hum : um ≤ 2) (hnm : nrm fm um) : ROi l yX3_smallHasWidth (Cond.code yX3_smallHasWidth cX3_smallHasWidth 4 (some .boolean)) 2 D (TY cB cI cC) [.ref h, .int (nI wn), .int (nI sg), .int (nI mi)] [(h, .inr (3, [.ref hti, .ref hto, .ref hnu, .ref hsp, .ref hsq, .ref hsm, .long lv])), (hti, .inr (0, [.ref ati, .int (nI n)])), (ati, .inl (cB, 65536, .inl ft)), (hto, .inr (1, [.ref ato, .int (nI st)])), (ato, .inl (cB, 65536, .inl fx)), (hnu, .inr (2, [.ref anu, .int (nI uN)])), (anu, .inl (cI, 2048, .inl fN)), (hsp, .inr (2, [.ref asp, .int (nI us)])), (asp, .inl (cI, 2048, .inl fs)), (hsq, .inr (2, [.ref asq, .int (nI uq)])), (asq, .inl (cI, 2048, .inl fq)), (hsm, .inr (2, [.ref asm, .int (nI um)])), (asm, .inl (cI, 2, .inl fm))] (fun b => (pfit wn sg mi (dvb 4294967296 fm um) ∧ b = 1) ∨ (¬ pfit wn sg mi (dvb 4294967296 fm um) ∧ b = 0)) := by
  refine ROi.of (by decide) (Nat.le_of_ble_eq_true rfl) ?_
  intro p e s m below meth c ls A hC hA hP hK hD hS hl
  obtain ⟨hx, hb, hr, hml, hown, hts, hlocks, hN⟩ := id hC
  have hown : s.vm.findClass RX3 = some m.cls := hown
  have hl : lv_has ls 4 [(0, .ref h), (1, .int (nI wn)), (2, .int (nI sg)), (3, .int (nI mi))] := hl
  have hVl : dvb 4294967296 fm um < 18446744073709551616 := Nat.lt_of_lt_of_le (dv32_lt fm um) (show 4294967296 ^ um ≤ 4294967296 ^ 2 from Nat.pow_le_pow_right (by decide) hum)
  refine lv_aload_n hx hb dX3_smallHasWidth_0 rfl (lv_at hl 0 rfl) ?_
  refine va_get (D := D) (ci := 3) (C := RX3) (T := TX3) (N := 7) (v := .ref hsm) hx hb hts kin_X3_w hown hK hP 0 rfl rfl 5 (by decide) (hts _ kfl_X3_38) (fun _ h9 => h9) rfl dX3_smallHasWidth_1 ?_
  refine dm_gori (dm_rVN (n := 0) (As := []) (rest := []) hC hl (c_X2_countBits l D cB cI cC hsm asm 2 um fm hum (by decide) hnm s.heap.size) kco_X2_countBits ki_X2 kim_X2_countBits kse_X2_countBits knl_X3_107 (by decide +kernel) ⟨Nat.le_of_ble_eq_true rfl, Nat.le_of_ble_eq_true rfl⟩ rfl rfl ⟨dm_blind, va_recv hK hP (ci := 2) (q0 := 11) rfl rfl, dm_preU hK hP hD hC.2.2.2.2.2.2.2 [11, 12] (by decide) rfl⟩ rfl rfl (Nat.le_of_ble_eq_true rfl) dX3_smallHasWidth_4 ⟨Nat.le_of_ble_eq_true rfl, Nat.le_of_ble_eq_true rfl⟩) (fun r1 e1 => ?_)
  subst e1
  obtain ⟨V, hV⟩ : ∃ z, z = dvb 4294967296 fm um := ⟨_, rfl⟩
  rw [← hV] at hVl ⊢
  have hblV : bl V ≤ 64 := bl_le.mpr hVl
  refine lv_iload_n hx hb dX3_smallHasWidth_7 rfl (lv_at hl 2 rfl) ?_
  refine dm_if_eq (tgt := 17) hx hb (by omega) dX3_smallHasWidth_8 (by decide) (fun hs => ?_) (fun hs => ?_)
  · refine lv_iload_n hx hb dX3_smallHasWidth_17 rfl (lv_at hl 1 rfl) ?_
    refine dm_icmp_gt (tgt := 23) hx hb (by omega) (by omega) dX3_smallHasWidth_18 (by decide) (fun hd => ?_) (fun hd => ?_)
    · refine lv_iload_n hx hb dX3_smallHasWidth_23 rfl (lv_at hl 3 rfl) ?_
      refine dm_if_eq (tgt := 47) hx hb (by omega) dX3_smallHasWidth_24 (by decide) (fun hm => ?_) (fun hm => ?_)
      · refine lv_iconst (v := nI 0) hx hb dX3_smallHasWidth_47 (by decide) ?_
        exact ri_zret hC (Or.inl rfl) (Or.inr ⟨fun h9 => h9.elim (fun h8 => absurd (bl_le.mpr h8) (by rw [if_neg (show ¬ sg = 1 by omega)]; omega)) (fun h8 => by omega), rfl⟩) dX3_smallHasWidth_48
      · refine lv_aload_n hx hb dX3_smallHasWidth_27 rfl (lv_at hl 0 rfl) ?_
        refine va_get (D := D) (ci := 3) (C := RX3) (T := TX3) (N := 7) (v := .ref hsm) hx hb hts kin_X3_w hown hK hP 0 rfl rfl 5 (by decide) (hts _ kfl_X3_38) (fun _ h9 => h9) rfl dX3_smallHasWidth_28 ?_
        refine dm_gorl (dm_rVN (n := 0) (As := []) (rest := []) hC hl (c_X2_lowLong l D cB cI cC hsm asm 2 um fm hum hum (by decide) s.heap.size) kco_X2_lowLong ki_X2 kim_X2_lowLong kse_X2_lowLong knl_X3_126 (by decide +kernel) ⟨Nat.le_of_ble_eq_true rfl, Nat.le_of_ble_eq_true rfl⟩ rfl rfl ⟨dm_blind, va_recv hK hP (ci := 2) (q0 := 11) rfl rfl, dm_preU hK hP hD hC.2.2.2.2.2.2.2 [11, 12] (by decide) rfl⟩ rfl rfl (Nat.le_of_ble_eq_true rfl) dX3_smallHasWidth_31 ⟨Nat.le_of_ble_eq_true rfl, Nat.le_of_ble_eq_true rfl⟩) (fun r2 e2 => ?_)
        rw [← hV] at e2
        subst e2
        have hp63 : 2 ^ (wn - 1) < 18446744073709551616 := by rcases hwn with rfl | rfl <;> decide
        refine lv_lconst (v := lN 1) hx hb dX3_smallHasWidth_34 (by decide) ?_
        refine lv_iload_n hx hb dX3_smallHasWidth_35 rfl (lv_at hl 1 rfl) ?_
        refine lv_iconst (v := nI 1) hx hb dX3_smallHasWidth_36 (by decide) ?_
        refine lv_isub hx hb dX3_smallHasWidth_37 ?_
        refine dm_ti (y := nI (wn - 1)) (pk_sub (by omega)) ?_
        refine lv_lshl (v := lN (1 * 2 ^ (wn - 1))) hx hb dX3_smallHasWidth_38 (wb_shl 1 (k := wn - 1) (by omega)) ?_
        refine W.lcmp hx hb dX3_smallHasWidth_39 ?_
        refine dm_ti (y := lg_cmp (lN V) (lN (1 * 2 ^ (wn - 1)))) (rfl) ?_
        refine lv_if_ne (tgt := 47) hx hb dX3_smallHasWidth_40 (by decide) (fun he => ?_) (fun he => ?_)
        · refine lv_iconst (v := nI 0) hx hb dX3_smallHasWidth_47 (by decide) ?_
          exact ri_zret hC (Or.inl rfl) (Or.inr ⟨fun h9 => h9.elim (fun h8 => absurd (bl_le.mpr h8) (by rw [if_neg (show ¬ sg = 1 by omega)]; omega)) (fun h8 => he ((lg_cmp_eq _ _).mpr (by rw [Nat.one_mul]; exact (lN_inj64 hVl hp63).mpr h8.2))), rfl⟩) dX3_smallHasWidth_48
        · have he2 := (lg_cmp_eq _ _).mp he
          rw [Nat.one_mul] at he2
          refine lv_iconst (v := nI 1) hx hb dX3_smallHasWidth_43 (by decide) ?_
          refine lv_goto (tgt := 48) hx hb dX3_smallHasWidth_44 (by decide) ?_
          exact ri_zret hC (Or.inr rfl) (Or.inl ⟨Or.inr ⟨by omega, (lN_inj64 hVl hp63).mp he2⟩, rfl⟩) dX3_smallHasWidth_48
    · refine lv_iconst (v := nI 1) hx hb dX3_smallHasWidth_21 (by decide) ?_
      exact ri_zret hC (Or.inr rfl) (Or.inl ⟨Or.inl (by rw [if_neg (show ¬ sg = 1 by omega)]; exact bl_le.mp hd), rfl⟩) dX3_smallHasWidth_22
  · refine lv_iload_n hx hb dX3_smallHasWidth_11 rfl (lv_at hl 1 rfl) ?_
    refine lv_iconst (v := nI 1) hx hb dX3_smallHasWidth_12 (by decide) ?_
    refine lv_isub hx hb dX3_smallHasWidth_13 ?_
    refine dm_ti (y := nI (wn - 1)) (pk_sub (by omega)) ?_
    refine lv_goto (tgt := 18) hx hb dX3_smallHasWidth_14 (by decide) ?_
    refine dm_icmp_gt (tgt := 23) hx hb (by omega) (by omega) dX3_smallHasWidth_18 (by decide) (fun hd => ?_) (fun hd => ?_)
    · refine lv_iload_n hx hb dX3_smallHasWidth_23 rfl (lv_at hl 3 rfl) ?_
      refine dm_if_eq (tgt := 47) hx hb (by omega) dX3_smallHasWidth_24 (by decide) (fun hm => ?_) (fun hm => ?_)
      · refine lv_iconst (v := nI 0) hx hb dX3_smallHasWidth_47 (by decide) ?_
        exact ri_zret hC (Or.inl rfl) (Or.inr ⟨fun h9 => h9.elim (fun h8 => absurd (bl_le.mpr h8) (by rw [if_pos (show sg = 1 by omega)]; omega)) (fun h8 => by omega), rfl⟩) dX3_smallHasWidth_48
      · refine lv_aload_n hx hb dX3_smallHasWidth_27 rfl (lv_at hl 0 rfl) ?_
        refine va_get (D := D) (ci := 3) (C := RX3) (T := TX3) (N := 7) (v := .ref hsm) hx hb hts kin_X3_w hown hK hP 0 rfl rfl 5 (by decide) (hts _ kfl_X3_38) (fun _ h9 => h9) rfl dX3_smallHasWidth_28 ?_
        refine dm_gorl (dm_rVN (n := 0) (As := []) (rest := []) hC hl (c_X2_lowLong l D cB cI cC hsm asm 2 um fm hum hum (by decide) s.heap.size) kco_X2_lowLong ki_X2 kim_X2_lowLong kse_X2_lowLong knl_X3_126 (by decide +kernel) ⟨Nat.le_of_ble_eq_true rfl, Nat.le_of_ble_eq_true rfl⟩ rfl rfl ⟨dm_blind, va_recv hK hP (ci := 2) (q0 := 11) rfl rfl, dm_preU hK hP hD hC.2.2.2.2.2.2.2 [11, 12] (by decide) rfl⟩ rfl rfl (Nat.le_of_ble_eq_true rfl) dX3_smallHasWidth_31 ⟨Nat.le_of_ble_eq_true rfl, Nat.le_of_ble_eq_true rfl⟩) (fun r2 e2 => ?_)
        rw [← hV] at e2
        subst e2
        have hp63 : 2 ^ (wn - 1) < 18446744073709551616 := by rcases hwn with rfl | rfl <;> decide
        refine lv_lconst (v := lN 1) hx hb dX3_smallHasWidth_34 (by decide) ?_
        refine lv_iload_n hx hb dX3_smallHasWidth_35 rfl (lv_at hl 1 rfl) ?_
        refine lv_iconst (v := nI 1) hx hb dX3_smallHasWidth_36 (by decide) ?_
        refine lv_isub hx hb dX3_smallHasWidth_37 ?_
        refine dm_ti (y := nI (wn - 1)) (pk_sub (by omega)) ?_
        refine lv_lshl (v := lN (1 * 2 ^ (wn - 1))) hx hb dX3_smallHasWidth_38 (wb_shl 1 (k := wn - 1) (by omega)) ?_
        refine W.lcmp hx hb dX3_smallHasWidth_39 ?_
        refine dm_ti (y := lg_cmp (lN V) (lN (1 * 2 ^ (wn - 1)))) (rfl) ?_
        refine lv_if_ne (tgt := 47) hx hb dX3_smallHasWidth_40 (by decide) (fun he => ?_) (fun he => ?_)
        · refine lv_iconst (v := nI 0) hx hb dX3_smallHasWidth_47 (by decide) ?_
          exact ri_zret hC (Or.inl rfl) (Or.inr ⟨fun h9 => h9.elim (fun h8 => absurd (bl_le.mpr h8) (by rw [if_pos (show sg = 1 by omega)]; omega)) (fun h8 => he ((lg_cmp_eq _ _).mpr (by rw [Nat.one_mul]; exact (lN_inj64 hVl hp63).mpr h8.2))), rfl⟩) dX3_smallHasWidth_48
        · have he2 := (lg_cmp_eq _ _).mp he
          rw [Nat.one_mul] at he2
          refine lv_iconst (v := nI 1) hx hb dX3_smallHasWidth_43 (by decide) ?_
          refine lv_goto (tgt := 48) hx hb dX3_smallHasWidth_44 (by decide) ?_
          exact ri_zret hC (Or.inr rfl) (Or.inl ⟨Or.inr ⟨by omega, (lN_inj64 hVl hp63).mp he2⟩, rfl⟩) dX3_smallHasWidth_48
    · refine lv_iconst (v := nI 1) hx hb dX3_smallHasWidth_21 (by decide) ?_
      exact ri_zret hC (Or.inr rfl) (Or.inl ⟨Or.inl (by rw [if_pos (show sg = 1 by omega)]; exact bl_le.mp hd), rfl⟩) dX3_smallHasWidth_22

set_option maxRecDepth 100000 in
set_option maxHeartbeats 4000000 in
theorem c_X3_parseValue (l : Launch) (D : va_G) (cB cI cC : ClassId) (h hti ati hto ato hnu anu hsp asp hsq asq hsm asm n st uN us uq um : Nat) (ft fx fN fs fq fm : Nat → Int32) (lv : Int64) (wn r sg : Nat) (T : Nat → Nat) (hwn : wn = 32 ∨ wn = 64) (hr2 : 2 ≤ r) (hr36 : r ≤ 36) (hsg : sg < 2) (hn6 : n ≤ 65536) (htx : txt n T ft) : MI l yX3_parseValue (Cond.code yX3_parseValue cX3_parseValue 7 (some .int)) 3 D (TY cB cI cC) [.ref h, .int (nI wn), .int (nI r), .int (nI sg)] [(h, .inr (3, [.ref hti, .ref hto, .ref hnu, .ref hsp, .ref hsq, .ref hsm, .long lv])), (hti, .inr (0, [.ref ati, .int (nI n)])), (ati, .inl (cB, 65536, .inl ft)), (hto, .inr (1, [.ref ato, .int (nI st)])), (ato, .inl (cB, 65536, .inl fx)), (hnu, .inr (2, [.ref anu, .int (nI uN)])), (anu, .inl (cI, 2048, .inl fN)), (hsp, .inr (2, [.ref asp, .int (nI us)])), (asp, .inl (cI, 2048, .inl fs)), (hsq, .inr (2, [.ref asq, .int (nI uq)])), (asq, .inl (cI, 2048, .inl fq)), (hsm, .inr (2, [.ref asm, .int (nI um)])), (asm, .inl (cI, 2, .inl fm))] (S := (Nat → Int32) × Nat × Int64) (fun b q => (¬ pgood r sg n T ∧ b = nI 1 ∧ q.2.2 = lv) ∨ (pgood r sg n T ∧ ¬ pfit wn sg (pmn sg n T) (pval r sg n T) ∧ b = nI 2 ∧ q.2.2 = lv) ∨ (pgood r sg n T ∧ pfit wn sg (pmn sg n T) (pval r sg n T) ∧ b = nI 0 ∧ q.2.2 = if pmn sg n T = 1 then -(lN (pval r sg n T)) else lN (pval r sg n T))) (fun q => [(h, .inr (3, [.ref hti, .ref hto, .ref hnu, .ref hsp, .ref hsq, .ref hsm, .long q.2.2])), (hti, .inr (0, [.ref ati, .int (nI n)])), (ati, .inl (cB, 65536, .inl ft)), (hto, .inr (1, [.ref ato, .int (nI st)])), (ato, .inl (cB, 65536, .inl fx)), (hnu, .inr (2, [.ref anu, .int (nI uN)])), (anu, .inl (cI, 2048, .inl fN)), (hsp, .inr (2, [.ref asp, .int (nI us)])), (asp, .inl (cI, 2048, .inl fs)), (hsq, .inr (2, [.ref asq, .int (nI uq)])), (asq, .inl (cI, 2048, .inl fq)), (hsm, .inr (2, [.ref asm, .int (nI q.2.1)])), (asm, .inl (cI, 2, .inl q.1))]) := by
  refine MI.of (by decide) (Nat.le_of_ble_eq_true rfl) ?_
  intro p e s m below meth c ls A hC hA hP hK hD hS hl
  obtain ⟨hx, hb, hr, hml, hown, hts, hlocks, hN⟩ := id hC
  have hown : s.vm.findClass RX3 = some m.cls := hown
  have hl : lv_has ls 7 [(0, .ref h), (1, .int (nI wn)), (2, .int (nI r)), (3, .int (nI sg))] := hl
  refine lv_aload_n hx hb dX3_parseValue_0 rfl (lv_at hl 0 rfl) ?_
  refine va_get (D := D) (ci := 3) (C := RX3) (T := TX3) (N := 7) (v := .ref hti) hx hb hts kin_X3_w hown hK hP 0 rfl rfl 0 (by decide) (hts _ kfl_X3_10) (fun _ h9 => h9) rfl dX3_parseValue_1 ?_
  refine lv_iconst (v := nI 0) hx hb dX3_parseValue_4 (by decide) ?_
  refine dm_gori (dm_rVN (n := 1) (As := [.int (nI 0)]) (rest := []) hC hl (c_X0_codeAt l D cB cI cC hti ati n ft (nI 0) hn6 s.heap.size) kco_X0_codeAt ki_X0 kim_X0_codeAt kse_X0_codeAt knl_X3_121 (by decide +kernel) ⟨Nat.le_of_ble_eq_true rfl, Nat.le_of_ble_eq_true rfl⟩ rfl rfl ⟨dm_blind, va_recv hK hP (ci := 0) (q0 := 1) rfl rfl, dm_preU hK hP hD hC.2.2.2.2.2.2.2 [1, 2] (by decide) rfl⟩ rfl rfl (Nat.le_of_ble_eq_true rfl) dX3_parseValue_5 ⟨Nat.le_of_ble_eq_true rfl, Nat.le_of_ble_eq_true rfl⟩) (fun c1 hc1 => ?_)
  have hch : ∀ k, k < 128 → (c1 = nI k ↔ 0 < n ∧ T 0 = k) := by
    intro k hk
    rcases Nat.eq_zero_or_pos n with h0 | h0
    · have e1 := hc1.2 (fun j hj => absurd hj (by omega))
      rw [e1]
      constructor
      · intro h9; have h8 := congrArg un h9; rw [un_m1, un_nI (by omega)] at h8; omega
      · intro h9; omega
    · have h7 := htx 0 h0
      have e1 := (hc1.1 0 h0 rfl).trans h7.1
      rw [e1, nI_eq (by omega) (by omega)]
      exact ⟨fun h9 => ⟨h0, h9⟩, fun h9 => h9.2⟩
  have hmi2 : pmn sg n T < 2 := by unfold pmn; split <;> decide
  have hfr2 : pfr sg n T < 2 := by unfold pfr; split <;> decide
  refine lv_istore (lv' := [(4, .int c1), (0, .ref h), (1, .int (nI wn)), (2, .int (nI r)), (3, .int (nI sg))]) hx hb dX3_parseValue_8 hl (by decide) rfl (fun ls hl => ?_)
  refine dm_cutR (nL := 7) (σ := Unit) 28 (fun _ => True) (fun _ => [(5, .int (nI (pmn sg n T))), (4, .int c1), (0, .ref h), (1, .int (nI wn)), (2, .int (nI r)), (3, .int (nI sg))]) (fun hJ => ?_) ?_
  · refine lv_iload_n hx hb dX3_parseValue_10 rfl (lv_at hl 4 rfl) ?_
    refine dm_if_eq (tgt := 25) hx hb (by omega) dX3_parseValue_11 (by decide) (fun hs => ?_) (fun hs => ?_)
    · refine lv_iconst (v := nI 0) hx hb dX3_parseValue_25 (by decide) ?_
      refine dm_ti (y := nI (pmn sg n T)) (by unfold pmn; rw [if_neg (fun h9 => by omega)]) ?_
      refine lv_istore (lv' := [(5, .int (nI (pmn sg n T))), (4, .int c1), (0, .ref h), (1, .int (nI wn)), (2, .int (nI r)), (3, .int (nI sg))]) hx hb dX3_parseValue_26 hl (by decide) rfl (fun ls hl => ?_)
      exact hJ () ls trivial (lv_sub hl [0, 1, 2, 3, 4, 5] rfl)
    · refine lv_iload hx hb dX3_parseValue_14 (lv_at hl 0 rfl) ?_
      refine lv_bipush (v := nI 45) hx hb dX3_parseValue_16 (by decide) ?_
      refine lv_icmp_ne (tgt := 25) hx hb dX3_parseValue_18 (by decide) (fun hd => ?_) (fun hd => ?_)
      · refine lv_iconst (v := nI 0) hx hb dX3_parseValue_25 (by decide) ?_
        refine dm_ti (y := nI (pmn sg n T)) (by unfold pmn; rw [if_neg (fun h9 => hd ((hch 45 (by decide)).mpr h9.2))]) ?_
        refine lv_istore (lv' := [(5, .int (nI (pmn sg n T))), (4, .int c1), (0, .ref h), (1, .int (nI wn)), (2, .int (nI r)), (3, .int (nI sg))]) hx hb dX3_parseValue_26 hl (by decide) rfl (fun ls hl => ?_)
        exact hJ () ls trivial (lv_sub hl [0, 1, 2, 3, 4, 5] rfl)
      · refine lv_iconst (v := nI 1) hx hb dX3_parseValue_21 (by decide) ?_
        refine dm_ti (y := nI (pmn sg n T)) (by unfold pmn; rw [if_pos ⟨by omega, (hch 45 (by decide)).mp hd⟩]) ?_
        refine lv_goto (tgt := 26) hx hb dX3_parseValue_22 (by decide) ?_
        refine lv_istore (lv' := [(5, .int (nI (pmn sg n T))), (4, .int c1), (0, .ref h), (1, .int (nI wn)), (2, .int (nI r)), (3, .int (nI sg))]) hx hb dX3_parseValue_26 hl (by decide) rfl (fun ls hl => ?_)
        exact hJ () ls trivial (lv_sub hl [0, 1, 2, 3, 4, 5] rfl)
  · rintro - ls - hl
    refine dm_cutR (nL := 7) (σ := Unit) 47 (fun _ => True) (fun _ => [(6, .int (nI (pfr sg n T))), (5, .int (nI (pmn sg n T))), (0, .ref h), (1, .int (nI wn)), (2, .int (nI r)), (3, .int (nI sg))]) (fun hJ => ?_) ?_
    · refine lv_iload hx hb dX3_parseValue_28 (lv_at hl 0 rfl) ?_
      refine dm_if_ne (tgt := 40) hx hb (by omega) dX3_parseValue_30 (by decide) (fun hs => ?_) (fun hs => ?_)
      · refine lv_iconst (v := nI 1) hx hb dX3_parseValue_40 (by decide) ?_
        refine dm_ti (y := nI (pfr sg n T)) (by unfold pfr; rw [if_pos (Or.inl (by omega))]) ?_
        refine lv_goto (tgt := 45) hx hb dX3_parseValue_41 (by decide) ?_
        refine lv_istore (lv' := [(6, .int (nI (pfr sg n T))), (5, .int (nI (pmn sg n T))), (4, .int c1), (0, .ref h), (1, .int (nI wn)), (2, .int (nI r)), (3, .int (nI sg))]) hx hb dX3_parseValue_45 hl (by decide) rfl (fun ls hl => ?_)
        exact hJ () ls trivial (lv_sub hl [0, 1, 3, 4, 5, 6] rfl)
      · refine lv_iload hx hb dX3_parseValue_33 (lv_at hl 1 rfl) ?_
        refine lv_bipush (v := nI 43) hx hb dX3_parseValue_35 (by decide) ?_
        refine lv_icmp_ne (tgt := 44) hx hb dX3_parseValue_37 (by decide) (fun hd => ?_) (fun hd => ?_)
        · refine lv_iconst (v := nI 0) hx hb dX3_parseValue_44 (by decide) ?_
          refine dm_ti (y := nI (pfr sg n T)) (by unfold pfr; rw [if_neg (fun h9 => h9.elim (fun h8 => by omega) (fun h8 => hd ((hch 43 (by decide)).mpr h8)))]) ?_
          refine lv_istore (lv' := [(6, .int (nI (pfr sg n T))), (5, .int (nI (pmn sg n T))), (4, .int c1), (0, .ref h), (1, .int (nI wn)), (2, .int (nI r)), (3, .int (nI sg))]) hx hb dX3_parseValue_45 hl (by decide) rfl (fun ls hl => ?_)
          exact hJ () ls trivial (lv_sub hl [0, 1, 3, 4, 5, 6] rfl)
        · refine lv_iconst (v := nI 1) hx hb dX3_parseValue_40 (by decide) ?_
          refine dm_ti (y := nI (pfr sg n T)) (by unfold pfr; rw [if_pos (Or.inr ((hch 43 (by decide)).mp hd))]) ?_
          refine lv_goto (tgt := 45) hx hb dX3_parseValue_41 (by decide) ?_
          refine lv_istore (lv' := [(6, .int (nI (pfr sg n T))), (5, .int (nI (pmn sg n T))), (4, .int c1), (0, .ref h), (1, .int (nI wn)), (2, .int (nI r)), (3, .int (nI sg))]) hx hb dX3_parseValue_45 hl (by decide) rfl (fun ls hl => ?_)
          exact hJ () ls trivial (lv_sub hl [0, 1, 3, 4, 5, 6] rfl)
    · rintro - ls - hl
      obtain ⟨fr, hfr⟩ : ∃ z, z = pfr sg n T := ⟨_, rfl⟩
      obtain ⟨mi, hmi⟩ : ∃ z, z = pmn sg n T := ⟨_, rfl⟩
      unfold pgood pval
      rw [← hfr, ← hmi]
      rw [← hfr] at hl hfr2
      rw [← hmi] at hl hmi2
      have hl : lv_has ls 7 [(6, .int (nI fr)), (5, .int (nI mi)), (0, .ref h), (1, .int (nI wn)), (2, .int (nI r)), (3, .int (nI sg))] := hl
      refine lv_iload hx hb dX3_parseValue_47 (lv_at hl 0 rfl) ?_
      refine lv_aload_n hx hb dX3_parseValue_49 rfl (lv_at hl 2 rfl) ?_
      refine va_get (D := D) (ci := 3) (C := RX3) (T := TX3) (N := 7) (v := .ref hti) hx hb hts kin_X3_w hown hK hP 0 rfl rfl 0 (by decide) (hts _ kfl_X3_10) (fun _ h9 => h9) rfl dX3_parseValue_50 ?_
      refine dm_gori (dm_rVN (n := 0) (As := []) (rest := [.int (nI fr)]) hC hl (c_X0_size l D cB cI cC hti ati n ft s.heap.size) kco_X0_size ki_X0 kim_X0_size kse_X0_size knl_X3_113 (by decide +kernel) ⟨Nat.le_of_ble_eq_true rfl, Nat.le_of_ble_eq_true rfl⟩ rfl rfl ⟨dm_blind, va_recv hK hP (ci := 0) (q0 := 1) rfl rfl, dm_preU hK hP hD hC.2.2.2.2.2.2.2 [1, 2] (by decide) rfl⟩ rfl rfl (Nat.le_of_ble_eq_true rfl) dX3_parseValue_53 ⟨Nat.le_of_ble_eq_true rfl, Nat.le_of_ble_eq_true rfl⟩) (fun z1 hs9 => ?_)
      subst hs9
      refine dm_icmp_ge (tgt := 79) hx hb (by omega) (by omega) dX3_parseValue_56 (by decide) (fun hd => ?_) (fun hd => ?_)
      · refine lv_iconst (v := nI 1) hx hb dX3_parseValue_79 (by decide) ?_
        exact dm_iret hC hK (fm, um, lv) (Or.inl ⟨fun h9 => by have := h9.1; omega, rfl, rfl⟩) hP hD hS dX3_parseValue_80
      · have hfo := fo_le (r := r) (T := T) (k := n - fr) (i := fr)
        refine lv_aload_n hx hb dX3_parseValue_59 rfl (lv_at hl 2 rfl) ?_
        refine va_get (D := D) (ci := 3) (C := RX3) (T := TX3) (N := 7) (v := .ref hti) hx hb hts kin_X3_w hown hK hP 0 rfl rfl 0 (by decide) (hts _ kfl_X3_10) (fun _ h9 => h9) rfl dX3_parseValue_60 ?_
        refine lv_iload hx hb dX3_parseValue_63 (lv_at hl 0 rfl) ?_
        refine lv_iload_n hx hb dX3_parseValue_65 rfl (lv_at hl 4 rfl) ?_
        refine dm_gori (dm_rVN (n := 2) (As := [.int (nI fr), .int (nI r)]) (rest := []) hC hl (c_X0_firstOther l D cB cI cC hti ati n fr r T ft hn6 (by omega) hr36 htx s.heap.size) kco_X0_firstOther ki_X0 kim_X0_firstOther kse_X0_firstOther knl_X3_114 (by decide +kernel) ⟨Nat.le_of_ble_eq_true rfl, Nat.le_of_ble_eq_true rfl⟩ rfl rfl ⟨dm_blind, va_recv hK hP (ci := 0) (q0 := 1) rfl rfl, dm_preU hK hP hD hC.2.2.2.2.2.2.2 [1, 2] (by decide) rfl⟩ rfl rfl (Nat.le_of_ble_eq_true rfl) dX3_parseValue_66 ⟨Nat.le_of_ble_eq_true rfl, Nat.le_of_ble_eq_true rfl⟩) (fun r1 e1 => ?_)
        subst e1
        refine lv_aload_n hx hb dX3_parseValue_69 rfl (lv_at hl 2 rfl) ?_
        refine va_get (D := D) (ci := 3) (C := RX3) (T := TX3) (N := 7) (v := .ref hti) hx hb hts kin_X3_w hown hK hP 0 rfl rfl 0 (by decide) (hts _ kfl_X3_10) (fun _ h9 => h9) rfl dX3_parseValue_70 ?_
        refine dm_gori (dm_rVN (n := 0) (As := []) (rest := [.int (nI (fo r T fr (n - fr)))]) hC hl (c_X0_size l D cB cI cC hti ati n ft s.heap.size) kco_X0_size ki_X0 kim_X0_size kse_X0_size knl_X3_113 (by decide +kernel) ⟨Nat.le_of_ble_eq_true rfl, Nat.le_of_ble_eq_true rfl⟩ rfl rfl ⟨dm_blind, va_recv hK hP (ci := 0) (q0 := 1) rfl rfl, dm_preU hK hP hD hC.2.2.2.2.2.2.2 [1, 2] (by decide) rfl⟩ rfl rfl (Nat.le_of_ble_eq_true rfl) dX3_parseValue_73 ⟨Nat.le_of_ble_eq_true rfl, Nat.le_of_ble_eq_true rfl⟩) (fun z2 hs9 => ?_)
        subst hs9
        refine dm_icmp_ge (tgt := 81) hx hb (by omega) (by omega) dX3_parseValue_76 (by decide) (fun he => ?_) (fun he => ?_)
        · have hfe : fo r T fr (n - fr) = n := by omega
          have hall : ∀ j, fr ≤ j → j < n → dgv (T j) < r := fun j h1 h2 => fo_all (r := r) (T := T) (k := n - fr) (i := fr) (by omega) j h1 (by omega)
          refine lv_aload_n hx hb dX3_parseValue_81 rfl (lv_at hl 2 rfl) ?_
          refine va_get (D := D) (ci := 3) (C := RX3) (T := TX3) (N := 7) (v := .ref hsm) hx hb hts kin_X3_w hown hK hP 0 rfl rfl 5 (by decide) (hts _ kfl_X3_38) (fun _ h9 => h9) rfl dX3_parseValue_82 ?_
          refine lv_aload_n hx hb dX3_parseValue_85 rfl (lv_at hl 2 rfl) ?_
          refine va_get (D := D) (ci := 3) (C := RX3) (T := TX3) (N := 7) (v := .ref hti) hx hb hts kin_X3_w hown hK hP 0 rfl rfl 0 (by decide) (hts _ kfl_X3_10) (fun _ h9 => h9) rfl dX3_parseValue_86 ?_
          refine lv_iload hx hb dX3_parseValue_89 (lv_at hl 0 rfl) ?_
          refine lv_iload_n hx hb dX3_parseValue_91 rfl (lv_at hl 4 rfl) ?_
          refine dm_goi (wr := [(h, .inr (3, [.ref hti, .ref hto, .ref hnu, .ref hsp, .ref hsq, .ref hsm, .long lv])), (hto, .inr (1, [.ref ato, .int (nI st)])), (ato, .inl (cB, 65536, .inl fx)), (hnu, .inr (2, [.ref anu, .int (nI uN)])), (anu, .inl (cI, 2048, .inl fN)), (hsp, .inr (2, [.ref asp, .int (nI us)])), (asp, .inl (cI, 2048, .inl fs)), (hsq, .inr (2, [.ref asq, .int (nI uq)])), (asq, .inl (cI, 2048, .inl fq))]) (dm_rVN (n := 3) (As := [.ref hti, .int (nI fr), .int (nI r)]) (rest := []) hC hl (c_X2_becomeDigitsOf l D cB cI cC hsm asm hti ati 2 um n fr r T fm ft (by decide) hn6 (by omega) hr2 hr36 htx hall s.heap.size) kco_X2_becomeDigitsOf ki_X2 kim_X2_becomeDigitsOf kse_X2_becomeDigitsOf knl_X3_118 (by decide +kernel) ⟨Nat.le_of_ble_eq_true rfl, Nat.le_of_ble_eq_true rfl⟩ rfl rfl ⟨dm_blind, va_recv hK hP (ci := 2) (q0 := 11) rfl rfl, dm_preU hK hP hD hC.2.2.2.2.2.2.2 [11, 12, 1, 2] (by decide) rfl⟩ rfl rfl (Nat.le_of_ble_eq_true rfl) dX3_parseValue_92 ⟨Nat.le_of_ble_eq_true rfl, Nat.le_of_ble_eq_true rfl⟩) hP hD hS hA [11, 12, 1, 2] [0, 3, 4, 5, 6, 7, 8, 9, 10] rfl rfl (by decide) (by decide) (fun rb q H locs hw hP hD hS => ?_)
          obtain ⟨f2, u2⟩ := q
          have hP : va_P D vwCl [(h, .inr (3, [.ref hti, .ref hto, .ref hnu, .ref hsp, .ref hsq, .ref hsm, .long lv])), (hto, .inr (1, [.ref ato, .int (nI st)])), (ato, .inl (cB, 65536, .inl fx)), (hnu, .inr (2, [.ref anu, .int (nI uN)])), (anu, .inl (cI, 2048, .inl fN)), (hsp, .inr (2, [.ref asp, .int (nI us)])), (asp, .inl (cI, 2048, .inl fs)), (hsq, .inr (2, [.ref asq, .int (nI uq)])), (asq, .inl (cI, 2048, .inl fq)), (hsm, .inr (2, [.ref asm, .int (nI u2)])), (asm, .inl (cI, 2, .inl f2)), (hti, .inr (0, [.ref ati, .int (nI n)])), (ati, .inl (cB, 65536, .inl ft))] H := hP
          have hD : va_D A [(h, .inr (3, [.ref hti, .ref hto, .ref hnu, .ref hsp, .ref hsq, .ref hsm, .long lv])), (hto, .inr (1, [.ref ato, .int (nI st)])), (ato, .inl (cB, 65536, .inl fx)), (hnu, .inr (2, [.ref anu, .int (nI uN)])), (anu, .inl (cI, 2048, .inl fN)), (hsp, .inr (2, [.ref asp, .int (nI us)])), (asp, .inl (cI, 2048, .inl fs)), (hsq, .inr (2, [.ref asq, .int (nI uq)])), (asq, .inl (cI, 2048, .inl fq)), (hsm, .inr (2, [.ref asm, .int (nI u2)])), (asm, .inl (cI, 2, .inl f2)), (hti, .inr (0, [.ref ati, .int (nI n)])), (ati, .inl (cB, 65536, .inl ft))] := hD
          have hP := hP.sub (ws' := [(h, .inr (3, [.ref hti, .ref hto, .ref hnu, .ref hsp, .ref hsq, .ref hsm, .long lv])), (hti, .inr (0, [.ref ati, .int (nI n)])), (ati, .inl (cB, 65536, .inl ft)), (hto, .inr (1, [.ref ato, .int (nI st)])), (ato, .inl (cB, 65536, .inl fx)), (hnu, .inr (2, [.ref anu, .int (nI uN)])), (anu, .inl (cI, 2048, .inl fN)), (hsp, .inr (2, [.ref asp, .int (nI us)])), (asp, .inl (cI, 2048, .inl fs)), (hsq, .inr (2, [.ref asq, .int (nI uq)])), (asq, .inl (cI, 2048, .inl fq)), (hsm, .inr (2, [.ref asm, .int (nI u2)])), (asm, .inl (cI, 2, .inl f2))]) [0, 11, 12, 1, 2, 3, 4, 5, 6, 7, 8, 9, 10] rfl
          have hD := hD.sub (ws' := [(h, .inr (3, [.ref hti, .ref hto, .ref hnu, .ref hsp, .ref hsq, .ref hsm, .long lv])), (hti, .inr (0, [.ref ati, .int (nI n)])), (ati, .inl (cB, 65536, .inl ft)), (hto, .inr (1, [.ref ato, .int (nI st)])), (ato, .inl (cB, 65536, .inl fx)), (hnu, .inr (2, [.ref anu, .int (nI uN)])), (anu, .inl (cI, 2048, .inl fN)), (hsp, .inr (2, [.ref asp, .int (nI us)])), (asp, .inl (cI, 2048, .inl fs)), (hsq, .inr (2, [.ref asq, .int (nI uq)])), (asq, .inl (cI, 2048, .inl fq)), (hsm, .inr (2, [.ref asm, .int (nI u2)])), (asm, .inl (cI, 2, .inl f2))]) [0, 11, 12, 1, 2, 3, 4, 5, 6, 7, 8, 9, 10] (by decide) rfl
          dsimp only at hw
          obtain ⟨V, hV⟩ : ∃ z, z = hn r T fr (n - fr) := ⟨_, rfl⟩
          rw [← hV] at hw ⊢
          refine lv_if_eq (tgt := 109) hx hb dX3_parseValue_95 (by decide) (fun hb1 => ?_) (fun hb1 => ?_)
          · have hw1 := hw.resolve_left (fun h9 => absurd (hb1.symm.trans h9.1) (by decide))
            have hbig : 18446744073709551616 ≤ V := hw1.2.2
            have hnf : ¬ pfit wn sg mi V := by
              intro h9
              rcases h9 with h9 | h9
              · have h8 : 2 ^ (if sg = 1 then wn - 1 else wn) ≤ 2 ^ 64 := Nat.pow_le_pow_right (by decide) (by split <;> omega)
                omega
              · have h8 : 2 ^ (wn - 1) ≤ 2 ^ 63 := Nat.pow_le_pow_right (by decide) (by omega)
                omega
            refine lv_iconst (v := nI 2) hx hb dX3_parseValue_109 (by decide) ?_
            exact dm_iret hC hK (f2, u2, lv) (Or.inr (Or.inl ⟨⟨hd, hfe⟩, hnf, rfl, rfl⟩)) hP hD hS dX3_parseValue_110
          · have hw1 := hw.resolve_right (fun h9 => hb1 h9.1)
            refine lv_aload_n hx hb dX3_parseValue_98 rfl (lv_at hl 2 rfl) ?_
            refine lv_iload_n hx hb dX3_parseValue_99 rfl (lv_at hl 3 rfl) ?_
            refine lv_iload_n hx hb dX3_parseValue_100 rfl (lv_at hl 5 rfl) ?_
            refine lv_iload hx hb dX3_parseValue_101 (lv_at hl 1 rfl) ?_
            refine dm_gori (dm_rV (n := 3) (As := [.int (nI wn), .int (nI sg), .int (nI mi)]) (rest := []) hC hl (c_X3_smallHasWidth l D cB cI cC h hti ati hto ato hnu anu hsp asp hsq asq hsm asm n st uN us uq u2 ft fx fN fs fq f2 lv wn sg mi hwn hsg hmi2 hw1.2.1 hw1.2.2.2 H.size) kco_X3_smallHasWidth ki_X3 kim_X3_smallHasWidth kse_X3_smallHasWidth kml_X3_122 (by decide +kernel) ⟨Nat.le_of_ble_eq_true rfl, Nat.le_of_ble_eq_true rfl⟩ rfl rfl ⟨dm_blind, va_recv hK hP (ci := 3) (q0 := 0) rfl rfl, dm_preU hK hP hD hC.2.2.2.2.2.2.2 [0, 1, 2, 3, 4, 5, 6, 7, 8, 9, 10, 11, 12] (by decide) rfl⟩ rfl rfl (Nat.le_of_ble_eq_true rfl) dX3_parseValue_103 ⟨Nat.le_of_ble_eq_true rfl, Nat.le_of_ble_eq_true rfl⟩) (fun r3 e3 => ?_)
            rw [hw1.2.2.1] at e3
            refine lv_if_ne (tgt := 111) hx hb dX3_parseValue_106 (by decide) (fun hb2 => ?_) (fun hb2 => ?_)
            · have hft := (e3.resolve_right (fun h9 => hb2 h9.2)).1
              refine lv_aload_n hx hb dX3_parseValue_111 rfl (lv_at hl 2 rfl) ?_
              refine lv_iload hx hb dX3_parseValue_112 (lv_at hl 1 rfl) ?_
              refine dm_if_eq (tgt := 128) hx hb (by omega) dX3_parseValue_114 (by decide) (fun hm => ?_) (fun hm => ?_)
              · refine lv_aload_n hx hb dX3_parseValue_128 rfl (lv_at hl 2 rfl) ?_
                refine va_get (D := D) (ci := 3) (C := RX3) (T := TX3) (N := 7) (v := .ref hsm) hx hb hts kin_X3_w hown hK hP 0 rfl rfl 5 (by decide) (hts _ kfl_X3_38) (fun _ h9 => h9) rfl dX3_parseValue_129 ?_
                refine dm_gorl (dm_rVN (n := 0) (As := []) (rest := [.ref h]) hC hl (c_X2_lowLong l D cB cI cC hsm asm 2 u2 f2 hw1.2.1 hw1.2.1 (by decide) H.size) kco_X2_lowLong ki_X2 kim_X2_lowLong kse_X2_lowLong knl_X3_126 (by decide +kernel) ⟨Nat.le_of_ble_eq_true rfl, Nat.le_of_ble_eq_true rfl⟩ rfl rfl ⟨dm_blind, va_recv hK hP (ci := 2) (q0 := 11) rfl rfl, dm_preU hK hP hD hC.2.2.2.2.2.2.2 [11, 12] (by decide) rfl⟩ rfl rfl (Nat.le_of_ble_eq_true rfl) dX3_parseValue_132 ⟨Nat.le_of_ble_eq_true rfl, Nat.le_of_ble_eq_true rfl⟩) (fun r4 e4 => ?_)
                rw [hw1.2.2.1] at e4
                subst e4
                refine va_put (D := D) (ci := 3) (v := .long (lN V)) (ty := .long) (C := RX3) (T := TX3) (N := 7) hx hb hts kin_X3_w tyX3 tyX3_ok nmX3 hown hK hP hD hS 0 rfl rfl 6 (by decide) (hts _ kfl_X3_41) (fun _ h9 => h9) rfl (by decide +kernel) rfl rfl (Nat.le_of_ble_eq_true rfl) dX3_parseValue_135 (fun H locs hP hD hS => ?_)
                have hP : va_P D vwCl [(h, .inr (3, [.ref hti, .ref hto, .ref hnu, .ref hsp, .ref hsq, .ref hsm, .long (lN V)])), (hti, .inr (0, [.ref ati, .int (nI n)])), (ati, .inl (cB, 65536, .inl ft)), (hto, .inr (1, [.ref ato, .int (nI st)])), (ato, .inl (cB, 65536, .inl fx)), (hnu, .inr (2, [.ref anu, .int (nI uN)])), (anu, .inl (cI, 2048, .inl fN)), (hsp, .inr (2, [.ref asp, .int (nI us)])), (asp, .inl (cI, 2048, .inl fs)), (hsq, .inr (2, [.ref asq, .int (nI uq)])), (asq, .inl (cI, 2048, .inl fq)), (hsm, .inr (2, [.ref asm, .int (nI u2)])), (asm, .inl (cI, 2, .inl f2))] H := hP
                have hD : va_D A [(h, .inr (3, [.ref hti, .ref hto, .ref hnu, .ref hsp, .ref hsq, .ref hsm, .long (lN V)])), (hti, .inr (0, [.ref ati, .int (nI n)])), (ati, .inl (cB, 65536, .inl ft)), (hto, .inr (1, [.ref ato, .int (nI st)])), (ato, .inl (cB, 65536, .inl fx)), (hnu, .inr (2, [.ref anu, .int (nI uN)])), (anu, .inl (cI, 2048, .inl fN)), (hsp, .inr (2, [.ref asp, .int (nI us)])), (asp, .inl (cI, 2048, .inl fs)), (hsq, .inr (2, [.ref asq, .int (nI uq)])), (asq, .inl (cI, 2048, .inl fq)), (hsm, .inr (2, [.ref asm, .int (nI u2)])), (asm, .inl (cI, 2, .inl f2))] := hD
                refine lv_iconst (v := nI 0) hx hb dX3_parseValue_138 (by decide) ?_
                exact dm_iret hC hK (f2, u2, lN V) (Or.inr (Or.inr ⟨⟨hd, hfe⟩, hft, rfl, by show lN V = _; rw [if_neg (by omega)]⟩)) hP hD hS dX3_parseValue_139
              · refine lv_aload_n hx hb dX3_parseValue_117 rfl (lv_at hl 2 rfl) ?_
                refine va_get (D := D) (ci := 3) (C := RX3) (T := TX3) (N := 7) (v := .ref hsm) hx hb hts kin_X3_w hown hK hP 0 rfl rfl 5 (by decide) (hts _ kfl_X3_38) (fun _ h9 => h9) rfl dX3_parseValue_118 ?_
                refine dm_gorl (dm_rVN (n := 0) (As := []) (rest := [.ref h]) hC hl (c_X2_lowLong l D cB cI cC hsm asm 2 u2 f2 hw1.2.1 hw1.2.1 (by decide) H.size) kco_X2_lowLong ki_X2 kim_X2_lowLong kse_X2_lowLong knl_X3_126 (by decide +kernel) ⟨Nat.le_of_ble_eq_true rfl, Nat.le_of_ble_eq_true rfl⟩ rfl rfl ⟨dm_blind, va_recv hK hP (ci := 2) (q0 := 11) rfl rfl, dm_preU hK hP hD hC.2.2.2.2.2.2.2 [11, 12] (by decide) rfl⟩ rfl rfl (Nat.le_of_ble_eq_true rfl) dX3_parseValue_121 ⟨Nat.le_of_ble_eq_true rfl, Nat.le_of_ble_eq_true rfl⟩) (fun r4 e4 => ?_)
                rw [hw1.2.2.1] at e4
                subst e4
                refine lv_lneg hx hb dX3_parseValue_124 ?_
                refine lv_goto (tgt := 135) hx hb dX3_parseValue_125 (by decide) ?_
                refine va_put (D := D) (ci := 3) (v := .long (-(lN V))) (ty := .long) (C := RX3) (T := TX3) (N := 7) hx hb hts kin_X3_w tyX3 tyX3_ok nmX3 hown hK hP hD hS 0 rfl rfl 6 (by decide) (hts _ kfl_X3_41) (fun _ h9 => h9) rfl (by decide +kernel) rfl rfl (Nat.le_of_ble_eq_true rfl) dX3_parseValue_135 (fun H locs hP hD hS => ?_)
                have hP : va_P D vwCl [(h, .inr (3, [.ref hti, .ref hto, .ref hnu, .ref hsp, .ref hsq, .ref hsm, .long (-(lN V))])), (hti, .inr (0, [.ref ati, .int (nI n)])), (ati, .inl (cB, 65536, .inl ft)), (hto, .inr (1, [.ref ato, .int (nI st)])), (ato, .inl (cB, 65536, .inl fx)), (hnu, .inr (2, [.ref anu, .int (nI uN)])), (anu, .inl (cI, 2048, .inl fN)), (hsp, .inr (2, [.ref asp, .int (nI us)])), (asp, .inl (cI, 2048, .inl fs)), (hsq, .inr (2, [.ref asq, .int (nI uq)])), (asq, .inl (cI, 2048, .inl fq)), (hsm, .inr (2, [.ref asm, .int (nI u2)])), (asm, .inl (cI, 2, .inl f2))] H := hP
                have hD : va_D A [(h, .inr (3, [.ref hti, .ref hto, .ref hnu, .ref hsp, .ref hsq, .ref hsm, .long (-(lN V))])), (hti, .inr (0, [.ref ati, .int (nI n)])), (ati, .inl (cB, 65536, .inl ft)), (hto, .inr (1, [.ref ato, .int (nI st)])), (ato, .inl (cB, 65536, .inl fx)), (hnu, .inr (2, [.ref anu, .int (nI uN)])), (anu, .inl (cI, 2048, .inl fN)), (hsp, .inr (2, [.ref asp, .int (nI us)])), (asp, .inl (cI, 2048, .inl fs)), (hsq, .inr (2, [.ref asq, .int (nI uq)])), (asq, .inl (cI, 2048, .inl fq)), (hsm, .inr (2, [.ref asm, .int (nI u2)])), (asm, .inl (cI, 2, .inl f2))] := hD
                refine lv_iconst (v := nI 0) hx hb dX3_parseValue_138 (by decide) ?_
                exact dm_iret hC hK (f2, u2, -(lN V)) (Or.inr (Or.inr ⟨⟨hd, hfe⟩, hft, rfl, by show -(lN V) = _; rw [if_pos (by omega)]⟩)) hP hD hS dX3_parseValue_139
            · have hft := (e3.resolve_left (fun h9 => absurd (hb2.symm.trans h9.2) (by decide))).1
              refine lv_iconst (v := nI 2) hx hb dX3_parseValue_109 (by decide) ?_
              exact dm_iret hC hK (f2, u2, lv) (Or.inr (Or.inl ⟨⟨hd, hfe⟩, hft, rfl, rfl⟩)) hP hD hS dX3_parseValue_110
        · refine lv_iconst (v := nI 1) hx hb dX3_parseValue_79 (by decide) ?_
          exact dm_iret hC hK (fm, um, lv) (Or.inl ⟨fun h9 => by have := h9.2; omega, rfl, rfl⟩) hP hD hS dX3_parseValue_80

set_option maxRecDepth 100000 in
set_option maxHeartbeats 4000000 in
theorem c_X3_parse (l : Launch) (D : va_G) (cB cI cC : ClassId) (h hti ati hto ato hnu anu hsp asp hsq asq hsm asm n st uN us uq um : Nat) (ft fx fN fs fq fm : Nat → Int32) (lv : Int64) (wd x : Int32) (sg : Nat) (T : Nat → Nat) (hsg : sg < 2) (hn6 : n ≤ 65536) (htx : txt n T ft) : MI l yX3_parse (Cond.code yX3_parse cX3_parse 5 (some .int)) 4 D (TY cB cI cC) [.ref h, .int wd, .int x, .int (nI sg)] [(h, .inr (3, [.ref hti, .ref hto, .ref hnu, .ref hsp, .ref hsq, .ref hsm, .long lv])), (hti, .inr (0, [.ref ati, .int (nI n)])), (ati, .inl (cB, 65536, .inl ft)), (hto, .inr (1, [.ref ato, .int (nI st)])), (ato, .inl (cB, 65536, .inl fx)), (hnu, .inr (2, [.ref anu, .int (nI uN)])), (anu, .inl (cI, 2048, .inl fN)), (hsp, .inr (2, [.ref asp, .int (nI us)])), (asp, .inl (cI, 2048, .inl fs)), (hsq, .inr (2, [.ref asq, .int (nI uq)])), (asq, .inl (cI, 2048, .inl fq)), (hsm, .inr (2, [.ref asm, .int (nI um)])), (asm, .inl (cI, 2, .inl fm))] (S := (Nat → Int32) × Nat × Int64 × Nat) (fun b q => (¬ (isWd wd ∧ isR x) ∧ b = nI 3 ∧ q.2.2.1 = lv ∧ q.2.2.2 = n) ∨ (∃ wn r, (wn = 32 ∨ wn = 64) ∧ 2 ≤ r ∧ r ≤ 36 ∧ wd = nI wn ∧ x = nI r ∧ q.2.2.2 = 0 ∧ ((¬ pgood r sg n T ∧ b = nI 1 ∧ q.2.2.1 = lv) ∨ (pgood r sg n T ∧ ¬ pfit wn sg (pmn sg n T) (pval r sg n T) ∧ b = nI 2 ∧ q.2.2.1 = lv) ∨ (pgood r sg n T ∧ pfit wn sg (pmn sg n T) (pval r sg n T) ∧ b = nI 0 ∧ q.2.2.1 = if pmn sg n T = 1 then -(lN (pval r sg n T)) else lN (pval r sg n T))))) (fun q => [(h, .inr (3, [.ref hti, .ref hto, .ref hnu, .ref hsp, .ref hsq, .ref hsm, .long q.2.2.1])), (hti, .inr (0, [.ref ati, .int (nI q.2.2.2)])), (ati, .inl (cB, 65536, .inl ft)), (hto, .inr (1, [.ref ato, .int (nI st)])), (ato, .inl (cB, 65536, .inl fx)), (hnu, .inr (2, [.ref anu, .int (nI uN)])), (anu, .inl (cI, 2048, .inl fN)), (hsp, .inr (2, [.ref asp, .int (nI us)])), (asp, .inl (cI, 2048, .inl fs)), (hsq, .inr (2, [.ref asq, .int (nI uq)])), (asq, .inl (cI, 2048, .inl fq)), (hsm, .inr (2, [.ref asm, .int (nI q.2.1)])), (asm, .inl (cI, 2, .inl q.1))]) := by
  refine MI.of (by decide) (Nat.le_of_ble_eq_true rfl) ?_
  intro p e s m below meth c ls A hC hA hP hK hD hS hl
  obtain ⟨hx, hb, hr, hml, hown, hts, hlocks, hN⟩ := id hC
  have hown : s.vm.findClass RX3 = some m.cls := hown
  have hl : lv_has ls 5 [(0, .ref h), (1, .int wd), (2, .int x), (3, .int (nI sg))] := hl
  refine lv_iload_n hx hb dX3_parse_0 rfl (lv_at hl 1 rfl) ?_
  refine dm_gori (dm_rS (n := 1) (As := [.int wd]) (rest := []) hC hl (c_X3_isWidth l D cB cI cC wd s.heap.size) kco_X3_isWidth ki_X3 kst_X3_isWidth kml_X3_88 (by decide +kernel) ⟨Nat.le_of_ble_eq_true rfl, Nat.le_of_ble_eq_true rfl⟩ rfl rfl ⟨dm_blind, dm_preU hK hP hD hC.2.2.2.2.2.2.2 [] (by decide) rfl⟩ rfl rfl (Nat.le_of_ble_eq_true rfl) dX3_parse_1 ⟨Nat.le_of_ble_eq_true rfl, Nat.le_of_ble_eq_true rfl⟩) (fun r1 e1 => ?_)
  refine lv_if_eq (tgt := 14) hx hb dX3_parse_4 (by decide) (fun hc => ?_) (fun hc => ?_)
  · refine lv_iconst (v := nI 3) hx hb dX3_parse_14 (by decide) ?_
    exact dm_iret hC hK (fm, um, lv, n) (Or.inl ⟨fun h9 => (e1.resolve_left (fun h8 => absurd (hc.symm.trans h8.2) (by decide))).1 h9.1, rfl, rfl, rfl⟩) hP hD hS dX3_parse_15
  · have hwd := (e1.resolve_right (fun h8 => hc h8.2)).1
    obtain ⟨wn, hwn, rfl⟩ : ∃ wn : Nat, (wn = 32 ∨ wn = 64) ∧ wd = nI wn := hwd.elim (fun h9 => ⟨32, Or.inl rfl, h9⟩) (fun h9 => ⟨64, Or.inr rfl, h9⟩)
    refine lv_iload_n hx hb dX3_parse_7 rfl (lv_at hl 2 rfl) ?_
    refine dm_gori (dm_rS (n := 1) (As := [.int x]) (rest := []) hC hl (c_X3_isRadix l D cB cI cC x s.heap.size) kco_X3_isRadix ki_X3 kst_X3_isRadix kml_X3_53 (by decide +kernel) ⟨Nat.le_of_ble_eq_true rfl, Nat.le_of_ble_eq_true rfl⟩ rfl rfl ⟨dm_blind, dm_preU hK hP hD hC.2.2.2.2.2.2.2 [] (by decide) rfl⟩ rfl rfl (Nat.le_of_ble_eq_true rfl) dX3_parse_8 ⟨Nat.le_of_ble_eq_true rfl, Nat.le_of_ble_eq_true rfl⟩) (fun r2 e2 => ?_)
    refine lv_if_ne (tgt := 16) hx hb dX3_parse_11 (by decide) (fun hd => ?_) (fun hd => ?_)
    · obtain ⟨⟨r, hr2, hr36, rfl⟩, -⟩ := e2.resolve_right (fun h9 => hd h9.2)
      refine lv_aload_n hx hb dX3_parse_16 rfl (lv_at hl 0 rfl) ?_
      refine lv_iload_n hx hb dX3_parse_17 rfl (lv_at hl 1 rfl) ?_
      refine lv_iload_n hx hb dX3_parse_18 rfl (lv_at hl 2 rfl) ?_
      refine lv_iload_n hx hb dX3_parse_19 rfl (lv_at hl 3 rfl) ?_
      refine dm_goi (wr := []) (dm_rV (n := 3) (As := [.int (nI wn), .int (nI r), .int (nI sg)]) (rest := []) hC hl (c_X3_parseValue l D cB cI cC h hti ati hto ato hnu anu hsp asp hsq asq hsm asm n st uN us uq um ft fx fN fs fq fm lv wn r sg T hwn hr2 hr36 hsg hn6 htx s.heap.size) kco_X3_parseValue ki_X3 kim_X3_parseValue kse_X3_parseValue kml_X3_100 (by decide +kernel) ⟨Nat.le_of_ble_eq_true rfl, Nat.le_of_ble_eq_true rfl⟩ rfl rfl ⟨dm_blind, va_recv hK hP (ci := 3) (q0 := 0) rfl rfl, dm_preU hK hP hD hC.2.2.2.2.2.2.2 [0, 1, 2, 3, 4, 5, 6, 7, 8, 9, 10, 11, 12] (by decide) rfl⟩ rfl rfl (Nat.le_of_ble_eq_true rfl) dX3_parse_20 ⟨Nat.le_of_ble_eq_true rfl, Nat.le_of_ble_eq_true rfl⟩) hP hD hS hA [0, 1, 2, 3, 4, 5, 6, 7, 8, 9, 10, 11, 12] [] rfl rfl (by decide) (by decide) (fun rb q H locs hw hP hD hS => ?_)
      obtain ⟨f2, u2, lv2⟩ := q
      have hP : va_P D vwCl [(h, .inr (3, [.ref hti, .ref hto, .ref hnu, .ref hsp, .ref hsq, .ref hsm, .long lv2])), (hti, .inr (0, [.ref ati, .int (nI n)])), (ati, .inl (cB, 65536, .inl ft)), (hto, .inr (1, [.ref ato, .int (nI st)])), (ato, .inl (cB, 65536, .inl fx)), (hnu, .inr (2, [.ref anu, .int (nI uN)])), (anu, .inl (cI, 2048, .inl fN)), (hsp, .inr (2, [.ref asp, .int (nI us)])), (asp, .inl (cI, 2048, .inl fs)), (hsq, .inr (2, [.ref asq, .int (nI uq)])), (asq, .inl (cI, 2048, .inl fq)), (hsm, .inr (2, [.ref asm, .int (nI u2)])), (asm, .inl (cI, 2, .inl f2))] H := hP
      have hD : va_D A [(h, .inr (3, [.ref hti, .ref hto, .ref hnu, .ref hsp, .ref hsq, .ref hsm, .long lv2])), (hti, .inr (0, [.ref ati, .int (nI n)])), (ati, .inl (cB, 65536, .inl ft)), (hto, .inr (1, [.ref ato, .int (nI st)])), (ato, .inl (cB, 65536, .inl fx)), (hnu, .inr (2, [.ref anu, .int (nI uN)])), (anu, .inl (cI, 2048, .inl fN)), (hsp, .inr (2, [.ref asp, .int (nI us)])), (asp, .inl (cI, 2048, .inl fs)), (hsq, .inr (2, [.ref asq, .int (nI uq)])), (asq, .inl (cI, 2048, .inl fq)), (hsm, .inr (2, [.ref asm, .int (nI u2)])), (asm, .inl (cI, 2, .inl f2))] := hD
      refine lv_istore (lv' := [(4, .int rb), (0, .ref h), (1, .int (nI wn)), (2, .int (nI r)), (3, .int (nI sg))]) hx hb dX3_parse_23 hl (by decide) rfl (fun ls hl => ?_)
      refine lv_aload_n hx hb dX3_parse_25 rfl (lv_at hl 1 rfl) ?_
      refine va_get (D := D) (ci := 3) (C := RX3) (T := TX3) (N := 7) (v := .ref hti) hx hb hts kin_X3_w hown hK hP 0 rfl rfl 0 (by decide) (hts _ kfl_X3_10) (fun _ h9 => h9) rfl dX3_parse_26 ?_
      refine dm_gov (wr := [(h, .inr (3, [.ref hti, .ref hto, .ref hnu, .ref hsp, .ref hsq, .ref hsm, .long lv2])), (hto, .inr (1, [.ref ato, .int (nI st)])), (ato, .inl (cB, 65536, .inl fx)), (hnu, .inr (2, [.ref anu, .int (nI uN)])), (anu, .inl (cI, 2048, .inl fN)), (hsp, .inr (2, [.ref asp, .int (nI us)])), (asp, .inl (cI, 2048, .inl fs)), (hsq, .inr (2, [.ref asq, .int (nI uq)])), (asq, .inl (cI, 2048, .inl fq)), (hsm, .inr (2, [.ref asm, .int (nI u2)])), (asm, .inl (cI, 2, .inl f2))]) (dm_rVN (n := 0) (As := []) (rest := []) hC hl (c_X0_clear l D cB cI cC hti ati n ft H.size) kco_X0_clear ki_X0 kim_X0_clear kse_X0_clear knl_X3_61 (by decide +kernel) ⟨Nat.le_of_ble_eq_true rfl, Nat.le_of_ble_eq_true rfl⟩ rfl rfl ⟨dm_blind, va_recv hK hP (ci := 0) (q0 := 1) rfl rfl, dm_preU hK hP hD hC.2.2.2.2.2.2.2 [1, 2] (by decide) rfl⟩ rfl rfl (Nat.le_of_ble_eq_true rfl) dX3_parse_29 ⟨Nat.le_of_ble_eq_true rfl, Nat.le_of_ble_eq_true rfl⟩) hP hD hS hA [1, 2] [0, 3, 4, 5, 6, 7, 8, 9, 10, 11, 12] rfl rfl (by decide) (by decide) (fun _ H locs _ hP hD hS => ?_)
      have hP : va_P D vwCl [(h, .inr (3, [.ref hti, .ref hto, .ref hnu, .ref hsp, .ref hsq, .ref hsm, .long lv2])), (hto, .inr (1, [.ref ato, .int (nI st)])), (ato, .inl (cB, 65536, .inl fx)), (hnu, .inr (2, [.ref anu, .int (nI uN)])), (anu, .inl (cI, 2048, .inl fN)), (hsp, .inr (2, [.ref asp, .int (nI us)])), (asp, .inl (cI, 2048, .inl fs)), (hsq, .inr (2, [.ref asq, .int (nI uq)])), (asq, .inl (cI, 2048, .inl fq)), (hsm, .inr (2, [.ref asm, .int (nI u2)])), (asm, .inl (cI, 2, .inl f2)), (hti, .inr (0, [.ref ati, .int (nI 0)])), (ati, .inl (cB, 65536, .inl ft))] H := hP
      have hD : va_D A [(h, .inr (3, [.ref hti, .ref hto, .ref hnu, .ref hsp, .ref hsq, .ref hsm, .long lv2])), (hto, .inr (1, [.ref ato, .int (nI st)])), (ato, .inl (cB, 65536, .inl fx)), (hnu, .inr (2, [.ref anu, .int (nI uN)])), (anu, .inl (cI, 2048, .inl fN)), (hsp, .inr (2, [.ref asp, .int (nI us)])), (asp, .inl (cI, 2048, .inl fs)), (hsq, .inr (2, [.ref asq, .int (nI uq)])), (asq, .inl (cI, 2048, .inl fq)), (hsm, .inr (2, [.ref asm, .int (nI u2)])), (asm, .inl (cI, 2, .inl f2)), (hti, .inr (0, [.ref ati, .int (nI 0)])), (ati, .inl (cB, 65536, .inl ft))] := hD
      have hP := hP.sub (ws' := [(h, .inr (3, [.ref hti, .ref hto, .ref hnu, .ref hsp, .ref hsq, .ref hsm, .long lv2])), (hti, .inr (0, [.ref ati, .int (nI 0)])), (ati, .inl (cB, 65536, .inl ft)), (hto, .inr (1, [.ref ato, .int (nI st)])), (ato, .inl (cB, 65536, .inl fx)), (hnu, .inr (2, [.ref anu, .int (nI uN)])), (anu, .inl (cI, 2048, .inl fN)), (hsp, .inr (2, [.ref asp, .int (nI us)])), (asp, .inl (cI, 2048, .inl fs)), (hsq, .inr (2, [.ref asq, .int (nI uq)])), (asq, .inl (cI, 2048, .inl fq)), (hsm, .inr (2, [.ref asm, .int (nI u2)])), (asm, .inl (cI, 2, .inl f2))]) [0, 11, 12, 1, 2, 3, 4, 5, 6, 7, 8, 9, 10] rfl
      have hD := hD.sub (ws' := [(h, .inr (3, [.ref hti, .ref hto, .ref hnu, .ref hsp, .ref hsq, .ref hsm, .long lv2])), (hti, .inr (0, [.ref ati, .int (nI 0)])), (ati, .inl (cB, 65536, .inl ft)), (hto, .inr (1, [.ref ato, .int (nI st)])), (ato, .inl (cB, 65536, .inl fx)), (hnu, .inr (2, [.ref anu, .int (nI uN)])), (anu, .inl (cI, 2048, .inl fN)), (hsp, .inr (2, [.ref asp, .int (nI us)])), (asp, .inl (cI, 2048, .inl fs)), (hsq, .inr (2, [.ref asq, .int (nI uq)])), (asq, .inl (cI, 2048, .inl fq)), (hsm, .inr (2, [.ref asm, .int (nI u2)])), (asm, .inl (cI, 2, .inl f2))]) [0, 11, 12, 1, 2, 3, 4, 5, 6, 7, 8, 9, 10] (by decide) rfl
      refine lv_iload hx hb dX3_parse_32 (lv_at hl 0 rfl) ?_
      exact dm_iret hC hK (f2, u2, lv2, 0) (Or.inr ⟨wn, r, hwn, hr2, hr36, rfl, rfl, rfl, hw⟩) hP hD hS dX3_parse_34
    · refine lv_iconst (v := nI 3) hx hb dX3_parse_14 (by decide) ?_
      exact dm_iret hC hK (fm, um, lv, n) (Or.inl ⟨fun h9 => (e2.resolve_left (fun h8 => absurd (hd.symm.trans h8.2) (by decide))).1 h9.2, rfl, rfl, rfl⟩) hP hD hS dX3_parse_15
end
section
/-! ===== lN to 2^62 under >> and >>> ===== -/
theorem pf_lI {a : Nat} (h : a < 2 ^ 63) : (lN a).toInt = (a : Int) := lg_ofNat_toInt h
theorem pf_shr {a d : Nat} {D : Int64} (hD : (D.toBitVec.smod 64).toNat = d) (h : a < 2 ^ 62) : lN a >>> D = lN (a / 2 ^ d) := by
  have hd : a / 2 ^ d ≤ a := Nat.div_le_self _ _
  apply Int64.toInt_inj.mp
  have e : (lN a >>> D).toInt = (lN a).toInt >>> d := by
    rw [← hD]
    exact BitVec.toInt_sshiftRight ..
  rw [e, Int.shiftRight_eq_div_pow, pf_lI (by omega), pf_lI (by omega)]
  rfl
theorem pf_ushr {a d : Nat} {D : UInt64} (hD : D.toNat % 64 = d) (h : a < 2 ^ 62) : ((lN a).toUInt64 >>> D).toInt64 = lN (a / 2 ^ d) := by
  have hd : a / 2 ^ d ≤ a := Nat.div_le_self _ _
  have e : (lN a).toUInt64 >>> D = UInt64.ofNat (a / 2 ^ d) := UInt64.toNat_inj.mp (by
    rw [UInt64.toNat_shiftRight, hD, Nat.shiftRight_eq_div_pow, UInt64.toNat_ofNat']
    show (UInt64.ofNat a).toNat / 2 ^ d = _
    rw [UInt64.toNat_ofNat', Nat.mod_eq_of_lt (by omega), Nat.mod_eq_of_lt (by omega)])
  rw [e]
  rfl
theorem pf_andw (x : Int64) : ∃ m, m < 2 ^ 32 ∧ x &&& 4294967295 = lN m := ⟨x.toBitVec.toNat % 2 ^ 32, Nat.mod_lt _ (by decide), Int64.toBitVec_inj.mp (BitVec.eq_of_toNat_eq (by
  show (x.toBitVec &&& 4294967295#64).toNat = (BitVec.ofNat 64 (x.toBitVec.toNat % 2 ^ 32)).toNat
  rw [BitVec.toNat_and, show (4294967295#64).toNat = 2 ^ 32 - 1 from by decide, Nat.and_two_pow_sub_one_eq_mod, BitVec.toNat_ofNat]
  omega))⟩

/-! digits of 16 bits -/
def d16 (f : Nat → Int32) (n : Nat) : Prop := ∀ j, j < n → un (f j) < 65536
theorem nrm16_of_ge {f : Nat → Int32} {k : Nat} (hd : d16 f (k + 1)) (h : 65536 ^ k ≤ dvb 65536 f (k + 1)) : nrm f (k + 1) := by
  intro j hj e0
  have hjk : j = k := by omega
  subst hjk
  have h1 : dvb 65536 f (j + 1) = dvb 65536 f j + un (f j) * 65536 ^ j := rfl
  rw [e0, un_0] at h1
  have h2 : dvb 65536 f j < 65536 ^ j := dvb_lt (fun i hi => hd i (by omega))
  omega
theorem nrm16_ge {f : Nat → Int32} {k : Nat} (h : nrm f (k + 1)) : 65536 ^ k ≤ dvb 65536 f (k + 1) := dvb_ge (h k rfl)
theorem d16_lt {f : Nat → Int32} {n : Nat} (h : d16 f n) : dvb 65536 f n < 65536 ^ n := dvb_lt h
theorem d16_upd {f : Nat → Int32} {n : Nat} {v : Nat} (h : d16 f n) (hv : v < 65536) : d16 (upd f n (nI v)) (n + 1) := by
  intro j hj
  rcases (show j < n ∨ j = n by omega) with h1 | h1
  · rw [pk_un (by omega)]; exact h j h1
  · rw [h1, pk_us, un_nI (by omega)]; exact hv
theorem sh16 (a : Nat) (h : a < 4611686018427387904) : lN a >>> ((nI 16).toInt64 &&& 63) = lN (a / 65536) := pf_shr (d := 16) (by decide) h
theorem m16 {a : Nat} (h : a < 18446744073709551616) : lN a &&& 65535 = lN (a % 65536) := wb_mask (k := 16) h (by decide)
theorem nI_or16 {a b : Nat} (ha : a < 32768) (hb : b < 65536) : nI (a * 65536) ||| nI b = nI (a * 65536 + b) := by
  have h : (nI (a * 65536) ||| nI b).toBitVec = (nI (a * 65536 + b)).toBitVec := by
    show (nI (a * 65536)).toBitVec ||| (nI b).toBitVec = _
    apply BitVec.eq_of_toNat_eq
    rw [BitVec.toNat_or, pk_tn (by omega), pk_tn (by omega), pk_tn (by omega), Nat.mul_comm]
    exact (Nat.two_pow_add_eq_or_of_lt (i := 16) hb a).symm
  exact Int32.toBitVec_inj.mp h

set_option maxRecDepth 100000 in
set_option maxHeartbeats 4000000 in
theorem c_X4_isRadix (l : Launch) (D : va_G) (cB cI cC : ClassId) (x : Int32) : ROi l yX4_isRadix (Cond.code yX4_isRadix cX4_isRadix 1 (some .boolean)) 0 D (TY cB cI cC) [.int x] [] (fun r => (isR x ∧ r = 1) ∨ (¬ isR x ∧ r = 0)) := by
  refine ROi.of (by decide) (Nat.le_of_ble_eq_true rfl) ?_
  intro p e s m below meth c ls A hC hA hP hK hD hS hl
  obtain ⟨hx, hb, hr, hml, hown, hts, hlocks, hN⟩ := id hC
  have hown : s.vm.findClass RX4 = some m.cls := hown
  have hl : lv_has ls 1 [(0, .int x)] := hl
  refine lv_iload_n hx hb dX4_isRadix_0 rfl (lv_at hl 0 rfl) ?_
  refine lv_iconst (v := nI 1) hx hb dX4_isRadix_1 (by decide) ?_
  refine lv_icmp_le (tgt := 15) hx hb dX4_isRadix_2 (by decide) (fun hc => ?_) (fun hc => ?_)
  · refine lv_iconst (v := nI 0) hx hb dX4_isRadix_15 (by decide) ?_
    exact ri_zret hC (Or.inl rfl) (Or.inr ⟨fun ⟨n, h1, h2, e0⟩ => by rw [e0] at hc; exact nI_ge (a := 1) (b := n) (by omega) (by omega) hc, rfl⟩) dX4_isRadix_16
  · refine lv_iload_n hx hb dX4_isRadix_5 rfl (lv_at hl 0 rfl) ?_
    refine lv_bipush (v := nI 37) hx hb dX4_isRadix_6 (by decide) ?_
    refine lv_icmp_ge (tgt := 15) hx hb dX4_isRadix_8 (by decide) (fun hd => ?_) (fun hd => ?_)
    · refine lv_iconst (v := nI 0) hx hb dX4_isRadix_15 (by decide) ?_
      exact ri_zret hC (Or.inl rfl) (Or.inr ⟨fun ⟨n, h1, h2, e0⟩ => by rw [e0] at hd; exact nI_ge (a := n) (b := 37) (by omega) (by decide) hd, rfl⟩) dX4_isRadix_16
    · refine lv_iconst (v := nI 1) hx hb dX4_isRadix_11 (by decide) ?_
      refine lv_goto (tgt := 16) hx hb dX4_isRadix_12 (by decide) ?_
      exact ri_zret hC (Or.inr rfl) (Or.inl ⟨isR_of (fun h9 => hc (by have h1 := Int32.lt_iff_toInt_lt.mp h9; rw [Int32.le_iff_toInt_le]; rw [nI_toInt (by decide)] at *; omega)) (fun h9 => hd (by have h1 := Int32.lt_iff_toInt_lt.mp h9; rw [Int32.le_iff_toInt_le]; rw [nI_toInt (by decide)] at *; omega)), rfl⟩) dX4_isRadix_16

set_option maxRecDepth 100000 in
set_option maxHeartbeats 4000000 in
theorem c_X4_isWidth (l : Launch) (D : va_G) (cB cI cC : ClassId) (x : Int32) : ROi l yX4_isWidth (Cond.code yX4_isWidth cX4_isWidth 1 (some .boolean)) 0 D (TY cB cI cC) [.int x] [] (fun r => (isWd x ∧ r = 1) ∨ (¬ isWd x ∧ r = 0)) := by
  refine ROi.of (by decide) (Nat.le_of_ble_eq_true rfl) ?_
  intro p e s m below meth c ls A hC hA hP hK hD hS hl
  obtain ⟨hx, hb, hr, hml, hown, hts, hlocks, hN⟩ := id hC
  have hown : s.vm.findClass RX4 = some m.cls := hown
  have hl : lv_has ls 1 [(0, .int x)] := hl
  refine lv_iload_n hx hb dX4_isWidth_0 rfl (lv_at hl 0 rfl) ?_
  refine lv_bipush (v := nI 32) hx hb dX4_isWidth_1 (by decide) ?_
  refine lv_icmp_eq (tgt := 12) hx hb dX4_isWidth_3 (by decide) (fun hc => ?_) (fun hc => ?_)
  · refine lv_iconst (v := nI 1) hx hb dX4_isWidth_12 (by decide) ?_
    refine lv_goto (tgt := 17) hx hb dX4_isWidth_13 (by decide) ?_
    exact ri_zret hC (Or.inr rfl) (Or.inl ⟨Or.inl hc, rfl⟩) dX4_isWidth_17
  · refine lv_iload_n hx hb dX4_isWidth_6 rfl (lv_at hl 0 rfl) ?_
    refine lv_bipush (v := nI 64) hx hb dX4_isWidth_7 (by decide) ?_
    refine lv_icmp_ne (tgt := 16) hx hb dX4_isWidth_9 (by decide) (fun hd => ?_) (fun hd => ?_)
    · refine lv_iconst (v := nI 0) hx hb dX4_isWidth_16 (by decide) ?_
      exact ri_zret hC (Or.inl rfl) (Or.inr ⟨fun h9 => h9.elim hc hd, rfl⟩) dX4_isWidth_17
    · refine lv_iconst (v := nI 1) hx hb dX4_isWidth_12 (by decide) ?_
      refine lv_goto (tgt := 17) hx hb dX4_isWidth_13 (by decide) ?_
      exact ri_zret hC (Or.inr rfl) (Or.inl ⟨Or.inr hd, rfl⟩) dX4_isWidth_17

theorem dgv_d {c : Nat} (h : 48 ≤ c ∧ c ≤ 57) : dgv c = c - 48 := if_pos h
theorem dgv_a {c : Nat} (h : 97 ≤ c ∧ c ≤ 122) : dgv c = c - 87 := by unfold dgv; rw [if_neg (by omega), if_pos h]
theorem dgv_A {c : Nat} (h : 65 ≤ c ∧ c ≤ 90) : dgv c = c - 55 := by unfold dgv; rw [if_neg (by omega), if_neg (by omega), if_pos h]
theorem dgv_n {c : Nat} (h1 : ¬ (48 ≤ c ∧ c ≤ 57)) (h2 : ¬ (97 ≤ c ∧ c ≤ 122)) (h3 : ¬ (65 ≤ c ∧ c ≤ 90)) : dgv c = 36 := by unfold dgv; rw [if_neg h1, if_neg h2, if_neg h3]
def dgm (c : Nat) : Nat := if dgv c < 36 then dgv c else 99

set_option maxRecDepth 100000 in
set_option maxHeartbeats 4000000 in
theorem c_X4_digit (l : Launch) (D : va_G) (cB cI cC : ClassId) (c0 : Nat) (hc0 : c0 < 256) : ROi l yX4_digit (Cond.code yX4_digit cX4_digit 1 (some .int)) 0 D (TY cB cI cC) [.int (nI c0)] [] (fun r => r = nI (dgm c0)) := by
  refine ROi.of (by decide) (Nat.le_of_ble_eq_true rfl) ?_
  intro p e s m below meth c ls A hC hA hP hK hD hS hl
  obtain ⟨hx, hb, hr, hml, hown, hts, hlocks, hN⟩ := id hC
  have hown : s.vm.findClass RX4 = some m.cls := hown
  have hl : lv_has ls 1 [(0, .int (nI c0))] := hl
  refine lv_iload_n hx hb dX4_digit_0 rfl (lv_at hl 0 rfl) ?_
  refine lv_bipush (v := nI 48) hx hb dX4_digit_1 (by decide) ?_
  refine dm_icmp_lt (tgt := 19) hx hb (by omega) (by omega) dX4_digit_3 (by decide) (fun h1 => ?_) (fun h1 => ?_)
  · refine lv_iload_n hx hb dX4_digit_19 rfl (lv_at hl 0 rfl) ?_
    refine lv_bipush (v := nI 97) hx hb dX4_digit_20 (by decide) ?_
    refine dm_icmp_lt (tgt := 41) hx hb (by omega) (by omega) dX4_digit_22 (by decide) (fun h3 => ?_) (fun h3 => ?_)
    · refine lv_iload_n hx hb dX4_digit_41 rfl (lv_at hl 0 rfl) ?_
      refine lv_bipush (v := nI 65) hx hb dX4_digit_42 (by decide) ?_
      refine dm_icmp_lt (tgt := 63) hx hb (by omega) (by omega) dX4_digit_44 (by decide) (fun h5 => ?_) (fun h5 => ?_)
      · refine lv_bipush (v := nI 99) hx hb dX4_digit_63 (by decide) ?_
        exact ri_iret hC (by unfold dgm; rw [dgv_n (by omega) (by omega) (by omega)]; rfl) dX4_digit_65
      · refine lv_iload_n hx hb dX4_digit_47 rfl (lv_at hl 0 rfl) ?_
        refine lv_bipush (v := nI 90) hx hb dX4_digit_48 (by decide) ?_
        refine dm_icmp_gt (tgt := 63) hx hb (by omega) (by omega) dX4_digit_50 (by decide) (fun h6 => ?_) (fun h6 => ?_)
        · refine lv_bipush (v := nI 99) hx hb dX4_digit_63 (by decide) ?_
          exact ri_iret hC (by unfold dgm; rw [dgv_n (by omega) (by omega) (by omega)]; rfl) dX4_digit_65
        · refine lv_iload_n hx hb dX4_digit_53 rfl (lv_at hl 0 rfl) ?_
          refine lv_bipush (v := nI 65) hx hb dX4_digit_54 (by decide) ?_
          refine lv_isub hx hb dX4_digit_56 ?_
          refine dm_ti (y := nI (c0 - 65)) (pk_sub (by omega)) ?_
          refine lv_bipush (v := nI 10) hx hb dX4_digit_57 (by decide) ?_
          refine lv_iadd hx hb dX4_digit_59 ?_
          refine dm_ti (y := nI (c0 - 65 + 10)) (nI_add _ _) ?_
          refine lv_goto (tgt := 65) hx hb dX4_digit_60 (by decide) ?_
          exact ri_iret hC (by unfold dgm; rw [dgv_A (by omega), if_pos (by omega)]; congr 1; omega) dX4_digit_65
    · refine lv_iload_n hx hb dX4_digit_25 rfl (lv_at hl 0 rfl) ?_
      refine lv_bipush (v := nI 122) hx hb dX4_digit_26 (by decide) ?_
      refine dm_icmp_gt (tgt := 41) hx hb (by omega) (by omega) dX4_digit_28 (by decide) (fun h4 => ?_) (fun h4 => ?_)
      · refine lv_iload_n hx hb dX4_digit_41 rfl (lv_at hl 0 rfl) ?_
        refine lv_bipush (v := nI 65) hx hb dX4_digit_42 (by decide) ?_
        refine dm_icmp_lt (tgt := 63) hx hb (by omega) (by omega) dX4_digit_44 (by decide) (fun h5 => ?_) (fun h5 => ?_)
        · refine lv_bipush (v := nI 99) hx hb dX4_digit_63 (by decide) ?_
          exact ri_iret hC (by unfold dgm; rw [dgv_n (by omega) (by omega) (by omega)]; rfl) dX4_digit_65
        · refine lv_iload_n hx hb dX4_digit_47 rfl (lv_at hl 0 rfl) ?_
          refine lv_bipush (v := nI 90) hx hb dX4_digit_48 (by decide) ?_
          refine dm_icmp_gt (tgt := 63) hx hb (by omega) (by omega) dX4_digit_50 (by decide) (fun h6 => ?_) (fun h6 => ?_)
          · refine lv_bipush (v := nI 99) hx hb dX4_digit_63 (by decide) ?_
            exact ri_iret hC (by unfold dgm; rw [dgv_n (by omega) (by omega) (by omega)]; rfl) dX4_digit_65
          · refine lv_iload_n hx hb dX4_digit_53 rfl (lv_at hl 0 rfl) ?_
            refine lv_bipush (v := nI 65) hx hb dX4_digit_54 (by decide) ?_
            refine lv_isub hx hb dX4_digit_56 ?_
            refine dm_ti (y := nI (c0 - 65)) (pk_sub (by omega)) ?_
            refine lv_bipush (v := nI 10) hx hb dX4_digit_57 (by decide) ?_
            refine lv_iadd hx hb dX4_digit_59 ?_
            refine dm_ti (y := nI (c0 - 65 + 10)) (nI_add _ _) ?_
            refine lv_goto (tgt := 65) hx hb dX4_digit_60 (by decide) ?_
            exact ri_iret hC (by unfold dgm; rw [dgv_A (by omega), if_pos (by omega)]; congr 1; omega) dX4_digit_65
      · refine lv_iload_n hx hb dX4_digit_31 rfl (lv_at hl 0 rfl) ?_
        refine lv_bipush (v := nI 97) hx hb dX4_digit_32 (by decide) ?_
        refine lv_isub hx hb dX4_digit_34 ?_
        refine dm_ti (y := nI (c0 - 97)) (pk_sub (by omega)) ?_
        refine lv_bipush (v := nI 10) hx hb dX4_digit_35 (by decide) ?_
        refine lv_iadd hx hb dX4_digit_37 ?_
        refine dm_ti (y := nI (c0 - 97 + 10)) (nI_add _ _) ?_
        refine lv_goto (tgt := 65) hx hb dX4_digit_38 (by decide) ?_
        exact ri_iret hC (by unfold dgm; rw [dgv_a (by omega), if_pos (by omega)]; congr 1; omega) dX4_digit_65
  · refine lv_iload_n hx hb dX4_digit_6 rfl (lv_at hl 0 rfl) ?_
    refine lv_bipush (v := nI 57) hx hb dX4_digit_7 (by decide) ?_
    refine dm_icmp_gt (tgt := 19) hx hb (by omega) (by omega) dX4_digit_9 (by decide) (fun h2 => ?_) (fun h2 => ?_)
    · refine lv_iload_n hx hb dX4_digit_19 rfl (lv_at hl 0 rfl) ?_
      refine lv_bipush (v := nI 97) hx hb dX4_digit_20 (by decide) ?_
      refine dm_icmp_lt (tgt := 41) hx hb (by omega) (by omega) dX4_digit_22 (by decide) (fun h3 => ?_) (fun h3 => ?_)
      · refine lv_iload_n hx hb dX4_digit_41 rfl (lv_at hl 0 rfl) ?_
        refine lv_bipush (v := nI 65) hx hb dX4_digit_42 (by decide) ?_
        refine dm_icmp_lt (tgt := 63) hx hb (by omega) (by omega) dX4_digit_44 (by decide) (fun h5 => ?_) (fun h5 => ?_)
        · refine lv_bipush (v := nI 99) hx hb dX4_digit_63 (by decide) ?_
          exact ri_iret hC (by unfold dgm; rw [dgv_n (by omega) (by omega) (by omega)]; rfl) dX4_digit_65
        · refine lv_iload_n hx hb dX4_digit_47 rfl (lv_at hl 0 rfl) ?_
          refine lv_bipush (v := nI 90) hx hb dX4_digit_48 (by decide) ?_
          refine dm_icmp_gt (tgt := 63) hx hb (by omega) (by omega) dX4_digit_50 (by decide) (fun h6 => ?_) (fun h6 => ?_)
          · refine lv_bipush (v := nI 99) hx hb dX4_digit_63 (by decide) ?_
            exact ri_iret hC (by unfold dgm; rw [dgv_n (by omega) (by omega) (by omega)]; rfl) dX4_digit_65
          · refine lv_iload_n hx hb dX4_digit_53 rfl (lv_at hl 0 rfl) ?_
            refine lv_bipush (v := nI 65) hx hb dX4_digit_54 (by decide) ?_
            refine lv_isub hx hb dX4_digit_56 ?_
            refine dm_ti (y := nI (c0 - 65)) (pk_sub (by omega)) ?_
            refine lv_bipush (v := nI 10) hx hb dX4_digit_57 (by decide) ?_
            refine lv_iadd hx hb dX4_digit_59 ?_
            refine dm_ti (y := nI (c0 - 65 + 10)) (nI_add _ _) ?_
            refine lv_goto (tgt := 65) hx hb dX4_digit_60 (by decide) ?_
            exact ri_iret hC (by unfold dgm; rw [dgv_A (by omega), if_pos (by omega)]; congr 1; omega) dX4_digit_65
      · refine lv_iload_n hx hb dX4_digit_25 rfl (lv_at hl 0 rfl) ?_
        refine lv_bipush (v := nI 122) hx hb dX4_digit_26 (by decide) ?_
        refine dm_icmp_gt (tgt := 41) hx hb (by omega) (by omega) dX4_digit_28 (by decide) (fun h4 => ?_) (fun h4 => ?_)
        · refine lv_iload_n hx hb dX4_digit_41 rfl (lv_at hl 0 rfl) ?_
          refine lv_bipush (v := nI 65) hx hb dX4_digit_42 (by decide) ?_
          refine dm_icmp_lt (tgt := 63) hx hb (by omega) (by omega) dX4_digit_44 (by decide) (fun h5 => ?_) (fun h5 => ?_)
          · refine lv_bipush (v := nI 99) hx hb dX4_digit_63 (by decide) ?_
            exact ri_iret hC (by unfold dgm; rw [dgv_n (by omega) (by omega) (by omega)]; rfl) dX4_digit_65
          · refine lv_iload_n hx hb dX4_digit_47 rfl (lv_at hl 0 rfl) ?_
            refine lv_bipush (v := nI 90) hx hb dX4_digit_48 (by decide) ?_
            refine dm_icmp_gt (tgt := 63) hx hb (by omega) (by omega) dX4_digit_50 (by decide) (fun h6 => ?_) (fun h6 => ?_)
            · refine lv_bipush (v := nI 99) hx hb dX4_digit_63 (by decide) ?_
              exact ri_iret hC (by unfold dgm; rw [dgv_n (by omega) (by omega) (by omega)]; rfl) dX4_digit_65
            · refine lv_iload_n hx hb dX4_digit_53 rfl (lv_at hl 0 rfl) ?_
              refine lv_bipush (v := nI 65) hx hb dX4_digit_54 (by decide) ?_
              refine lv_isub hx hb dX4_digit_56 ?_
              refine dm_ti (y := nI (c0 - 65)) (pk_sub (by omega)) ?_
              refine lv_bipush (v := nI 10) hx hb dX4_digit_57 (by decide) ?_
              refine lv_iadd hx hb dX4_digit_59 ?_
              refine dm_ti (y := nI (c0 - 65 + 10)) (nI_add _ _) ?_
              refine lv_goto (tgt := 65) hx hb dX4_digit_60 (by decide) ?_
              exact ri_iret hC (by unfold dgm; rw [dgv_A (by omega), if_pos (by omega)]; congr 1; omega) dX4_digit_65
        · refine lv_iload_n hx hb dX4_digit_31 rfl (lv_at hl 0 rfl) ?_
          refine lv_bipush (v := nI 97) hx hb dX4_digit_32 (by decide) ?_
          refine lv_isub hx hb dX4_digit_34 ?_
          refine dm_ti (y := nI (c0 - 97)) (pk_sub (by omega)) ?_
          refine lv_bipush (v := nI 10) hx hb dX4_digit_35 (by decide) ?_
          refine lv_iadd hx hb dX4_digit_37 ?_
          refine dm_ti (y := nI (c0 - 97 + 10)) (nI_add _ _) ?_
          refine lv_goto (tgt := 65) hx hb dX4_digit_38 (by decide) ?_
          exact ri_iret hC (by unfold dgm; rw [dgv_a (by omega), if_pos (by omega)]; congr 1; omega) dX4_digit_65
    · refine lv_iload_n hx hb dX4_digit_12 rfl (lv_at hl 0 rfl) ?_
      refine lv_bipush (v := nI 48) hx hb dX4_digit_13 (by decide) ?_
      refine lv_isub hx hb dX4_digit_15 ?_
      refine dm_ti (y := nI (c0 - 48)) (pk_sub (by omega)) ?_
      refine lv_goto (tgt := 65) hx hb dX4_digit_16 (by decide) ?_
      exact ri_iret hC (by unfold dgm; rw [dgv_d (by omega), if_pos (by omega)]) dX4_digit_65

theorem c16 : ∀ c, c < 128 → ((nI c).toUInt32 % 65536).toInt32 = nI c := by decide
theorem narC {c : Nat} (h : c < 128) : vp_nar .char (nI c) = nI c := by rw [vp_nar_char]; have := c16 c h; revert this; revert h; revert c; decide

set_option maxRecDepth 100000 in
set_option maxHeartbeats 4000000 in
theorem c_X4_character (l : Launch) (D : va_G) (cB cI cC : ClassId) (d0 : Nat) (hd0 : d0 < 36) : ROi l yX4_character (Cond.code yX4_character cX4_character 1 (some .char)) 0 D (TY cB cI cC) [.int (nI d0)] [] (fun r => r = nI (cdv d0)) := by
  refine ROi.of (by decide) (Nat.le_of_ble_eq_true rfl) ?_
  intro p e s m below meth c ls A hC hA hP hK hD hS hl
  obtain ⟨hx, hb, hr, hml, hown, hts, hlocks, hN⟩ := id hC
  have hown : s.vm.findClass RX4 = some m.cls := hown
  have hl : lv_has ls 1 [(0, .int (nI d0))] := hl
  refine lv_iload_n hx hb dX4_character_0 rfl (lv_at hl 0 rfl) ?_
  refine lv_bipush (v := nI 10) hx hb dX4_character_1 (by decide) ?_
  refine dm_icmp_ge (tgt := 13) hx hb (by omega) (by omega) dX4_character_3 (by decide) (fun h1 => ?_) (fun h1 => ?_)
  · refine lv_bipush (v := nI 97) hx hb dX4_character_13 (by decide) ?_
    refine lv_iload_n hx hb dX4_character_15 rfl (lv_at hl 0 rfl) ?_
    refine lv_iadd hx hb dX4_character_16 ?_
    refine dm_ti (y := nI (97 + d0)) (nI_add _ _) ?_
    refine lv_bipush (v := nI 10) hx hb dX4_character_17 (by decide) ?_
    refine lv_isub hx hb dX4_character_19 ?_
    refine dm_ti (y := nI (cdv d0)) (by rw [pk_sub (by omega)]; unfold cdv; rw [if_neg (by omega)]; congr 1; omega) ?_
    refine lv_i2c (v := nI (cdv d0)) hx hb dX4_character_20 (c16 _ (cdv_lt hd0)) ?_
    exact W.zret hx hb hr (by have h9 : cdv d0 < 128 := cdv_lt hd0; revert h9; generalize cdv d0 = z; revert z; decide) (fun t ht _ => ⟨_, rfl, rfl, ht⟩) (fun q h => by cases h) dX4_character_21 hlocks
  · refine lv_bipush (v := nI 48) hx hb dX4_character_6 (by decide) ?_
    refine lv_iload_n hx hb dX4_character_8 rfl (lv_at hl 0 rfl) ?_
    refine lv_iadd hx hb dX4_character_9 ?_
    refine dm_ti (y := nI (cdv d0)) (by rw [nI_add]; unfold cdv; rw [if_pos (by omega)]) ?_
    refine lv_goto (tgt := 20) hx hb dX4_character_10 (by decide) ?_
    refine lv_i2c (v := nI (cdv d0)) hx hb dX4_character_20 (c16 _ (cdv_lt hd0)) ?_
    exact W.zret hx hb hr (by have h9 : cdv d0 < 128 := cdv_lt hd0; revert h9; generalize cdv d0 = z; revert z; decide) (fun t ht _ => ⟨_, rfl, rfl, ht⟩) (fun q h => by cases h) dX4_character_21 hlocks

set_option maxRecDepth 100000 in
set_option maxHeartbeats 4000000 in
theorem c_X4_timesAdd (l : Launch) (D : va_G) (cB cI cC : ClassId) (g gi go gn gr kt kw kz ks : Nat) (th : Int32) (kv : Int64) (kr : Nat → Int32) (b mo : Nat) (hks : ks ≤ 4096) (hd : d16 kr ks) (hb1 : 0 < b) (hbb : b < 2 ^ 31) (hmo : mo < 2 ^ 31) : MI l yX4_timesAdd (Cond.code yX4_timesAdd cX4_timesAdd 6 (some .boolean)) 0 D (TY cB cI cC) [.ref g, .int (nI b), .int (nI mo)] [(g, .inr (4, [.int th, .int (nI kt), .ref gi, .int (nI kw), .ref go, .int (nI kz), .ref gn, .int (nI ks), .ref gr, .long kv])), (gr, .inl (cI, 4096, .inl kr))] (S := (Nat → Int32) × Nat) (fun r q => (r = 1 ∧ q.2 ≤ 4096 ∧ d16 q.1 q.2 ∧ dvb 65536 q.1 q.2 = dvb 65536 kr ks * b + mo ∧ (nrm kr ks → nrm q.1 q.2)) ∨ (r = 0 ∧ q.2 ≤ 4096 ∧ 65536 ^ 4096 ≤ dvb 65536 kr ks * b + mo)) (fun q => [(g, .inr (4, [.int th, .int (nI kt), .ref gi, .int (nI kw), .ref go, .int (nI kz), .ref gn, .int (nI q.2), .ref gr, .long kv])), (gr, .inl (cI, 4096, .inl q.1))]) := by
  refine MI.of (by decide) (Nat.le_of_ble_eq_true rfl) ?_
  intro p e s m below meth c ls A hC hA hP hK hD hS hl
  obtain ⟨hx, hb, hr, hml, hown, hts, hlocks, hN⟩ := id hC
  have hown : s.vm.findClass RX4 = some m.cls := hown
  have hl : lv_has ls 6 [(0, .ref g), (1, .int (nI b)), (2, .int (nI mo))] := hl
  refine lv_iload_n hx hb dX4_timesAdd_0 rfl (lv_at hl 2 rfl) ?_
  refine lv_i2l (v := lN mo) hx hb dX4_timesAdd_1 (nI_l hmo) ?_
  refine lv_lstore_n (lv' := [(3, .long (lN mo)), (0, .ref g), (1, .int (nI b)), (2, .int (nI mo))]) hx hb dX4_timesAdd_2 rfl hl (by decide) rfl (fun ls hl => ?_)
  refine lv_iconst (v := nI 0) hx hb dX4_timesAdd_3 (by decide) ?_
  refine lv_istore (lv' := [(5, .int (nI 0)), (3, .long (lN mo)), (0, .ref g), (1, .int (nI b)), (2, .int (nI mo))]) hx hb dX4_timesAdd_4 hl (by decide) rfl (fun ls hl => ?_)
  refine dm_loop (nL := 6) (head := 6) (P := fun (x : Nat × Nat × (Nat → Int32)) => x.1 ≤ ks ∧ x.2.1 < 2147483648 ∧ d16 x.2.2 ks ∧ dvb 65536 x.2.2 x.1 + x.2.1 * 65536 ^ x.1 = dvb 65536 kr x.1 * b + mo ∧ ∀ j, x.1 ≤ j → x.2.2 j = kr j) (w := fun x => [(g, .inr (4, [.int th, .int (nI kt), .ref gi, .int (nI kw), .ref go, .int (nI kz), .ref gn, .int (nI ks), .ref gr, .long kv])), (gr, .inl (cI, 4096, .inl x.2.2))]) (lv := fun x => [(5, .int (nI x.1)), (3, .long (lN x.2.1)), (0, .ref g), (1, .int (nI b)), (2, .int (nI mo))]) (μ := fun x => ks - x.1) ?_ (0, mo, kr) ⟨Nat.zero_le _, hmo, hd, by simp [dvb], fun _ _ => rfl⟩ hP hD hS hl
  rintro ⟨i, car, F⟩ H locs ls ⟨hi, hcar, hdF, hinv, hge⟩ hP hD hS hl ih
  dsimp only at hi hcar hdF hinv hge
  have hP : va_P D vwCl [(g, .inr (4, [.int th, .int (nI kt), .ref gi, .int (nI kw), .ref go, .int (nI kz), .ref gn, .int (nI ks), .ref gr, .long kv])), (gr, .inl (cI, 4096, .inl F))] H := hP
  have hD : va_D A [(g, .inr (4, [.int th, .int (nI kt), .ref gi, .int (nI kw), .ref go, .int (nI kz), .ref gn, .int (nI ks), .ref gr, .long kv])), (gr, .inl (cI, 4096, .inl F))] := hD
  have hl : lv_has ls 6 [(5, .int (nI i)), (3, .long (lN car)), (0, .ref g), (1, .int (nI b)), (2, .int (nI mo))] := hl
  refine lv_iload hx hb dX4_timesAdd_6 (lv_at hl 0 rfl) ?_
  refine lv_aload_n hx hb dX4_timesAdd_8 rfl (lv_at hl 2 rfl) ?_
  refine va_get (D := D) (ci := 4) (C := RX4) (T := TX4) (N := 10) (v := .int (nI ks)) hx hb hts kin_X4_w hown hK hP 0 rfl rfl 7 (by decide) (hts _ kfl_X4_28) (fun _ h9 => h9) rfl dX4_timesAdd_9 ?_
  refine dm_icmp_ge (tgt := 53) hx hb (by omega) (by omega) dX4_timesAdd_12 (by decide) (fun hc => ?_) (fun hc => ?_)
  · have hik : i = ks := by omega
    have hl0 := hl
    have hP0 := hP
    have hD0 := hD
    have hS0 := hS
    clear ih
    rw [hik] at hinv
    refine dm_loop (nL := 6) (head := 53) (P := fun (x : Nat × (Nat → Int32) × Nat) => x.1 < 2147483648 ∧ x.2.2 ≤ 4096 ∧ d16 x.2.1 x.2.2 ∧ dvb 65536 x.2.1 x.2.2 + x.1 * 65536 ^ x.2.2 = dvb 65536 kr ks * b + mo ∧ (nrm kr ks → x.1 = 0 → nrm x.2.1 x.2.2)) (w := fun x => [(g, .inr (4, [.int th, .int (nI kt), .ref gi, .int (nI kw), .ref go, .int (nI kz), .ref gn, .int (nI x.2.2), .ref gr, .long kv])), (gr, .inl (cI, 4096, .inl x.2.1))]) (lv := fun x => [(3, .long (lN x.1)), (0, .ref g), (1, .int (nI b)), (2, .int (nI mo))]) (μ := fun x => x.1) ?_ (car, F, ks) ⟨hcar, hks, hdF, hinv, ?_⟩ hP hD hS (lv_sub hl [1, 2, 3, 4] rfl)
    · clear hinv hcar hdF hge hl hP hD hS hl0 hP0 hD0 hS0
      rintro ⟨ca, G, S⟩ H locs ls ⟨hca, hSl, hdG, hinv, hnz⟩ hP hD hS hl ih
      dsimp only at hca hSl hdG hinv hnz
      have hP : va_P D vwCl [(g, .inr (4, [.int th, .int (nI kt), .ref gi, .int (nI kw), .ref go, .int (nI kz), .ref gn, .int (nI S), .ref gr, .long kv])), (gr, .inl (cI, 4096, .inl G))] H := hP
      have hD : va_D A [(g, .inr (4, [.int th, .int (nI kt), .ref gi, .int (nI kw), .ref go, .int (nI kz), .ref gn, .int (nI S), .ref gr, .long kv])), (gr, .inl (cI, 4096, .inl G))] := hD
      have hl : lv_has ls 6 [(3, .long (lN ca)), (0, .ref g), (1, .int (nI b)), (2, .int (nI mo))] := hl
      refine lv_lload_n hx hb dX4_timesAdd_53 rfl (lv_at hl 0 rfl) ?_
      refine lv_lconst (v := lN 0) hx hb dX4_timesAdd_54 (by decide) ?_
      refine dm_lc_le (tgt := 104) hx hb (by omega) (by omega) dX4_timesAdd_55 dX4_timesAdd_56 (by decide) (fun hz => ?_) (fun hz => ?_)
      · have hz : ca = 0 := by omega
        refine lv_iconst (v := nI 1) hx hb dX4_timesAdd_104 (by decide) ?_
        exact dm_zret (v := nI 1) hC (Or.inr rfl) hK (G, S) (Or.inl ⟨rfl, hSl, hdG, by show dvb _ G S = _; rw [hz] at hinv; omega, fun h9 => hnz h9 hz⟩) hP hD hS dX4_timesAdd_105
      · refine lv_aload_n hx hb dX4_timesAdd_59 rfl (lv_at hl 1 rfl) ?_
        refine va_get (D := D) (ci := 4) (C := RX4) (T := TX4) (N := 10) (v := .int (nI S)) hx hb hts kin_X4_w hown hK hP 0 rfl rfl 7 (by decide) (hts _ kfl_X4_28) (fun _ h9 => h9) rfl dX4_timesAdd_60 ?_
        refine lv_sipush (v := nI 4096) hx hb dX4_timesAdd_63 (by decide) ?_
        refine dm_icmp_ne (tgt := 71) hx hb (by omega) (by omega) dX4_timesAdd_66 (by decide) (fun he => ?_) (fun he => ?_)
        · refine lv_aload_n hx hb dX4_timesAdd_71 rfl (lv_at hl 1 rfl) ?_
          refine va_get (D := D) (ci := 4) (C := RX4) (T := TX4) (N := 10) (v := .ref gr) hx hb hts kin_X4_w hown hK hP 0 rfl rfl 8 (by decide) (hts _ kfl_X4_21) (fun _ h9 => h9) rfl dX4_timesAdd_72 ?_
          refine lv_aload_n hx hb dX4_timesAdd_75 rfl (lv_at hl 1 rfl) ?_
          refine va_get (D := D) (ci := 4) (C := RX4) (T := TX4) (N := 10) (v := .int (nI S)) hx hb hts kin_X4_w hown hK hP 0 rfl rfl 7 (by decide) (hts _ kfl_X4_28) (fun _ h9 => h9) rfl dX4_timesAdd_76 ?_
          refine lv_lload_n hx hb dX4_timesAdd_79 rfl (lv_at hl 0 rfl) ?_
          refine lv_ldc2 (v := 65535) hx hb hown (hts _ kct_X4_31) dX4_timesAdd_80 ?_
          refine lv_land hx hb dX4_timesAdd_83 ?_
          refine dm_tl (y := lN (ca % 65536)) (m16 (by omega)) ?_
          refine lv_l2i (v := nI (ca % 65536)) hx hb dX4_timesAdd_84 (lN_low) ?_
          refine dm_iast (j := S) (f' := upd G S (nI (ca % 65536))) hx hb hK hP hD hS 1 1 rfl rfl (by omega) (by decide) (rfl) dX4_timesAdd_85 (fun H locs hP hD hS => ?_)
          have hP : va_P D vwCl [(g, .inr (4, [.int th, .int (nI kt), .ref gi, .int (nI kw), .ref go, .int (nI kz), .ref gn, .int (nI S), .ref gr, .long kv])), (gr, .inl (cI, 4096, .inl (upd G S (nI (ca % 65536)))))] H := hP
          have hD : va_D A [(g, .inr (4, [.int th, .int (nI kt), .ref gi, .int (nI kw), .ref go, .int (nI kz), .ref gn, .int (nI S), .ref gr, .long kv])), (gr, .inl (cI, 4096, .inl (upd G S (nI (ca % 65536)))))] := hD
          refine lv_aload_n hx hb dX4_timesAdd_86 rfl (lv_at hl 1 rfl) ?_
          refine lv_dup hx hb dX4_timesAdd_87 rfl ?_
          refine va_get (D := D) (ci := 4) (C := RX4) (T := TX4) (N := 10) (v := .int (nI S)) hx hb hts kin_X4_w hown hK hP 0 rfl rfl 7 (by decide) (hts _ kfl_X4_28) (fun _ h9 => h9) rfl dX4_timesAdd_88 ?_
          refine lv_iconst (v := nI 1) hx hb dX4_timesAdd_91 (by decide) ?_
          refine lv_iadd hx hb dX4_timesAdd_92 ?_
          refine dm_ti (y := nI (S + 1)) (nI_1 S) ?_
          refine va_put (D := D) (ci := 4) (v := .int (nI (S + 1))) (ty := .int) (C := RX4) (T := TX4) (N := 10) hx hb hts kin_X4_w tyX4 tyX4_ok nmX4 hown hK hP hD hS 0 rfl rfl 7 (by decide) (hts _ kfl_X4_28) (fun _ h9 => h9) rfl (by decide +kernel) rfl rfl (Nat.le_of_ble_eq_true rfl) dX4_timesAdd_93 (fun H locs hP hD hS => ?_)
          have hP : va_P D vwCl [(g, .inr (4, [.int th, .int (nI kt), .ref gi, .int (nI kw), .ref go, .int (nI kz), .ref gn, .int (nI (S + 1)), .ref gr, .long kv])), (gr, .inl (cI, 4096, .inl (upd G S (nI (ca % 65536)))))] H := hP
          have hD : va_D A [(g, .inr (4, [.int th, .int (nI kt), .ref gi, .int (nI kw), .ref go, .int (nI kz), .ref gn, .int (nI (S + 1)), .ref gr, .long kv])), (gr, .inl (cI, 4096, .inl (upd G S (nI (ca % 65536)))))] := hD
          refine lv_lload_n hx hb dX4_timesAdd_96 rfl (lv_at hl 0 rfl) ?_
          refine lv_bipush (v := nI 16) hx hb dX4_timesAdd_97 (by decide) ?_
          refine lv_lshr (v := lN (ca / 65536)) hx hb dX4_timesAdd_99 (sh16 _ (by omega)) ?_
          refine lv_lstore_n (lv' := [(3, .long (lN (ca / 65536))), (0, .ref g), (1, .int (nI b)), (2, .int (nI mo))]) hx hb dX4_timesAdd_100 rfl hl (by decide) rfl (fun ls hl => ?_)
          refine lv_goto (tgt := 53) hx hb dX4_timesAdd_101 (by decide) ?_
          refine ih (ca / 65536, upd G S (nI (ca % 65536)), S + 1) H locs ls (by show ca / 65536 < ca; omega) ⟨by show ca / 65536 < _; omega, by show S + 1 ≤ 4096; omega, d16_upd hdG (by omega), ?_, fun _ h9 => ?_⟩ hP hD hS (lv_sub hl [0, 1, 2, 3] rfl)
          · show dvb 65536 (upd G S _) S + un (upd G S _ S) * 65536 ^ S + ca / 65536 * 65536 ^ (S + 1) = _
            rw [dvb_upd (Nat.le_refl _), pk_us, un_nI (by omega), ← hinv, Nat.pow_succ]
            have h8 := Nat.div_add_mod ca 65536
            generalize ca / 65536 = c1 at *
            generalize ca % 65536 = c0 at *
            rw [← h8]
            grind
          · have h9 : ca / 65536 = 0 := h9
            show nrm (upd G S _) (S + 1)
            intro k hk
            rw [show k = S by omega, pk_us]
            exact nI_ne0' (by omega) (by omega)
        · refine lv_iconst (v := nI 0) hx hb dX4_timesAdd_69 (by decide) ?_
          refine dm_zret (v := nI 0) hC (Or.inl rfl) hK (G, S) (Or.inr ⟨rfl, hSl, ?_⟩) hP hD hS dX4_timesAdd_70
          rw [← hinv, he]
          have h8 : 1 * 65536 ^ 4096 ≤ ca * 65536 ^ 4096 := Nat.mul_le_mul_right _ (by omega)
          omega
    · intro hn0 hz
      have hz : car = 0 := hz
      show nrm F ks
      rw [hz] at hinv
      cases ks with
      | zero => exact nrm_0 F
      | succ k =>
        refine nrm16_of_ge hdF ?_
        have h5 := nrm16_ge hn0
        have h6 : dvb 65536 kr (k + 1) * 1 ≤ dvb 65536 kr (k + 1) * b := Nat.mul_le_mul_left _ hb1
        omega
  · have hw := hd i hc
    have hF := hge i (Nat.le_refl i)
    obtain ⟨sm, hsm⟩ : ∃ z, z = un (kr i) * b + car := ⟨_, rfl⟩
    have hsb : sm < 140737488355328 := by
      have h1 : un (kr i) * b ≤ 65535 * 2147483647 := Nat.mul_le_mul (by omega) (by omega)
      omega
    refine lv_lload_n hx hb dX4_timesAdd_15 rfl (lv_at hl 1 rfl) ?_
    refine lv_aload_n hx hb dX4_timesAdd_16 rfl (lv_at hl 2 rfl) ?_
    refine va_get (D := D) (ci := 4) (C := RX4) (T := TX4) (N := 10) (v := .ref gr) hx hb hts kin_X4_w hown hK hP 0 rfl rfl 8 (by decide) (hts _ kfl_X4_21) (fun _ h9 => h9) rfl dX4_timesAdd_17 ?_
    refine lv_iload hx hb dX4_timesAdd_20 (lv_at hl 0 rfl) ?_
    refine dm_iald (j := i) hx hb hK hP 1 1 rfl rfl (by omega) (by decide) dX4_timesAdd_22 ?_
    refine dm_ti (y := nI (un (kr i))) (by rw [hF, nI_un]) ?_
    refine lv_i2l (v := lN (un (kr i))) hx hb dX4_timesAdd_23 (nI_l (by omega)) ?_
    refine lv_iload_n hx hb dX4_timesAdd_24 rfl (lv_at hl 3 rfl) ?_
    refine lv_i2l (v := lN b) hx hb dX4_timesAdd_25 (nI_l hbb) ?_
    refine lv_lmul hx hb dX4_timesAdd_26 ?_
    refine dm_tl (y := lN (un (kr i) * b)) (lN_mul _ _) ?_
    refine lv_ladd hx hb dX4_timesAdd_27 ?_
    refine dm_tl (y := lN sm) (by rw [lN_add, hsm, Nat.add_comm]) ?_
    refine lv_lstore_n (lv' := [(3, .long (lN sm)), (5, .int (nI i)), (0, .ref g), (1, .int (nI b)), (2, .int (nI mo))]) hx hb dX4_timesAdd_28 rfl hl (by decide) rfl (fun ls hl => ?_)
    refine lv_aload_n hx hb dX4_timesAdd_29 rfl (lv_at hl 2 rfl) ?_
    refine va_get (D := D) (ci := 4) (C := RX4) (T := TX4) (N := 10) (v := .ref gr) hx hb hts kin_X4_w hown hK hP 0 rfl rfl 8 (by decide) (hts _ kfl_X4_21) (fun _ h9 => h9) rfl dX4_timesAdd_30 ?_
    refine lv_iload hx hb dX4_timesAdd_33 (lv_at hl 1 rfl) ?_
    refine lv_lload_n hx hb dX4_timesAdd_35 rfl (lv_at hl 0 rfl) ?_
    refine lv_ldc2 (v := 65535) hx hb hown (hts _ kct_X4_31) dX4_timesAdd_36 ?_
    refine lv_land hx hb dX4_timesAdd_39 ?_
    refine dm_tl (y := lN (sm % 65536)) (m16 (by omega)) ?_
    refine lv_l2i (v := nI (sm % 65536)) hx hb dX4_timesAdd_40 (lN_low) ?_
    refine dm_iast (j := i) (f' := upd F i (nI (sm % 65536))) hx hb hK hP hD hS 1 1 rfl rfl (by omega) (by decide) (rfl) dX4_timesAdd_41 (fun H locs hP hD hS => ?_)
    have hP : va_P D vwCl [(g, .inr (4, [.int th, .int (nI kt), .ref gi, .int (nI kw), .ref go, .int (nI kz), .ref gn, .int (nI ks), .ref gr, .long kv])), (gr, .inl (cI, 4096, .inl (upd F i (nI (sm % 65536)))))] H := hP
    have hD : va_D A [(g, .inr (4, [.int th, .int (nI kt), .ref gi, .int (nI kw), .ref go, .int (nI kz), .ref gn, .int (nI ks), .ref gr, .long kv])), (gr, .inl (cI, 4096, .inl (upd F i (nI (sm % 65536)))))] := hD
    refine lv_lload_n hx hb dX4_timesAdd_42 rfl (lv_at hl 0 rfl) ?_
    refine lv_bipush (v := nI 16) hx hb dX4_timesAdd_43 (by decide) ?_
    refine lv_lshr (v := lN (sm / 65536)) hx hb dX4_timesAdd_45 (sh16 _ (by omega)) ?_
    refine lv_lstore_n (lv' := [(3, .long (lN (sm / 65536))), (5, .int (nI i)), (0, .ref g), (1, .int (nI b)), (2, .int (nI mo))]) hx hb dX4_timesAdd_46 rfl hl (by decide) rfl (fun ls hl => ?_)
    refine lv_iinc (v := nI (i + 1)) (lv' := [(5, .int (nI (i + 1))), (3, .long (lN (sm / 65536))), (0, .ref g), (1, .int (nI b)), (2, .int (nI mo))]) hx hb dX4_timesAdd_47 hl (k := 1) rfl ((nI_succ i).symm) (by decide) rfl (fun ls hl => ?_)
    refine lv_goto (tgt := 6) hx hb dX4_timesAdd_50 (by decide) ?_
    refine ih (i + 1, sm / 65536, upd F i (nI (sm % 65536))) H locs ls (by show ks - (i + 1) < ks - i; omega) ⟨by show i + 1 ≤ ks; omega, ?_, fun j hj => ?_, ?_, fun j hj => ?_⟩ hP hD hS (lv_sub hl [0, 1, 2, 3, 4] rfl)
    · show sm / 65536 < 2147483648
      have h1 : un (kr i) * b ≤ 65535 * b := Nat.mul_le_mul_right _ (by omega)
      have h2 : sm ≤ 65535 * 2147483647 + 2147483647 := by
        have h3 : un (kr i) * b ≤ 65535 * 2147483647 := Nat.mul_le_mul (by omega) (by omega)
        omega
      omega
    · show un (upd F i _ j) < 65536
      by_cases h6 : j = i
      · rw [h6, pk_us, un_nI (by omega)]; omega
      · rw [pk_un h6]; exact hdF j hj
    · show dvb 65536 (upd F i _) i + un (upd F i _ i) * 65536 ^ i + sm / 65536 * 65536 ^ (i + 1) = _
      rw [dvb_upd (Nat.le_refl i), pk_us, un_nI (by omega), hsm]
      exact dvb_mul_step (by decide) hinv
    · show upd F i _ j = kr j
      have hj : i + 1 ≤ j := hj
      rw [pk_un (by omega)]
      exact hge j (by omega)
end
section
set_option maxRecDepth 100000 in
set_option maxHeartbeats 4000000 in
theorem c_X4_divide (l : Launch) (D : va_G) (cB cI cC : ClassId) (g gi go gn gr kt kw kz ks : Nat) (th : Int32) (kv : Int64) (kr : Nat → Int32) (b : Nat) (hks : ks ≤ 4096) (hd : d16 kr ks) (hb1 : 0 < b) (hbb : b ≤ 32768) : MI l yX4_divide (Cond.code yX4_divide cX4_divide 5 (some .int)) 0 D (TY cB cI cC) [.ref g, .int (nI b)] [(g, .inr (4, [.int th, .int (nI kt), .ref gi, .int (nI kw), .ref go, .int (nI kz), .ref gn, .int (nI ks), .ref gr, .long kv])), (gr, .inl (cI, 4096, .inl kr))] (S := (Nat → Int32) × Nat) (fun r q => r = nI (dvb 65536 kr ks % b) ∧ q.2 ≤ ks ∧ d16 q.1 q.2 ∧ dvb 65536 q.1 q.2 = dvb 65536 kr ks / b ∧ nrm q.1 q.2) (fun q => [(g, .inr (4, [.int th, .int (nI kt), .ref gi, .int (nI kw), .ref go, .int (nI kz), .ref gn, .int (nI q.2), .ref gr, .long kv])), (gr, .inl (cI, 4096, .inl q.1))]) := by
  refine MI.of (by decide) (Nat.le_of_ble_eq_true rfl) ?_
  intro p e s m below meth c ls A hC hA hP hK hD hS hl
  obtain ⟨hx, hb, hr, hml, hown, hts, hlocks, hN⟩ := id hC
  have hown : s.vm.findClass RX4 = some m.cls := hown
  have hl : lv_has ls 5 [(0, .ref g), (1, .int (nI b))] := hl
  refine lv_iconst (v := nI 0) hx hb dX4_divide_0 (by decide) ?_
  refine lv_istore_n (lv' := [(2, .int (nI 0)), (0, .ref g), (1, .int (nI b))]) hx hb dX4_divide_1 rfl hl (by decide) rfl (fun ls hl => ?_)
  refine lv_aload_n hx hb dX4_divide_2 rfl (lv_at hl 1 rfl) ?_
  refine va_get (D := D) (ci := 4) (C := RX4) (T := TX4) (N := 10) (v := .int (nI ks)) hx hb hts kin_X4_w hown hK hP 0 rfl rfl 7 (by decide) (hts _ kfl_X4_28) (fun _ h9 => h9) rfl dX4_divide_3 ?_
  refine lv_iconst (v := nI 1) hx hb dX4_divide_6 (by decide) ?_
  refine lv_isub hx hb dX4_divide_7 ?_
  refine lv_istore_n (lv' := [(3, .int (nI ks - nI 1)), (2, .int (nI 0)), (0, .ref g), (1, .int (nI b))]) hx hb dX4_divide_8 rfl hl (by decide) rfl (fun ls hl => ?_)
  refine dm_loop (nL := 5) (head := 9) (P := fun (x : Nat × Nat × (Nat → Int32)) => x.1 ≤ ks ∧ x.2.1 = hib 65536 kr ks x.1 % b ∧ hib 65536 x.2.2 ks x.1 = hib 65536 kr ks x.1 / b ∧ d16 x.2.2 ks ∧ ∀ j, j < x.1 → x.2.2 j = kr j) (w := fun x => [(g, .inr (4, [.int th, .int (nI kt), .ref gi, .int (nI kw), .ref go, .int (nI kz), .ref gn, .int (nI ks), .ref gr, .long kv])), (gr, .inl (cI, 4096, .inl x.2.2))]) (lv := fun x => [(3, .int (nI x.1 - nI 1)), (2, .int (nI x.2.1)), (0, .ref g), (1, .int (nI b))]) (μ := fun x => x.1) ?_ (ks, 0, kr) ⟨Nat.le_refl _, by show 0 = _ % _; rw [hib_n]; simp, by show hib _ kr ks ks = _; rw [hib_n]; simp, hd, fun _ _ => rfl⟩ hP hD hS hl
  rintro ⟨k, re, F⟩ H locs ls ⟨hk, hre, hq, hdF, hlo⟩ hP hD hS hl ih
  dsimp only at hk hre hq hdF hlo
  have hP : va_P D vwCl [(g, .inr (4, [.int th, .int (nI kt), .ref gi, .int (nI kw), .ref go, .int (nI kz), .ref gn, .int (nI ks), .ref gr, .long kv])), (gr, .inl (cI, 4096, .inl F))] H := hP
  have hD : va_D A [(g, .inr (4, [.int th, .int (nI kt), .ref gi, .int (nI kw), .ref go, .int (nI kz), .ref gn, .int (nI ks), .ref gr, .long kv])), (gr, .inl (cI, 4096, .inl F))] := hD
  have hl : lv_has ls 5 [(3, .int (nI k - nI 1)), (2, .int (nI re)), (0, .ref g), (1, .int (nI b))] := hl
  have hrl : re < b := by rw [hre]; exact Nat.mod_lt _ hb1
  rcases Nat.eq_zero_or_pos k with hk0 | hk0
  · rw [hk0] at hl hre hq
    rw [hib_0] at hre hq
    rw [hib_0] at hq
    refine lv_iload_n hx hb dX4_divide_9 rfl (lv_at hl 0 rfl) ?_
    refine lv_if_lt (tgt := 47) hx hb dX4_divide_10 (by decide) (fun hc => ?_) (fun hc => ?_)
    · refine dm_loop (nL := 5) (head := 47) (P := fun v => v ≤ ks ∧ dvb 65536 F v = dvb 65536 F ks) (w := fun v => [(g, .inr (4, [.int th, .int (nI kt), .ref gi, .int (nI kw), .ref go, .int (nI kz), .ref gn, .int (nI v), .ref gr, .long kv])), (gr, .inl (cI, 4096, .inl F))]) (lv := fun _ => [(2, .int (nI re)), (0, .ref g), (1, .int (nI b))]) (μ := fun v => v) ?_ ks ⟨Nat.le_refl _, rfl⟩ hP hD hS (lv_sub hl [1, 2, 3] rfl)
      clear ih
      rintro v H locs ls ⟨hv, he⟩ hP hD hS hl ih
      refine lv_aload_n hx hb dX4_divide_47 rfl (lv_at hl 1 rfl) ?_
      refine va_get (D := D) (ci := 4) (C := RX4) (T := TX4) (N := 10) (v := .int (nI v)) hx hb hts kin_X4_w hown hK hP 0 rfl rfl 7 (by decide) (hts _ kfl_X4_28) (fun _ h9 => h9) rfl dX4_divide_48 ?_
      refine dm_if_le (tgt := 81) hx hb (by omega) dX4_divide_51 (by decide) (fun hc2 => ?_) (fun hc2 => ?_)
      · refine lv_iload_n hx hb dX4_divide_81 rfl (lv_at hl 0 rfl) ?_
        exact dm_iret hC hK (F, v) ⟨by rw [hre], by show v ≤ ks; omega, fun j hj => hdF j (by have hj : j < v := hj; omega), by show dvb _ F (v) = _; rw [he, hq], by rw [hc2]; exact nrm_0 F⟩ hP hD hS dX4_divide_82
      · obtain ⟨k2, rfl⟩ : ∃ k2, v = k2 + 1 := ⟨v - 1, by omega⟩
        refine lv_aload_n hx hb dX4_divide_54 rfl (lv_at hl 1 rfl) ?_
        refine va_get (D := D) (ci := 4) (C := RX4) (T := TX4) (N := 10) (v := .ref gr) hx hb hts kin_X4_w hown hK hP 0 rfl rfl 8 (by decide) (hts _ kfl_X4_21) (fun _ h9 => h9) rfl dX4_divide_55 ?_
        refine lv_aload_n hx hb dX4_divide_58 rfl (lv_at hl 1 rfl) ?_
        refine va_get (D := D) (ci := 4) (C := RX4) (T := TX4) (N := 10) (v := .int (nI (k2 + 1))) hx hb hts kin_X4_w hown hK hP 0 rfl rfl 7 (by decide) (hts _ kfl_X4_28) (fun _ h9 => h9) rfl dX4_divide_59 ?_
        refine lv_iconst (v := nI 1) hx hb dX4_divide_62 (by decide) ?_
        refine lv_isub hx hb dX4_divide_63 ?_
        refine dm_ti (y := nI k2) (nI_pred k2) ?_
        refine dm_iald (j := k2) hx hb hK hP 1 1 rfl rfl (by omega) (by decide) dX4_divide_64 ?_
        refine lv_if_ne (tgt := 81) hx hb dX4_divide_65 (by decide) (fun hd2 => ?_) (fun hd2 => ?_)
        · refine lv_iload_n hx hb dX4_divide_81 rfl (lv_at hl 0 rfl) ?_
          exact dm_iret hC hK (F, k2 + 1) ⟨by rw [hre], by show k2 + 1 ≤ ks; omega, fun j hj => hdF j (by have hj : j < k2 + 1 := hj; omega), by show dvb _ F (k2 + 1) = _; rw [he, hq], fun j e0 => by rw [show j = k2 by omega]; exact hd2⟩ hP hD hS dX4_divide_82
        · refine lv_aload_n hx hb dX4_divide_68 rfl (lv_at hl 1 rfl) ?_
          refine lv_dup hx hb dX4_divide_69 rfl ?_
          refine va_get (D := D) (ci := 4) (C := RX4) (T := TX4) (N := 10) (v := .int (nI (k2 + 1))) hx hb hts kin_X4_w hown hK hP 0 rfl rfl 7 (by decide) (hts _ kfl_X4_28) (fun _ h9 => h9) rfl dX4_divide_70 ?_
          refine lv_iconst (v := nI 1) hx hb dX4_divide_73 (by decide) ?_
          refine lv_isub hx hb dX4_divide_74 ?_
          refine dm_ti (y := nI k2) (nI_pred k2) ?_
          refine va_put (D := D) (ci := 4) (v := .int (nI k2)) (ty := .int) (C := RX4) (T := TX4) (N := 10) hx hb hts kin_X4_w tyX4 tyX4_ok nmX4 hown hK hP hD hS 0 rfl rfl 7 (by decide) (hts _ kfl_X4_28) (fun _ h9 => h9) rfl (by decide +kernel) rfl rfl (Nat.le_of_ble_eq_true rfl) dX4_divide_75 (fun H locs hP hD hS => ?_)
          have hP : va_P D vwCl [(g, .inr (4, [.int th, .int (nI kt), .ref gi, .int (nI kw), .ref go, .int (nI kz), .ref gn, .int (nI k2), .ref gr, .long kv])), (gr, .inl (cI, 4096, .inl F))] H := hP
          have hD : va_D A [(g, .inr (4, [.int th, .int (nI kt), .ref gi, .int (nI kw), .ref go, .int (nI kz), .ref gn, .int (nI k2), .ref gr, .long kv])), (gr, .inl (cI, 4096, .inl F))] := hD
          refine lv_goto (tgt := 47) hx hb dX4_divide_78 (by decide) ?_
          refine ih k2 H locs ls (Nat.lt_succ_self k2) ⟨by omega, ?_⟩ hP hD hS hl
          rw [← he]
          show dvb 65536 F k2 = dvb 65536 F k2 + un (F k2) * 65536 ^ k2
          rw [hd2, un_0]; omega
    · exact absurd (by decide) hc
  · obtain ⟨j, rfl⟩ : ∃ j, k = j + 1 := ⟨k - 1, by omega⟩
    have hl : lv_has ls 5 [(3, .int (nI j)), (2, .int (nI re)), (0, .ref g), (1, .int (nI b))] := by rw [show nI j = nI (j + 1) - nI 1 from (nI_pred j).symm]; exact hl
    have hw := hd j (by omega)
    obtain ⟨P1, hP1⟩ : ∃ P, P = re * 65536 + un (kr j) := ⟨_, rfl⟩
    have hp1 : P1 < b * 65536 := by
      have h8 : (re + 1) * 65536 ≤ b * 65536 := Nat.mul_le_mul_right _ hrl
      omega
    have hq1 : P1 / b < 65536 := Nat.div_lt_of_lt_mul hp1
    have hds : hib 65536 kr ks j / b = hib 65536 kr ks (j + 1) / b * 65536 + P1 / b ∧ hib 65536 kr ks j % b = P1 % b := by rw [hib_step (show j < ks by omega), hP1, hre]; exact div_step _ _ _ _ hb1
    refine lv_iload_n hx hb dX4_divide_9 rfl (lv_at hl 0 rfl) ?_
    refine dm_if_lt (tgt := 47) hx hb (by omega) dX4_divide_10 (by decide) (fun hc => ?_) (fun hc => ?_)
    · exact hc.elim
    · refine lv_iload_n hx hb dX4_divide_13 rfl (lv_at hl 1 rfl) ?_
      refine lv_bipush (v := nI 16) hx hb dX4_divide_14 (by decide) ?_
      refine lv_ishl hx hb dX4_divide_16 ?_
      refine dm_ti (y := nI (re * 65536)) (pk_shlN (n := re) (nI 16 &&& 31) 16 (by decide) (by omega)) ?_
      refine lv_aload_n hx hb dX4_divide_17 rfl (lv_at hl 2 rfl) ?_
      refine va_get (D := D) (ci := 4) (C := RX4) (T := TX4) (N := 10) (v := .ref gr) hx hb hts kin_X4_w hown hK hP 0 rfl rfl 8 (by decide) (hts _ kfl_X4_21) (fun _ h9 => h9) rfl dX4_divide_18 ?_
      refine lv_iload_n hx hb dX4_divide_21 rfl (lv_at hl 0 rfl) ?_
      refine dm_iald (j := j) hx hb hK hP 1 1 rfl rfl (by omega) (by decide) dX4_divide_22 ?_
      refine dm_ti (y := nI (un (kr j))) (by show F j = _; rw [hlo j (Nat.lt_succ_self j), nI_un]) ?_
      refine lv_ior hx hb dX4_divide_23 ?_
      refine dm_ti (y := nI P1) (by rw [hP1]; exact nI_or16 (by omega) hw) ?_
      refine lv_istore (lv' := [(4, .int (nI P1)), (3, .int (nI j)), (2, .int (nI re)), (0, .ref g), (1, .int (nI b))]) hx hb dX4_divide_24 hl (by decide) rfl (fun ls hl => ?_)
      refine lv_aload_n hx hb dX4_divide_26 rfl (lv_at hl 3 rfl) ?_
      refine va_get (D := D) (ci := 4) (C := RX4) (T := TX4) (N := 10) (v := .ref gr) hx hb hts kin_X4_w hown hK hP 0 rfl rfl 8 (by decide) (hts _ kfl_X4_21) (fun _ h9 => h9) rfl dX4_divide_27 ?_
      refine lv_iload_n hx hb dX4_divide_30 rfl (lv_at hl 1 rfl) ?_
      refine lv_iload hx hb dX4_divide_31 (lv_at hl 0 rfl) ?_
      refine lv_iload_n hx hb dX4_divide_33 rfl (lv_at hl 4 rfl) ?_
      refine lv_idiv hx hb dX4_divide_34 (nI_ne0 hb1 (by omega)) ?_
      refine dm_ti (y := nI (P1 / b)) (pk_div (by omega) hb1 (by omega)) ?_
      refine dm_iast (j := j) (f' := upd F j (nI (P1 / b))) hx hb hK hP hD hS 1 1 rfl rfl (by omega) (by decide) (rfl) dX4_divide_35 (fun H locs hP hD hS => ?_)
      have hP : va_P D vwCl [(g, .inr (4, [.int th, .int (nI kt), .ref gi, .int (nI kw), .ref go, .int (nI kz), .ref gn, .int (nI ks), .ref gr, .long kv])), (gr, .inl (cI, 4096, .inl (upd F j (nI (P1 / b)))))] H := hP
      have hD : va_D A [(g, .inr (4, [.int th, .int (nI kt), .ref gi, .int (nI kw), .ref go, .int (nI kz), .ref gn, .int (nI ks), .ref gr, .long kv])), (gr, .inl (cI, 4096, .inl (upd F j (nI (P1 / b)))))] := hD
      refine lv_iload hx hb dX4_divide_36 (lv_at hl 0 rfl) ?_
      refine lv_iload_n hx hb dX4_divide_38 rfl (lv_at hl 4 rfl) ?_
      refine lv_irem hx hb dX4_divide_39 (nI_ne0 hb1 (by omega)) ?_
      refine dm_ti (y := nI (P1 % b)) (pk_rem (by omega) hb1 (by omega)) ?_
      refine lv_istore_n (lv' := [(2, .int (nI (P1 % b))), (4, .int (nI P1)), (3, .int (nI j)), (0, .ref g), (1, .int (nI b))]) hx hb dX4_divide_40 rfl hl (by decide) rfl (fun ls hl => ?_)
      refine lv_iinc (v := (nI j - nI 1)) (lv' := [(3, .int (nI j - nI 1)), (2, .int (nI (P1 % b))), (4, .int (nI P1)), (0, .ref g), (1, .int (nI b))]) hx hb dX4_divide_41 hl (k := 2) rfl (i_dec _) (by decide) rfl (fun ls hl => ?_)
      refine lv_goto (tgt := 9) hx hb dX4_divide_44 (by decide) ?_
      refine ih (j, P1 % b, upd F j (nI (P1 / b))) H locs ls (Nat.lt_succ_self j) ⟨by show j ≤ ks; omega, hds.2.symm, ?_, fun i hi => ?_, fun i hi => ?_⟩ hP hD hS (lv_sub hl [0, 1, 3, 4] rfl)
      · show hib _ (upd F j _) ks j = _
        rw [hib_step (show j < ks by omega), pk_us, un_nI (by omega), hib_congr (g := F) (fun i h1 h2 => pk_un (by omega)), hq, hds.1]
      · show un (upd F j _ i) < 65536
        by_cases h6 : i = j
        · rw [h6, pk_us, un_nI (by omega)]; exact hq1
        · rw [pk_un h6]; exact hdF i hi
      · show upd F j _ i = kr i
        have hi : i < j := hi
        rw [pk_un (by omega)]
        exact hlo i (by omega)

set_option maxRecDepth 100000 in
set_option maxHeartbeats 4000000 in
theorem c_X4_take (l : Launch) (D : va_G) (cB cI cC : ClassId) (g gi go gn gr kt kw kz ks : Nat) (th : Int32) (kv : Int64) (kn kr : Nat → Int32) (hkz : kz ≤ 4096) : MV l yX4_take (Cond.code yX4_take cX4_take 2 none) 0 D (TY cB cI cC) [.ref g] [(g, .inr (4, [.int th, .int (nI kt), .ref gi, .int (nI kw), .ref go, .int (nI kz), .ref gn, .int (nI ks), .ref gr, .long kv])), (gn, .inl (cI, 4096, .inl kn)), (gr, .inl (cI, 4096, .inl kr))] (S := Nat → Int32) (fun q => ∀ j, j < kz → q j = kn j) (fun q => [(g, .inr (4, [.int th, .int (nI kt), .ref gi, .int (nI kw), .ref go, .int (nI kz), .ref gn, .int (nI kz), .ref gr, .long kv])), (gn, .inl (cI, 4096, .inl kn)), (gr, .inl (cI, 4096, .inl q))]) := by
  refine MV.of (by decide) (Nat.le_of_ble_eq_true rfl) ?_
  intro p e s m below meth c ls A hC hA hP hK hD hS hl
  obtain ⟨hx, hb, hr, hml, hown, hts, hlocks, hN⟩ := id hC
  have hown : s.vm.findClass RX4 = some m.cls := hown
  have hl : lv_has ls 2 [(0, .ref g)] := hl
  refine lv_aload_n hx hb dX4_take_0 rfl (lv_at hl 0 rfl) ?_
  refine lv_aload_n hx hb dX4_take_1 rfl (lv_at hl 0 rfl) ?_
  refine va_get (D := D) (ci := 4) (C := RX4) (T := TX4) (N := 10) (v := .int (nI kz)) hx hb hts kin_X4_w hown hK hP 0 rfl rfl 5 (by decide) (hts _ kfl_X4_33) (fun _ h9 => h9) rfl dX4_take_2 ?_
  refine va_put (D := D) (ci := 4) (v := .int (nI kz)) (ty := .int) (C := RX4) (T := TX4) (N := 10) hx hb hts kin_X4_w tyX4 tyX4_ok nmX4 hown hK hP hD hS 0 rfl rfl 7 (by decide) (hts _ kfl_X4_28) (fun _ h9 => h9) rfl (by decide +kernel) rfl rfl (Nat.le_of_ble_eq_true rfl) dX4_take_5 (fun H locs hP hD hS => ?_)
  have hP : va_P D vwCl [(g, .inr (4, [.int th, .int (nI kt), .ref gi, .int (nI kw), .ref go, .int (nI kz), .ref gn, .int (nI kz), .ref gr, .long kv])), (gn, .inl (cI, 4096, .inl kn)), (gr, .inl (cI, 4096, .inl kr))] H := hP
  have hD : va_D A [(g, .inr (4, [.int th, .int (nI kt), .ref gi, .int (nI kw), .ref go, .int (nI kz), .ref gn, .int (nI kz), .ref gr, .long kv])), (gn, .inl (cI, 4096, .inl kn)), (gr, .inl (cI, 4096, .inl kr))] := hD
  refine lv_iconst (v := nI 0) hx hb dX4_take_8 (by decide) ?_
  refine lv_istore_n (lv' := [(1, .int (nI 0)), (0, .ref g)]) hx hb dX4_take_9 rfl hl (by decide) rfl (fun ls hl => ?_)
  refine dm_loop (nL := 2) (head := 10) (P := fun (x : Nat × (Nat → Int32)) => x.1 ≤ kz ∧ ∀ j, j < x.1 → x.2 j = kn j) (w := fun x => [(g, .inr (4, [.int th, .int (nI kt), .ref gi, .int (nI kw), .ref go, .int (nI kz), .ref gn, .int (nI kz), .ref gr, .long kv])), (gn, .inl (cI, 4096, .inl kn)), (gr, .inl (cI, 4096, .inl x.2))]) (lv := fun x => [(1, .int (nI x.1)), (0, .ref g)]) (μ := fun x => kz - x.1) ?_ (0, kr) ⟨Nat.zero_le _, fun j hj => absurd hj (Nat.not_lt_zero _)⟩ hP hD hS hl
  rintro ⟨i, F⟩ H locs ls ⟨hi, hF⟩ hP hD hS hl ih
  dsimp only at hi hF
  have hP : va_P D vwCl [(g, .inr (4, [.int th, .int (nI kt), .ref gi, .int (nI kw), .ref go, .int (nI kz), .ref gn, .int (nI kz), .ref gr, .long kv])), (gn, .inl (cI, 4096, .inl kn)), (gr, .inl (cI, 4096, .inl F))] H := hP
  have hD : va_D A [(g, .inr (4, [.int th, .int (nI kt), .ref gi, .int (nI kw), .ref go, .int (nI kz), .ref gn, .int (nI kz), .ref gr, .long kv])), (gn, .inl (cI, 4096, .inl kn)), (gr, .inl (cI, 4096, .inl F))] := hD
  have hl : lv_has ls 2 [(1, .int (nI i)), (0, .ref g)] := hl
  refine lv_iload_n hx hb dX4_take_10 rfl (lv_at hl 0 rfl) ?_
  refine lv_aload_n hx hb dX4_take_11 rfl (lv_at hl 1 rfl) ?_
  refine va_get (D := D) (ci := 4) (C := RX4) (T := TX4) (N := 10) (v := .int (nI kz)) hx hb hts kin_X4_w hown hK hP 0 rfl rfl 5 (by decide) (hts _ kfl_X4_33) (fun _ h9 => h9) rfl dX4_take_12 ?_
  refine dm_icmp_ge (tgt := 36) hx hb (by omega) (by omega) dX4_take_15 (by decide) (fun hc => ?_) (fun hc => ?_)
  · exact dm_vret hC hK F (fun j hj => hF j (by omega)) hP hD hS dX4_take_36
  · refine lv_aload_n hx hb dX4_take_18 rfl (lv_at hl 1 rfl) ?_
    refine va_get (D := D) (ci := 4) (C := RX4) (T := TX4) (N := 10) (v := .ref gr) hx hb hts kin_X4_w hown hK hP 0 rfl rfl 8 (by decide) (hts _ kfl_X4_21) (fun _ h9 => h9) rfl dX4_take_19 ?_
    refine lv_iload_n hx hb dX4_take_22 rfl (lv_at hl 0 rfl) ?_
    refine lv_aload_n hx hb dX4_take_23 rfl (lv_at hl 1 rfl) ?_
    refine va_get (D := D) (ci := 4) (C := RX4) (T := TX4) (N := 10) (v := .ref gn) hx hb hts kin_X4_w hown hK hP 0 rfl rfl 6 (by decide) (hts _ kfl_X4_17) (fun _ h9 => h9) rfl dX4_take_24 ?_
    refine lv_iload_n hx hb dX4_take_27 rfl (lv_at hl 0 rfl) ?_
    refine dm_iald (j := i) hx hb hK hP 1 1 rfl rfl (by omega) (by decide) dX4_take_28 ?_
    refine dm_iast (j := i) (f' := upd F i (kn i)) hx hb hK hP hD hS 2 1 rfl rfl (by omega) (by decide) (rfl) dX4_take_29 (fun H locs hP hD hS => ?_)
    have hP : va_P D vwCl [(g, .inr (4, [.int th, .int (nI kt), .ref gi, .int (nI kw), .ref go, .int (nI kz), .ref gn, .int (nI kz), .ref gr, .long kv])), (gn, .inl (cI, 4096, .inl kn)), (gr, .inl (cI, 4096, .inl (upd F i (kn i))))] H := hP
    have hD : va_D A [(g, .inr (4, [.int th, .int (nI kt), .ref gi, .int (nI kw), .ref go, .int (nI kz), .ref gn, .int (nI kz), .ref gr, .long kv])), (gn, .inl (cI, 4096, .inl kn)), (gr, .inl (cI, 4096, .inl (upd F i (kn i))))] := hD
    refine lv_iinc (v := nI (i + 1)) (lv' := [(1, .int (nI (i + 1))), (0, .ref g)]) hx hb dX4_take_30 hl (k := 0) rfl ((nI_succ i).symm) (by decide) rfl (fun ls hl => ?_)
    refine lv_goto (tgt := 10) hx hb dX4_take_33 (by decide) ?_
    exact ih (i + 1, upd F i (kn i)) H locs ls (by show kz - (i + 1) < kz - i; omega) ⟨by show i + 1 ≤ kz; omega, fun j hj => (Nat.lt_or_eq_of_le (Nat.le_of_lt_succ hj)).elim (fun h6 => by show upd F i _ j = _; rw [pk_un (by omega)]; exact hF j h6) (fun h6 => by show upd F i _ j = _; rw [h6, pk_us])⟩ hP hD hS (lv_sub hl [0, 1] rfl)

set_option maxRecDepth 100000 in
set_option maxHeartbeats 4000000 in
theorem c_X4_give (l : Launch) (D : va_G) (cB cI cC : ClassId) (g gi go gn gr kt kw kz ks : Nat) (th : Int32) (kv : Int64) (kn kr : Nat → Int32) (hks : ks ≤ 4096) : MV l yX4_give (Cond.code yX4_give cX4_give 2 none) 0 D (TY cB cI cC) [.ref g] [(g, .inr (4, [.int th, .int (nI kt), .ref gi, .int (nI kw), .ref go, .int (nI kz), .ref gn, .int (nI ks), .ref gr, .long kv])), (gn, .inl (cI, 4096, .inl kn)), (gr, .inl (cI, 4096, .inl kr))] (S := (Nat → Int32) × Nat) (fun q => q.2 ≤ ks ∧ dvb 65536 q.1 q.2 = dvb 65536 kr ks ∧ nrm q.1 q.2 ∧ ∀ j, j < q.2 → q.1 j = kr j) (fun q => [(g, .inr (4, [.int th, .int (nI kt), .ref gi, .int (nI kw), .ref go, .int (nI q.2), .ref gn, .int (nI q.2), .ref gr, .long kv])), (gn, .inl (cI, 4096, .inl q.1)), (gr, .inl (cI, 4096, .inl kr))]) := by
  refine MV.of (by decide) (Nat.le_of_ble_eq_true rfl) ?_
  intro p e s m below meth c ls A hC hA hP hK hD hS hl
  obtain ⟨hx, hb, hr, hml, hown, hts, hlocks, hN⟩ := id hC
  have hown : s.vm.findClass RX4 = some m.cls := hown
  have hl : lv_has ls 2 [(0, .ref g)] := hl
  refine dm_loop (nL := 2) (head := 0) (P := fun v => v ≤ ks ∧ dvb 65536 kr v = dvb 65536 kr ks) (w := fun v => [(g, .inr (4, [.int th, .int (nI kt), .ref gi, .int (nI kw), .ref go, .int (nI kz), .ref gn, .int (nI v), .ref gr, .long kv])), (gn, .inl (cI, 4096, .inl kn)), (gr, .inl (cI, 4096, .inl kr))]) (lv := fun _ => [(0, .ref g)]) (μ := fun v => v) ?_ ks ⟨Nat.le_refl _, rfl⟩ hP hD hS hl
  rintro v H locs ls ⟨hv, he⟩ hP hD hS hl ih
  refine dm_cutR (nL := 2) (σ := Unit) 34 (fun _ => nrm kr v) (fun _ => [(0, .ref g)]) (fun hJ => ?_) ?_
  · refine lv_aload_n hx hb dX4_give_0 rfl (lv_at hl 0 rfl) ?_
    refine va_get (D := D) (ci := 4) (C := RX4) (T := TX4) (N := 10) (v := .int (nI v)) hx hb hts kin_X4_w hown hK hP 0 rfl rfl 7 (by decide) (hts _ kfl_X4_28) (fun _ h9 => h9) rfl dX4_give_1 ?_
    refine dm_if_le (tgt := 34) hx hb (by omega) dX4_give_4 (by decide) (fun hc => ?_) (fun hc => ?_)
    · exact hJ () ls (by rw [hc]; exact nrm_0 kr) hl
    · obtain ⟨k, rfl⟩ : ∃ k, v = k + 1 := ⟨v - 1, by omega⟩
      refine lv_aload_n hx hb dX4_give_7 rfl (lv_at hl 0 rfl) ?_
      refine va_get (D := D) (ci := 4) (C := RX4) (T := TX4) (N := 10) (v := .ref gr) hx hb hts kin_X4_w hown hK hP 0 rfl rfl 8 (by decide) (hts _ kfl_X4_21) (fun _ h9 => h9) rfl dX4_give_8 ?_
      refine lv_aload_n hx hb dX4_give_11 rfl (lv_at hl 0 rfl) ?_
      refine va_get (D := D) (ci := 4) (C := RX4) (T := TX4) (N := 10) (v := .int (nI (k + 1))) hx hb hts kin_X4_w hown hK hP 0 rfl rfl 7 (by decide) (hts _ kfl_X4_28) (fun _ h9 => h9) rfl dX4_give_12 ?_
      refine lv_iconst (v := nI 1) hx hb dX4_give_15 (by decide) ?_
      refine lv_isub hx hb dX4_give_16 ?_
      refine dm_ti (y := nI k) (nI_pred k) ?_
      refine dm_iald (j := k) hx hb hK hP 2 1 rfl rfl (by omega) (by decide) dX4_give_17 ?_
      refine lv_if_ne (tgt := 34) hx hb dX4_give_18 (by decide) (fun hd => ?_) (fun hd => ?_)
      · exact hJ () ls (fun j e0 => by rw [show j = k by omega]; exact hd) hl
      · refine lv_aload_n hx hb dX4_give_21 rfl (lv_at hl 0 rfl) ?_
        refine lv_dup hx hb dX4_give_22 rfl ?_
        refine va_get (D := D) (ci := 4) (C := RX4) (T := TX4) (N := 10) (v := .int (nI (k + 1))) hx hb hts kin_X4_w hown hK hP 0 rfl rfl 7 (by decide) (hts _ kfl_X4_28) (fun _ h9 => h9) rfl dX4_give_23 ?_
        refine lv_iconst (v := nI 1) hx hb dX4_give_26 (by decide) ?_
        refine lv_isub hx hb dX4_give_27 ?_
        refine dm_ti (y := nI k) (nI_pred k) ?_
        refine va_put (D := D) (ci := 4) (v := .int (nI k)) (ty := .int) (C := RX4) (T := TX4) (N := 10) hx hb hts kin_X4_w tyX4 tyX4_ok nmX4 hown hK hP hD hS 0 rfl rfl 7 (by decide) (hts _ kfl_X4_28) (fun _ h9 => h9) rfl (by decide +kernel) rfl rfl (Nat.le_of_ble_eq_true rfl) dX4_give_28 (fun H locs hP hD hS => ?_)
        have hP : va_P D vwCl [(g, .inr (4, [.int th, .int (nI kt), .ref gi, .int (nI kw), .ref go, .int (nI kz), .ref gn, .int (nI k), .ref gr, .long kv])), (gn, .inl (cI, 4096, .inl kn)), (gr, .inl (cI, 4096, .inl kr))] H := hP
        have hD : va_D A [(g, .inr (4, [.int th, .int (nI kt), .ref gi, .int (nI kw), .ref go, .int (nI kz), .ref gn, .int (nI k), .ref gr, .long kv])), (gn, .inl (cI, 4096, .inl kn)), (gr, .inl (cI, 4096, .inl kr))] := hD
        refine lv_goto (tgt := 0) hx hb dX4_give_31 (by decide) ?_
        refine ih k H locs ls (Nat.lt_succ_self k) ⟨by omega, ?_⟩ hP hD hS hl
        rw [← he]
        show dvb 65536 kr k = dvb 65536 kr k + un (kr k) * 65536 ^ k
        rw [hd, un_0]; omega
  · rintro - ls hn hl
    have hn : nrm kr v := hn
    refine lv_aload_n hx hb dX4_give_34 rfl (lv_at hl 0 rfl) ?_
    refine lv_aload_n hx hb dX4_give_35 rfl (lv_at hl 0 rfl) ?_
    refine va_get (D := D) (ci := 4) (C := RX4) (T := TX4) (N := 10) (v := .int (nI v)) hx hb hts kin_X4_w hown hK hP 0 rfl rfl 7 (by decide) (hts _ kfl_X4_28) (fun _ h9 => h9) rfl dX4_give_36 ?_
    refine va_put (D := D) (ci := 4) (v := .int (nI v)) (ty := .int) (C := RX4) (T := TX4) (N := 10) hx hb hts kin_X4_w tyX4 tyX4_ok nmX4 hown hK hP hD hS 0 rfl rfl 5 (by decide) (hts _ kfl_X4_33) (fun _ h9 => h9) rfl (by decide +kernel) rfl rfl (Nat.le_of_ble_eq_true rfl) dX4_give_39 (fun H locs hP hD hS => ?_)
    have hP : va_P D vwCl [(g, .inr (4, [.int th, .int (nI kt), .ref gi, .int (nI kw), .ref go, .int (nI v), .ref gn, .int (nI v), .ref gr, .long kv])), (gn, .inl (cI, 4096, .inl kn)), (gr, .inl (cI, 4096, .inl kr))] H := hP
    have hD : va_D A [(g, .inr (4, [.int th, .int (nI kt), .ref gi, .int (nI kw), .ref go, .int (nI v), .ref gn, .int (nI v), .ref gr, .long kv])), (gn, .inl (cI, 4096, .inl kn)), (gr, .inl (cI, 4096, .inl kr))] := hD
    refine lv_iconst (v := nI 0) hx hb dX4_give_42 (by decide) ?_
    refine lv_istore_n (lv' := [(1, .int (nI 0)), (0, .ref g)]) hx hb dX4_give_43 rfl hl (by decide) rfl (fun ls hl => ?_)
    clear ih
    refine dm_loop (nL := 2) (head := 44) (P := fun (x : Nat × (Nat → Int32)) => x.1 ≤ v ∧ ∀ j, j < x.1 → x.2 j = kr j) (w := fun x => [(g, .inr (4, [.int th, .int (nI kt), .ref gi, .int (nI kw), .ref go, .int (nI v), .ref gn, .int (nI v), .ref gr, .long kv])), (gn, .inl (cI, 4096, .inl x.2)), (gr, .inl (cI, 4096, .inl kr))]) (lv := fun x => [(1, .int (nI x.1)), (0, .ref g)]) (μ := fun x => v - x.1) ?_ (0, kn) ⟨Nat.zero_le _, fun j hj => absurd hj (Nat.not_lt_zero _)⟩ hP hD hS hl
    rintro ⟨i, F⟩ H locs ls ⟨hi, hF⟩ hP hD hS hl ih
    dsimp only at hi hF
    have hP : va_P D vwCl [(g, .inr (4, [.int th, .int (nI kt), .ref gi, .int (nI kw), .ref go, .int (nI v), .ref gn, .int (nI v), .ref gr, .long kv])), (gn, .inl (cI, 4096, .inl F)), (gr, .inl (cI, 4096, .inl kr))] H := hP
    have hD : va_D A [(g, .inr (4, [.int th, .int (nI kt), .ref gi, .int (nI kw), .ref go, .int (nI v), .ref gn, .int (nI v), .ref gr, .long kv])), (gn, .inl (cI, 4096, .inl F)), (gr, .inl (cI, 4096, .inl kr))] := hD
    have hl : lv_has ls 2 [(1, .int (nI i)), (0, .ref g)] := hl
    refine lv_iload_n hx hb dX4_give_44 rfl (lv_at hl 0 rfl) ?_
    refine lv_aload_n hx hb dX4_give_45 rfl (lv_at hl 1 rfl) ?_
    refine va_get (D := D) (ci := 4) (C := RX4) (T := TX4) (N := 10) (v := .int (nI v)) hx hb hts kin_X4_w hown hK hP 0 rfl rfl 5 (by decide) (hts _ kfl_X4_33) (fun _ h9 => h9) rfl dX4_give_46 ?_
    refine dm_icmp_ge (tgt := 70) hx hb (by omega) (by omega) dX4_give_49 (by decide) (fun hc => ?_) (fun hc => ?_)
    · have hiv : i = v := by omega
      rw [hiv] at hF
      exact dm_vret hC hK (F, v) ⟨hv, by show dvb _ F v = _; rw [dvb_congr hF, he], nrm_congr hF hn, hF⟩ hP hD hS dX4_give_70
    · refine lv_aload_n hx hb dX4_give_52 rfl (lv_at hl 1 rfl) ?_
      refine va_get (D := D) (ci := 4) (C := RX4) (T := TX4) (N := 10) (v := .ref gn) hx hb hts kin_X4_w hown hK hP 0 rfl rfl 6 (by decide) (hts _ kfl_X4_17) (fun _ h9 => h9) rfl dX4_give_53 ?_
      refine lv_iload_n hx hb dX4_give_56 rfl (lv_at hl 0 rfl) ?_
      refine lv_aload_n hx hb dX4_give_57 rfl (lv_at hl 1 rfl) ?_
      refine va_get (D := D) (ci := 4) (C := RX4) (T := TX4) (N := 10) (v := .ref gr) hx hb hts kin_X4_w hown hK hP 0 rfl rfl 8 (by decide) (hts _ kfl_X4_21) (fun _ h9 => h9) rfl dX4_give_58 ?_
      refine lv_iload_n hx hb dX4_give_61 rfl (lv_at hl 0 rfl) ?_
      refine dm_iald (j := i) hx hb hK hP 2 1 rfl rfl (by omega) (by decide) dX4_give_62 ?_
      refine dm_iast (j := i) (f' := upd F i (kr i)) hx hb hK hP hD hS 1 1 rfl rfl (by omega) (by decide) (rfl) dX4_give_63 (fun H locs hP hD hS => ?_)
      have hP : va_P D vwCl [(g, .inr (4, [.int th, .int (nI kt), .ref gi, .int (nI kw), .ref go, .int (nI v), .ref gn, .int (nI v), .ref gr, .long kv])), (gn, .inl (cI, 4096, .inl (upd F i (kr i)))), (gr, .inl (cI, 4096, .inl kr))] H := hP
      have hD : va_D A [(g, .inr (4, [.int th, .int (nI kt), .ref gi, .int (nI kw), .ref go, .int (nI v), .ref gn, .int (nI v), .ref gr, .long kv])), (gn, .inl (cI, 4096, .inl (upd F i (kr i)))), (gr, .inl (cI, 4096, .inl kr))] := hD
      refine lv_iinc (v := nI (i + 1)) (lv' := [(1, .int (nI (i + 1))), (0, .ref g)]) hx hb dX4_give_64 hl (k := 0) rfl ((nI_succ i).symm) (by decide) rfl (fun ls hl => ?_)
      refine lv_goto (tgt := 44) hx hb dX4_give_67 (by decide) ?_
      exact ih (i + 1, upd F i (kr i)) H locs ls (by show v - (i + 1) < v - i; omega) ⟨by show i + 1 ≤ v; omega, fun j hj => (Nat.lt_or_eq_of_le (Nat.le_of_lt_succ hj)).elim (fun h6 => by show upd F i _ j = _; rw [pk_un (by omega)]; exact hF j h6) (fun h6 => by show upd F i _ j = _; rw [h6, pk_us])⟩ hP hD hS (lv_sub hl [0, 1] rfl)

set_option maxRecDepth 100000 in
set_option maxHeartbeats 4000000 in
theorem c_X4_typed (l : Launch) (D : va_G) (cB cI cC : ClassId) (g gi go gn gr kt kw kz ks : Nat) (th : Int32) (kv : Int64) (ki ko kn kr : Nat → Int32) : MI l yX4_typed (Cond.code yX4_typed cX4_typed 1 (some .int)) 0 D (TY cB cI cC) [.ref g] [(g, .inr (4, [.int th, .int (nI kt), .ref gi, .int (nI kw), .ref go, .int (nI kz), .ref gn, .int (nI ks), .ref gr, .long kv])), (gi, .inl (cC, 65536, .inl ki)), (go, .inl (cC, 65536, .inl ko)), (gn, .inl (cI, 4096, .inl kn)), (gr, .inl (cI, 4096, .inl kr))] (S := Unit) (fun r _ => r = nI kt) (fun _ => [(g, .inr (4, [.int (nI 0), .int (nI kt), .ref gi, .int (nI kw), .ref go, .int (nI kz), .ref gn, .int (nI ks), .ref gr, .long kv])), (gi, .inl (cC, 65536, .inl ki)), (go, .inl (cC, 65536, .inl ko)), (gn, .inl (cI, 4096, .inl kn)), (gr, .inl (cI, 4096, .inl kr))]) := by
  refine MI.of (by decide) (Nat.le_of_ble_eq_true rfl) ?_
  intro p e s m below meth c ls A hC hA hP hK hD hS hl
  obtain ⟨hx, hb, hr, hml, hown, hts, hlocks, hN⟩ := id hC
  have hown : s.vm.findClass RX4 = some m.cls := hown
  have hl : lv_has ls 1 [(0, .ref g)] := hl
  refine lv_aload_n hx hb dX4_typed_0 rfl (lv_at hl 0 rfl) ?_
  refine lv_iconst (v := nI 0) hx hb dX4_typed_1 (by decide) ?_
  refine va_put (D := D) (ci := 4) (v := .int (nI 0)) (ty := .int) (C := RX4) (T := TX4) (N := 10) hx hb hts kin_X4_w tyX4 tyX4_ok nmX4 hown hK hP hD hS 0 rfl rfl 0 (by decide) (hts _ kfl_X4_24) (fun _ h9 => h9) rfl (by decide +kernel) rfl rfl (Nat.le_of_ble_eq_true rfl) dX4_typed_2 (fun H locs hP hD hS => ?_)
  have hP : va_P D vwCl [(g, .inr (4, [.int (nI 0), .int (nI kt), .ref gi, .int (nI kw), .ref go, .int (nI kz), .ref gn, .int (nI ks), .ref gr, .long kv])), (gi, .inl (cC, 65536, .inl ki)), (go, .inl (cC, 65536, .inl ko)), (gn, .inl (cI, 4096, .inl kn)), (gr, .inl (cI, 4096, .inl kr))] H := hP
  have hD : va_D A [(g, .inr (4, [.int (nI 0), .int (nI kt), .ref gi, .int (nI kw), .ref go, .int (nI kz), .ref gn, .int (nI ks), .ref gr, .long kv])), (gi, .inl (cC, 65536, .inl ki)), (go, .inl (cC, 65536, .inl ko)), (gn, .inl (cI, 4096, .inl kn)), (gr, .inl (cI, 4096, .inl kr))] := hD
  refine lv_aload_n hx hb dX4_typed_5 rfl (lv_at hl 0 rfl) ?_
  refine va_get (D := D) (ci := 4) (C := RX4) (T := TX4) (N := 10) (v := .int (nI kt)) hx hb hts kin_X4_w hown hK hP 0 rfl rfl 1 (by decide) (hts _ kfl_X4_38) (fun _ h9 => h9) rfl dX4_typed_6 ?_
  exact dm_iret hC hK () rfl hP hD hS dX4_typed_9

set_option maxRecDepth 100000 in
set_option maxHeartbeats 4000000 in
theorem c_X4_value (l : Launch) (D : va_G) (cB cI cC : ClassId) (g gi go gn gr kt kw kz ks : Nat) (th : Int32) (kv : Int64) (ki ko kn kr : Nat → Int32) : ML l yX4_value (Cond.code yX4_value cX4_value 1 (some .long)) 0 D (TY cB cI cC) [.ref g] [(g, .inr (4, [.int th, .int (nI kt), .ref gi, .int (nI kw), .ref go, .int (nI kz), .ref gn, .int (nI ks), .ref gr, .long kv])), (gi, .inl (cC, 65536, .inl ki)), (go, .inl (cC, 65536, .inl ko)), (gn, .inl (cI, 4096, .inl kn)), (gr, .inl (cI, 4096, .inl kr))] (S := Unit) (fun r _ => r = kv) (fun _ => [(g, .inr (4, [.int (nI 0), .int (nI kt), .ref gi, .int (nI kw), .ref go, .int (nI kz), .ref gn, .int (nI ks), .ref gr, .long kv])), (gi, .inl (cC, 65536, .inl ki)), (go, .inl (cC, 65536, .inl ko)), (gn, .inl (cI, 4096, .inl kn)), (gr, .inl (cI, 4096, .inl kr))]) := by
  refine ML.of (by decide) (Nat.le_of_ble_eq_true rfl) ?_
  intro p e s m below meth c ls A hC hA hP hK hD hS hl
  obtain ⟨hx, hb, hr, hml, hown, hts, hlocks, hN⟩ := id hC
  have hown : s.vm.findClass RX4 = some m.cls := hown
  have hl : lv_has ls 1 [(0, .ref g)] := hl
  refine lv_aload_n hx hb dX4_value_0 rfl (lv_at hl 0 rfl) ?_
  refine lv_iconst (v := nI 0) hx hb dX4_value_1 (by decide) ?_
  refine va_put (D := D) (ci := 4) (v := .int (nI 0)) (ty := .int) (C := RX4) (T := TX4) (N := 10) hx hb hts kin_X4_w tyX4 tyX4_ok nmX4 hown hK hP hD hS 0 rfl rfl 0 (by decide) (hts _ kfl_X4_24) (fun _ h9 => h9) rfl (by decide +kernel) rfl rfl (Nat.le_of_ble_eq_true rfl) dX4_value_2 (fun H locs hP hD hS => ?_)
  have hP : va_P D vwCl [(g, .inr (4, [.int (nI 0), .int (nI kt), .ref gi, .int (nI kw), .ref go, .int (nI kz), .ref gn, .int (nI ks), .ref gr, .long kv])), (gi, .inl (cC, 65536, .inl ki)), (go, .inl (cC, 65536, .inl ko)), (gn, .inl (cI, 4096, .inl kn)), (gr, .inl (cI, 4096, .inl kr))] H := hP
  have hD : va_D A [(g, .inr (4, [.int (nI 0), .int (nI kt), .ref gi, .int (nI kw), .ref go, .int (nI kz), .ref gn, .int (nI ks), .ref gr, .long kv])), (gi, .inl (cC, 65536, .inl ki)), (go, .inl (cC, 65536, .inl ko)), (gn, .inl (cI, 4096, .inl kn)), (gr, .inl (cI, 4096, .inl kr))] := hD
  refine lv_aload_n hx hb dX4_value_5 rfl (lv_at hl 0 rfl) ?_
  refine va_get (D := D) (ci := 4) (C := RX4) (T := TX4) (N := 10) (v := .long kv) hx hb hts kin_X4_w hown hK hP 0 rfl rfl 9 (by decide) (hts _ kfl_X4_84) (fun _ h9 => h9) rfl dX4_value_6 ?_
  exact dm_lret hC hK () rfl hP hD hS dX4_value_9

set_option maxRecDepth 100000 in
set_option maxHeartbeats 4000000 in
theorem c_X4_characterAt (l : Launch) (D : va_G) (cB cI cC : ClassId) (g gi go gn gr kt kw kz ks : Nat) (th : Int32) (kv : Int64) (ki ko kn kr : Nat → Int32) (k : Int32) (hkw : kw ≤ 65536) : MI l yX4_characterAt (Cond.code yX4_characterAt cX4_characterAt 2 (some .int)) 0 D (TY cB cI cC) [.ref g, .int k] [(g, .inr (4, [.int th, .int (nI kt), .ref gi, .int (nI kw), .ref go, .int (nI kz), .ref gn, .int (nI ks), .ref gr, .long kv])), (gi, .inl (cC, 65536, .inl ki)), (go, .inl (cC, 65536, .inl ko)), (gn, .inl (cI, 4096, .inl kn)), (gr, .inl (cI, 4096, .inl kr))] (S := Unit) (fun r _ => (∀ j, j < kw → k = nI j → r = ko j) ∧ ((∀ j, j < kw → k ≠ nI j) → r = -1)) (fun _ => [(g, .inr (4, [.int (nI 0), .int (nI kt), .ref gi, .int (nI kw), .ref go, .int (nI kz), .ref gn, .int (nI ks), .ref gr, .long kv])), (gi, .inl (cC, 65536, .inl ki)), (go, .inl (cC, 65536, .inl ko)), (gn, .inl (cI, 4096, .inl kn)), (gr, .inl (cI, 4096, .inl kr))]) := by
  refine MI.of (by decide) (Nat.le_of_ble_eq_true rfl) ?_
  intro p e s m below meth c ls A hC hA hP hK hD hS hl
  obtain ⟨hx, hb, hr, hml, hown, hts, hlocks, hN⟩ := id hC
  have hown : s.vm.findClass RX4 = some m.cls := hown
  have hl : lv_has ls 2 [(0, .ref g), (1, .int k)] := hl
  refine lv_aload_n hx hb dX4_characterAt_0 rfl (lv_at hl 0 rfl) ?_
  refine lv_iconst (v := nI 0) hx hb dX4_characterAt_1 (by decide) ?_
  refine va_put (D := D) (ci := 4) (v := .int (nI 0)) (ty := .int) (C := RX4) (T := TX4) (N := 10) hx hb hts kin_X4_w tyX4 tyX4_ok nmX4 hown hK hP hD hS 0 rfl rfl 0 (by decide) (hts _ kfl_X4_24) (fun _ h9 => h9) rfl (by decide +kernel) rfl rfl (Nat.le_of_ble_eq_true rfl) dX4_characterAt_2 (fun H locs hP hD hS => ?_)
  have hP : va_P D vwCl [(g, .inr (4, [.int (nI 0), .int (nI kt), .ref gi, .int (nI kw), .ref go, .int (nI kz), .ref gn, .int (nI ks), .ref gr, .long kv])), (gi, .inl (cC, 65536, .inl ki)), (go, .inl (cC, 65536, .inl ko)), (gn, .inl (cI, 4096, .inl kn)), (gr, .inl (cI, 4096, .inl kr))] H := hP
  have hD : va_D A [(g, .inr (4, [.int (nI 0), .int (nI kt), .ref gi, .int (nI kw), .ref go, .int (nI kz), .ref gn, .int (nI ks), .ref gr, .long kv])), (gi, .inl (cC, 65536, .inl ki)), (go, .inl (cC, 65536, .inl ko)), (gn, .inl (cI, 4096, .inl kn)), (gr, .inl (cI, 4096, .inl kr))] := hD
  refine lv_iload_n hx hb dX4_characterAt_5 rfl (lv_at hl 1 rfl) ?_
  refine lv_if_lt (tgt := 17) hx hb dX4_characterAt_6 (by decide) (fun hc => ?_) (fun hc => ?_)
  · refine lv_iconst (v := -1) hx hb dX4_characterAt_17 (by decide) ?_
    refine lv_goto (tgt := 27) hx hb dX4_characterAt_18 (by decide) ?_
    exact dm_iret hC hK () ⟨fun j hj e0 => absurd hc (by rw [e0]; exact nI_pos (by omega)), fun _ => rfl⟩ hP hD hS dX4_characterAt_27
  · refine lv_iload_n hx hb dX4_characterAt_9 rfl (lv_at hl 1 rfl) ?_
    refine lv_aload_n hx hb dX4_characterAt_10 rfl (lv_at hl 0 rfl) ?_
    refine va_get (D := D) (ci := 4) (C := RX4) (T := TX4) (N := 10) (v := .int (nI kw)) hx hb hts kin_X4_w hown hK hP 0 rfl rfl 3 (by decide) (hts _ kfl_X4_56) (fun _ h9 => h9) rfl dX4_characterAt_11 ?_
    refine lv_icmp_lt (tgt := 21) hx hb dX4_characterAt_14 (by decide) (fun hd => ?_) (fun hd => ?_)
    · obtain ⟨j, hj, rfl⟩ : ∃ j : Nat, j < kw ∧ k = nI j := (pk_ix k (by omega)).resolve_left hc |>.resolve_left (fun h9 => absurd hd (Int32.not_lt.mpr h9))
      refine lv_aload_n hx hb dX4_characterAt_21 rfl (lv_at hl 0 rfl) ?_
      refine va_get (D := D) (ci := 4) (C := RX4) (T := TX4) (N := 10) (v := .ref go) hx hb hts kin_X4_w hown hK hP 0 rfl rfl 4 (by decide) (hts _ kfl_X4_14) (fun _ h9 => h9) rfl dX4_characterAt_22 ?_
      refine lv_iload_n hx hb dX4_characterAt_25 rfl (lv_at hl 1 rfl) ?_
      refine dm_cald (j := j) hx hb hK hP 2 2 rfl rfl (by omega) (by decide) dX4_characterAt_26 ?_
      exact dm_iret hC hK () ⟨fun i hi e0 => by rw [(nI_eq (by omega) (by omega)).mp e0], fun h9 => absurd rfl (h9 j hj)⟩ hP hD hS dX4_characterAt_27
    · refine lv_iconst (v := -1) hx hb dX4_characterAt_17 (by decide) ?_
      refine lv_goto (tgt := 27) hx hb dX4_characterAt_18 (by decide) ?_
      exact dm_iret hC hK () ⟨fun j hj e0 => absurd (by rw [e0]; exact nI_lt hj (by omega)) hd, fun _ => rfl⟩ hP hD hS dX4_characterAt_27
end
