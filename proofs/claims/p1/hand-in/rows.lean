section
/-- a private method of a class that the tables say can be made, by its rows of tables_1 -/
def lw_okq (q : MethodName × Nat) : Prop := (q.1.cls ≠ "java/lang/invoke/MethodHandle" ∧ q.1.cls ≠ "java/lang/invoke/VarHandle") ∧ Cond.instantiable q.1.cls q.2 ∈ tables_1 ∧ Cond.privateMethod q.1 ∈ tables_1 ∧ Cond.instanceMethod q.1 ∈ tables_1
theorem lw_p0 : lw_okq (⟨"LadderWords$Words", "knownNumberOf", "(LLadderWords$Row;)I"⟩, 3) := ⟨⟨by decide +kernel, by decide +kernel⟩, List.mem_of_getElem? (i := 32) (by decide +kernel), List.mem_of_getElem? (i := 190) (by decide +kernel), List.mem_of_getElem? (i := 191) (by decide +kernel)⟩
theorem lw_p1 : lw_okq (⟨"LadderWords$Words", "isSame", "(ILLadderWords$Row;)Z"⟩, 3) := ⟨⟨by decide +kernel, by decide +kernel⟩, List.mem_of_getElem? (i := 32) (by decide +kernel), List.mem_of_getElem? (i := 194) (by decide +kernel), List.mem_of_getElem? (i := 195) (by decide +kernel)⟩
theorem lw_p2 : lw_okq (⟨"LadderWords$Words", "append", "(LLadderWords$Row;)V"⟩, 3) := ⟨⟨by decide +kernel, by decide +kernel⟩, List.mem_of_getElem? (i := 32) (by decide +kernel), List.mem_of_getElem? (i := 210) (by decide +kernel), List.mem_of_getElem? (i := 211) (by decide +kernel)⟩
theorem lw_p3 : lw_okq (⟨"LadderWords$Ladders", "measure", "(III)V"⟩, 7) := ⟨⟨by decide +kernel, by decide +kernel⟩, List.mem_of_getElem? (i := 48) (by decide +kernel), List.mem_of_getElem? (i := 235) (by decide +kernel), List.mem_of_getElem? (i := 236) (by decide +kernel)⟩
theorem lw_p4 : lw_okq (⟨"LadderWords$Ladders", "spread", "(II)V"⟩, 7) := ⟨⟨by decide +kernel, by decide +kernel⟩, List.mem_of_getElem? (i := 48) (by decide +kernel), List.mem_of_getElem? (i := 243) (by decide +kernel), List.mem_of_getElem? (i := 244) (by decide +kernel)⟩
theorem lw_p5 : lw_okq (⟨"LadderWords$Words", "differences", "(II)I"⟩, 3) := ⟨⟨by decide +kernel, by decide +kernel⟩, List.mem_of_getElem? (i := 32) (by decide +kernel), List.mem_of_getElem? (i := 251) (by decide +kernel), List.mem_of_getElem? (i := 252) (by decide +kernel)⟩
theorem lw_p6 : lw_okq (⟨"LadderWords$Words", "isOneMore", "(II)Z"⟩, 3) := ⟨⟨by decide +kernel, by decide +kernel⟩, List.mem_of_getElem? (i := 32) (by decide +kernel), List.mem_of_getElem? (i := 255) (by decide +kernel), List.mem_of_getElem? (i := 256) (by decide +kernel)⟩
theorem lw_p7 : lw_okq (⟨"LadderWords$Ladders", "climb", "(II)V"⟩, 7) := ⟨⟨by decide +kernel, by decide +kernel⟩, List.mem_of_getElem? (i := 48) (by decide +kernel), List.mem_of_getElem? (i := 259) (by decide +kernel), List.mem_of_getElem? (i := 260) (by decide +kernel)⟩
theorem lw_p8 : lw_okq (⟨"LadderWords$Ladders", "leastNext", "(III)I"⟩, 7) := ⟨⟨by decide +kernel, by decide +kernel⟩, List.mem_of_getElem? (i := 48) (by decide +kernel), List.mem_of_getElem? (i := 263) (by decide +kernel), List.mem_of_getElem? (i := 264) (by decide +kernel)⟩
theorem lw_p9 : lw_okq (⟨"LadderWords$Gatherings", "listFitting", "(LLadderWords$Row;J)V"⟩, 9) := ⟨⟨by decide +kernel, by decide +kernel⟩, List.mem_of_getElem? (i := 77) (by decide +kernel), List.mem_of_getElem? (i := 304) (by decide +kernel), List.mem_of_getElem? (i := 305) (by decide +kernel)⟩
theorem lw_p10 : lw_okq (⟨"LadderWords$Gatherings", "heapOfWord", "(ILLadderWords$Row;)J"⟩, 9) := ⟨⟨by decide +kernel, by decide +kernel⟩, List.mem_of_getElem? (i := 77) (by decide +kernel), List.mem_of_getElem? (i := 308) (by decide +kernel), List.mem_of_getElem? (i := 309) (by decide +kernel)⟩
theorem lw_p11 : lw_okq (⟨"LadderWords$Gatherings", "choose", "(IIIJ)V"⟩, 9) := ⟨⟨by decide +kernel, by decide +kernel⟩, List.mem_of_getElem? (i := 77) (by decide +kernel), List.mem_of_getElem? (i := 319) (by decide +kernel), List.mem_of_getElem? (i := 320) (by decide +kernel)⟩
theorem lw_p12 : lw_okq (⟨"LadderWords$Gatherings", "take", "(IIIJ)V"⟩, 9) := ⟨⟨by decide +kernel, by decide +kernel⟩, List.mem_of_getElem? (i := 77) (by decide +kernel), List.mem_of_getElem? (i := 323) (by decide +kernel), List.mem_of_getElem? (i := 324) (by decide +kernel)⟩
theorem lw_p13 : lw_okq (⟨"LadderWords$Gatherings", "keep", "(I)V"⟩, 9) := ⟨⟨by decide +kernel, by decide +kernel⟩, List.mem_of_getElem? (i := 77) (by decide +kernel), List.mem_of_getElem? (i := 327) (by decide +kernel), List.mem_of_getElem? (i := 328) (by decide +kernel)⟩
theorem lw_p14 : lw_okq (⟨"LadderWords$Squares", "openAll", "(I)V"⟩, 6) := ⟨⟨by decide +kernel, by decide +kernel⟩, List.mem_of_getElem? (i := 111) (by decide +kernel), List.mem_of_getElem? (i := 347) (by decide +kernel), List.mem_of_getElem? (i := 348) (by decide +kernel)⟩
theorem lw_p15 : lw_okq (⟨"LadderWords$Squares", "noteLetters", "(II)V"⟩, 6) := ⟨⟨by decide +kernel, by decide +kernel⟩, List.mem_of_getElem? (i := 111) (by decide +kernel), List.mem_of_getElem? (i := 353) (by decide +kernel), List.mem_of_getElem? (i := 354) (by decide +kernel)⟩
def lw_privs_1 : List (MethodName × Nat) := [(⟨"LadderWords$Words", "knownNumberOf", "(LLadderWords$Row;)I"⟩, 3), (⟨"LadderWords$Words", "isSame", "(ILLadderWords$Row;)Z"⟩, 3), (⟨"LadderWords$Words", "append", "(LLadderWords$Row;)V"⟩, 3), (⟨"LadderWords$Ladders", "measure", "(III)V"⟩, 7), (⟨"LadderWords$Ladders", "spread", "(II)V"⟩, 7), (⟨"LadderWords$Words", "differences", "(II)I"⟩, 3), (⟨"LadderWords$Words", "isOneMore", "(II)Z"⟩, 3), (⟨"LadderWords$Ladders", "climb", "(II)V"⟩, 7), (⟨"LadderWords$Ladders", "leastNext", "(III)I"⟩, 7), (⟨"LadderWords$Gatherings", "listFitting", "(LLadderWords$Row;J)V"⟩, 9), (⟨"LadderWords$Gatherings", "heapOfWord", "(ILLadderWords$Row;)J"⟩, 9), (⟨"LadderWords$Gatherings", "choose", "(IIIJ)V"⟩, 9), (⟨"LadderWords$Gatherings", "take", "(IIIJ)V"⟩, 9), (⟨"LadderWords$Gatherings", "keep", "(I)V"⟩, 9), (⟨"LadderWords$Squares", "openAll", "(I)V"⟩, 6), (⟨"LadderWords$Squares", "noteLetters", "(II)V"⟩, 6)]
theorem lw_r1 : ∀ q ∈ lw_privs_1, lw_okq q := List.forall_mem_cons.mpr ⟨lw_p0, List.forall_mem_cons.mpr ⟨lw_p1, List.forall_mem_cons.mpr ⟨lw_p2, List.forall_mem_cons.mpr ⟨lw_p3, List.forall_mem_cons.mpr ⟨lw_p4, List.forall_mem_cons.mpr ⟨lw_p5, List.forall_mem_cons.mpr ⟨lw_p6, List.forall_mem_cons.mpr ⟨lw_p7, List.forall_mem_cons.mpr ⟨lw_p8, List.forall_mem_cons.mpr ⟨lw_p9, List.forall_mem_cons.mpr ⟨lw_p10, List.forall_mem_cons.mpr ⟨lw_p11, List.forall_mem_cons.mpr ⟨lw_p12, List.forall_mem_cons.mpr ⟨lw_p13, List.forall_mem_cons.mpr ⟨lw_p14, List.forall_mem_cons.mpr ⟨lw_p15, fun _ h => absurd h List.not_mem_nil⟩⟩⟩⟩⟩⟩⟩⟩⟩⟩⟩⟩⟩⟩⟩⟩
theorem lw_p16 : lw_okq (⟨"LadderWords$Squares", "complete", "(II)Z"⟩, 6) := ⟨⟨by decide +kernel, by decide +kernel⟩, List.mem_of_getElem? (i := 111) (by decide +kernel), List.mem_of_getElem? (i := 358) (by decide +kernel), List.mem_of_getElem? (i := 359) (by decide +kernel)⟩
theorem lw_p17 : lw_okq (⟨"LadderWords$Squares", "completeWith", "(III)Z"⟩, 6) := ⟨⟨by decide +kernel, by decide +kernel⟩, List.mem_of_getElem? (i := 111) (by decide +kernel), List.mem_of_getElem? (i := 362) (by decide +kernel), List.mem_of_getElem? (i := 363) (by decide +kernel)⟩
theorem lw_p18 : lw_okq (⟨"LadderWords$Squares", "wordsWith", "(II)J"⟩, 6) := ⟨⟨by decide +kernel, by decide +kernel⟩, List.mem_of_getElem? (i := 111) (by decide +kernel), List.mem_of_getElem? (i := 366) (by decide +kernel), List.mem_of_getElem? (i := 367) (by decide +kernel)⟩
theorem lw_p19 : lw_okq (⟨"LadderWords$Grid", "hasRoom", "(IIII)Z"⟩, 2) := ⟨⟨by decide +kernel, by decide +kernel⟩, List.mem_of_getElem? (i := 138) (by decide +kernel), List.mem_of_getElem? (i := 390) (by decide +kernel), List.mem_of_getElem? (i := 391) (by decide +kernel)⟩
theorem lw_p20 : lw_okq (⟨"LadderWords$Grid", "set", "(III)V"⟩, 2) := ⟨⟨by decide +kernel, by decide +kernel⟩, List.mem_of_getElem? (i := 138) (by decide +kernel), List.mem_of_getElem? (i := 404) (by decide +kernel), List.mem_of_getElem? (i := 405) (by decide +kernel)⟩
theorem lw_p21 : lw_okq (⟨"LadderWords$Grid", "stands", "(II)Z"⟩, 2) := ⟨⟨by decide +kernel, by decide +kernel⟩, List.mem_of_getElem? (i := 138) (by decide +kernel), List.mem_of_getElem? (i := 440) (by decide +kernel), List.mem_of_getElem? (i := 441) (by decide +kernel)⟩
theorem lw_p22 : lw_okq (⟨"LadderWordsModel", "enter", "()I"⟩, 18) := ⟨⟨by decide +kernel, by decide +kernel⟩, List.mem_of_getElem? (i := 460) (by decide +kernel), List.mem_of_getElem? (i := 529) (by decide +kernel), List.mem_of_getElem? (i := 530) (by decide +kernel)⟩
theorem lw_p23 : lw_okq (⟨"LadderWordsModel", "isRow", "(I)Z"⟩, 18) := ⟨⟨by decide +kernel, by decide +kernel⟩, List.mem_of_getElem? (i := 460) (by decide +kernel), List.mem_of_getElem? (i := 533) (by decide +kernel), List.mem_of_getElem? (i := 534) (by decide +kernel)⟩
theorem lw_p24 : lw_okq (⟨"LadderWordsModel", "at", "(II)I"⟩, 18) := ⟨⟨by decide +kernel, by decide +kernel⟩, List.mem_of_getElem? (i := 460) (by decide +kernel), List.mem_of_getElem? (i := 537) (by decide +kernel), List.mem_of_getElem? (i := 538) (by decide +kernel)⟩
theorem lw_p25 : lw_okq (⟨"LadderWordsModel", "isWord", "(I)Z"⟩, 18) := ⟨⟨by decide +kernel, by decide +kernel⟩, List.mem_of_getElem? (i := 460) (by decide +kernel), List.mem_of_getElem? (i := 545) (by decide +kernel), List.mem_of_getElem? (i := 546) (by decide +kernel)⟩
theorem lw_p26 : lw_okq (⟨"LadderWordsModel", "isStep", "(III)Z"⟩, 18) := ⟨⟨by decide +kernel, by decide +kernel⟩, List.mem_of_getElem? (i := 460) (by decide +kernel), List.mem_of_getElem? (i := 553) (by decide +kernel), List.mem_of_getElem? (i := 554) (by decide +kernel)⟩
theorem lw_p27 : lw_okq (⟨"LadderWordsModel", "differsOnce", "(II)Z"⟩, 18) := ⟨⟨by decide +kernel, by decide +kernel⟩, List.mem_of_getElem? (i := 460) (by decide +kernel), List.mem_of_getElem? (i := 557) (by decide +kernel), List.mem_of_getElem? (i := 558) (by decide +kernel)⟩
theorem lw_p28 : lw_okq (⟨"LadderWordsModel", "isLessOne", "(II)Z"⟩, 18) := ⟨⟨by decide +kernel, by decide +kernel⟩, List.mem_of_getElem? (i := 460) (by decide +kernel), List.mem_of_getElem? (i := 561) (by decide +kernel), List.mem_of_getElem? (i := 562) (by decide +kernel)⟩
theorem lw_p29 : lw_okq (⟨"LadderWordsModel", "take", "(II)Z"⟩, 18) := ⟨⟨by decide +kernel, by decide +kernel⟩, List.mem_of_getElem? (i := 460) (by decide +kernel), List.mem_of_getElem? (i := 577) (by decide +kernel), List.mem_of_getElem? (i := 578) (by decide +kernel)⟩
theorem lw_p30 : lw_okq (⟨"LadderWordsModel", "isEmpty", "()Z"⟩, 18) := ⟨⟨by decide +kernel, by decide +kernel⟩, List.mem_of_getElem? (i := 460) (by decide +kernel), List.mem_of_getElem? (i := 581) (by decide +kernel), List.mem_of_getElem? (i := 582) (by decide +kernel)⟩
theorem lw_p31 : lw_okq (⟨"LadderWordsModel", "keep", "(I)V"⟩, 18) := ⟨⟨by decide +kernel, by decide +kernel⟩, List.mem_of_getElem? (i := 460) (by decide +kernel), List.mem_of_getElem? (i := 585) (by decide +kernel), List.mem_of_getElem? (i := 586) (by decide +kernel)⟩
def lw_privs_2 : List (MethodName × Nat) := [(⟨"LadderWords$Squares", "complete", "(II)Z"⟩, 6), (⟨"LadderWords$Squares", "completeWith", "(III)Z"⟩, 6), (⟨"LadderWords$Squares", "wordsWith", "(II)J"⟩, 6), (⟨"LadderWords$Grid", "hasRoom", "(IIII)Z"⟩, 2), (⟨"LadderWords$Grid", "set", "(III)V"⟩, 2), (⟨"LadderWords$Grid", "stands", "(II)Z"⟩, 2), (⟨"LadderWordsModel", "enter", "()I"⟩, 18), (⟨"LadderWordsModel", "isRow", "(I)Z"⟩, 18), (⟨"LadderWordsModel", "at", "(II)I"⟩, 18), (⟨"LadderWordsModel", "isWord", "(I)Z"⟩, 18), (⟨"LadderWordsModel", "isStep", "(III)Z"⟩, 18), (⟨"LadderWordsModel", "differsOnce", "(II)Z"⟩, 18), (⟨"LadderWordsModel", "isLessOne", "(II)Z"⟩, 18), (⟨"LadderWordsModel", "take", "(II)Z"⟩, 18), (⟨"LadderWordsModel", "isEmpty", "()Z"⟩, 18), (⟨"LadderWordsModel", "keep", "(I)V"⟩, 18)]
theorem lw_r2 : ∀ q ∈ lw_privs_2, lw_okq q := List.forall_mem_cons.mpr ⟨lw_p16, List.forall_mem_cons.mpr ⟨lw_p17, List.forall_mem_cons.mpr ⟨lw_p18, List.forall_mem_cons.mpr ⟨lw_p19, List.forall_mem_cons.mpr ⟨lw_p20, List.forall_mem_cons.mpr ⟨lw_p21, List.forall_mem_cons.mpr ⟨lw_p22, List.forall_mem_cons.mpr ⟨lw_p23, List.forall_mem_cons.mpr ⟨lw_p24, List.forall_mem_cons.mpr ⟨lw_p25, List.forall_mem_cons.mpr ⟨lw_p26, List.forall_mem_cons.mpr ⟨lw_p27, List.forall_mem_cons.mpr ⟨lw_p28, List.forall_mem_cons.mpr ⟨lw_p29, List.forall_mem_cons.mpr ⟨lw_p30, List.forall_mem_cons.mpr ⟨lw_p31, fun _ h => absurd h List.not_mem_nil⟩⟩⟩⟩⟩⟩⟩⟩⟩⟩⟩⟩⟩⟩⟩⟩
theorem lw_p32 : lw_okq (⟨"LadderWordsModel", "mayBe", "(III)Z"⟩, 18) := ⟨⟨by decide +kernel, by decide +kernel⟩, List.mem_of_getElem? (i := 460) (by decide +kernel), List.mem_of_getElem? (i := 597) (by decide +kernel), List.mem_of_getElem? (i := 598) (by decide +kernel)⟩
theorem lw_p33 : lw_okq (⟨"LadderWordsModel", "stands", "(IIIIZ)Z"⟩, 18) := ⟨⟨by decide +kernel, by decide +kernel⟩, List.mem_of_getElem? (i := 460) (by decide +kernel), List.mem_of_getElem? (i := 612) (by decide +kernel), List.mem_of_getElem? (i := 613) (by decide +kernel)⟩
theorem lw_p34 : lw_okq (⟨"LadderWordsModel", "letterOfAll", "(I)I"⟩, 18) := ⟨⟨by decide +kernel, by decide +kernel⟩, List.mem_of_getElem? (i := 460) (by decide +kernel), List.mem_of_getElem? (i := 628) (by decide +kernel), List.mem_of_getElem? (i := 629) (by decide +kernel)⟩
theorem lw_p35 : lw_okq (⟨"LadderWordsModel", "place", "(II)I"⟩, 18) := ⟨⟨by decide +kernel, by decide +kernel⟩, List.mem_of_getElem? (i := 460) (by decide +kernel), List.mem_of_getElem? (i := 640) (by decide +kernel), List.mem_of_getElem? (i := 641) (by decide +kernel)⟩
def lw_privs_3 : List (MethodName × Nat) := [(⟨"LadderWordsModel", "mayBe", "(III)Z"⟩, 18), (⟨"LadderWordsModel", "stands", "(IIIIZ)Z"⟩, 18), (⟨"LadderWordsModel", "letterOfAll", "(I)I"⟩, 18), (⟨"LadderWordsModel", "place", "(II)I"⟩, 18)]
theorem lw_r3 : ∀ q ∈ lw_privs_3, lw_okq q := List.forall_mem_cons.mpr ⟨lw_p32, List.forall_mem_cons.mpr ⟨lw_p33, List.forall_mem_cons.mpr ⟨lw_p34, List.forall_mem_cons.mpr ⟨lw_p35, fun _ h => absurd h List.not_mem_nil⟩⟩⟩⟩
def lw_privs : List (MethodName × Nat) := lw_privs_1 ++ (lw_privs_2 ++ (lw_privs_3))
def lw_tbl : List Cond := k2_sels lw_privs ++ tables_1
theorem lw_privs_ok : ∀ q ∈ lw_privs, lw_okq q := by
  show ∀ q ∈ lw_privs_1 ++ (lw_privs_2 ++ (lw_privs_3)), lw_okq q
  exact List.forall_mem_append.mpr ⟨lw_r1, List.forall_mem_append.mpr ⟨lw_r2, lw_r3⟩⟩
end
section
-- NAMES, by program: classes, fields, methods
/-- the words that a callee may rest on -/
def mx_T0 : List Cond := lw_tbl.filter goodWord
def R_G : String := "LadderWords$Gatherings"
def T_G : u_T := fun k => match k with
  | 0 => ("LadderWords$Gatherings", "words", "LLadderWords$Words;", true)
  | 1 => ("LadderWords$Gatherings", "fitting", "[I", true)
  | 2 => ("LadderWords$Gatherings", "heaps", "[J", true)
  | 3 => ("LadderWords$Gatherings", "fittingCount", "I", false)
  | 4 => ("LadderWords$Gatherings", "chosen", "[I", true)
  | 5 => ("LadderWords$Gatherings", "kept", "[I", true)
  | 6 => ("LadderWords$Gatherings", "keptCount", "I", false)
  | 7 => ("LadderWords$Gatherings", "total", "I", false)
  | _ => ("LadderWords$Gatherings", "wordsThen", "I", false)
def ty_G : Nat → FieldType := fun k => match k with
  | 0 => .object "LadderWords$Words"
  | 1 => .array .int
  | 2 => .array .long
  | 3 => .int
  | 4 => .array .int
  | 5 => .array .int
  | 6 => .int
  | 7 => .int
  | _ => .int
theorem nm_G : ∀ a, a < 9 → ∀ b, b < 9 → a ≠ b → (T_G a).2.1 ≠ (T_G b).2.1 := by decide +kernel
theorem ok_G : ∀ k, k < 9 → parseFieldDescriptor (T_G k).2.2.1 = some (ty_G k) := by decide +kernel
theorem in_G : ∀ w ∈ u_ws R_G T_G 9, w ∈ mx_T0 := by decide +kernel
def R_C : String := "LadderWords$Grid"
def T_C : u_T := fun k => match k with
  | 0 => ("LadderWords$Grid", "words", "LLadderWords$Words;", true)
  | _ => ("LadderWords$Grid", "cells", "[I", true)
def ty_C : Nat → FieldType := fun k => match k with
  | 0 => .object "LadderWords$Words"
  | _ => .array .int
theorem nm_C : ∀ a, a < 2 → ∀ b, b < 2 → a ≠ b → (T_C a).2.1 ≠ (T_C b).2.1 := by decide +kernel
theorem ok_C : ∀ k, k < 2 → parseFieldDescriptor (T_C k).2.2.1 = some (ty_C k) := by decide +kernel
theorem in_C : ∀ w ∈ u_ws R_C T_C 2, w ∈ mx_T0 := by decide +kernel
def R_D : String := "LadderWords$Ladders"
def T_D : u_T := fun k => match k with
  | 0 => ("LadderWords$Ladders", "words", "LLadderWords$Words;", true)
  | 1 => ("LadderWords$Ladders", "distances", "[I", true)
  | 2 => ("LadderWords$Ladders", "counts", "[J", true)
  | 3 => ("LadderWords$Ladders", "rungs", "[I", true)
  | 4 => ("LadderWords$Ladders", "rungCount", "I", false)
  | 5 => ("LadderWords$Ladders", "shortest", "J", false)
  | _ => ("LadderWords$Ladders", "wordsThen", "I", false)
def ty_D : Nat → FieldType := fun k => match k with
  | 0 => .object "LadderWords$Words"
  | 1 => .array .int
  | 2 => .array .long
  | 3 => .array .int
  | 4 => .int
  | 5 => .long
  | _ => .int
theorem nm_D : ∀ a, a < 7 → ∀ b, b < 7 → a ≠ b → (T_D a).2.1 ≠ (T_D b).2.1 := by decide +kernel
theorem ok_D : ∀ k, k < 7 → parseFieldDescriptor (T_D k).2.2.1 = some (ty_D k) := by decide +kernel
theorem in_D : ∀ w ∈ u_ws R_D T_D 7, w ∈ mx_T0 := by decide +kernel
def R_R : String := "LadderWords$Row"
def T_R : u_T := fun k => match k with
  | 0 => ("LadderWords$Row", "letters", "[I", true)
  | _ => ("LadderWords$Row", "length", "I", false)
def ty_R : Nat → FieldType := fun k => match k with
  | 0 => .array .int
  | _ => .int
theorem nm_R : ∀ a, a < 2 → ∀ b, b < 2 → a ≠ b → (T_R a).2.1 ≠ (T_R b).2.1 := by decide +kernel
theorem ok_R : ∀ k, k < 2 → parseFieldDescriptor (T_R k).2.2.1 = some (ty_R k) := by decide +kernel
theorem in_R : ∀ w ∈ u_ws R_R T_R 2, w ∈ mx_T0 := by decide +kernel
def R_Q : String := "LadderWords$Squares"
def T_Q : u_T := fun k => match k with
  | 0 => ("LadderWords$Squares", "words", "LLadderWords$Words;", true)
  | 1 => ("LadderWords$Squares", "having", "[[J", true)
  | 2 => ("LadderWords$Squares", "open", "[[J", true)
  | 3 => ("LadderWords$Squares", "lines", "[I", true)
  | 4 => ("LadderWords$Squares", "size", "I", false)
  | _ => ("LadderWords$Squares", "wordsThen", "I", false)
def ty_Q : Nat → FieldType := fun k => match k with
  | 0 => .object "LadderWords$Words"
  | 1 => .array (.array .long)
  | 2 => .array (.array .long)
  | 3 => .array .int
  | 4 => .int
  | _ => .int
theorem nm_Q : ∀ a, a < 6 → ∀ b, b < 6 → a ≠ b → (T_Q a).2.1 ≠ (T_Q b).2.1 := by decide +kernel
theorem ok_Q : ∀ k, k < 6 → parseFieldDescriptor (T_Q k).2.2.1 = some (ty_Q k) := by decide +kernel
theorem in_Q : ∀ w ∈ u_ws R_Q T_Q 6, w ∈ mx_T0 := by decide +kernel
def R_W : String := "LadderWords$Words"
def T_W : u_T := fun k => match k with
  | 0 => ("LadderWords$Words", "letters", "[I", true)
  | 1 => ("LadderWords$Words", "starts", "[I", true)
  | _ => ("LadderWords$Words", "count", "I", false)
def ty_W : Nat → FieldType := fun k => match k with
  | 0 => .array .int
  | 1 => .array .int
  | _ => .int
theorem nm_W : ∀ a, a < 3 → ∀ b, b < 3 → a ≠ b → (T_W a).2.1 ≠ (T_W b).2.1 := by decide +kernel
theorem ok_W : ∀ k, k < 3 → parseFieldDescriptor (T_W k).2.2.1 = some (ty_W k) := by decide +kernel
theorem in_W : ∀ w ∈ u_ws R_W T_W 3, w ∈ mx_T0 := by decide +kernel
def R_L : String := "LadderWords"
def T_L : u_T := fun k => match k with
  | 0 => ("LadderWords", "row", "LLadderWords$Row;", true)
  | 1 => ("LadderWords", "words", "LLadderWords$Words;", true)
  | 2 => ("LadderWords", "ladders", "LLadderWords$Ladders;", true)
  | 3 => ("LadderWords", "gatherings", "LLadderWords$Gatherings;", true)
  | 4 => ("LadderWords", "squares", "LLadderWords$Squares;", true)
  | _ => ("LadderWords", "grid", "LLadderWords$Grid;", true)
def ty_L : Nat → FieldType := fun k => match k with
  | 0 => .object "LadderWords$Row"
  | 1 => .object "LadderWords$Words"
  | 2 => .object "LadderWords$Ladders"
  | 3 => .object "LadderWords$Gatherings"
  | 4 => .object "LadderWords$Squares"
  | _ => .object "LadderWords$Grid"
theorem nm_L : ∀ a, a < 6 → ∀ b, b < 6 → a ≠ b → (T_L a).2.1 ≠ (T_L b).2.1 := by decide +kernel
theorem ok_L : ∀ k, k < 6 → parseFieldDescriptor (T_L k).2.2.1 = some (ty_L k) := by decide +kernel
theorem in_L : ∀ w ∈ u_ws R_L T_L 6, w ∈ mx_T0 := by decide +kernel
def R_M : String := "LadderWordsModel"
def T_M : u_T := fun k => match k with
  | 0 => ("LadderWordsModel", "thrown", "I", false)
  | 1 => ("LadderWordsModel", "size", "I", false)
  | 2 => ("LadderWordsModel", "row", "[I", true)
  | 3 => ("LadderWordsModel", "many", "I", false)
  | 4 => ("LadderWordsModel", "letters", "[I", true)
  | 5 => ("LadderWordsModel", "lengths", "[I", true)
  | 6 => ("LadderWordsModel", "steps", "I", false)
  | 7 => ("LadderWordsModel", "ladder", "[I", true)
  | 8 => ("LadderWordsModel", "ways", "J", false)
  | 9 => ("LadderWordsModel", "far", "[I", true)
  | 10 => ("LadderWordsModel", "counts", "[J", true)
  | 11 => ("LadderWordsModel", "kept", "I", false)
  | 12 => ("LadderWordsModel", "gatherings", "[I", true)
  | 13 => ("LadderWordsModel", "chosen", "[I", true)
  | 14 => ("LadderWordsModel", "left", "[I", true)
  | 15 => ("LadderWordsModel", "side", "I", false)
  | 16 => ("LadderWordsModel", "lines", "[I", true)
  | _ => ("LadderWordsModel", "grid", "[I", true)
def ty_M : Nat → FieldType := fun k => match k with
  | 0 => .int
  | 1 => .int
  | 2 => .array .int
  | 3 => .int
  | 4 => .array .int
  | 5 => .array .int
  | 6 => .int
  | 7 => .array .int
  | 8 => .long
  | 9 => .array .int
  | 10 => .array .long
  | 11 => .int
  | 12 => .array .int
  | 13 => .array .int
  | 14 => .array .int
  | 15 => .int
  | 16 => .array .int
  | _ => .array .int
theorem nm_M : ∀ a, a < 18 → ∀ b, b < 18 → a ≠ b → (T_M a).2.1 ≠ (T_M b).2.1 := by decide +kernel
theorem ok_M : ∀ k, k < 18 → parseFieldDescriptor (T_M k).2.2.1 = some (ty_M k) := by decide +kernel
theorem in_M : ∀ w ∈ u_ws R_M T_M 18, w ∈ mx_T0 := by decide +kernel
abbrev vwCl : List vw_C := [(R_G, T_G, 9), (R_C, T_C, 2), (R_D, T_D, 7), (R_R, T_R, 2), (R_Q, T_Q, 6), (R_W, T_W, 3), (R_L, T_L, 6), (R_M, T_M, 18)]
/-- the kinds of arrays -/
abbrev mx_ft : List FieldType := [.int, .long, .array .long]
/-- static fields that hold tables, and the tables -/
abbrev mx_zs : List (String × String × String × Nat) := [("LadderWords$Grid", "RIGHT", "[I", 0), ("LadderWords$Grid", "DOWN", "[I", 1)]
/-- links that a private constructor needs -/
abbrev mx_nw : List Cond := [Cond.methodLinkNest "LadderWords" 9 ⟨"LadderWords$Row", "<init>", "()V"⟩ "LadderWords", Cond.methodLinkNest "LadderWords" 18 ⟨"LadderWords$Words", "<init>", "()V"⟩ "LadderWords"]
def mx_t0 : Nat → Int32 := fun j => match j with
  | 0 => 1 | 1 => 1 | 2 => 0 | 3 => -1 | 4 => -1 | 5 => -1 | 6 => 0 | _ => 1
def mx_t1 : Nat → Int32 := fun j => match j with
  | 0 => 0 | 1 => 1 | 2 => 1 | 3 => 1 | 4 => 0 | 5 => -1 | 6 => -1 | _ => -1
abbrev mx_tt : Nat → Option (Nat × (Nat → Int32)) := fun t => match t with
  | 0 => some (8, mx_t0) | 1 => some (8, mx_t1) | _ => none
theorem mx_T0_in {w : Cond} (h : w ∈ mx_T0) : w ∈ lw_tbl := (List.mem_filter.mp h).1
theorem mx_in0 {w : Cond} (h : w ∈ lw_tbl) (h2 : goodWord w = true) : w ∈ mx_T0 := List.mem_filter.mpr ⟨h, h2⟩
theorem mx_good {w : Cond} (h : w ∈ mx_T0) : (w.onTables && w.keeps) = true ∨ ∃ ty, w = .arrayClass ty := good_of_word (List.mem_filter.mp h).2
/-- the words of a method: its code, and all words of the tables -/
abbrev mx_ws (y : MethodName) (cc : ByteArray) (n : Nat) (r : Option FieldType) : List Cond := Cond.code y cc n r :: mx_T0
theorem mx_gI {Ts : List Cond} {y : MethodName} {cc : ByteArray} {n : Nat} {r : Option FieldType} (hT : ∀ w ∈ mx_T0, w ∈ Ts) (h5 : Cond.code y cc n r ∈ mx_T0) : GoodIn Ts (mx_ws y cc n r) := by
  intro w hw
  rcases List.mem_cons.mp hw with rfl | hw
  · exact ⟨hT _ h5, mx_good h5⟩
  · exact ⟨hT _ hw, mx_good hw⟩
theorem mx_gV {Ts : List Cond} {own C : String} {i : Nat} {y : MethodName} {cc : ByteArray} {n : Nat} {r : Option FieldType} (hT : ∀ w ∈ mx_T0, w ∈ Ts) (h1 : Cond.methodLink own i y ∈ mx_T0) (h2 : Cond.instanceMethod y ∈ mx_T0) (h3 : Cond.selects C y y ∈ mx_T0) (h4 : Cond.initialized C ∈ mx_T0) (h5 : Cond.code y cc n r ∈ mx_T0) : GoodIn Ts (wsV own i C y (mx_ws y cc n r)) := by
  intro w hw
  rcases List.mem_append.mp hw with hw | hw
  · have hm : w ∈ mx_T0 := by
      simp only [List.mem_cons, List.not_mem_nil, or_false] at hw
      rcases hw with rfl | rfl | rfl | rfl <;> assumption
    exact ⟨hT _ hm, mx_good hm⟩
  · exact mx_gI hT h5 w hw
theorem mx_gS {Ts : List Cond} {own : String} {i : Nat} {y : MethodName} {cc : ByteArray} {n : Nat} {r : Option FieldType} (hT : ∀ w ∈ mx_T0, w ∈ Ts) (h1 : Cond.methodLink own i y ∈ mx_T0) (h2 : Cond.static y ∈ mx_T0) (h4 : Cond.initialized own ∈ mx_T0) (h5 : Cond.code y cc n r ∈ mx_T0) : GoodIn Ts (wsS own i y (mx_ws y cc n r)) := by
  intro w hw
  rcases List.mem_append.mp hw with hw | hw
  · have hm : w ∈ mx_T0 := by
      simp only [List.mem_cons, List.not_mem_nil, or_false] at hw
      rcases hw with rfl | rfl | rfl <;> assumption
    exact ⟨hT _ hm, mx_good hm⟩
  · exact mx_gI hT h5 w hw
abbrev c_L_init : ByteArray := prog_1_method_1_code
def y_L_init : MethodName := ⟨R_L, "<init>", "()V"⟩
abbrev c_R_init : ByteArray := prog_5_method_1_code
def y_R_init : MethodName := ⟨R_R, "<init>", "()V"⟩
abbrev c_W_init : ByteArray := prog_7_method_1_code
def y_W_init : MethodName := ⟨R_W, "<init>", "()V"⟩
abbrev c_D_init : ByteArray := prog_4_method_1_code
def y_D_init : MethodName := ⟨R_D, "<init>", "(LLadderWords$Words;)V"⟩
abbrev c_G_init : ByteArray := prog_2_method_1_code
def y_G_init : MethodName := ⟨R_G, "<init>", "(LLadderWords$Words;)V"⟩
abbrev c_Q_init : ByteArray := prog_6_method_1_code
def y_Q_init : MethodName := ⟨R_Q, "<init>", "(LLadderWords$Words;)V"⟩
abbrev c_C_init : ByteArray := prog_3_method_1_code
def y_C_init : MethodName := ⟨R_C, "<init>", "(LLadderWords$Words;)V"⟩
abbrev c_L_unit : ByteArray := prog_1_method_2_code
def y_L_unit : MethodName := ⟨R_L, "unit", "(I)Z"⟩
abbrev c_R_add : ByteArray := prog_5_method_2_code
def y_R_add : MethodName := ⟨R_R, "add", "(I)Z"⟩
abbrev c_L_word : ByteArray := prog_1_method_3_code
def y_L_word : MethodName := ⟨R_L, "word", "()I"⟩
abbrev c_W_numberFor : ByteArray := prog_7_method_8_code
def y_W_numberFor : MethodName := ⟨R_W, "numberFor", "(LLadderWords$Row;)I"⟩
abbrev c_R_length : ByteArray := prog_5_method_4_code
def y_R_length : MethodName := ⟨R_R, "length", "()I"⟩
abbrev c_W_knownNumberOf : ByteArray := prog_7_method_9_code
def y_W_knownNumberOf : MethodName := ⟨R_W, "knownNumberOf", "(LLadderWords$Row;)I"⟩
abbrev c_W_isSame : ByteArray := prog_7_method_10_code
def y_W_isSame : MethodName := ⟨R_W, "isSame", "(ILLadderWords$Row;)Z"⟩
abbrev c_W_lengthOf : ByteArray := prog_7_method_4_code
def y_W_lengthOf : MethodName := ⟨R_W, "lengthOf", "(I)I"⟩
abbrev c_W_letterOf : ByteArray := prog_7_method_5_code
def y_W_letterOf : MethodName := ⟨R_W, "letterOf", "(II)I"⟩
abbrev c_R_letterAt : ByteArray := prog_5_method_5_code
def y_R_letterAt : MethodName := ⟨R_R, "letterAt", "(I)I"⟩
abbrev c_W_append : ByteArray := prog_7_method_11_code
def y_W_append : MethodName := ⟨R_W, "append", "(LLadderWords$Row;)V"⟩
abbrev c_R_clear : ByteArray := prog_5_method_3_code
def y_R_clear : MethodName := ⟨R_R, "clear", "()V"⟩
abbrev c_L_letter : ByteArray := prog_1_method_4_code
def y_L_letter : MethodName := ⟨R_L, "letter", "(II)I"⟩
abbrev c_L_ladder : ByteArray := prog_1_method_5_code
def y_L_ladder : MethodName := ⟨R_L, "ladder", "(III)I"⟩
abbrev c_D_find : ByteArray := prog_4_method_2_code
def y_D_find : MethodName := ⟨R_D, "find", "(III)I"⟩
abbrev c_W_has : ByteArray := prog_7_method_3_code
def y_W_has : MethodName := ⟨R_W, "has", "(I)Z"⟩
abbrev c_D_measure : ByteArray := prog_4_method_5_code
def y_D_measure : MethodName := ⟨R_D, "measure", "(III)V"⟩
abbrev c_W_count : ByteArray := prog_7_method_2_code
def y_W_count : MethodName := ⟨R_W, "count", "()I"⟩
abbrev c_D_spread : ByteArray := prog_4_method_6_code
def y_D_spread : MethodName := ⟨R_D, "spread", "(II)V"⟩
abbrev c_W_isStep : ByteArray := prog_7_method_12_code
def y_W_isStep : MethodName := ⟨R_W, "isStep", "(III)Z"⟩
abbrev c_W_differences : ByteArray := prog_7_method_13_code
def y_W_differences : MethodName := ⟨R_W, "differences", "(II)I"⟩
abbrev c_W_isOneMore : ByteArray := prog_7_method_14_code
def y_W_isOneMore : MethodName := ⟨R_W, "isOneMore", "(II)Z"⟩
abbrev c_D_climb : ByteArray := prog_4_method_7_code
def y_D_climb : MethodName := ⟨R_D, "climb", "(II)V"⟩
abbrev c_D_leastNext : ByteArray := prog_4_method_8_code
def y_D_leastNext : MethodName := ⟨R_D, "leastNext", "(III)I"⟩
abbrev c_L_step : ByteArray := prog_1_method_6_code
def y_L_step : MethodName := ⟨R_L, "step", "(I)I"⟩
abbrev c_D_rungAt : ByteArray := prog_4_method_3_code
def y_D_rungAt : MethodName := ⟨R_D, "rungAt", "(I)I"⟩
abbrev c_L_ways : ByteArray := prog_1_method_7_code
def y_L_ways : MethodName := ⟨R_L, "ways", "()J"⟩
abbrev c_D_shortestCount : ByteArray := prog_4_method_4_code
def y_D_shortestCount : MethodName := ⟨R_D, "shortestCount", "()J"⟩
abbrev c_L_gather : ByteArray := prog_1_method_8_code
def y_L_gather : MethodName := ⟨R_L, "gather", "(I)I"⟩
abbrev c_G_find : ByteArray := prog_2_method_2_code
def y_G_find : MethodName := ⟨R_G, "find", "(LLadderWords$Row;I)I"⟩
abbrev c_G_heapOfRow : ByteArray := prog_2_method_4_code
def y_G_heapOfRow : MethodName := ⟨R_G, "heapOfRow", "(LLadderWords$Row;)J"⟩
abbrev c_R_firstPlaceOf : ByteArray := prog_5_method_6_code
def y_R_firstPlaceOf : MethodName := ⟨R_R, "firstPlaceOf", "(I)I"⟩
abbrev c_G_oneAt : ByteArray := prog_2_method_5_code
def y_G_oneAt : MethodName := ⟨R_G, "oneAt", "(I)J"⟩
abbrev c_G_listFitting : ByteArray := prog_2_method_7_code
def y_G_listFitting : MethodName := ⟨R_G, "listFitting", "(LLadderWords$Row;J)V"⟩
abbrev c_G_heapOfWord : ByteArray := prog_2_method_8_code
def y_G_heapOfWord : MethodName := ⟨R_G, "heapOfWord", "(ILLadderWords$Row;)J"⟩
abbrev c_G_isWithin : ByteArray := prog_2_method_6_code
def y_G_isWithin : MethodName := ⟨R_G, "isWithin", "(JJ)Z"⟩
abbrev c_G_choose : ByteArray := prog_2_method_9_code
def y_G_choose : MethodName := ⟨R_G, "choose", "(IIIJ)V"⟩
abbrev c_G_take : ByteArray := prog_2_method_10_code
def y_G_take : MethodName := ⟨R_G, "take", "(IIIJ)V"⟩
abbrev c_G_keep : ByteArray := prog_2_method_11_code
def y_G_keep : MethodName := ⟨R_G, "keep", "(I)V"⟩
abbrev c_L_gathered : ByteArray := prog_1_method_9_code
def y_L_gathered : MethodName := ⟨R_L, "gathered", "(II)I"⟩
abbrev c_G_wordAt : ByteArray := prog_2_method_3_code
def y_G_wordAt : MethodName := ⟨R_G, "wordAt", "(II)I"⟩
abbrev c_L_square : ByteArray := prog_1_method_10_code
def y_L_square : MethodName := ⟨R_L, "square", "(I)Z"⟩
abbrev c_Q_find : ByteArray := prog_6_method_2_code
def y_Q_find : MethodName := ⟨R_Q, "find", "(I)Z"⟩
abbrev c_Q_openAll : ByteArray := prog_6_method_4_code
def y_Q_openAll : MethodName := ⟨R_Q, "openAll", "(I)V"⟩
abbrev c_Q_noteLetters : ByteArray := prog_6_method_5_code
def y_Q_noteLetters : MethodName := ⟨R_Q, "noteLetters", "(II)V"⟩
abbrev c_Q_complete : ByteArray := prog_6_method_6_code
def y_Q_complete : MethodName := ⟨R_Q, "complete", "(II)Z"⟩
abbrev c_Q_completeWith : ByteArray := prog_6_method_7_code
def y_Q_completeWith : MethodName := ⟨R_Q, "completeWith", "(III)Z"⟩
abbrev c_Q_wordsWith : ByteArray := prog_6_method_8_code
def y_Q_wordsWith : MethodName := ⟨R_Q, "wordsWith", "(II)J"⟩
abbrev c_L_line : ByteArray := prog_1_method_11_code
def y_L_line : MethodName := ⟨R_L, "line", "(I)I"⟩
abbrev c_Q_wordAt : ByteArray := prog_6_method_3_code
def y_Q_wordAt : MethodName := ⟨R_Q, "wordAt", "(I)I"⟩
abbrev c_L_hide : ByteArray := prog_1_method_12_code
def y_L_hide : MethodName := ⟨R_L, "hide", "(IIII)Z"⟩
abbrev c_C_put : ByteArray := prog_3_method_4_code
def y_C_put : MethodName := ⟨R_C, "put", "(IIII)Z"⟩
abbrev c_C_isInside : ByteArray := prog_3_method_8_code
def y_C_isInside : MethodName := ⟨R_C, "isInside", "(II)Z"⟩
abbrev c_C_hasRoom : ByteArray := prog_3_method_10_code
def y_C_hasRoom : MethodName := ⟨R_C, "hasRoom", "(IIII)Z"⟩
abbrev c_C_letterAt : ByteArray := prog_3_method_3_code
def y_C_letterAt : MethodName := ⟨R_C, "letterAt", "(II)I"⟩
abbrev c_C_set : ByteArray := prog_3_method_9_code
def y_C_set : MethodName := ⟨R_C, "set", "(III)V"⟩
abbrev c_L_fill : ByteArray := prog_1_method_13_code
def y_L_fill : MethodName := ⟨R_L, "fill", "(J)I"⟩
abbrev c_C_fillEmpty : ByteArray := prog_3_method_5_code
def y_C_fillEmpty : MethodName := ⟨R_C, "fillEmpty", "(J)I"⟩
abbrev c_W_lengthOfAll : ByteArray := prog_7_method_6_code
def y_W_lengthOfAll : MethodName := ⟨R_W, "lengthOfAll", "()I"⟩
abbrev c_W_letterOfAll : ByteArray := prog_7_method_7_code
def y_W_letterOfAll : MethodName := ⟨R_W, "letterOfAll", "(I)I"⟩
abbrev c_L_cell : ByteArray := prog_1_method_14_code
def y_L_cell : MethodName := ⟨R_L, "cell", "(II)I"⟩
abbrev c_L_found : ByteArray := prog_1_method_15_code
def y_L_found : MethodName := ⟨R_L, "found", "(I)I"⟩
abbrev c_C_countOf : ByteArray := prog_3_method_6_code
def y_C_countOf : MethodName := ⟨R_C, "countOf", "(I)I"⟩
abbrev c_C_stands : ByteArray := prog_3_method_11_code
def y_C_stands : MethodName := ⟨R_C, "stands", "(II)Z"⟩
abbrev c_L_where : ByteArray := prog_1_method_16_code
def y_L_where : MethodName := ⟨R_L, "where", "(II)I"⟩
abbrev c_C_placeOf : ByteArray := prog_3_method_7_code
def y_C_placeOf : MethodName := ⟨R_C, "placeOf", "(II)I"⟩
abbrev c_L_wipe : ByteArray := prog_1_method_17_code
def y_L_wipe : MethodName := ⟨R_L, "wipe", "()V"⟩
abbrev c_C_clear : ByteArray := prog_3_method_2_code
def y_C_clear : MethodName := ⟨R_C, "clear", "()V"⟩
abbrev c_M_init : ByteArray := prog_9_method_1_code
def y_M_init : MethodName := ⟨R_M, "<init>", "()V"⟩
abbrev c_M_unit : ByteArray := prog_9_method_5_code
def y_M_unit : MethodName := ⟨R_M, "unit", "(I)Z"⟩
abbrev c_M_word : ByteArray := prog_9_method_8_code
def y_M_word : MethodName := ⟨R_M, "word", "()I"⟩
abbrev c_M_enter : ByteArray := prog_9_method_7_code
def y_M_enter : MethodName := ⟨R_M, "enter", "()I"⟩
abbrev c_M_isRow : ByteArray := prog_9_method_6_code
def y_M_isRow : MethodName := ⟨R_M, "isRow", "(I)Z"⟩
abbrev c_M_at : ByteArray := prog_9_method_4_code
def y_M_at : MethodName := ⟨R_M, "at", "(II)I"⟩
abbrev c_M_letter : ByteArray := prog_9_method_9_code
def y_M_letter : MethodName := ⟨R_M, "letter", "(II)I"⟩
abbrev c_M_isWord : ByteArray := prog_9_method_3_code
def y_M_isWord : MethodName := ⟨R_M, "isWord", "(I)Z"⟩
abbrev c_M_ladder : ByteArray := prog_9_method_13_code
def y_M_ladder : MethodName := ⟨R_M, "ladder", "(III)I"⟩
abbrev c_M_isStep : ByteArray := prog_9_method_12_code
def y_M_isStep : MethodName := ⟨R_M, "isStep", "(III)Z"⟩
abbrev c_M_differsOnce : ByteArray := prog_9_method_10_code
def y_M_differsOnce : MethodName := ⟨R_M, "differsOnce", "(II)Z"⟩
abbrev c_M_isLessOne : ByteArray := prog_9_method_11_code
def y_M_isLessOne : MethodName := ⟨R_M, "isLessOne", "(II)Z"⟩
abbrev c_M_step : ByteArray := prog_9_method_14_code
def y_M_step : MethodName := ⟨R_M, "step", "(I)I"⟩
abbrev c_M_ways : ByteArray := prog_9_method_15_code
def y_M_ways : MethodName := ⟨R_M, "ways", "()J"⟩
abbrev c_M_gather : ByteArray := prog_9_method_19_code
def y_M_gather : MethodName := ⟨R_M, "gather", "(I)I"⟩
abbrev c_M_take : ByteArray := prog_9_method_16_code
def y_M_take : MethodName := ⟨R_M, "take", "(II)Z"⟩
abbrev c_M_isEmpty : ByteArray := prog_9_method_17_code
def y_M_isEmpty : MethodName := ⟨R_M, "isEmpty", "()Z"⟩
abbrev c_M_keep : ByteArray := prog_9_method_18_code
def y_M_keep : MethodName := ⟨R_M, "keep", "(I)V"⟩
abbrev c_M_gathered : ByteArray := prog_9_method_20_code
def y_M_gathered : MethodName := ⟨R_M, "gathered", "(II)I"⟩
abbrev c_M_square : ByteArray := prog_9_method_22_code
def y_M_square : MethodName := ⟨R_M, "square", "(I)Z"⟩
abbrev c_M_mayBe : ByteArray := prog_9_method_21_code
def y_M_mayBe : MethodName := ⟨R_M, "mayBe", "(III)Z"⟩
abbrev c_M_line : ByteArray := prog_9_method_23_code
def y_M_line : MethodName := ⟨R_M, "line", "(I)I"⟩
abbrev c_M_hide : ByteArray := prog_9_method_28_code
def y_M_hide : MethodName := ⟨R_M, "hide", "(IIII)Z"⟩
abbrev c_M_isCell : ByteArray := prog_9_method_26_code
def y_M_isCell : MethodName := ⟨R_M, "isCell", "(II)Z"⟩
abbrev c_M_stands : ByteArray := prog_9_method_27_code
def y_M_stands : MethodName := ⟨R_M, "stands", "(IIIIZ)Z"⟩
abbrev c_M_across : ByteArray := prog_9_method_24_code
def y_M_across : MethodName := ⟨R_M, "across", "(I)I"⟩
abbrev c_M_down : ByteArray := prog_9_method_25_code
def y_M_down : MethodName := ⟨R_M, "down", "(I)I"⟩
abbrev c_M_fill : ByteArray := prog_9_method_30_code
def y_M_fill : MethodName := ⟨R_M, "fill", "(J)I"⟩
abbrev c_M_letterOfAll : ByteArray := prog_9_method_29_code
def y_M_letterOfAll : MethodName := ⟨R_M, "letterOfAll", "(I)I"⟩
abbrev c_M_cell : ByteArray := prog_9_method_31_code
def y_M_cell : MethodName := ⟨R_M, "cell", "(II)I"⟩
abbrev c_M_found : ByteArray := prog_9_method_33_code
def y_M_found : MethodName := ⟨R_M, "found", "(I)I"⟩
abbrev c_M_place : ByteArray := prog_9_method_32_code
def y_M_place : MethodName := ⟨R_M, "place", "(II)I"⟩
abbrev c_M_where : ByteArray := prog_9_method_34_code
def y_M_where : MethodName := ⟨R_M, "where", "(II)I"⟩
abbrev c_M_wipe : ByteArray := prog_9_method_35_code
def y_M_wipe : MethodName := ⟨R_M, "wipe", "()V"⟩
end
section
/-! THE WALKING MACHINE: a value, a cell, a world by numbers of places (no address is seen), an instruction as a step on them, each step's soundness out of the kit's rows -/
/-- an int, a long, a cell by its place (none: null), a table of constants by its number -/
abbrev mx_V : Type := Int32 ⊕ Int64 ⊕ Option Nat ⊕ Nat
/-- an array of ints (kind, length, contents), of longs, of references; an object (class number, fields) -/
abbrev mx_E : Type := (Nat × Nat × (Nat → Int32)) ⊕ (Nat × Nat × (Nat → Int64)) ⊕ (Nat × Nat × (Nat → Option Nat)) ⊕ (Nat × List mx_V)
abbrev mx_L : Type := List (Option mx_V)
abbrev mx_S : Type := List mx_V
abbrev mx_F : Type := Nat → Option mx_E
abbrev mx_K : Type := Nat → mx_L → mx_S → mx_F → Nat → Nat → Prop
abbrev mx_O : Type := mx_L → mx_S → mx_F → Nat → Nat → mx_K → Prop
/-- a contract as it is used: arguments, world, what is asked of answer and world -/
abbrev mx_Sp : Type := List mx_V → mx_F → (Option mx_V → mx_F → Prop) → Prop
abbrev mx_i (x : Int32) : mx_V := .inl x
abbrev mx_l (x : Int64) : mx_V := .inr (.inl x)
abbrev mx_r (q : Nat) : mx_V := .inr (.inr (.inl (some q)))
abbrev mx_tb (t : Nat) : mx_V := .inr (.inr (.inr t))
abbrev mx_null : mx_V := .inr (.inr (.inl none))
abbrev mx_ia (n : Nat) (f : Nat → Int32) : mx_E := .inl (0, n, f)
abbrev mx_la (n : Nat) (f : Nat → Int64) : mx_E := .inr (.inl (1, n, f))
abbrev mx_qa (t n : Nat) (f : Nat → Option Nat) : mx_E := .inr (.inr (.inl (t, n, f)))
abbrev mx_ob (ci : Nat) (fs : List mx_V) : mx_E := .inr (.inr (.inr (ci, fs)))
def mx_v (ad tb : Nat → Nat) : mx_V → Value
  | .inl x => .int x
  | .inr (.inl y) => .long y
  | .inr (.inr (.inl none)) => .null
  | .inr (.inr (.inl (some p))) => .ref (ad p)
  | .inr (.inr (.inr t)) => .ref (tb t)
def mx_e (tc : Nat → ClassId) (ad tb : Nat → Nat) : mx_E → va_E
  | .inl (t, n, f) => .inl (tc t, n, .inl f)
  | .inr (.inl (t, n, f)) => .inl (tc t, n, .inr (.inl f))
  | .inr (.inr (.inl (t, n, f))) => .inl (tc t, n, .inr (.inr (.inr (.inr (fun j => (f j).map ad)))))
  | .inr (.inr (.inr (ci, fs))) => .inr (ci, fs.map (mx_v ad tb))
def mx_cat : mx_V → Nat
  | .inr (.inl _) => 2
  | _ => 1
theorem mx_cat_v (ad tb : Nat → Nat) (v : mx_V) : (mx_v ad tb v).category = mx_cat v := by
  rcases v with x | x | (_ | x) | x <;> rfl
def mx_cs : mx_S → Nat
  | [] => 0
  | v :: r => mx_cat v + mx_cs r
theorem mx_cs_map (ad tb : Nat → Nat) (r : mx_S) : ((r.map (mx_v ad tb)).map fun v => v.category).sum = mx_cs r := by
  induction r with
  | nil => rfl
  | cons v r ih => simp only [List.map_cons, List.sum_cons, mx_cs, mx_cat_v, ih]
/-- a kind of array by its number -/
def mx_t (tc : Nat → ClassId) (ft : List FieldType) : List (ClassId × FieldType) := ft.mapIdx (fun i t => (tc i, t))
theorem mx_t_get {tc : Nat → ClassId} {ft : List FieldType} {i : Nat} {t : FieldType} (h : ft[i]? = some t) : (mx_t tc ft)[i]? = some (tc i, t) := by
  unfold mx_t
  rw [List.getElem?_mapIdx, h]
  rfl
-- worlds
def mx_put (F : mx_F) (k : Nat) (e : mx_E) : mx_F := fun j => bif Nat.beq j k then some e else F j
theorem mx_beq_ne {j k : Nat} (h : j ≠ k) : Nat.beq j k = false := by
  cases hb : Nat.beq j k with
  | false => rfl
  | true => exact absurd (Nat.eq_of_beq_eq_true hb) h
theorem mx_put_at (F : mx_F) (k : Nat) (e : mx_E) : mx_put F k e k = some e := by
  unfold mx_put
  rw [Nat.beq_refl]
  rfl
theorem mx_put_ne {F : mx_F} {j k : Nat} {e : mx_E} (h : j ≠ k) : mx_put F k e j = F j := by
  unfold mx_put
  rw [mx_beq_ne h]
  rfl
theorem mx_put_or {F : mx_F} {j k : Nat} {e x : mx_E} (h : mx_put F k e j = some x) : (j = k ∧ x = e) ∨ (j ≠ k ∧ F j = some x) := by
  by_cases hj : j = k
  · subst hj
    rw [mx_put_at] at h
    exact Or.inl ⟨rfl, (Option.some.inj h).symm⟩
  · rw [mx_put_ne hj] at h
    exact Or.inr ⟨hj, h⟩
theorem mx_self {F : mx_F} {k : Nat} {e : mx_E} (h : F k = some e) : mx_put F k e = F := by
  funext j
  by_cases hj : j = k
  · subst hj
    rw [mx_put_at, h]
  · rw [mx_put_ne hj]
theorem mx_pp (F : mx_F) (k : Nat) (a b : mx_E) : mx_put (mx_put F k a) k b = mx_put F k b := by
  funext j
  by_cases hj : j = k
  · subst hj
    rw [mx_put_at, mx_put_at]
  · rw [mx_put_ne hj, mx_put_ne hj, mx_put_ne hj]
theorem mx_pc (F : mx_F) {j k : Nat} (a b : mx_E) (h : j ≠ k) : mx_put (mx_put F k a) j b = mx_put (mx_put F j b) k a := by
  funext i
  by_cases hj : i = j
  · subst hj
    rw [mx_put_at, mx_put_ne h, mx_put_at]
  · by_cases hk : i = k
    · subst hk
      rw [mx_put_ne hj, mx_put_at, mx_put_at]
    · rw [mx_put_ne hj, mx_put_ne hk, mx_put_ne hk, mx_put_ne hj]
def mx_P (D : va_G) (tc : Nat → ClassId) (ad tb : Nat → Nat) (F : mx_F) (H : Heap) : Prop := ∀ (k : Nat) (e : mx_E), F k = some e → va_at D vwCl (ad k, mx_e tc ad tb e) H
def mx_D (A : Nat → Prop) (ad : Nat → Nat) (F : mx_F) : Prop := (∀ (j k : Nat) (x y : mx_E), F j = some x → F k = some y → ad j = ad k → j = k) ∧ ∀ (k : Nat) (x : mx_E), F k = some x → A (ad k)
def mx_A (ad : Nat → Nat) (F : mx_F) (sz : Nat) : Nat → Prop := fun q => (∃ (k : Nat) (x : mx_E), F k = some x ∧ ad k = q) ∨ sz ≤ q
/-- the places of G are places of F -/
def mx_in (G F : mx_F) : Prop := ∀ (k : Nat) (x : mx_E), G k = some x → ∃ y, F k = some y
theorem mx_in_rf (F : mx_F) : mx_in F F := fun _ x h => ⟨x, h⟩
theorem mx_in_tr {F G I : mx_F} (h1 : mx_in F G) (h2 : mx_in G I) : mx_in F I := fun k x h => by
  obtain ⟨y, hy⟩ := h1 k x h
  exact h2 k y hy
theorem mx_in_put (F : mx_F) (k : Nat) (e : mx_E) : mx_in F (mx_put F k e) := fun j x h => by
  by_cases hj : j = k
  · subst hj
    exact ⟨e, mx_put_at _ _ _⟩
  · exact ⟨x, by rw [mx_put_ne hj]; exact h⟩
theorem mx_P.set {D : va_G} {tc : Nat → ClassId} {ad tb : Nat → Nat} {A : Nat → Prop} {F : mx_F} {H H1 : Heap} {k : Nat} {e0 e : mx_E} (h : mx_P D tc ad tb F H) (hD : mx_D A ad F) (hk : F k = some e0) (he : va_at D vwCl (ad k, mx_e tc ad tb e) H1) (oq : ∀ q : Nat, q ≠ ad k → H1[q]? = H[q]?) : mx_P D tc ad tb (mx_put F k e) H1 := by
  intro j x hx
  rcases mx_put_or hx with ⟨rfl, rfl⟩ | ⟨hj, hx⟩
  · exact he
  · exact (h j x hx).kept (oq _ (fun q => hj (hD.1 j k x e0 hx hk q)))
theorem mx_D.set {A : Nat → Prop} {ad : Nat → Nat} {F : mx_F} {k : Nat} {e0 e : mx_E} (hD : mx_D A ad F) (hk : F k = some e0) : mx_D A ad (mx_put F k e) := by
  have old : ∀ (j : Nat) (x : mx_E), mx_put F k e j = some x → ∃ y, F j = some y := by
    intro j x hx
    rcases mx_put_or hx with ⟨rfl, rfl⟩ | ⟨_, hx⟩
    · exact ⟨_, hk⟩
    · exact ⟨_, hx⟩
  refine ⟨fun i j x y hx hy h => ?_, fun j x hx => ?_⟩
  · obtain ⟨x', hx'⟩ := old i x hx
    obtain ⟨y', hy'⟩ := old j y hy
    exact hD.1 i j x' y' hx' hy' h
  · obtain ⟨x', hx'⟩ := old j x hx
    exact hD.2 j x' hx'
-- locals
def mx_ls (ad tb : Nat → Nat) (lv : mx_L) : List (Nat × Value) := (List.range lv.length).filterMap (fun i => match lv[i]? with
  | some (some v) => some (i, mx_v ad tb v)
  | _ => none)
theorem mx_ls_mem {ad tb : Nat → Nat} {lv : mx_L} {q : Nat × Value} : q ∈ mx_ls ad tb lv ↔ ∃ v, lv[q.1]? = some (some v) ∧ q.2 = mx_v ad tb v := by
  unfold mx_ls
  rw [List.mem_filterMap]
  constructor
  · rintro ⟨i, -, hi⟩
    split at hi
    · rename_i v hv
      cases hi
      exact ⟨v, hv, rfl⟩
    · cases hi
  · rintro ⟨v, hv, h2⟩
    refine ⟨q.1, List.mem_range.mpr (List.getElem?_eq_some_iff.mp hv).1, ?_⟩
    rw [hv]
    show some (q.1, mx_v ad tb v) = some q
    rw [← h2]
def mx_H (ad tb : Nat → Nat) (ls : Array Slot) (nL : Nat) (lv : mx_L) : Prop := lv.length = nL ∧ lv_has ls nL (mx_ls ad tb lv)
theorem mx_H.at {ad tb : Nat → Nat} {ls : Array Slot} {nL : Nat} {lv : mx_L} (h : mx_H ad tb ls nL lv) {i : Nat} {v : mx_V} (hv : lv[i]? = some (some v)) : ls[i]? = some (.val (mx_v ad tb v)) := h.2.2.2 (i, mx_v ad tb v) (mx_ls_mem.mpr ⟨v, hv, rfl⟩)
def mx_kp (lv : mx_L) : Nat → mx_L
  | 0 => lv
  | j + 1 => match lv[j]? with
    | some (some (.inr (.inl _))) => lv.set j none
    | _ => lv
def mx_st1 (lv : mx_L) (i : Nat) (v : mx_V) : mx_L := (mx_kp lv i).set i (some v)
def mx_st2 (lv : mx_L) (i : Nat) (v : mx_V) : mx_L := ((mx_kp lv i).set i (some v)).set (i + 1) none
theorem mx_kp_len (lv : mx_L) (i : Nat) : (mx_kp lv i).length = lv.length := by
  cases i with
  | zero => rfl
  | succ j =>
    simp only [mx_kp]
    split
    · rw [List.length_set]
    · rfl
theorem mx_kp_at {lv : mx_L} {i j : Nat} {w : mx_V} (h : (mx_kp lv i)[j]? = some (some w)) : lv[j]? = some (some w) ∧ ¬ (j + 1 = i ∧ mx_cat w = 2) := by
  cases i with
  | zero => exact ⟨h, fun q => by omega⟩
  | succ k =>
    simp only [mx_kp] at h
    split at h
    · rw [List.getElem?_set] at h
      split at h
      · split at h
        · cases h
        · cases h
      · rename_i hne
        exact ⟨h, fun q => hne (by omega)⟩
    · rename_i hno
      refine ⟨h, fun q => ?_⟩
      obtain ⟨q1, q2⟩ := q
      have hjk : j = k := by omega
      subst hjk
      rcases w with x | x | x | x
      · cases q2
      · exact hno x h
      · cases q2
      · cases q2
theorem mx_H.st1 {ad tb : Nat → Nat} {ls' : Array Slot} {nL : Nat} {lv : mx_L} {i : Nat} {v : mx_V} (hn : lv.length = nL) (h : lv_has ls' nL ((i, mx_v ad tb v) :: (mx_ls ad tb lv).filter (fun q => !(q.1 == i) && !(q.1 + 1 == i && q.2.category == 2)))) : mx_H ad tb ls' nL (mx_st1 lv i v) := by
  refine ⟨by rw [mx_st1, List.length_set, mx_kp_len, hn], h.1, h.2.1, fun q hq => h.2.2 q ?_⟩
  obtain ⟨w, h1, h2⟩ := mx_ls_mem.mp hq
  obtain ⟨j, x⟩ := q
  dsimp only at h1 h2
  rw [mx_st1, List.getElem?_set] at h1
  split at h1
  · rename_i hij
    subst hij
    split at h1
    · cases h1
      rw [h2]
      exact List.mem_cons_self
    · cases h1
  · rename_i hij
    obtain ⟨g1, g2⟩ := mx_kp_at h1
    refine List.mem_cons_of_mem _ (List.mem_filter.mpr ⟨mx_ls_mem.mpr ⟨w, g1, h2⟩, ?_⟩)
    dsimp only
    rw [h2, mx_cat_v]
    have e1 : (j == i) = false := by simp; omega
    rw [e1]
    by_cases e2 : j + 1 = i
    · have e3 : mx_cat w ≠ 2 := fun z => g2 ⟨e2, z⟩
      simp [e3]
    · simp [e2]
theorem mx_H.st2 {ad tb : Nat → Nat} {ls' : Array Slot} {nL : Nat} {lv : mx_L} {i : Nat} {v : mx_V} (hn : lv.length = nL) (h : lv_has ls' nL ((i, mx_v ad tb v) :: (mx_ls ad tb lv).filter (fun q => !(q.1 == i) && (!(q.1 == i + 1) && !(q.1 + 1 == i && q.2.category == 2))))) : mx_H ad tb ls' nL (mx_st2 lv i v) := by
  refine ⟨by rw [mx_st2, List.length_set, List.length_set, mx_kp_len, hn], h.1, h.2.1, fun q hq => h.2.2 q ?_⟩
  obtain ⟨w, h1, h2⟩ := mx_ls_mem.mp hq
  obtain ⟨j, x⟩ := q
  dsimp only at h1 h2
  rw [mx_st2, List.getElem?_set] at h1
  split at h1
  · split at h1
    · cases h1
    · cases h1
  rename_i hij1
  rw [List.getElem?_set] at h1
  split at h1
  · rename_i hij
    subst hij
    split at h1
    · cases h1
      rw [h2]
      exact List.mem_cons_self
    · cases h1
  · rename_i hij
    obtain ⟨g1, g2⟩ := mx_kp_at h1
    refine List.mem_cons_of_mem _ (List.mem_filter.mpr ⟨mx_ls_mem.mpr ⟨w, g1, h2⟩, ?_⟩)
    dsimp only
    rw [h2, mx_cat_v]
    have e1 : (j == i) = false := by simp; omega
    have e4 : (j == i + 1) = false := by simp; omega
    rw [e1, e4]
    by_cases e2 : j + 1 = i
    · have e3 : mx_cat w ≠ 2 := fun z => g2 ⟨e2, z⟩
      simp [e3]
    · simp [e2]
-- statics: fields that hold tables, and the tables
/-- the class of arrays of longs is the component of that of arrays of them -/
def mx_J (U : State) : Prop := ∃ (cQ cJ : ClassId) (kQ : Class), U.vm.findClass "[[J" = some cQ ∧ U.vm.findClass "[J" = some cJ ∧ U.vm.classes[cQ]? = some kQ ∧ kQ.kind = .array cJ (.array .long)
theorem mx_J.moved {u U : State} (hvm : u.vm.Alike U.vm) (h : mx_J u) : mx_J U := by
  obtain ⟨cQ, cJ, kQ, h1, h2, h3, h4⟩ := h
  obtain ⟨k', hk', he⟩ := hvm.2.2 _ _ h3
  exact ⟨cQ, cJ, k', by rw [hvm.findClass]; exact h1, by rw [hvm.findClass]; exact h2, hk', by rw [he]; exact h4⟩
def mx_Z (tb : Nat → Nat) (A : Nat → Prop) (U : State) (H : Heap) : Prop := (∀ z ∈ mx_zs, va_Z z.1 z.2.1 z.2.2.1 (.ref (tb z.2.2.2)) A U H) ∧ (∀ (t n : Nat) (f : Nat → Int32), mx_tt t = some (n, f) → va_T .int (tb t) n (fun j => .int (f j)) A U H) ∧ (∀ w ∈ mx_nw, va_Nw w U) ∧ mx_J U
theorem mx_Z.to {tb : Nat → Nat} {A B : Nat → Prop} {u U : State} {H H1 : Heap} (h : mx_Z tb A u H) (hvm : u.vm.Alike U.vm) (hN : ∀ w ∈ mx_nw, va_Nw w u → va_Nw w U) (hq : ∀ a : Nat, a < H.size → ¬ A a → H1[a]? = H[a]?) (hAB : ∀ q, B q → A q) : mx_Z tb B U H1 :=
  ⟨fun z hz => (((h.1 z hz).moved hvm).kept hq).narrow hAB, fun t n f ht => (((h.2.1 t n f ht).moved hvm).kept hq).narrow hAB, fun w hw => hN w hw (h.2.2.1 w hw), h.2.2.2.moved hvm⟩
theorem mx_nw_warm {s U : State} (hW : s.WarmedH U.vm) : ∀ w ∈ mx_nw, va_Nw w s → va_Nw w U := by
  intro w hw h
  simp only [mx_nw, List.mem_cons, List.not_mem_nil, or_false] at hw
  rcases hw with rfl | rfl
  · exact va_Nw.warmM hW h
  · exact va_Nw.warmM hW h
theorem mx_nw_same {u U : State} (hv : u.vm = U.vm) : ∀ w ∈ mx_nw, va_Nw w u → va_Nw w U := by
  intro w hw h
  simp only [mx_nw, List.mem_cons, List.not_mem_nil, or_false] at hw
  rcases hw with rfl | rfl
  · exact va_Nw.same rfl hv h
  · exact va_Nw.same rfl hv h
/-- the machine at a place: from every heap that holds the world it comes to Q -/
def mx_W (p : Program) (l : Launch) (e : Env) (R : Room) (s : State) (m : MethodId) (args : Array Value) (below : List Frame) (meth : Method) (c : Code) (Q : State → Prop) (D : va_G) (tc : Nat → ClassId) (tb : Nat → Nat) (A : Nat → Prop) (nL : Nat) (Ok : (Nat → Nat) → mx_F → Prop) : mx_K := fun pc lv st F ca sl =>
  ∀ (ad : Nat → Nat) (H : Heap) (locs : List Loc) (ls : Array Slot), Ok ad F → mx_P D tc ad tb F H → mx_D A ad F → va_S A s.heap H locs → mx_H ad tb ls nL lv → W p l e R s m args below meth c H locs ca sl Q (F0 m pc ls (st.map (mx_v ad tb)))
/-- what stays through a method -/
def mx_C (p : Program) (s : State) (m : MethodId) (args : Array Value) (c : Code) (cc : ByteArray) (own : String) (Ts : List Cond) (D : va_G) (tc : Nat → ClassId) (tb : Nat → Nat) (A : Nat → Prop) (nL : Nat) (Ok : (Nat → Nat) → mx_F → Prop) : Prop :=
  p.tables.exec = Jvm.exec ∧ c.code = cc ∧ c.maxLocals = nL ∧ s.vm.findClass own = some m.cls ∧ (∀ w ∈ Ts, w.before args s = true) ∧ va_K D vwCl (mx_t tc mx_ft) s ∧ (∀ q : Nat, s.heap.size ≤ q → A q) ∧ mx_Z tb A s s.heap ∧ ∀ (ad : Nat → Nat) (F F' : mx_F), mx_in F F' → Ok ad F → Ok ad F'
/-- a step is sound at a place -/
def mx_So (K : mx_K) (pc : Nat) (o : mx_O) : Prop := ∀ (lv : mx_L) (st : mx_S) (F : mx_F) (ca sl : Nat), o lv st F ca sl K → K pc lv st F ca sl
def mx_all (K : mx_K) : List (Nat × mx_O) → Prop
  | [] => True
  | q :: r => mx_So K q.1 q.2 ∧ mx_all K r
def mx_at : List (Nat × mx_O) → Nat → Option mx_O
  | [], _ => none
  | q :: r, pc => bif Nat.beq q.1 pc then some q.2 else mx_at r pc
theorem mx_go {K : mx_K} : ∀ {t : List (Nat × mx_O)}, mx_all K t → ∀ {pc : Nat} {o : mx_O} {lv : mx_L} {st : mx_S} {F : mx_F} {ca sl : Nat}, mx_at t pc = some o → o lv st F ca sl K → K pc lv st F ca sl
  | [], _, _, _, _, _, _, _, _, h, _ => by cases h
  | q :: r, ha, pc, o, lv, st, F, ca, sl, h, ho => by
    unfold mx_at at h
    cases hb : Nat.beq q.1 pc with
    | true =>
      rw [hb] at h
      have e1 : q.1 = pc := Nat.eq_of_beq_eq_true hb
      cases h
      rw [← e1]
      exact ha.1 lv st F ca sl ho
    | false =>
      rw [hb] at h
      exact mx_go ha.2 h ho
-- the steps
def mx_push (v : mx_V) (nx : Nat) : mx_O := fun lv st F ca sl K => K nx lv (v :: st) F ca sl
def mx_iload (i nx : Nat) : mx_O := fun lv st F ca sl K => ∃ (x : Int32), lv[i]? = some (some (.inl x)) ∧ K nx lv (.inl x :: st) F ca sl
def mx_lload (i nx : Nat) : mx_O := fun lv st F ca sl K => ∃ (x : Int64), lv[i]? = some (some (.inr (.inl x))) ∧ K nx lv (.inr (.inl x) :: st) F ca sl
def mx_aload (i nx : Nat) : mx_O := fun lv st F ca sl K => ∃ (q : Nat), lv[i]? = some (some (.inr (.inr (.inl (some q))))) ∧ K nx lv (.inr (.inr (.inl (some q))) :: st) F ca sl
def mx_istore (i nx : Nat) : mx_O := fun lv st F ca sl K => ∃ (x : Int32) (r : mx_S), st = .inl x :: r ∧ K nx (mx_st1 lv i (.inl x)) r F ca sl
def mx_lstore (i nx : Nat) : mx_O := fun lv st F ca sl K => ∃ (x : Int64) (r : mx_S), st = .inr (.inl x) :: r ∧ K nx (mx_st2 lv i (.inr (.inl x))) r F ca sl
def mx_astore (i nx : Nat) : mx_O := fun lv st F ca sl K => ∃ (q : Nat) (r : mx_S), st = .inr (.inr (.inl (some q))) :: r ∧ K nx (mx_st1 lv i (.inr (.inr (.inl (some q))))) r F ca sl
def mx_iinc (i : Nat) (k : Int32) (nx : Nat) : mx_O := fun lv st F ca sl K => ∃ (x : Int32), lv[i]? = some (some (.inl x)) ∧ K nx (mx_st1 lv i (.inl (x + k))) st F ca sl
def mx_goto (nx : Nat) : mx_O := fun lv st F ca sl K => K nx lv st F ca sl
def mx_dup (nx : Nat) : mx_O := fun lv st F ca sl K => ∃ (v : mx_V) (r : mx_S), st = v :: r ∧ mx_cat v = 1 ∧ K nx lv (v :: v :: r) F ca sl
def mx_dup2 (nx : Nat) : mx_O := fun lv st F ca sl K => ∃ (v w : mx_V) (r : mx_S), st = v :: w :: r ∧ mx_cat v = 1 ∧ mx_cat w = 1 ∧ K nx lv (v :: w :: v :: w :: r) F ca sl
def mx_pop (nx : Nat) : mx_O := fun lv st F ca sl K => ∃ (v : mx_V) (r : mx_S), st = v :: r ∧ mx_cat v = 1 ∧ K nx lv r F ca sl
def mx_dup_x1 (nx : Nat) : mx_O := fun lv st F ca sl K => ∃ (v w : mx_V) (r : mx_S), st = v :: w :: r ∧ mx_cat v = 1 ∧ mx_cat w = 1 ∧ K nx lv (v :: w :: v :: r) F ca sl
def mx_dup_x2 (nx : Nat) : mx_O := fun lv st F ca sl K => ∃ (v w u : mx_V) (r : mx_S), st = v :: w :: u :: r ∧ mx_cat v = 1 ∧ mx_cat w = 1 ∧ mx_cat u = 1 ∧ K nx lv (v :: w :: u :: v :: r) F ca sl
def mx_i2l (nx : Nat) : mx_O := fun lv st F ca sl K => ∃ (x : Int32) (r : mx_S), st = .inl x :: r ∧ K nx lv (.inr (.inl x.toInt64) :: r) F ca sl
def mx_l2i (nx : Nat) : mx_O := fun lv st F ca sl K => ∃ (x : Int64) (r : mx_S), st = .inr (.inl x) :: r ∧ K nx lv (.inl x.toInt32 :: r) F ca sl
def mx_ineg (nx : Nat) : mx_O := fun lv st F ca sl K => ∃ (x : Int32) (r : mx_S), st = .inl x :: r ∧ K nx lv (.inl (-x) :: r) F ca sl
def mx_lcmp (nx : Nat) : mx_O := fun lv st F ca sl K => ∃ (x y : Int64) (r : mx_S), st = .inr (.inl y) :: .inr (.inl x) :: r ∧ K nx lv (.inl (lg_cmp x y) :: r) F ca sl
def mx_get (ci k nx : Nat) : mx_O := fun lv st F ca sl K => ∃ (q : Nat) (r : mx_S) (fs : List mx_V) (v : mx_V), st = .inr (.inr (.inl (some q))) :: r ∧ F q = some (.inr (.inr (.inr (ci, fs)))) ∧ fs[k]? = some v ∧ K nx lv (v :: r) F ca sl
def mx_puti (ci k nx : Nat) : mx_O := fun lv st F ca sl K => ∃ (x : Int32) (q : Nat) (r : mx_S) (fs : List mx_V), st = .inl x :: .inr (.inr (.inl (some q))) :: r ∧ F q = some (.inr (.inr (.inr (ci, fs)))) ∧ k < fs.length ∧ K nx lv r (mx_put F q (.inr (.inr (.inr (ci, fs.set k (.inl x)))))) ca sl
def mx_putl (ci k nx : Nat) : mx_O := fun lv st F ca sl K => ∃ (x : Int64) (q : Nat) (r : mx_S) (fs : List mx_V), st = .inr (.inl x) :: .inr (.inr (.inl (some q))) :: r ∧ F q = some (.inr (.inr (.inr (ci, fs)))) ∧ k < fs.length ∧ K nx lv r (mx_put F q (.inr (.inr (.inr (ci, fs.set k (.inr (.inl x))))))) ca sl
def mx_gets (t nx : Nat) : mx_O := fun lv st F ca sl K => K nx lv (.inr (.inr (.inr t)) :: st) F ca sl
def mx_iald (nx : Nat) : mx_O := fun lv st F ca sl K => ∃ (i : Int32) (q : Nat) (r : mx_S) (n : Nat) (f : Nat → Int32), st = .inl i :: .inr (.inr (.inl (some q))) :: r ∧ F q = some (.inl (0, n, f)) ∧ vp_in i n ∧ K nx lv (.inl (f i.toNatClampNeg) :: r) F ca sl
def mx_tald (nx : Nat) : mx_O := fun lv st F ca sl K => ∃ (i : Int32) (t : Nat) (r : mx_S) (n : Nat) (f : Nat → Int32), st = .inl i :: .inr (.inr (.inr t)) :: r ∧ mx_tt t = some (n, f) ∧ vp_in i n ∧ K nx lv (.inl (f i.toNatClampNeg) :: r) F ca sl
def mx_lald (nx : Nat) : mx_O := fun lv st F ca sl K => ∃ (i : Int32) (q : Nat) (r : mx_S) (n : Nat) (f : Nat → Int64), st = .inl i :: .inr (.inr (.inl (some q))) :: r ∧ F q = some (.inr (.inl (1, n, f))) ∧ vp_in i n ∧ K nx lv (.inr (.inl (f i.toNatClampNeg)) :: r) F ca sl
def mx_aald (nx : Nat) : mx_O := fun lv st F ca sl K => ∃ (i : Int32) (q : Nat) (r : mx_S) (t n : Nat) (f : Nat → Option Nat) (u : Nat), st = .inl i :: .inr (.inr (.inl (some q))) :: r ∧ F q = some (.inr (.inr (.inl (t, n, f)))) ∧ (∃ ty, mx_ft[t]? = some ty ∧ ty.isReference = true) ∧ vp_in i n ∧ f i.toNatClampNeg = some u ∧ K nx lv (.inr (.inr (.inl (some u))) :: r) F ca sl
def mx_iast (nx : Nat) : mx_O := fun lv st F ca sl K => ∃ (x i : Int32) (q : Nat) (r : mx_S) (n : Nat) (f : Nat → Int32), st = .inl x :: .inl i :: .inr (.inr (.inl (some q))) :: r ∧ F q = some (.inl (0, n, f)) ∧ vp_in i n ∧ K nx lv r (mx_put F q (.inl (0, n, upd f i.toNatClampNeg x))) ca sl
def mx_last (nx : Nat) : mx_O := fun lv st F ca sl K => ∃ (x : Int64) (i : Int32) (q : Nat) (r : mx_S) (n : Nat) (f : Nat → Int64), st = .inr (.inl x) :: .inl i :: .inr (.inr (.inl (some q))) :: r ∧ F q = some (.inr (.inl (1, n, f))) ∧ vp_in i n ∧ K nx lv r (mx_put F q (.inr (.inl (1, n, vp_updL f i.toNatClampNeg x)))) ca sl
def mx_alen (nx : Nat) : mx_O := fun lv st F ca sl K => ∃ (q : Nat) (r : mx_S) (n : Nat) (f : Nat → Int32), st = .inr (.inr (.inl (some q))) :: r ∧ F q = some (.inl (0, n, f)) ∧ K nx lv (.inl (nI n) :: r) F ca sl
def mx_iadd (nx : Nat) : mx_O := fun lv st F ca sl K => ∃ (x y : Int32) (r : mx_S), st = .inl y :: .inl x :: r ∧ K nx lv (.inl (x + y) :: r) F ca sl
def mx_isub (nx : Nat) : mx_O := fun lv st F ca sl K => ∃ (x y : Int32) (r : mx_S), st = .inl y :: .inl x :: r ∧ K nx lv (.inl (x - y) :: r) F ca sl
def mx_imul (nx : Nat) : mx_O := fun lv st F ca sl K => ∃ (x y : Int32) (r : mx_S), st = .inl y :: .inl x :: r ∧ K nx lv (.inl (x * y) :: r) F ca sl
def mx_iand (nx : Nat) : mx_O := fun lv st F ca sl K => ∃ (x y : Int32) (r : mx_S), st = .inl y :: .inl x :: r ∧ K nx lv (.inl (x &&& y) :: r) F ca sl
def mx_ior (nx : Nat) : mx_O := fun lv st F ca sl K => ∃ (x y : Int32) (r : mx_S), st = .inl y :: .inl x :: r ∧ K nx lv (.inl (x ||| y) :: r) F ca sl
def mx_ixor (nx : Nat) : mx_O := fun lv st F ca sl K => ∃ (x y : Int32) (r : mx_S), st = .inl y :: .inl x :: r ∧ K nx lv (.inl (x ^^^ y) :: r) F ca sl
def mx_ishl (nx : Nat) : mx_O := fun lv st F ca sl K => ∃ (x y : Int32) (r : mx_S), st = .inl y :: .inl x :: r ∧ K nx lv (.inl (x <<< (y &&& 31)) :: r) F ca sl
def mx_ishr (nx : Nat) : mx_O := fun lv st F ca sl K => ∃ (x y : Int32) (r : mx_S), st = .inl y :: .inl x :: r ∧ K nx lv (.inl (x >>> (y &&& 31)) :: r) F ca sl
def mx_iushr (nx : Nat) : mx_O := fun lv st F ca sl K => ∃ (x y : Int32) (r : mx_S), st = .inl y :: .inl x :: r ∧ K nx lv (.inl ((x.toUInt32 >>> (y.toUInt32 &&& Int32.toUInt32 31)).toInt32) :: r) F ca sl
def mx_ladd (nx : Nat) : mx_O := fun lv st F ca sl K => ∃ (x y : Int64) (r : mx_S), st = .inr (.inl y) :: .inr (.inl x) :: r ∧ K nx lv (.inr (.inl (x + y)) :: r) F ca sl
def mx_lsub (nx : Nat) : mx_O := fun lv st F ca sl K => ∃ (x y : Int64) (r : mx_S), st = .inr (.inl y) :: .inr (.inl x) :: r ∧ K nx lv (.inr (.inl (x - y)) :: r) F ca sl
def mx_lmul (nx : Nat) : mx_O := fun lv st F ca sl K => ∃ (x y : Int64) (r : mx_S), st = .inr (.inl y) :: .inr (.inl x) :: r ∧ K nx lv (.inr (.inl (x * y)) :: r) F ca sl
def mx_land (nx : Nat) : mx_O := fun lv st F ca sl K => ∃ (x y : Int64) (r : mx_S), st = .inr (.inl y) :: .inr (.inl x) :: r ∧ K nx lv (.inr (.inl (x &&& y)) :: r) F ca sl
def mx_lor (nx : Nat) : mx_O := fun lv st F ca sl K => ∃ (x y : Int64) (r : mx_S), st = .inr (.inl y) :: .inr (.inl x) :: r ∧ K nx lv (.inr (.inl (x ||| y)) :: r) F ca sl
def mx_lxor (nx : Nat) : mx_O := fun lv st F ca sl K => ∃ (x y : Int64) (r : mx_S), st = .inr (.inl y) :: .inr (.inl x) :: r ∧ K nx lv (.inr (.inl (x ^^^ y)) :: r) F ca sl
def mx_lshl (nx : Nat) : mx_O := fun lv st F ca sl K => ∃ (x : Int64) (y : Int32) (r : mx_S), st = .inl y :: .inr (.inl x) :: r ∧ K nx lv (.inr (.inl (x <<< (y.toInt64 &&& 63))) :: r) F ca sl
def mx_lshr (nx : Nat) : mx_O := fun lv st F ca sl K => ∃ (x : Int64) (y : Int32) (r : mx_S), st = .inl y :: .inr (.inl x) :: r ∧ K nx lv (.inr (.inl (x >>> (y.toInt64 &&& 63))) :: r) F ca sl
def mx_lushr (nx : Nat) : mx_O := fun lv st F ca sl K => ∃ (x : Int64) (y : Int32) (r : mx_S), st = .inl y :: .inr (.inl x) :: r ∧ K nx lv (.inr (.inl ((x.toUInt64 >>> (y.toInt64.toUInt64 &&& Int64.toUInt64 63)).toInt64)) :: r) F ca sl
def mx_idiv (nx : Nat) : mx_O := fun lv st F ca sl K => ∃ (x y : Int32) (r : mx_S), st = .inl y :: .inl x :: r ∧ ¬ y = 0 ∧ K nx lv (.inl (x / y) :: r) F ca sl
def mx_irem (nx : Nat) : mx_O := fun lv st F ca sl K => ∃ (x y : Int32) (r : mx_S), st = .inl y :: .inl x :: r ∧ ¬ y = 0 ∧ K nx lv (.inl (x - x / y * y) :: r) F ca sl
def mx_ldiv (nx : Nat) : mx_O := fun lv st F ca sl K => ∃ (x y : Int64) (r : mx_S), st = .inr (.inl y) :: .inr (.inl x) :: r ∧ ¬ y = 0 ∧ K nx lv (.inr (.inl (x / y)) :: r) F ca sl
def mx_lrem (nx : Nat) : mx_O := fun lv st F ca sl K => ∃ (x y : Int64) (r : mx_S), st = .inr (.inl y) :: .inr (.inl x) :: r ∧ ¬ y = 0 ∧ K nx lv (.inr (.inl (x - x / y * y)) :: r) F ca sl
def mx_if_eq (tg nx : Nat) : mx_O := fun lv st F ca sl K => ∃ (x : Int32) (r : mx_S), st = .inl x :: r ∧ (x = 0 → K tg lv r F ca sl) ∧ (¬ x = 0 → K nx lv r F ca sl)
def mx_if_ne (tg nx : Nat) : mx_O := fun lv st F ca sl K => ∃ (x : Int32) (r : mx_S), st = .inl x :: r ∧ (¬ x = 0 → K tg lv r F ca sl) ∧ (x = 0 → K nx lv r F ca sl)
def mx_if_lt (tg nx : Nat) : mx_O := fun lv st F ca sl K => ∃ (x : Int32) (r : mx_S), st = .inl x :: r ∧ (x < 0 → K tg lv r F ca sl) ∧ (¬ x < 0 → K nx lv r F ca sl)
def mx_if_ge (tg nx : Nat) : mx_O := fun lv st F ca sl K => ∃ (x : Int32) (r : mx_S), st = .inl x :: r ∧ (0 ≤ x → K tg lv r F ca sl) ∧ (¬ 0 ≤ x → K nx lv r F ca sl)
def mx_if_gt (tg nx : Nat) : mx_O := fun lv st F ca sl K => ∃ (x : Int32) (r : mx_S), st = .inl x :: r ∧ (0 < x → K tg lv r F ca sl) ∧ (¬ 0 < x → K nx lv r F ca sl)
def mx_if_le (tg nx : Nat) : mx_O := fun lv st F ca sl K => ∃ (x : Int32) (r : mx_S), st = .inl x :: r ∧ (x ≤ 0 → K tg lv r F ca sl) ∧ (¬ x ≤ 0 → K nx lv r F ca sl)
def mx_ic_eq (tg nx : Nat) : mx_O := fun lv st F ca sl K => ∃ (x y : Int32) (r : mx_S), st = .inl y :: .inl x :: r ∧ (x = y → K tg lv r F ca sl) ∧ (¬ x = y → K nx lv r F ca sl)
def mx_ic_ne (tg nx : Nat) : mx_O := fun lv st F ca sl K => ∃ (x y : Int32) (r : mx_S), st = .inl y :: .inl x :: r ∧ (¬ x = y → K tg lv r F ca sl) ∧ (x = y → K nx lv r F ca sl)
def mx_ic_lt (tg nx : Nat) : mx_O := fun lv st F ca sl K => ∃ (x y : Int32) (r : mx_S), st = .inl y :: .inl x :: r ∧ (x < y → K tg lv r F ca sl) ∧ (¬ x < y → K nx lv r F ca sl)
def mx_ic_ge (tg nx : Nat) : mx_O := fun lv st F ca sl K => ∃ (x y : Int32) (r : mx_S), st = .inl y :: .inl x :: r ∧ (y ≤ x → K tg lv r F ca sl) ∧ (¬ y ≤ x → K nx lv r F ca sl)
def mx_ic_gt (tg nx : Nat) : mx_O := fun lv st F ca sl K => ∃ (x y : Int32) (r : mx_S), st = .inl y :: .inl x :: r ∧ (y < x → K tg lv r F ca sl) ∧ (¬ y < x → K nx lv r F ca sl)
def mx_ic_le (tg nx : Nat) : mx_O := fun lv st F ca sl K => ∃ (x y : Int32) (r : mx_S), st = .inl y :: .inl x :: r ∧ (x ≤ y → K tg lv r F ca sl) ∧ (¬ x ≤ y → K nx lv r F ca sl)
-- returns: what is asked of the answer
def mx_ret (P : Option mx_V → mx_F → Prop) : mx_O := fun _ st F ca sl _ => st = [] ∧ ca = 0 ∧ sl = 0 ∧ P none F
def mx_iret (P : Option mx_V → mx_F → Prop) : mx_O := fun _ st F ca sl _ => ∃ (x : Int32), st = [.inl x] ∧ ca = 0 ∧ sl = 0 ∧ P (some (.inl x)) F
def mx_zret (P : Option mx_V → mx_F → Prop) : mx_O := fun _ st F ca sl _ => ∃ (x : Int32), st = [.inl x] ∧ ca = 0 ∧ sl = 0 ∧ (x = 0 ∨ x = 1) ∧ P (some (.inl x)) F
def mx_lret (P : Option mx_V → mx_F → Prop) : mx_O := fun _ st F ca sl _ => ∃ (x : Int64), st = [.inr (.inl x)] ∧ ca = 0 ∧ sl = 0 ∧ P (some (.inr (.inl x))) F
-- calls that make no cell
def mx_k (nx : Nat) (lv : mx_L) (r : mx_S) (ca sl : Nat) (K : mx_K) : Option mx_V → mx_F → Prop := fun v F' => match v with
  | some x => K nx lv (x :: r) F' ca sl
  | none => K nx lv r F' ca sl
def mx_cv0 (ci : Nat) (sp : mx_Sp) (mc ms nx : Nat) : mx_O := fun lv st F ca sl K => ∃ (q : Nat) (r : mx_S) (fs : List mx_V), st = mx_r q :: r ∧ F q = some (.inr (.inr (.inr (ci, fs)))) ∧ Nat.ble (mx_cs r) 8 = true ∧ Nat.ble ca mc = true ∧ Nat.ble sl ms = true ∧ sp [mx_r q] F (mx_k nx lv r ca sl K)
def mx_cv1 (ci : Nat) (sp : mx_Sp) (mc ms nx : Nat) : mx_O := fun lv st F ca sl K => ∃ (q : Nat) (a1 : mx_V) (r : mx_S) (fs : List mx_V), st = a1 :: mx_r q :: r ∧ F q = some (.inr (.inr (.inr (ci, fs)))) ∧ Nat.ble (mx_cs r) 8 = true ∧ Nat.ble ca mc = true ∧ Nat.ble sl ms = true ∧ sp [mx_r q, a1] F (mx_k nx lv r ca sl K)
def mx_cv2 (ci : Nat) (sp : mx_Sp) (mc ms nx : Nat) : mx_O := fun lv st F ca sl K => ∃ (q : Nat) (a1 a2 : mx_V) (r : mx_S) (fs : List mx_V), st = a2 :: a1 :: mx_r q :: r ∧ F q = some (.inr (.inr (.inr (ci, fs)))) ∧ Nat.ble (mx_cs r) 8 = true ∧ Nat.ble ca mc = true ∧ Nat.ble sl ms = true ∧ sp [mx_r q, a1, a2] F (mx_k nx lv r ca sl K)
def mx_cv3 (ci : Nat) (sp : mx_Sp) (mc ms nx : Nat) : mx_O := fun lv st F ca sl K => ∃ (q : Nat) (a1 a2 a3 : mx_V) (r : mx_S) (fs : List mx_V), st = a3 :: a2 :: a1 :: mx_r q :: r ∧ F q = some (.inr (.inr (.inr (ci, fs)))) ∧ Nat.ble (mx_cs r) 8 = true ∧ Nat.ble ca mc = true ∧ Nat.ble sl ms = true ∧ sp [mx_r q, a1, a2, a3] F (mx_k nx lv r ca sl K)
def mx_cv4 (ci : Nat) (sp : mx_Sp) (mc ms nx : Nat) : mx_O := fun lv st F ca sl K => ∃ (q : Nat) (a1 a2 a3 a4 : mx_V) (r : mx_S) (fs : List mx_V), st = a4 :: a3 :: a2 :: a1 :: mx_r q :: r ∧ F q = some (.inr (.inr (.inr (ci, fs)))) ∧ Nat.ble (mx_cs r) 8 = true ∧ Nat.ble ca mc = true ∧ Nat.ble sl ms = true ∧ sp [mx_r q, a1, a2, a3, a4] F (mx_k nx lv r ca sl K)
def mx_cv5 (ci : Nat) (sp : mx_Sp) (mc ms nx : Nat) : mx_O := fun lv st F ca sl K => ∃ (q : Nat) (a1 a2 a3 a4 a5 : mx_V) (r : mx_S) (fs : List mx_V), st = a5 :: a4 :: a3 :: a2 :: a1 :: mx_r q :: r ∧ F q = some (.inr (.inr (.inr (ci, fs)))) ∧ Nat.ble (mx_cs r) 8 = true ∧ Nat.ble ca mc = true ∧ Nat.ble sl ms = true ∧ sp [mx_r q, a1, a2, a3, a4, a5] F (mx_k nx lv r ca sl K)
def mx_cs1 (sp : mx_Sp) (mc ms nx : Nat) : mx_O := fun lv st F ca sl K => ∃ (a0 : mx_V) (r : mx_S), st = a0 :: r ∧ Nat.ble (mx_cs r) 8 = true ∧ Nat.ble ca mc = true ∧ Nat.ble sl ms = true ∧ sp [a0] F (mx_k nx lv r ca sl K)
def mx_cs2 (sp : mx_Sp) (mc ms nx : Nat) : mx_O := fun lv st F ca sl K => ∃ (a0 a1 : mx_V) (r : mx_S), st = a1 :: a0 :: r ∧ Nat.ble (mx_cs r) 8 = true ∧ Nat.ble ca mc = true ∧ Nat.ble sl ms = true ∧ sp [a0, a1] F (mx_k nx lv r ca sl K)
def mx_cs3 (sp : mx_Sp) (mc ms nx : Nat) : mx_O := fun lv st F ca sl K => ∃ (a0 a1 a2 : mx_V) (r : mx_S), st = a2 :: a1 :: a0 :: r ∧ Nat.ble (mx_cs r) 8 = true ∧ Nat.ble ca mc = true ∧ Nat.ble sl ms = true ∧ sp [a0, a1, a2] F (mx_k nx lv r ca sl K)
def mx_cs4 (sp : mx_Sp) (mc ms nx : Nat) : mx_O := fun lv st F ca sl K => ∃ (a0 a1 a2 a3 : mx_V) (r : mx_S), st = a3 :: a2 :: a1 :: a0 :: r ∧ Nat.ble (mx_cs r) 8 = true ∧ Nat.ble ca mc = true ∧ Nat.ble sl ms = true ∧ sp [a0, a1, a2, a3] F (mx_k nx lv r ca sl K)
section MXS
variable {p : Program} {l : Launch} {e : Env} {R : Room} {s : State} {m : MethodId} {args : Array Value} {below : List Frame} {meth : Method} {c : Code} {Q : State → Prop} {cc : ByteArray} {own : String} {Ts : List Cond} {D : va_G} {tc : Nat → ClassId} {tb : Nat → Nat} {A : Nat → Prop} {nL : Nat} {Ok : (Nat → Nat) → mx_F → Prop} {pc : Nat}
theorem mx_s_iconst (C : mx_C p s m args c cc own Ts D tc tb A nL Ok) {n : Int} {x : Int32} (hd : decode cc pc = .ok (.iconst n, 1)) (hv : Int32.ofInt n = x) : mx_So (mx_W p l e R s m args below meth c Q D tc tb A nL Ok) pc (mx_push (.inl x) (pc + 1)) := by
  obtain ⟨hx, hb, hml, hown, hts, hK, hA, hZ, hOk⟩ := C
  intro lv st F ca sl h
  intro ad H locs ls h1 hP hD hS hl
  exact lv_iconst hx hb hd hv (h ad H locs ls h1 hP hD hS hl)
theorem mx_s_bipush (C : mx_C p s m args c cc own Ts D tc tb A nL Ok) {n : Int} {x : Int32} (hd : decode cc pc = .ok (.bipush n, 2)) (hv : (Int8.ofInt n).toInt32 = x) : mx_So (mx_W p l e R s m args below meth c Q D tc tb A nL Ok) pc (mx_push (.inl x) (pc + 2)) := by
  obtain ⟨hx, hb, hml, hown, hts, hK, hA, hZ, hOk⟩ := C
  intro lv st F ca sl h
  intro ad H locs ls h1 hP hD hS hl
  exact lv_bipush hx hb hd hv (h ad H locs ls h1 hP hD hS hl)
theorem mx_s_sipush (C : mx_C p s m args c cc own Ts D tc tb A nL Ok) {n : Int} {x : Int32} (hd : decode cc pc = .ok (.sipush n, 3)) (hv : (Int16.ofInt n).toInt32 = x) : mx_So (mx_W p l e R s m args below meth c Q D tc tb A nL Ok) pc (mx_push (.inl x) (pc + 3)) := by
  obtain ⟨hx, hb, hml, hown, hts, hK, hA, hZ, hOk⟩ := C
  intro lv st F ca sl h
  intro ad H locs ls h1 hP hD hS hl
  exact lv_sipush hx hb hd hv (h ad H locs ls h1 hP hD hS hl)
theorem mx_s_lconst (C : mx_C p s m args c cc own Ts D tc tb A nL Ok) {n : Fin 2} {x : Int64} (hd : decode cc pc = .ok (.lconst n, 1)) (hv : Int64.ofNat (n : Nat) = x) : mx_So (mx_W p l e R s m args below meth c Q D tc tb A nL Ok) pc (mx_push (.inr (.inl x)) (pc + 1)) := by
  obtain ⟨hx, hb, hml, hown, hts, hK, hA, hZ, hOk⟩ := C
  intro lv st F ca sl h
  intro ad H locs ls h1 hP hD hS hl
  exact lv_lconst hx hb hd hv (h ad H locs ls h1 hP hD hS hl)
theorem mx_s_ldc (C : mx_C p s m args c cc own Ts D tc tb A nL Ok) {i : Nat} {x : Int32} (hd : decode cc pc = .ok (.ldc i, 2)) (hw : Jvm.Cond.constant own i x ∈ Ts) : mx_So (mx_W p l e R s m args below meth c Q D tc tb A nL Ok) pc (mx_push (.inl x) (pc + 2)) := by
  obtain ⟨hx, hb, hml, hown, hts, hK, hA, hZ, hOk⟩ := C
  intro lv st F ca sl h
  intro ad H locs ls h1 hP hD hS hl
  exact lv_ldc hx hb hown (hts _ hw) hd (h ad H locs ls h1 hP hD hS hl)
theorem mx_s_ldc2 (C : mx_C p s m args c cc own Ts D tc tb A nL Ok) {i : Nat} {x : Int64} (hd : decode cc pc = .ok (.ldc2_w i, 3)) (hw : Jvm.Cond.constantLong own i x ∈ Ts) : mx_So (mx_W p l e R s m args below meth c Q D tc tb A nL Ok) pc (mx_push (.inr (.inl x)) (pc + 3)) := by
  obtain ⟨hx, hb, hml, hown, hts, hK, hA, hZ, hOk⟩ := C
  intro lv st F ca sl h
  intro ad H locs ls h1 hP hD hS hl
  exact lv_ldc2 hx hb hown (hts _ hw) hd (h ad H locs ls h1 hP hD hS hl)
theorem mx_s_iload_n (C : mx_C p s m args c cc own Ts D tc tb A nL Ok) {k : Fin 4} {i : Nat} (hd : decode cc pc = .ok (.iload_n k, 1)) (hi : (k : Nat) = i) : mx_So (mx_W p l e R s m args below meth c Q D tc tb A nL Ok) pc (mx_iload i (pc + 1)) := by
  obtain ⟨hx, hb, hml, hown, hts, hK, hA, hZ, hOk⟩ := C
  intro lv st F ca sl h
  obtain ⟨x, hv, h⟩ := h
  intro ad H locs ls h1 hP hD hS hl
  exact lv_iload_n hx hb hd hi (hl.at hv) (h ad H locs ls h1 hP hD hS hl)
theorem mx_s_iload (C : mx_C p s m args c cc own Ts D tc tb A nL Ok) {i : Nat} (hd : decode cc pc = .ok (.iload i, 2)) : mx_So (mx_W p l e R s m args below meth c Q D tc tb A nL Ok) pc (mx_iload i (pc + 2)) := by
  obtain ⟨hx, hb, hml, hown, hts, hK, hA, hZ, hOk⟩ := C
  intro lv st F ca sl h
  obtain ⟨x, hv, h⟩ := h
  intro ad H locs ls h1 hP hD hS hl
  exact lv_iload hx hb hd (hl.at hv) (h ad H locs ls h1 hP hD hS hl)
theorem mx_s_lload_n (C : mx_C p s m args c cc own Ts D tc tb A nL Ok) {k : Fin 4} {i : Nat} (hd : decode cc pc = .ok (.lload_n k, 1)) (hi : (k : Nat) = i) : mx_So (mx_W p l e R s m args below meth c Q D tc tb A nL Ok) pc (mx_lload i (pc + 1)) := by
  obtain ⟨hx, hb, hml, hown, hts, hK, hA, hZ, hOk⟩ := C
  intro lv st F ca sl h
  obtain ⟨x, hv, h⟩ := h
  intro ad H locs ls h1 hP hD hS hl
  exact lv_lload_n hx hb hd hi (hl.at hv) (h ad H locs ls h1 hP hD hS hl)
theorem mx_s_lload (C : mx_C p s m args c cc own Ts D tc tb A nL Ok) {i : Nat} (hd : decode cc pc = .ok (.lload i, 2)) : mx_So (mx_W p l e R s m args below meth c Q D tc tb A nL Ok) pc (mx_lload i (pc + 2)) := by
  obtain ⟨hx, hb, hml, hown, hts, hK, hA, hZ, hOk⟩ := C
  intro lv st F ca sl h
  obtain ⟨x, hv, h⟩ := h
  intro ad H locs ls h1 hP hD hS hl
  exact lv_lload hx hb hd (hl.at hv) (h ad H locs ls h1 hP hD hS hl)
theorem mx_s_aload_n (C : mx_C p s m args c cc own Ts D tc tb A nL Ok) {k : Fin 4} {i : Nat} (hd : decode cc pc = .ok (.aload_n k, 1)) (hi : (k : Nat) = i) : mx_So (mx_W p l e R s m args below meth c Q D tc tb A nL Ok) pc (mx_aload i (pc + 1)) := by
  obtain ⟨hx, hb, hml, hown, hts, hK, hA, hZ, hOk⟩ := C
  intro lv st F ca sl h
  obtain ⟨x, hv, h⟩ := h
  intro ad H locs ls h1 hP hD hS hl
  exact lv_aload_n hx hb hd hi (hl.at hv) (h ad H locs ls h1 hP hD hS hl)
theorem mx_s_aload (C : mx_C p s m args c cc own Ts D tc tb A nL Ok) {i : Nat} (hd : decode cc pc = .ok (.aload i, 2)) : mx_So (mx_W p l e R s m args below meth c Q D tc tb A nL Ok) pc (mx_aload i (pc + 2)) := by
  obtain ⟨hx, hb, hml, hown, hts, hK, hA, hZ, hOk⟩ := C
  intro lv st F ca sl h
  obtain ⟨x, hv, h⟩ := h
  intro ad H locs ls h1 hP hD hS hl
  exact lv_aload hx hb hd (hl.at hv) (h ad H locs ls h1 hP hD hS hl)
theorem mx_s_istore_n (C : mx_C p s m args c cc own Ts D tc tb A nL Ok) {k : Fin 4} {i : Nat} (hd : decode cc pc = .ok (.istore_n k, 1)) (hi : (k : Nat) = i) (hn : i < nL) : mx_So (mx_W p l e R s m args below meth c Q D tc tb A nL Ok) pc (mx_istore i (pc + 1)) := by
  obtain ⟨hx, hb, hml, hown, hts, hK, hA, hZ, hOk⟩ := C
  intro lv st F ca sl h
  obtain ⟨x, r, rfl, h⟩ := h
  intro ad H locs ls h1 hP hD hS hl
  exact lv_istore_n hx hb hd hi hl.2 hn rfl (fun ls' hl' => h ad H locs ls' h1 hP hD hS (mx_H.st1 (v := .inl x) hl.1 hl'))
theorem mx_s_istore (C : mx_C p s m args c cc own Ts D tc tb A nL Ok) {i : Nat} (hd : decode cc pc = .ok (.istore i, 2)) (hn : i < nL) : mx_So (mx_W p l e R s m args below meth c Q D tc tb A nL Ok) pc (mx_istore i (pc + 2)) := by
  obtain ⟨hx, hb, hml, hown, hts, hK, hA, hZ, hOk⟩ := C
  intro lv st F ca sl h
  obtain ⟨x, r, rfl, h⟩ := h
  intro ad H locs ls h1 hP hD hS hl
  exact lv_istore hx hb hd hl.2 hn rfl (fun ls' hl' => h ad H locs ls' h1 hP hD hS (mx_H.st1 (v := .inl x) hl.1 hl'))
theorem mx_s_lstore_n (C : mx_C p s m args c cc own Ts D tc tb A nL Ok) {k : Fin 4} {i : Nat} (hd : decode cc pc = .ok (.lstore_n k, 1)) (hi : (k : Nat) = i) (hn : i + 1 < nL) : mx_So (mx_W p l e R s m args below meth c Q D tc tb A nL Ok) pc (mx_lstore i (pc + 1)) := by
  obtain ⟨hx, hb, hml, hown, hts, hK, hA, hZ, hOk⟩ := C
  intro lv st F ca sl h
  obtain ⟨x, r, rfl, h⟩ := h
  intro ad H locs ls h1 hP hD hS hl
  exact lv_lstore_n hx hb hd hi hl.2 hn rfl (fun ls' hl' => h ad H locs ls' h1 hP hD hS (mx_H.st2 (v := .inr (.inl x)) hl.1 hl'))
theorem mx_s_lstore (C : mx_C p s m args c cc own Ts D tc tb A nL Ok) {i : Nat} (hd : decode cc pc = .ok (.lstore i, 2)) (hn : i + 1 < nL) : mx_So (mx_W p l e R s m args below meth c Q D tc tb A nL Ok) pc (mx_lstore i (pc + 2)) := by
  obtain ⟨hx, hb, hml, hown, hts, hK, hA, hZ, hOk⟩ := C
  intro lv st F ca sl h
  obtain ⟨x, r, rfl, h⟩ := h
  intro ad H locs ls h1 hP hD hS hl
  exact lv_lstore hx hb hd hl.2 hn rfl (fun ls' hl' => h ad H locs ls' h1 hP hD hS (mx_H.st2 (v := .inr (.inl x)) hl.1 hl'))
theorem mx_s_astore_n (C : mx_C p s m args c cc own Ts D tc tb A nL Ok) {k : Fin 4} {i : Nat} (hd : decode cc pc = .ok (.astore_n k, 1)) (hi : (k : Nat) = i) (hn : i < nL) : mx_So (mx_W p l e R s m args below meth c Q D tc tb A nL Ok) pc (mx_astore i (pc + 1)) := by
  obtain ⟨hx, hb, hml, hown, hts, hK, hA, hZ, hOk⟩ := C
  intro lv st F ca sl h
  obtain ⟨x, r, rfl, h⟩ := h
  intro ad H locs ls h1 hP hD hS hl
  exact lv_astore_n hx hb hd hi hl.2 hn rfl (fun ls' hl' => h ad H locs ls' h1 hP hD hS (mx_H.st1 (v := .inr (.inr (.inl (some x)))) hl.1 hl'))
theorem mx_s_astore (C : mx_C p s m args c cc own Ts D tc tb A nL Ok) {i : Nat} (hd : decode cc pc = .ok (.astore i, 2)) (hn : i < nL) : mx_So (mx_W p l e R s m args below meth c Q D tc tb A nL Ok) pc (mx_astore i (pc + 2)) := by
  obtain ⟨hx, hb, hml, hown, hts, hK, hA, hZ, hOk⟩ := C
  intro lv st F ca sl h
  obtain ⟨x, r, rfl, h⟩ := h
  intro ad H locs ls h1 hP hD hS hl
  exact lv_astore hx hb hd hl.2 hn rfl (fun ls' hl' => h ad H locs ls' h1 hP hD hS (mx_H.st1 (v := .inr (.inr (.inl (some x)))) hl.1 hl'))
theorem mx_s_iinc (C : mx_C p s m args c cc own Ts D tc tb A nL Ok) {i : Nat} {n : Int} {k : Int32} (hd : decode cc pc = .ok (.iinc i n, 3)) (hk : Int32.ofInt n = k) (hn : i < nL) : mx_So (mx_W p l e R s m args below meth c Q D tc tb A nL Ok) pc (mx_iinc i k (pc + 3)) := by
  obtain ⟨hx, hb, hml, hown, hts, hK, hA, hZ, hOk⟩ := C
  intro lv st F ca sl h
  obtain ⟨x, hv, h⟩ := h
  intro ad H locs ls h1 hP hD hS hl
  obtain ⟨j, hj⟩ := List.getElem?_of_mem (mx_ls_mem.mpr ⟨.inl x, hv, rfl⟩ : (i, Value.int x) ∈ mx_ls ad tb lv)
  exact lv_iinc hx hb hd hl.2 hj (by rw [hk]) hn rfl (fun ls' hl' => h ad H locs ls' h1 hP hD hS (mx_H.st1 (v := .inl (x + k)) hl.1 hl'))
theorem mx_s_goto (C : mx_C p s m args c cc own Ts D tc tb A nL Ok) {off : Int} {tg : Nat} (hd : decode cc pc = .ok (.goto off, 3)) (ht : (pc : Int) + off = (tg : Int)) : mx_So (mx_W p l e R s m args below meth c Q D tc tb A nL Ok) pc (mx_goto tg) := by
  obtain ⟨hx, hb, hml, hown, hts, hK, hA, hZ, hOk⟩ := C
  intro lv st F ca sl h
  intro ad H locs ls h1 hP hD hS hl
  exact lv_goto hx hb hd ht (h ad H locs ls h1 hP hD hS hl)
theorem mx_s_dup (C : mx_C p s m args c cc own Ts D tc tb A nL Ok) (hd : decode cc pc = .ok (.dup, 1)) : mx_So (mx_W p l e R s m args below meth c Q D tc tb A nL Ok) pc (mx_dup (pc + 1)) := by
  obtain ⟨hx, hb, hml, hown, hts, hK, hA, hZ, hOk⟩ := C
  intro lv st F ca sl h
  obtain ⟨v, r, rfl, hv, h⟩ := h
  intro ad H locs ls h1 hP hD hS hl
  exact lv_dup hx hb hd ((mx_cat_v ad tb v).trans hv) (h ad H locs ls h1 hP hD hS hl)
theorem mx_s_dup2 (C : mx_C p s m args c cc own Ts D tc tb A nL Ok) (hd : decode cc pc = .ok (.dup2, 1)) : mx_So (mx_W p l e R s m args below meth c Q D tc tb A nL Ok) pc (mx_dup2 (pc + 1)) := by
  obtain ⟨hx, hb, hml, hown, hts, hK, hA, hZ, hOk⟩ := C
  intro lv st F ca sl h
  obtain ⟨v, w, r, rfl, hv, hw, h⟩ := h
  intro ad H locs ls h1 hP hD hS hl
  exact lv_dup2_11 hx hb hd ((mx_cat_v ad tb v).trans hv) ((mx_cat_v ad tb w).trans hw) (h ad H locs ls h1 hP hD hS hl)
theorem mx_s_pop (C : mx_C p s m args c cc own Ts D tc tb A nL Ok) (hd : decode cc pc = .ok (.pop, 1)) : mx_So (mx_W p l e R s m args below meth c Q D tc tb A nL Ok) pc (mx_pop (pc + 1)) := by
  obtain ⟨hx, hb, hml, hown, hts, hK, hA, hZ, hOk⟩ := C
  intro lv st F ca sl h
  obtain ⟨v, r, rfl, hv, h⟩ := h
  intro ad H locs ls h1 hP hD hS hl
  exact lv_pop hx hb hd ((mx_cat_v ad tb v).trans hv) (h ad H locs ls h1 hP hD hS hl)
theorem mx_s_dup_x1 (C : mx_C p s m args c cc own Ts D tc tb A nL Ok) (hd : decode cc pc = .ok (.dup_x1, 1)) : mx_So (mx_W p l e R s m args below meth c Q D tc tb A nL Ok) pc (mx_dup_x1 (pc + 1)) := by
  obtain ⟨hx, hb, hml, hown, hts, hK, hA, hZ, hOk⟩ := C
  intro lv st F ca sl h
  obtain ⟨v, w, r, rfl, hv, hw, h⟩ := h
  intro ad H locs ls h1 hP hD hS hl
  exact lv_dup_x1 hx hb hd ((mx_cat_v ad tb v).trans hv) ((mx_cat_v ad tb w).trans hw) (h ad H locs ls h1 hP hD hS hl)
theorem mx_s_dup_x2 (C : mx_C p s m args c cc own Ts D tc tb A nL Ok) (hd : decode cc pc = .ok (.dup_x2, 1)) : mx_So (mx_W p l e R s m args below meth c Q D tc tb A nL Ok) pc (mx_dup_x2 (pc + 1)) := by
  obtain ⟨hx, hb, hml, hown, hts, hK, hA, hZ, hOk⟩ := C
  intro lv st F ca sl h
  obtain ⟨v, w, u, r, rfl, hv, hw, hu, h⟩ := h
  intro ad H locs ls h1 hP hD hS hl
  exact lv_dup_x2 hx hb hd ((mx_cat_v ad tb v).trans hv) ((mx_cat_v ad tb w).trans hw) ((mx_cat_v ad tb u).trans hu) (h ad H locs ls h1 hP hD hS hl)
theorem mx_s_i2l (C : mx_C p s m args c cc own Ts D tc tb A nL Ok) (hd : decode cc pc = .ok (.i2l, 1)) : mx_So (mx_W p l e R s m args below meth c Q D tc tb A nL Ok) pc (mx_i2l (pc + 1)) := by
  obtain ⟨hx, hb, hml, hown, hts, hK, hA, hZ, hOk⟩ := C
  intro lv st F ca sl h
  obtain ⟨x, r, rfl, h⟩ := h
  intro ad H locs ls h1 hP hD hS hl
  exact lv_i2l hx hb hd rfl (h ad H locs ls h1 hP hD hS hl)
theorem mx_s_l2i (C : mx_C p s m args c cc own Ts D tc tb A nL Ok) (hd : decode cc pc = .ok (.l2i, 1)) : mx_So (mx_W p l e R s m args below meth c Q D tc tb A nL Ok) pc (mx_l2i (pc + 1)) := by
  obtain ⟨hx, hb, hml, hown, hts, hK, hA, hZ, hOk⟩ := C
  intro lv st F ca sl h
  obtain ⟨x, r, rfl, h⟩ := h
  intro ad H locs ls h1 hP hD hS hl
  exact lv_l2i hx hb hd rfl (h ad H locs ls h1 hP hD hS hl)
theorem mx_s_ineg (C : mx_C p s m args c cc own Ts D tc tb A nL Ok) (hd : decode cc pc = .ok (.ineg, 1)) : mx_So (mx_W p l e R s m args below meth c Q D tc tb A nL Ok) pc (mx_ineg (pc + 1)) := by
  obtain ⟨hx, hb, hml, hown, hts, hK, hA, hZ, hOk⟩ := C
  intro lv st F ca sl h
  obtain ⟨x, r, rfl, h⟩ := h
  intro ad H locs ls h1 hP hD hS hl
  exact lv_ineg hx hb hd (h ad H locs ls h1 hP hD hS hl)
theorem mx_s_lcmp (C : mx_C p s m args c cc own Ts D tc tb A nL Ok) (hd : decode cc pc = .ok (.lcmp, 1)) : mx_So (mx_W p l e R s m args below meth c Q D tc tb A nL Ok) pc (mx_lcmp (pc + 1)) := by
  obtain ⟨hx, hb, hml, hown, hts, hK, hA, hZ, hOk⟩ := C
  intro lv st F ca sl h
  obtain ⟨x, y, r, rfl, h⟩ := h
  intro ad H locs ls h1 hP hD hS hl
  exact W.lcmp hx hb hd (h ad H locs ls h1 hP hD hS hl)
theorem mx_s_iadd (C : mx_C p s m args c cc own Ts D tc tb A nL Ok) (hd : decode cc pc = .ok (.iadd, 1)) : mx_So (mx_W p l e R s m args below meth c Q D tc tb A nL Ok) pc (mx_iadd (pc + 1)) := by
  obtain ⟨hx, hb, hml, hown, hts, hK, hA, hZ, hOk⟩ := C
  intro lv st F ca sl h
  obtain ⟨x, y, r, rfl, h⟩ := h
  intro ad H locs ls h1 hP hD hS hl
  exact lv_iadd hx hb hd (h ad H locs ls h1 hP hD hS hl)
theorem mx_s_isub (C : mx_C p s m args c cc own Ts D tc tb A nL Ok) (hd : decode cc pc = .ok (.isub, 1)) : mx_So (mx_W p l e R s m args below meth c Q D tc tb A nL Ok) pc (mx_isub (pc + 1)) := by
  obtain ⟨hx, hb, hml, hown, hts, hK, hA, hZ, hOk⟩ := C
  intro lv st F ca sl h
  obtain ⟨x, y, r, rfl, h⟩ := h
  intro ad H locs ls h1 hP hD hS hl
  exact lv_isub hx hb hd (h ad H locs ls h1 hP hD hS hl)
theorem mx_s_imul (C : mx_C p s m args c cc own Ts D tc tb A nL Ok) (hd : decode cc pc = .ok (.imul, 1)) : mx_So (mx_W p l e R s m args below meth c Q D tc tb A nL Ok) pc (mx_imul (pc + 1)) := by
  obtain ⟨hx, hb, hml, hown, hts, hK, hA, hZ, hOk⟩ := C
  intro lv st F ca sl h
  obtain ⟨x, y, r, rfl, h⟩ := h
  intro ad H locs ls h1 hP hD hS hl
  exact lv_imul hx hb hd (h ad H locs ls h1 hP hD hS hl)
theorem mx_s_iand (C : mx_C p s m args c cc own Ts D tc tb A nL Ok) (hd : decode cc pc = .ok (.iand, 1)) : mx_So (mx_W p l e R s m args below meth c Q D tc tb A nL Ok) pc (mx_iand (pc + 1)) := by
  obtain ⟨hx, hb, hml, hown, hts, hK, hA, hZ, hOk⟩ := C
  intro lv st F ca sl h
  obtain ⟨x, y, r, rfl, h⟩ := h
  intro ad H locs ls h1 hP hD hS hl
  exact lv_iand hx hb hd (h ad H locs ls h1 hP hD hS hl)
theorem mx_s_ior (C : mx_C p s m args c cc own Ts D tc tb A nL Ok) (hd : decode cc pc = .ok (.ior, 1)) : mx_So (mx_W p l e R s m args below meth c Q D tc tb A nL Ok) pc (mx_ior (pc + 1)) := by
  obtain ⟨hx, hb, hml, hown, hts, hK, hA, hZ, hOk⟩ := C
  intro lv st F ca sl h
  obtain ⟨x, y, r, rfl, h⟩ := h
  intro ad H locs ls h1 hP hD hS hl
  exact lv_ior hx hb hd (h ad H locs ls h1 hP hD hS hl)
theorem mx_s_ixor (C : mx_C p s m args c cc own Ts D tc tb A nL Ok) (hd : decode cc pc = .ok (.ixor, 1)) : mx_So (mx_W p l e R s m args below meth c Q D tc tb A nL Ok) pc (mx_ixor (pc + 1)) := by
  obtain ⟨hx, hb, hml, hown, hts, hK, hA, hZ, hOk⟩ := C
  intro lv st F ca sl h
  obtain ⟨x, y, r, rfl, h⟩ := h
  intro ad H locs ls h1 hP hD hS hl
  exact lv_ixor hx hb hd (h ad H locs ls h1 hP hD hS hl)
theorem mx_s_ishl (C : mx_C p s m args c cc own Ts D tc tb A nL Ok) (hd : decode cc pc = .ok (.ishl, 1)) : mx_So (mx_W p l e R s m args below meth c Q D tc tb A nL Ok) pc (mx_ishl (pc + 1)) := by
  obtain ⟨hx, hb, hml, hown, hts, hK, hA, hZ, hOk⟩ := C
  intro lv st F ca sl h
  obtain ⟨x, y, r, rfl, h⟩ := h
  intro ad H locs ls h1 hP hD hS hl
  exact lv_ishl hx hb hd (h ad H locs ls h1 hP hD hS hl)
theorem mx_s_ishr (C : mx_C p s m args c cc own Ts D tc tb A nL Ok) (hd : decode cc pc = .ok (.ishr, 1)) : mx_So (mx_W p l e R s m args below meth c Q D tc tb A nL Ok) pc (mx_ishr (pc + 1)) := by
  obtain ⟨hx, hb, hml, hown, hts, hK, hA, hZ, hOk⟩ := C
  intro lv st F ca sl h
  obtain ⟨x, y, r, rfl, h⟩ := h
  intro ad H locs ls h1 hP hD hS hl
  exact lv_ishr hx hb hd (h ad H locs ls h1 hP hD hS hl)
theorem mx_s_iushr (C : mx_C p s m args c cc own Ts D tc tb A nL Ok) (hd : decode cc pc = .ok (.iushr, 1)) : mx_So (mx_W p l e R s m args below meth c Q D tc tb A nL Ok) pc (mx_iushr (pc + 1)) := by
  obtain ⟨hx, hb, hml, hown, hts, hK, hA, hZ, hOk⟩ := C
  intro lv st F ca sl h
  obtain ⟨x, y, r, rfl, h⟩ := h
  intro ad H locs ls h1 hP hD hS hl
  exact lv_iushr hx hb hd rfl (h ad H locs ls h1 hP hD hS hl)
theorem mx_s_ladd (C : mx_C p s m args c cc own Ts D tc tb A nL Ok) (hd : decode cc pc = .ok (.ladd, 1)) : mx_So (mx_W p l e R s m args below meth c Q D tc tb A nL Ok) pc (mx_ladd (pc + 1)) := by
  obtain ⟨hx, hb, hml, hown, hts, hK, hA, hZ, hOk⟩ := C
  intro lv st F ca sl h
  obtain ⟨x, y, r, rfl, h⟩ := h
  intro ad H locs ls h1 hP hD hS hl
  exact lv_ladd hx hb hd (h ad H locs ls h1 hP hD hS hl)
theorem mx_s_lsub (C : mx_C p s m args c cc own Ts D tc tb A nL Ok) (hd : decode cc pc = .ok (.lsub, 1)) : mx_So (mx_W p l e R s m args below meth c Q D tc tb A nL Ok) pc (mx_lsub (pc + 1)) := by
  obtain ⟨hx, hb, hml, hown, hts, hK, hA, hZ, hOk⟩ := C
  intro lv st F ca sl h
  obtain ⟨x, y, r, rfl, h⟩ := h
  intro ad H locs ls h1 hP hD hS hl
  exact lv_lsub hx hb hd (h ad H locs ls h1 hP hD hS hl)
theorem mx_s_lmul (C : mx_C p s m args c cc own Ts D tc tb A nL Ok) (hd : decode cc pc = .ok (.lmul, 1)) : mx_So (mx_W p l e R s m args below meth c Q D tc tb A nL Ok) pc (mx_lmul (pc + 1)) := by
  obtain ⟨hx, hb, hml, hown, hts, hK, hA, hZ, hOk⟩ := C
  intro lv st F ca sl h
  obtain ⟨x, y, r, rfl, h⟩ := h
  intro ad H locs ls h1 hP hD hS hl
  exact lv_lmul hx hb hd (h ad H locs ls h1 hP hD hS hl)
theorem mx_s_land (C : mx_C p s m args c cc own Ts D tc tb A nL Ok) (hd : decode cc pc = .ok (.land, 1)) : mx_So (mx_W p l e R s m args below meth c Q D tc tb A nL Ok) pc (mx_land (pc + 1)) := by
  obtain ⟨hx, hb, hml, hown, hts, hK, hA, hZ, hOk⟩ := C
  intro lv st F ca sl h
  obtain ⟨x, y, r, rfl, h⟩ := h
  intro ad H locs ls h1 hP hD hS hl
  exact lv_land hx hb hd (h ad H locs ls h1 hP hD hS hl)
theorem mx_s_lor (C : mx_C p s m args c cc own Ts D tc tb A nL Ok) (hd : decode cc pc = .ok (.lor, 1)) : mx_So (mx_W p l e R s m args below meth c Q D tc tb A nL Ok) pc (mx_lor (pc + 1)) := by
  obtain ⟨hx, hb, hml, hown, hts, hK, hA, hZ, hOk⟩ := C
  intro lv st F ca sl h
  obtain ⟨x, y, r, rfl, h⟩ := h
  intro ad H locs ls h1 hP hD hS hl
  exact lv_lor hx hb hd (h ad H locs ls h1 hP hD hS hl)
theorem mx_s_lxor (C : mx_C p s m args c cc own Ts D tc tb A nL Ok) (hd : decode cc pc = .ok (.lxor, 1)) : mx_So (mx_W p l e R s m args below meth c Q D tc tb A nL Ok) pc (mx_lxor (pc + 1)) := by
  obtain ⟨hx, hb, hml, hown, hts, hK, hA, hZ, hOk⟩ := C
  intro lv st F ca sl h
  obtain ⟨x, y, r, rfl, h⟩ := h
  intro ad H locs ls h1 hP hD hS hl
  exact lv_lxor hx hb hd (h ad H locs ls h1 hP hD hS hl)
theorem mx_s_lshl (C : mx_C p s m args c cc own Ts D tc tb A nL Ok) (hd : decode cc pc = .ok (.lshl, 1)) : mx_So (mx_W p l e R s m args below meth c Q D tc tb A nL Ok) pc (mx_lshl (pc + 1)) := by
  obtain ⟨hx, hb, hml, hown, hts, hK, hA, hZ, hOk⟩ := C
  intro lv st F ca sl h
  obtain ⟨x, y, r, rfl, h⟩ := h
  intro ad H locs ls h1 hP hD hS hl
  exact lv_lshl hx hb hd rfl (h ad H locs ls h1 hP hD hS hl)
theorem mx_s_lshr (C : mx_C p s m args c cc own Ts D tc tb A nL Ok) (hd : decode cc pc = .ok (.lshr, 1)) : mx_So (mx_W p l e R s m args below meth c Q D tc tb A nL Ok) pc (mx_lshr (pc + 1)) := by
  obtain ⟨hx, hb, hml, hown, hts, hK, hA, hZ, hOk⟩ := C
  intro lv st F ca sl h
  obtain ⟨x, y, r, rfl, h⟩ := h
  intro ad H locs ls h1 hP hD hS hl
  exact lv_lshr hx hb hd rfl (h ad H locs ls h1 hP hD hS hl)
theorem mx_s_lushr (C : mx_C p s m args c cc own Ts D tc tb A nL Ok) (hd : decode cc pc = .ok (.lushr, 1)) : mx_So (mx_W p l e R s m args below meth c Q D tc tb A nL Ok) pc (mx_lushr (pc + 1)) := by
  obtain ⟨hx, hb, hml, hown, hts, hK, hA, hZ, hOk⟩ := C
  intro lv st F ca sl h
  obtain ⟨x, y, r, rfl, h⟩ := h
  intro ad H locs ls h1 hP hD hS hl
  exact lv_lushr hx hb hd rfl (h ad H locs ls h1 hP hD hS hl)
theorem mx_s_idiv (C : mx_C p s m args c cc own Ts D tc tb A nL Ok) (hd : decode cc pc = .ok (.idiv, 1)) : mx_So (mx_W p l e R s m args below meth c Q D tc tb A nL Ok) pc (mx_idiv (pc + 1)) := by
  obtain ⟨hx, hb, hml, hown, hts, hK, hA, hZ, hOk⟩ := C
  intro lv st F ca sl h
  obtain ⟨x, y, r, rfl, hy, h⟩ := h
  intro ad H locs ls h1 hP hD hS hl
  exact lv_idiv hx hb hd hy (h ad H locs ls h1 hP hD hS hl)
theorem mx_s_irem (C : mx_C p s m args c cc own Ts D tc tb A nL Ok) (hd : decode cc pc = .ok (.irem, 1)) : mx_So (mx_W p l e R s m args below meth c Q D tc tb A nL Ok) pc (mx_irem (pc + 1)) := by
  obtain ⟨hx, hb, hml, hown, hts, hK, hA, hZ, hOk⟩ := C
  intro lv st F ca sl h
  obtain ⟨x, y, r, rfl, hy, h⟩ := h
  intro ad H locs ls h1 hP hD hS hl
  exact lv_irem hx hb hd hy (h ad H locs ls h1 hP hD hS hl)
theorem mx_s_ldiv (C : mx_C p s m args c cc own Ts D tc tb A nL Ok) (hd : decode cc pc = .ok (.ldiv, 1)) : mx_So (mx_W p l e R s m args below meth c Q D tc tb A nL Ok) pc (mx_ldiv (pc + 1)) := by
  obtain ⟨hx, hb, hml, hown, hts, hK, hA, hZ, hOk⟩ := C
  intro lv st F ca sl h
  obtain ⟨x, y, r, rfl, hy, h⟩ := h
  intro ad H locs ls h1 hP hD hS hl
  exact lv_ldiv hx hb hd hy (h ad H locs ls h1 hP hD hS hl)
theorem mx_s_lrem (C : mx_C p s m args c cc own Ts D tc tb A nL Ok) (hd : decode cc pc = .ok (.lrem, 1)) : mx_So (mx_W p l e R s m args below meth c Q D tc tb A nL Ok) pc (mx_lrem (pc + 1)) := by
  obtain ⟨hx, hb, hml, hown, hts, hK, hA, hZ, hOk⟩ := C
  intro lv st F ca sl h
  obtain ⟨x, y, r, rfl, hy, h⟩ := h
  intro ad H locs ls h1 hP hD hS hl
  exact lv_lrem hx hb hd hy (h ad H locs ls h1 hP hD hS hl)
theorem mx_s_if_eq (C : mx_C p s m args c cc own Ts D tc tb A nL Ok) {off : Int} {tg : Nat} (hd : decode cc pc = .ok (.ifCond .eq off, 3)) (ht : (pc : Int) + off = (tg : Int)) : mx_So (mx_W p l e R s m args below meth c Q D tc tb A nL Ok) pc (mx_if_eq tg (pc + 3)) := by
  obtain ⟨hx, hb, hml, hown, hts, hK, hA, hZ, hOk⟩ := C
  intro lv st F ca sl h
  obtain ⟨x, r, rfl, ha, hc⟩ := h
  intro ad H locs ls h1 hP hD hS hl
  exact lv_if_eq hx hb hd ht (fun z => ha z ad H locs ls h1 hP hD hS hl) (fun z => hc z ad H locs ls h1 hP hD hS hl)
theorem mx_s_if_ne (C : mx_C p s m args c cc own Ts D tc tb A nL Ok) {off : Int} {tg : Nat} (hd : decode cc pc = .ok (.ifCond .ne off, 3)) (ht : (pc : Int) + off = (tg : Int)) : mx_So (mx_W p l e R s m args below meth c Q D tc tb A nL Ok) pc (mx_if_ne tg (pc + 3)) := by
  obtain ⟨hx, hb, hml, hown, hts, hK, hA, hZ, hOk⟩ := C
  intro lv st F ca sl h
  obtain ⟨x, r, rfl, ha, hc⟩ := h
  intro ad H locs ls h1 hP hD hS hl
  exact lv_if_ne hx hb hd ht (fun z => ha z ad H locs ls h1 hP hD hS hl) (fun z => hc z ad H locs ls h1 hP hD hS hl)
theorem mx_s_if_lt (C : mx_C p s m args c cc own Ts D tc tb A nL Ok) {off : Int} {tg : Nat} (hd : decode cc pc = .ok (.ifCond .lt off, 3)) (ht : (pc : Int) + off = (tg : Int)) : mx_So (mx_W p l e R s m args below meth c Q D tc tb A nL Ok) pc (mx_if_lt tg (pc + 3)) := by
  obtain ⟨hx, hb, hml, hown, hts, hK, hA, hZ, hOk⟩ := C
  intro lv st F ca sl h
  obtain ⟨x, r, rfl, ha, hc⟩ := h
  intro ad H locs ls h1 hP hD hS hl
  exact lv_if_lt hx hb hd ht (fun z => ha z ad H locs ls h1 hP hD hS hl) (fun z => hc z ad H locs ls h1 hP hD hS hl)
theorem mx_s_if_ge (C : mx_C p s m args c cc own Ts D tc tb A nL Ok) {off : Int} {tg : Nat} (hd : decode cc pc = .ok (.ifCond .ge off, 3)) (ht : (pc : Int) + off = (tg : Int)) : mx_So (mx_W p l e R s m args below meth c Q D tc tb A nL Ok) pc (mx_if_ge tg (pc + 3)) := by
  obtain ⟨hx, hb, hml, hown, hts, hK, hA, hZ, hOk⟩ := C
  intro lv st F ca sl h
  obtain ⟨x, r, rfl, ha, hc⟩ := h
  intro ad H locs ls h1 hP hD hS hl
  exact lv_if_ge hx hb hd ht (fun z => ha z ad H locs ls h1 hP hD hS hl) (fun z => hc z ad H locs ls h1 hP hD hS hl)
theorem mx_s_if_gt (C : mx_C p s m args c cc own Ts D tc tb A nL Ok) {off : Int} {tg : Nat} (hd : decode cc pc = .ok (.ifCond .gt off, 3)) (ht : (pc : Int) + off = (tg : Int)) : mx_So (mx_W p l e R s m args below meth c Q D tc tb A nL Ok) pc (mx_if_gt tg (pc + 3)) := by
  obtain ⟨hx, hb, hml, hown, hts, hK, hA, hZ, hOk⟩ := C
  intro lv st F ca sl h
  obtain ⟨x, r, rfl, ha, hc⟩ := h
  intro ad H locs ls h1 hP hD hS hl
  exact lv_if_gt hx hb hd ht (fun z => ha z ad H locs ls h1 hP hD hS hl) (fun z => hc z ad H locs ls h1 hP hD hS hl)
theorem mx_s_if_le (C : mx_C p s m args c cc own Ts D tc tb A nL Ok) {off : Int} {tg : Nat} (hd : decode cc pc = .ok (.ifCond .le off, 3)) (ht : (pc : Int) + off = (tg : Int)) : mx_So (mx_W p l e R s m args below meth c Q D tc tb A nL Ok) pc (mx_if_le tg (pc + 3)) := by
  obtain ⟨hx, hb, hml, hown, hts, hK, hA, hZ, hOk⟩ := C
  intro lv st F ca sl h
  obtain ⟨x, r, rfl, ha, hc⟩ := h
  intro ad H locs ls h1 hP hD hS hl
  exact lv_if_le hx hb hd ht (fun z => ha z ad H locs ls h1 hP hD hS hl) (fun z => hc z ad H locs ls h1 hP hD hS hl)
theorem mx_s_ic_eq (C : mx_C p s m args c cc own Ts D tc tb A nL Ok) {off : Int} {tg : Nat} (hd : decode cc pc = .ok (.if_icmp .eq off, 3)) (ht : (pc : Int) + off = (tg : Int)) : mx_So (mx_W p l e R s m args below meth c Q D tc tb A nL Ok) pc (mx_ic_eq tg (pc + 3)) := by
  obtain ⟨hx, hb, hml, hown, hts, hK, hA, hZ, hOk⟩ := C
  intro lv st F ca sl h
  obtain ⟨x, y, r, rfl, ha, hc⟩ := h
  intro ad H locs ls h1 hP hD hS hl
  exact lv_icmp_eq hx hb hd ht (fun z => ha z ad H locs ls h1 hP hD hS hl) (fun z => hc z ad H locs ls h1 hP hD hS hl)
theorem mx_s_ic_ne (C : mx_C p s m args c cc own Ts D tc tb A nL Ok) {off : Int} {tg : Nat} (hd : decode cc pc = .ok (.if_icmp .ne off, 3)) (ht : (pc : Int) + off = (tg : Int)) : mx_So (mx_W p l e R s m args below meth c Q D tc tb A nL Ok) pc (mx_ic_ne tg (pc + 3)) := by
  obtain ⟨hx, hb, hml, hown, hts, hK, hA, hZ, hOk⟩ := C
  intro lv st F ca sl h
  obtain ⟨x, y, r, rfl, ha, hc⟩ := h
  intro ad H locs ls h1 hP hD hS hl
  exact lv_icmp_ne hx hb hd ht (fun z => ha z ad H locs ls h1 hP hD hS hl) (fun z => hc z ad H locs ls h1 hP hD hS hl)
theorem mx_s_ic_lt (C : mx_C p s m args c cc own Ts D tc tb A nL Ok) {off : Int} {tg : Nat} (hd : decode cc pc = .ok (.if_icmp .lt off, 3)) (ht : (pc : Int) + off = (tg : Int)) : mx_So (mx_W p l e R s m args below meth c Q D tc tb A nL Ok) pc (mx_ic_lt tg (pc + 3)) := by
  obtain ⟨hx, hb, hml, hown, hts, hK, hA, hZ, hOk⟩ := C
  intro lv st F ca sl h
  obtain ⟨x, y, r, rfl, ha, hc⟩ := h
  intro ad H locs ls h1 hP hD hS hl
  exact lv_icmp_lt hx hb hd ht (fun z => ha z ad H locs ls h1 hP hD hS hl) (fun z => hc z ad H locs ls h1 hP hD hS hl)
theorem mx_s_ic_ge (C : mx_C p s m args c cc own Ts D tc tb A nL Ok) {off : Int} {tg : Nat} (hd : decode cc pc = .ok (.if_icmp .ge off, 3)) (ht : (pc : Int) + off = (tg : Int)) : mx_So (mx_W p l e R s m args below meth c Q D tc tb A nL Ok) pc (mx_ic_ge tg (pc + 3)) := by
  obtain ⟨hx, hb, hml, hown, hts, hK, hA, hZ, hOk⟩ := C
  intro lv st F ca sl h
  obtain ⟨x, y, r, rfl, ha, hc⟩ := h
  intro ad H locs ls h1 hP hD hS hl
  exact lv_icmp_ge hx hb hd ht (fun z => ha z ad H locs ls h1 hP hD hS hl) (fun z => hc z ad H locs ls h1 hP hD hS hl)
theorem mx_s_ic_gt (C : mx_C p s m args c cc own Ts D tc tb A nL Ok) {off : Int} {tg : Nat} (hd : decode cc pc = .ok (.if_icmp .gt off, 3)) (ht : (pc : Int) + off = (tg : Int)) : mx_So (mx_W p l e R s m args below meth c Q D tc tb A nL Ok) pc (mx_ic_gt tg (pc + 3)) := by
  obtain ⟨hx, hb, hml, hown, hts, hK, hA, hZ, hOk⟩ := C
  intro lv st F ca sl h
  obtain ⟨x, y, r, rfl, ha, hc⟩ := h
  intro ad H locs ls h1 hP hD hS hl
  exact lv_icmp_gt hx hb hd ht (fun z => ha z ad H locs ls h1 hP hD hS hl) (fun z => hc z ad H locs ls h1 hP hD hS hl)
theorem mx_s_ic_le (C : mx_C p s m args c cc own Ts D tc tb A nL Ok) {off : Int} {tg : Nat} (hd : decode cc pc = .ok (.if_icmp .le off, 3)) (ht : (pc : Int) + off = (tg : Int)) : mx_So (mx_W p l e R s m args below meth c Q D tc tb A nL Ok) pc (mx_ic_le tg (pc + 3)) := by
  obtain ⟨hx, hb, hml, hown, hts, hK, hA, hZ, hOk⟩ := C
  intro lv st F ca sl h
  obtain ⟨x, y, r, rfl, ha, hc⟩ := h
  intro ad H locs ls h1 hP hD hS hl
  exact lv_icmp_le hx hb hd ht (fun z => ha z ad H locs ls h1 hP hD hS hl) (fun z => hc z ad H locs ls h1 hP hD hS hl)
theorem mx_s_get (C : mx_C p s m args c cc own Ts D tc tb A nL Ok) {ref Cn : String} {T : u_T} {N ci i k : Nat} (hin : ∀ w ∈ u_ws Cn T N, w ∈ Ts) (hc : vwCl[ci]? = some (Cn, T, N)) (hk : k < N) (hl0 : Jvm.Cond.fieldLink own i ref (T k).2.1 (T k).2.2.1 ∈ Ts) (hr : (T k).1 = ref) (hd : decode cc pc = .ok (.getfield i, 3)) : mx_So (mx_W p l e R s m args below meth c Q D tc tb A nL Ok) pc (mx_get ci k (pc + 3)) := by
  obtain ⟨hx, hb, hml, hown, hts, hK, hA, hZ, hOk⟩ := C
  intro lv st F ca sl h
  obtain ⟨q, r, fs, v, rfl, hq, hv, h⟩ := h
  intro ad H locs ls h1 hP hD hS hl
  have hP1 : va_P D vwCl [(ad q, mx_e tc ad tb (.inr (.inr (.inr (ci, fs)))))] H := fun k2 x hx2 => by
    have hz : k2 < 1 := (List.getElem?_eq_some_iff.mp hx2).1
    rw [show k2 = 0 by omega] at hx2
    cases hx2
    exact hP q _ hq
  exact va_get (D := D) (ci := ci) (C := Cn) (T := T) (N := N) (v := mx_v ad tb v) hx hb hts hin hown hK hP1 0 rfl hc k hk (hts _ hl0) (fun x h9 => by rw [← hr]; exact h9) (by rw [List.getElem?_map, hv]; rfl) hd (h ad H locs ls h1 hP hD hS hl)
theorem mx_putW (C : mx_C p s m args c cc own Ts D tc tb A nL Ok) {ref Cn : String} {T : u_T} {N ci i k q : Nat} {fs : List mx_V} {v : mx_V} {ty : FieldType} {ad : Nat → Nat} {H : Heap} {locs : List Loc} {ls : Array Slot} {rest : List Value} {F : mx_F} {ca sl : Nat} (hin : ∀ w ∈ u_ws Cn T N, w ∈ Ts) (hc : vwCl[ci]? = some (Cn, T, N)) (ty0 : Nat → FieldType) (hty : ∀ k, k < N → parseFieldDescriptor (T k).2.2.1 = some (ty0 k)) (hnm : ∀ a, a < N → ∀ b, b < N → a ≠ b → (T a).2.1 ≠ (T b).2.1) (hk : k < N) (hl0 : Jvm.Cond.fieldLink own i ref (T k).2.1 (T k).2.2.1 ∈ Ts) (hr : (T k).1 = ref) (hfin : (T k).2.2.2 = false) (hdd : parseFieldDescriptor (T k).2.2.1 = some ty) (hn : narrow ty (mx_v ad tb v) = mx_v ad tb v) (hfit : fits ty (mx_v ad tb v) = true) (hd : decode cc pc = .ok (.putfield i, 3)) (hq : F q = some (.inr (.inr (.inr (ci, fs))))) (hlen : k < fs.length)
    (hP : mx_P D tc ad tb F H) (hD : mx_D A ad F) (hS : va_S A s.heap H locs)
    (kk : ∀ (H1 : Heap) (locs1 : List Loc), mx_P D tc ad tb (mx_put F q (.inr (.inr (.inr (ci, fs.set k v))))) H1 → mx_D A ad (mx_put F q (.inr (.inr (.inr (ci, fs.set k v))))) → va_S A s.heap H1 locs1 → W p l e R s m args below meth c H1 locs1 ca sl Q (F0 m (pc + 3) ls rest)) : W p l e R s m args below meth c H locs ca sl Q (F0 m pc ls (mx_v ad tb v :: .ref (ad q) :: rest)) := by
  obtain ⟨hx, hb, hml, hown, hts, hK, hA, hZ, hOk⟩ := C
  have hap := va_apart (own := own) hts hin ty0 hty hnm hK hc
  obtain ⟨r, h1, cell, q1, q2, q3, q4⟩ := hP q _ hq
  have hr2 : r = (Cn, T, N) := Option.some.inj (h1.symm.trans hc)
  subst hr2
  obtain ⟨hS9, hfc, kC, hkC, hkind⟩ := hK.1 ci _ hc
  obtain ⟨cf, kf, fi, f, hi, hsl⟩ := hS9 k hk
  have hlay := hts _ (hin _ (u_in_lay hk))
  unfold u_lay at hlay
  rw [if_neg (by rw [hfin]; decide)] at hlay
  have hst := (u_facts hfc hkC (u_lays hts hin hk) hi).1
  have h6 := u_store hfc hkC hkind hlay hi hdd hn hfit
  refine W.putK hx hb (f := f) ⟨hown, hts _ hl0, ⟨_, _, _, by rw [← hr]; exact hi⟩, hst⟩ (by rw [q2]; exact h6) q1 q3 (by rw [hsl]; exact k2_hasslot (q4 k hk)) rfl rfl hd fun H' e1 e2 e3 => ?_
  rw [hsl] at e1 ⊢
  refine kk H' _ (hP.set hD hq ⟨_, hc, t_OB.to (V := updV (vp_V (fs.map (mx_v ad tb))) k (mx_v ad tb v)) ⟨_, e1, q2, q3, t_set q4 hap hk _⟩ (fun j _ => ?_)⟩ e3) (hD.set hq) (hS.put e2 e3 (hD.2 q _ hq))
  show _ = vp_V ((fs.set k v).map (mx_v ad tb)) j
  rw [List.map_set]
  exact vp_updV_set (by rw [List.length_map]; exact hlen) _ j
theorem mx_s_puti (C : mx_C p s m args c cc own Ts D tc tb A nL Ok) {ref Cn : String} {T : u_T} {N ci i k : Nat} (hin : ∀ w ∈ u_ws Cn T N, w ∈ Ts) (hc : vwCl[ci]? = some (Cn, T, N)) (ty0 : Nat → FieldType) (hty : ∀ k, k < N → parseFieldDescriptor (T k).2.2.1 = some (ty0 k)) (hnm : ∀ a, a < N → ∀ b, b < N → a ≠ b → (T a).2.1 ≠ (T b).2.1) (hk : k < N) (hl0 : Jvm.Cond.fieldLink own i ref (T k).2.1 (T k).2.2.1 ∈ Ts) (hr : (T k).1 = ref) (hfin : (T k).2.2.2 = false) (hdd : parseFieldDescriptor (T k).2.2.1 = some .int) (hd : decode cc pc = .ok (.putfield i, 3)) : mx_So (mx_W p l e R s m args below meth c Q D tc tb A nL Ok) pc (mx_puti ci k (pc + 3)) := by
  obtain ⟨hx, hb, hml, hown, hts, hK, hA, hZ, hOk⟩ := C
  intro lv st F ca sl h
  obtain ⟨x, q, r, fs, rfl, hq, hlen, h⟩ := h
  intro ad H locs ls h1 hP hD hS hl
  exact mx_putW (v := .inl x) ⟨hx, hb, hml, hown, hts, hK, hA, hZ, hOk⟩ hin hc ty0 hty hnm hk hl0 hr hfin hdd rfl rfl hd hq hlen hP hD hS (fun H1 locs1 a1 a2 a3 => h ad H1 locs1 ls (hOk ad F _ (mx_in_put F q _) h1) a1 a2 a3 hl)
theorem mx_s_putl (C : mx_C p s m args c cc own Ts D tc tb A nL Ok) {ref Cn : String} {T : u_T} {N ci i k : Nat} (hin : ∀ w ∈ u_ws Cn T N, w ∈ Ts) (hc : vwCl[ci]? = some (Cn, T, N)) (ty0 : Nat → FieldType) (hty : ∀ k, k < N → parseFieldDescriptor (T k).2.2.1 = some (ty0 k)) (hnm : ∀ a, a < N → ∀ b, b < N → a ≠ b → (T a).2.1 ≠ (T b).2.1) (hk : k < N) (hl0 : Jvm.Cond.fieldLink own i ref (T k).2.1 (T k).2.2.1 ∈ Ts) (hr : (T k).1 = ref) (hfin : (T k).2.2.2 = false) (hdd : parseFieldDescriptor (T k).2.2.1 = some .long) (hd : decode cc pc = .ok (.putfield i, 3)) : mx_So (mx_W p l e R s m args below meth c Q D tc tb A nL Ok) pc (mx_putl ci k (pc + 3)) := by
  obtain ⟨hx, hb, hml, hown, hts, hK, hA, hZ, hOk⟩ := C
  intro lv st F ca sl h
  obtain ⟨x, q, r, fs, rfl, hq, hlen, h⟩ := h
  intro ad H locs ls h1 hP hD hS hl
  exact mx_putW (v := .inr (.inl x)) ⟨hx, hb, hml, hown, hts, hK, hA, hZ, hOk⟩ hin hc ty0 hty hnm hk hl0 hr hfin hdd rfl rfl hd hq hlen hP hD hS (fun H1 locs1 a1 a2 a3 => h ad H1 locs1 ls (hOk ad F _ (mx_in_put F q _) h1) a1 a2 a3 hl)
theorem mx_s_iald (C : mx_C p s m args c cc own Ts D tc tb A nL Ok) (hd : decode cc pc = .ok (.iaload, 1)) : mx_So (mx_W p l e R s m args below meth c Q D tc tb A nL Ok) pc (mx_iald (pc + 1)) := by
  obtain ⟨hx, hb, hml, hown, hts, hK, hA, hZ, hOk⟩ := C
  intro lv st F ca sl h
  obtain ⟨i, q, r, n, f, rfl, hq, hin, h⟩ := h
  intro ad H locs ls h1 hP hD hS hl
  have hlt : i.toNatClampNeg < n := Nat.not_le.mp fun z => hin (Or.inr z)
  exact W.iald (v := .int (f i.toNatClampNeg)) hx hb (hP q _ hq) ((hK.2 0 _ (mx_t_get rfl)).1 n (fun j => .int (f j))) (fun z => by cases z) (by show ¬ (i < 0 ∨ (arrV _ _ _).slots.size ≤ _); rw [arrV_size]; exact hin) (by show (arrV _ _ _).slots[_]? = _; rw [arrV_read _ _ hlt]) rfl rfl hd (h ad H locs ls h1 hP hD hS hl)
theorem mx_s_tald (C : mx_C p s m args c cc own Ts D tc tb A nL Ok) (hd : decode cc pc = .ok (.iaload, 1)) : mx_So (mx_W p l e R s m args below meth c Q D tc tb A nL Ok) pc (mx_tald (pc + 1)) := by
  obtain ⟨hx, hb, hml, hown, hts, hK, hA, hZ, hOk⟩ := C
  intro lv st F ca sl h
  obtain ⟨i, t, r, n, f, rfl, ht, hin, h⟩ := h
  intro ad H locs ls h1 hP hD hS hl
  exact va_ti hx hb (hZ.2.1 t n f ht) hS hin rfl hd (h ad H locs ls h1 hP hD hS hl)
theorem mx_s_lald (C : mx_C p s m args c cc own Ts D tc tb A nL Ok) (hd : decode cc pc = .ok (.laload, 1)) : mx_So (mx_W p l e R s m args below meth c Q D tc tb A nL Ok) pc (mx_lald (pc + 1)) := by
  obtain ⟨hx, hb, hml, hown, hts, hK, hA, hZ, hOk⟩ := C
  intro lv st F ca sl h
  obtain ⟨i, q, r, n, f, rfl, hq, hin, h⟩ := h
  intro ad H locs ls h1 hP hD hS hl
  have hlt : i.toNatClampNeg < n := Nat.not_le.mp fun z => hin (Or.inr z)
  exact W.lald (v := .long (f i.toNatClampNeg)) hx hb (hP q _ hq) ((hK.2 1 _ (mx_t_get rfl)).1 n (fun j => .long (f j))) (fun z => by cases z) (by show ¬ (i < 0 ∨ (arrV _ _ _).slots.size ≤ _); rw [arrV_size]; exact hin) (by show (arrV _ _ _).slots[_]? = _; rw [arrV_read _ _ hlt]) rfl rfl hd (h ad H locs ls h1 hP hD hS hl)
theorem mx_s_aald (C : mx_C p s m args c cc own Ts D tc tb A nL Ok) (hd : decode cc pc = .ok (.aaload, 1)) : mx_So (mx_W p l e R s m args below meth c Q D tc tb A nL Ok) pc (mx_aald (pc + 1)) := by
  obtain ⟨hx, hb, hml, hown, hts, hK, hA, hZ, hOk⟩ := C
  intro lv st F ca sl h
  obtain ⟨i, q, r, t, n, f, u, rfl, hq, ⟨ty, hty, hrf⟩, hin, hu, h⟩ := h
  intro ad H locs ls h1 hP hD hS hl
  have hlt : i.toNatClampNeg < n := Nat.not_le.mp fun z => hin (Or.inr z)
  exact W.aald (v := .ref (ad u)) (ty := ty) hx hb (hP q _ hq) ((hK.2 t _ (mx_t_get hty)).1 n (fun j => va_rf ((f j).map ad))) hrf (fun z => by cases z) (by show ¬ (i < 0 ∨ (arrV _ _ _).slots.size ≤ _); rw [arrV_size]; exact hin) (by show (arrV _ _ _).slots[_]? = _; rw [arrV_read _ _ hlt]; show some (va_rf ((f i.toNatClampNeg).map ad)) = _; rw [hu]; rfl) rfl rfl hd (h ad H locs ls h1 hP hD hS hl)
theorem mx_s_iast (C : mx_C p s m args c cc own Ts D tc tb A nL Ok) (hd : decode cc pc = .ok (.iastore, 1)) : mx_So (mx_W p l e R s m args below meth c Q D tc tb A nL Ok) pc (mx_iast (pc + 1)) := by
  obtain ⟨hx, hb, hml, hown, hts, hK, hA, hZ, hOk⟩ := C
  intro lv st F ca sl h
  obtain ⟨x, i, q, r, n, f, rfl, hq, hin, h⟩ := h
  intro ad H locs ls h1 hP hD hS hl
  refine W.iast hx hb (hP q _ hq) ((hK.2 0 _ (mx_t_get rfl)).1 n (fun j => .int (f j))) (fun z => by cases z) (by show ¬ (i < 0 ∨ (arrV _ _ _).slots.size ≤ _); rw [arrV_size]; exact hin) rfl rfl hd fun H1 e9 z oq => ?_
  refine h ad H1 _ ls (hOk ad F _ (mx_in_put F q _) h1) (hP.set hD hq ?_ oq) (hD.set hq) (hS.put z oq (hD.2 q _ hq)) hl
  show H1[ad q]? = some (vp_cell _ _)
  rw [e9]
  show some (Cell.setSlot (vp_cell _ _) _ _) = _
  rw [vp_cell_i, vp_cell_i, arrV_store]
  congr 2
  funext j
  by_cases hj : j = i.toNatClampNeg
  · subst hj
    simp [updV, upd]
  · simp [updV, upd, hj]
theorem mx_s_last (C : mx_C p s m args c cc own Ts D tc tb A nL Ok) (hd : decode cc pc = .ok (.lastore, 1)) : mx_So (mx_W p l e R s m args below meth c Q D tc tb A nL Ok) pc (mx_last (pc + 1)) := by
  obtain ⟨hx, hb, hml, hown, hts, hK, hA, hZ, hOk⟩ := C
  intro lv st F ca sl h
  obtain ⟨x, i, q, r, n, f, rfl, hq, hin, h⟩ := h
  intro ad H locs ls h1 hP hD hS hl
  refine W.last hx hb (hP q _ hq) ((hK.2 1 _ (mx_t_get rfl)).1 n (fun j => .long (f j))) (fun z => by cases z) (by show ¬ (i < 0 ∨ (arrV _ _ _).slots.size ≤ _); rw [arrV_size]; exact hin) rfl rfl hd fun H1 e9 z oq => ?_
  refine h ad H1 _ ls (hOk ad F _ (mx_in_put F q _) h1) (hP.set hD hq ?_ oq) (hD.set hq) (hS.put z oq (hD.2 q _ hq)) hl
  show H1[ad q]? = some (vp_cell _ _)
  rw [e9]
  show some (Cell.setSlot (vp_cell _ _) _ _) = _
  rw [vp_cell_l, vp_cell_l, arrV_store]
  congr 2
  funext j
  by_cases hj : j = i.toNatClampNeg
  · subst hj
    simp [updV, vp_updL]
  · simp [updV, vp_updL, hj]
theorem mx_s_alen (C : mx_C p s m args c cc own Ts D tc tb A nL Ok) (hd : decode cc pc = .ok (.arraylength, 1)) : mx_So (mx_W p l e R s m args below meth c Q D tc tb A nL Ok) pc (mx_alen (pc + 1)) := by
  obtain ⟨hx, hb, hml, hown, hts, hK, hA, hZ, hOk⟩ := C
  intro lv st F ca sl h
  obtain ⟨q, r, n, f, rfl, hq, h⟩ := h
  intro ad H locs ls h1 hP hD hS hl
  exact W.alen (n := Int32.ofNat n) hx hb (hP q _ hq) ((hK.2 0 _ (mx_t_get rfl)).1 n (fun j => .int (f j))) (by show (arrV _ _ _).slots.size.toInt32 = _; rw [arrV_size] <;> rfl) rfl rfl hd (h ad H locs ls h1 hP hD hS hl)
theorem mx_s_gets (C : mx_C p s m args c cc own Ts D tc tb A nL Ok) {Cn nm ds ref : String} {t i : Nat} (hz : (Cn, nm, ds, t) ∈ mx_zs) (hl0 : Jvm.Cond.fieldLink own i ref nm ds ∈ Ts) (hr : Cn = ref) (hd : decode cc pc = .ok (.getstatic i, 3)) : mx_So (mx_W p l e R s m args below meth c Q D tc tb A nL Ok) pc (mx_gets t (pc + 3)) := by
  obtain ⟨hx, hb, hml, hown, hts, hK, hA, hZ, hOk⟩ := C
  intro lv st F ca sl h
  intro ad H locs ls h1 hP hD hS hl
  exact va_gets hx hb (hZ.1 _ hz) hS hown (hts _ hl0) (fun x h9 => by rw [← hr]; exact h9) hd (h ad H locs ls h1 hP hD hS hl)
end MXS
end
section
/-! CONTRACTS OVER WORLDS: entry, return, call -/
/-- the addresses stay, the places stay -/
def mx_Ok0 (a0 : Nat → Nat) (G : mx_F) : (Nat → Nat) → mx_F → Prop := fun ad F => ad = a0 ∧ mx_in G F
def mx_B (D : va_G) (tc : Nat → ClassId) (tb ad : Nat → Nat) (F : mx_F) (sz : Nat) : State → Prop := fun U => U.heap.size = sz ∧ mx_P D tc ad tb F U.heap ∧ va_K D vwCl (mx_t tc mx_ft) U ∧ mx_D (fun _ => True) ad F ∧ mx_Z tb (mx_A ad F sz) U U.heap
def mx_Q (D : va_G) (tc : Nat → ClassId) (tb ad : Nat → Nat) (F : mx_F) (sz : Nat) (P : Option mx_V → mx_F → Prop) : Array Value → State → Outcome → State → Prop := fun _ st oc t =>
  (∃ (r : Option mx_V) (F' : mx_F), oc = .returned (r.map (mx_v ad tb)) ∧ P r F' ∧ mx_in F F' ∧ mx_P D tc ad tb F' t.heap ∧ mx_D (mx_A ad F sz) ad F') ∧ va_F (mx_A ad F sz) st t
/-- a contract: what the specification asks for gives what the answer and the world must be; no cell is made -/
def mx_M (l : Launch) (y : MethodName) (ws : List Cond) (rm : Room) (sp : mx_Sp) : Prop := ∀ (D : va_G) (tc : Nat → ClassId) (tb ad : Nat → Nat) (As : List mx_V) (F : mx_F) (P : Option mx_V → mx_F → Prop) (sz : Nat), sp As F P →
  Met l y ws rm (va_Pc (As.map (mx_v ad tb)) (mx_B D tc tb ad F sz)) (mx_Q D tc tb ad F sz P) 0 0 (mx_A ad F sz)
theorem mx_blind {D : va_G} {tc : Nat → ClassId} {tb ad : Nat → Nat} {F : mx_F} {sz : Nat} {av : List Value} : FrameBlind (va_Pc av (mx_B D tc tb ad F sz)) := by
  intro a U g mk q
  obtain ⟨q0, q1, qP, qK, qD, qZ⟩ := q
  exact ⟨q0, q1, qP, va_K.moved (u := U) (U := U.calling g mk a) (Vm.Alike.refl U.vm) qK, qD, qZ.to (U := U.calling g mk a) (Vm.Alike.refl U.vm) (mx_nw_same rfl) (fun _ _ _ => rfl) (fun _ h => h)⟩
-- the locals at the entry
def mx_ar : List mx_V → mx_L
  | [] => []
  | v :: r => match v with
    | .inr (.inl _) => some v :: none :: mx_ar r
    | _ => some v :: mx_ar r
def mx_en (As : List mx_V) (n : Nat) : mx_L := mx_ar As ++ List.replicate (n - (mx_ar As).length) none
theorem mx_ar_len (ad tb : Nat → Nat) (As : List mx_V) : (lg_sl (As.map (mx_v ad tb))).length = (mx_ar As).length := by
  induction As with
  | nil => rfl
  | cons v r ih =>
    have e1 : lg_sl ((v :: r).map (mx_v ad tb)) = (if (mx_v ad tb v).category = 2 then [.val (mx_v ad tb v), .second] else [.val (mx_v ad tb v)]) ++ lg_sl (r.map (mx_v ad tb)) := by
      simp [lg_sl]
    rw [e1, List.length_append, ih, mx_cat_v]
    rcases v with x | x | x | x <;> simp [mx_ar, mx_cat] <;> omega
theorem mx_ar_mem (ad tb : Nat → Nat) : ∀ (As : List mx_V) (i j : Nat) (w : mx_V), (mx_ar As)[j]? = some (some w) → (i + j, mx_v ad tb w) ∈ lv_args i (As.map (mx_v ad tb))
  | [], _, _, _, h => by simp [mx_ar] at h
  | v :: r, i, j, w, h => by
    have ih := mx_ar_mem ad tb r
    have e2 : lv_args i ((v :: r).map (mx_v ad tb)) = (i, mx_v ad tb v) :: lv_args (if (mx_v ad tb v).category = 2 then i + 2 else i + 1) (r.map (mx_v ad tb)) := rfl
    rw [e2, mx_cat_v]
    have one : ∀ (hc : mx_cat v ≠ 2) (h : (some v :: mx_ar r)[j]? = some (some w)), (i + j, mx_v ad tb w) ∈ (i, mx_v ad tb v) :: lv_args (if mx_cat v = 2 then i + 2 else i + 1) (r.map (mx_v ad tb)) := by
      intro hc h
      cases j with
      | zero =>
        simp at h
        subst h
        exact List.mem_cons_self
      | succ k =>
        rw [List.getElem?_cons_succ] at h
        rw [if_neg hc]
        have := ih (i + 1) k w h
        rw [show i + (k + 1) = i + 1 + k by omega]
        exact List.mem_cons_of_mem _ this
    rcases v with x | x | x | x
    · exact one (show (1 : Nat) ≠ 2 by decide) h
    · have h' : (some (Sum.inr (Sum.inl x)) :: none :: mx_ar r)[j]? = some (some w) := h
      match j, h' with
      | 0, h' =>
        simp at h'
        subst h'
        exact List.mem_cons_self
      | 1, h' => simp at h'
      | k + 2, h' =>
        rw [List.getElem?_cons_succ, List.getElem?_cons_succ] at h'
        have := ih (i + 2) k w h'
        rw [show i + (k + 2) = i + 2 + k by omega]
        exact List.mem_cons_of_mem _ this
    · exact one (show (1 : Nat) ≠ 2 by decide) h
    · exact one (show (1 : Nat) ≠ 2 by decide) h
theorem mx_entry {ad tb : Nat → Nat} {As : List mx_V} {n : Nat} (h : (mx_ar As).length ≤ n) : mx_H ad tb ((lg_sl (As.map (mx_v ad tb)) ++ List.replicate (n - (lg_sl (As.map (mx_v ad tb))).length) Slot.unset).toArray) n (mx_en As n) := by
  have hl := lv_entry (As.map (mx_v ad tb)) (n := n) (by rw [mx_ar_len]; exact h)
  refine ⟨by simp [mx_en]; omega, hl.1, hl.2.1, fun q hq => hl.2.2 q ?_⟩
  obtain ⟨w, h1, h2⟩ := mx_ls_mem.mp hq
  obtain ⟨j, x⟩ := q
  dsimp only at h1 h2
  unfold mx_en at h1
  rw [List.getElem?_append] at h1
  split at h1
  · have := mx_ar_mem ad tb As 0 j w h1
    rw [Nat.zero_add] at this
    rw [h2]
    exact this
  · rw [List.getElem?_replicate] at h1
    split at h1 <;> simp at h1
/-- a method's contract out of the walk of its body -/
theorem mx_enter {l : Launch} {y : MethodName} {ws ws' : List Cond} {rm : Room} {cc : ByteArray} {maxL : Nat} {ret : Option FieldType} (hy : plainName y.cls = true) (hw : ws = Cond.code y cc maxL ret :: ws') (D : va_G) (tc : Nat → ClassId) (tb ad : Nat → Nat) (As : List mx_V) (F : mx_F) (P : Option mx_V → mx_F → Prop) (sz : Nat) (hn : (mx_ar As).length ≤ maxL)
    (body : ∀ (p : Program) (e : Env) (s : State) (m : MethodId) (args : Array Value) (below : List Frame) (meth : Method) (c : Code), mx_C p s m args c cc y.cls ws D tc tb (mx_A ad F sz) maxL (mx_Ok0 ad F) → meth.sig.returnType = ret → meth.locks = false →
      mx_W p l e rm s m args below meth c (MQ below (mx_Q D tc tb ad F sz P) args s 0 0 (mx_A ad F sz)) D tc tb (mx_A ad F sz) maxL (mx_Ok0 ad F) 0 (mx_en As maxL) [] F 0 0) :
    Met l y ws rm (va_Pc (As.map (mx_v ad tb)) (mx_B D tc tb ad F sz)) (mx_Q D tc tb ad F sz P) 0 0 (mx_A ad F sz) := by
  refine Met.ofW (cc := cc) (maxL := maxL) (ret := ret) hy hw ?_
  intro p e s m args below meth c s₁ B hml hv
  obtain ⟨rfl, hsz, hP, hK, hD0, hZ⟩ := hv
  subst hsz
  have hD : mx_D (mx_A ad F s.heap.size) ad F := ⟨hD0.1, fun k x hx => Or.inl ⟨k, x, hx, rfl⟩⟩
  have hW := body p e s m _ below meth c ⟨B.exec, B.bytes, hml, findClass_of_methodNamed B.named, atoms_spec (ws := ws) B.pre, hK, fun q hq => Or.inr hq, hZ, fun a2 G G' h1 h2 => ⟨h2.1, mx_in_tr h2.2 h1⟩⟩ B.returns B.notSynchronized
  rw [lg_entry_eq]
  exact hW ad s.heap [] _ ⟨rfl, mx_in_rf F⟩ hP hD va_S.rf (mx_entry hn)
section MXR
variable {p : Program} {l : Launch} {e : Env} {R : Room} {s : State} {m : MethodId} {args : Array Value} {below : List Frame} {meth : Method} {c : Code} {cc : ByteArray} {own : String} {Ts : List Cond} {D : va_G} {tc : Nat → ClassId} {tb : Nat → Nat} {nL pc sz : Nat} {a0 : Nat → Nat} {G : mx_F} {P : Option mx_V → mx_F → Prop}
theorem mx_s_ret (C : mx_C p s m args c cc own Ts D tc tb (mx_A a0 G sz) nL (mx_Ok0 a0 G)) (hr : meth.sig.returnType = none) (hlk : meth.locks = false) (hd : decode cc pc = .ok (.return_, 1)) : mx_So (mx_W p l e R s m args below meth c (MQ below (mx_Q D tc tb a0 G sz P) args s 0 0 (mx_A a0 G sz)) D tc tb (mx_A a0 G sz) nL (mx_Ok0 a0 G)) pc (mx_ret P) := by
  obtain ⟨hx, hb, hml, hown, hts, hK, hA, hZ, hOk⟩ := C
  intro lv st F ca sl h
  obtain ⟨rfl, rfl, rfl, h⟩ := h
  intro ad H locs ls h1 hP hD hS hl
  obtain ⟨rfl, hin⟩ := h1
  exact W.vret hx hb hr (fun t ht hW => ⟨⟨none, F, rfl, h, hin, by rw [ht]; exact hP, hD⟩, hS.F ht⟩) hS.2.2 hd hlk
theorem mx_s_iret (C : mx_C p s m args c cc own Ts D tc tb (mx_A a0 G sz) nL (mx_Ok0 a0 G)) (hr : meth.sig.returnType = some .int) (hlk : meth.locks = false) (hd : decode cc pc = .ok (.ireturn, 1)) : mx_So (mx_W p l e R s m args below meth c (MQ below (mx_Q D tc tb a0 G sz P) args s 0 0 (mx_A a0 G sz)) D tc tb (mx_A a0 G sz) nL (mx_Ok0 a0 G)) pc (mx_iret P) := by
  obtain ⟨hx, hb, hml, hown, hts, hK, hA, hZ, hOk⟩ := C
  intro lv st F ca sl h
  obtain ⟨x, rfl, rfl, rfl, h⟩ := h
  intro ad H locs ls h1 hP hD hS hl
  obtain ⟨rfl, hin⟩ := h1
  exact W.iret (v := x) hx hb hr (fun t ht hW => ⟨⟨some (.inl x), F, rfl, h, hin, by rw [ht]; exact hP, hD⟩, hS.F ht⟩) hS.2.2 hd hlk
theorem mx_s_zret (C : mx_C p s m args c cc own Ts D tc tb (mx_A a0 G sz) nL (mx_Ok0 a0 G)) (hr : meth.sig.returnType = some .boolean) (hlk : meth.locks = false) (hd : decode cc pc = .ok (.ireturn, 1)) : mx_So (mx_W p l e R s m args below meth c (MQ below (mx_Q D tc tb a0 G sz P) args s 0 0 (mx_A a0 G sz)) D tc tb (mx_A a0 G sz) nL (mx_Ok0 a0 G)) pc (mx_zret P) := by
  obtain ⟨hx, hb, hml, hown, hts, hK, hA, hZ, hOk⟩ := C
  intro lv st F ca sl h
  obtain ⟨x, rfl, rfl, rfl, hx01, h⟩ := h
  intro ad H locs ls h1 hP hD hS hl
  obtain ⟨rfl, hin⟩ := h1
  have hn : narrow .boolean (.int x) = .int x := by
    rcases hx01 with rfl | rfl <;> rfl
  exact W.zret (v := x) hx hb hr hn (fun t ht hW => ⟨⟨some (.inl x), F, rfl, h, hin, by rw [ht]; exact hP, hD⟩, hS.F ht⟩) hS.2.2 hd hlk
theorem mx_s_lret (C : mx_C p s m args c cc own Ts D tc tb (mx_A a0 G sz) nL (mx_Ok0 a0 G)) (hr : meth.sig.returnType = some .long) (hlk : meth.locks = false) (hd : decode cc pc = .ok (.lreturn, 1)) : mx_So (mx_W p l e R s m args below meth c (MQ below (mx_Q D tc tb a0 G sz P) args s 0 0 (mx_A a0 G sz)) D tc tb (mx_A a0 G sz) nL (mx_Ok0 a0 G)) pc (mx_lret P) := by
  obtain ⟨hx, hb, hml, hown, hts, hK, hA, hZ, hOk⟩ := C
  intro lv st F ca sl h
  obtain ⟨x, rfl, rfl, rfl, h⟩ := h
  intro ad H locs ls h1 hP hD hS hl
  obtain ⟨rfl, hin⟩ := h1
  exact W.lret (v := x) hx hb hr (fun t ht hW => ⟨⟨some (.inr (.inl x)), F, rfl, h, hin, by rw [ht]; exact hP, hD⟩, hS.F ht⟩) hS.2.2 hd hlk
end MXR
section MXG
variable {p : Program} {l : Launch} {e : Env} {R : Room} {s : State} {m : MethodId} {args : Array Value} {below : List Frame} {meth : Method} {c : Code} {Q : State → Prop} {cc : ByteArray} {own : String} {Ts : List Cond} {D : va_G} {tc : Nat → ClassId} {tb : Nat → Nat} {A : Nat → Prop} {nL : Nat} {Ok : (Nat → Nat) → mx_F → Prop} {pc : Nat}
theorem mx_after (C : mx_C p s m args c cc own Ts D tc tb A nL Ok) {ad : Nat → Nat} {F : mx_F} {H : Heap} {locs : List Loc} {ls : Array Slot} {lv : mx_L} {r : mx_S} {st0 : List Value} {a : Array Value} {ca sl : Nat}
    (hr : va_Run p l e R s m args below meth c H locs ca sl 0 0 (F0 m pc ls st0) (r.map (mx_v ad tb)) (mx_Q D tc tb ad F H.size (mx_k (pc + 3) lv r ca sl (mx_W p l e R s m args below meth c Q D tc tb A nL Ok)) a) (mx_A ad F H.size))
    (h1 : Ok ad F) (hD : mx_D A ad F) (hS : va_S A s.heap H locs) (hl : mx_H ad tb ls nL lv) : W p l e R s m args below meth c H locs ca sl Q (F0 m pc ls st0) := by
  obtain ⟨hx, hb, hml, hown, hts, hK, hA, hZ, hOk⟩ := C
  intro T hT X
  obtain ⟨v, st₀, t, T', L, h0, X', hL, e1, e2, ⟨⟨rv, F', hv, hk, hin, hP', hD'⟩, hz, hkp⟩, st⟩ := hr T hT X
  have hv2 : v = rv.map (mx_v ad tb) := by cases hv; rfl
  subst hv2
  rw [h0] at hz hkp
  have hF : ∀ q, mx_A ad F H.size q → A q := by
    intro q hq
    rcases hq with ⟨k, x, hx2, rfl⟩ | hq
    · exact hD.2 k x hx2
    · exact hA q (Nat.le_trans hS.1 hq)
  have hD2 : mx_D A ad F' := ⟨hD'.1, fun k x hx2 => hF _ (hD'.2 k x hx2)⟩
  have hS2 : va_S A s.heap T'.heap (locs ++ L) := ⟨Nat.le_trans hS.1 (by rw [e1]; exact hz), fun q g1 g2 => by rw [e1, hkp q (Nat.lt_of_lt_of_le g1 hS.1) (fun z => g2 (hF q z))]; exact hS.2.1 q g1 g2, fun q hq => by
      rcases List.mem_append.mp hq with h | h
      · exact hS.2.2 q h
      · exact hF _ (hL q h)⟩
  cases rv with
  | none =>
    obtain ⟨t2, a1, b1⟩ := hk ad T'.heap (locs ++ L) ls (hOk ad F F' hin h1) (by rw [e1]; exact hP') hD2 hS2 hl T' rfl X'
    exact ⟨t2, st t2 a1, b1⟩
  | some x =>
    obtain ⟨t2, a1, b1⟩ := hk ad T'.heap (locs ++ L) ls (hOk ad F F' hin h1) (by rw [e1]; exact hP') hD2 hS2 hl T' rfl X'
    exact ⟨t2, st t2 a1, b1⟩
theorem mx_pre (C : mx_C p s m args c cc own Ts D tc tb A nL Ok) {ad : Nat → Nat} {F : mx_F} {H : Heap} {locs : List Loc} {As : List mx_V} (hP : mx_P D tc ad tb F H) (hD : mx_D A ad F) (hS : va_S A s.heap H locs) (U : State) (hU : U.heap = H) (hW : s.WarmedH U.vm) : va_Pc (As.map (mx_v ad tb)) (mx_B D tc tb ad F H.size) (As.map (mx_v ad tb)).toArray U := by
  obtain ⟨hx, hb, hml, hown, hts, hK, hA, hZ, hOk⟩ := C
  subst hU
  refine ⟨rfl, rfl, hP, va_K.moved hW.alike hK, ⟨hD.1, fun _ _ _ => trivial⟩, hZ.to hW.alike (mx_nw_warm hW) hS.2.1 ?_⟩
  intro q hq
  rcases hq with ⟨k, x, hx2, rfl⟩ | hq
  · exact hD.2 k x hx2
  · exact hA q (Nat.le_trans hS.1 hq)
theorem mx_recv (C : mx_C p s m args c cc own Ts D tc tb A nL Ok) {ad : Nat → Nat} {F : mx_F} {H : Heap} {q ci N : Nat} {Cn : String} {T : u_T} {fs : List mx_V} (hc : vwCl[ci]? = some (Cn, T, N)) (hP : mx_P D tc ad tb F H) (hq : F q = some (.inr (.inr (.inr (ci, fs))))) : ∃ cell : Cell, H[ad q]? = some cell ∧ cell.vm.isStatics = false ∧ s.vm.findClass Cn = some cell.cls := by
  obtain ⟨hx, hb, hml, hown, hts, hK, hA, hZ, hOk⟩ := C
  obtain ⟨r, h1, cell, g1, g2, g3, -⟩ := hP q _ hq
  exact ⟨cell, g1, by rw [g3]; rfl, by rw [g2]; exact (hK.1 ci _ hc).2.1⟩
theorem mx_room {r : mx_S} {ad : Nat → Nat} {ls : Array Slot} {st : List Value} (h : mx_cs r ≤ 8) : 2 * (F0 m pc ls st).monitorRoom + ((r.map (mx_v ad tb)).map fun v => v.category).sum ≤ 8 := by
  exact lv_room (by rw [mx_cs_map]; exact h)
variable {y : MethodName} {ws : List Cond} {rm : Room} {sp : mx_Sp} {bytes : ByteArray} {maxL n i : Nat} {ret : Option FieldType} {Cn : String}
/-- a virtual call -/
theorem mx_cvW (C : mx_C p s m args c cc own Ts D tc tb A nL Ok) (hM : mx_M l y ws rm sp) {T : u_T} {N ci : Nat} (hc : vwCl[ci]? = some (Cn, T, N)) (cw : CallW R s args own Cn i y bytes maxL ret ws rm 0 0 n) (hd : decode cc pc = .ok (.invokevirtual i, 3)) {q : Nat} {fs : List mx_V} {As : List mx_V} {r : mx_S} {lv : mx_L} {F : mx_F} (hq : F q = some (.inr (.inr (.inr (ci, fs))))) (hn : As.length = n) (h8 : mx_cs r ≤ 8) {ca sl : Nat} (hf : ca ≤ R.cells ∧ sl ≤ R.slots)
    (h : sp (mx_r q :: As) F (mx_k (pc + 3) lv r ca sl (mx_W p l e R s m args below meth c Q D tc tb A nL Ok))) : mx_W p l e R s m args below meth c Q D tc tb A nL Ok pc lv (As.reverse ++ mx_r q :: r) F ca sl := by
  intro ad H locs ls h1 hP hD hS hl
  refine mx_after (r := r) (lv := lv) C (va_runV (As := As.map (mx_v ad tb)) (rest := r.map (mx_v ad tb)) (b := ad q) ⟨C.1, C.2.1, C.2.2.1, C.2.2.2.1, C.2.2.2.2.1⟩ (hM D tc tb ad (mx_r q :: As) F _ H.size h) cw ⟨mx_blind, mx_recv C hc hP hq, fun U hU hW => mx_pre (As := mx_r q :: As) C hP hD hS U hU hW⟩ rfl (by rw [List.length_map]; exact hn) hl.2.1 ?_ (mx_room h8) hd hf) h1 hD hS hl
  show (As.reverse ++ mx_r q :: r).map (mx_v ad tb) = _
  rw [List.map_append, List.map_reverse]
  rfl
/-- a static call -/
theorem mx_csW (C : mx_C p s m args c cc own Ts D tc tb A nL Ok) (hM : mx_M l y ws rm sp) (cw : CallB R s args own i y bytes maxL ret ws rm 0 0 n ∧ (Cond.static y).before args s = true) (hd : decode cc pc = .ok (.invokestatic i, 3)) {As : List mx_V} {r : mx_S} {lv : mx_L} {F : mx_F} (hn : As.length = n) (h8 : mx_cs r ≤ 8) {ca sl : Nat} (hf : ca ≤ R.cells ∧ sl ≤ R.slots)
    (h : sp As F (mx_k (pc + 3) lv r ca sl (mx_W p l e R s m args below meth c Q D tc tb A nL Ok))) : mx_W p l e R s m args below meth c Q D tc tb A nL Ok pc lv (As.reverse ++ r) F ca sl := by
  intro ad H locs ls h1 hP hD hS hl
  refine mx_after (r := r) (lv := lv) C (va_runS (As := As.map (mx_v ad tb)) (rest := r.map (mx_v ad tb)) ⟨C.1, C.2.1, C.2.2.1, C.2.2.2.1, C.2.2.2.2.1⟩ (hM D tc tb ad As F _ H.size h) cw ⟨mx_blind, fun U hU hW => mx_pre (As := As) C hP hD hS U hU hW⟩ rfl (by rw [List.length_map]; exact hn) hl.2.1 ?_ (mx_room h8) hd hf) h1 hD hS hl
  show (As.reverse ++ r).map (mx_v ad tb) = _
  rw [List.map_append, List.map_reverse]
theorem mx_s_cv0 (C : mx_C p s m args c cc own Ts D tc tb A nL Ok) (hM : mx_M l y ws rm sp) {T : u_T} {N ci : Nat} (hc : vwCl[ci]? = some (Cn, T, N)) (cw : CallW R s args own Cn i y bytes maxL ret ws rm 0 0 0) (hd : decode cc pc = .ok (.invokevirtual i, 3)) {mc ms : Nat} (hR : mc ≤ R.cells ∧ ms ≤ R.slots) : mx_So (mx_W p l e R s m args below meth c Q D tc tb A nL Ok) pc (mx_cv0 ci sp mc ms (pc + 3)) := by
  intro lv st F ca sl h
  obtain ⟨q, r, fs, rfl, hq, h8, g1, g2, h⟩ := h
  exact mx_cvW (As := []) C hM hc cw hd hq rfl (Nat.le_of_ble_eq_true h8) ⟨Nat.le_trans (Nat.le_of_ble_eq_true g1) hR.1, Nat.le_trans (Nat.le_of_ble_eq_true g2) hR.2⟩ h
theorem mx_s_cv1 (C : mx_C p s m args c cc own Ts D tc tb A nL Ok) (hM : mx_M l y ws rm sp) {T : u_T} {N ci : Nat} (hc : vwCl[ci]? = some (Cn, T, N)) (cw : CallW R s args own Cn i y bytes maxL ret ws rm 0 0 1) (hd : decode cc pc = .ok (.invokevirtual i, 3)) {mc ms : Nat} (hR : mc ≤ R.cells ∧ ms ≤ R.slots) : mx_So (mx_W p l e R s m args below meth c Q D tc tb A nL Ok) pc (mx_cv1 ci sp mc ms (pc + 3)) := by
  intro lv st F ca sl h
  obtain ⟨q, a1, r, fs, rfl, hq, h8, g1, g2, h⟩ := h
  exact mx_cvW (As := [a1]) C hM hc cw hd hq rfl (Nat.le_of_ble_eq_true h8) ⟨Nat.le_trans (Nat.le_of_ble_eq_true g1) hR.1, Nat.le_trans (Nat.le_of_ble_eq_true g2) hR.2⟩ h
theorem mx_s_cv2 (C : mx_C p s m args c cc own Ts D tc tb A nL Ok) (hM : mx_M l y ws rm sp) {T : u_T} {N ci : Nat} (hc : vwCl[ci]? = some (Cn, T, N)) (cw : CallW R s args own Cn i y bytes maxL ret ws rm 0 0 2) (hd : decode cc pc = .ok (.invokevirtual i, 3)) {mc ms : Nat} (hR : mc ≤ R.cells ∧ ms ≤ R.slots) : mx_So (mx_W p l e R s m args below meth c Q D tc tb A nL Ok) pc (mx_cv2 ci sp mc ms (pc + 3)) := by
  intro lv st F ca sl h
  obtain ⟨q, a1, a2, r, fs, rfl, hq, h8, g1, g2, h⟩ := h
  exact mx_cvW (As := [a1, a2]) C hM hc cw hd hq rfl (Nat.le_of_ble_eq_true h8) ⟨Nat.le_trans (Nat.le_of_ble_eq_true g1) hR.1, Nat.le_trans (Nat.le_of_ble_eq_true g2) hR.2⟩ h
theorem mx_s_cv3 (C : mx_C p s m args c cc own Ts D tc tb A nL Ok) (hM : mx_M l y ws rm sp) {T : u_T} {N ci : Nat} (hc : vwCl[ci]? = some (Cn, T, N)) (cw : CallW R s args own Cn i y bytes maxL ret ws rm 0 0 3) (hd : decode cc pc = .ok (.invokevirtual i, 3)) {mc ms : Nat} (hR : mc ≤ R.cells ∧ ms ≤ R.slots) : mx_So (mx_W p l e R s m args below meth c Q D tc tb A nL Ok) pc (mx_cv3 ci sp mc ms (pc + 3)) := by
  intro lv st F ca sl h
  obtain ⟨q, a1, a2, a3, r, fs, rfl, hq, h8, g1, g2, h⟩ := h
  exact mx_cvW (As := [a1, a2, a3]) C hM hc cw hd hq rfl (Nat.le_of_ble_eq_true h8) ⟨Nat.le_trans (Nat.le_of_ble_eq_true g1) hR.1, Nat.le_trans (Nat.le_of_ble_eq_true g2) hR.2⟩ h
theorem mx_s_cv4 (C : mx_C p s m args c cc own Ts D tc tb A nL Ok) (hM : mx_M l y ws rm sp) {T : u_T} {N ci : Nat} (hc : vwCl[ci]? = some (Cn, T, N)) (cw : CallW R s args own Cn i y bytes maxL ret ws rm 0 0 4) (hd : decode cc pc = .ok (.invokevirtual i, 3)) {mc ms : Nat} (hR : mc ≤ R.cells ∧ ms ≤ R.slots) : mx_So (mx_W p l e R s m args below meth c Q D tc tb A nL Ok) pc (mx_cv4 ci sp mc ms (pc + 3)) := by
  intro lv st F ca sl h
  obtain ⟨q, a1, a2, a3, a4, r, fs, rfl, hq, h8, g1, g2, h⟩ := h
  exact mx_cvW (As := [a1, a2, a3, a4]) C hM hc cw hd hq rfl (Nat.le_of_ble_eq_true h8) ⟨Nat.le_trans (Nat.le_of_ble_eq_true g1) hR.1, Nat.le_trans (Nat.le_of_ble_eq_true g2) hR.2⟩ h
theorem mx_s_cv5 (C : mx_C p s m args c cc own Ts D tc tb A nL Ok) (hM : mx_M l y ws rm sp) {T : u_T} {N ci : Nat} (hc : vwCl[ci]? = some (Cn, T, N)) (cw : CallW R s args own Cn i y bytes maxL ret ws rm 0 0 5) (hd : decode cc pc = .ok (.invokevirtual i, 3)) {mc ms : Nat} (hR : mc ≤ R.cells ∧ ms ≤ R.slots) : mx_So (mx_W p l e R s m args below meth c Q D tc tb A nL Ok) pc (mx_cv5 ci sp mc ms (pc + 3)) := by
  intro lv st F ca sl h
  obtain ⟨q, a1, a2, a3, a4, a5, r, fs, rfl, hq, h8, g1, g2, h⟩ := h
  exact mx_cvW (As := [a1, a2, a3, a4, a5]) C hM hc cw hd hq rfl (Nat.le_of_ble_eq_true h8) ⟨Nat.le_trans (Nat.le_of_ble_eq_true g1) hR.1, Nat.le_trans (Nat.le_of_ble_eq_true g2) hR.2⟩ h
theorem mx_s_cs1 (C : mx_C p s m args c cc own Ts D tc tb A nL Ok) (hM : mx_M l y ws rm sp) (cw : CallB R s args own i y bytes maxL ret ws rm 0 0 1 ∧ (Cond.static y).before args s = true) (hd : decode cc pc = .ok (.invokestatic i, 3)) {mc ms : Nat} (hR : mc ≤ R.cells ∧ ms ≤ R.slots) : mx_So (mx_W p l e R s m args below meth c Q D tc tb A nL Ok) pc (mx_cs1 sp mc ms (pc + 3)) := by
  intro lv st F ca sl h
  obtain ⟨a0, r, rfl, h8, g1, g2, h⟩ := h
  exact mx_csW (As := [a0]) C hM cw hd rfl (Nat.le_of_ble_eq_true h8) ⟨Nat.le_trans (Nat.le_of_ble_eq_true g1) hR.1, Nat.le_trans (Nat.le_of_ble_eq_true g2) hR.2⟩ h
theorem mx_s_cs2 (C : mx_C p s m args c cc own Ts D tc tb A nL Ok) (hM : mx_M l y ws rm sp) (cw : CallB R s args own i y bytes maxL ret ws rm 0 0 2 ∧ (Cond.static y).before args s = true) (hd : decode cc pc = .ok (.invokestatic i, 3)) {mc ms : Nat} (hR : mc ≤ R.cells ∧ ms ≤ R.slots) : mx_So (mx_W p l e R s m args below meth c Q D tc tb A nL Ok) pc (mx_cs2 sp mc ms (pc + 3)) := by
  intro lv st F ca sl h
  obtain ⟨a0, a1, r, rfl, h8, g1, g2, h⟩ := h
  exact mx_csW (As := [a0, a1]) C hM cw hd rfl (Nat.le_of_ble_eq_true h8) ⟨Nat.le_trans (Nat.le_of_ble_eq_true g1) hR.1, Nat.le_trans (Nat.le_of_ble_eq_true g2) hR.2⟩ h
theorem mx_s_cs3 (C : mx_C p s m args c cc own Ts D tc tb A nL Ok) (hM : mx_M l y ws rm sp) (cw : CallB R s args own i y bytes maxL ret ws rm 0 0 3 ∧ (Cond.static y).before args s = true) (hd : decode cc pc = .ok (.invokestatic i, 3)) {mc ms : Nat} (hR : mc ≤ R.cells ∧ ms ≤ R.slots) : mx_So (mx_W p l e R s m args below meth c Q D tc tb A nL Ok) pc (mx_cs3 sp mc ms (pc + 3)) := by
  intro lv st F ca sl h
  obtain ⟨a0, a1, a2, r, rfl, h8, g1, g2, h⟩ := h
  exact mx_csW (As := [a0, a1, a2]) C hM cw hd rfl (Nat.le_of_ble_eq_true h8) ⟨Nat.le_trans (Nat.le_of_ble_eq_true g1) hR.1, Nat.le_trans (Nat.le_of_ble_eq_true g2) hR.2⟩ h
theorem mx_s_cs4 (C : mx_C p s m args c cc own Ts D tc tb A nL Ok) (hM : mx_M l y ws rm sp) (cw : CallB R s args own i y bytes maxL ret ws rm 0 0 4 ∧ (Cond.static y).before args s = true) (hd : decode cc pc = .ok (.invokestatic i, 3)) {mc ms : Nat} (hR : mc ≤ R.cells ∧ ms ≤ R.slots) : mx_So (mx_W p l e R s m args below meth c Q D tc tb A nL Ok) pc (mx_cs4 sp mc ms (pc + 3)) := by
  intro lv st F ca sl h
  obtain ⟨a0, a1, a2, a3, r, rfl, h8, g1, g2, h⟩ := h
  exact mx_csW (As := [a0, a1, a2, a3]) C hM cw hd rfl (Nat.le_of_ble_eq_true h8) ⟨Nat.le_trans (Nat.le_of_ble_eq_true g1) hR.1, Nat.le_trans (Nat.le_of_ble_eq_true g2) hR.2⟩ h
end MXG
end
section
/-! METHODS THAT MAKE CELLS: constructors, the law -/
def mx_noE (k : Nat) : mx_E → Prop
  | .inr (.inr (.inl (_, _, f))) => ∀ i, f i ≠ some k
  | .inr (.inr (.inr (_, fs))) => ∀ v ∈ fs, v ≠ mx_r k
  | _ => True
/-- nothing in the world points to k -/
def mx_no (k : Nat) (F : mx_F) : Prop := ∀ (j : Nat) (x : mx_E), F j = some x → mx_noE k x
theorem mx_no_put {k j : Nat} {F : mx_F} {e : mx_E} (h : mx_no k F) (he : mx_noE k e) : mx_no k (mx_put F j e) := by
  intro i x hx
  rcases mx_put_or hx with ⟨rfl, rfl⟩ | ⟨_, hx⟩
  · exact he
  · exact h i x hx
theorem mx_v_up {k q : Nat} {ad tb : Nat → Nat} {v : mx_V} (h : v ≠ mx_r k) : mx_v (va_up ad k q) tb v = mx_v ad tb v := by
  rcases v with x | x | (_ | x) | x
  · rfl
  · rfl
  · rfl
  · have hx : x ≠ k := fun z => h (by rw [z])
    show Value.ref (va_up ad k q x) = Value.ref (ad x)
    rw [va_up_ne _ _ hx]
  · rfl
theorem mx_e_up {k q : Nat} {tc : Nat → ClassId} {ad tb : Nat → Nat} {x : mx_E} (h : mx_noE k x) : mx_e tc (va_up ad k q) tb x = mx_e tc ad tb x := by
  rcases x with ⟨t, n, f⟩ | ⟨t, n, f⟩ | ⟨t, n, f⟩ | ⟨ci, fs⟩
  · rfl
  · rfl
  · have h2 : (fun j => (f j).map (va_up ad k q)) = (fun j => (f j).map ad) := by
      funext j
      cases hj : f j with
      | none => rfl
      | some z =>
        have hz : z ≠ k := fun w => h j (by rw [hj, w])
        show some (va_up ad k q z) = some (ad z)
        rw [va_up_ne _ _ hz]
    show (Sum.inl (tc t, n, Sum.inr (Sum.inr (Sum.inr (Sum.inr (fun j => (f j).map (va_up ad k q)))))) : va_E) = _
    rw [h2]
    rfl
  · have h2 : fs.map (mx_v (va_up ad k q) tb) = fs.map (mx_v ad tb) := List.map_congr_left fun v hv => mx_v_up (h v hv)
    show (Sum.inr (ci, fs.map (mx_v (va_up ad k q) tb)) : va_E) = _
    rw [h2]
    rfl
theorem mx_fresh {D : va_G} {tc : Nat → ClassId} {tb ad : Nat → Nat} {F : mx_F} {H H1 : Heap} {A : Nat → Prop} {k : Nat} {x : mx_E} (hP : mx_P D tc ad tb F H) (hD : mx_D A ad F) (hno : mx_no k F) (hne : mx_noE k x) (hA : A H.size) (hkept : ∀ z : Nat, z < H.size → H1[z]? = H[z]?) (hat : va_at D vwCl (H.size, mx_e tc ad tb x) H1) : mx_P D tc (va_up ad k H.size) tb (mx_put F k x) H1 ∧ mx_D A (va_up ad k H.size) (mx_put F k x) := by
  have hlt : ∀ (j : Nat) (y : mx_E), F j = some y → ad j < H.size := fun j y hy => (hP j y hy).lt
  refine ⟨fun j y hy => ?_, fun i j y z hy hz hij => ?_, fun j y hy => ?_⟩
  · rcases mx_put_or hy with ⟨rfl, rfl⟩ | ⟨hj, hy⟩
    · rw [va_up_self, mx_e_up hne]
      exact hat
    · rw [va_up_ne _ _ hj, mx_e_up (hno j y hy)]
      exact (hP j y hy).kept (hkept _ (hlt j y hy))
  · rcases mx_put_or hy with ⟨e1, e2⟩ | ⟨hi, hy2⟩
    · rcases mx_put_or hz with ⟨e3, e4⟩ | ⟨hj, hz2⟩
      · rw [e1, e3]
      · rw [e1, va_up_self, va_up_ne _ _ hj] at hij
        have := hlt j z hz2
        omega
    · rcases mx_put_or hz with ⟨e3, e4⟩ | ⟨hj, hz2⟩
      · rw [e3, va_up_self, va_up_ne _ _ hi] at hij
        have := hlt i y hy2
        omega
      · rw [va_up_ne _ _ hi, va_up_ne _ _ hj] at hij
        exact hD.1 i j y z hy2 hz2 hij
  · rcases mx_put_or hy with ⟨rfl, rfl⟩ | ⟨hj, hy⟩
    · rw [va_up_self]
      exact hA
    · rw [va_up_ne _ _ hj]
      exact hD.2 j y hy
/-- no local, nothing on the stack points to k -/
def mx_nrL (k : Nat) : mx_L → Bool
  | [] => true
  | some (.inr (.inr (.inl (some q)))) :: r => (Nat.beq q k).not && mx_nrL k r
  | _ :: r => mx_nrL k r
def mx_nrS (k : Nat) : mx_S → Bool
  | [] => true
  | .inr (.inr (.inl (some q))) :: r => (Nat.beq q k).not && mx_nrS k r
  | _ :: r => mx_nrS k r
theorem mx_nrS_ok {k : Nat} : ∀ {st : mx_S}, mx_nrS k st = true → ∀ v ∈ st, v ≠ mx_r k
  | [], _, _, hv => by cases hv
  | w :: r, h, v, hv => by
    have hr : mx_nrS k r = true := by
      rcases w with x | x | (_ | x) | x
      · exact h
      · exact h
      · exact h
      · exact (Bool.and_eq_true_iff.mp h).2
      · exact h
    rcases List.mem_cons.mp hv with rfl | hv
    · intro z
      subst z
      have := (Bool.and_eq_true_iff.mp h).1
      rw [Nat.beq_refl] at this
      cases this
    · exact mx_nrS_ok hr v hv
theorem mx_nrL_ok {k : Nat} : ∀ {lv : mx_L}, mx_nrL k lv = true → ∀ v : mx_V, some v ∈ lv → v ≠ mx_r k
  | [], _, _, hv => by cases hv
  | w :: r, h, v, hv => by
    have hr : mx_nrL k r = true := by
      rcases w with _ | (x | x | (_ | x) | x)
      · exact h
      · exact h
      · exact h
      · exact h
      · exact (Bool.and_eq_true_iff.mp h).2
      · exact h
    rcases List.mem_cons.mp hv with hw | hv
    · intro z
      subst z
      subst hw
      have := (Bool.and_eq_true_iff.mp h).1
      rw [Nat.beq_refl] at this
      cases this
    · exact mx_nrL_ok hr v hv
theorem mx_st_same {tb ad ad' : Nat → Nat} {st : mx_S} (h : ∀ v ∈ st, mx_v ad' tb v = mx_v ad tb v) : st.map (mx_v ad' tb) = st.map (mx_v ad tb) := List.map_congr_left h
theorem mx_H_same {tb ad ad' : Nat → Nat} {ls : Array Slot} {nL : Nat} {lv : mx_L} (h : ∀ v : mx_V, some v ∈ lv → mx_v ad' tb v = mx_v ad tb v) (hl : mx_H ad tb ls nL lv) : mx_H ad' tb ls nL lv := by
  refine ⟨hl.1, hl.2.1, hl.2.2.1, fun q hq => ?_⟩
  obtain ⟨v, h1, h2⟩ := mx_ls_mem.mp hq
  rw [h2, h v (List.mem_of_getElem? h1)]
  exact hl.at h1
/-- a method that makes cells: old addresses stay -/
def mx_Ok1 (a0 : Nat → Nat) (G : mx_F) : (Nat → Nat) → mx_F → Prop := fun ad F => (∀ (k : Nat) (x : mx_E), G k = some x → ad k = a0 k) ∧ mx_in G F
theorem mx_Ok1_up {a0 ad : Nat → Nat} {G F : mx_F} {k q : Nat} {x : mx_E} (hk : F k = none) (h : mx_Ok1 a0 G ad F) : mx_Ok1 a0 G (va_up ad k q) (mx_put F k x) := by
  refine ⟨fun j y hy => ?_, mx_in_tr h.2 (mx_in_put F k x)⟩
  have hj : j ≠ k := by
    intro z
    subst z
    obtain ⟨w, hw⟩ := h.2 j y hy
    rw [hk] at hw
    cases hw
  rw [va_up_ne _ _ hj]
  exact h.1 j y hy
def mx_Q1 (D : va_G) (tc : Nat → ClassId) (tb ad : Nat → Nat) (F : mx_F) (sz : Nat) (P : Option mx_V → mx_F → Prop) : Array Value → State → Outcome → State → Prop := fun _ st oc t =>
  (∃ (r : Option mx_V) (F' : mx_F) (ad' : Nat → Nat), oc = .returned (r.map (mx_v ad' tb)) ∧ P r F' ∧ mx_Ok1 ad F ad' F' ∧ mx_P D tc ad' tb F' t.heap ∧ mx_D (mx_A ad F sz) ad' F') ∧ va_F (mx_A ad F sz) st t
def mx_M1 (l : Launch) (y : MethodName) (ws : List Cond) (rm : Room) (sp : mx_Sp) : Prop := ∀ (D : va_G) (tc : Nat → ClassId) (tb ad : Nat → Nat) (As : List mx_V) (F : mx_F) (P : Option mx_V → mx_F → Prop) (sz : Nat), sp As F P →
  Met l y ws rm (va_Pc (As.map (mx_v ad tb)) (mx_B D tc tb ad F sz)) (mx_Q1 D tc tb ad F sz P) rm.cells rm.slots (mx_A ad F sz)
theorem mx_enter1 {l : Launch} {y : MethodName} {ws ws' : List Cond} {rm : Room} {cc : ByteArray} {maxL : Nat} {ret : Option FieldType} (hy : plainName y.cls = true) (hw : ws = Cond.code y cc maxL ret :: ws') (D : va_G) (tc : Nat → ClassId) (tb ad : Nat → Nat) (As : List mx_V) (F : mx_F) (P : Option mx_V → mx_F → Prop) (sz : Nat) (hn : (mx_ar As).length ≤ maxL)
    (body : ∀ (p : Program) (e : Env) (s : State) (m : MethodId) (args : Array Value) (below : List Frame) (meth : Method) (c : Code), mx_C p s m args c cc y.cls ws D tc tb (mx_A ad F sz) maxL (mx_Ok1 ad F) → meth.sig.returnType = ret → meth.locks = false → meth.name = y.name →
      mx_W p l e rm s m args below meth c (MQ below (mx_Q1 D tc tb ad F sz P) args s rm.cells rm.slots (mx_A ad F sz)) D tc tb (mx_A ad F sz) maxL (mx_Ok1 ad F) 0 (mx_en As maxL) [] F 0 0) :
    Met l y ws rm (va_Pc (As.map (mx_v ad tb)) (mx_B D tc tb ad F sz)) (mx_Q1 D tc tb ad F sz P) rm.cells rm.slots (mx_A ad F sz) := by
  refine Met.ofW (cc := cc) (maxL := maxL) (ret := ret) hy hw ?_
  intro p e s m args below meth c s₁ B hml hv
  obtain ⟨rfl, hsz, hP, hK, hD0, hZ⟩ := hv
  subst hsz
  have hD : mx_D (mx_A ad F s.heap.size) ad F := ⟨hD0.1, fun k x hx => Or.inl ⟨k, x, hx, rfl⟩⟩
  have hW := body p e s m _ below meth c ⟨B.exec, B.bytes, hml, findClass_of_methodNamed B.named, atoms_spec (ws := ws) B.pre, hK, fun q hq => Or.inr hq, hZ, fun a2 G G' h1 h2 => ⟨h2.1, mx_in_tr h2.2 h1⟩⟩ B.returns B.notSynchronized (name_of_methodNamed B.named B.method).1
  rw [lg_entry_eq]
  exact hW ad s.heap [] _ ⟨fun _ _ _ => rfl, mx_in_rf F⟩ hP hD va_S.rf (mx_entry hn)
def mx_new (ci k N : Nat) (fs : List mx_V) (mc ms nx : Nat) : mx_O := fun lv st F ca sl K => F k = none ∧ mx_no k F ∧ mx_nrL k lv = true ∧ mx_nrS k st = true ∧ Nat.ble (ca + 1) mc = true ∧ Nat.ble (sl + N) ms = true ∧ K nx lv (mx_r k :: st) (mx_put F k (.inr (.inr (.inr (ci, fs))))) (ca + 1) (sl + N)
def mx_newi (k mc ms nx : Nat) : mx_O := fun lv st F ca sl K => ∃ (n : Nat) (r : mx_S), st = .inl (nI n) :: r ∧ Nat.ble n 1000000 = true ∧ F k = none ∧ mx_no k F ∧ mx_nrL k lv = true ∧ mx_nrS k r = true ∧ Nat.ble (ca + 1) mc = true ∧ Nat.ble (sl + n) ms = true ∧ K nx lv (mx_r k :: r) (mx_put F k (.inl (0, n, fun _ => 0))) (ca + 1) (sl + n)
def mx_newl (k mc ms nx : Nat) : mx_O := fun lv st F ca sl K => ∃ (n : Nat) (r : mx_S), st = .inl (nI n) :: r ∧ Nat.ble n 1000000 = true ∧ F k = none ∧ mx_no k F ∧ mx_nrL k lv = true ∧ mx_nrS k r = true ∧ Nat.ble (ca + 1) mc = true ∧ Nat.ble (sl + n) ms = true ∧ K nx lv (mx_r k :: r) (mx_put F k (.inr (.inl (1, n, fun _ => 0)))) (ca + 1) (sl + n)
def mx_putrF (ci k nx : Nat) : mx_O := fun lv st F ca sl K => ∃ (u q : Nat) (r : mx_S) (fs : List mx_V), st = mx_r u :: mx_r q :: r ∧ F q = some (.inr (.inr (.inr (ci, fs)))) ∧ k < fs.length ∧ K nx lv r (mx_put F q (.inr (.inr (.inr (ci, fs.set k (mx_r u)))))) ca sl
def mx_oi (nx : Nat) : mx_O := fun lv st F ca sl K => ∃ (q : Nat) (r : mx_S), st = mx_r q :: r ∧ Nat.ble (mx_cs r) 8 = true ∧ K nx lv r F ca sl
def mx_ret1 (P : Option mx_V → mx_F → Prop) (mc ms : Nat) : mx_O := fun _ st F ca sl _ => st = [] ∧ Nat.ble ca mc = true ∧ Nat.ble sl ms = true ∧ P none F
/-- all that is pointed to stands in the world -/
def mx_okS (F : mx_F) : mx_S → Bool
  | [] => true
  | .inr (.inr (.inl (some q))) :: r => (F q).isSome && mx_okS F r
  | _ :: r => mx_okS F r
def mx_okL (F : mx_F) : mx_L → Bool
  | [] => true
  | some (.inr (.inr (.inl (some q)))) :: r => (F q).isSome && mx_okL F r
  | _ :: r => mx_okL F r
theorem mx_okV {F : mx_F} {ad ad' tb : Nat → Nat} (ha : ∀ (k : Nat) (x : mx_E), F k = some x → ad' k = ad k) {q : Nat} (h : (F q).isSome = true) : mx_v ad' tb (mx_r q) = mx_v ad tb (mx_r q) := by
  obtain ⟨x, hx⟩ := Option.isSome_iff_exists.mp h
  show Value.ref (ad' q) = Value.ref (ad q)
  rw [ha q x hx]
theorem mx_okS_v {F : mx_F} {ad ad' tb : Nat → Nat} (ha : ∀ (k : Nat) (x : mx_E), F k = some x → ad' k = ad k) : ∀ {st : mx_S}, mx_okS F st = true → ∀ v ∈ st, mx_v ad' tb v = mx_v ad tb v
  | [], _, _, hv => by cases hv
  | w :: r, h, v, hv => by
    have ih := fun hr : mx_okS F r = true => mx_okS_v (tb := tb) ha hr v
    rcases List.mem_cons.mp hv with rfl | hv2
    · rcases v with x | x | (_ | x) | x
      · rfl
      · rfl
      · rfl
      · exact mx_okV ha (Bool.and_eq_true_iff.mp h).1
      · rfl
    · rcases w with x | x | (_ | x) | x
      · exact ih h hv2
      · exact ih h hv2
      · exact ih h hv2
      · exact ih (Bool.and_eq_true_iff.mp h).2 hv2
      · exact ih h hv2
theorem mx_okL_v {F : mx_F} {ad ad' tb : Nat → Nat} (ha : ∀ (k : Nat) (x : mx_E), F k = some x → ad' k = ad k) : ∀ {lv : mx_L}, mx_okL F lv = true → ∀ v : mx_V, some v ∈ lv → mx_v ad' tb v = mx_v ad tb v
  | [], _, _, hv => by cases hv
  | w :: r, h, v, hv => by
    have ih := fun hr : mx_okL F r = true => mx_okL_v (tb := tb) ha hr v
    rcases List.mem_cons.mp hv with hw | hv2
    · subst hw
      rcases v with x | x | (_ | x) | x
      · rfl
      · rfl
      · rfl
      · exact mx_okV ha (Bool.and_eq_true_iff.mp h).1
      · rfl
    · rcases w with _ | (x | x | (_ | x) | x)
      · exact ih h hv2
      · exact ih h hv2
      · exact ih h hv2
      · exact ih h hv2
      · exact ih (Bool.and_eq_true_iff.mp h).2 hv2
      · exact ih h hv2
section MXN
variable {p : Program} {l : Launch} {e : Env} {R : Room} {s : State} {m : MethodId} {args : Array Value} {below : List Frame} {meth : Method} {c : Code} {Q : State → Prop} {cc : ByteArray} {own : String} {Ts : List Cond} {D : va_G} {tc : Nat → ClassId} {tb : Nat → Nat} {A : Nat → Prop} {nL : Nat} {Ok : (Nat → Nat) → mx_F → Prop} {pc : Nat}
theorem mx_s_new (C : mx_C p s m args c cc own Ts D tc tb A nL Ok) (hUp : ∀ (ad : Nat → Nat) (F : mx_F) (k q : Nat) (x : mx_E), F k = none → Ok ad F → Ok (va_up ad k q) (mx_put F k x)) {Cn : String} {T : u_T} {N ci i k mc ms : Nat} {fs : List mx_V} (hin : ∀ w ∈ u_ws Cn T N, w ∈ Ts) (ty : Nat → FieldType) (hty : ∀ k, k < N → parseFieldDescriptor (T k).2.2.1 = some (ty k)) (hc : vwCl[ci]? = some (Cn, T, N)) (hcl : Jvm.Cond.classLink own i Cn ∈ Ts) (hinst : Jvm.Cond.instantiable Cn N ∈ Ts) (hini : Jvm.Cond.initialized Cn ∈ Ts) (hfs : ∀ (ad : Nat → Nat) (j : Nat), j < N → defaultValue (ty j) = vp_V (fs.map (mx_v ad tb)) j) (hfk : ∀ v ∈ fs, v ≠ mx_r k) (hd : decode cc pc = .ok (.new i, 3)) (hR : mc ≤ R.cells ∧ ms ≤ R.slots) : mx_So (mx_W p l e R s m args below meth c Q D tc tb A nL Ok) pc (mx_new ci k N fs mc ms (pc + 3)) := by
  obtain ⟨hx, hb, hml, hown, hts, hK, hA, hZ, hOk⟩ := C
  intro lv st F ca sl h
  obtain ⟨hk, hno, n1, n2, g1, g2, h⟩ := h
  intro ad H locs ls h1 hP hD hS hl
  have hKn := hK.1 ci _ hc
  refine W.newcK hx hb hown (hts _ hcl) (hts _ hinst) (hts _ hini) rfl hd (Nat.le_trans (Nat.le_of_ble_eq_true g1) hR.1) (Nat.le_trans (Nat.le_of_ble_eq_true g2) hR.2) hKn.2.1 rfl fun H1 kC hkC e1 z1 o1 => ?_
  obtain ⟨hP1, hD1⟩ := mx_fresh (k := k) (x := .inr (.inr (.inr (ci, fs)))) hP hD hno hfk (hA _ hS.1) o1 ⟨_, hc, (u_born ty hts hin hKn hkC e1 hty).to (hfs ad)⟩
  have h2 := h (va_up ad k H.size) H1 locs ls (hUp ad F k H.size _ hk h1) hP1 hD1 ⟨Nat.le_trans hS.1 (by omega), fun x q1 q2 => (o1 x (Nat.lt_of_lt_of_le q1 hS.1)).trans (hS.2.1 x q1 q2), hS.2.2⟩ (mx_H_same (fun v hv => mx_v_up (mx_nrL_ok n1 v hv)) hl)
  rw [List.map_cons, mx_st_same (ad := ad) (fun v hv => mx_v_up (mx_nrS_ok n2 v hv))] at h2
  have e5 : mx_v (va_up ad k H.size) tb (mx_r k) = .ref H.size := by
    show Value.ref (va_up ad k H.size k) = _
    rw [va_up_self]
  rw [e5] at h2
  exact h2
theorem mx_s_newi (C : mx_C p s m args c cc own Ts D tc tb A nL Ok) (hUp : ∀ (ad : Nat → Nat) (F : mx_F) (k q : Nat) (x : mx_E), F k = none → Ok ad F → Ok (va_up ad k q) (mx_put F k x)) {k mc ms : Nat} (harr : Jvm.Cond.arrayClass .int ∈ Ts) (hd : decode cc pc = .ok (.newarray .int, 2)) (hR : mc ≤ R.cells ∧ ms ≤ R.slots) : mx_So (mx_W p l e R s m args below meth c Q D tc tb A nL Ok) pc (mx_newi k mc ms (pc + 2)) := by
  obtain ⟨hx, hb, hml, hown, hts, hK, hA, hZ, hOk⟩ := C
  intro lv st F ca sl h
  obtain ⟨n, r, rfl, hn, hk, hno, n1, n2, g1, g2, h⟩ := h
  have hn := Nat.le_of_ble_eq_true hn
  intro ad H locs ls h1 hP hD hS hl
  refine va_newaK (atype := .int) (n := nI n) (N := n) hx hb (hts _ harr) rfl hd rfl (nI_pos (by omega)) (nI_clamp (by omega)) (by have e4 : componentBytes (newarray.typeOf .int) = 4 := rfl; rw [e4]; omega) (Nat.le_trans (Nat.le_of_ble_eq_true g1) hR.1) (Nat.le_trans (Nat.le_of_ble_eq_true g2) hR.2) rfl fun H1 cA e1 z1 o1 hAr hNm => ?_
  have hcA : cA = tc 0 := Option.some.inj (hNm.symm.trans (hK.2 0 _ (mx_t_get rfl)).2)
  subst hcA
  obtain ⟨hP1, hD1⟩ := mx_fresh (k := k) (x := .inl (0, n, fun _ => 0)) hP hD hno trivial (hA _ hS.1) o1 e1
  have h2 := h (va_up ad k H.size) H1 locs ls (hUp ad F k H.size _ hk h1) hP1 hD1 ⟨Nat.le_trans hS.1 (by omega), fun x q1 q2 => (o1 x (Nat.lt_of_lt_of_le q1 hS.1)).trans (hS.2.1 x q1 q2), hS.2.2⟩ (mx_H_same (fun v hv => mx_v_up (mx_nrL_ok n1 v hv)) hl)
  rw [List.map_cons, mx_st_same (ad := ad) (fun v hv => mx_v_up (mx_nrS_ok n2 v hv))] at h2
  have e5 : mx_v (va_up ad k H.size) tb (mx_r k) = .ref H.size := by
    show Value.ref (va_up ad k H.size k) = _
    rw [va_up_self]
  rw [e5] at h2
  exact h2
theorem mx_s_newl (C : mx_C p s m args c cc own Ts D tc tb A nL Ok) (hUp : ∀ (ad : Nat → Nat) (F : mx_F) (k q : Nat) (x : mx_E), F k = none → Ok ad F → Ok (va_up ad k q) (mx_put F k x)) {k mc ms : Nat} (harr : Jvm.Cond.arrayClass .long ∈ Ts) (hd : decode cc pc = .ok (.newarray .long, 2)) (hR : mc ≤ R.cells ∧ ms ≤ R.slots) : mx_So (mx_W p l e R s m args below meth c Q D tc tb A nL Ok) pc (mx_newl k mc ms (pc + 2)) := by
  obtain ⟨hx, hb, hml, hown, hts, hK, hA, hZ, hOk⟩ := C
  intro lv st F ca sl h
  obtain ⟨n, r, rfl, hn, hk, hno, n1, n2, g1, g2, h⟩ := h
  have hn := Nat.le_of_ble_eq_true hn
  intro ad H locs ls h1 hP hD hS hl
  refine va_newaK (atype := .long) (n := nI n) (N := n) hx hb (hts _ harr) rfl hd rfl (nI_pos (by omega)) (nI_clamp (by omega)) (by have e4 : componentBytes (newarray.typeOf .long) = 8 := rfl; rw [e4]; omega) (Nat.le_trans (Nat.le_of_ble_eq_true g1) hR.1) (Nat.le_trans (Nat.le_of_ble_eq_true g2) hR.2) rfl fun H1 cA e1 z1 o1 hAr hNm => ?_
  have hcA : cA = tc 1 := Option.some.inj (hNm.symm.trans (hK.2 1 _ (mx_t_get rfl)).2)
  subst hcA
  obtain ⟨hP1, hD1⟩ := mx_fresh (k := k) (x := .inr (.inl (1, n, fun _ => 0))) hP hD hno trivial (hA _ hS.1) o1 e1
  have h2 := h (va_up ad k H.size) H1 locs ls (hUp ad F k H.size _ hk h1) hP1 hD1 ⟨Nat.le_trans hS.1 (by omega), fun x q1 q2 => (o1 x (Nat.lt_of_lt_of_le q1 hS.1)).trans (hS.2.1 x q1 q2), hS.2.2⟩ (mx_H_same (fun v hv => mx_v_up (mx_nrL_ok n1 v hv)) hl)
  rw [List.map_cons, mx_st_same (ad := ad) (fun v hv => mx_v_up (mx_nrS_ok n2 v hv))] at h2
  have e5 : mx_v (va_up ad k H.size) tb (mx_r k) = .ref H.size := by
    show Value.ref (va_up ad k H.size k) = _
    rw [va_up_self]
  rw [e5] at h2
  exact h2
theorem mx_s_oi (C : mx_C p s m args c cc own Ts D tc tb A nL Ok) {i : Nat} (hl0 : Jvm.Cond.methodLink own i objectInit ∈ Ts) (hi0 : Jvm.Cond.instanceMethod objectInit ∈ Ts) (hc0 : Jvm.Cond.code objectInit ⟨#[0xb1]⟩ 1 none ∈ Ts) (hd : decode cc pc = .ok (.invokespecial i, 3)) (hR : 1 ≤ R.frames ∧ 20 ≤ R.locals) : mx_So (mx_W p l e R s m args below meth c Q D tc tb A nL Ok) pc (mx_oi (pc + 3)) := by
  obtain ⟨hx, hb, hml, hown, hts, hK, hA, hZ, hOk⟩ := C
  intro lv st F ca sl h
  obtain ⟨q, r, rfl, h8, h⟩ := h
  intro ad H locs ls h1 hP hD hS hl
  refine W.objInit (rest := r.map (mx_v ad tb)) hx hb hown (hts _ hl0) (hts _ hi0) (hts _ hc0) rfl (by rw [hml]; exact hl.2.1) rfl hd hR.1 ?_ ?_
  · have := mx_room (m := m) (pc := pc) (tb := tb) (ad := ad) (ls := ls) (st := ((mx_r q :: r).map (mx_v ad tb))) (Nat.le_of_ble_eq_true h8)
    omega
  · exact h ad H locs ls h1 hP hD hS hl
theorem mx_s_putrF (C : mx_C p s m args c cc own Ts D tc tb A nL Ok) (hin2 : meth.name = "<init>") {T : u_T} {N ci i k : Nat} {ty : FieldType} (hin : ∀ w ∈ u_ws own T N, w ∈ Ts) (hc : vwCl[ci]? = some (own, T, N)) (ty0 : Nat → FieldType) (hty : ∀ k, k < N → parseFieldDescriptor (T k).2.2.1 = some (ty0 k)) (hnm : ∀ a, a < N → ∀ b, b < N → a ≠ b → (T a).2.1 ≠ (T b).2.1) (hk : k < N) (hl0 : Jvm.Cond.fieldLink own i own (T k).2.1 (T k).2.2.1 ∈ Ts) (hr : (T k).1 = own) (hfin : (T k).2.2.2 = true) (hdd : parseFieldDescriptor (T k).2.2.1 = some ty) (hn : ∀ a, narrow ty (.ref a) = .ref a) (hfit : ∀ a, fits ty (.ref a) = true) (hd : decode cc pc = .ok (.putfield i, 3)) : mx_So (mx_W p l e R s m args below meth c Q D tc tb A nL Ok) pc (mx_putrF ci k (pc + 3)) := by
  obtain ⟨hx, hb, hml, hown, hts, hK, hA, hZ, hOk⟩ := C
  intro lv st F ca sl h
  obtain ⟨u, q, r, fs, rfl, hq, hlen, h⟩ := h
  intro ad H locs ls h1 hP hD hS hl
  have hap := va_apart (own := own) hts hin ty0 hty hnm hK hc
  obtain ⟨r2, h11, cell, q1, q2, q3, q4⟩ := hP q _ hq
  have hr2 : r2 = (own, T, N) := Option.some.inj (h11.symm.trans hc)
  subst hr2
  obtain ⟨hS9, hfc, kC, hkC, hkind⟩ := hK.1 ci _ hc
  obtain ⟨cf, kf, fi, f, hi, hsl⟩ := hS9 k hk
  have hlay := hts _ (hin _ (u_in_lay hk))
  unfold u_lay at hlay
  rw [if_pos hfin] at hlay
  have hst := (u_facts hfc hkC (u_lays hts hin hk) hi).1
  have hcf : m.cls = cf := by
    obtain ⟨_, _, c', _, _, _, -, -, hf', -, -, -, hown2, -⟩ := Cond.laysFinal_spec hlay
    have e1 : c' = cf := by have := hi.symm.trans hf'; simp at this; exact this.1.symm
    rw [hr] at hown2
    rw [← e1]; exact Option.some.inj (hown.symm.trans hown2)
  have h6 := u_fits hfc hkC hkind (Or.inr hlay) hi hdd (hn (ad u)) (hfit (ad u))
  refine W.putFinK hx hb hown (hts _ hl0) (by rw [← hr]; exact hi) hst hcf hin2 (by rw [q2]; exact h6) q1 q3 (by rw [hsl]; exact k2_hasslot (q4 k hk)) rfl rfl hd fun H' e1 e2 e3 => ?_
  rw [hsl] at e1 ⊢
  refine h ad H' _ ls (hOk ad F _ (mx_in_put F q _) h1) (hP.set hD hq ⟨_, hc, t_OB.to (V := updV (vp_V (fs.map (mx_v ad tb))) k (.ref (ad u))) ⟨_, e1, q2, q3, t_set q4 hap hk _⟩ (fun j _ => ?_)⟩ e3) (hD.set hq) (hS.put e2 e3 (hD.2 q _ hq)) hl
  show _ = vp_V ((fs.set k (mx_r u)).map (mx_v ad tb)) j
  rw [List.map_set]
  exact vp_updV_set (by rw [List.length_map]; exact hlen) _ j
end MXN
end
section
def mx_ci0 (sp : mx_Sp) (cm sm mc ms nx : Nat) : mx_O := fun lv st F ca sl K => ∃ (q : Nat) (r : mx_S), st = mx_r q :: r ∧ Nat.ble (mx_cs r) 8 = true ∧ mx_okS F r = true ∧ mx_okL F lv = true ∧ Nat.ble (ca + cm) mc = true ∧ Nat.ble (sl + sm) ms = true ∧ sp [mx_r q] F (mx_k nx lv r (ca + cm) (sl + sm) K)
def mx_ci1 (sp : mx_Sp) (cm sm mc ms nx : Nat) : mx_O := fun lv st F ca sl K => ∃ (q : Nat) (a1 : mx_V) (r : mx_S), st = a1 :: mx_r q :: r ∧ Nat.ble (mx_cs r) 8 = true ∧ mx_okS F r = true ∧ mx_okL F lv = true ∧ Nat.ble (ca + cm) mc = true ∧ Nat.ble (sl + sm) ms = true ∧ sp [mx_r q, a1] F (mx_k nx lv r (ca + cm) (sl + sm) K)
def mx_ci2 (sp : mx_Sp) (cm sm mc ms nx : Nat) : mx_O := fun lv st F ca sl K => ∃ (q : Nat) (a1 a2 : mx_V) (r : mx_S), st = a2 :: a1 :: mx_r q :: r ∧ Nat.ble (mx_cs r) 8 = true ∧ mx_okS F r = true ∧ mx_okL F lv = true ∧ Nat.ble (ca + cm) mc = true ∧ Nat.ble (sl + sm) ms = true ∧ sp [mx_r q, a1, a2] F (mx_k nx lv r (ca + cm) (sl + sm) K)
section MXI
variable {p : Program} {l : Launch} {e : Env} {R : Room} {s : State} {m : MethodId} {args : Array Value} {below : List Frame} {meth : Method} {c : Code} {Q : State → Prop} {cc : ByteArray} {own : String} {Ts : List Cond} {D : va_G} {tc : Nat → ClassId} {tb : Nat → Nat} {A : Nat → Prop} {nL : Nat} {Ok : (Nat → Nat) → mx_F → Prop} {pc : Nat}
theorem mx_after1 (C : mx_C p s m args c cc own Ts D tc tb A nL Ok) (hUp : ∀ (ad ad' : Nat → Nat) (F F' : mx_F), mx_Ok1 ad F ad' F' → Ok ad F → Ok ad' F') {ad : Nat → Nat} {F : mx_F} {H : Heap} {locs : List Loc} {ls : Array Slot} {lv : mx_L} {r : mx_S} {st0 : List Value} {a : Array Value} {ca sl cm sm : Nat}
    (hr : va_Run p l e R s m args below meth c H locs ca sl cm sm (F0 m pc ls st0) (r.map (mx_v ad tb)) (mx_Q1 D tc tb ad F H.size (mx_k (pc + 3) lv r (ca + cm) (sl + sm) (mx_W p l e R s m args below meth c Q D tc tb A nL Ok)) a) (mx_A ad F H.size))
    (hrS : mx_okS F r = true) (hrL : mx_okL F lv = true) (h1 : Ok ad F) (hD : mx_D A ad F) (hS : va_S A s.heap H locs) (hl : mx_H ad tb ls nL lv) : W p l e R s m args below meth c H locs ca sl Q (F0 m pc ls st0) := by
  obtain ⟨hx, hb, hml, hown, hts, hK, hA, hZ, hOk⟩ := C
  intro T hT X
  obtain ⟨v, st₀, t, T', L, h0, X', hL, e1, e2, ⟨⟨rv, F', ad', hv, hk, ho, hP', hD'⟩, hz, hkp⟩, st⟩ := hr T hT X
  have hv2 : v = rv.map (mx_v ad' tb) := by cases hv; rfl
  subst hv2
  rw [h0] at hz hkp
  have hF : ∀ q, mx_A ad F H.size q → A q := by
    intro q hq
    rcases hq with ⟨k, x, hx2, rfl⟩ | hq
    · exact hD.2 k x hx2
    · exact hA q (Nat.le_trans hS.1 hq)
  have hD2 : mx_D A ad' F' := ⟨hD'.1, fun k x hx2 => hF _ (hD'.2 k x hx2)⟩
  have hS2 : va_S A s.heap T'.heap (locs ++ L) := ⟨Nat.le_trans hS.1 (by rw [e1]; exact hz), fun q g1 g2 => by rw [e1, hkp q (Nat.lt_of_lt_of_le g1 hS.1) (fun z => g2 (hF q z))]; exact hS.2.1 q g1 g2, fun q hq => by
      rcases List.mem_append.mp hq with h | h
      · exact hS.2.2 q h
      · exact hF _ (hL q h)⟩
  have hst := mx_st_same (tb := tb) (ad := ad) (ad' := ad') (st := r) (mx_okS_v ho.1 hrS)
  have hl2 := mx_H_same (tb := tb) (ad := ad) (ad' := ad') (mx_okL_v ho.1 hrL) hl
  rw [← hst] at st
  cases rv with
  | none =>
    obtain ⟨t2, a1, b1⟩ := hk ad' T'.heap (locs ++ L) ls (hUp ad ad' F F' ho h1) (by rw [e1]; exact hP') hD2 hS2 hl2 T' rfl X'
    exact ⟨t2, st t2 a1, b1⟩
  | some x =>
    obtain ⟨t2, a1, b1⟩ := hk ad' T'.heap (locs ++ L) ls (hUp ad ad' F F' ho h1) (by rw [e1]; exact hP') hD2 hS2 hl2 T' rfl X'
    exact ⟨t2, st t2 a1, b1⟩
theorem mx_Ok1_tr {a0 ad ad' : Nat → Nat} {G F F' : mx_F} (h : mx_Ok1 ad F ad' F') (h0 : mx_Ok1 a0 G ad F) : mx_Ok1 a0 G ad' F' := by
  refine ⟨fun k x hx => ?_, mx_in_tr h0.2 h.2⟩
  obtain ⟨y, hy⟩ := h0.2 k x hx
  rw [h.1 k y hy, h0.1 k x hx]
variable {y : MethodName} {ws : List Cond} {rm : Room} {sp : mx_Sp} {bytes : ByteArray} {maxL n i : Nat}
theorem mx_ciW (C : mx_C p s m args c cc own Ts D tc tb A nL Ok) (hUp : ∀ (ad ad' : Nat → Nat) (F F' : mx_F), mx_Ok1 ad F ad' F' → Ok ad F → Ok ad' F') (hM : mx_M1 l y ws rm sp) {cm sm : Nat} (hcm : rm.cells = cm) (hsm : rm.slots = sm) (cw : CallB R s args own i y bytes maxL none ws rm cm sm n ∧ y.name = "<init>" ∧ (Cond.instanceMethod y).before args s = true) (hd : decode cc pc = .ok (.invokespecial i, 3)) {q : Nat} {As : List mx_V} {r : mx_S} {lv : mx_L} {F : mx_F} (hn : As.length = n) (h8 : mx_cs r ≤ 8) (hrS : mx_okS F r = true) (hrL : mx_okL F lv = true) {ca sl : Nat} (hf : ca + cm ≤ R.cells ∧ sl + sm ≤ R.slots)
    (h : sp (mx_r q :: As) F (mx_k (pc + 3) lv r (ca + cm) (sl + sm) (mx_W p l e R s m args below meth c Q D tc tb A nL Ok))) : mx_W p l e R s m args below meth c Q D tc tb A nL Ok pc lv (As.reverse ++ mx_r q :: r) F ca sl := by
  subst hcm
  subst hsm
  intro ad H locs ls h1 hP hD hS hl
  refine mx_after1 (r := r) (lv := lv) C hUp (va_runI (As := As.map (mx_v ad tb)) (rest := r.map (mx_v ad tb)) (b := ad q) ⟨C.1, C.2.1, C.2.2.1, C.2.2.2.1, C.2.2.2.2.1⟩ (hM D tc tb ad (mx_r q :: As) F _ H.size h) cw ⟨mx_blind, fun U hU hW => mx_pre (As := mx_r q :: As) C hP hD hS U hU hW⟩ rfl (by rw [List.length_map]; exact hn) hl.2.1 ?_ (mx_room h8) hd hf) hrS hrL h1 hD hS hl
  show (As.reverse ++ mx_r q :: r).map (mx_v ad tb) = _
  rw [List.map_append, List.map_reverse]
  rfl
theorem mx_ciNW (C : mx_C p s m args c cc own Ts D tc tb A nL Ok) (hUp : ∀ (ad ad' : Nat → Nat) (F F' : mx_F), mx_Ok1 ad F ad' F' → Ok ad F → Ok ad' F') (hM : mx_M1 l y ws rm sp) {cm sm : Nat} (hcm : rm.cells = cm) (hsm : rm.slots = sm) {host : String} (cw : va_CN R s args own i y host bytes maxL none ws rm cm sm n ∧ y.name = "<init>" ∧ (Cond.instanceMethod y).before args s = true) (hd : decode cc pc = .ok (.invokespecial i, 3)) {q : Nat} {As : List mx_V} {r : mx_S} {lv : mx_L} {F : mx_F} (hn : As.length = n) (h8 : mx_cs r ≤ 8) (hrS : mx_okS F r = true) (hrL : mx_okL F lv = true) {ca sl : Nat} (hf : ca + cm ≤ R.cells ∧ sl + sm ≤ R.slots)
    (h : sp (mx_r q :: As) F (mx_k (pc + 3) lv r (ca + cm) (sl + sm) (mx_W p l e R s m args below meth c Q D tc tb A nL Ok))) : mx_W p l e R s m args below meth c Q D tc tb A nL Ok pc lv (As.reverse ++ mx_r q :: r) F ca sl := by
  subst hcm
  subst hsm
  intro ad H locs ls h1 hP hD hS hl
  refine mx_after1 (r := r) (lv := lv) C hUp (va_runIN (As := As.map (mx_v ad tb)) (rest := r.map (mx_v ad tb)) (b := ad q) ⟨C.1, C.2.1, C.2.2.1, C.2.2.2.1, C.2.2.2.2.1⟩ (hM D tc tb ad (mx_r q :: As) F _ H.size h) cw ⟨mx_blind, fun U hU hW => mx_pre (As := mx_r q :: As) C hP hD hS U hU hW⟩ rfl (by rw [List.length_map]; exact hn) hl.2.1 ?_ (mx_room h8) hd hf) hrS hrL h1 hD hS hl
  show (As.reverse ++ mx_r q :: r).map (mx_v ad tb) = _
  rw [List.map_append, List.map_reverse]
  rfl
theorem mx_s_ci0 (C : mx_C p s m args c cc own Ts D tc tb A nL Ok) (hUp : ∀ (ad ad' : Nat → Nat) (F F' : mx_F), mx_Ok1 ad F ad' F' → Ok ad F → Ok ad' F') (hM : mx_M1 l y ws rm sp) {cm sm mc ms : Nat} (hcm : rm.cells = cm) (hsm : rm.slots = sm) (cw : CallB R s args own i y bytes maxL none ws rm cm sm 0 ∧ y.name = "<init>" ∧ (Cond.instanceMethod y).before args s = true) (hd : decode cc pc = .ok (.invokespecial i, 3)) (hR : mc ≤ R.cells ∧ ms ≤ R.slots) : mx_So (mx_W p l e R s m args below meth c Q D tc tb A nL Ok) pc (mx_ci0 sp cm sm mc ms (pc + 3)) := by
  intro lv st F ca sl h
  obtain ⟨q, r, rfl, h8, hrS, hrL, g1, g2, h⟩ := h
  exact mx_ciW (As := []) C hUp hM hcm hsm cw hd rfl (Nat.le_of_ble_eq_true h8) hrS hrL ⟨Nat.le_trans (Nat.le_of_ble_eq_true g1) hR.1, Nat.le_trans (Nat.le_of_ble_eq_true g2) hR.2⟩ h
theorem mx_s_ciN0 (C : mx_C p s m args c cc own Ts D tc tb A nL Ok) (hUp : ∀ (ad ad' : Nat → Nat) (F F' : mx_F), mx_Ok1 ad F ad' F' → Ok ad F → Ok ad' F') (hM : mx_M1 l y ws rm sp) {cm sm mc ms : Nat} (hcm : rm.cells = cm) (hsm : rm.slots = sm) {host : String} (cw : va_CN R s args own i y host bytes maxL none ws rm cm sm 0 ∧ y.name = "<init>" ∧ (Cond.instanceMethod y).before args s = true) (hd : decode cc pc = .ok (.invokespecial i, 3)) (hR : mc ≤ R.cells ∧ ms ≤ R.slots) : mx_So (mx_W p l e R s m args below meth c Q D tc tb A nL Ok) pc (mx_ci0 sp cm sm mc ms (pc + 3)) := by
  intro lv st F ca sl h
  obtain ⟨q, r, rfl, h8, hrS, hrL, g1, g2, h⟩ := h
  exact mx_ciNW (As := []) C hUp hM hcm hsm cw hd rfl (Nat.le_of_ble_eq_true h8) hrS hrL ⟨Nat.le_trans (Nat.le_of_ble_eq_true g1) hR.1, Nat.le_trans (Nat.le_of_ble_eq_true g2) hR.2⟩ h
theorem mx_s_ci1 (C : mx_C p s m args c cc own Ts D tc tb A nL Ok) (hUp : ∀ (ad ad' : Nat → Nat) (F F' : mx_F), mx_Ok1 ad F ad' F' → Ok ad F → Ok ad' F') (hM : mx_M1 l y ws rm sp) {cm sm mc ms : Nat} (hcm : rm.cells = cm) (hsm : rm.slots = sm) (cw : CallB R s args own i y bytes maxL none ws rm cm sm 1 ∧ y.name = "<init>" ∧ (Cond.instanceMethod y).before args s = true) (hd : decode cc pc = .ok (.invokespecial i, 3)) (hR : mc ≤ R.cells ∧ ms ≤ R.slots) : mx_So (mx_W p l e R s m args below meth c Q D tc tb A nL Ok) pc (mx_ci1 sp cm sm mc ms (pc + 3)) := by
  intro lv st F ca sl h
  obtain ⟨q, a1, r, rfl, h8, hrS, hrL, g1, g2, h⟩ := h
  exact mx_ciW (As := [a1]) C hUp hM hcm hsm cw hd rfl (Nat.le_of_ble_eq_true h8) hrS hrL ⟨Nat.le_trans (Nat.le_of_ble_eq_true g1) hR.1, Nat.le_trans (Nat.le_of_ble_eq_true g2) hR.2⟩ h
theorem mx_s_ciN1 (C : mx_C p s m args c cc own Ts D tc tb A nL Ok) (hUp : ∀ (ad ad' : Nat → Nat) (F F' : mx_F), mx_Ok1 ad F ad' F' → Ok ad F → Ok ad' F') (hM : mx_M1 l y ws rm sp) {cm sm mc ms : Nat} (hcm : rm.cells = cm) (hsm : rm.slots = sm) {host : String} (cw : va_CN R s args own i y host bytes maxL none ws rm cm sm 1 ∧ y.name = "<init>" ∧ (Cond.instanceMethod y).before args s = true) (hd : decode cc pc = .ok (.invokespecial i, 3)) (hR : mc ≤ R.cells ∧ ms ≤ R.slots) : mx_So (mx_W p l e R s m args below meth c Q D tc tb A nL Ok) pc (mx_ci1 sp cm sm mc ms (pc + 3)) := by
  intro lv st F ca sl h
  obtain ⟨q, a1, r, rfl, h8, hrS, hrL, g1, g2, h⟩ := h
  exact mx_ciNW (As := [a1]) C hUp hM hcm hsm cw hd rfl (Nat.le_of_ble_eq_true h8) hrS hrL ⟨Nat.le_trans (Nat.le_of_ble_eq_true g1) hR.1, Nat.le_trans (Nat.le_of_ble_eq_true g2) hR.2⟩ h
theorem mx_s_ci2 (C : mx_C p s m args c cc own Ts D tc tb A nL Ok) (hUp : ∀ (ad ad' : Nat → Nat) (F F' : mx_F), mx_Ok1 ad F ad' F' → Ok ad F → Ok ad' F') (hM : mx_M1 l y ws rm sp) {cm sm mc ms : Nat} (hcm : rm.cells = cm) (hsm : rm.slots = sm) (cw : CallB R s args own i y bytes maxL none ws rm cm sm 2 ∧ y.name = "<init>" ∧ (Cond.instanceMethod y).before args s = true) (hd : decode cc pc = .ok (.invokespecial i, 3)) (hR : mc ≤ R.cells ∧ ms ≤ R.slots) : mx_So (mx_W p l e R s m args below meth c Q D tc tb A nL Ok) pc (mx_ci2 sp cm sm mc ms (pc + 3)) := by
  intro lv st F ca sl h
  obtain ⟨q, a1, a2, r, rfl, h8, hrS, hrL, g1, g2, h⟩ := h
  exact mx_ciW (As := [a1, a2]) C hUp hM hcm hsm cw hd rfl (Nat.le_of_ble_eq_true h8) hrS hrL ⟨Nat.le_trans (Nat.le_of_ble_eq_true g1) hR.1, Nat.le_trans (Nat.le_of_ble_eq_true g2) hR.2⟩ h
theorem mx_s_ciN2 (C : mx_C p s m args c cc own Ts D tc tb A nL Ok) (hUp : ∀ (ad ad' : Nat → Nat) (F F' : mx_F), mx_Ok1 ad F ad' F' → Ok ad F → Ok ad' F') (hM : mx_M1 l y ws rm sp) {cm sm mc ms : Nat} (hcm : rm.cells = cm) (hsm : rm.slots = sm) {host : String} (cw : va_CN R s args own i y host bytes maxL none ws rm cm sm 2 ∧ y.name = "<init>" ∧ (Cond.instanceMethod y).before args s = true) (hd : decode cc pc = .ok (.invokespecial i, 3)) (hR : mc ≤ R.cells ∧ ms ≤ R.slots) : mx_So (mx_W p l e R s m args below meth c Q D tc tb A nL Ok) pc (mx_ci2 sp cm sm mc ms (pc + 3)) := by
  intro lv st F ca sl h
  obtain ⟨q, a1, a2, r, rfl, h8, hrS, hrL, g1, g2, h⟩ := h
  exact mx_ciNW (As := [a1, a2]) C hUp hM hcm hsm cw hd rfl (Nat.le_of_ble_eq_true h8) hrS hrL ⟨Nat.le_trans (Nat.le_of_ble_eq_true g1) hR.1, Nat.le_trans (Nat.le_of_ble_eq_true g2) hR.2⟩ h
end MXI
theorem mx_s_ret1 {p : Program} {l : Launch} {e : Env} {R : Room} {s : State} {m : MethodId} {args : Array Value} {below : List Frame} {meth : Method} {c : Code} {cc : ByteArray} {own : String} {Ts : List Cond} {D : va_G} {tc : Nat → ClassId} {tb : Nat → Nat} {nL pc sz mc ms : Nat} {a0 : Nat → Nat} {G : mx_F} {P : Option mx_V → mx_F → Prop} (C : mx_C p s m args c cc own Ts D tc tb (mx_A a0 G sz) nL (mx_Ok1 a0 G)) (hr : meth.sig.returnType = none) (hlk : meth.locks = false) (hd : decode cc pc = .ok (.return_, 1)) : mx_So (mx_W p l e R s m args below meth c (MQ below (mx_Q1 D tc tb a0 G sz P) args s mc ms (mx_A a0 G sz)) D tc tb (mx_A a0 G sz) nL (mx_Ok1 a0 G)) pc (mx_ret1 P mc ms) := by
  obtain ⟨hx, hb, hml, hown, hts, hK, hA, hZ, hOk⟩ := C
  intro lv st F ca sl h
  obtain ⟨rfl, g1, g2, h⟩ := h
  intro ad H locs ls h1 hP hD hS hl
  refine W.widen (k := mc) (n := ms) (Nat.le_of_ble_eq_true g1) (Nat.le_of_ble_eq_true g2) ?_
  exact W.vret hx hb hr (fun t ht hW => ⟨⟨none, F, ad, rfl, h, h1, by rw [ht]; exact hP, hD⟩, hS.F ht⟩) hS.2.2 hd hlk
end
section
/-! A METHOD'S CONTRACT OUT OF A TABLE OF STEPS AND A WALK -/
theorem mx_run {l : Launch} {y : MethodName} {ws ws' : List Cond} {rm : Room} {cc : ByteArray} {maxL : Nat} {ret : Option FieldType} {tab : List (Nat × mx_O)} (hy : plainName y.cls = true) (hw : ws = Cond.code y cc maxL ret :: ws') (D : va_G) (tc : Nat → ClassId) (tb ad : Nat → Nat) (As : List mx_V) (F : mx_F) (P : Option mx_V → mx_F → Prop) (sz : Nat) (hn : (mx_ar As).length ≤ maxL)
    (hall : ∀ (p : Program) (e : Env) (s : State) (m : MethodId) (args : Array Value) (below : List Frame) (meth : Method) (c : Code), mx_C p s m args c cc y.cls ws D tc tb (mx_A ad F sz) maxL (mx_Ok0 ad F) → meth.sig.returnType = ret → meth.locks = false →
      mx_all (mx_W p l e rm s m args below meth c (MQ below (mx_Q D tc tb ad F sz P) args s 0 0 (mx_A ad F sz)) D tc tb (mx_A ad F sz) maxL (mx_Ok0 ad F)) tab)
    (body : ∀ Rr : mx_K, (∀ {pc : Nat} {o : mx_O} {lv : mx_L} {st : mx_S} {F : mx_F} {ca sl : Nat}, mx_at tab pc = some o → o lv st F ca sl Rr → Rr pc lv st F ca sl) → Rr 0 (mx_en As maxL) [] F 0 0) :
    Met l y ws rm (va_Pc (As.map (mx_v ad tb)) (mx_B D tc tb ad F sz)) (mx_Q D tc tb ad F sz P) 0 0 (mx_A ad F sz) :=
  mx_enter hy hw D tc tb ad As F P sz hn (fun p e s m args below meth c C hr hlk => body _ (fun h1 h2 => mx_go (hall p e s m args below meth c C hr hlk) h1 h2))
theorem mx_run1 {l : Launch} {y : MethodName} {ws ws' : List Cond} {rm : Room} {cc : ByteArray} {maxL : Nat} {ret : Option FieldType} {tab : List (Nat × mx_O)} (hy : plainName y.cls = true) (hw : ws = Cond.code y cc maxL ret :: ws') (D : va_G) (tc : Nat → ClassId) (tb ad : Nat → Nat) (As : List mx_V) (F : mx_F) (P : Option mx_V → mx_F → Prop) (sz : Nat) (hn : (mx_ar As).length ≤ maxL)
    (hall : ∀ (p : Program) (e : Env) (s : State) (m : MethodId) (args : Array Value) (below : List Frame) (meth : Method) (c : Code), mx_C p s m args c cc y.cls ws D tc tb (mx_A ad F sz) maxL (mx_Ok1 ad F) → meth.sig.returnType = ret → meth.locks = false → meth.name = y.name →
      mx_all (mx_W p l e rm s m args below meth c (MQ below (mx_Q1 D tc tb ad F sz P) args s rm.cells rm.slots (mx_A ad F sz)) D tc tb (mx_A ad F sz) maxL (mx_Ok1 ad F)) tab)
    (body : ∀ Rr : mx_K, (∀ {pc : Nat} {o : mx_O} {lv : mx_L} {st : mx_S} {F : mx_F} {ca sl : Nat}, mx_at tab pc = some o → o lv st F ca sl Rr → Rr pc lv st F ca sl) → Rr 0 (mx_en As maxL) [] F 0 0) :
    Met l y ws rm (va_Pc (As.map (mx_v ad tb)) (mx_B D tc tb ad F sz)) (mx_Q1 D tc tb ad F sz P) rm.cells rm.slots (mx_A ad F sz) :=
  mx_enter1 hy hw D tc tb ad As F P sz hn (fun p e s m args below meth c C hr hlk hnm => body _ (fun h1 h2 => mx_go (hall p e s m args below meth c C hr hlk hnm) h1 h2))
theorem mx_as1 {F : mx_F} {k : Nat} {e : mx_E} (h : F k = some e) : F = mx_put F k e := (mx_self h).symm
theorem mx_as2 {F : mx_F} {k1 k2 : Nat} {e1 e2 : mx_E} (h1 : F k1 = some e1) (h2 : F k2 = some e2) : F = mx_put (mx_put F k1 e1) k2 e2 := by
  rw [mx_self h1, mx_self h2]
theorem mx_as3 {F : mx_F} {k1 k2 k3 : Nat} {e1 e2 e3 : mx_E} (h1 : F k1 = some e1) (h2 : F k2 = some e2) (h3 : F k3 = some e3) : F = mx_put (mx_put (mx_put F k1 e1) k2 e2) k3 e3 := by
  rw [mx_self h1, mx_self h2, mx_self h3]
theorem mx_as4 {F : mx_F} {k1 k2 k3 k4 : Nat} {e1 e2 e3 e4 : mx_E} (h1 : F k1 = some e1) (h2 : F k2 = some e2) (h3 : F k3 = some e3) (h4 : F k4 = some e4) : F = mx_put (mx_put (mx_put (mx_put F k1 e1) k2 e2) k3 e3) k4 e4 := by
  rw [mx_self h1, mx_self h2, mx_self h3, mx_self h4]
theorem mx_as5 {F : mx_F} {k1 k2 k3 k4 k5 : Nat} {e1 e2 e3 e4 e5 : mx_E} (h1 : F k1 = some e1) (h2 : F k2 = some e2) (h3 : F k3 = some e3) (h4 : F k4 = some e4) (h5 : F k5 = some e5) : F = mx_put (mx_put (mx_put (mx_put (mx_put F k1 e1) k2 e2) k3 e3) k4 e4) k5 e5 := by
  rw [mx_self h1, mx_self h2, mx_self h3, mx_self h4, mx_self h5]
-- the cells of the class, by their places
abbrev e_L : mx_E := mx_ob 6 [mx_r 1, mx_r 3, mx_r 6, mx_r 10, mx_r 15, mx_r 29]
abbrev e_R (n : Nat) : mx_E := mx_ob 3 [mx_r 2, mx_i (nI n)]
abbrev e_W (n : Nat) : mx_E := mx_ob 5 [mx_r 4, mx_r 5, mx_i (nI n)]
abbrev e_D (rc : Int32) (sh : Int64) (wt : Int32) : mx_E := mx_ob 2 [mx_r 3, mx_r 7, mx_r 8, mx_r 9, mx_i rc, mx_l sh, mx_i wt]
abbrev e_G (fc kc tot wt : Int32) : mx_E := mx_ob 0 [mx_r 3, mx_r 11, mx_r 12, mx_i fc, mx_r 13, mx_r 14, mx_i kc, mx_i tot, mx_i wt]
abbrev e_Q (sz wt : Int32) : mx_E := mx_ob 4 [mx_r 3, mx_r 16, mx_r 17, mx_r 18, mx_i sz, mx_i wt]
abbrev e_C : mx_E := mx_ob 1 [mx_r 3, mx_r 30]
-- the reference: thrown, size, many, steps, ways, kept, side
abbrev e_M (th sz mn sp : Int32) (wy : Int64) (kp sd : Int32) : mx_E := mx_ob 7 [mx_i th, mx_i sz, mx_r 41, mx_i mn, mx_r 42, mx_r 43, mx_i sp, mx_r 44, mx_l wy, mx_r 45, mx_r 46, mx_i kp, mx_r 47, mx_r 48, mx_r 49, mx_i sd, mx_r 50, mx_r 51]
end
section
/-! an array of arrays: 5 rows of longs -/
section MG
variable {E : CtlPost} {e : Env} {d : Bool} {acts : List Action} {s : State}
theorem mg_new {cls comp : ClassId} {k : Class} {ty : FieldType} {N : Nat} {v : Value} {Q : Addr → Pre} (hk : s.vm.classes[cls]? = some k) (hkind : k.kind = .array comp ty) (hv : fits ty v = true) (h1 : N ≤ e.platform.arrayLengthLimit) (h2 : N * componentBytes ty ≤ e.platform.maxHeapBytes) (h3 : s.heap.size < e.platform.maxCells) (h4 : s.slotsUsed + N ≤ e.platform.maxSlots)
    (hq : ∀ acts', Q s.heap.size d acts' (s.pushCell { cls := cls, slots := Array.replicate N v, vm := .none })) : wp (Jvm.newArray cls N v) Q E e d acts s := by
  have hfit : ∀ (i : Nat) (w : Value), (Array.replicate N v)[i]? = some w → s.fitsSlot cls .none i w = true := by
    intro i w hw
    simp only [Array.getElem?_replicate] at hw
    split at hw
    · cases hw
      simp [State.fitsSlot, State.slotType?, hk, hkind, hv]
    · cases hw
  simp only [Jvm.newArray, Jvm.arrayFits, wp_bind', W.ask, W.ite, W.theClass, W.alloc, W.stop, wp_pure', W.mark]
  rw [if_neg (by omega)]
  refine ⟨k, hk, ?_⟩
  rw [hkind]
  simp only [wp_bind', W.ask, W.ite, W.stop, wp_pure', W.mark]
  rw [if_neg (by omega), if_neg (by omega)]
  exact ⟨h3, by rw [Array.size_replicate]; exact h4, hfit, hq _⟩
end MG
section MG3
variable {p : Program} {l : Launch} {e : Env} {R : Room} {s : State} {m : MethodId} {args : Array Value} {below : List Frame} {meth : Method} {c : Code} {H : Heap} {locs : List Loc} {cells slots : Nat}
/-- the outer array with j rows in it -/
def mg_o (cQ : ClassId) (h j : Nat) : Cell := arrV cQ 5 (fun i => if i < j then .ref (h + 1 + i) else .null)
/-- behind j rows of N longs -/
def mg_I (p : Program) (l : Launch) (e : Env) (R : Room) (s : State) (m : MethodId) (args : Array Value) (below : List Frame) (meth : Method) (c : Code) (H : Heap) (locs : List Loc) (cells slots : Nat) (cQ cJ : ClassId) (N : Nat) (g : JFrame) (j : Nat) (U : State) : Prop :=
  ∃ (S : State) (L : List Loc), U = S.setTop g ∧ Stand p l e R s m args below meth c S (locs ++ L) (cells + 1 + j) (slots + 5 + j * N) ∧ (∀ q ∈ L, q.base = H.size) ∧ S.heap.size = H.size + 1 + j ∧ (∀ q : Nat, q < H.size → S.heap[q]? = H[q]?) ∧ S.heap[H.size]? = some (mg_o cQ H.size j) ∧ ∀ i : Nat, i < j → S.heap[H.size + 1 + i]? = some (arrV cJ N (fun _ => .long 0))
theorem mg_row {cQ cJ pJ : ClassId} {kQ kJ : Class} {n : Int32} {N j : Nat} {g : JFrame} {U : State} {d : Bool} {acts : List Action} {E : CtlPost} (hkQ : s.vm.classes[cQ]? = some kQ) (hQ : kQ.kind = .array cJ (.array .long)) (hkJ : s.vm.classes[cJ]? = some kJ) (hJ : kJ.kind = .array pJ .long) (hn : ¬ n < 0) (hN : n.toNatClampNeg = N) (hNl : N ≤ 1000000) (hj : j < 5) (hc : cells + 6 ≤ R.cells) (hs : slots + 5 + 5 * N ≤ R.slots)
    (hI : mg_I p l e R s m args below meth c H locs cells slots cQ cJ N g j U) {Q' : ForInStep PUnit → Pre} (hq : ∀ U' d' acts', mg_I p l e R s m args below meth c H locs cells slots cQ cJ N g (j + 1) U' → Q' (ForInStep.yield PUnit.unit) d' acts' U') :
    wp (do
      let a ← Op.multianewarray.make cJ [n]
      writeLoc H.size j (Value.ref a)
      Pure.pure (ForInStep.yield PUnit.unit)) Q' E e d acts U := by
  obtain ⟨S, L, rfl, X, hL, hsz, hold, hout, hin⟩ := hI
  have hal : s.vm.Alike S.vm := X.warmed.alike
  obtain ⟨kQ₁, hkQ₁, heQ⟩ := hal.2.2 _ _ hkQ
  obtain ⟨kJ₁, hkJ₁, heJ⟩ := hal.2.2 _ _ hkJ
  have hQ₁ : kQ₁.kind = .array cJ (.array .long) := by rw [heQ]; exact hQ
  have hJ₁ : kJ₁.kind = .array pJ .long := by rw [heJ]; exact hJ
  have hNj : j * N + N ≤ 5 * N := by
    have : (j + 1) * N ≤ 5 * N := Nat.mul_le_mul_right N (by omega)
    rw [Nat.add_mul, Nat.one_mul] at this
    exact this
  obtain ⟨r1, r2⟩ := X.roomAbove (a := 1) (b := N) (by omega) (by omega)
  simp only [wp_bind']
  unfold Op.multianewarray.make
  simp only [wp_bind', W.ite, W.theClass, wp_pure']
  rw [if_neg hn]
  refine ⟨kJ₁, hkJ₁, ?_⟩
  rw [hJ₁]
  simp only
  rw [hN]
  refine mg_new (s := S.setTop g) hkJ₁ hJ₁ rfl (by rw [Launch.admits_arrayLengthLimit X.admits]; omega) (by rw [Launch.admits_maxHeapBytes X.admits]; show N * 8 ≤ _; omega) (by show S.heap.size < _; omega) (by show S.slotsUsed + N ≤ _; exact r2) (fun acts' => ?_)
  have hinner : ({ cls := cJ, slots := Array.replicate N (defaultValue .long), vm := .none } : Cell) = arrV cJ N (fun _ => .long 0) := arrV_new cJ N (.long 0)
  rw [hinner]
  have hlt : H.size < S.heap.size := by omega
  have hcell : (S.pushCell (arrV cJ N (fun _ => .long 0))).heap[H.size]? = some (mg_o cQ H.size j) := by
    show (S.heap.push _)[H.size]? = _
    rw [Array.getElem?_push, if_neg (Nat.ne_of_lt hlt)]
    exact hout
  have X1 := (X.pushed (arrV cJ N (fun _ => .long 0))).stored hcell j (.ref S.heap.size)
  simp only [wp_bind']
  refine (W.writeLoc _ _ _ _).mpr ?_
  refine ⟨mg_o cQ H.size j, hcell, fun z => (by cases z), (by show j < (arrV _ _ _).slots.size; rw [arrV_size]; exact hj), ?_, hq _ _ _ ?_⟩
  · show S.fitsSlot cQ .none j (.ref _) = true
    simp [State.fitsSlot, State.slotType?, hkQ₁, hQ₁, fits]
  · have hset : (mg_o cQ H.size j).setSlot j (.ref S.heap.size) = mg_o cQ H.size (j + 1) := by
      unfold mg_o
      rw [arrV_store]
      congr 1
      funext i
      by_cases hi : i = j
      · subst hi
        simp [updV, hsz]
      · simp only [updV, if_neg hi]
        by_cases h2 : i < j
        · rw [if_pos h2, if_pos (by omega)]
        · rw [if_neg h2, if_neg (by omega)]
    rw [hset] at X1
    refine ⟨(S.pushCell (arrV cJ N (fun _ => .long 0))).setCell H.size (mg_o cQ H.size (j + 1)), L ++ [⟨H.size, j⟩], by rw [← hset]; rfl, ?_, ?_, ?_, ?_, ?_, ?_⟩
    · rw [← List.append_assoc]
      have e1 : slots + 5 + (j + 1) * N = slots + 5 + j * N + (arrV cJ N (fun _ => Value.long 0)).slots.size := by rw [arrV_size, Nat.add_mul, Nat.one_mul]; omega
      rw [e1]
      exact X1
    · intro q hq2
      rcases List.mem_append.mp hq2 with h | h
      · exact hL q h
      · rw [List.mem_singleton.mp h]
    · show ((S.heap.push _).setIfInBounds _ _).size = _
      simp
      omega
    · intro q hq2
      show ((S.heap.push _).setIfInBounds _ _)[q]? = _
      rw [Array.getElem?_setIfInBounds, if_neg (by omega), Array.getElem?_push, if_neg (by omega)]
      exact hold q hq2
    · show ((S.heap.push _).setIfInBounds _ _)[H.size]? = _
      rw [Array.getElem?_setIfInBounds, if_pos rfl, if_pos (by simp; omega)]
    · intro i hi
      show ((S.heap.push _).setIfInBounds _ _)[_]? = _
      rw [Array.getElem?_setIfInBounds, if_neg (by omega), Array.getElem?_push]
      by_cases h2 : i = j
      · subst h2
        rw [if_pos (by omega)]
      · rw [if_neg (by omega)]
        exact hin i (by omega)
theorem mg_W {cc : ByteArray} {Q : State → Prop} (hexec : p.tables.exec = Jvm.exec) (hb : c.code = cc) {own : String} {index : Nat} (hown : s.vm.findClass own = some m.cls) (hclink : (Cond.classLink own index "[[J").before args s = true) {cQ cJ pJ : ClassId} {kQ kJ : Class} (hfQ : s.vm.findClass "[[J" = some cQ) (hkQ : s.vm.classes[cQ]? = some kQ) (hQ : kQ.kind = .array cJ (.array .long)) (hkJ : s.vm.classes[cJ]? = some kJ) (hJ : kJ.kind = .array pJ .long) {n : Int32} {N : Nat} (hn : ¬ n < 0) (hN : n.toNatClampNeg = N) (hNl : N ≤ 1000000) (hc : cells + 6 ≤ R.cells) (hs : slots + 5 + 5 * N ≤ R.slots)
    {g : JFrame} (hg : g.method = m) {rest : List Value} (hstack : g.stack = .int n :: .int (nI 5) :: rest) (hdg : decode cc g.pc = .ok (.multianewarray index 2, 4))
    (kk : ∀ (H1 : Heap) (L : List Loc), (∀ q ∈ L, q.base = H.size) → H1.size = H.size + 6 → (∀ q : Nat, q < H.size → H1[q]? = H[q]?) → H1[H.size]? = some (arrV cQ 5 (fun i => if i < 5 then .ref (H.size + 1 + i) else .null)) → (∀ i : Nat, i < 5 → H1[H.size + 1 + i]? = some (arrV cJ N (fun _ => .long 0))) →
      W p l e R s m args below meth c H1 (locs ++ L) (cells + 6) (slots + 5 + 5 * N) Q { g with pc := g.pc + 4, stack := .ref H.size :: rest }) : W p l e R s m args below meth c H locs cells slots Q g := by
  intro T hT X
  subst hT; subst hb; subst hg
  have hpl : e.platform.magicAccessors = ({} : Platform).magicAccessors := by rw [X.admits.platform]
  obtain ⟨cc', hfcc, hcl⟩ := Cond.classLink_spec hown hclink e.platform hpl
  cases hfQ.symm.trans hfcc
  obtain ⟨hg₁, hwarm₁, hready₁⟩ := State.classEntry (e := e) X.warmed hcl
  generalize T.vm.noted g.method.cls index (.cls cQ) = vm₁ at hg₁ hwarm₁ hready₁
  have X₁ := X.noted hwarm₁
  have hal : s.vm.Alike vm₁ := hwarm₁.alike
  obtain ⟨kQ₁, hkQ₁, heQ⟩ := hal.2.2 _ _ hkQ
  have hQ₁ : kQ₁.kind = .array cJ (.array .long) := by rw [heQ]; exact hQ
  obtain ⟨r1, r2⟩ := X.roomAbove (a := 6) (b := 5 + 5 * N) hc (by omega)
  have hs₁ : (T.setVm vm₁).topJava?.isSome := X₁.here.top
  have hs0 : T.topJava?.isSome := X.here.top
  -- what the whole instruction comes to
  have key : wp (Op.multianewarray.sem index 2) (fun _ _ _ U => ∃ (S : State) (L : List Loc), U = S.setTop { g with stack := .ref T.heap.size :: rest } ∧ Stand p l e R s g.method args below meth c S (locs ++ L) (cells + 6) (slots + 5 + 5 * N) ∧ (∀ q ∈ L, q.base = T.heap.size) ∧ S.heap.size = T.heap.size + 6 ∧ (∀ q : Nat, q < T.heap.size → S.heap[q]? = T.heap[q]?) ∧ S.heap[T.heap.size]? = some (mg_o cQ T.heap.size 5) ∧ ∀ i : Nat, i < 5 → S.heap[T.heap.size + 1 + i]? = some (arrV cJ N (fun _ => .long 0))) (fun _ _ _ => False) e false [] ((T.setVm vm₁).setTop g) := by
    simp only [Op.multianewarray.sem, wp_bind']
    rw [W.resolveClassAt_ready (s := (T.setVm vm₁).setTop g) (State.method?_setTop g hs₁) hready₁]
    simp only [wp_bind']
    rw [W.popN, if_neg (by decide)]
    refine ⟨g, State.topJava?_setTop' _ hs₁, [.int (nI 5), .int n], rest, rfl, by rw [hstack]; rfl, ?_⟩
    simp only [List.mapM_cons, List.mapM_nil, wp_bind', wp_pure', State.setTop_setTop]
    unfold Op.multianewarray.make
    simp only [wp_bind', W.ite, W.theClass, wp_pure']
    rw [if_neg (by decide)]
    refine ⟨kQ₁, hkQ₁, ?_⟩
    rw [hQ₁]
    simp only [wp_bind']
    have e5 : (nI 5).toNatClampNeg = 5 := by decide
    rw [e5]
    refine mg_new (s := (T.setVm vm₁).setTop { g with stack := rest }) hkQ₁ hQ₁ rfl (by rw [Launch.admits_arrayLengthLimit X.admits]; decide) (by rw [Launch.admits_maxHeapBytes X.admits]; decide) (by show T.heap.size < _; omega) (by show T.slotsUsed + 5 ≤ _; omega) (fun acts' => ?_)
    rw [if_neg (by decide)]
    simp only [wp_bind', Std.Legacy.Range.forIn_eq_forIn_range']
    refine wp_forIn_inv (fun rs U => ∃ j, j ≤ 5 ∧ rs = List.range' j (5 - j) ∧ mg_I p l e R s g.method args below meth c T.heap locs cells slots cQ cJ N { g with stack := rest } j U) _ _ ⟨0, by decide, rfl, ?_⟩ ?_ ?_
    · have X2 := X₁.pushed (arrV cQ 5 (fun _ => .null))
      refine ⟨(T.setVm vm₁).pushCell (arrV cQ 5 (fun _ => .null)), [], ?_, ?_, fun q h => (by cases h), ?_, ?_, ?_, fun i hi => absurd hi (Nat.not_lt_zero i)⟩
      · rw [← arrV_new]
        rfl
      · rw [List.append_nil]
        rw [arrV_size] at X2
        simpa using X2
      · show (T.heap.push _).size = _
        simp
      · intro q hq
        show (T.heap.push _)[q]? = _
        rw [Array.getElem?_push, if_neg (Nat.ne_of_lt hq)]
      · show (T.heap.push _)[T.heap.size]? = _
        rw [Array.getElem?_push, if_pos rfl]
        rfl
    · intro x rs U d' acts2 Q' hI hq
      obtain ⟨j, hj, hrs, hI⟩ := hI
      have hj5 : j < 5 := by
        rcases Nat.lt_or_ge j 5 with q | q
        · exact q
        · have : j = 5 := by omega
          subst this
          cases hrs
      obtain ⟨r, hr⟩ : ∃ r, 5 - j = r + 1 := ⟨4 - j, by omega⟩
      rw [hr, List.range'_succ] at hrs
      cases hrs
      exact mg_row hkQ hQ hkJ hJ hn hN hNl hj5 hc hs hI (fun U' d2 acts3 h => hq U' d2 acts3 ⟨x + 1, by omega, by rw [show 5 - (x + 1) = r by omega], h⟩)
    · intro U d' acts2 hI
      obtain ⟨j, hj, hrs, S, L, rfl, X5, hL, hsz, hold, hout, hin⟩ := hI
      have hj5 : j = 5 := by
        have h0 := congrArg List.length hrs
        simp at h0
        omega
      subst hj5
      simp only [wp_bind', wp_pure', W.mark, W.pushRef]
      refine ⟨_, State.topJava?_setTop' _ X5.here.top, S, L, by rw [State.setTop_setTop]; rfl, X5, hL, hsz, hold, hout, hin⟩
  have hw : wpRun (Op.multianewarray.sem index 2) (fun _ U _ => ∃ (S : State) (L : List Loc), U = S.setTop { g with stack := .ref T.heap.size :: rest } ∧ Stand p l e R s g.method args below meth c S (locs ++ L) (cells + 6) (slots + 5 + 5 * N) ∧ (∀ q ∈ L, q.base = T.heap.size) ∧ S.heap.size = T.heap.size + 6 ∧ (∀ q : Nat, q < T.heap.size → S.heap[q]? = T.heap[q]?) ∧ S.heap[T.heap.size]? = some (mg_o cQ T.heap.size 5) ∧ ∀ i : Nat, i < 5 → S.heap[T.heap.size + 1 + i]? = some (arrV cJ N (fun _ => .long 0))) (fun _ _ _ => False) e (T.setTop g) := by
    unfold wpRun
    have tr : ∀ {Q2 : Unit → Pre} {E2 : CtlPost}, wp (Op.multianewarray.sem index 2) Q2 E2 e false [] (T.setTop g) ↔ wp (Op.multianewarray.sem index 2) Q2 E2 e false [] ((T.setVm vm₁).setTop g) := by
      intro Q2 E2
      simp only [Op.multianewarray.sem, wp_bind']
      exact W.resolveClassAt_transfer (s := T.setTop g) (State.method?_setTop g hs0) hg₁ hready₁
    exact tr.mpr key
  have hrun := (wpRun_iff_run _ _ _ _ _).mp hw
  cases hr : (Op.multianewarray.sem index 2).run e (T.setTop g) with
  | ok a s₁ acts =>
    rw [hr] at hrun
    obtain ⟨S, L, rfl, X5, hL, hsz, hold, hout, hin⟩ := hrun
    obtain ⟨t', a1, b1⟩ := kk S.heap L hL hsz hold hout hin S rfl X5
    refine ⟨t', ?_, b1⟩
    refine Steps.instr (c := c) (by simpa using X.here) ?_
    rw [hdg]
    show wpRun (p.tables.exec (.multianewarray index 2)) _ _ e (T.setTop g)
    rw [hexec]
    refine (wpRun_iff_run _ _ _ _ _).mpr ?_
    rw [show Jvm.exec (.multianewarray index 2) = Op.multianewarray.sem index 2 from rfl, hr]
    intro acts2
    rw [afterInstr_ok]
    exact a1
  | ctl x s₁ acts =>
    rw [hr] at hrun
    cases x <;> exact hrun.elim
end MG3
/-- five rows of n longs at the places a, a + 1 .. a + 4, the array of them at k -/
def mx_g5 (a : Nat) : Nat → Option Nat := fun j => if j < 5 then some (a + j) else none
def mx_rows (F : mx_F) (a n : Nat) : mx_F := mx_put (mx_put (mx_put (mx_put (mx_put F a (mx_la n (fun _ => 0))) (a + 1) (mx_la n (fun _ => 0))) (a + 2) (mx_la n (fun _ => 0))) (a + 3) (mx_la n (fun _ => 0))) (a + 4) (mx_la n (fun _ => 0))
def mx_newg (k a mc ms nx : Nat) : mx_O := fun lv st F ca sl K => ∃ (n : Nat) (r : mx_S), st = .inl (nI n) :: .inl (nI 5) :: r ∧ Nat.ble n 1000000 = true ∧ (∀ q, (q = k ∨ (a ≤ q ∧ q < a + 5)) → F q = none ∧ mx_no q F ∧ mx_nrL q lv = true ∧ mx_nrS q r = true) ∧ (k < a ∨ a + 5 ≤ k) ∧ Nat.ble (ca + 6) mc = true ∧ Nat.ble (sl + 5 + 5 * n) ms = true ∧ K nx lv (mx_r k :: r) (mx_put (mx_rows F a n) k (mx_qa 2 5 (mx_g5 a))) (ca + 6) (sl + 5 + 5 * n)
/-- the addresses behind it -/
def mg_ad (ad : Nat → Nat) (k a h : Nat) : Nat → Nat := fun q => if q = k then h else if a ≤ q ∧ q < a + 5 then h + 1 + (q - a) else ad q
theorem mx_rows_or {F : mx_F} {a n j : Nat} {x : mx_E} (h : mx_rows F a n j = some x) : ((a ≤ j ∧ j < a + 5) ∧ x = mx_la n (fun _ => 0)) ∨ (¬ (a ≤ j ∧ j < a + 5) ∧ F j = some x) := by
  unfold mx_rows at h
  rcases mx_put_or h with ⟨e1, e2⟩ | ⟨n1, h⟩
  · exact Or.inl ⟨by omega, e2⟩
  rcases mx_put_or h with ⟨e1, e2⟩ | ⟨n2, h⟩
  · exact Or.inl ⟨by omega, e2⟩
  rcases mx_put_or h with ⟨e1, e2⟩ | ⟨n3, h⟩
  · exact Or.inl ⟨by omega, e2⟩
  rcases mx_put_or h with ⟨e1, e2⟩ | ⟨n4, h⟩
  · exact Or.inl ⟨by omega, e2⟩
  rcases mx_put_or h with ⟨e1, e2⟩ | ⟨n5, h⟩
  · exact Or.inl ⟨by omega, e2⟩
  exact Or.inr ⟨by omega, h⟩
theorem mg_v {ad tb : Nat → Nat} {k a h : Nat} {v : mx_V} (hk : v ≠ mx_r k) (ha : ∀ q, a ≤ q → q < a + 5 → v ≠ mx_r q) : mx_v (mg_ad ad k a h) tb v = mx_v ad tb v := by
  rcases v with x | x | (_ | x) | x
  · rfl
  · rfl
  · rfl
  · have h1 : x ≠ k := fun z => hk (by rw [z])
    have h2 : ¬ (a ≤ x ∧ x < a + 5) := fun z => ha x z.1 z.2 rfl
    show Value.ref (mg_ad ad k a h x) = Value.ref (ad x)
    unfold mg_ad
    rw [if_neg h1, if_neg h2]
  · rfl
theorem mg_e {tc : Nat → ClassId} {ad tb : Nat → Nat} {k a h : Nat} {x : mx_E} (hk : mx_noE k x) (ha : ∀ q, a ≤ q → q < a + 5 → mx_noE q x) : mx_e tc (mg_ad ad k a h) tb x = mx_e tc ad tb x := by
  rcases x with ⟨t, n, f⟩ | ⟨t, n, f⟩ | ⟨t, n, f⟩ | ⟨ci, fs⟩
  · rfl
  · rfl
  · have h2 : (fun j => (f j).map (mg_ad ad k a h)) = (fun j => (f j).map ad) := by
      funext j
      cases hj : f j with
      | none => rfl
      | some z =>
        have h1 : z ≠ k := fun w => hk j (by rw [hj, w])
        have h3 : ¬ (a ≤ z ∧ z < a + 5) := fun w => ha z w.1 w.2 j hj
        show some (mg_ad ad k a h z) = some (ad z)
        unfold mg_ad
        rw [if_neg h1, if_neg h3]
    show (Sum.inl (tc t, n, Sum.inr (Sum.inr (Sum.inr (Sum.inr (fun j => (f j).map (mg_ad ad k a h)))))) : va_E) = _
    rw [h2]
    rfl
  · have h2 : fs.map (mx_v (mg_ad ad k a h) tb) = fs.map (mx_v ad tb) := List.map_congr_left fun v hv => mg_v (hk v hv) (fun q q1 q2 => ha q q1 q2 v hv)
    show (Sum.inr (ci, fs.map (mx_v (mg_ad ad k a h) tb)) : va_E) = _
    rw [h2]
    rfl
section MG4
variable {p : Program} {l : Launch} {e : Env} {R : Room} {s : State} {m : MethodId} {args : Array Value} {below : List Frame} {meth : Method} {c : Code} {Q : State → Prop} {cc : ByteArray} {own : String} {Ts : List Cond} {D : va_G} {tc : Nat → ClassId} {tb : Nat → Nat} {A : Nat → Prop} {nL : Nat} {Ok : (Nat → Nat) → mx_F → Prop} {pc : Nat}
theorem mx_s_newg (C : mx_C p s m args c cc own Ts D tc tb A nL Ok) (hUp : ∀ (ad ad' : Nat → Nat) (F F' : mx_F), mx_Ok1 ad F ad' F' → Ok ad F → Ok ad' F') {k a i mc ms : Nat} (hcl : Jvm.Cond.classLink own i "[[J" ∈ Ts) (hd : decode cc pc = .ok (.multianewarray i 2, 4)) (hR : mc ≤ R.cells ∧ ms ≤ R.slots) : mx_So (mx_W p l e R s m args below meth c Q D tc tb A nL Ok) pc (mx_newg k a mc ms (pc + 4)) := by
  obtain ⟨hx, hb, hml, hown, hts, hK, hA, hZ, hOk⟩ := C
  intro lv st F ca sl h
  obtain ⟨n, r, rfl, hn, hfr, hka, g1, g2, h⟩ := h
  have hn := Nat.le_of_ble_eq_true hn
  have g1 := Nat.le_of_ble_eq_true g1
  have g2 := Nat.le_of_ble_eq_true g2
  intro ad H locs ls h1 hP hD hS hl
  obtain ⟨hAQ, hFQ⟩ := hK.2 2 _ (mx_t_get rfl)
  obtain ⟨hAJ, hFJ⟩ := hK.2 1 _ (mx_t_get rfl)
  obtain ⟨-, kJ, hkJ, pJ, hJ⟩ := hAJ 0 (fun _ => .null)
  obtain ⟨cQ, cJ, kQ, f1, f2, hkQ, hQ⟩ := hZ.2.2.2
  have eQ : cQ = tc 2 := Option.some.inj (f1.symm.trans hFQ)
  have eJ : cJ = tc 1 := Option.some.inj (f2.symm.trans hFJ)
  subst eQ
  subst eJ
  have hfk := hfr k (Or.inl rfl)
  have hfa : ∀ q, a ≤ q → q < a + 5 → F q = none ∧ mx_no q F ∧ mx_nrL q lv = true ∧ mx_nrS q r = true := fun q q1 q2 => hfr q (Or.inr ⟨q1, q2⟩)
  refine mg_W (cQ := tc 2) (cJ := tc 1) (n := nI n) (N := n) hx hb hown (hts _ hcl) f1 hkQ hQ hkJ hJ (nI_pos (by omega)) (nI_clamp (by omega)) hn (by omega) (by omega) rfl rfl hd (fun H1 L hL z1 o1 e1 er => ?_)
  have adk : mg_ad ad k a H.size k = H.size := if_pos rfl
  have ada : ∀ q, a ≤ q → q < a + 5 → mg_ad ad k a H.size q = H.size + 1 + (q - a) := by
    intro q q1 q2
    unfold mg_ad
    rw [if_neg (by omega), if_pos ⟨q1, q2⟩]
  have ado : ∀ q, q ≠ k → ¬ (a ≤ q ∧ q < a + 5) → mg_ad ad k a H.size q = ad q := by
    intro q q1 q2
    unfold mg_ad
    rw [if_neg q1, if_neg q2]
  have hold : ∀ (j : Nat) (x : mx_E), F j = some x → j ≠ k ∧ ¬ (a ≤ j ∧ j < a + 5) ∧ ad j < H.size := by
    intro j x hj
    refine ⟨fun z => ?_, fun z => ?_, (hP j x hj).lt⟩
    · rw [z, hfk.1] at hj
      cases hj
    · rw [(hfa j z.1 z.2).1] at hj
      cases hj
  have hP1 : mx_P D tc (mg_ad ad k a H.size) tb (mx_put (mx_rows F a n) k (mx_qa 2 5 (mx_g5 a))) H1 := by
    intro j x hx2
    rcases mx_put_or hx2 with ⟨ej, ex⟩ | ⟨hjk, hx2⟩
    · subst ej
      subst ex
      rw [adk]
      show H1[H.size]? = some (vp_cell _ _)
      rw [e1]
      congr 1
      show arrV _ _ _ = arrV (tc 2) 5 (fun i => va_rf ((mx_g5 a i).map (mg_ad ad j a H.size)))
      congr 1
      funext i
      by_cases hi : i < 5
      · rw [if_pos hi]
        unfold mx_g5
        rw [if_pos hi]
        show _ = Value.ref (mg_ad ad j a H.size (a + i))
        rw [ada (a + i) (by omega) (by omega), show a + i - a = i by omega]
      · rw [if_neg hi]
        unfold mx_g5
        rw [if_neg hi]
        rfl
    · rcases mx_rows_or hx2 with ⟨⟨q1, q2⟩, ex⟩ | ⟨hno2, hx2⟩
      · subst ex
        rw [ada j q1 q2]
        exact er (j - a) (by omega)
      · rw [ado j hjk hno2, mg_e (hfk.2.1 j x hx2) (fun q q1 q2 => (hfa q q1 q2).2.1 j x hx2)]
        exact (hP j x hx2).kept (o1 _ (hold j x hx2).2.2)
  have cls : ∀ (j : Nat) (x : mx_E), mx_put (mx_rows F a n) k (mx_qa 2 5 (mx_g5 a)) j = some x → (j = k ∧ mg_ad ad k a H.size j = H.size) ∨ ((a ≤ j ∧ j < a + 5) ∧ mg_ad ad k a H.size j = H.size + 1 + (j - a)) ∨ (∃ y, F j = some y ∧ mg_ad ad k a H.size j = ad j ∧ ad j < H.size) := by
    intro j x hx2
    rcases mx_put_or hx2 with ⟨ej, ex⟩ | ⟨hjk, hx2⟩
    · exact Or.inl ⟨ej, by rw [ej]; exact adk⟩
    · rcases mx_rows_or hx2 with ⟨⟨q1, q2⟩, ex⟩ | ⟨hno2, hx2⟩
      · exact Or.inr (Or.inl ⟨⟨q1, q2⟩, ada j q1 q2⟩)
      · exact Or.inr (Or.inr ⟨x, hx2, ado j hjk hno2, (hold j x hx2).2.2⟩)
  have hD1 : mx_D A (mg_ad ad k a H.size) (mx_put (mx_rows F a n) k (mx_qa 2 5 (mx_g5 a))) := by
    refine ⟨fun i j x y hx2 hy2 hij => ?_, fun j x hx2 => ?_⟩
    · rcases cls i x hx2 with ⟨a1, a2⟩ | ⟨a1, a2⟩ | ⟨x', a1, a2, a3⟩ <;> rcases cls j y hy2 with ⟨b1, b2⟩ | ⟨b1, b2⟩ | ⟨y', b1, b2, b3⟩ <;> rw [a2, b2] at hij
      · omega
      · omega
      · omega
      · omega
      · omega
      · omega
      · omega
      · omega
      · exact hD.1 i j x' y' a1 b1 hij
    · rcases cls j x hx2 with ⟨a1, a2⟩ | ⟨a1, a2⟩ | ⟨x', a1, a2, a3⟩ <;> rw [a2]
      · exact hA _ hS.1
      · exact hA _ (by have := hS.1; omega)
      · exact hD.2 j x' a1
  have hin : mx_in F (mx_put (mx_rows F a n) k (mx_qa 2 5 (mx_g5 a))) := by
    unfold mx_rows
    exact mx_in_tr (mx_in_tr (mx_in_tr (mx_in_tr (mx_in_tr (mx_in_put F a _) (mx_in_put _ _ _)) (mx_in_put _ _ _)) (mx_in_put _ _ _)) (mx_in_put _ _ _)) (mx_in_put _ _ _)
  have h2 := h (mg_ad ad k a H.size) H1 (locs ++ L) ls (hUp ad _ F _ ⟨fun q y hy => ado q (hold q y hy).1 (hold q y hy).2.1, hin⟩ h1) hP1 hD1 ⟨Nat.le_trans hS.1 (by omega), fun x q1 q2 => (o1 x (Nat.lt_of_lt_of_le q1 hS.1)).trans (hS.2.1 x q1 q2), fun q hq => by
      rcases List.mem_append.mp hq with w | w
      · exact hS.2.2 q w
      · rw [hL q w]
        exact hA _ hS.1⟩ (mx_H_same (fun v hv => mg_v (mx_nrL_ok hfk.2.2.1 v hv) (fun q q1 q2 => mx_nrL_ok (hfa q q1 q2).2.2.1 v hv)) hl)
  rw [List.map_cons, mx_st_same (ad := ad) (fun v hv => mg_v (mx_nrS_ok hfk.2.2.2 v hv) (fun q q1 q2 => mx_nrS_ok (hfa q q1 q2).2.2.2 v hv))] at h2
  have e5 : mx_v (mg_ad ad k a H.size) tb (mx_r k) = .ref H.size := by
    show Value.ref (mg_ad ad k a H.size k) = _
    rw [adk]
  rw [e5] at h2
  exact h2
end MG4
end
section
-- LadderWords$Row.add(I)Z
/-- a letter that comes: refused, or kept -/
abbrev uc (n : Nat) (u : Int32) : Prop := u < nI 97 ∨ nI 122 < u ∨ nI 12 ≤ nI n
def sp_R_add : mx_Sp := fun As F P => ∃ (n : Nat) (f : Nat → Int32) (u : Int32), As = [mx_r 1, mx_i u] ∧ F 1 = some (e_R n) ∧ F 2 = some (mx_ia 12 f) ∧ n ≤ 12 ∧ (uc n u → P (some (mx_i (nI 0))) F) ∧ (¬ uc n u → P (some (mx_i (nI 1))) (mx_put (mx_put F 2 (mx_ia 12 (upd f n u))) 1 (e_R (n + 1))))
theorem d_R_add_0 : decode c_R_add 0 = .ok (.iload_n 1, 1) := by decide +kernel
theorem d_R_add_1 : decode c_R_add 1 = .ok (.bipush 97, 2) := by decide +kernel
theorem d_R_add_3 : decode c_R_add 3 = .ok (.if_icmp .lt 21, 3) := by decide +kernel
theorem d_R_add_6 : decode c_R_add 6 = .ok (.iload_n 1, 1) := by decide +kernel
theorem d_R_add_7 : decode c_R_add 7 = .ok (.bipush 122, 2) := by decide +kernel
theorem d_R_add_9 : decode c_R_add 9 = .ok (.if_icmp .gt 15, 3) := by decide +kernel
theorem d_R_add_12 : decode c_R_add 12 = .ok (.aload_n 0, 1) := by decide +kernel
theorem d_R_add_13 : decode c_R_add 13 = .ok (.getfield 15, 3) := by decide +kernel
theorem d_R_add_16 : decode c_R_add 16 = .ok (.aload_n 0, 1) := by decide +kernel
theorem d_R_add_17 : decode c_R_add 17 = .ok (.getfield 9, 3) := by decide +kernel
theorem d_R_add_20 : decode c_R_add 20 = .ok (.arraylength, 1) := by decide +kernel
theorem d_R_add_21 : decode c_R_add 21 = .ok (.if_icmp .lt 5, 3) := by decide +kernel
theorem d_R_add_24 : decode c_R_add 24 = .ok (.iconst 0, 1) := by decide +kernel
theorem d_R_add_25 : decode c_R_add 25 = .ok (.ireturn, 1) := by decide +kernel
theorem d_R_add_26 : decode c_R_add 26 = .ok (.aload_n 0, 1) := by decide +kernel
theorem d_R_add_27 : decode c_R_add 27 = .ok (.getfield 9, 3) := by decide +kernel
theorem d_R_add_30 : decode c_R_add 30 = .ok (.aload_n 0, 1) := by decide +kernel
theorem d_R_add_31 : decode c_R_add 31 = .ok (.getfield 15, 3) := by decide +kernel
theorem d_R_add_34 : decode c_R_add 34 = .ok (.iload_n 1, 1) := by decide +kernel
theorem d_R_add_35 : decode c_R_add 35 = .ok (.iastore, 1) := by decide +kernel
theorem d_R_add_36 : decode c_R_add 36 = .ok (.aload_n 0, 1) := by decide +kernel
theorem d_R_add_37 : decode c_R_add 37 = .ok (.dup, 1) := by decide +kernel
theorem d_R_add_38 : decode c_R_add 38 = .ok (.getfield 15, 3) := by decide +kernel
theorem d_R_add_41 : decode c_R_add 41 = .ok (.iconst 1, 1) := by decide +kernel
theorem d_R_add_42 : decode c_R_add 42 = .ok (.iadd, 1) := by decide +kernel
theorem d_R_add_43 : decode c_R_add 43 = .ok (.putfield 15, 3) := by decide +kernel
theorem d_R_add_46 : decode c_R_add 46 = .ok (.iconst 1, 1) := by decide +kernel
theorem d_R_add_47 : decode c_R_add 47 = .ok (.ireturn, 1) := by decide +kernel
abbrev w_R_add : List Cond := mx_ws y_R_add c_R_add 2 (some .boolean)
abbrev rm_R_add : Room := { frames := 10, cells := 0, slots := 0, locals := 200 }
def t_R_add  (P : Option mx_V → mx_F → Prop) : List (Nat × mx_O) := [
  (0, mx_iload 1 1),
  (1, mx_push (.inl (nI 97)) 3),
  (3, mx_ic_lt 24 6),
  (6, mx_iload 1 7),
  (7, mx_push (.inl (nI 122)) 9),
  (9, mx_ic_gt 24 12),
  (12, mx_aload 0 13),
  (13, mx_get 3 1 16),
  (16, mx_aload 0 17),
  (17, mx_get 3 0 20),
  (20, mx_alen 21),
  (21, mx_ic_lt 26 24),
  (24, mx_push (.inl (nI 0)) 25),
  (25, mx_zret P),
  (26, mx_aload 0 27),
  (27, mx_get 3 0 30),
  (30, mx_aload 0 31),
  (31, mx_get 3 1 34),
  (34, mx_iload 1 35),
  (35, mx_iast 36),
  (36, mx_aload 0 37),
  (37, mx_dup 38),
  (38, mx_get 3 1 41),
  (41, mx_push (.inl (nI 1)) 42),
  (42, mx_iadd 43),
  (43, mx_puti 3 1 46),
  (46, mx_push (.inl (nI 1)) 47),
  (47, mx_zret P)]
set_option maxRecDepth 20000 in
theorem a_R_add  {p : Program} {l : Launch} {e : Env} {s : State} {m : MethodId} {args : Array Value} {below : List Frame} {meth : Method} {c : Code} {D : va_G} {tc : Nat → ClassId} {tb : Nat → Nat} {sz : Nat} {a0 : Nat → Nat} {G : mx_F} {P : Option mx_V → mx_F → Prop}  (C : mx_C p s m args c c_R_add y_R_add.cls w_R_add D tc tb (mx_A a0 G sz) 2 (mx_Ok0 a0 G)) (hr : meth.sig.returnType = (some .boolean)) (hlk : meth.locks = false) : mx_all (mx_W p l e rm_R_add s m args below meth c (MQ below (mx_Q D tc tb a0 G sz P) args s 0 0 (mx_A a0 G sz)) D tc tb (mx_A a0 G sz) 2 (mx_Ok0 a0 G)) (t_R_add  P) :=
  ⟨mx_s_iload_n C d_R_add_0 rfl,
  mx_s_bipush C d_R_add_1 (by decide),
  mx_s_ic_lt C d_R_add_3 (by decide),
  mx_s_iload_n C d_R_add_6 rfl,
  mx_s_bipush C d_R_add_7 (by decide),
  mx_s_ic_gt C d_R_add_9 (by decide),
  mx_s_aload_n C d_R_add_12 rfl,
  mx_s_get (T := T_R) (N := 2) (k := 1) C (fun w h => List.mem_cons_of_mem _ (in_R w h)) rfl (by decide) (List.mem_cons_of_mem _ (mx_in0 (by decide +kernel) rfl)) rfl d_R_add_13,
  mx_s_aload_n C d_R_add_16 rfl,
  mx_s_get (T := T_R) (N := 2) (k := 0) C (fun w h => List.mem_cons_of_mem _ (in_R w h)) rfl (by decide) (List.mem_cons_of_mem _ (mx_in0 (by decide +kernel) rfl)) rfl d_R_add_17,
  mx_s_alen C d_R_add_20,
  mx_s_ic_lt C d_R_add_21 (by decide),
  mx_s_iconst C d_R_add_24 (by decide),
  mx_s_zret C hr hlk d_R_add_25,
  mx_s_aload_n C d_R_add_26 rfl,
  mx_s_get (T := T_R) (N := 2) (k := 0) C (fun w h => List.mem_cons_of_mem _ (in_R w h)) rfl (by decide) (List.mem_cons_of_mem _ (mx_in0 (by decide +kernel) rfl)) rfl d_R_add_27,
  mx_s_aload_n C d_R_add_30 rfl,
  mx_s_get (T := T_R) (N := 2) (k := 1) C (fun w h => List.mem_cons_of_mem _ (in_R w h)) rfl (by decide) (List.mem_cons_of_mem _ (mx_in0 (by decide +kernel) rfl)) rfl d_R_add_31,
  mx_s_iload_n C d_R_add_34 rfl,
  mx_s_iast C d_R_add_35,
  mx_s_aload_n C d_R_add_36 rfl,
  mx_s_dup C d_R_add_37,
  mx_s_get (T := T_R) (N := 2) (k := 1) C (fun w h => List.mem_cons_of_mem _ (in_R w h)) rfl (by decide) (List.mem_cons_of_mem _ (mx_in0 (by decide +kernel) rfl)) rfl d_R_add_38,
  mx_s_iconst C d_R_add_41 (by decide),
  mx_s_iadd C d_R_add_42,
  mx_s_puti (T := T_R) (N := 2) (k := 1) C (fun w h => List.mem_cons_of_mem _ (in_R w h)) rfl ty_R ok_R nm_R (by decide) (List.mem_cons_of_mem _ (mx_in0 (by decide +kernel) rfl)) rfl rfl (ok_R 1 (by decide)) d_R_add_43,
  mx_s_iconst C d_R_add_46 (by decide),
  mx_s_zret C hr hlk d_R_add_47,
  trivial⟩
set_option maxRecDepth 20000 in
set_option maxHeartbeats 2000000 in
theorem m_R_add (l : Launch) : mx_M l y_R_add w_R_add rm_R_add sp_R_add := by
  intro D tc tb ad As F P sz0 h
  obtain ⟨n, f, u, rfl, h1, h2, hn, hz, ho⟩ := h
  refine mx_run (cc := c_R_add) (maxL := 2) (ret := (some .boolean)) (tab := t_R_add  P) (by decide) rfl D tc tb ad _ F P sz0 (Nat.le_of_ble_eq_true rfl) (fun p e s m args below meth c C hr hlk => a_R_add  C hr hlk) ?_
  intro Rr go
  have hF := mx_as2 h1 h2
  rw [hF]
  have z : uc n u → Rr 24 [some (mx_r 1), some (mx_i u)] [] (mx_put (mx_put F 1 (e_R n)) 2 (mx_ia 12 f)) 0 0 := by
    intro hc
    refine go rfl ?_
    refine go rfl ⟨_, rfl, rfl, rfl, (Or.inl rfl), ?_⟩
    rw [← hF]
    exact hz hc
  refine go rfl ⟨_, rfl, ?_⟩
  refine go rfl ?_
  refine go rfl ⟨_, _, _, rfl, fun c1 => ?_, fun c1 => ?_⟩
  · exact z (Or.inl c1)
  refine go rfl ⟨_, rfl, ?_⟩
  refine go rfl ?_
  refine go rfl ⟨_, _, _, rfl, fun c2 => ?_, fun c2 => ?_⟩
  · exact z (Or.inr (Or.inl c2))
  refine go rfl ⟨_, rfl, ?_⟩
  refine go rfl ⟨_, _, _, _, rfl, rfl, rfl, ?_⟩
  refine go rfl ⟨_, rfl, ?_⟩
  refine go rfl ⟨_, _, _, _, rfl, rfl, rfl, ?_⟩
  refine go rfl ⟨_, _, _, _, rfl, rfl, ?_⟩
  refine go rfl ⟨_, _, _, rfl, fun c3 => ?_, fun c3 => ?_⟩
  · have hlt : n < 12 := (nI_ltI (by omega) (by omega)).mp c3
    refine go rfl ⟨_, rfl, ?_⟩
    refine go rfl ⟨_, _, _, _, rfl, rfl, rfl, ?_⟩
    refine go rfl ⟨_, rfl, ?_⟩
    refine go rfl ⟨_, _, _, _, rfl, rfl, rfl, ?_⟩
    refine go rfl ⟨_, rfl, ?_⟩
    refine go rfl ⟨_, _, _, _, _, _, rfl, rfl, (vp_in_nI hlt (by omega)), ?_⟩
    rw [nI_clamp (by omega)]
    refine go rfl ⟨_, rfl, ?_⟩
    refine go rfl ⟨_, _, rfl, rfl, ?_⟩
    refine go rfl ⟨_, _, _, _, rfl, rfl, rfl, ?_⟩
    refine go rfl ?_
    refine go rfl ⟨_, _, _, rfl, ?_⟩
    rw [nI_add]
    refine go rfl ⟨_, _, _, _, rfl, rfl, (Nat.le_of_ble_eq_true rfl), ?_⟩
    refine go rfl ?_
    refine go rfl ⟨_, rfl, rfl, rfl, (Or.inr rfl), ?_⟩
    rw [← hF]
    refine ho (fun hc => ?_)
    rcases hc with hc | hc | hc
    · exact c1 hc
    · exact c2 hc
    · exact absurd ((nI_leI (by omega) (by omega)).mp hc) (by omega)
  · exact z (Or.inr (Or.inr (Int32.not_lt.mp c3)))
-- LadderWords$Row.clear()V
def sp_R_clear : mx_Sp := fun As F P => ∃ n : Nat, As = [mx_r 1] ∧ F 1 = some (e_R n) ∧ P none (mx_put F 1 (e_R 0))
theorem d_R_clear_0 : decode c_R_clear 0 = .ok (.aload_n 0, 1) := by decide +kernel
theorem d_R_clear_1 : decode c_R_clear 1 = .ok (.iconst 0, 1) := by decide +kernel
theorem d_R_clear_2 : decode c_R_clear 2 = .ok (.putfield 15, 3) := by decide +kernel
theorem d_R_clear_5 : decode c_R_clear 5 = .ok (.return_, 1) := by decide +kernel
abbrev w_R_clear : List Cond := mx_ws y_R_clear c_R_clear 1 none
abbrev rm_R_clear : Room := { frames := 10, cells := 0, slots := 0, locals := 200 }
def t_R_clear  (P : Option mx_V → mx_F → Prop) : List (Nat × mx_O) := [
  (0, mx_aload 0 1),
  (1, mx_push (.inl (nI 0)) 2),
  (2, mx_puti 3 1 5),
  (5, mx_ret P)]
set_option maxRecDepth 20000 in
theorem a_R_clear  {p : Program} {l : Launch} {e : Env} {s : State} {m : MethodId} {args : Array Value} {below : List Frame} {meth : Method} {c : Code} {D : va_G} {tc : Nat → ClassId} {tb : Nat → Nat} {sz : Nat} {a0 : Nat → Nat} {G : mx_F} {P : Option mx_V → mx_F → Prop}  (C : mx_C p s m args c c_R_clear y_R_clear.cls w_R_clear D tc tb (mx_A a0 G sz) 1 (mx_Ok0 a0 G)) (hr : meth.sig.returnType = none) (hlk : meth.locks = false) : mx_all (mx_W p l e rm_R_clear s m args below meth c (MQ below (mx_Q D tc tb a0 G sz P) args s 0 0 (mx_A a0 G sz)) D tc tb (mx_A a0 G sz) 1 (mx_Ok0 a0 G)) (t_R_clear  P) :=
  ⟨mx_s_aload_n C d_R_clear_0 rfl,
  mx_s_iconst C d_R_clear_1 (by decide),
  mx_s_puti (T := T_R) (N := 2) (k := 1) C (fun w h => List.mem_cons_of_mem _ (in_R w h)) rfl ty_R ok_R nm_R (by decide) (List.mem_cons_of_mem _ (mx_in0 (by decide +kernel) rfl)) rfl rfl (ok_R 1 (by decide)) d_R_clear_2,
  mx_s_ret C hr hlk d_R_clear_5,
  trivial⟩
set_option maxRecDepth 20000 in
set_option maxHeartbeats 2000000 in
theorem m_R_clear (l : Launch) : mx_M l y_R_clear w_R_clear rm_R_clear sp_R_clear := by
  intro D tc tb ad As F P sz0 h
  obtain ⟨n, rfl, h1, hp⟩ := h
  refine mx_run (cc := c_R_clear) (maxL := 1) (ret := none) (tab := t_R_clear  P) (by decide) rfl D tc tb ad _ F P sz0 (Nat.le_of_ble_eq_true rfl) (fun p e s m args below meth c C hr hlk => a_R_clear  C hr hlk) ?_
  intro Rr go
  have hF := mx_as1 h1
  rw [hF]
  refine go rfl ⟨_, rfl, ?_⟩
  refine go rfl ?_
  refine go rfl ⟨_, _, _, _, rfl, rfl, (Nat.le_of_ble_eq_true rfl), ?_⟩
  refine go rfl ⟨rfl, rfl, rfl, ?_⟩
  rw [← hF]
  exact hp
-- LadderWords$Row.length()I
def sp_R_length : mx_Sp := fun As F P => ∃ n : Nat, As = [mx_r 1] ∧ F 1 = some (e_R n) ∧ P (some (mx_i (nI n))) F
theorem d_R_length_0 : decode c_R_length 0 = .ok (.aload_n 0, 1) := by decide +kernel
theorem d_R_length_1 : decode c_R_length 1 = .ok (.getfield 15, 3) := by decide +kernel
theorem d_R_length_4 : decode c_R_length 4 = .ok (.ireturn, 1) := by decide +kernel
abbrev w_R_length : List Cond := mx_ws y_R_length c_R_length 1 (some .int)
abbrev rm_R_length : Room := { frames := 10, cells := 0, slots := 0, locals := 200 }
def t_R_length  (P : Option mx_V → mx_F → Prop) : List (Nat × mx_O) := [
  (0, mx_aload 0 1),
  (1, mx_get 3 1 4),
  (4, mx_iret P)]
set_option maxRecDepth 20000 in
theorem a_R_length  {p : Program} {l : Launch} {e : Env} {s : State} {m : MethodId} {args : Array Value} {below : List Frame} {meth : Method} {c : Code} {D : va_G} {tc : Nat → ClassId} {tb : Nat → Nat} {sz : Nat} {a0 : Nat → Nat} {G : mx_F} {P : Option mx_V → mx_F → Prop}  (C : mx_C p s m args c c_R_length y_R_length.cls w_R_length D tc tb (mx_A a0 G sz) 1 (mx_Ok0 a0 G)) (hr : meth.sig.returnType = (some .int)) (hlk : meth.locks = false) : mx_all (mx_W p l e rm_R_length s m args below meth c (MQ below (mx_Q D tc tb a0 G sz P) args s 0 0 (mx_A a0 G sz)) D tc tb (mx_A a0 G sz) 1 (mx_Ok0 a0 G)) (t_R_length  P) :=
  ⟨mx_s_aload_n C d_R_length_0 rfl,
  mx_s_get (T := T_R) (N := 2) (k := 1) C (fun w h => List.mem_cons_of_mem _ (in_R w h)) rfl (by decide) (List.mem_cons_of_mem _ (mx_in0 (by decide +kernel) rfl)) rfl d_R_length_1,
  mx_s_iret C hr hlk d_R_length_4,
  trivial⟩
set_option maxRecDepth 20000 in
set_option maxHeartbeats 2000000 in
theorem m_R_length (l : Launch) : mx_M l y_R_length w_R_length rm_R_length sp_R_length := by
  intro D tc tb ad As F P sz0 h
  obtain ⟨n, rfl, h1, hp⟩ := h
  refine mx_run (cc := c_R_length) (maxL := 1) (ret := (some .int)) (tab := t_R_length  P) (by decide) rfl D tc tb ad _ F P sz0 (Nat.le_of_ble_eq_true rfl) (fun p e s m args below meth c C hr hlk => a_R_length  C hr hlk) ?_
  intro Rr go
  have hF := mx_as1 h1
  rw [hF]
  refine go rfl ⟨_, rfl, ?_⟩
  refine go rfl ⟨_, _, _, _, rfl, rfl, rfl, ?_⟩
  refine go rfl ⟨_, rfl, rfl, rfl, ?_⟩
  rw [← hF]
  exact hp
end
section
-- LadderWords.unit(I)Z
def sp_L_unit : mx_Sp := fun As F P => ∃ (n : Nat) (f : Nat → Int32) (u : Int32), As = [mx_r 0, mx_i u] ∧ F 0 = some e_L ∧ F 1 = some (e_R n) ∧ F 2 = some (mx_ia 12 f) ∧ n ≤ 12 ∧ (uc n u → P (some (mx_i (nI 0))) F) ∧ (¬ uc n u → P (some (mx_i (nI 1))) (mx_put (mx_put F 2 (mx_ia 12 (upd f n u))) 1 (e_R (n + 1))))
theorem d_L_unit_0 : decode c_L_unit 0 = .ok (.aload_n 0, 1) := by decide +kernel
theorem d_L_unit_1 : decode c_L_unit 1 = .ok (.getfield 10, 3) := by decide +kernel
theorem d_L_unit_4 : decode c_L_unit 4 = .ok (.iload_n 1, 1) := by decide +kernel
theorem d_L_unit_5 : decode c_L_unit 5 = .ok (.invokevirtual 53, 3) := by decide +kernel
theorem d_L_unit_8 : decode c_L_unit 8 = .ok (.ireturn, 1) := by decide +kernel
abbrev w_L_unit : List Cond := mx_ws y_L_unit c_L_unit 2 (some .boolean)
abbrev rm_L_unit : Room := { frames := 20, cells := 0, slots := 0, locals := 400 }
def t_L_unit  (P : Option mx_V → mx_F → Prop) : List (Nat × mx_O) := [
  (0, mx_aload 0 1),
  (1, mx_get 6 0 4),
  (4, mx_iload 1 5),
  (5, mx_cv1 3 sp_R_add 0 0 8),
  (8, mx_zret P)]
set_option maxRecDepth 20000 in
theorem a_L_unit  {p : Program} {l : Launch} {e : Env} {s : State} {m : MethodId} {args : Array Value} {below : List Frame} {meth : Method} {c : Code} {D : va_G} {tc : Nat → ClassId} {tb : Nat → Nat} {sz : Nat} {a0 : Nat → Nat} {G : mx_F} {P : Option mx_V → mx_F → Prop}  (C : mx_C p s m args c c_L_unit y_L_unit.cls w_L_unit D tc tb (mx_A a0 G sz) 2 (mx_Ok0 a0 G)) (hr : meth.sig.returnType = (some .boolean)) (hlk : meth.locks = false) : mx_all (mx_W p l e rm_L_unit s m args below meth c (MQ below (mx_Q D tc tb a0 G sz P) args s 0 0 (mx_A a0 G sz)) D tc tb (mx_A a0 G sz) 2 (mx_Ok0 a0 G)) (t_L_unit  P) :=
  ⟨mx_s_aload_n C d_L_unit_0 rfl,
  mx_s_get (T := T_L) (N := 6) (k := 0) C (fun w h => List.mem_cons_of_mem _ (in_L w h)) rfl (by decide) (List.mem_cons_of_mem _ (mx_in0 (by decide +kernel) rfl)) rfl d_L_unit_1,
  mx_s_iload_n C d_L_unit_4 rfl,
  mx_s_cv1 C (m_R_add l) rfl (cwV 1 C.2.2.2.2.1 (mx_gV (fun w h => List.mem_cons_of_mem _ h) (mx_in0 (by decide +kernel) rfl) (mx_in0 (by decide +kernel) rfl) (mx_in0 (by decide +kernel) rfl) (mx_in0 (by decide +kernel) rfl) (mx_in0 (by decide +kernel) rfl)) rfl rfl rfl (by decide +kernel) ⟨by decide, by decide⟩) d_L_unit_5 ⟨Nat.zero_le _, Nat.zero_le _⟩,
  mx_s_zret C hr hlk d_L_unit_8,
  trivial⟩
set_option maxRecDepth 20000 in
set_option maxHeartbeats 2000000 in
theorem m_L_unit (l : Launch) : mx_M l y_L_unit w_L_unit rm_L_unit sp_L_unit := by
  intro D tc tb ad As F P sz0 h
  obtain ⟨n, f, u, rfl, h0, h1, h2, hn, hz, ho⟩ := h
  refine mx_run (cc := c_L_unit) (maxL := 2) (ret := (some .boolean)) (tab := t_L_unit  P) (by decide) rfl D tc tb ad _ F P sz0 (Nat.le_of_ble_eq_true rfl) (fun p e s m args below meth c C hr hlk => a_L_unit  C hr hlk) ?_
  intro Rr go
  have hF := mx_as3 h0 h1 h2
  rw [hF]
  refine go rfl ⟨_, rfl, ?_⟩
  refine go rfl ⟨_, _, _, _, rfl, rfl, rfl, ?_⟩
  refine go rfl ⟨_, rfl, ?_⟩
  refine go rfl ⟨_, _, _, _, rfl, rfl, rfl, rfl, rfl, ⟨n, f, u, rfl, rfl, rfl, hn, fun hc => ?_, fun hc => ?_⟩⟩
  · refine go rfl ⟨_, rfl, rfl, rfl, (Or.inl rfl), ?_⟩
    rw [← hF]
    exact hz hc
  · refine go rfl ⟨_, rfl, rfl, rfl, (Or.inr rfl), ?_⟩
    rw [← hF]
    exact ho hc
-- LadderWords$Words.count()I
def sp_W_count : mx_Sp := fun As F P => ∃ n : Nat, As = [mx_r 3] ∧ F 3 = some (e_W n) ∧ P (some (mx_i (nI n))) F
theorem d_W_count_0 : decode c_W_count 0 = .ok (.aload_n 0, 1) := by decide +kernel
theorem d_W_count_1 : decode c_W_count 1 = .ok (.getfield 18, 3) := by decide +kernel
theorem d_W_count_4 : decode c_W_count 4 = .ok (.ireturn, 1) := by decide +kernel
abbrev w_W_count : List Cond := mx_ws y_W_count c_W_count 1 (some .int)
abbrev rm_W_count : Room := { frames := 10, cells := 0, slots := 0, locals := 200 }
def t_W_count  (P : Option mx_V → mx_F → Prop) : List (Nat × mx_O) := [
  (0, mx_aload 0 1),
  (1, mx_get 5 2 4),
  (4, mx_iret P)]
set_option maxRecDepth 20000 in
theorem a_W_count  {p : Program} {l : Launch} {e : Env} {s : State} {m : MethodId} {args : Array Value} {below : List Frame} {meth : Method} {c : Code} {D : va_G} {tc : Nat → ClassId} {tb : Nat → Nat} {sz : Nat} {a0 : Nat → Nat} {G : mx_F} {P : Option mx_V → mx_F → Prop}  (C : mx_C p s m args c c_W_count y_W_count.cls w_W_count D tc tb (mx_A a0 G sz) 1 (mx_Ok0 a0 G)) (hr : meth.sig.returnType = (some .int)) (hlk : meth.locks = false) : mx_all (mx_W p l e rm_W_count s m args below meth c (MQ below (mx_Q D tc tb a0 G sz P) args s 0 0 (mx_A a0 G sz)) D tc tb (mx_A a0 G sz) 1 (mx_Ok0 a0 G)) (t_W_count  P) :=
  ⟨mx_s_aload_n C d_W_count_0 rfl,
  mx_s_get (T := T_W) (N := 3) (k := 2) C (fun w h => List.mem_cons_of_mem _ (in_W w h)) rfl (by decide) (List.mem_cons_of_mem _ (mx_in0 (by decide +kernel) rfl)) rfl d_W_count_1,
  mx_s_iret C hr hlk d_W_count_4,
  trivial⟩
set_option maxRecDepth 20000 in
set_option maxHeartbeats 2000000 in
theorem m_W_count (l : Launch) : mx_M l y_W_count w_W_count rm_W_count sp_W_count := by
  intro D tc tb ad As F P sz0 h
  obtain ⟨n, rfl, h1, hp⟩ := h
  refine mx_run (cc := c_W_count) (maxL := 1) (ret := (some .int)) (tab := t_W_count  P) (by decide) rfl D tc tb ad _ F P sz0 (Nat.le_of_ble_eq_true rfl) (fun p e s m args below meth c C hr hlk => a_W_count  C hr hlk) ?_
  intro Rr go
  have hF := mx_as1 h1
  rw [hF]
  refine go rfl ⟨_, rfl, ?_⟩
  refine go rfl ⟨_, _, _, _, rfl, rfl, rfl, ?_⟩
  refine go rfl ⟨_, rfl, rfl, rfl, ?_⟩
  rw [← hF]
  exact hp
-- LadderWords$Words.has(I)Z
def sp_W_has : mx_Sp := fun As F P => ∃ (n : Nat) (w : Int32), As = [mx_r 3, mx_i w] ∧ F 3 = some (e_W n) ∧ ((w < 0 ∨ nI n ≤ w) → P (some (mx_i (nI 0))) F) ∧ (¬ (w < 0 ∨ nI n ≤ w) → P (some (mx_i (nI 1))) F)
theorem d_W_has_0 : decode c_W_has 0 = .ok (.iload_n 1, 1) := by decide +kernel
theorem d_W_has_1 : decode c_W_has 1 = .ok (.ifCond .lt 15, 3) := by decide +kernel
theorem d_W_has_4 : decode c_W_has 4 = .ok (.iload_n 1, 1) := by decide +kernel
theorem d_W_has_5 : decode c_W_has 5 = .ok (.aload_n 0, 1) := by decide +kernel
theorem d_W_has_6 : decode c_W_has 6 = .ok (.getfield 18, 3) := by decide +kernel
theorem d_W_has_9 : decode c_W_has 9 = .ok (.if_icmp .ge 7, 3) := by decide +kernel
theorem d_W_has_12 : decode c_W_has 12 = .ok (.iconst 1, 1) := by decide +kernel
theorem d_W_has_13 : decode c_W_has 13 = .ok (.goto 4, 3) := by decide +kernel
theorem d_W_has_16 : decode c_W_has 16 = .ok (.iconst 0, 1) := by decide +kernel
theorem d_W_has_17 : decode c_W_has 17 = .ok (.ireturn, 1) := by decide +kernel
abbrev w_W_has : List Cond := mx_ws y_W_has c_W_has 2 (some .boolean)
abbrev rm_W_has : Room := { frames := 10, cells := 0, slots := 0, locals := 200 }
def t_W_has  (P : Option mx_V → mx_F → Prop) : List (Nat × mx_O) := [
  (0, mx_iload 1 1),
  (1, mx_if_lt 16 4),
  (4, mx_iload 1 5),
  (5, mx_aload 0 6),
  (6, mx_get 5 2 9),
  (9, mx_ic_ge 16 12),
  (12, mx_push (.inl (nI 1)) 13),
  (13, mx_goto 17),
  (16, mx_push (.inl (nI 0)) 17),
  (17, mx_zret P)]
set_option maxRecDepth 20000 in
theorem a_W_has  {p : Program} {l : Launch} {e : Env} {s : State} {m : MethodId} {args : Array Value} {below : List Frame} {meth : Method} {c : Code} {D : va_G} {tc : Nat → ClassId} {tb : Nat → Nat} {sz : Nat} {a0 : Nat → Nat} {G : mx_F} {P : Option mx_V → mx_F → Prop}  (C : mx_C p s m args c c_W_has y_W_has.cls w_W_has D tc tb (mx_A a0 G sz) 2 (mx_Ok0 a0 G)) (hr : meth.sig.returnType = (some .boolean)) (hlk : meth.locks = false) : mx_all (mx_W p l e rm_W_has s m args below meth c (MQ below (mx_Q D tc tb a0 G sz P) args s 0 0 (mx_A a0 G sz)) D tc tb (mx_A a0 G sz) 2 (mx_Ok0 a0 G)) (t_W_has  P) :=
  ⟨mx_s_iload_n C d_W_has_0 rfl,
  mx_s_if_lt C d_W_has_1 (by decide),
  mx_s_iload_n C d_W_has_4 rfl,
  mx_s_aload_n C d_W_has_5 rfl,
  mx_s_get (T := T_W) (N := 3) (k := 2) C (fun w h => List.mem_cons_of_mem _ (in_W w h)) rfl (by decide) (List.mem_cons_of_mem _ (mx_in0 (by decide +kernel) rfl)) rfl d_W_has_6,
  mx_s_ic_ge C d_W_has_9 (by decide),
  mx_s_iconst C d_W_has_12 (by decide),
  mx_s_goto C d_W_has_13 (by decide),
  mx_s_iconst C d_W_has_16 (by decide),
  mx_s_zret C hr hlk d_W_has_17,
  trivial⟩
set_option maxRecDepth 20000 in
set_option maxHeartbeats 2000000 in
theorem m_W_has (l : Launch) : mx_M l y_W_has w_W_has rm_W_has sp_W_has := by
  intro D tc tb ad As F P sz0 h
  obtain ⟨n, w, rfl, h1, hz, ho⟩ := h
  refine mx_run (cc := c_W_has) (maxL := 2) (ret := (some .boolean)) (tab := t_W_has  P) (by decide) rfl D tc tb ad _ F P sz0 (Nat.le_of_ble_eq_true rfl) (fun p e s m args below meth c C hr hlk => a_W_has  C hr hlk) ?_
  intro Rr go
  have hF := mx_as1 h1
  rw [hF]
  refine go rfl ⟨_, rfl, ?_⟩
  refine go rfl ⟨_, _, rfl, fun c1 => ?_, fun c1 => ?_⟩
  · refine go rfl ?_
    refine go rfl ⟨_, rfl, rfl, rfl, (Or.inl rfl), ?_⟩
    rw [← hF]
    exact hz (Or.inl c1)
  refine go rfl ⟨_, rfl, ?_⟩
  refine go rfl ⟨_, rfl, ?_⟩
  refine go rfl ⟨_, _, _, _, rfl, rfl, rfl, ?_⟩
  refine go rfl ⟨_, _, _, rfl, fun c2 => ?_, fun c2 => ?_⟩
  · refine go rfl ?_
    refine go rfl ⟨_, rfl, rfl, rfl, (Or.inl rfl), ?_⟩
    rw [← hF]
    exact hz (Or.inr c2)
  refine go rfl ?_
  refine go rfl ?_
  refine go rfl ⟨_, rfl, rfl, rfl, (Or.inr rfl), ?_⟩
  rw [← hF]
  exact ho (fun h => h.elim c1 c2)
-- LadderWords$Words.letterOf(II)I
/-- without words -/
def sp_W_letterOf : mx_Sp := fun As F P => ∃ (w i : Int32), As = [mx_r 3, mx_i w, mx_i i] ∧ F 3 = some (e_W 0) ∧ P (some (mx_i (-1))) F
theorem d_W_letterOf_0 : decode c_W_letterOf 0 = .ok (.iload_n 1, 1) := by decide +kernel
theorem d_W_letterOf_1 : decode c_W_letterOf 1 = .ok (.ifCond .lt 34, 3) := by decide +kernel
theorem d_W_letterOf_4 : decode c_W_letterOf 4 = .ok (.iload_n 1, 1) := by decide +kernel
theorem d_W_letterOf_5 : decode c_W_letterOf 5 = .ok (.aload_n 0, 1) := by decide +kernel
theorem d_W_letterOf_6 : decode c_W_letterOf 6 = .ok (.getfield 18, 3) := by decide +kernel
theorem d_W_letterOf_9 : decode c_W_letterOf 9 = .ok (.if_icmp .ge 26, 3) := by decide +kernel
theorem d_W_letterOf_35 : decode c_W_letterOf 35 = .ok (.iconst (-1), 1) := by decide +kernel
theorem d_W_letterOf_36 : decode c_W_letterOf 36 = .ok (.ireturn, 1) := by decide +kernel
abbrev w_W_letterOf : List Cond := mx_ws y_W_letterOf c_W_letterOf 3 (some .int)
abbrev rm_W_letterOf : Room := { frames := 10, cells := 0, slots := 0, locals := 200 }
def t_W_letterOf  (P : Option mx_V → mx_F → Prop) : List (Nat × mx_O) := [
  (0, mx_iload 1 1),
  (1, mx_if_lt 35 4),
  (4, mx_iload 1 5),
  (5, mx_aload 0 6),
  (6, mx_get 5 2 9),
  (9, mx_ic_ge 35 12),
  (35, mx_push (.inl (-1)) 36),
  (36, mx_iret P)]
set_option maxRecDepth 20000 in
theorem a_W_letterOf  {p : Program} {l : Launch} {e : Env} {s : State} {m : MethodId} {args : Array Value} {below : List Frame} {meth : Method} {c : Code} {D : va_G} {tc : Nat → ClassId} {tb : Nat → Nat} {sz : Nat} {a0 : Nat → Nat} {G : mx_F} {P : Option mx_V → mx_F → Prop}  (C : mx_C p s m args c c_W_letterOf y_W_letterOf.cls w_W_letterOf D tc tb (mx_A a0 G sz) 3 (mx_Ok0 a0 G)) (hr : meth.sig.returnType = (some .int)) (hlk : meth.locks = false) : mx_all (mx_W p l e rm_W_letterOf s m args below meth c (MQ below (mx_Q D tc tb a0 G sz P) args s 0 0 (mx_A a0 G sz)) D tc tb (mx_A a0 G sz) 3 (mx_Ok0 a0 G)) (t_W_letterOf  P) :=
  ⟨mx_s_iload_n C d_W_letterOf_0 rfl,
  mx_s_if_lt C d_W_letterOf_1 (by decide),
  mx_s_iload_n C d_W_letterOf_4 rfl,
  mx_s_aload_n C d_W_letterOf_5 rfl,
  mx_s_get (T := T_W) (N := 3) (k := 2) C (fun w h => List.mem_cons_of_mem _ (in_W w h)) rfl (by decide) (List.mem_cons_of_mem _ (mx_in0 (by decide +kernel) rfl)) rfl d_W_letterOf_6,
  mx_s_ic_ge C d_W_letterOf_9 (by decide),
  mx_s_iconst C d_W_letterOf_35 (by decide),
  mx_s_iret C hr hlk d_W_letterOf_36,
  trivial⟩
set_option maxRecDepth 20000 in
set_option maxHeartbeats 2000000 in
theorem m_W_letterOf (l : Launch) : mx_M l y_W_letterOf w_W_letterOf rm_W_letterOf sp_W_letterOf := by
  intro D tc tb ad As F P sz0 h
  obtain ⟨w, i, rfl, h1, hp⟩ := h
  refine mx_run (cc := c_W_letterOf) (maxL := 3) (ret := (some .int)) (tab := t_W_letterOf  P) (by decide) rfl D tc tb ad _ F P sz0 (Nat.le_of_ble_eq_true rfl) (fun p e s m args below meth c C hr hlk => a_W_letterOf  C hr hlk) ?_
  intro Rr go
  have hF := mx_as1 h1
  rw [hF]
  refine go rfl ⟨_, rfl, ?_⟩
  refine go rfl ⟨_, _, rfl, fun c1 => ?_, fun c1 => ?_⟩
  · refine go rfl ?_
    refine go rfl ⟨_, rfl, rfl, rfl, ?_⟩
    rw [← hF]
    exact hp
  refine go rfl ⟨_, rfl, ?_⟩
  refine go rfl ⟨_, rfl, ?_⟩
  refine go rfl ⟨_, _, _, _, rfl, rfl, rfl, ?_⟩
  refine go rfl ⟨_, _, _, rfl, fun c2 => ?_, fun c2 => ?_⟩
  · refine go rfl ?_
    refine go rfl ⟨_, rfl, rfl, rfl, ?_⟩
    rw [← hF]
    exact hp
  · exact absurd (Int32.not_lt.mp c1) c2
-- LadderWords.letter(II)I
def sp_L_letter : mx_Sp := fun As F P => ∃ (w i : Int32), As = [mx_r 0, mx_i w, mx_i i] ∧ F 0 = some e_L ∧ F 3 = some (e_W 0) ∧ P (some (mx_i (-1))) F
theorem d_L_letter_0 : decode c_L_letter 0 = .ok (.aload_n 0, 1) := by decide +kernel
theorem d_L_letter_1 : decode c_L_letter 1 = .ok (.getfield 19, 3) := by decide +kernel
theorem d_L_letter_4 : decode c_L_letter 4 = .ok (.iload_n 1, 1) := by decide +kernel
theorem d_L_letter_5 : decode c_L_letter 5 = .ok (.iload_n 2, 1) := by decide +kernel
theorem d_L_letter_6 : decode c_L_letter 6 = .ok (.invokevirtual 64, 3) := by decide +kernel
theorem d_L_letter_9 : decode c_L_letter 9 = .ok (.ireturn, 1) := by decide +kernel
abbrev w_L_letter : List Cond := mx_ws y_L_letter c_L_letter 3 (some .int)
abbrev rm_L_letter : Room := { frames := 20, cells := 0, slots := 0, locals := 400 }
def t_L_letter  (P : Option mx_V → mx_F → Prop) : List (Nat × mx_O) := [
  (0, mx_aload 0 1),
  (1, mx_get 6 1 4),
  (4, mx_iload 1 5),
  (5, mx_iload 2 6),
  (6, mx_cv2 5 sp_W_letterOf 0 0 9),
  (9, mx_iret P)]
set_option maxRecDepth 20000 in
theorem a_L_letter  {p : Program} {l : Launch} {e : Env} {s : State} {m : MethodId} {args : Array Value} {below : List Frame} {meth : Method} {c : Code} {D : va_G} {tc : Nat → ClassId} {tb : Nat → Nat} {sz : Nat} {a0 : Nat → Nat} {G : mx_F} {P : Option mx_V → mx_F → Prop}  (C : mx_C p s m args c c_L_letter y_L_letter.cls w_L_letter D tc tb (mx_A a0 G sz) 3 (mx_Ok0 a0 G)) (hr : meth.sig.returnType = (some .int)) (hlk : meth.locks = false) : mx_all (mx_W p l e rm_L_letter s m args below meth c (MQ below (mx_Q D tc tb a0 G sz P) args s 0 0 (mx_A a0 G sz)) D tc tb (mx_A a0 G sz) 3 (mx_Ok0 a0 G)) (t_L_letter  P) :=
  ⟨mx_s_aload_n C d_L_letter_0 rfl,
  mx_s_get (T := T_L) (N := 6) (k := 1) C (fun w h => List.mem_cons_of_mem _ (in_L w h)) rfl (by decide) (List.mem_cons_of_mem _ (mx_in0 (by decide +kernel) rfl)) rfl d_L_letter_1,
  mx_s_iload_n C d_L_letter_4 rfl,
  mx_s_iload_n C d_L_letter_5 rfl,
  mx_s_cv2 C (m_W_letterOf l) rfl (cwV 2 C.2.2.2.2.1 (mx_gV (fun w h => List.mem_cons_of_mem _ h) (mx_in0 (by decide +kernel) rfl) (mx_in0 (by decide +kernel) rfl) (mx_in0 (by decide +kernel) rfl) (mx_in0 (by decide +kernel) rfl) (mx_in0 (by decide +kernel) rfl)) rfl rfl rfl (by decide +kernel) ⟨by decide, by decide⟩) d_L_letter_6 ⟨Nat.zero_le _, Nat.zero_le _⟩,
  mx_s_iret C hr hlk d_L_letter_9,
  trivial⟩
set_option maxRecDepth 20000 in
set_option maxHeartbeats 2000000 in
theorem m_L_letter (l : Launch) : mx_M l y_L_letter w_L_letter rm_L_letter sp_L_letter := by
  intro D tc tb ad As F P sz0 h
  obtain ⟨w, i, rfl, h0, h1, hp⟩ := h
  refine mx_run (cc := c_L_letter) (maxL := 3) (ret := (some .int)) (tab := t_L_letter  P) (by decide) rfl D tc tb ad _ F P sz0 (Nat.le_of_ble_eq_true rfl) (fun p e s m args below meth c C hr hlk => a_L_letter  C hr hlk) ?_
  intro Rr go
  have hF := mx_as2 h0 h1
  rw [hF]
  refine go rfl ⟨_, rfl, ?_⟩
  refine go rfl ⟨_, _, _, _, rfl, rfl, rfl, ?_⟩
  refine go rfl ⟨_, rfl, ?_⟩
  refine go rfl ⟨_, rfl, ?_⟩
  refine go rfl ⟨_, _, _, _, _, rfl, rfl, rfl, rfl, rfl, ⟨w, i, rfl, rfl, ?_⟩⟩
  refine go rfl ⟨_, rfl, rfl, rfl, ?_⟩
  rw [← hF]
  exact hp
-- LadderWords$Words.numberFor(LLadderWords$Row;)I
/-- the row is empty -/
def sp_W_numberFor : mx_Sp := fun As F P => As = [mx_r 3, mx_r 1] ∧ F 1 = some (e_R 0) ∧ P (some (mx_i (-1))) F
theorem d_W_numberFor_0 : decode c_W_numberFor 0 = .ok (.aload_n 1, 1) := by decide +kernel
theorem d_W_numberFor_1 : decode c_W_numberFor 1 = .ok (.invokevirtual 26, 3) := by decide +kernel
theorem d_W_numberFor_4 : decode c_W_numberFor 4 = .ok (.ifCond .eq 12, 3) := by decide +kernel
theorem d_W_numberFor_16 : decode c_W_numberFor 16 = .ok (.iconst (-1), 1) := by decide +kernel
theorem d_W_numberFor_17 : decode c_W_numberFor 17 = .ok (.ireturn, 1) := by decide +kernel
abbrev w_W_numberFor : List Cond := mx_ws y_W_numberFor c_W_numberFor 3 (some .int)
abbrev rm_W_numberFor : Room := { frames := 40, cells := 0, slots := 0, locals := 800 }
def t_W_numberFor  (P : Option mx_V → mx_F → Prop) : List (Nat × mx_O) := [
  (0, mx_aload 1 1),
  (1, mx_cv0 3 sp_R_length 0 0 4),
  (4, mx_if_eq 16 7),
  (16, mx_push (.inl (-1)) 17),
  (17, mx_iret P)]
set_option maxRecDepth 20000 in
theorem a_W_numberFor  {p : Program} {l : Launch} {e : Env} {s : State} {m : MethodId} {args : Array Value} {below : List Frame} {meth : Method} {c : Code} {D : va_G} {tc : Nat → ClassId} {tb : Nat → Nat} {sz : Nat} {a0 : Nat → Nat} {G : mx_F} {P : Option mx_V → mx_F → Prop}  (C : mx_C p s m args c c_W_numberFor y_W_numberFor.cls w_W_numberFor D tc tb (mx_A a0 G sz) 3 (mx_Ok0 a0 G)) (hr : meth.sig.returnType = (some .int)) (hlk : meth.locks = false) : mx_all (mx_W p l e rm_W_numberFor s m args below meth c (MQ below (mx_Q D tc tb a0 G sz P) args s 0 0 (mx_A a0 G sz)) D tc tb (mx_A a0 G sz) 3 (mx_Ok0 a0 G)) (t_W_numberFor  P) :=
  ⟨mx_s_aload_n C d_W_numberFor_0 rfl,
  mx_s_cv0 C (m_R_length l) rfl (cwV 0 C.2.2.2.2.1 (mx_gV (fun w h => List.mem_cons_of_mem _ h) (mx_in0 (by decide +kernel) rfl) (mx_in0 (by decide +kernel) rfl) (mx_in0 (by decide +kernel) rfl) (mx_in0 (by decide +kernel) rfl) (mx_in0 (by decide +kernel) rfl)) rfl rfl rfl (by decide +kernel) ⟨by decide, by decide⟩) d_W_numberFor_1 ⟨Nat.zero_le _, Nat.zero_le _⟩,
  mx_s_if_eq C d_W_numberFor_4 (by decide),
  mx_s_iconst C d_W_numberFor_16 (by decide),
  mx_s_iret C hr hlk d_W_numberFor_17,
  trivial⟩
set_option maxRecDepth 20000 in
set_option maxHeartbeats 2000000 in
theorem m_W_numberFor (l : Launch) : mx_M l y_W_numberFor w_W_numberFor rm_W_numberFor sp_W_numberFor := by
  intro D tc tb ad As F P sz0 h
  obtain ⟨rfl, h1, hp⟩ := h
  refine mx_run (cc := c_W_numberFor) (maxL := 3) (ret := (some .int)) (tab := t_W_numberFor  P) (by decide) rfl D tc tb ad _ F P sz0 (Nat.le_of_ble_eq_true rfl) (fun p e s m args below meth c C hr hlk => a_W_numberFor  C hr hlk) ?_
  intro Rr go
  have hF := mx_as1 h1
  rw [hF]
  refine go rfl ⟨_, rfl, ?_⟩
  refine go rfl ⟨_, _, _, rfl, rfl, rfl, rfl, rfl, ⟨0, rfl, rfl, ?_⟩⟩
  refine go rfl ⟨_, _, rfl, fun c1 => ?_, fun c1 => ?_⟩
  · refine go rfl ?_
    refine go rfl ⟨_, rfl, rfl, rfl, ?_⟩
    rw [← hF]
    exact hp
  · exact absurd rfl c1
-- LadderWords.word()I
def sp_L_word : mx_Sp := fun As F P => As = [mx_r 0] ∧ F 0 = some e_L ∧ F 1 = some (e_R 0) ∧ (∃ n, F 3 = some (e_W n)) ∧ P (some (mx_i (-1))) (mx_put F 1 (e_R 0))
theorem d_L_word_0 : decode c_L_word 0 = .ok (.aload_n 0, 1) := by decide +kernel
theorem d_L_word_1 : decode c_L_word 1 = .ok (.getfield 19, 3) := by decide +kernel
theorem d_L_word_4 : decode c_L_word 4 = .ok (.aload_n 0, 1) := by decide +kernel
theorem d_L_word_5 : decode c_L_word 5 = .ok (.getfield 10, 3) := by decide +kernel
theorem d_L_word_8 : decode c_L_word 8 = .ok (.invokevirtual 57, 3) := by decide +kernel
theorem d_L_word_11 : decode c_L_word 11 = .ok (.istore_n 1, 1) := by decide +kernel
theorem d_L_word_12 : decode c_L_word 12 = .ok (.aload_n 0, 1) := by decide +kernel
theorem d_L_word_13 : decode c_L_word 13 = .ok (.getfield 10, 3) := by decide +kernel
theorem d_L_word_16 : decode c_L_word 16 = .ok (.invokevirtual 61, 3) := by decide +kernel
theorem d_L_word_19 : decode c_L_word 19 = .ok (.iload_n 1, 1) := by decide +kernel
theorem d_L_word_20 : decode c_L_word 20 = .ok (.ireturn, 1) := by decide +kernel
abbrev w_L_word : List Cond := mx_ws y_L_word c_L_word 2 (some .int)
abbrev rm_L_word : Room := { frames := 50, cells := 0, slots := 0, locals := 1000 }
def t_L_word  (P : Option mx_V → mx_F → Prop) : List (Nat × mx_O) := [
  (0, mx_aload 0 1),
  (1, mx_get 6 1 4),
  (4, mx_aload 0 5),
  (5, mx_get 6 0 8),
  (8, mx_cv1 5 sp_W_numberFor 0 0 11),
  (11, mx_istore 1 12),
  (12, mx_aload 0 13),
  (13, mx_get 6 0 16),
  (16, mx_cv0 3 sp_R_clear 0 0 19),
  (19, mx_iload 1 20),
  (20, mx_iret P)]
set_option maxRecDepth 20000 in
theorem a_L_word  {p : Program} {l : Launch} {e : Env} {s : State} {m : MethodId} {args : Array Value} {below : List Frame} {meth : Method} {c : Code} {D : va_G} {tc : Nat → ClassId} {tb : Nat → Nat} {sz : Nat} {a0 : Nat → Nat} {G : mx_F} {P : Option mx_V → mx_F → Prop}  (C : mx_C p s m args c c_L_word y_L_word.cls w_L_word D tc tb (mx_A a0 G sz) 2 (mx_Ok0 a0 G)) (hr : meth.sig.returnType = (some .int)) (hlk : meth.locks = false) : mx_all (mx_W p l e rm_L_word s m args below meth c (MQ below (mx_Q D tc tb a0 G sz P) args s 0 0 (mx_A a0 G sz)) D tc tb (mx_A a0 G sz) 2 (mx_Ok0 a0 G)) (t_L_word  P) :=
  ⟨mx_s_aload_n C d_L_word_0 rfl,
  mx_s_get (T := T_L) (N := 6) (k := 1) C (fun w h => List.mem_cons_of_mem _ (in_L w h)) rfl (by decide) (List.mem_cons_of_mem _ (mx_in0 (by decide +kernel) rfl)) rfl d_L_word_1,
  mx_s_aload_n C d_L_word_4 rfl,
  mx_s_get (T := T_L) (N := 6) (k := 0) C (fun w h => List.mem_cons_of_mem _ (in_L w h)) rfl (by decide) (List.mem_cons_of_mem _ (mx_in0 (by decide +kernel) rfl)) rfl d_L_word_5,
  mx_s_cv1 C (m_W_numberFor l) rfl (cwV 1 C.2.2.2.2.1 (mx_gV (fun w h => List.mem_cons_of_mem _ h) (mx_in0 (by decide +kernel) rfl) (mx_in0 (by decide +kernel) rfl) (mx_in0 (by decide +kernel) rfl) (mx_in0 (by decide +kernel) rfl) (mx_in0 (by decide +kernel) rfl)) rfl rfl rfl (by decide +kernel) ⟨by decide, by decide⟩) d_L_word_8 ⟨Nat.zero_le _, Nat.zero_le _⟩,
  mx_s_istore_n C d_L_word_11 rfl (by decide),
  mx_s_aload_n C d_L_word_12 rfl,
  mx_s_get (T := T_L) (N := 6) (k := 0) C (fun w h => List.mem_cons_of_mem _ (in_L w h)) rfl (by decide) (List.mem_cons_of_mem _ (mx_in0 (by decide +kernel) rfl)) rfl d_L_word_13,
  mx_s_cv0 C (m_R_clear l) rfl (cwV 0 C.2.2.2.2.1 (mx_gV (fun w h => List.mem_cons_of_mem _ h) (mx_in0 (by decide +kernel) rfl) (mx_in0 (by decide +kernel) rfl) (mx_in0 (by decide +kernel) rfl) (mx_in0 (by decide +kernel) rfl) (mx_in0 (by decide +kernel) rfl)) rfl rfl rfl (by decide +kernel) ⟨by decide, by decide⟩) d_L_word_16 ⟨Nat.zero_le _, Nat.zero_le _⟩,
  mx_s_iload_n C d_L_word_19 rfl,
  mx_s_iret C hr hlk d_L_word_20,
  trivial⟩
set_option maxRecDepth 20000 in
set_option maxHeartbeats 2000000 in
theorem m_L_word (l : Launch) : mx_M l y_L_word w_L_word rm_L_word sp_L_word := by
  intro D tc tb ad As F P sz0 h
  obtain ⟨rfl, h0, h1, ⟨n, h3⟩, hp⟩ := h
  refine mx_run (cc := c_L_word) (maxL := 2) (ret := (some .int)) (tab := t_L_word  P) (by decide) rfl D tc tb ad _ F P sz0 (Nat.le_of_ble_eq_true rfl) (fun p e s m args below meth c C hr hlk => a_L_word  C hr hlk) ?_
  intro Rr go
  have hF := mx_as3 h0 h1 h3
  rw [hF]
  refine go rfl ⟨_, rfl, ?_⟩
  refine go rfl ⟨_, _, _, _, rfl, rfl, rfl, ?_⟩
  refine go rfl ⟨_, rfl, ?_⟩
  refine go rfl ⟨_, _, _, _, rfl, rfl, rfl, ?_⟩
  refine go rfl ⟨_, _, _, _, rfl, rfl, rfl, rfl, rfl, ⟨rfl, rfl, ?_⟩⟩
  refine go rfl ⟨_, _, rfl, ?_⟩
  refine go rfl ⟨_, rfl, ?_⟩
  refine go rfl ⟨_, _, _, _, rfl, rfl, rfl, ?_⟩
  refine go rfl ⟨_, _, _, rfl, rfl, rfl, rfl, rfl, ⟨0, rfl, rfl, ?_⟩⟩
  refine go rfl ⟨_, rfl, ?_⟩
  refine go rfl ⟨_, rfl, rfl, rfl, ?_⟩
  rw [← hF]
  exact hp
-- LadderWords$Ladders.find(III)I
/-- without words -/
def sp_D_find : mx_Sp := fun As F P => ∃ (rc : Int32) (sh : Int64) (wt a b k : Int32), As = [mx_r 6, mx_i a, mx_i b, mx_i k] ∧ F 3 = some (e_W 0) ∧ F 6 = some (e_D rc sh wt) ∧ ∀ x, P (some (mx_i (-1))) (mx_put F 6 x)
theorem d_D_find_0 : decode c_D_find 0 = .ok (.aload_n 0, 1) := by decide +kernel
theorem d_D_find_1 : decode c_D_find 1 = .ok (.iconst 0, 1) := by decide +kernel
theorem d_D_find_2 : decode c_D_find 2 = .ok (.putfield 26, 3) := by decide +kernel
theorem d_D_find_5 : decode c_D_find 5 = .ok (.aload_n 0, 1) := by decide +kernel
theorem d_D_find_6 : decode c_D_find 6 = .ok (.lconst 0, 1) := by decide +kernel
theorem d_D_find_7 : decode c_D_find 7 = .ok (.putfield 30, 3) := by decide +kernel
theorem d_D_find_10 : decode c_D_find 10 = .ok (.aload_n 0, 1) := by decide +kernel
theorem d_D_find_11 : decode c_D_find 11 = .ok (.getfield 22, 3) := by decide +kernel
theorem d_D_find_14 : decode c_D_find 14 = .ok (.iload_n 1, 1) := by decide +kernel
theorem d_D_find_15 : decode c_D_find 15 = .ok (.invokevirtual 34, 3) := by decide +kernel
theorem d_D_find_18 : decode c_D_find 18 = .ok (.ifCond .eq 23, 3) := by decide +kernel
theorem d_D_find_41 : decode c_D_find 41 = .ok (.iconst (-1), 1) := by decide +kernel
theorem d_D_find_42 : decode c_D_find 42 = .ok (.ireturn, 1) := by decide +kernel
abbrev w_D_find : List Cond := mx_ws y_D_find c_D_find 4 (some .int)
abbrev rm_D_find : Room := { frames := 60, cells := 0, slots := 0, locals := 1200 }
def t_D_find  (P : Option mx_V → mx_F → Prop) : List (Nat × mx_O) := [
  (0, mx_aload 0 1),
  (1, mx_push (.inl (nI 0)) 2),
  (2, mx_puti 2 4 5),
  (5, mx_aload 0 6),
  (6, mx_push (.inr (.inl 0)) 7),
  (7, mx_putl 2 5 10),
  (10, mx_aload 0 11),
  (11, mx_get 2 0 14),
  (14, mx_iload 1 15),
  (15, mx_cv1 5 sp_W_has 0 0 18),
  (18, mx_if_eq 41 21),
  (41, mx_push (.inl (-1)) 42),
  (42, mx_iret P)]
set_option maxRecDepth 20000 in
theorem a_D_find  {p : Program} {l : Launch} {e : Env} {s : State} {m : MethodId} {args : Array Value} {below : List Frame} {meth : Method} {c : Code} {D : va_G} {tc : Nat → ClassId} {tb : Nat → Nat} {sz : Nat} {a0 : Nat → Nat} {G : mx_F} {P : Option mx_V → mx_F → Prop}  (C : mx_C p s m args c c_D_find y_D_find.cls w_D_find D tc tb (mx_A a0 G sz) 4 (mx_Ok0 a0 G)) (hr : meth.sig.returnType = (some .int)) (hlk : meth.locks = false) : mx_all (mx_W p l e rm_D_find s m args below meth c (MQ below (mx_Q D tc tb a0 G sz P) args s 0 0 (mx_A a0 G sz)) D tc tb (mx_A a0 G sz) 4 (mx_Ok0 a0 G)) (t_D_find  P) :=
  ⟨mx_s_aload_n C d_D_find_0 rfl,
  mx_s_iconst C d_D_find_1 (by decide),
  mx_s_puti (T := T_D) (N := 7) (k := 4) C (fun w h => List.mem_cons_of_mem _ (in_D w h)) rfl ty_D ok_D nm_D (by decide) (List.mem_cons_of_mem _ (mx_in0 (by decide +kernel) rfl)) rfl rfl (ok_D 4 (by decide)) d_D_find_2,
  mx_s_aload_n C d_D_find_5 rfl,
  mx_s_lconst C d_D_find_6 (by decide),
  mx_s_putl (T := T_D) (N := 7) (k := 5) C (fun w h => List.mem_cons_of_mem _ (in_D w h)) rfl ty_D ok_D nm_D (by decide) (List.mem_cons_of_mem _ (mx_in0 (by decide +kernel) rfl)) rfl rfl (ok_D 5 (by decide)) d_D_find_7,
  mx_s_aload_n C d_D_find_10 rfl,
  mx_s_get (T := T_D) (N := 7) (k := 0) C (fun w h => List.mem_cons_of_mem _ (in_D w h)) rfl (by decide) (List.mem_cons_of_mem _ (mx_in0 (by decide +kernel) rfl)) rfl d_D_find_11,
  mx_s_iload_n C d_D_find_14 rfl,
  mx_s_cv1 C (m_W_has l) rfl (cwV 1 C.2.2.2.2.1 (mx_gV (fun w h => List.mem_cons_of_mem _ h) (mx_in0 (by decide +kernel) rfl) (mx_in0 (by decide +kernel) rfl) (mx_in0 (by decide +kernel) rfl) (mx_in0 (by decide +kernel) rfl) (mx_in0 (by decide +kernel) rfl)) rfl rfl rfl (by decide +kernel) ⟨by decide, by decide⟩) d_D_find_15 ⟨Nat.zero_le _, Nat.zero_le _⟩,
  mx_s_if_eq C d_D_find_18 (by decide),
  mx_s_iconst C d_D_find_41 (by decide),
  mx_s_iret C hr hlk d_D_find_42,
  trivial⟩
set_option maxRecDepth 20000 in
set_option maxHeartbeats 2000000 in
theorem m_D_find (l : Launch) : mx_M l y_D_find w_D_find rm_D_find sp_D_find := by
  intro D tc tb ad As F P sz0 h
  obtain ⟨rc, sh, wt, a, b, k, rfl, h3, h6, hp⟩ := h
  refine mx_run (cc := c_D_find) (maxL := 4) (ret := (some .int)) (tab := t_D_find  P) (by decide) rfl D tc tb ad _ F P sz0 (Nat.le_of_ble_eq_true rfl) (fun p e s m args below meth c C hr hlk => a_D_find  C hr hlk) ?_
  intro Rr go
  have hF := mx_as2 h3 h6
  rw [hF]
  refine go rfl ⟨_, rfl, ?_⟩
  refine go rfl ?_
  refine go rfl ⟨_, _, _, _, rfl, rfl, (Nat.le_of_ble_eq_true rfl), ?_⟩
  refine go rfl ⟨_, rfl, ?_⟩
  refine go rfl ?_
  refine go rfl ⟨_, _, _, _, rfl, rfl, (Nat.le_of_ble_eq_true rfl), ?_⟩
  refine go rfl ⟨_, rfl, ?_⟩
  refine go rfl ⟨_, _, _, _, rfl, rfl, rfl, ?_⟩
  refine go rfl ⟨_, rfl, ?_⟩
  refine go rfl ⟨_, _, _, _, rfl, rfl, rfl, rfl, rfl, ⟨0, a, rfl, rfl, fun hc => ?_, fun hc => ?_⟩⟩
  · refine go rfl ⟨_, _, rfl, fun c1 => ?_, fun c1 => ?_⟩
    · refine go rfl ?_
      refine go rfl ⟨_, rfl, rfl, rfl, ?_⟩
      rw [← hF, mx_pp]
      exact hp _
    · exact absurd rfl c1
  · exact absurd (Int32.not_lt.mp (fun h => hc (Or.inl h))) (fun h => hc (Or.inr h))
-- LadderWords.ladder(III)I
def sp_L_ladder : mx_Sp := fun As F P => ∃ (rc : Int32) (sh : Int64) (wt a b k : Int32), As = [mx_r 0, mx_i a, mx_i b, mx_i k] ∧ F 0 = some e_L ∧ F 3 = some (e_W 0) ∧ F 6 = some (e_D rc sh wt) ∧ ∀ x, P (some (mx_i (-1))) (mx_put F 6 x)
theorem d_L_ladder_0 : decode c_L_ladder 0 = .ok (.aload_n 0, 1) := by decide +kernel
theorem d_L_ladder_1 : decode c_L_ladder 1 = .ok (.getfield 28, 3) := by decide +kernel
theorem d_L_ladder_4 : decode c_L_ladder 4 = .ok (.iload_n 1, 1) := by decide +kernel
theorem d_L_ladder_5 : decode c_L_ladder 5 = .ok (.iload_n 2, 1) := by decide +kernel
theorem d_L_ladder_6 : decode c_L_ladder 6 = .ok (.iload_n 3, 1) := by decide +kernel
theorem d_L_ladder_7 : decode c_L_ladder 7 = .ok (.invokevirtual 68, 3) := by decide +kernel
theorem d_L_ladder_10 : decode c_L_ladder 10 = .ok (.ireturn, 1) := by decide +kernel
abbrev w_L_ladder : List Cond := mx_ws y_L_ladder c_L_ladder 4 (some .int)
abbrev rm_L_ladder : Room := { frames := 70, cells := 0, slots := 0, locals := 1400 }
def t_L_ladder  (P : Option mx_V → mx_F → Prop) : List (Nat × mx_O) := [
  (0, mx_aload 0 1),
  (1, mx_get 6 2 4),
  (4, mx_iload 1 5),
  (5, mx_iload 2 6),
  (6, mx_iload 3 7),
  (7, mx_cv3 2 sp_D_find 0 0 10),
  (10, mx_iret P)]
set_option maxRecDepth 20000 in
theorem a_L_ladder  {p : Program} {l : Launch} {e : Env} {s : State} {m : MethodId} {args : Array Value} {below : List Frame} {meth : Method} {c : Code} {D : va_G} {tc : Nat → ClassId} {tb : Nat → Nat} {sz : Nat} {a0 : Nat → Nat} {G : mx_F} {P : Option mx_V → mx_F → Prop}  (C : mx_C p s m args c c_L_ladder y_L_ladder.cls w_L_ladder D tc tb (mx_A a0 G sz) 4 (mx_Ok0 a0 G)) (hr : meth.sig.returnType = (some .int)) (hlk : meth.locks = false) : mx_all (mx_W p l e rm_L_ladder s m args below meth c (MQ below (mx_Q D tc tb a0 G sz P) args s 0 0 (mx_A a0 G sz)) D tc tb (mx_A a0 G sz) 4 (mx_Ok0 a0 G)) (t_L_ladder  P) :=
  ⟨mx_s_aload_n C d_L_ladder_0 rfl,
  mx_s_get (T := T_L) (N := 6) (k := 2) C (fun w h => List.mem_cons_of_mem _ (in_L w h)) rfl (by decide) (List.mem_cons_of_mem _ (mx_in0 (by decide +kernel) rfl)) rfl d_L_ladder_1,
  mx_s_iload_n C d_L_ladder_4 rfl,
  mx_s_iload_n C d_L_ladder_5 rfl,
  mx_s_iload_n C d_L_ladder_6 rfl,
  mx_s_cv3 C (m_D_find l) rfl (cwV 3 C.2.2.2.2.1 (mx_gV (fun w h => List.mem_cons_of_mem _ h) (mx_in0 (by decide +kernel) rfl) (mx_in0 (by decide +kernel) rfl) (mx_in0 (by decide +kernel) rfl) (mx_in0 (by decide +kernel) rfl) (mx_in0 (by decide +kernel) rfl)) rfl rfl rfl (by decide +kernel) ⟨by decide, by decide⟩) d_L_ladder_7 ⟨Nat.zero_le _, Nat.zero_le _⟩,
  mx_s_iret C hr hlk d_L_ladder_10,
  trivial⟩
set_option maxRecDepth 20000 in
set_option maxHeartbeats 2000000 in
theorem m_L_ladder (l : Launch) : mx_M l y_L_ladder w_L_ladder rm_L_ladder sp_L_ladder := by
  intro D tc tb ad As F P sz0 h
  obtain ⟨rc, sh, wt, a, b, k, rfl, h0, h3, h6, hp⟩ := h
  refine mx_run (cc := c_L_ladder) (maxL := 4) (ret := (some .int)) (tab := t_L_ladder  P) (by decide) rfl D tc tb ad _ F P sz0 (Nat.le_of_ble_eq_true rfl) (fun p e s m args below meth c C hr hlk => a_L_ladder  C hr hlk) ?_
  intro Rr go
  have hF := mx_as3 h0 h3 h6
  rw [hF]
  refine go rfl ⟨_, rfl, ?_⟩
  refine go rfl ⟨_, _, _, _, rfl, rfl, rfl, ?_⟩
  refine go rfl ⟨_, rfl, ?_⟩
  refine go rfl ⟨_, rfl, ?_⟩
  refine go rfl ⟨_, rfl, ?_⟩
  refine go rfl ⟨_, _, _, _, _, _, rfl, rfl, rfl, rfl, rfl, ⟨rc, sh, wt, a, b, k, rfl, rfl, rfl, fun x => ?_⟩⟩
  refine go rfl ⟨_, rfl, rfl, rfl, ?_⟩
  rw [← hF]
  exact hp x
-- LadderWords$Ladders.rungAt(I)I
/-- nothing has been found -/
def sp_D_rungAt : mx_Sp := fun As F P => ∃ (sh : Int64) (wt k : Int32), As = [mx_r 6, mx_i k] ∧ F 6 = some (e_D 0 sh wt) ∧ P (some (mx_i (-1))) F
theorem d_D_rungAt_0 : decode c_D_rungAt 0 = .ok (.iload_n 1, 1) := by decide +kernel
theorem d_D_rungAt_1 : decode c_D_rungAt 1 = .ok (.ifCond .lt 29, 3) := by decide +kernel
theorem d_D_rungAt_4 : decode c_D_rungAt 4 = .ok (.iload_n 1, 1) := by decide +kernel
theorem d_D_rungAt_5 : decode c_D_rungAt 5 = .ok (.aload_n 0, 1) := by decide +kernel
theorem d_D_rungAt_6 : decode c_D_rungAt 6 = .ok (.getfield 26, 3) := by decide +kernel
theorem d_D_rungAt_9 : decode c_D_rungAt 9 = .ok (.if_icmp .ge 21, 3) := by decide +kernel
theorem d_D_rungAt_30 : decode c_D_rungAt 30 = .ok (.iconst 0, 1) := by decide +kernel
theorem d_D_rungAt_31 : decode c_D_rungAt 31 = .ok (.istore_n 2, 1) := by decide +kernel
theorem d_D_rungAt_32 : decode c_D_rungAt 32 = .ok (.iload_n 2, 1) := by decide +kernel
theorem d_D_rungAt_33 : decode c_D_rungAt 33 = .ok (.ifCond .eq 12, 3) := by decide +kernel
theorem d_D_rungAt_45 : decode c_D_rungAt 45 = .ok (.iconst (-1), 1) := by decide +kernel
theorem d_D_rungAt_46 : decode c_D_rungAt 46 = .ok (.ireturn, 1) := by decide +kernel
abbrev w_D_rungAt : List Cond := mx_ws y_D_rungAt c_D_rungAt 3 (some .int)
abbrev rm_D_rungAt : Room := { frames := 20, cells := 0, slots := 0, locals := 400 }
def t_D_rungAt  (P : Option mx_V → mx_F → Prop) : List (Nat × mx_O) := [
  (0, mx_iload 1 1),
  (1, mx_if_lt 30 4),
  (4, mx_iload 1 5),
  (5, mx_aload 0 6),
  (6, mx_get 2 4 9),
  (9, mx_ic_ge 30 12),
  (30, mx_push (.inl (nI 0)) 31),
  (31, mx_istore 2 32),
  (32, mx_iload 2 33),
  (33, mx_if_eq 45 36),
  (45, mx_push (.inl (-1)) 46),
  (46, mx_iret P)]
set_option maxRecDepth 20000 in
theorem a_D_rungAt  {p : Program} {l : Launch} {e : Env} {s : State} {m : MethodId} {args : Array Value} {below : List Frame} {meth : Method} {c : Code} {D : va_G} {tc : Nat → ClassId} {tb : Nat → Nat} {sz : Nat} {a0 : Nat → Nat} {G : mx_F} {P : Option mx_V → mx_F → Prop}  (C : mx_C p s m args c c_D_rungAt y_D_rungAt.cls w_D_rungAt D tc tb (mx_A a0 G sz) 3 (mx_Ok0 a0 G)) (hr : meth.sig.returnType = (some .int)) (hlk : meth.locks = false) : mx_all (mx_W p l e rm_D_rungAt s m args below meth c (MQ below (mx_Q D tc tb a0 G sz P) args s 0 0 (mx_A a0 G sz)) D tc tb (mx_A a0 G sz) 3 (mx_Ok0 a0 G)) (t_D_rungAt  P) :=
  ⟨mx_s_iload_n C d_D_rungAt_0 rfl,
  mx_s_if_lt C d_D_rungAt_1 (by decide),
  mx_s_iload_n C d_D_rungAt_4 rfl,
  mx_s_aload_n C d_D_rungAt_5 rfl,
  mx_s_get (T := T_D) (N := 7) (k := 4) C (fun w h => List.mem_cons_of_mem _ (in_D w h)) rfl (by decide) (List.mem_cons_of_mem _ (mx_in0 (by decide +kernel) rfl)) rfl d_D_rungAt_6,
  mx_s_ic_ge C d_D_rungAt_9 (by decide),
  mx_s_iconst C d_D_rungAt_30 (by decide),
  mx_s_istore_n C d_D_rungAt_31 rfl (by decide),
  mx_s_iload_n C d_D_rungAt_32 rfl,
  mx_s_if_eq C d_D_rungAt_33 (by decide),
  mx_s_iconst C d_D_rungAt_45 (by decide),
  mx_s_iret C hr hlk d_D_rungAt_46,
  trivial⟩
set_option maxRecDepth 20000 in
set_option maxHeartbeats 2000000 in
theorem m_D_rungAt (l : Launch) : mx_M l y_D_rungAt w_D_rungAt rm_D_rungAt sp_D_rungAt := by
  intro D tc tb ad As F P sz0 h
  obtain ⟨sh, wt, k, rfl, h1, hp⟩ := h
  refine mx_run (cc := c_D_rungAt) (maxL := 3) (ret := (some .int)) (tab := t_D_rungAt  P) (by decide) rfl D tc tb ad _ F P sz0 (Nat.le_of_ble_eq_true rfl) (fun p e s m args below meth c C hr hlk => a_D_rungAt  C hr hlk) ?_
  intro Rr go
  have hF := mx_as1 h1
  rw [hF]
  refine go rfl ⟨_, rfl, ?_⟩
  refine go rfl ⟨_, _, rfl, fun c1 => ?_, fun c1 => ?_⟩
  · refine go rfl ?_
    refine go rfl ⟨_, _, rfl, ?_⟩
    refine go rfl ⟨_, rfl, ?_⟩
    refine go rfl ⟨_, _, rfl, fun c3 => ?_, fun c3 => ?_⟩
    · refine go rfl ?_
      refine go rfl ⟨_, rfl, rfl, rfl, ?_⟩
      rw [← hF]
      exact hp
    · exact absurd rfl c3
  refine go rfl ⟨_, rfl, ?_⟩
  refine go rfl ⟨_, rfl, ?_⟩
  refine go rfl ⟨_, _, _, _, rfl, rfl, rfl, ?_⟩
  refine go rfl ⟨_, _, _, rfl, fun c2 => ?_, fun c2 => ?_⟩
  · refine go rfl ?_
    refine go rfl ⟨_, _, rfl, ?_⟩
    refine go rfl ⟨_, rfl, ?_⟩
    refine go rfl ⟨_, _, rfl, fun c3 => ?_, fun c3 => ?_⟩
    · refine go rfl ?_
      refine go rfl ⟨_, rfl, rfl, rfl, ?_⟩
      rw [← hF]
      exact hp
    · exact absurd rfl c3
  · exact absurd (Int32.not_lt.mp c1) c2
-- LadderWords.step(I)I
def sp_L_step : mx_Sp := fun As F P => ∃ (sh : Int64) (wt k : Int32), As = [mx_r 0, mx_i k] ∧ F 0 = some e_L ∧ F 6 = some (e_D 0 sh wt) ∧ P (some (mx_i (-1))) F
theorem d_L_step_0 : decode c_L_step 0 = .ok (.aload_n 0, 1) := by decide +kernel
theorem d_L_step_1 : decode c_L_step 1 = .ok (.getfield 28, 3) := by decide +kernel
theorem d_L_step_4 : decode c_L_step 4 = .ok (.iload_n 1, 1) := by decide +kernel
theorem d_L_step_5 : decode c_L_step 5 = .ok (.invokevirtual 72, 3) := by decide +kernel
theorem d_L_step_8 : decode c_L_step 8 = .ok (.ireturn, 1) := by decide +kernel
abbrev w_L_step : List Cond := mx_ws y_L_step c_L_step 2 (some .int)
abbrev rm_L_step : Room := { frames := 30, cells := 0, slots := 0, locals := 600 }
def t_L_step  (P : Option mx_V → mx_F → Prop) : List (Nat × mx_O) := [
  (0, mx_aload 0 1),
  (1, mx_get 6 2 4),
  (4, mx_iload 1 5),
  (5, mx_cv1 2 sp_D_rungAt 0 0 8),
  (8, mx_iret P)]
set_option maxRecDepth 20000 in
theorem a_L_step  {p : Program} {l : Launch} {e : Env} {s : State} {m : MethodId} {args : Array Value} {below : List Frame} {meth : Method} {c : Code} {D : va_G} {tc : Nat → ClassId} {tb : Nat → Nat} {sz : Nat} {a0 : Nat → Nat} {G : mx_F} {P : Option mx_V → mx_F → Prop}  (C : mx_C p s m args c c_L_step y_L_step.cls w_L_step D tc tb (mx_A a0 G sz) 2 (mx_Ok0 a0 G)) (hr : meth.sig.returnType = (some .int)) (hlk : meth.locks = false) : mx_all (mx_W p l e rm_L_step s m args below meth c (MQ below (mx_Q D tc tb a0 G sz P) args s 0 0 (mx_A a0 G sz)) D tc tb (mx_A a0 G sz) 2 (mx_Ok0 a0 G)) (t_L_step  P) :=
  ⟨mx_s_aload_n C d_L_step_0 rfl,
  mx_s_get (T := T_L) (N := 6) (k := 2) C (fun w h => List.mem_cons_of_mem _ (in_L w h)) rfl (by decide) (List.mem_cons_of_mem _ (mx_in0 (by decide +kernel) rfl)) rfl d_L_step_1,
  mx_s_iload_n C d_L_step_4 rfl,
  mx_s_cv1 C (m_D_rungAt l) rfl (cwV 1 C.2.2.2.2.1 (mx_gV (fun w h => List.mem_cons_of_mem _ h) (mx_in0 (by decide +kernel) rfl) (mx_in0 (by decide +kernel) rfl) (mx_in0 (by decide +kernel) rfl) (mx_in0 (by decide +kernel) rfl) (mx_in0 (by decide +kernel) rfl)) rfl rfl rfl (by decide +kernel) ⟨by decide, by decide⟩) d_L_step_5 ⟨Nat.zero_le _, Nat.zero_le _⟩,
  mx_s_iret C hr hlk d_L_step_8,
  trivial⟩
set_option maxRecDepth 20000 in
set_option maxHeartbeats 2000000 in
theorem m_L_step (l : Launch) : mx_M l y_L_step w_L_step rm_L_step sp_L_step := by
  intro D tc tb ad As F P sz0 h
  obtain ⟨sh, wt, k, rfl, h0, h1, hp⟩ := h
  refine mx_run (cc := c_L_step) (maxL := 2) (ret := (some .int)) (tab := t_L_step  P) (by decide) rfl D tc tb ad _ F P sz0 (Nat.le_of_ble_eq_true rfl) (fun p e s m args below meth c C hr hlk => a_L_step  C hr hlk) ?_
  intro Rr go
  have hF := mx_as2 h0 h1
  rw [hF]
  refine go rfl ⟨_, rfl, ?_⟩
  refine go rfl ⟨_, _, _, _, rfl, rfl, rfl, ?_⟩
  refine go rfl ⟨_, rfl, ?_⟩
  refine go rfl ⟨_, _, _, _, rfl, rfl, rfl, rfl, rfl, ⟨sh, wt, k, rfl, rfl, ?_⟩⟩
  refine go rfl ⟨_, rfl, rfl, rfl, ?_⟩
  rw [← hF]
  exact hp
-- LadderWords$Squares.wordAt(I)I
/-- nothing has been found -/
def sp_Q_wordAt : mx_Sp := fun As F P => ∃ (wt k : Int32), As = [mx_r 15, mx_i k] ∧ F 15 = some (e_Q 0 wt) ∧ P (some (mx_i (-1))) F
theorem d_Q_wordAt_0 : decode c_Q_wordAt 0 = .ok (.iload_n 1, 1) := by decide +kernel
theorem d_Q_wordAt_1 : decode c_Q_wordAt 1 = .ok (.ifCond .lt 29, 3) := by decide +kernel
theorem d_Q_wordAt_4 : decode c_Q_wordAt 4 = .ok (.iload_n 1, 1) := by decide +kernel
theorem d_Q_wordAt_5 : decode c_Q_wordAt 5 = .ok (.aload_n 0, 1) := by decide +kernel
theorem d_Q_wordAt_6 : decode c_Q_wordAt 6 = .ok (.getfield 27, 3) := by decide +kernel
theorem d_Q_wordAt_9 : decode c_Q_wordAt 9 = .ok (.if_icmp .ge 21, 3) := by decide +kernel
theorem d_Q_wordAt_30 : decode c_Q_wordAt 30 = .ok (.iconst 0, 1) := by decide +kernel
theorem d_Q_wordAt_31 : decode c_Q_wordAt 31 = .ok (.istore_n 2, 1) := by decide +kernel
theorem d_Q_wordAt_32 : decode c_Q_wordAt 32 = .ok (.iload_n 2, 1) := by decide +kernel
theorem d_Q_wordAt_33 : decode c_Q_wordAt 33 = .ok (.ifCond .eq 12, 3) := by decide +kernel
theorem d_Q_wordAt_45 : decode c_Q_wordAt 45 = .ok (.iconst (-1), 1) := by decide +kernel
theorem d_Q_wordAt_46 : decode c_Q_wordAt 46 = .ok (.ireturn, 1) := by decide +kernel
abbrev w_Q_wordAt : List Cond := mx_ws y_Q_wordAt c_Q_wordAt 3 (some .int)
abbrev rm_Q_wordAt : Room := { frames := 20, cells := 0, slots := 0, locals := 400 }
def t_Q_wordAt  (P : Option mx_V → mx_F → Prop) : List (Nat × mx_O) := [
  (0, mx_iload 1 1),
  (1, mx_if_lt 30 4),
  (4, mx_iload 1 5),
  (5, mx_aload 0 6),
  (6, mx_get 4 4 9),
  (9, mx_ic_ge 30 12),
  (30, mx_push (.inl (nI 0)) 31),
  (31, mx_istore 2 32),
  (32, mx_iload 2 33),
  (33, mx_if_eq 45 36),
  (45, mx_push (.inl (-1)) 46),
  (46, mx_iret P)]
set_option maxRecDepth 20000 in
theorem a_Q_wordAt  {p : Program} {l : Launch} {e : Env} {s : State} {m : MethodId} {args : Array Value} {below : List Frame} {meth : Method} {c : Code} {D : va_G} {tc : Nat → ClassId} {tb : Nat → Nat} {sz : Nat} {a0 : Nat → Nat} {G : mx_F} {P : Option mx_V → mx_F → Prop}  (C : mx_C p s m args c c_Q_wordAt y_Q_wordAt.cls w_Q_wordAt D tc tb (mx_A a0 G sz) 3 (mx_Ok0 a0 G)) (hr : meth.sig.returnType = (some .int)) (hlk : meth.locks = false) : mx_all (mx_W p l e rm_Q_wordAt s m args below meth c (MQ below (mx_Q D tc tb a0 G sz P) args s 0 0 (mx_A a0 G sz)) D tc tb (mx_A a0 G sz) 3 (mx_Ok0 a0 G)) (t_Q_wordAt  P) :=
  ⟨mx_s_iload_n C d_Q_wordAt_0 rfl,
  mx_s_if_lt C d_Q_wordAt_1 (by decide),
  mx_s_iload_n C d_Q_wordAt_4 rfl,
  mx_s_aload_n C d_Q_wordAt_5 rfl,
  mx_s_get (T := T_Q) (N := 6) (k := 4) C (fun w h => List.mem_cons_of_mem _ (in_Q w h)) rfl (by decide) (List.mem_cons_of_mem _ (mx_in0 (by decide +kernel) rfl)) rfl d_Q_wordAt_6,
  mx_s_ic_ge C d_Q_wordAt_9 (by decide),
  mx_s_iconst C d_Q_wordAt_30 (by decide),
  mx_s_istore_n C d_Q_wordAt_31 rfl (by decide),
  mx_s_iload_n C d_Q_wordAt_32 rfl,
  mx_s_if_eq C d_Q_wordAt_33 (by decide),
  mx_s_iconst C d_Q_wordAt_45 (by decide),
  mx_s_iret C hr hlk d_Q_wordAt_46,
  trivial⟩
set_option maxRecDepth 20000 in
set_option maxHeartbeats 2000000 in
theorem m_Q_wordAt (l : Launch) : mx_M l y_Q_wordAt w_Q_wordAt rm_Q_wordAt sp_Q_wordAt := by
  intro D tc tb ad As F P sz0 h
  obtain ⟨wt, k, rfl, h1, hp⟩ := h
  refine mx_run (cc := c_Q_wordAt) (maxL := 3) (ret := (some .int)) (tab := t_Q_wordAt  P) (by decide) rfl D tc tb ad _ F P sz0 (Nat.le_of_ble_eq_true rfl) (fun p e s m args below meth c C hr hlk => a_Q_wordAt  C hr hlk) ?_
  intro Rr go
  have hF := mx_as1 h1
  rw [hF]
  refine go rfl ⟨_, rfl, ?_⟩
  refine go rfl ⟨_, _, rfl, fun c1 => ?_, fun c1 => ?_⟩
  · refine go rfl ?_
    refine go rfl ⟨_, _, rfl, ?_⟩
    refine go rfl ⟨_, rfl, ?_⟩
    refine go rfl ⟨_, _, rfl, fun c3 => ?_, fun c3 => ?_⟩
    · refine go rfl ?_
      refine go rfl ⟨_, rfl, rfl, rfl, ?_⟩
      rw [← hF]
      exact hp
    · exact absurd rfl c3
  refine go rfl ⟨_, rfl, ?_⟩
  refine go rfl ⟨_, rfl, ?_⟩
  refine go rfl ⟨_, _, _, _, rfl, rfl, rfl, ?_⟩
  refine go rfl ⟨_, _, _, rfl, fun c2 => ?_, fun c2 => ?_⟩
  · refine go rfl ?_
    refine go rfl ⟨_, _, rfl, ?_⟩
    refine go rfl ⟨_, rfl, ?_⟩
    refine go rfl ⟨_, _, rfl, fun c3 => ?_, fun c3 => ?_⟩
    · refine go rfl ?_
      refine go rfl ⟨_, rfl, rfl, rfl, ?_⟩
      rw [← hF]
      exact hp
    · exact absurd rfl c3
  · exact absurd (Int32.not_lt.mp c1) c2
-- LadderWords.line(I)I
def sp_L_line : mx_Sp := fun As F P => ∃ (wt k : Int32), As = [mx_r 0, mx_i k] ∧ F 0 = some e_L ∧ F 15 = some (e_Q 0 wt) ∧ P (some (mx_i (-1))) F
theorem d_L_line_0 : decode c_L_line 0 = .ok (.aload_n 0, 1) := by decide +kernel
theorem d_L_line_1 : decode c_L_line 1 = .ok (.getfield 42, 3) := by decide +kernel
theorem d_L_line_4 : decode c_L_line 4 = .ok (.iload_n 1, 1) := by decide +kernel
theorem d_L_line_5 : decode c_L_line 5 = .ok (.invokevirtual 88, 3) := by decide +kernel
theorem d_L_line_8 : decode c_L_line 8 = .ok (.ireturn, 1) := by decide +kernel
abbrev w_L_line : List Cond := mx_ws y_L_line c_L_line 2 (some .int)
abbrev rm_L_line : Room := { frames := 30, cells := 0, slots := 0, locals := 600 }
def t_L_line  (P : Option mx_V → mx_F → Prop) : List (Nat × mx_O) := [
  (0, mx_aload 0 1),
  (1, mx_get 6 4 4),
  (4, mx_iload 1 5),
  (5, mx_cv1 4 sp_Q_wordAt 0 0 8),
  (8, mx_iret P)]
set_option maxRecDepth 20000 in
theorem a_L_line  {p : Program} {l : Launch} {e : Env} {s : State} {m : MethodId} {args : Array Value} {below : List Frame} {meth : Method} {c : Code} {D : va_G} {tc : Nat → ClassId} {tb : Nat → Nat} {sz : Nat} {a0 : Nat → Nat} {G : mx_F} {P : Option mx_V → mx_F → Prop}  (C : mx_C p s m args c c_L_line y_L_line.cls w_L_line D tc tb (mx_A a0 G sz) 2 (mx_Ok0 a0 G)) (hr : meth.sig.returnType = (some .int)) (hlk : meth.locks = false) : mx_all (mx_W p l e rm_L_line s m args below meth c (MQ below (mx_Q D tc tb a0 G sz P) args s 0 0 (mx_A a0 G sz)) D tc tb (mx_A a0 G sz) 2 (mx_Ok0 a0 G)) (t_L_line  P) :=
  ⟨mx_s_aload_n C d_L_line_0 rfl,
  mx_s_get (T := T_L) (N := 6) (k := 4) C (fun w h => List.mem_cons_of_mem _ (in_L w h)) rfl (by decide) (List.mem_cons_of_mem _ (mx_in0 (by decide +kernel) rfl)) rfl d_L_line_1,
  mx_s_iload_n C d_L_line_4 rfl,
  mx_s_cv1 C (m_Q_wordAt l) rfl (cwV 1 C.2.2.2.2.1 (mx_gV (fun w h => List.mem_cons_of_mem _ h) (mx_in0 (by decide +kernel) rfl) (mx_in0 (by decide +kernel) rfl) (mx_in0 (by decide +kernel) rfl) (mx_in0 (by decide +kernel) rfl) (mx_in0 (by decide +kernel) rfl)) rfl rfl rfl (by decide +kernel) ⟨by decide, by decide⟩) d_L_line_5 ⟨Nat.zero_le _, Nat.zero_le _⟩,
  mx_s_iret C hr hlk d_L_line_8,
  trivial⟩
set_option maxRecDepth 20000 in
set_option maxHeartbeats 2000000 in
theorem m_L_line (l : Launch) : mx_M l y_L_line w_L_line rm_L_line sp_L_line := by
  intro D tc tb ad As F P sz0 h
  obtain ⟨wt, k, rfl, h0, h1, hp⟩ := h
  refine mx_run (cc := c_L_line) (maxL := 2) (ret := (some .int)) (tab := t_L_line  P) (by decide) rfl D tc tb ad _ F P sz0 (Nat.le_of_ble_eq_true rfl) (fun p e s m args below meth c C hr hlk => a_L_line  C hr hlk) ?_
  intro Rr go
  have hF := mx_as2 h0 h1
  rw [hF]
  refine go rfl ⟨_, rfl, ?_⟩
  refine go rfl ⟨_, _, _, _, rfl, rfl, rfl, ?_⟩
  refine go rfl ⟨_, rfl, ?_⟩
  refine go rfl ⟨_, _, _, _, rfl, rfl, rfl, rfl, rfl, ⟨wt, k, rfl, rfl, ?_⟩⟩
  refine go rfl ⟨_, rfl, rfl, rfl, ?_⟩
  rw [← hF]
  exact hp
-- LadderWords$Ladders.shortestCount()J
def sp_D_shortestCount : mx_Sp := fun As F P => ∃ (rc : Int32) (sh : Int64) (wt : Int32), As = [mx_r 6] ∧ F 6 = some (e_D rc sh wt) ∧ P (some (mx_l sh)) F
theorem d_D_shortestCount_0 : decode c_D_shortestCount 0 = .ok (.aload_n 0, 1) := by decide +kernel
theorem d_D_shortestCount_1 : decode c_D_shortestCount 1 = .ok (.getfield 30, 3) := by decide +kernel
theorem d_D_shortestCount_4 : decode c_D_shortestCount 4 = .ok (.lreturn, 1) := by decide +kernel
abbrev w_D_shortestCount : List Cond := mx_ws y_D_shortestCount c_D_shortestCount 1 (some .long)
abbrev rm_D_shortestCount : Room := { frames := 10, cells := 0, slots := 0, locals := 200 }
def t_D_shortestCount  (P : Option mx_V → mx_F → Prop) : List (Nat × mx_O) := [
  (0, mx_aload 0 1),
  (1, mx_get 2 5 4),
  (4, mx_lret P)]
set_option maxRecDepth 20000 in
theorem a_D_shortestCount  {p : Program} {l : Launch} {e : Env} {s : State} {m : MethodId} {args : Array Value} {below : List Frame} {meth : Method} {c : Code} {D : va_G} {tc : Nat → ClassId} {tb : Nat → Nat} {sz : Nat} {a0 : Nat → Nat} {G : mx_F} {P : Option mx_V → mx_F → Prop}  (C : mx_C p s m args c c_D_shortestCount y_D_shortestCount.cls w_D_shortestCount D tc tb (mx_A a0 G sz) 1 (mx_Ok0 a0 G)) (hr : meth.sig.returnType = (some .long)) (hlk : meth.locks = false) : mx_all (mx_W p l e rm_D_shortestCount s m args below meth c (MQ below (mx_Q D tc tb a0 G sz P) args s 0 0 (mx_A a0 G sz)) D tc tb (mx_A a0 G sz) 1 (mx_Ok0 a0 G)) (t_D_shortestCount  P) :=
  ⟨mx_s_aload_n C d_D_shortestCount_0 rfl,
  mx_s_get (T := T_D) (N := 7) (k := 5) C (fun w h => List.mem_cons_of_mem _ (in_D w h)) rfl (by decide) (List.mem_cons_of_mem _ (mx_in0 (by decide +kernel) rfl)) rfl d_D_shortestCount_1,
  mx_s_lret C hr hlk d_D_shortestCount_4,
  trivial⟩
set_option maxRecDepth 20000 in
set_option maxHeartbeats 2000000 in
theorem m_D_shortestCount (l : Launch) : mx_M l y_D_shortestCount w_D_shortestCount rm_D_shortestCount sp_D_shortestCount := by
  intro D tc tb ad As F P sz0 h
  obtain ⟨rc, sh, wt, rfl, h1, hp⟩ := h
  refine mx_run (cc := c_D_shortestCount) (maxL := 1) (ret := (some .long)) (tab := t_D_shortestCount  P) (by decide) rfl D tc tb ad _ F P sz0 (Nat.le_of_ble_eq_true rfl) (fun p e s m args below meth c C hr hlk => a_D_shortestCount  C hr hlk) ?_
  intro Rr go
  have hF := mx_as1 h1
  rw [hF]
  refine go rfl ⟨_, rfl, ?_⟩
  refine go rfl ⟨_, _, _, _, rfl, rfl, rfl, ?_⟩
  refine go rfl ⟨_, rfl, rfl, rfl, ?_⟩
  rw [← hF]
  exact hp
-- LadderWords.ways()J
def sp_L_ways : mx_Sp := fun As F P => ∃ (rc : Int32) (sh : Int64) (wt : Int32), As = [mx_r 0] ∧ F 0 = some e_L ∧ F 6 = some (e_D rc sh wt) ∧ P (some (mx_l sh)) F
theorem d_L_ways_0 : decode c_L_ways 0 = .ok (.aload_n 0, 1) := by decide +kernel
theorem d_L_ways_1 : decode c_L_ways 1 = .ok (.getfield 28, 3) := by decide +kernel
theorem d_L_ways_4 : decode c_L_ways 4 = .ok (.invokevirtual 76, 3) := by decide +kernel
theorem d_L_ways_7 : decode c_L_ways 7 = .ok (.lreturn, 1) := by decide +kernel
abbrev w_L_ways : List Cond := mx_ws y_L_ways c_L_ways 1 (some .long)
abbrev rm_L_ways : Room := { frames := 20, cells := 0, slots := 0, locals := 400 }
def t_L_ways  (P : Option mx_V → mx_F → Prop) : List (Nat × mx_O) := [
  (0, mx_aload 0 1),
  (1, mx_get 6 2 4),
  (4, mx_cv0 2 sp_D_shortestCount 0 0 7),
  (7, mx_lret P)]
set_option maxRecDepth 20000 in
theorem a_L_ways  {p : Program} {l : Launch} {e : Env} {s : State} {m : MethodId} {args : Array Value} {below : List Frame} {meth : Method} {c : Code} {D : va_G} {tc : Nat → ClassId} {tb : Nat → Nat} {sz : Nat} {a0 : Nat → Nat} {G : mx_F} {P : Option mx_V → mx_F → Prop}  (C : mx_C p s m args c c_L_ways y_L_ways.cls w_L_ways D tc tb (mx_A a0 G sz) 1 (mx_Ok0 a0 G)) (hr : meth.sig.returnType = (some .long)) (hlk : meth.locks = false) : mx_all (mx_W p l e rm_L_ways s m args below meth c (MQ below (mx_Q D tc tb a0 G sz P) args s 0 0 (mx_A a0 G sz)) D tc tb (mx_A a0 G sz) 1 (mx_Ok0 a0 G)) (t_L_ways  P) :=
  ⟨mx_s_aload_n C d_L_ways_0 rfl,
  mx_s_get (T := T_L) (N := 6) (k := 2) C (fun w h => List.mem_cons_of_mem _ (in_L w h)) rfl (by decide) (List.mem_cons_of_mem _ (mx_in0 (by decide +kernel) rfl)) rfl d_L_ways_1,
  mx_s_cv0 C (m_D_shortestCount l) rfl (cwV 0 C.2.2.2.2.1 (mx_gV (fun w h => List.mem_cons_of_mem _ h) (mx_in0 (by decide +kernel) rfl) (mx_in0 (by decide +kernel) rfl) (mx_in0 (by decide +kernel) rfl) (mx_in0 (by decide +kernel) rfl) (mx_in0 (by decide +kernel) rfl)) rfl rfl rfl (by decide +kernel) ⟨by decide, by decide⟩) d_L_ways_4 ⟨Nat.zero_le _, Nat.zero_le _⟩,
  mx_s_lret C hr hlk d_L_ways_7,
  trivial⟩
set_option maxRecDepth 20000 in
set_option maxHeartbeats 2000000 in
theorem m_L_ways (l : Launch) : mx_M l y_L_ways w_L_ways rm_L_ways sp_L_ways := by
  intro D tc tb ad As F P sz0 h
  obtain ⟨rc, sh, wt, rfl, h0, h1, hp⟩ := h
  refine mx_run (cc := c_L_ways) (maxL := 1) (ret := (some .long)) (tab := t_L_ways  P) (by decide) rfl D tc tb ad _ F P sz0 (Nat.le_of_ble_eq_true rfl) (fun p e s m args below meth c C hr hlk => a_L_ways  C hr hlk) ?_
  intro Rr go
  have hF := mx_as2 h0 h1
  rw [hF]
  refine go rfl ⟨_, rfl, ?_⟩
  refine go rfl ⟨_, _, _, _, rfl, rfl, rfl, ?_⟩
  refine go rfl ⟨_, _, _, rfl, rfl, rfl, rfl, rfl, ⟨rc, sh, wt, rfl, rfl, ?_⟩⟩
  refine go rfl ⟨_, rfl, rfl, rfl, ?_⟩
  rw [← hF]
  exact hp
-- LadderWords$Gatherings.wordAt(II)I
/-- nothing is kept -/
def sp_G_wordAt : mx_Sp := fun As F P => ∃ (fc tot wt k i : Int32), As = [mx_r 10, mx_i k, mx_i i] ∧ F 10 = some (e_G fc 0 tot wt) ∧ P (some (mx_i (-1))) F
theorem d_G_wordAt_0 : decode c_G_wordAt 0 = .ok (.iload_n 1, 1) := by decide +kernel
theorem d_G_wordAt_1 : decode c_G_wordAt 1 = .ok (.ifCond .lt 38, 3) := by decide +kernel
theorem d_G_wordAt_4 : decode c_G_wordAt 4 = .ok (.iload_n 1, 1) := by decide +kernel
theorem d_G_wordAt_5 : decode c_G_wordAt 5 = .ok (.aload_n 0, 1) := by decide +kernel
theorem d_G_wordAt_6 : decode c_G_wordAt 6 = .ok (.getfield 29, 3) := by decide +kernel
theorem d_G_wordAt_9 : decode c_G_wordAt 9 = .ok (.if_icmp .ge 30, 3) := by decide +kernel
theorem d_G_wordAt_39 : decode c_G_wordAt 39 = .ok (.iconst 0, 1) := by decide +kernel
theorem d_G_wordAt_40 : decode c_G_wordAt 40 = .ok (.istore_n 3, 1) := by decide +kernel
theorem d_G_wordAt_41 : decode c_G_wordAt 41 = .ok (.iload_n 3, 1) := by decide +kernel
theorem d_G_wordAt_42 : decode c_G_wordAt 42 = .ok (.ifCond .eq 16, 3) := by decide +kernel
theorem d_G_wordAt_58 : decode c_G_wordAt 58 = .ok (.iconst (-1), 1) := by decide +kernel
theorem d_G_wordAt_59 : decode c_G_wordAt 59 = .ok (.ireturn, 1) := by decide +kernel
abbrev w_G_wordAt : List Cond := mx_ws y_G_wordAt c_G_wordAt 4 (some .int)
abbrev rm_G_wordAt : Room := { frames := 20, cells := 0, slots := 0, locals := 400 }
def t_G_wordAt  (P : Option mx_V → mx_F → Prop) : List (Nat × mx_O) := [
  (0, mx_iload 1 1),
  (1, mx_if_lt 39 4),
  (4, mx_iload 1 5),
  (5, mx_aload 0 6),
  (6, mx_get 0 6 9),
  (9, mx_ic_ge 39 12),
  (39, mx_push (.inl (nI 0)) 40),
  (40, mx_istore 3 41),
  (41, mx_iload 3 42),
  (42, mx_if_eq 58 45),
  (58, mx_push (.inl (-1)) 59),
  (59, mx_iret P)]
set_option maxRecDepth 20000 in
theorem a_G_wordAt  {p : Program} {l : Launch} {e : Env} {s : State} {m : MethodId} {args : Array Value} {below : List Frame} {meth : Method} {c : Code} {D : va_G} {tc : Nat → ClassId} {tb : Nat → Nat} {sz : Nat} {a0 : Nat → Nat} {G : mx_F} {P : Option mx_V → mx_F → Prop}  (C : mx_C p s m args c c_G_wordAt y_G_wordAt.cls w_G_wordAt D tc tb (mx_A a0 G sz) 4 (mx_Ok0 a0 G)) (hr : meth.sig.returnType = (some .int)) (hlk : meth.locks = false) : mx_all (mx_W p l e rm_G_wordAt s m args below meth c (MQ below (mx_Q D tc tb a0 G sz P) args s 0 0 (mx_A a0 G sz)) D tc tb (mx_A a0 G sz) 4 (mx_Ok0 a0 G)) (t_G_wordAt  P) :=
  ⟨mx_s_iload_n C d_G_wordAt_0 rfl,
  mx_s_if_lt C d_G_wordAt_1 (by decide),
  mx_s_iload_n C d_G_wordAt_4 rfl,
  mx_s_aload_n C d_G_wordAt_5 rfl,
  mx_s_get (T := T_G) (N := 9) (k := 6) C (fun w h => List.mem_cons_of_mem _ (in_G w h)) rfl (by decide) (List.mem_cons_of_mem _ (mx_in0 (by decide +kernel) rfl)) rfl d_G_wordAt_6,
  mx_s_ic_ge C d_G_wordAt_9 (by decide),
  mx_s_iconst C d_G_wordAt_39 (by decide),
  mx_s_istore_n C d_G_wordAt_40 rfl (by decide),
  mx_s_iload_n C d_G_wordAt_41 rfl,
  mx_s_if_eq C d_G_wordAt_42 (by decide),
  mx_s_iconst C d_G_wordAt_58 (by decide),
  mx_s_iret C hr hlk d_G_wordAt_59,
  trivial⟩
set_option maxRecDepth 20000 in
set_option maxHeartbeats 2000000 in
theorem m_G_wordAt (l : Launch) : mx_M l y_G_wordAt w_G_wordAt rm_G_wordAt sp_G_wordAt := by
  intro D tc tb ad As F P sz0 h
  obtain ⟨fc, tot, wt, k, i, rfl, h1, hp⟩ := h
  refine mx_run (cc := c_G_wordAt) (maxL := 4) (ret := (some .int)) (tab := t_G_wordAt  P) (by decide) rfl D tc tb ad _ F P sz0 (Nat.le_of_ble_eq_true rfl) (fun p e s m args below meth c C hr hlk => a_G_wordAt  C hr hlk) ?_
  intro Rr go
  have hF := mx_as1 h1
  rw [hF]
  refine go rfl ⟨_, rfl, ?_⟩
  refine go rfl ⟨_, _, rfl, fun c1 => ?_, fun c1 => ?_⟩
  · refine go rfl ?_
    refine go rfl ⟨_, _, rfl, ?_⟩
    refine go rfl ⟨_, rfl, ?_⟩
    refine go rfl ⟨_, _, rfl, fun c3 => ?_, fun c3 => ?_⟩
    · refine go rfl ?_
      refine go rfl ⟨_, rfl, rfl, rfl, ?_⟩
      rw [← hF]
      exact hp
    · exact absurd rfl c3
  refine go rfl ⟨_, rfl, ?_⟩
  refine go rfl ⟨_, rfl, ?_⟩
  refine go rfl ⟨_, _, _, _, rfl, rfl, rfl, ?_⟩
  refine go rfl ⟨_, _, _, rfl, fun c2 => ?_, fun c2 => ?_⟩
  · refine go rfl ?_
    refine go rfl ⟨_, _, rfl, ?_⟩
    refine go rfl ⟨_, rfl, ?_⟩
    refine go rfl ⟨_, _, rfl, fun c3 => ?_, fun c3 => ?_⟩
    · refine go rfl ?_
      refine go rfl ⟨_, rfl, rfl, rfl, ?_⟩
      rw [← hF]
      exact hp
    · exact absurd rfl c3
  · exact absurd (Int32.not_lt.mp c1) c2
-- LadderWords.gathered(II)I
def sp_L_gathered : mx_Sp := fun As F P => ∃ (fc tot wt k i : Int32), As = [mx_r 0, mx_i k, mx_i i] ∧ F 0 = some e_L ∧ F 10 = some (e_G fc 0 tot wt) ∧ P (some (mx_i (-1))) F
theorem d_L_gathered_0 : decode c_L_gathered 0 = .ok (.aload_n 0, 1) := by decide +kernel
theorem d_L_gathered_1 : decode c_L_gathered 1 = .ok (.getfield 35, 3) := by decide +kernel
theorem d_L_gathered_4 : decode c_L_gathered 4 = .ok (.iload_n 1, 1) := by decide +kernel
theorem d_L_gathered_5 : decode c_L_gathered 5 = .ok (.iload_n 2, 1) := by decide +kernel
theorem d_L_gathered_6 : decode c_L_gathered 6 = .ok (.invokevirtual 83, 3) := by decide +kernel
theorem d_L_gathered_9 : decode c_L_gathered 9 = .ok (.ireturn, 1) := by decide +kernel
abbrev w_L_gathered : List Cond := mx_ws y_L_gathered c_L_gathered 3 (some .int)
abbrev rm_L_gathered : Room := { frames := 30, cells := 0, slots := 0, locals := 600 }
def t_L_gathered  (P : Option mx_V → mx_F → Prop) : List (Nat × mx_O) := [
  (0, mx_aload 0 1),
  (1, mx_get 6 3 4),
  (4, mx_iload 1 5),
  (5, mx_iload 2 6),
  (6, mx_cv2 0 sp_G_wordAt 0 0 9),
  (9, mx_iret P)]
set_option maxRecDepth 20000 in
theorem a_L_gathered  {p : Program} {l : Launch} {e : Env} {s : State} {m : MethodId} {args : Array Value} {below : List Frame} {meth : Method} {c : Code} {D : va_G} {tc : Nat → ClassId} {tb : Nat → Nat} {sz : Nat} {a0 : Nat → Nat} {G : mx_F} {P : Option mx_V → mx_F → Prop}  (C : mx_C p s m args c c_L_gathered y_L_gathered.cls w_L_gathered D tc tb (mx_A a0 G sz) 3 (mx_Ok0 a0 G)) (hr : meth.sig.returnType = (some .int)) (hlk : meth.locks = false) : mx_all (mx_W p l e rm_L_gathered s m args below meth c (MQ below (mx_Q D tc tb a0 G sz P) args s 0 0 (mx_A a0 G sz)) D tc tb (mx_A a0 G sz) 3 (mx_Ok0 a0 G)) (t_L_gathered  P) :=
  ⟨mx_s_aload_n C d_L_gathered_0 rfl,
  mx_s_get (T := T_L) (N := 6) (k := 3) C (fun w h => List.mem_cons_of_mem _ (in_L w h)) rfl (by decide) (List.mem_cons_of_mem _ (mx_in0 (by decide +kernel) rfl)) rfl d_L_gathered_1,
  mx_s_iload_n C d_L_gathered_4 rfl,
  mx_s_iload_n C d_L_gathered_5 rfl,
  mx_s_cv2 C (m_G_wordAt l) rfl (cwV 2 C.2.2.2.2.1 (mx_gV (fun w h => List.mem_cons_of_mem _ h) (mx_in0 (by decide +kernel) rfl) (mx_in0 (by decide +kernel) rfl) (mx_in0 (by decide +kernel) rfl) (mx_in0 (by decide +kernel) rfl) (mx_in0 (by decide +kernel) rfl)) rfl rfl rfl (by decide +kernel) ⟨by decide, by decide⟩) d_L_gathered_6 ⟨Nat.zero_le _, Nat.zero_le _⟩,
  mx_s_iret C hr hlk d_L_gathered_9,
  trivial⟩
set_option maxRecDepth 20000 in
set_option maxHeartbeats 2000000 in
theorem m_L_gathered (l : Launch) : mx_M l y_L_gathered w_L_gathered rm_L_gathered sp_L_gathered := by
  intro D tc tb ad As F P sz0 h
  obtain ⟨fc, tot, wt, k, i, rfl, h0, h1, hp⟩ := h
  refine mx_run (cc := c_L_gathered) (maxL := 3) (ret := (some .int)) (tab := t_L_gathered  P) (by decide) rfl D tc tb ad _ F P sz0 (Nat.le_of_ble_eq_true rfl) (fun p e s m args below meth c C hr hlk => a_L_gathered  C hr hlk) ?_
  intro Rr go
  have hF := mx_as2 h0 h1
  rw [hF]
  refine go rfl ⟨_, rfl, ?_⟩
  refine go rfl ⟨_, _, _, _, rfl, rfl, rfl, ?_⟩
  refine go rfl ⟨_, rfl, ?_⟩
  refine go rfl ⟨_, rfl, ?_⟩
  refine go rfl ⟨_, _, _, _, _, rfl, rfl, rfl, rfl, rfl, ⟨fc, tot, wt, k, i, rfl, rfl, ?_⟩⟩
  refine go rfl ⟨_, rfl, rfl, rfl, ?_⟩
  rw [← hF]
  exact hp
-- LadderWords$Grid.isInside(II)Z
abbrev ins (x y : Int32) : Prop := ¬ (x < 0 ∨ nI 8 ≤ x ∨ y < 0 ∨ nI 8 ≤ y)
def sp_C_isInside : mx_Sp := fun As F P => ∃ x y : Int32, As = [mx_i x, mx_i y] ∧ (ins x y → P (some (mx_i (nI 1))) F) ∧ (¬ ins x y → P (some (mx_i (nI 0))) F)
theorem d_C_isInside_0 : decode c_C_isInside 0 = .ok (.iload_n 0, 1) := by decide +kernel
theorem d_C_isInside_1 : decode c_C_isInside 1 = .ok (.ifCond .lt 23, 3) := by decide +kernel
theorem d_C_isInside_4 : decode c_C_isInside 4 = .ok (.iload_n 0, 1) := by decide +kernel
theorem d_C_isInside_5 : decode c_C_isInside 5 = .ok (.bipush 8, 2) := by decide +kernel
theorem d_C_isInside_7 : decode c_C_isInside 7 = .ok (.if_icmp .ge 17, 3) := by decide +kernel
theorem d_C_isInside_10 : decode c_C_isInside 10 = .ok (.iload_n 1, 1) := by decide +kernel
theorem d_C_isInside_11 : decode c_C_isInside 11 = .ok (.ifCond .lt 13, 3) := by decide +kernel
theorem d_C_isInside_14 : decode c_C_isInside 14 = .ok (.iload_n 1, 1) := by decide +kernel
theorem d_C_isInside_15 : decode c_C_isInside 15 = .ok (.bipush 8, 2) := by decide +kernel
theorem d_C_isInside_17 : decode c_C_isInside 17 = .ok (.if_icmp .ge 7, 3) := by decide +kernel
theorem d_C_isInside_20 : decode c_C_isInside 20 = .ok (.iconst 1, 1) := by decide +kernel
theorem d_C_isInside_21 : decode c_C_isInside 21 = .ok (.goto 4, 3) := by decide +kernel
theorem d_C_isInside_24 : decode c_C_isInside 24 = .ok (.iconst 0, 1) := by decide +kernel
theorem d_C_isInside_25 : decode c_C_isInside 25 = .ok (.ireturn, 1) := by decide +kernel
abbrev w_C_isInside : List Cond := mx_ws y_C_isInside c_C_isInside 2 (some .boolean)
abbrev rm_C_isInside : Room := { frames := 10, cells := 0, slots := 0, locals := 200 }
def t_C_isInside  (P : Option mx_V → mx_F → Prop) : List (Nat × mx_O) := [
  (0, mx_iload 0 1),
  (1, mx_if_lt 24 4),
  (4, mx_iload 0 5),
  (5, mx_push (.inl (nI 8)) 7),
  (7, mx_ic_ge 24 10),
  (10, mx_iload 1 11),
  (11, mx_if_lt 24 14),
  (14, mx_iload 1 15),
  (15, mx_push (.inl (nI 8)) 17),
  (17, mx_ic_ge 24 20),
  (20, mx_push (.inl (nI 1)) 21),
  (21, mx_goto 25),
  (24, mx_push (.inl (nI 0)) 25),
  (25, mx_zret P)]
set_option maxRecDepth 20000 in
theorem a_C_isInside  {p : Program} {l : Launch} {e : Env} {s : State} {m : MethodId} {args : Array Value} {below : List Frame} {meth : Method} {c : Code} {D : va_G} {tc : Nat → ClassId} {tb : Nat → Nat} {sz : Nat} {a0 : Nat → Nat} {G : mx_F} {P : Option mx_V → mx_F → Prop}  (C : mx_C p s m args c c_C_isInside y_C_isInside.cls w_C_isInside D tc tb (mx_A a0 G sz) 2 (mx_Ok0 a0 G)) (hr : meth.sig.returnType = (some .boolean)) (hlk : meth.locks = false) : mx_all (mx_W p l e rm_C_isInside s m args below meth c (MQ below (mx_Q D tc tb a0 G sz P) args s 0 0 (mx_A a0 G sz)) D tc tb (mx_A a0 G sz) 2 (mx_Ok0 a0 G)) (t_C_isInside  P) :=
  ⟨mx_s_iload_n C d_C_isInside_0 rfl,
  mx_s_if_lt C d_C_isInside_1 (by decide),
  mx_s_iload_n C d_C_isInside_4 rfl,
  mx_s_bipush C d_C_isInside_5 (by decide),
  mx_s_ic_ge C d_C_isInside_7 (by decide),
  mx_s_iload_n C d_C_isInside_10 rfl,
  mx_s_if_lt C d_C_isInside_11 (by decide),
  mx_s_iload_n C d_C_isInside_14 rfl,
  mx_s_bipush C d_C_isInside_15 (by decide),
  mx_s_ic_ge C d_C_isInside_17 (by decide),
  mx_s_iconst C d_C_isInside_20 (by decide),
  mx_s_goto C d_C_isInside_21 (by decide),
  mx_s_iconst C d_C_isInside_24 (by decide),
  mx_s_zret C hr hlk d_C_isInside_25,
  trivial⟩
set_option maxRecDepth 20000 in
set_option maxHeartbeats 2000000 in
theorem m_C_isInside (l : Launch) : mx_M l y_C_isInside w_C_isInside rm_C_isInside sp_C_isInside := by
  intro D tc tb ad As F P sz0 h
  obtain ⟨x, y, rfl, ho, hz⟩ := h
  refine mx_run (cc := c_C_isInside) (maxL := 2) (ret := (some .boolean)) (tab := t_C_isInside  P) (by decide) rfl D tc tb ad _ F P sz0 (Nat.le_of_ble_eq_true rfl) (fun p e s m args below meth c C hr hlk => a_C_isInside  C hr hlk) ?_
  intro Rr go
  have z : ¬ ins x y → Rr 24 [some (mx_i x), some (mx_i y)] [] F 0 0 := by
    intro hc
    refine go rfl ?_
    refine go rfl ⟨_, rfl, rfl, rfl, (Or.inl rfl), ?_⟩
    exact hz hc
  refine go rfl ⟨_, rfl, ?_⟩
  refine go rfl ⟨_, _, rfl, fun c1 => ?_, fun c1 => ?_⟩
  · exact z (fun h => h (Or.inl c1))
  refine go rfl ⟨_, rfl, ?_⟩
  refine go rfl ?_
  refine go rfl ⟨_, _, _, rfl, fun c2 => ?_, fun c2 => ?_⟩
  · exact z (fun h => h (Or.inr (Or.inl c2)))
  refine go rfl ⟨_, rfl, ?_⟩
  refine go rfl ⟨_, _, rfl, fun c3 => ?_, fun c3 => ?_⟩
  · exact z (fun h => h (Or.inr (Or.inr (Or.inl c3))))
  refine go rfl ⟨_, rfl, ?_⟩
  refine go rfl ?_
  refine go rfl ⟨_, _, _, rfl, fun c4 => ?_, fun c4 => ?_⟩
  · exact z (fun h => h (Or.inr (Or.inr (Or.inr c4))))
  refine go rfl ?_
  refine go rfl ?_
  refine go rfl ⟨_, rfl, rfl, rfl, (Or.inr rfl), ?_⟩
  refine ho (fun h => ?_)
  rcases h with h | h | h | h
  · exact c1 h
  · exact c2 h
  · exact c3 h
  · exact c4 h
-- LadderWords$Grid.letterAt(II)I
theorem ins_at {x y : Int32} (h : ins x y) : ∃ i j : Nat, i < 8 ∧ j < 8 ∧ x = nI i ∧ y = nI j := by
  have hx : ¬ x < 0 := fun q => h (Or.inl q)
  have hy : ¬ y < 0 := fun q => h (Or.inr (Or.inr (Or.inl q)))
  rcases pk_ix x (n := 8) (by decide) with q | q | ⟨i, hi, ei⟩
  · exact absurd q hx
  · exact absurd (Or.inr (Or.inl q)) h
  rcases pk_ix y (n := 8) (by decide) with q | q | ⟨j, hj, ej⟩
  · exact absurd q hy
  · exact absurd (Or.inr (Or.inr (Or.inr q))) h
  exact ⟨i, j, hi, hj, ei, ej⟩
def sp_C_letterAt : mx_Sp := fun As F P => ∃ (f : Nat → Int32) (x y : Int32), As = [mx_r 29, mx_i x, mx_i y] ∧ F 29 = some e_C ∧ F 30 = some (mx_ia 64 f) ∧ (∀ i j : Nat, i < 8 → j < 8 → x = nI i → y = nI j → P (some (mx_i (f (i + 8 * j)))) F) ∧ (¬ ins x y → P (some (mx_i (-1))) F)
theorem d_C_letterAt_0 : decode c_C_letterAt 0 = .ok (.iload_n 1, 1) := by decide +kernel
theorem d_C_letterAt_1 : decode c_C_letterAt 1 = .ok (.iload_n 2, 1) := by decide +kernel
theorem d_C_letterAt_2 : decode c_C_letterAt 2 = .ok (.invokestatic 19, 3) := by decide +kernel
theorem d_C_letterAt_5 : decode c_C_letterAt 5 = .ok (.ifCond .eq 17, 3) := by decide +kernel
theorem d_C_letterAt_8 : decode c_C_letterAt 8 = .ok (.aload_n 0, 1) := by decide +kernel
theorem d_C_letterAt_9 : decode c_C_letterAt 9 = .ok (.getfield 11, 3) := by decide +kernel
theorem d_C_letterAt_12 : decode c_C_letterAt 12 = .ok (.iload_n 1, 1) := by decide +kernel
theorem d_C_letterAt_13 : decode c_C_letterAt 13 = .ok (.bipush 8, 2) := by decide +kernel
theorem d_C_letterAt_15 : decode c_C_letterAt 15 = .ok (.iload_n 2, 1) := by decide +kernel
theorem d_C_letterAt_16 : decode c_C_letterAt 16 = .ok (.imul, 1) := by decide +kernel
theorem d_C_letterAt_17 : decode c_C_letterAt 17 = .ok (.iadd, 1) := by decide +kernel
theorem d_C_letterAt_18 : decode c_C_letterAt 18 = .ok (.iaload, 1) := by decide +kernel
theorem d_C_letterAt_19 : decode c_C_letterAt 19 = .ok (.goto 4, 3) := by decide +kernel
theorem d_C_letterAt_22 : decode c_C_letterAt 22 = .ok (.iconst (-1), 1) := by decide +kernel
theorem d_C_letterAt_23 : decode c_C_letterAt 23 = .ok (.ireturn, 1) := by decide +kernel
abbrev w_C_letterAt : List Cond := mx_ws y_C_letterAt c_C_letterAt 3 (some .int)
abbrev rm_C_letterAt : Room := { frames := 20, cells := 0, slots := 0, locals := 400 }
def t_C_letterAt  (P : Option mx_V → mx_F → Prop) : List (Nat × mx_O) := [
  (0, mx_iload 1 1),
  (1, mx_iload 2 2),
  (2, mx_cs2 sp_C_isInside 0 0 5),
  (5, mx_if_eq 22 8),
  (8, mx_aload 0 9),
  (9, mx_get 1 1 12),
  (12, mx_iload 1 13),
  (13, mx_push (.inl (nI 8)) 15),
  (15, mx_iload 2 16),
  (16, mx_imul 17),
  (17, mx_iadd 18),
  (18, mx_iald 19),
  (19, mx_goto 23),
  (22, mx_push (.inl (-1)) 23),
  (23, mx_iret P)]
set_option maxRecDepth 20000 in
theorem a_C_letterAt  {p : Program} {l : Launch} {e : Env} {s : State} {m : MethodId} {args : Array Value} {below : List Frame} {meth : Method} {c : Code} {D : va_G} {tc : Nat → ClassId} {tb : Nat → Nat} {sz : Nat} {a0 : Nat → Nat} {G : mx_F} {P : Option mx_V → mx_F → Prop}  (C : mx_C p s m args c c_C_letterAt y_C_letterAt.cls w_C_letterAt D tc tb (mx_A a0 G sz) 3 (mx_Ok0 a0 G)) (hr : meth.sig.returnType = (some .int)) (hlk : meth.locks = false) : mx_all (mx_W p l e rm_C_letterAt s m args below meth c (MQ below (mx_Q D tc tb a0 G sz P) args s 0 0 (mx_A a0 G sz)) D tc tb (mx_A a0 G sz) 3 (mx_Ok0 a0 G)) (t_C_letterAt  P) :=
  ⟨mx_s_iload_n C d_C_letterAt_0 rfl,
  mx_s_iload_n C d_C_letterAt_1 rfl,
  mx_s_cs2 C (m_C_isInside l) (cwS 2 C.2.2.2.2.1 (mx_gS (fun w h => List.mem_cons_of_mem _ h) (mx_in0 (by decide +kernel) rfl) (mx_in0 (by decide +kernel) rfl) (mx_in0 (by decide +kernel) rfl) (mx_in0 (by decide +kernel) rfl)) rfl rfl rfl (by decide +kernel) ⟨by decide, by decide⟩) d_C_letterAt_2 ⟨Nat.zero_le _, Nat.zero_le _⟩,
  mx_s_if_eq C d_C_letterAt_5 (by decide),
  mx_s_aload_n C d_C_letterAt_8 rfl,
  mx_s_get (T := T_C) (N := 2) (k := 1) C (fun w h => List.mem_cons_of_mem _ (in_C w h)) rfl (by decide) (List.mem_cons_of_mem _ (mx_in0 (by decide +kernel) rfl)) rfl d_C_letterAt_9,
  mx_s_iload_n C d_C_letterAt_12 rfl,
  mx_s_bipush C d_C_letterAt_13 (by decide),
  mx_s_iload_n C d_C_letterAt_15 rfl,
  mx_s_imul C d_C_letterAt_16,
  mx_s_iadd C d_C_letterAt_17,
  mx_s_iald C d_C_letterAt_18,
  mx_s_goto C d_C_letterAt_19 (by decide),
  mx_s_iconst C d_C_letterAt_22 (by decide),
  mx_s_iret C hr hlk d_C_letterAt_23,
  trivial⟩
set_option maxRecDepth 20000 in
set_option maxHeartbeats 2000000 in
theorem m_C_letterAt (l : Launch) : mx_M l y_C_letterAt w_C_letterAt rm_C_letterAt sp_C_letterAt := by
  intro D tc tb ad As F P sz0 h
  obtain ⟨f, x, y, rfl, h1, h2, ho, hz⟩ := h
  refine mx_run (cc := c_C_letterAt) (maxL := 3) (ret := (some .int)) (tab := t_C_letterAt  P) (by decide) rfl D tc tb ad _ F P sz0 (Nat.le_of_ble_eq_true rfl) (fun p e s m args below meth c C hr hlk => a_C_letterAt  C hr hlk) ?_
  intro Rr go
  have hF := mx_as2 h1 h2
  rw [hF]
  refine go rfl ⟨_, rfl, ?_⟩
  refine go rfl ⟨_, rfl, ?_⟩
  refine go rfl ⟨_, _, _, rfl, rfl, rfl, rfl, ⟨x, y, rfl, fun hc => ?_, fun hc => ?_⟩⟩
  · obtain ⟨i, j, hi, hj, rfl, rfl⟩ := ins_at hc
    refine go rfl ⟨_, _, rfl, fun c1 => ?_, fun c1 => ?_⟩
    · exact absurd c1 (by decide)
    refine go rfl ⟨_, rfl, ?_⟩
    refine go rfl ⟨_, _, _, _, rfl, rfl, rfl, ?_⟩
    refine go rfl ⟨_, rfl, ?_⟩
    refine go rfl ?_
    refine go rfl ⟨_, rfl, ?_⟩
    refine go rfl ⟨_, _, _, rfl, ?_⟩
    rw [pk_mul]
    refine go rfl ⟨_, _, _, rfl, ?_⟩
    rw [nI_add]
    refine go rfl ⟨_, _, _, _, _, rfl, rfl, (vp_in_nI (show i + 8 * j < 64 by omega) (by omega)), ?_⟩
    rw [nI_clamp (by omega)]
    refine go rfl ?_
    refine go rfl ⟨_, rfl, rfl, rfl, ?_⟩
    rw [← hF]
    exact ho i j hi hj rfl rfl
  · refine go rfl ⟨_, _, rfl, fun c1 => ?_, fun c1 => ?_⟩
    · refine go rfl ?_
      refine go rfl ⟨_, rfl, rfl, rfl, ?_⟩
      rw [← hF]
      exact hz hc
    · exact absurd rfl c1
-- LadderWords.cell(II)I
def sp_L_cell : mx_Sp := fun As F P => ∃ (f : Nat → Int32) (x y : Int32), As = [mx_r 0, mx_i x, mx_i y] ∧ F 0 = some e_L ∧ F 29 = some e_C ∧ F 30 = some (mx_ia 64 f) ∧ (∀ i j : Nat, i < 8 → j < 8 → x = nI i → y = nI j → P (some (mx_i (f (i + 8 * j)))) F) ∧ (¬ ins x y → P (some (mx_i (-1))) F)
theorem d_L_cell_0 : decode c_L_cell 0 = .ok (.aload_n 0, 1) := by decide +kernel
theorem d_L_cell_1 : decode c_L_cell 1 = .ok (.getfield 49, 3) := by decide +kernel
theorem d_L_cell_4 : decode c_L_cell 4 = .ok (.iload_n 1, 1) := by decide +kernel
theorem d_L_cell_5 : decode c_L_cell 5 = .ok (.iload_n 2, 1) := by decide +kernel
theorem d_L_cell_6 : decode c_L_cell 6 = .ok (.invokevirtual 98, 3) := by decide +kernel
theorem d_L_cell_9 : decode c_L_cell 9 = .ok (.ireturn, 1) := by decide +kernel
abbrev w_L_cell : List Cond := mx_ws y_L_cell c_L_cell 3 (some .int)
abbrev rm_L_cell : Room := { frames := 30, cells := 0, slots := 0, locals := 600 }
def t_L_cell  (P : Option mx_V → mx_F → Prop) : List (Nat × mx_O) := [
  (0, mx_aload 0 1),
  (1, mx_get 6 5 4),
  (4, mx_iload 1 5),
  (5, mx_iload 2 6),
  (6, mx_cv2 1 sp_C_letterAt 0 0 9),
  (9, mx_iret P)]
set_option maxRecDepth 20000 in
theorem a_L_cell  {p : Program} {l : Launch} {e : Env} {s : State} {m : MethodId} {args : Array Value} {below : List Frame} {meth : Method} {c : Code} {D : va_G} {tc : Nat → ClassId} {tb : Nat → Nat} {sz : Nat} {a0 : Nat → Nat} {G : mx_F} {P : Option mx_V → mx_F → Prop}  (C : mx_C p s m args c c_L_cell y_L_cell.cls w_L_cell D tc tb (mx_A a0 G sz) 3 (mx_Ok0 a0 G)) (hr : meth.sig.returnType = (some .int)) (hlk : meth.locks = false) : mx_all (mx_W p l e rm_L_cell s m args below meth c (MQ below (mx_Q D tc tb a0 G sz P) args s 0 0 (mx_A a0 G sz)) D tc tb (mx_A a0 G sz) 3 (mx_Ok0 a0 G)) (t_L_cell  P) :=
  ⟨mx_s_aload_n C d_L_cell_0 rfl,
  mx_s_get (T := T_L) (N := 6) (k := 5) C (fun w h => List.mem_cons_of_mem _ (in_L w h)) rfl (by decide) (List.mem_cons_of_mem _ (mx_in0 (by decide +kernel) rfl)) rfl d_L_cell_1,
  mx_s_iload_n C d_L_cell_4 rfl,
  mx_s_iload_n C d_L_cell_5 rfl,
  mx_s_cv2 C (m_C_letterAt l) rfl (cwV 2 C.2.2.2.2.1 (mx_gV (fun w h => List.mem_cons_of_mem _ h) (mx_in0 (by decide +kernel) rfl) (mx_in0 (by decide +kernel) rfl) (mx_in0 (by decide +kernel) rfl) (mx_in0 (by decide +kernel) rfl) (mx_in0 (by decide +kernel) rfl)) rfl rfl rfl (by decide +kernel) ⟨by decide, by decide⟩) d_L_cell_6 ⟨Nat.zero_le _, Nat.zero_le _⟩,
  mx_s_iret C hr hlk d_L_cell_9,
  trivial⟩
set_option maxRecDepth 20000 in
set_option maxHeartbeats 2000000 in
theorem m_L_cell (l : Launch) : mx_M l y_L_cell w_L_cell rm_L_cell sp_L_cell := by
  intro D tc tb ad As F P sz0 h
  obtain ⟨f, x, y, rfl, h0, h1, h2, ho, hz⟩ := h
  refine mx_run (cc := c_L_cell) (maxL := 3) (ret := (some .int)) (tab := t_L_cell  P) (by decide) rfl D tc tb ad _ F P sz0 (Nat.le_of_ble_eq_true rfl) (fun p e s m args below meth c C hr hlk => a_L_cell  C hr hlk) ?_
  intro Rr go
  have hF := mx_as3 h0 h1 h2
  rw [hF]
  refine go rfl ⟨_, rfl, ?_⟩
  refine go rfl ⟨_, _, _, _, rfl, rfl, rfl, ?_⟩
  refine go rfl ⟨_, rfl, ?_⟩
  refine go rfl ⟨_, rfl, ?_⟩
  refine go rfl ⟨_, _, _, _, _, rfl, rfl, rfl, rfl, rfl, ⟨f, x, y, rfl, rfl, rfl, fun i j hi hj ei ej => ?_, fun hc => ?_⟩⟩
  · refine go rfl ⟨_, rfl, rfl, rfl, ?_⟩
    rw [← hF]
    exact ho i j hi hj ei ej
  · refine go rfl ⟨_, rfl, rfl, rfl, ?_⟩
    rw [← hF]
    exact hz hc
-- LadderWords$Grid.put(IIII)Z
/-- without words -/
def sp_C_put : mx_Sp := fun As F P => ∃ a b c d : Int32, As = [mx_r 29, mx_i a, mx_i b, mx_i c, mx_i d] ∧ F 3 = some (e_W 0) ∧ F 29 = some e_C ∧ P (some (mx_i (nI 0))) F
theorem d_C_put_0 : decode c_C_put 0 = .ok (.aload_n 0, 1) := by decide +kernel
theorem d_C_put_1 : decode c_C_put 1 = .ok (.getfield 15, 3) := by decide +kernel
theorem d_C_put_4 : decode c_C_put 4 = .ok (.iload_n 1, 1) := by decide +kernel
theorem d_C_put_5 : decode c_C_put 5 = .ok (.invokevirtual 23, 3) := by decide +kernel
theorem d_C_put_8 : decode c_C_put 8 = .ok (.ifCond .eq 23, 3) := by decide +kernel
theorem d_C_put_31 : decode c_C_put 31 = .ok (.iconst 0, 1) := by decide +kernel
theorem d_C_put_32 : decode c_C_put 32 = .ok (.ireturn, 1) := by decide +kernel
abbrev w_C_put : List Cond := mx_ws y_C_put c_C_put 6 (some .boolean)
abbrev rm_C_put : Room := { frames := 40, cells := 0, slots := 0, locals := 800 }
def t_C_put  (P : Option mx_V → mx_F → Prop) : List (Nat × mx_O) := [
  (0, mx_aload 0 1),
  (1, mx_get 1 0 4),
  (4, mx_iload 1 5),
  (5, mx_cv1 5 sp_W_has 0 0 8),
  (8, mx_if_eq 31 11),
  (31, mx_push (.inl (nI 0)) 32),
  (32, mx_zret P)]
set_option maxRecDepth 20000 in
theorem a_C_put  {p : Program} {l : Launch} {e : Env} {s : State} {m : MethodId} {args : Array Value} {below : List Frame} {meth : Method} {c : Code} {D : va_G} {tc : Nat → ClassId} {tb : Nat → Nat} {sz : Nat} {a0 : Nat → Nat} {G : mx_F} {P : Option mx_V → mx_F → Prop}  (C : mx_C p s m args c c_C_put y_C_put.cls w_C_put D tc tb (mx_A a0 G sz) 6 (mx_Ok0 a0 G)) (hr : meth.sig.returnType = (some .boolean)) (hlk : meth.locks = false) : mx_all (mx_W p l e rm_C_put s m args below meth c (MQ below (mx_Q D tc tb a0 G sz P) args s 0 0 (mx_A a0 G sz)) D tc tb (mx_A a0 G sz) 6 (mx_Ok0 a0 G)) (t_C_put  P) :=
  ⟨mx_s_aload_n C d_C_put_0 rfl,
  mx_s_get (T := T_C) (N := 2) (k := 0) C (fun w h => List.mem_cons_of_mem _ (in_C w h)) rfl (by decide) (List.mem_cons_of_mem _ (mx_in0 (by decide +kernel) rfl)) rfl d_C_put_1,
  mx_s_iload_n C d_C_put_4 rfl,
  mx_s_cv1 C (m_W_has l) rfl (cwV 1 C.2.2.2.2.1 (mx_gV (fun w h => List.mem_cons_of_mem _ h) (mx_in0 (by decide +kernel) rfl) (mx_in0 (by decide +kernel) rfl) (mx_in0 (by decide +kernel) rfl) (mx_in0 (by decide +kernel) rfl) (mx_in0 (by decide +kernel) rfl)) rfl rfl rfl (by decide +kernel) ⟨by decide, by decide⟩) d_C_put_5 ⟨Nat.zero_le _, Nat.zero_le _⟩,
  mx_s_if_eq C d_C_put_8 (by decide),
  mx_s_iconst C d_C_put_31 (by decide),
  mx_s_zret C hr hlk d_C_put_32,
  trivial⟩
set_option maxRecDepth 20000 in
set_option maxHeartbeats 2000000 in
theorem m_C_put (l : Launch) : mx_M l y_C_put w_C_put rm_C_put sp_C_put := by
  intro D tc tb ad As F P sz0 h
  obtain ⟨a, b, c, d, rfl, h3, h1, hp⟩ := h
  refine mx_run (cc := c_C_put) (maxL := 6) (ret := (some .boolean)) (tab := t_C_put  P) (by decide) rfl D tc tb ad _ F P sz0 (Nat.le_of_ble_eq_true rfl) (fun p e s m args below meth c C hr hlk => a_C_put  C hr hlk) ?_
  intro Rr go
  have hF := mx_as2 h3 h1
  rw [hF]
  refine go rfl ⟨_, rfl, ?_⟩
  refine go rfl ⟨_, _, _, _, rfl, rfl, rfl, ?_⟩
  refine go rfl ⟨_, rfl, ?_⟩
  refine go rfl ⟨_, _, _, _, rfl, rfl, rfl, rfl, rfl, ⟨0, a, rfl, rfl, fun hc => ?_, fun hc => ?_⟩⟩
  · refine go rfl ⟨_, _, rfl, fun c1 => ?_, fun c1 => ?_⟩
    · refine go rfl ?_
      refine go rfl ⟨_, rfl, rfl, rfl, (Or.inl rfl), ?_⟩
      rw [← hF]
      exact hp
    · exact absurd rfl c1
  · exact absurd (Int32.not_lt.mp (fun h => hc (Or.inl h))) (fun h => hc (Or.inr h))
-- LadderWords.hide(IIII)Z
def sp_L_hide : mx_Sp := fun As F P => ∃ a b c d : Int32, As = [mx_r 0, mx_i a, mx_i b, mx_i c, mx_i d] ∧ F 0 = some e_L ∧ F 3 = some (e_W 0) ∧ F 29 = some e_C ∧ P (some (mx_i (nI 0))) F
theorem d_L_hide_0 : decode c_L_hide 0 = .ok (.aload_n 0, 1) := by decide +kernel
theorem d_L_hide_1 : decode c_L_hide 1 = .ok (.getfield 49, 3) := by decide +kernel
theorem d_L_hide_4 : decode c_L_hide 4 = .ok (.iload_n 1, 1) := by decide +kernel
theorem d_L_hide_5 : decode c_L_hide 5 = .ok (.iload_n 2, 1) := by decide +kernel
theorem d_L_hide_6 : decode c_L_hide 6 = .ok (.iload_n 3, 1) := by decide +kernel
theorem d_L_hide_7 : decode c_L_hide 7 = .ok (.iload 4, 2) := by decide +kernel
theorem d_L_hide_9 : decode c_L_hide 9 = .ok (.invokevirtual 90, 3) := by decide +kernel
theorem d_L_hide_12 : decode c_L_hide 12 = .ok (.ireturn, 1) := by decide +kernel
abbrev w_L_hide : List Cond := mx_ws y_L_hide c_L_hide 5 (some .boolean)
abbrev rm_L_hide : Room := { frames := 50, cells := 0, slots := 0, locals := 1000 }
def t_L_hide  (P : Option mx_V → mx_F → Prop) : List (Nat × mx_O) := [
  (0, mx_aload 0 1),
  (1, mx_get 6 5 4),
  (4, mx_iload 1 5),
  (5, mx_iload 2 6),
  (6, mx_iload 3 7),
  (7, mx_iload 4 9),
  (9, mx_cv4 1 sp_C_put 0 0 12),
  (12, mx_zret P)]
set_option maxRecDepth 20000 in
theorem a_L_hide  {p : Program} {l : Launch} {e : Env} {s : State} {m : MethodId} {args : Array Value} {below : List Frame} {meth : Method} {c : Code} {D : va_G} {tc : Nat → ClassId} {tb : Nat → Nat} {sz : Nat} {a0 : Nat → Nat} {G : mx_F} {P : Option mx_V → mx_F → Prop}  (C : mx_C p s m args c c_L_hide y_L_hide.cls w_L_hide D tc tb (mx_A a0 G sz) 5 (mx_Ok0 a0 G)) (hr : meth.sig.returnType = (some .boolean)) (hlk : meth.locks = false) : mx_all (mx_W p l e rm_L_hide s m args below meth c (MQ below (mx_Q D tc tb a0 G sz P) args s 0 0 (mx_A a0 G sz)) D tc tb (mx_A a0 G sz) 5 (mx_Ok0 a0 G)) (t_L_hide  P) :=
  ⟨mx_s_aload_n C d_L_hide_0 rfl,
  mx_s_get (T := T_L) (N := 6) (k := 5) C (fun w h => List.mem_cons_of_mem _ (in_L w h)) rfl (by decide) (List.mem_cons_of_mem _ (mx_in0 (by decide +kernel) rfl)) rfl d_L_hide_1,
  mx_s_iload_n C d_L_hide_4 rfl,
  mx_s_iload_n C d_L_hide_5 rfl,
  mx_s_iload_n C d_L_hide_6 rfl,
  mx_s_iload C d_L_hide_7,
  mx_s_cv4 C (m_C_put l) rfl (cwV 4 C.2.2.2.2.1 (mx_gV (fun w h => List.mem_cons_of_mem _ h) (mx_in0 (by decide +kernel) rfl) (mx_in0 (by decide +kernel) rfl) (mx_in0 (by decide +kernel) rfl) (mx_in0 (by decide +kernel) rfl) (mx_in0 (by decide +kernel) rfl)) rfl rfl rfl (by decide +kernel) ⟨by decide, by decide⟩) d_L_hide_9 ⟨Nat.zero_le _, Nat.zero_le _⟩,
  mx_s_zret C hr hlk d_L_hide_12,
  trivial⟩
set_option maxRecDepth 20000 in
set_option maxHeartbeats 2000000 in
theorem m_L_hide (l : Launch) : mx_M l y_L_hide w_L_hide rm_L_hide sp_L_hide := by
  intro D tc tb ad As F P sz0 h
  obtain ⟨a, b, c, d, rfl, h0, h3, h1, hp⟩ := h
  refine mx_run (cc := c_L_hide) (maxL := 5) (ret := (some .boolean)) (tab := t_L_hide  P) (by decide) rfl D tc tb ad _ F P sz0 (Nat.le_of_ble_eq_true rfl) (fun p e s m args below meth c C hr hlk => a_L_hide  C hr hlk) ?_
  intro Rr go
  have hF := mx_as3 h0 h3 h1
  rw [hF]
  refine go rfl ⟨_, rfl, ?_⟩
  refine go rfl ⟨_, _, _, _, rfl, rfl, rfl, ?_⟩
  refine go rfl ⟨_, rfl, ?_⟩
  refine go rfl ⟨_, rfl, ?_⟩
  refine go rfl ⟨_, rfl, ?_⟩
  refine go rfl ⟨_, rfl, ?_⟩
  refine go rfl ⟨_, _, _, _, _, _, _, rfl, rfl, rfl, rfl, rfl, ⟨a, b, c, d, rfl, rfl, rfl, ?_⟩⟩
  refine go rfl ⟨_, rfl, rfl, rfl, (Or.inl rfl), ?_⟩
  rw [← hF]
  exact hp
-- LadderWords$Grid.countOf(I)I
/-- without words -/
def sp_C_countOf : mx_Sp := fun As F P => ∃ a : Int32, As = [mx_r 29, mx_i a] ∧ F 3 = some (e_W 0) ∧ F 29 = some e_C ∧ P (some (mx_i (-1))) F
theorem d_C_countOf_0 : decode c_C_countOf 0 = .ok (.aload_n 0, 1) := by decide +kernel
theorem d_C_countOf_1 : decode c_C_countOf 1 = .ok (.getfield 15, 3) := by decide +kernel
theorem d_C_countOf_4 : decode c_C_countOf 4 = .ok (.iload_n 1, 1) := by decide +kernel
theorem d_C_countOf_5 : decode c_C_countOf 5 = .ok (.invokevirtual 23, 3) := by decide +kernel
theorem d_C_countOf_8 : decode c_C_countOf 8 = .ok (.ifCond .ne 5, 3) := by decide +kernel
theorem d_C_countOf_11 : decode c_C_countOf 11 = .ok (.iconst (-1), 1) := by decide +kernel
theorem d_C_countOf_12 : decode c_C_countOf 12 = .ok (.ireturn, 1) := by decide +kernel
abbrev w_C_countOf : List Cond := mx_ws y_C_countOf c_C_countOf 4 (some .int)
abbrev rm_C_countOf : Room := { frames := 40, cells := 0, slots := 0, locals := 800 }
def t_C_countOf  (P : Option mx_V → mx_F → Prop) : List (Nat × mx_O) := [
  (0, mx_aload 0 1),
  (1, mx_get 1 0 4),
  (4, mx_iload 1 5),
  (5, mx_cv1 5 sp_W_has 0 0 8),
  (8, mx_if_ne 13 11),
  (11, mx_push (.inl (-1)) 12),
  (12, mx_iret P)]
set_option maxRecDepth 20000 in
theorem a_C_countOf  {p : Program} {l : Launch} {e : Env} {s : State} {m : MethodId} {args : Array Value} {below : List Frame} {meth : Method} {c : Code} {D : va_G} {tc : Nat → ClassId} {tb : Nat → Nat} {sz : Nat} {a0 : Nat → Nat} {G : mx_F} {P : Option mx_V → mx_F → Prop}  (C : mx_C p s m args c c_C_countOf y_C_countOf.cls w_C_countOf D tc tb (mx_A a0 G sz) 4 (mx_Ok0 a0 G)) (hr : meth.sig.returnType = (some .int)) (hlk : meth.locks = false) : mx_all (mx_W p l e rm_C_countOf s m args below meth c (MQ below (mx_Q D tc tb a0 G sz P) args s 0 0 (mx_A a0 G sz)) D tc tb (mx_A a0 G sz) 4 (mx_Ok0 a0 G)) (t_C_countOf  P) :=
  ⟨mx_s_aload_n C d_C_countOf_0 rfl,
  mx_s_get (T := T_C) (N := 2) (k := 0) C (fun w h => List.mem_cons_of_mem _ (in_C w h)) rfl (by decide) (List.mem_cons_of_mem _ (mx_in0 (by decide +kernel) rfl)) rfl d_C_countOf_1,
  mx_s_iload_n C d_C_countOf_4 rfl,
  mx_s_cv1 C (m_W_has l) rfl (cwV 1 C.2.2.2.2.1 (mx_gV (fun w h => List.mem_cons_of_mem _ h) (mx_in0 (by decide +kernel) rfl) (mx_in0 (by decide +kernel) rfl) (mx_in0 (by decide +kernel) rfl) (mx_in0 (by decide +kernel) rfl) (mx_in0 (by decide +kernel) rfl)) rfl rfl rfl (by decide +kernel) ⟨by decide, by decide⟩) d_C_countOf_5 ⟨Nat.zero_le _, Nat.zero_le _⟩,
  mx_s_if_ne C d_C_countOf_8 (by decide),
  mx_s_iconst C d_C_countOf_11 (by decide),
  mx_s_iret C hr hlk d_C_countOf_12,
  trivial⟩
set_option maxRecDepth 20000 in
set_option maxHeartbeats 2000000 in
theorem m_C_countOf (l : Launch) : mx_M l y_C_countOf w_C_countOf rm_C_countOf sp_C_countOf := by
  intro D tc tb ad As F P sz0 h
  obtain ⟨a, rfl, h3, h1, hp⟩ := h
  refine mx_run (cc := c_C_countOf) (maxL := 4) (ret := (some .int)) (tab := t_C_countOf  P) (by decide) rfl D tc tb ad _ F P sz0 (Nat.le_of_ble_eq_true rfl) (fun p e s m args below meth c C hr hlk => a_C_countOf  C hr hlk) ?_
  intro Rr go
  have hF := mx_as2 h3 h1
  rw [hF]
  refine go rfl ⟨_, rfl, ?_⟩
  refine go rfl ⟨_, _, _, _, rfl, rfl, rfl, ?_⟩
  refine go rfl ⟨_, rfl, ?_⟩
  refine go rfl ⟨_, _, _, _, rfl, rfl, rfl, rfl, rfl, ⟨0, a, rfl, rfl, fun hc => ?_, fun hc => ?_⟩⟩
  · refine go rfl ⟨_, _, rfl, fun c1 => ?_, fun c1 => ?_⟩
    · exact absurd rfl c1
    · refine go rfl ?_
      refine go rfl ⟨_, rfl, rfl, rfl, ?_⟩
      rw [← hF]
      exact hp
  · exact absurd (Int32.not_lt.mp (fun h => hc (Or.inl h))) (fun h => hc (Or.inr h))
-- LadderWords.found(I)I
def sp_L_found : mx_Sp := fun As F P => ∃ a : Int32, As = [mx_r 0, mx_i a] ∧ F 0 = some e_L ∧ F 3 = some (e_W 0) ∧ F 29 = some e_C ∧ P (some (mx_i (-1))) F
theorem d_L_found_0 : decode c_L_found 0 = .ok (.aload_n 0, 1) := by decide +kernel
theorem d_L_found_1 : decode c_L_found 1 = .ok (.getfield 49, 3) := by decide +kernel
theorem d_L_found_4 : decode c_L_found 4 = .ok (.iload_n 1, 1) := by decide +kernel
theorem d_L_found_5 : decode c_L_found 5 = .ok (.invokevirtual 101, 3) := by decide +kernel
theorem d_L_found_8 : decode c_L_found 8 = .ok (.ireturn, 1) := by decide +kernel
abbrev w_L_found : List Cond := mx_ws y_L_found c_L_found 2 (some .int)
abbrev rm_L_found : Room := { frames := 50, cells := 0, slots := 0, locals := 1000 }
def t_L_found  (P : Option mx_V → mx_F → Prop) : List (Nat × mx_O) := [
  (0, mx_aload 0 1),
  (1, mx_get 6 5 4),
  (4, mx_iload 1 5),
  (5, mx_cv1 1 sp_C_countOf 0 0 8),
  (8, mx_iret P)]
set_option maxRecDepth 20000 in
theorem a_L_found  {p : Program} {l : Launch} {e : Env} {s : State} {m : MethodId} {args : Array Value} {below : List Frame} {meth : Method} {c : Code} {D : va_G} {tc : Nat → ClassId} {tb : Nat → Nat} {sz : Nat} {a0 : Nat → Nat} {G : mx_F} {P : Option mx_V → mx_F → Prop}  (C : mx_C p s m args c c_L_found y_L_found.cls w_L_found D tc tb (mx_A a0 G sz) 2 (mx_Ok0 a0 G)) (hr : meth.sig.returnType = (some .int)) (hlk : meth.locks = false) : mx_all (mx_W p l e rm_L_found s m args below meth c (MQ below (mx_Q D tc tb a0 G sz P) args s 0 0 (mx_A a0 G sz)) D tc tb (mx_A a0 G sz) 2 (mx_Ok0 a0 G)) (t_L_found  P) :=
  ⟨mx_s_aload_n C d_L_found_0 rfl,
  mx_s_get (T := T_L) (N := 6) (k := 5) C (fun w h => List.mem_cons_of_mem _ (in_L w h)) rfl (by decide) (List.mem_cons_of_mem _ (mx_in0 (by decide +kernel) rfl)) rfl d_L_found_1,
  mx_s_iload_n C d_L_found_4 rfl,
  mx_s_cv1 C (m_C_countOf l) rfl (cwV 1 C.2.2.2.2.1 (mx_gV (fun w h => List.mem_cons_of_mem _ h) (mx_in0 (by decide +kernel) rfl) (mx_in0 (by decide +kernel) rfl) (mx_in0 (by decide +kernel) rfl) (mx_in0 (by decide +kernel) rfl) (mx_in0 (by decide +kernel) rfl)) rfl rfl rfl (by decide +kernel) ⟨by decide, by decide⟩) d_L_found_5 ⟨Nat.zero_le _, Nat.zero_le _⟩,
  mx_s_iret C hr hlk d_L_found_8,
  trivial⟩
set_option maxRecDepth 20000 in
set_option maxHeartbeats 2000000 in
theorem m_L_found (l : Launch) : mx_M l y_L_found w_L_found rm_L_found sp_L_found := by
  intro D tc tb ad As F P sz0 h
  obtain ⟨a, rfl, h0, h3, h1, hp⟩ := h
  refine mx_run (cc := c_L_found) (maxL := 2) (ret := (some .int)) (tab := t_L_found  P) (by decide) rfl D tc tb ad _ F P sz0 (Nat.le_of_ble_eq_true rfl) (fun p e s m args below meth c C hr hlk => a_L_found  C hr hlk) ?_
  intro Rr go
  have hF := mx_as3 h0 h3 h1
  rw [hF]
  refine go rfl ⟨_, rfl, ?_⟩
  refine go rfl ⟨_, _, _, _, rfl, rfl, rfl, ?_⟩
  refine go rfl ⟨_, rfl, ?_⟩
  refine go rfl ⟨_, _, _, _, rfl, rfl, rfl, rfl, rfl, ⟨a, rfl, rfl, rfl, ?_⟩⟩
  refine go rfl ⟨_, rfl, rfl, rfl, ?_⟩
  rw [← hF]
  exact hp
-- LadderWords$Grid.placeOf(II)I
/-- without words -/
def sp_C_placeOf : mx_Sp := fun As F P => ∃ a b : Int32, As = [mx_r 29, mx_i a, mx_i b] ∧ F 3 = some (e_W 0) ∧ F 29 = some e_C ∧ P (some (mx_i (-1))) F
theorem d_C_placeOf_0 : decode c_C_placeOf 0 = .ok (.aload_n 0, 1) := by decide +kernel
theorem d_C_placeOf_1 : decode c_C_placeOf 1 = .ok (.getfield 15, 3) := by decide +kernel
theorem d_C_placeOf_4 : decode c_C_placeOf 4 = .ok (.iload_n 1, 1) := by decide +kernel
theorem d_C_placeOf_5 : decode c_C_placeOf 5 = .ok (.invokevirtual 23, 3) := by decide +kernel
theorem d_C_placeOf_8 : decode c_C_placeOf 8 = .ok (.ifCond .eq 7, 3) := by decide +kernel
theorem d_C_placeOf_15 : decode c_C_placeOf 15 = .ok (.iconst (-1), 1) := by decide +kernel
theorem d_C_placeOf_16 : decode c_C_placeOf 16 = .ok (.ireturn, 1) := by decide +kernel
abbrev w_C_placeOf : List Cond := mx_ws y_C_placeOf c_C_placeOf 5 (some .int)
abbrev rm_C_placeOf : Room := { frames := 40, cells := 0, slots := 0, locals := 800 }
def t_C_placeOf  (P : Option mx_V → mx_F → Prop) : List (Nat × mx_O) := [
  (0, mx_aload 0 1),
  (1, mx_get 1 0 4),
  (4, mx_iload 1 5),
  (5, mx_cv1 5 sp_W_has 0 0 8),
  (8, mx_if_eq 15 11),
  (15, mx_push (.inl (-1)) 16),
  (16, mx_iret P)]
set_option maxRecDepth 20000 in
theorem a_C_placeOf  {p : Program} {l : Launch} {e : Env} {s : State} {m : MethodId} {args : Array Value} {below : List Frame} {meth : Method} {c : Code} {D : va_G} {tc : Nat → ClassId} {tb : Nat → Nat} {sz : Nat} {a0 : Nat → Nat} {G : mx_F} {P : Option mx_V → mx_F → Prop}  (C : mx_C p s m args c c_C_placeOf y_C_placeOf.cls w_C_placeOf D tc tb (mx_A a0 G sz) 5 (mx_Ok0 a0 G)) (hr : meth.sig.returnType = (some .int)) (hlk : meth.locks = false) : mx_all (mx_W p l e rm_C_placeOf s m args below meth c (MQ below (mx_Q D tc tb a0 G sz P) args s 0 0 (mx_A a0 G sz)) D tc tb (mx_A a0 G sz) 5 (mx_Ok0 a0 G)) (t_C_placeOf  P) :=
  ⟨mx_s_aload_n C d_C_placeOf_0 rfl,
  mx_s_get (T := T_C) (N := 2) (k := 0) C (fun w h => List.mem_cons_of_mem _ (in_C w h)) rfl (by decide) (List.mem_cons_of_mem _ (mx_in0 (by decide +kernel) rfl)) rfl d_C_placeOf_1,
  mx_s_iload_n C d_C_placeOf_4 rfl,
  mx_s_cv1 C (m_W_has l) rfl (cwV 1 C.2.2.2.2.1 (mx_gV (fun w h => List.mem_cons_of_mem _ h) (mx_in0 (by decide +kernel) rfl) (mx_in0 (by decide +kernel) rfl) (mx_in0 (by decide +kernel) rfl) (mx_in0 (by decide +kernel) rfl) (mx_in0 (by decide +kernel) rfl)) rfl rfl rfl (by decide +kernel) ⟨by decide, by decide⟩) d_C_placeOf_5 ⟨Nat.zero_le _, Nat.zero_le _⟩,
  mx_s_if_eq C d_C_placeOf_8 (by decide),
  mx_s_iconst C d_C_placeOf_15 (by decide),
  mx_s_iret C hr hlk d_C_placeOf_16,
  trivial⟩
set_option maxRecDepth 20000 in
set_option maxHeartbeats 2000000 in
theorem m_C_placeOf (l : Launch) : mx_M l y_C_placeOf w_C_placeOf rm_C_placeOf sp_C_placeOf := by
  intro D tc tb ad As F P sz0 h
  obtain ⟨a, b, rfl, h3, h1, hp⟩ := h
  refine mx_run (cc := c_C_placeOf) (maxL := 5) (ret := (some .int)) (tab := t_C_placeOf  P) (by decide) rfl D tc tb ad _ F P sz0 (Nat.le_of_ble_eq_true rfl) (fun p e s m args below meth c C hr hlk => a_C_placeOf  C hr hlk) ?_
  intro Rr go
  have hF := mx_as2 h3 h1
  rw [hF]
  refine go rfl ⟨_, rfl, ?_⟩
  refine go rfl ⟨_, _, _, _, rfl, rfl, rfl, ?_⟩
  refine go rfl ⟨_, rfl, ?_⟩
  refine go rfl ⟨_, _, _, _, rfl, rfl, rfl, rfl, rfl, ⟨0, a, rfl, rfl, fun hc => ?_, fun hc => ?_⟩⟩
  · refine go rfl ⟨_, _, rfl, fun c1 => ?_, fun c1 => ?_⟩
    · refine go rfl ?_
      refine go rfl ⟨_, rfl, rfl, rfl, ?_⟩
      rw [← hF]
      exact hp
    · exact absurd rfl c1
  · exact absurd (Int32.not_lt.mp (fun h => hc (Or.inl h))) (fun h => hc (Or.inr h))
-- LadderWords.where(II)I
def sp_L_where : mx_Sp := fun As F P => ∃ a b : Int32, As = [mx_r 0, mx_i a, mx_i b] ∧ F 0 = some e_L ∧ F 3 = some (e_W 0) ∧ F 29 = some e_C ∧ P (some (mx_i (-1))) F
theorem d_L_where_0 : decode c_L_where 0 = .ok (.aload_n 0, 1) := by decide +kernel
theorem d_L_where_1 : decode c_L_where 1 = .ok (.getfield 49, 3) := by decide +kernel
theorem d_L_where_4 : decode c_L_where 4 = .ok (.iload_n 1, 1) := by decide +kernel
theorem d_L_where_5 : decode c_L_where 5 = .ok (.iload_n 2, 1) := by decide +kernel
theorem d_L_where_6 : decode c_L_where 6 = .ok (.invokevirtual 104, 3) := by decide +kernel
theorem d_L_where_9 : decode c_L_where 9 = .ok (.ireturn, 1) := by decide +kernel
abbrev w_L_where : List Cond := mx_ws y_L_where c_L_where 3 (some .int)
abbrev rm_L_where : Room := { frames := 50, cells := 0, slots := 0, locals := 1000 }
def t_L_where  (P : Option mx_V → mx_F → Prop) : List (Nat × mx_O) := [
  (0, mx_aload 0 1),
  (1, mx_get 6 5 4),
  (4, mx_iload 1 5),
  (5, mx_iload 2 6),
  (6, mx_cv2 1 sp_C_placeOf 0 0 9),
  (9, mx_iret P)]
set_option maxRecDepth 20000 in
theorem a_L_where  {p : Program} {l : Launch} {e : Env} {s : State} {m : MethodId} {args : Array Value} {below : List Frame} {meth : Method} {c : Code} {D : va_G} {tc : Nat → ClassId} {tb : Nat → Nat} {sz : Nat} {a0 : Nat → Nat} {G : mx_F} {P : Option mx_V → mx_F → Prop}  (C : mx_C p s m args c c_L_where y_L_where.cls w_L_where D tc tb (mx_A a0 G sz) 3 (mx_Ok0 a0 G)) (hr : meth.sig.returnType = (some .int)) (hlk : meth.locks = false) : mx_all (mx_W p l e rm_L_where s m args below meth c (MQ below (mx_Q D tc tb a0 G sz P) args s 0 0 (mx_A a0 G sz)) D tc tb (mx_A a0 G sz) 3 (mx_Ok0 a0 G)) (t_L_where  P) :=
  ⟨mx_s_aload_n C d_L_where_0 rfl,
  mx_s_get (T := T_L) (N := 6) (k := 5) C (fun w h => List.mem_cons_of_mem _ (in_L w h)) rfl (by decide) (List.mem_cons_of_mem _ (mx_in0 (by decide +kernel) rfl)) rfl d_L_where_1,
  mx_s_iload_n C d_L_where_4 rfl,
  mx_s_iload_n C d_L_where_5 rfl,
  mx_s_cv2 C (m_C_placeOf l) rfl (cwV 2 C.2.2.2.2.1 (mx_gV (fun w h => List.mem_cons_of_mem _ h) (mx_in0 (by decide +kernel) rfl) (mx_in0 (by decide +kernel) rfl) (mx_in0 (by decide +kernel) rfl) (mx_in0 (by decide +kernel) rfl) (mx_in0 (by decide +kernel) rfl)) rfl rfl rfl (by decide +kernel) ⟨by decide, by decide⟩) d_L_where_6 ⟨Nat.zero_le _, Nat.zero_le _⟩,
  mx_s_iret C hr hlk d_L_where_9,
  trivial⟩
set_option maxRecDepth 20000 in
set_option maxHeartbeats 2000000 in
theorem m_L_where (l : Launch) : mx_M l y_L_where w_L_where rm_L_where sp_L_where := by
  intro D tc tb ad As F P sz0 h
  obtain ⟨a, b, rfl, h0, h3, h1, hp⟩ := h
  refine mx_run (cc := c_L_where) (maxL := 3) (ret := (some .int)) (tab := t_L_where  P) (by decide) rfl D tc tb ad _ F P sz0 (Nat.le_of_ble_eq_true rfl) (fun p e s m args below meth c C hr hlk => a_L_where  C hr hlk) ?_
  intro Rr go
  have hF := mx_as3 h0 h3 h1
  rw [hF]
  refine go rfl ⟨_, rfl, ?_⟩
  refine go rfl ⟨_, _, _, _, rfl, rfl, rfl, ?_⟩
  refine go rfl ⟨_, rfl, ?_⟩
  refine go rfl ⟨_, rfl, ?_⟩
  refine go rfl ⟨_, _, _, _, _, rfl, rfl, rfl, rfl, rfl, ⟨a, b, rfl, rfl, rfl, ?_⟩⟩
  refine go rfl ⟨_, rfl, rfl, rfl, ?_⟩
  rw [← hF]
  exact hp
-- LadderWords$Words.lengthOfAll()I
/-- without words -/
def sp_W_lengthOfAll : mx_Sp := fun As F P => ∃ f : Nat → Int32, As = [mx_r 3] ∧ F 3 = some (e_W 0) ∧ F 5 = some (mx_ia 61 f) ∧ P (some (mx_i (f 0))) F
theorem d_W_lengthOfAll_0 : decode c_W_lengthOfAll 0 = .ok (.aload_n 0, 1) := by decide +kernel
theorem d_W_lengthOfAll_1 : decode c_W_lengthOfAll 1 = .ok (.getfield 15, 3) := by decide +kernel
theorem d_W_lengthOfAll_4 : decode c_W_lengthOfAll 4 = .ok (.aload_n 0, 1) := by decide +kernel
theorem d_W_lengthOfAll_5 : decode c_W_lengthOfAll 5 = .ok (.getfield 18, 3) := by decide +kernel
theorem d_W_lengthOfAll_8 : decode c_W_lengthOfAll 8 = .ok (.iaload, 1) := by decide +kernel
theorem d_W_lengthOfAll_9 : decode c_W_lengthOfAll 9 = .ok (.ireturn, 1) := by decide +kernel
abbrev w_W_lengthOfAll : List Cond := mx_ws y_W_lengthOfAll c_W_lengthOfAll 1 (some .int)
abbrev rm_W_lengthOfAll : Room := { frames := 10, cells := 0, slots := 0, locals := 200 }
def t_W_lengthOfAll  (P : Option mx_V → mx_F → Prop) : List (Nat × mx_O) := [
  (0, mx_aload 0 1),
  (1, mx_get 5 1 4),
  (4, mx_aload 0 5),
  (5, mx_get 5 2 8),
  (8, mx_iald 9),
  (9, mx_iret P)]
set_option maxRecDepth 20000 in
theorem a_W_lengthOfAll  {p : Program} {l : Launch} {e : Env} {s : State} {m : MethodId} {args : Array Value} {below : List Frame} {meth : Method} {c : Code} {D : va_G} {tc : Nat → ClassId} {tb : Nat → Nat} {sz : Nat} {a0 : Nat → Nat} {G : mx_F} {P : Option mx_V → mx_F → Prop}  (C : mx_C p s m args c c_W_lengthOfAll y_W_lengthOfAll.cls w_W_lengthOfAll D tc tb (mx_A a0 G sz) 1 (mx_Ok0 a0 G)) (hr : meth.sig.returnType = (some .int)) (hlk : meth.locks = false) : mx_all (mx_W p l e rm_W_lengthOfAll s m args below meth c (MQ below (mx_Q D tc tb a0 G sz P) args s 0 0 (mx_A a0 G sz)) D tc tb (mx_A a0 G sz) 1 (mx_Ok0 a0 G)) (t_W_lengthOfAll  P) :=
  ⟨mx_s_aload_n C d_W_lengthOfAll_0 rfl,
  mx_s_get (T := T_W) (N := 3) (k := 1) C (fun w h => List.mem_cons_of_mem _ (in_W w h)) rfl (by decide) (List.mem_cons_of_mem _ (mx_in0 (by decide +kernel) rfl)) rfl d_W_lengthOfAll_1,
  mx_s_aload_n C d_W_lengthOfAll_4 rfl,
  mx_s_get (T := T_W) (N := 3) (k := 2) C (fun w h => List.mem_cons_of_mem _ (in_W w h)) rfl (by decide) (List.mem_cons_of_mem _ (mx_in0 (by decide +kernel) rfl)) rfl d_W_lengthOfAll_5,
  mx_s_iald C d_W_lengthOfAll_8,
  mx_s_iret C hr hlk d_W_lengthOfAll_9,
  trivial⟩
set_option maxRecDepth 20000 in
set_option maxHeartbeats 2000000 in
theorem m_W_lengthOfAll (l : Launch) : mx_M l y_W_lengthOfAll w_W_lengthOfAll rm_W_lengthOfAll sp_W_lengthOfAll := by
  intro D tc tb ad As F P sz0 h
  obtain ⟨f, rfl, h1, h2, hp⟩ := h
  refine mx_run (cc := c_W_lengthOfAll) (maxL := 1) (ret := (some .int)) (tab := t_W_lengthOfAll  P) (by decide) rfl D tc tb ad _ F P sz0 (Nat.le_of_ble_eq_true rfl) (fun p e s m args below meth c C hr hlk => a_W_lengthOfAll  C hr hlk) ?_
  intro Rr go
  have hF := mx_as2 h1 h2
  rw [hF]
  refine go rfl ⟨_, rfl, ?_⟩
  refine go rfl ⟨_, _, _, _, rfl, rfl, rfl, ?_⟩
  refine go rfl ⟨_, rfl, ?_⟩
  refine go rfl ⟨_, _, _, _, rfl, rfl, rfl, ?_⟩
  refine go rfl ⟨_, _, _, _, _, rfl, rfl, (vp_in_nI (by decide) (by decide)), ?_⟩
  refine go rfl ⟨_, rfl, rfl, rfl, ?_⟩
  rw [← hF]
  exact hp
-- LadderWords$Grid.fillEmpty(J)I
def sp_C_fillEmpty : mx_Sp := fun As F P => ∃ (f : Nat → Int32) (x : Int64), As = [mx_r 29, mx_l x] ∧ F 3 = some (e_W 0) ∧ F 5 = some (mx_ia 61 f) ∧ F 29 = some e_C ∧ f 0 = 0 ∧ P (some (mx_i (-1))) F
theorem d_C_fillEmpty_0 : decode c_C_fillEmpty 0 = .ok (.aload_n 0, 1) := by decide +kernel
theorem d_C_fillEmpty_1 : decode c_C_fillEmpty 1 = .ok (.getfield 15, 3) := by decide +kernel
theorem d_C_fillEmpty_4 : decode c_C_fillEmpty 4 = .ok (.invokevirtual 51, 3) := by decide +kernel
theorem d_C_fillEmpty_7 : decode c_C_fillEmpty 7 = .ok (.istore_n 3, 1) := by decide +kernel
theorem d_C_fillEmpty_8 : decode c_C_fillEmpty 8 = .ok (.iload_n 3, 1) := by decide +kernel
theorem d_C_fillEmpty_9 : decode c_C_fillEmpty 9 = .ok (.ifCond .gt 5, 3) := by decide +kernel
theorem d_C_fillEmpty_12 : decode c_C_fillEmpty 12 = .ok (.iconst (-1), 1) := by decide +kernel
theorem d_C_fillEmpty_13 : decode c_C_fillEmpty 13 = .ok (.ireturn, 1) := by decide +kernel
abbrev w_C_fillEmpty : List Cond := mx_ws y_C_fillEmpty c_C_fillEmpty 8 (some .int)
abbrev rm_C_fillEmpty : Room := { frames := 30, cells := 0, slots := 0, locals := 600 }
def t_C_fillEmpty  (P : Option mx_V → mx_F → Prop) : List (Nat × mx_O) := [
  (0, mx_aload 0 1),
  (1, mx_get 1 0 4),
  (4, mx_cv0 5 sp_W_lengthOfAll 0 0 7),
  (7, mx_istore 3 8),
  (8, mx_iload 3 9),
  (9, mx_if_gt 14 12),
  (12, mx_push (.inl (-1)) 13),
  (13, mx_iret P)]
set_option maxRecDepth 20000 in
theorem a_C_fillEmpty  {p : Program} {l : Launch} {e : Env} {s : State} {m : MethodId} {args : Array Value} {below : List Frame} {meth : Method} {c : Code} {D : va_G} {tc : Nat → ClassId} {tb : Nat → Nat} {sz : Nat} {a0 : Nat → Nat} {G : mx_F} {P : Option mx_V → mx_F → Prop}  (C : mx_C p s m args c c_C_fillEmpty y_C_fillEmpty.cls w_C_fillEmpty D tc tb (mx_A a0 G sz) 8 (mx_Ok0 a0 G)) (hr : meth.sig.returnType = (some .int)) (hlk : meth.locks = false) : mx_all (mx_W p l e rm_C_fillEmpty s m args below meth c (MQ below (mx_Q D tc tb a0 G sz P) args s 0 0 (mx_A a0 G sz)) D tc tb (mx_A a0 G sz) 8 (mx_Ok0 a0 G)) (t_C_fillEmpty  P) :=
  ⟨mx_s_aload_n C d_C_fillEmpty_0 rfl,
  mx_s_get (T := T_C) (N := 2) (k := 0) C (fun w h => List.mem_cons_of_mem _ (in_C w h)) rfl (by decide) (List.mem_cons_of_mem _ (mx_in0 (by decide +kernel) rfl)) rfl d_C_fillEmpty_1,
  mx_s_cv0 C (m_W_lengthOfAll l) rfl (cwV 0 C.2.2.2.2.1 (mx_gV (fun w h => List.mem_cons_of_mem _ h) (mx_in0 (by decide +kernel) rfl) (mx_in0 (by decide +kernel) rfl) (mx_in0 (by decide +kernel) rfl) (mx_in0 (by decide +kernel) rfl) (mx_in0 (by decide +kernel) rfl)) rfl rfl rfl (by decide +kernel) ⟨by decide, by decide⟩) d_C_fillEmpty_4 ⟨Nat.zero_le _, Nat.zero_le _⟩,
  mx_s_istore_n C d_C_fillEmpty_7 rfl (by decide),
  mx_s_iload_n C d_C_fillEmpty_8 rfl,
  mx_s_if_gt C d_C_fillEmpty_9 (by decide),
  mx_s_iconst C d_C_fillEmpty_12 (by decide),
  mx_s_iret C hr hlk d_C_fillEmpty_13,
  trivial⟩
set_option maxRecDepth 20000 in
set_option maxHeartbeats 2000000 in
theorem m_C_fillEmpty (l : Launch) : mx_M l y_C_fillEmpty w_C_fillEmpty rm_C_fillEmpty sp_C_fillEmpty := by
  intro D tc tb ad As F P sz0 h
  obtain ⟨f, x, rfl, h3, h5, h1, h0, hp⟩ := h
  refine mx_run (cc := c_C_fillEmpty) (maxL := 8) (ret := (some .int)) (tab := t_C_fillEmpty  P) (by decide) rfl D tc tb ad _ F P sz0 (Nat.le_of_ble_eq_true rfl) (fun p e s m args below meth c C hr hlk => a_C_fillEmpty  C hr hlk) ?_
  intro Rr go
  have hF := mx_as3 h3 h5 h1
  rw [hF]
  refine go rfl ⟨_, rfl, ?_⟩
  refine go rfl ⟨_, _, _, _, rfl, rfl, rfl, ?_⟩
  refine go rfl ⟨_, _, _, rfl, rfl, rfl, rfl, rfl, ⟨f, rfl, rfl, rfl, ?_⟩⟩
  rw [h0]
  refine go rfl ⟨_, _, rfl, ?_⟩
  refine go rfl ⟨_, rfl, ?_⟩
  refine go rfl ⟨_, _, rfl, fun c1 => ?_, fun c1 => ?_⟩
  · exact absurd c1 (by decide)
  refine go rfl ?_
  refine go rfl ⟨_, rfl, rfl, rfl, ?_⟩
  rw [← hF]
  exact hp
-- LadderWords.fill(J)I
def sp_L_fill : mx_Sp := fun As F P => ∃ (f : Nat → Int32) (x : Int64), As = [mx_r 0, mx_l x] ∧ F 0 = some e_L ∧ F 3 = some (e_W 0) ∧ F 5 = some (mx_ia 61 f) ∧ F 29 = some e_C ∧ f 0 = 0 ∧ P (some (mx_i (-1))) F
theorem d_L_fill_0 : decode c_L_fill 0 = .ok (.aload_n 0, 1) := by decide +kernel
theorem d_L_fill_1 : decode c_L_fill 1 = .ok (.getfield 49, 3) := by decide +kernel
theorem d_L_fill_4 : decode c_L_fill 4 = .ok (.lload_n 1, 1) := by decide +kernel
theorem d_L_fill_5 : decode c_L_fill 5 = .ok (.invokevirtual 94, 3) := by decide +kernel
theorem d_L_fill_8 : decode c_L_fill 8 = .ok (.ireturn, 1) := by decide +kernel
abbrev w_L_fill : List Cond := mx_ws y_L_fill c_L_fill 3 (some .int)
abbrev rm_L_fill : Room := { frames := 40, cells := 0, slots := 0, locals := 800 }
def t_L_fill  (P : Option mx_V → mx_F → Prop) : List (Nat × mx_O) := [
  (0, mx_aload 0 1),
  (1, mx_get 6 5 4),
  (4, mx_lload 1 5),
  (5, mx_cv1 1 sp_C_fillEmpty 0 0 8),
  (8, mx_iret P)]
set_option maxRecDepth 20000 in
theorem a_L_fill  {p : Program} {l : Launch} {e : Env} {s : State} {m : MethodId} {args : Array Value} {below : List Frame} {meth : Method} {c : Code} {D : va_G} {tc : Nat → ClassId} {tb : Nat → Nat} {sz : Nat} {a0 : Nat → Nat} {G : mx_F} {P : Option mx_V → mx_F → Prop}  (C : mx_C p s m args c c_L_fill y_L_fill.cls w_L_fill D tc tb (mx_A a0 G sz) 3 (mx_Ok0 a0 G)) (hr : meth.sig.returnType = (some .int)) (hlk : meth.locks = false) : mx_all (mx_W p l e rm_L_fill s m args below meth c (MQ below (mx_Q D tc tb a0 G sz P) args s 0 0 (mx_A a0 G sz)) D tc tb (mx_A a0 G sz) 3 (mx_Ok0 a0 G)) (t_L_fill  P) :=
  ⟨mx_s_aload_n C d_L_fill_0 rfl,
  mx_s_get (T := T_L) (N := 6) (k := 5) C (fun w h => List.mem_cons_of_mem _ (in_L w h)) rfl (by decide) (List.mem_cons_of_mem _ (mx_in0 (by decide +kernel) rfl)) rfl d_L_fill_1,
  mx_s_lload_n C d_L_fill_4 rfl,
  mx_s_cv1 C (m_C_fillEmpty l) rfl (cwV 1 C.2.2.2.2.1 (mx_gV (fun w h => List.mem_cons_of_mem _ h) (mx_in0 (by decide +kernel) rfl) (mx_in0 (by decide +kernel) rfl) (mx_in0 (by decide +kernel) rfl) (mx_in0 (by decide +kernel) rfl) (mx_in0 (by decide +kernel) rfl)) rfl rfl rfl (by decide +kernel) ⟨by decide, by decide⟩) d_L_fill_5 ⟨Nat.zero_le _, Nat.zero_le _⟩,
  mx_s_iret C hr hlk d_L_fill_8,
  trivial⟩
set_option maxRecDepth 20000 in
set_option maxHeartbeats 2000000 in
theorem m_L_fill (l : Launch) : mx_M l y_L_fill w_L_fill rm_L_fill sp_L_fill := by
  intro D tc tb ad As F P sz0 h
  obtain ⟨f, x, rfl, h00, h3, h5, h1, h0, hp⟩ := h
  refine mx_run (cc := c_L_fill) (maxL := 3) (ret := (some .int)) (tab := t_L_fill  P) (by decide) rfl D tc tb ad _ F P sz0 (Nat.le_of_ble_eq_true rfl) (fun p e s m args below meth c C hr hlk => a_L_fill  C hr hlk) ?_
  intro Rr go
  have hF := mx_as4 h00 h3 h5 h1
  rw [hF]
  refine go rfl ⟨_, rfl, ?_⟩
  refine go rfl ⟨_, _, _, _, rfl, rfl, rfl, ?_⟩
  refine go rfl ⟨_, rfl, ?_⟩
  refine go rfl ⟨_, _, _, _, rfl, rfl, rfl, rfl, rfl, ⟨f, x, rfl, rfl, rfl, rfl, h0, ?_⟩⟩
  refine go rfl ⟨_, rfl, rfl, rfl, ?_⟩
  rw [← hF]
  exact hp
end
section
-- LadderWords$Grid.clear()V
def sp_C_clear : mx_Sp := fun As F P => ∃ f : Nat → Int32, As = [mx_r 29] ∧ F 29 = some e_C ∧ F 30 = some (mx_ia 64 f) ∧ ∀ f', P none (mx_put F 30 (mx_ia 64 f'))
theorem d_C_clear_0 : decode c_C_clear 0 = .ok (.iconst 0, 1) := by decide +kernel
theorem d_C_clear_1 : decode c_C_clear 1 = .ok (.istore_n 1, 1) := by decide +kernel
theorem d_C_clear_2 : decode c_C_clear 2 = .ok (.iload_n 1, 1) := by decide +kernel
theorem d_C_clear_3 : decode c_C_clear 3 = .ok (.aload_n 0, 1) := by decide +kernel
theorem d_C_clear_4 : decode c_C_clear 4 = .ok (.getfield 11, 3) := by decide +kernel
theorem d_C_clear_7 : decode c_C_clear 7 = .ok (.arraylength, 1) := by decide +kernel
theorem d_C_clear_8 : decode c_C_clear 8 = .ok (.if_icmp .ge 16, 3) := by decide +kernel
theorem d_C_clear_11 : decode c_C_clear 11 = .ok (.aload_n 0, 1) := by decide +kernel
theorem d_C_clear_12 : decode c_C_clear 12 = .ok (.getfield 11, 3) := by decide +kernel
theorem d_C_clear_15 : decode c_C_clear 15 = .ok (.iload_n 1, 1) := by decide +kernel
theorem d_C_clear_16 : decode c_C_clear 16 = .ok (.iconst 0, 1) := by decide +kernel
theorem d_C_clear_17 : decode c_C_clear 17 = .ok (.iastore, 1) := by decide +kernel
theorem d_C_clear_18 : decode c_C_clear 18 = .ok (.iinc 1 1, 3) := by decide +kernel
theorem d_C_clear_21 : decode c_C_clear 21 = .ok (.goto (-19), 3) := by decide +kernel
theorem d_C_clear_24 : decode c_C_clear 24 = .ok (.return_, 1) := by decide +kernel
abbrev w_C_clear : List Cond := mx_ws y_C_clear c_C_clear 2 none
abbrev rm_C_clear : Room := { frames := 10, cells := 0, slots := 0, locals := 200 }
def t_C_clear  (P : Option mx_V → mx_F → Prop) : List (Nat × mx_O) := [
  (0, mx_push (.inl (nI 0)) 1),
  (1, mx_istore 1 2),
  (2, mx_iload 1 3),
  (3, mx_aload 0 4),
  (4, mx_get 1 1 7),
  (7, mx_alen 8),
  (8, mx_ic_ge 24 11),
  (11, mx_aload 0 12),
  (12, mx_get 1 1 15),
  (15, mx_iload 1 16),
  (16, mx_push (.inl (nI 0)) 17),
  (17, mx_iast 18),
  (18, mx_iinc 1 (nI 1) 21),
  (21, mx_goto 2),
  (24, mx_ret P)]
set_option maxRecDepth 20000 in
theorem a_C_clear  {p : Program} {l : Launch} {e : Env} {s : State} {m : MethodId} {args : Array Value} {below : List Frame} {meth : Method} {c : Code} {D : va_G} {tc : Nat → ClassId} {tb : Nat → Nat} {sz : Nat} {a0 : Nat → Nat} {G : mx_F} {P : Option mx_V → mx_F → Prop}  (C : mx_C p s m args c c_C_clear y_C_clear.cls w_C_clear D tc tb (mx_A a0 G sz) 2 (mx_Ok0 a0 G)) (hr : meth.sig.returnType = none) (hlk : meth.locks = false) : mx_all (mx_W p l e rm_C_clear s m args below meth c (MQ below (mx_Q D tc tb a0 G sz P) args s 0 0 (mx_A a0 G sz)) D tc tb (mx_A a0 G sz) 2 (mx_Ok0 a0 G)) (t_C_clear  P) :=
  ⟨mx_s_iconst C d_C_clear_0 (by decide),
  mx_s_istore_n C d_C_clear_1 rfl (by decide),
  mx_s_iload_n C d_C_clear_2 rfl,
  mx_s_aload_n C d_C_clear_3 rfl,
  mx_s_get (T := T_C) (N := 2) (k := 1) C (fun w h => List.mem_cons_of_mem _ (in_C w h)) rfl (by decide) (List.mem_cons_of_mem _ (mx_in0 (by decide +kernel) rfl)) rfl d_C_clear_4,
  mx_s_alen C d_C_clear_7,
  mx_s_ic_ge C d_C_clear_8 (by decide),
  mx_s_aload_n C d_C_clear_11 rfl,
  mx_s_get (T := T_C) (N := 2) (k := 1) C (fun w h => List.mem_cons_of_mem _ (in_C w h)) rfl (by decide) (List.mem_cons_of_mem _ (mx_in0 (by decide +kernel) rfl)) rfl d_C_clear_12,
  mx_s_iload_n C d_C_clear_15 rfl,
  mx_s_iconst C d_C_clear_16 (by decide),
  mx_s_iast C d_C_clear_17,
  mx_s_iinc C d_C_clear_18 (by decide) (by decide),
  mx_s_goto C d_C_clear_21 (by decide),
  mx_s_ret C hr hlk d_C_clear_24,
  trivial⟩
set_option maxRecDepth 20000 in
set_option maxHeartbeats 2000000 in
theorem m_C_clear (l : Launch) : mx_M l y_C_clear w_C_clear rm_C_clear sp_C_clear := by
  intro D tc tb ad As F P sz0 h
  obtain ⟨f, rfl, h1, h2, hp⟩ := h
  refine mx_run (cc := c_C_clear) (maxL := 2) (ret := none) (tab := t_C_clear  P) (by decide) rfl D tc tb ad _ F P sz0 (Nat.le_of_ble_eq_true rfl) (fun p e s m args below meth c C hr hlk => a_C_clear  C hr hlk) ?_
  intro Rr go
  have hF := mx_as2 h1 h2
  rw [hF]
  have loop : ∀ (k i : Nat) (f : Nat → Int32), i + k = 64 → Rr 2 [some (mx_r 29), some (mx_i (nI i))] [] (mx_put (mx_put F 29 e_C) 30 (mx_ia 64 f)) 0 0 := by
    intro k
    induction k with
    | zero =>
      intro i f hi
      refine go rfl ⟨_, rfl, ?_⟩
      refine go rfl ⟨_, rfl, ?_⟩
      refine go rfl ⟨_, _, _, _, rfl, rfl, rfl, ?_⟩
      refine go rfl ⟨_, _, _, _, rfl, rfl, ?_⟩
      refine go rfl ⟨_, _, _, rfl, fun c => ?_, fun c => ?_⟩
      · refine go rfl ⟨rfl, rfl, rfl, ?_⟩
        rw [mx_self h1]
        exact hp f
      · exact absurd (nI_le (by omega) (by omega)) c
    | succ k ih =>
      intro i f hi
      refine go rfl ⟨_, rfl, ?_⟩
      refine go rfl ⟨_, rfl, ?_⟩
      refine go rfl ⟨_, _, _, _, rfl, rfl, rfl, ?_⟩
      refine go rfl ⟨_, _, _, _, rfl, rfl, ?_⟩
      refine go rfl ⟨_, _, _, rfl, fun c => ?_, fun c => ?_⟩
      · exact absurd ((nI_leI (by omega) (by omega)).mp c) (by omega)
      · refine go rfl ⟨_, rfl, ?_⟩
        refine go rfl ⟨_, _, _, _, rfl, rfl, rfl, ?_⟩
        refine go rfl ⟨_, rfl, ?_⟩
        refine go rfl ?_
        refine go rfl ⟨_, _, _, _, _, _, rfl, rfl, (vp_in_nI (by omega) (by omega)), ?_⟩
        rw [mx_pp]
        refine go rfl ⟨_, rfl, ?_⟩
        refine go rfl ?_
        rw [nI_add]
        exact ih (i + 1) _ (by omega)
  refine go rfl ?_
  refine go rfl ⟨_, _, rfl, ?_⟩
  exact loop 64 0 f rfl
-- LadderWords.wipe()V
def sp_L_wipe : mx_Sp := fun As F P => ∃ f : Nat → Int32, As = [mx_r 0] ∧ F 0 = some e_L ∧ F 29 = some e_C ∧ F 30 = some (mx_ia 64 f) ∧ ∀ f', P none (mx_put F 30 (mx_ia 64 f'))
theorem d_L_wipe_0 : decode c_L_wipe 0 = .ok (.aload_n 0, 1) := by decide +kernel
theorem d_L_wipe_1 : decode c_L_wipe 1 = .ok (.getfield 49, 3) := by decide +kernel
theorem d_L_wipe_4 : decode c_L_wipe 4 = .ok (.invokevirtual 107, 3) := by decide +kernel
theorem d_L_wipe_7 : decode c_L_wipe 7 = .ok (.return_, 1) := by decide +kernel
abbrev w_L_wipe : List Cond := mx_ws y_L_wipe c_L_wipe 1 none
abbrev rm_L_wipe : Room := { frames := 20, cells := 0, slots := 0, locals := 400 }
def t_L_wipe  (P : Option mx_V → mx_F → Prop) : List (Nat × mx_O) := [
  (0, mx_aload 0 1),
  (1, mx_get 6 5 4),
  (4, mx_cv0 1 sp_C_clear 0 0 7),
  (7, mx_ret P)]
set_option maxRecDepth 20000 in
theorem a_L_wipe  {p : Program} {l : Launch} {e : Env} {s : State} {m : MethodId} {args : Array Value} {below : List Frame} {meth : Method} {c : Code} {D : va_G} {tc : Nat → ClassId} {tb : Nat → Nat} {sz : Nat} {a0 : Nat → Nat} {G : mx_F} {P : Option mx_V → mx_F → Prop}  (C : mx_C p s m args c c_L_wipe y_L_wipe.cls w_L_wipe D tc tb (mx_A a0 G sz) 1 (mx_Ok0 a0 G)) (hr : meth.sig.returnType = none) (hlk : meth.locks = false) : mx_all (mx_W p l e rm_L_wipe s m args below meth c (MQ below (mx_Q D tc tb a0 G sz P) args s 0 0 (mx_A a0 G sz)) D tc tb (mx_A a0 G sz) 1 (mx_Ok0 a0 G)) (t_L_wipe  P) :=
  ⟨mx_s_aload_n C d_L_wipe_0 rfl,
  mx_s_get (T := T_L) (N := 6) (k := 5) C (fun w h => List.mem_cons_of_mem _ (in_L w h)) rfl (by decide) (List.mem_cons_of_mem _ (mx_in0 (by decide +kernel) rfl)) rfl d_L_wipe_1,
  mx_s_cv0 C (m_C_clear l) rfl (cwV 0 C.2.2.2.2.1 (mx_gV (fun w h => List.mem_cons_of_mem _ h) (mx_in0 (by decide +kernel) rfl) (mx_in0 (by decide +kernel) rfl) (mx_in0 (by decide +kernel) rfl) (mx_in0 (by decide +kernel) rfl) (mx_in0 (by decide +kernel) rfl)) rfl rfl rfl (by decide +kernel) ⟨by decide, by decide⟩) d_L_wipe_4 ⟨Nat.zero_le _, Nat.zero_le _⟩,
  mx_s_ret C hr hlk d_L_wipe_7,
  trivial⟩
set_option maxRecDepth 20000 in
set_option maxHeartbeats 2000000 in
theorem m_L_wipe (l : Launch) : mx_M l y_L_wipe w_L_wipe rm_L_wipe sp_L_wipe := by
  intro D tc tb ad As F P sz0 h
  obtain ⟨f, rfl, h0, h1, h2, hp⟩ := h
  refine mx_run (cc := c_L_wipe) (maxL := 1) (ret := none) (tab := t_L_wipe  P) (by decide) rfl D tc tb ad _ F P sz0 (Nat.le_of_ble_eq_true rfl) (fun p e s m args below meth c C hr hlk => a_L_wipe  C hr hlk) ?_
  intro Rr go
  have hF := mx_as3 h0 h1 h2
  rw [hF]
  refine go rfl ⟨_, rfl, ?_⟩
  refine go rfl ⟨_, _, _, _, rfl, rfl, rfl, ?_⟩
  refine go rfl ⟨_, _, _, rfl, rfl, rfl, rfl, rfl, ⟨f, rfl, rfl, rfl, fun f' => ?_⟩⟩
  refine go rfl ⟨rfl, rfl, rfl, ?_⟩
  rw [← hF]
  exact hp f'
-- LadderWords$Gatherings.heapOfRow(LLadderWords$Row;)J
/-- the row is empty -/
def sp_G_heapOfRow : mx_Sp := fun As F P => As = [mx_r 1] ∧ F 1 = some (e_R 0) ∧ P (some (mx_l 0)) F
theorem d_G_heapOfRow_0 : decode c_G_heapOfRow 0 = .ok (.lconst 0, 1) := by decide +kernel
theorem d_G_heapOfRow_1 : decode c_G_heapOfRow 1 = .ok (.lstore_n 1, 1) := by decide +kernel
theorem d_G_heapOfRow_2 : decode c_G_heapOfRow 2 = .ok (.iconst 0, 1) := by decide +kernel
theorem d_G_heapOfRow_3 : decode c_G_heapOfRow 3 = .ok (.istore_n 3, 1) := by decide +kernel
theorem d_G_heapOfRow_4 : decode c_G_heapOfRow 4 = .ok (.iload_n 3, 1) := by decide +kernel
theorem d_G_heapOfRow_5 : decode c_G_heapOfRow 5 = .ok (.aload_n 0, 1) := by decide +kernel
theorem d_G_heapOfRow_6 : decode c_G_heapOfRow 6 = .ok (.invokevirtual 57, 3) := by decide +kernel
theorem d_G_heapOfRow_9 : decode c_G_heapOfRow 9 = .ok (.if_icmp .ge 24, 3) := by decide +kernel
theorem d_G_heapOfRow_33 : decode c_G_heapOfRow 33 = .ok (.lload_n 1, 1) := by decide +kernel
theorem d_G_heapOfRow_34 : decode c_G_heapOfRow 34 = .ok (.lreturn, 1) := by decide +kernel
abbrev w_G_heapOfRow : List Cond := mx_ws y_G_heapOfRow c_G_heapOfRow 4 (some .long)
abbrev rm_G_heapOfRow : Room := { frames := 20, cells := 0, slots := 0, locals := 400 }
def t_G_heapOfRow  (P : Option mx_V → mx_F → Prop) : List (Nat × mx_O) := [
  (0, mx_push (.inr (.inl 0)) 1),
  (1, mx_lstore 1 2),
  (2, mx_push (.inl (nI 0)) 3),
  (3, mx_istore 3 4),
  (4, mx_iload 3 5),
  (5, mx_aload 0 6),
  (6, mx_cv0 3 sp_R_length 0 0 9),
  (9, mx_ic_ge 33 12),
  (33, mx_lload 1 34),
  (34, mx_lret P)]
set_option maxRecDepth 20000 in
theorem a_G_heapOfRow  {p : Program} {l : Launch} {e : Env} {s : State} {m : MethodId} {args : Array Value} {below : List Frame} {meth : Method} {c : Code} {D : va_G} {tc : Nat → ClassId} {tb : Nat → Nat} {sz : Nat} {a0 : Nat → Nat} {G : mx_F} {P : Option mx_V → mx_F → Prop}  (C : mx_C p s m args c c_G_heapOfRow y_G_heapOfRow.cls w_G_heapOfRow D tc tb (mx_A a0 G sz) 4 (mx_Ok0 a0 G)) (hr : meth.sig.returnType = (some .long)) (hlk : meth.locks = false) : mx_all (mx_W p l e rm_G_heapOfRow s m args below meth c (MQ below (mx_Q D tc tb a0 G sz P) args s 0 0 (mx_A a0 G sz)) D tc tb (mx_A a0 G sz) 4 (mx_Ok0 a0 G)) (t_G_heapOfRow  P) :=
  ⟨mx_s_lconst C d_G_heapOfRow_0 (by decide),
  mx_s_lstore_n C d_G_heapOfRow_1 rfl (by decide),
  mx_s_iconst C d_G_heapOfRow_2 (by decide),
  mx_s_istore_n C d_G_heapOfRow_3 rfl (by decide),
  mx_s_iload_n C d_G_heapOfRow_4 rfl,
  mx_s_aload_n C d_G_heapOfRow_5 rfl,
  mx_s_cv0 C (m_R_length l) rfl (cwV 0 C.2.2.2.2.1 (mx_gV (fun w h => List.mem_cons_of_mem _ h) (mx_in0 (by decide +kernel) rfl) (mx_in0 (by decide +kernel) rfl) (mx_in0 (by decide +kernel) rfl) (mx_in0 (by decide +kernel) rfl) (mx_in0 (by decide +kernel) rfl)) rfl rfl rfl (by decide +kernel) ⟨by decide, by decide⟩) d_G_heapOfRow_6 ⟨Nat.zero_le _, Nat.zero_le _⟩,
  mx_s_ic_ge C d_G_heapOfRow_9 (by decide),
  mx_s_lload_n C d_G_heapOfRow_33 rfl,
  mx_s_lret C hr hlk d_G_heapOfRow_34,
  trivial⟩
set_option maxRecDepth 20000 in
set_option maxHeartbeats 2000000 in
theorem m_G_heapOfRow (l : Launch) : mx_M l y_G_heapOfRow w_G_heapOfRow rm_G_heapOfRow sp_G_heapOfRow := by
  intro D tc tb ad As F P sz0 h
  obtain ⟨rfl, h1, hp⟩ := h
  refine mx_run (cc := c_G_heapOfRow) (maxL := 4) (ret := (some .long)) (tab := t_G_heapOfRow  P) (by decide) rfl D tc tb ad _ F P sz0 (Nat.le_of_ble_eq_true rfl) (fun p e s m args below meth c C hr hlk => a_G_heapOfRow  C hr hlk) ?_
  intro Rr go
  have hF := mx_as1 h1
  rw [hF]
  refine go rfl ?_
  refine go rfl ⟨_, _, rfl, ?_⟩
  refine go rfl ?_
  refine go rfl ⟨_, _, rfl, ?_⟩
  refine go rfl ⟨_, rfl, ?_⟩
  refine go rfl ⟨_, rfl, ?_⟩
  refine go rfl ⟨_, _, _, rfl, rfl, rfl, rfl, rfl, ⟨0, rfl, rfl, ?_⟩⟩
  refine go rfl ⟨_, _, _, rfl, fun c => ?_, fun c => ?_⟩
  · refine go rfl ⟨_, rfl, ?_⟩
    refine go rfl ⟨_, rfl, rfl, rfl, ?_⟩
    rw [← hF]
    exact hp
  · exact absurd (nI_le (Nat.le_refl _) (by decide)) c
-- LadderWords$Gatherings.listFitting(LLadderWords$Row;J)V
/-- without words -/
def sp_G_listFitting : mx_Sp := fun As F P => ∃ (fc kc tot wt : Int32) (x : Int64), As = [mx_r 10, mx_r 1, mx_l x] ∧ F 3 = some (e_W 0) ∧ F 10 = some (e_G fc kc tot wt) ∧ P none (mx_put F 10 (e_G (nI 0) kc tot wt))
theorem d_G_listFitting_0 : decode c_G_listFitting 0 = .ok (.aload_n 0, 1) := by decide +kernel
theorem d_G_listFitting_1 : decode c_G_listFitting 1 = .ok (.iconst 0, 1) := by decide +kernel
theorem d_G_listFitting_2 : decode c_G_listFitting 2 = .ok (.putfield 75, 3) := by decide +kernel
theorem d_G_listFitting_5 : decode c_G_listFitting 5 = .ok (.iconst 0, 1) := by decide +kernel
theorem d_G_listFitting_6 : decode c_G_listFitting 6 = .ok (.istore 4, 2) := by decide +kernel
theorem d_G_listFitting_8 : decode c_G_listFitting 8 = .ok (.iload 4, 2) := by decide +kernel
theorem d_G_listFitting_10 : decode c_G_listFitting 10 = .ok (.aload_n 0, 1) := by decide +kernel
theorem d_G_listFitting_11 : decode c_G_listFitting 11 = .ok (.getfield 25, 3) := by decide +kernel
theorem d_G_listFitting_14 : decode c_G_listFitting 14 = .ok (.invokevirtual 36, 3) := by decide +kernel
theorem d_G_listFitting_17 : decode c_G_listFitting 17 = .ok (.if_icmp .ge 68, 3) := by decide +kernel
theorem d_G_listFitting_85 : decode c_G_listFitting 85 = .ok (.return_, 1) := by decide +kernel
abbrev w_G_listFitting : List Cond := mx_ws y_G_listFitting c_G_listFitting 7 none
abbrev rm_G_listFitting : Room := { frames := 30, cells := 0, slots := 0, locals := 600 }
def t_G_listFitting  (P : Option mx_V → mx_F → Prop) : List (Nat × mx_O) := [
  (0, mx_aload 0 1),
  (1, mx_push (.inl (nI 0)) 2),
  (2, mx_puti 0 3 5),
  (5, mx_push (.inl (nI 0)) 6),
  (6, mx_istore 4 8),
  (8, mx_iload 4 10),
  (10, mx_aload 0 11),
  (11, mx_get 0 0 14),
  (14, mx_cv0 5 sp_W_count 0 0 17),
  (17, mx_ic_ge 85 20),
  (85, mx_ret P)]
set_option maxRecDepth 20000 in
theorem a_G_listFitting  {p : Program} {l : Launch} {e : Env} {s : State} {m : MethodId} {args : Array Value} {below : List Frame} {meth : Method} {c : Code} {D : va_G} {tc : Nat → ClassId} {tb : Nat → Nat} {sz : Nat} {a0 : Nat → Nat} {G : mx_F} {P : Option mx_V → mx_F → Prop}  (C : mx_C p s m args c c_G_listFitting y_G_listFitting.cls w_G_listFitting D tc tb (mx_A a0 G sz) 7 (mx_Ok0 a0 G)) (hr : meth.sig.returnType = none) (hlk : meth.locks = false) : mx_all (mx_W p l e rm_G_listFitting s m args below meth c (MQ below (mx_Q D tc tb a0 G sz P) args s 0 0 (mx_A a0 G sz)) D tc tb (mx_A a0 G sz) 7 (mx_Ok0 a0 G)) (t_G_listFitting  P) :=
  ⟨mx_s_aload_n C d_G_listFitting_0 rfl,
  mx_s_iconst C d_G_listFitting_1 (by decide),
  mx_s_puti (T := T_G) (N := 9) (k := 3) C (fun w h => List.mem_cons_of_mem _ (in_G w h)) rfl ty_G ok_G nm_G (by decide) (List.mem_cons_of_mem _ (mx_in0 (by decide +kernel) rfl)) rfl rfl (ok_G 3 (by decide)) d_G_listFitting_2,
  mx_s_iconst C d_G_listFitting_5 (by decide),
  mx_s_istore C d_G_listFitting_6 (by decide),
  mx_s_iload C d_G_listFitting_8,
  mx_s_aload_n C d_G_listFitting_10 rfl,
  mx_s_get (T := T_G) (N := 9) (k := 0) C (fun w h => List.mem_cons_of_mem _ (in_G w h)) rfl (by decide) (List.mem_cons_of_mem _ (mx_in0 (by decide +kernel) rfl)) rfl d_G_listFitting_11,
  mx_s_cv0 C (m_W_count l) rfl (cwV 0 C.2.2.2.2.1 (mx_gV (fun w h => List.mem_cons_of_mem _ h) (mx_in0 (by decide +kernel) rfl) (mx_in0 (by decide +kernel) rfl) (mx_in0 (by decide +kernel) rfl) (mx_in0 (by decide +kernel) rfl) (mx_in0 (by decide +kernel) rfl)) rfl rfl rfl (by decide +kernel) ⟨by decide, by decide⟩) d_G_listFitting_14 ⟨Nat.zero_le _, Nat.zero_le _⟩,
  mx_s_ic_ge C d_G_listFitting_17 (by decide),
  mx_s_ret C hr hlk d_G_listFitting_85,
  trivial⟩
set_option maxRecDepth 20000 in
set_option maxHeartbeats 2000000 in
theorem m_G_listFitting (l : Launch) : mx_M l y_G_listFitting w_G_listFitting rm_G_listFitting sp_G_listFitting := by
  intro D tc tb ad As F P sz0 h
  obtain ⟨fc, kc, tot, wt, x, rfl, h3, h1, hp⟩ := h
  refine mx_run (cc := c_G_listFitting) (maxL := 7) (ret := none) (tab := t_G_listFitting  P) (by decide) rfl D tc tb ad _ F P sz0 (Nat.le_of_ble_eq_true rfl) (fun p e s m args below meth c C hr hlk => a_G_listFitting  C hr hlk) ?_
  intro Rr go
  have hF := mx_as2 h3 h1
  rw [hF]
  refine go rfl ⟨_, rfl, ?_⟩
  refine go rfl ?_
  refine go rfl ⟨_, _, _, _, rfl, rfl, (Nat.le_of_ble_eq_true rfl), ?_⟩
  refine go rfl ?_
  refine go rfl ⟨_, _, rfl, ?_⟩
  refine go rfl ⟨_, rfl, ?_⟩
  refine go rfl ⟨_, rfl, ?_⟩
  refine go rfl ⟨_, _, _, _, rfl, rfl, rfl, ?_⟩
  refine go rfl ⟨_, _, _, rfl, rfl, rfl, rfl, rfl, ⟨0, rfl, rfl, ?_⟩⟩
  refine go rfl ⟨_, _, _, rfl, fun c => ?_, fun c => ?_⟩
  · refine go rfl ⟨rfl, rfl, rfl, ?_⟩
    rw [← hF]
    exact hp
  · exact absurd (nI_le (Nat.le_refl _) (by decide)) c
-- LadderWords$Gatherings.choose(IIIJ)V
/-- nothing fits -/
def sp_G_choose : mx_Sp := fun As F P => ∃ (kc tot wt most : Int32) (x : Int64), As = [mx_r 10, mx_i (nI 0), mx_i most, mx_i (nI 0), mx_l x] ∧ F 10 = some (e_G (nI 0) kc tot wt) ∧ P none F
theorem d_G_choose_0 : decode c_G_choose 0 = .ok (.iload_n 1, 1) := by decide +kernel
theorem d_G_choose_1 : decode c_G_choose 1 = .ok (.iload_n 2, 1) := by decide +kernel
theorem d_G_choose_2 : decode c_G_choose 2 = .ok (.if_icmp .ge 8, 3) := by decide +kernel
theorem d_G_choose_5 : decode c_G_choose 5 = .ok (.iload_n 1, 1) := by decide +kernel
theorem d_G_choose_6 : decode c_G_choose 6 = .ok (.iconst 4, 1) := by decide +kernel
theorem d_G_choose_7 : decode c_G_choose 7 = .ok (.if_icmp .lt 4, 3) := by decide +kernel
theorem d_G_choose_10 : decode c_G_choose 10 = .ok (.return_, 1) := by decide +kernel
theorem d_G_choose_11 : decode c_G_choose 11 = .ok (.iload_n 3, 1) := by decide +kernel
theorem d_G_choose_12 : decode c_G_choose 12 = .ok (.istore 6, 2) := by decide +kernel
theorem d_G_choose_14 : decode c_G_choose 14 = .ok (.iload 6, 2) := by decide +kernel
theorem d_G_choose_16 : decode c_G_choose 16 = .ok (.aload_n 0, 1) := by decide +kernel
theorem d_G_choose_17 : decode c_G_choose 17 = .ok (.getfield 75, 3) := by decide +kernel
theorem d_G_choose_20 : decode c_G_choose 20 = .ok (.if_icmp .ge 42, 3) := by decide +kernel
theorem d_G_choose_62 : decode c_G_choose 62 = .ok (.return_, 1) := by decide +kernel
abbrev w_G_choose : List Cond := mx_ws y_G_choose c_G_choose 7 none
abbrev rm_G_choose : Room := { frames := 30, cells := 0, slots := 0, locals := 600 }
def t_G_choose  (P : Option mx_V → mx_F → Prop) : List (Nat × mx_O) := [
  (0, mx_iload 1 1),
  (1, mx_iload 2 2),
  (2, mx_ic_ge 10 5),
  (5, mx_iload 1 6),
  (6, mx_push (.inl (nI 4)) 7),
  (7, mx_ic_lt 11 10),
  (10, mx_ret P),
  (11, mx_iload 3 12),
  (12, mx_istore 6 14),
  (14, mx_iload 6 16),
  (16, mx_aload 0 17),
  (17, mx_get 0 3 20),
  (20, mx_ic_ge 62 23),
  (62, mx_ret P)]
set_option maxRecDepth 20000 in
theorem a_G_choose  {p : Program} {l : Launch} {e : Env} {s : State} {m : MethodId} {args : Array Value} {below : List Frame} {meth : Method} {c : Code} {D : va_G} {tc : Nat → ClassId} {tb : Nat → Nat} {sz : Nat} {a0 : Nat → Nat} {G : mx_F} {P : Option mx_V → mx_F → Prop}  (C : mx_C p s m args c c_G_choose y_G_choose.cls w_G_choose D tc tb (mx_A a0 G sz) 7 (mx_Ok0 a0 G)) (hr : meth.sig.returnType = none) (hlk : meth.locks = false) : mx_all (mx_W p l e rm_G_choose s m args below meth c (MQ below (mx_Q D tc tb a0 G sz P) args s 0 0 (mx_A a0 G sz)) D tc tb (mx_A a0 G sz) 7 (mx_Ok0 a0 G)) (t_G_choose  P) :=
  ⟨mx_s_iload_n C d_G_choose_0 rfl,
  mx_s_iload_n C d_G_choose_1 rfl,
  mx_s_ic_ge C d_G_choose_2 (by decide),
  mx_s_iload_n C d_G_choose_5 rfl,
  mx_s_iconst C d_G_choose_6 (by decide),
  mx_s_ic_lt C d_G_choose_7 (by decide),
  mx_s_ret C hr hlk d_G_choose_10,
  mx_s_iload_n C d_G_choose_11 rfl,
  mx_s_istore C d_G_choose_12 (by decide),
  mx_s_iload C d_G_choose_14,
  mx_s_aload_n C d_G_choose_16 rfl,
  mx_s_get (T := T_G) (N := 9) (k := 3) C (fun w h => List.mem_cons_of_mem _ (in_G w h)) rfl (by decide) (List.mem_cons_of_mem _ (mx_in0 (by decide +kernel) rfl)) rfl d_G_choose_17,
  mx_s_ic_ge C d_G_choose_20 (by decide),
  mx_s_ret C hr hlk d_G_choose_62,
  trivial⟩
set_option maxRecDepth 20000 in
set_option maxHeartbeats 2000000 in
theorem m_G_choose (l : Launch) : mx_M l y_G_choose w_G_choose rm_G_choose sp_G_choose := by
  intro D tc tb ad As F P sz0 h
  obtain ⟨kc, tot, wt, most, x, rfl, h1, hp⟩ := h
  refine mx_run (cc := c_G_choose) (maxL := 7) (ret := none) (tab := t_G_choose  P) (by decide) rfl D tc tb ad _ F P sz0 (Nat.le_of_ble_eq_true rfl) (fun p e s m args below meth c C hr hlk => a_G_choose  C hr hlk) ?_
  intro Rr go
  have hF := mx_as1 h1
  rw [hF]
  refine go rfl ⟨_, rfl, ?_⟩
  refine go rfl ⟨_, rfl, ?_⟩
  refine go rfl ⟨_, _, _, rfl, fun c1 => ?_, fun c1 => ?_⟩
  · refine go rfl ⟨rfl, rfl, rfl, ?_⟩
    rw [← hF]
    exact hp
  refine go rfl ⟨_, rfl, ?_⟩
  refine go rfl ?_
  refine go rfl ⟨_, _, _, rfl, fun c2 => ?_, fun c2 => ?_⟩
  · refine go rfl ⟨_, rfl, ?_⟩
    refine go rfl ⟨_, _, rfl, ?_⟩
    refine go rfl ⟨_, rfl, ?_⟩
    refine go rfl ⟨_, rfl, ?_⟩
    refine go rfl ⟨_, _, _, _, rfl, rfl, rfl, ?_⟩
    refine go rfl ⟨_, _, _, rfl, fun c3 => ?_, fun c3 => ?_⟩
    · refine go rfl ⟨rfl, rfl, rfl, ?_⟩
      rw [← hF]
      exact hp
    · exact absurd (nI_le (Nat.le_refl _) (by decide)) c3
  · refine go rfl ⟨rfl, rfl, rfl, ?_⟩
    rw [← hF]
    exact hp
-- LadderWords$Gatherings.find(LLadderWords$Row;I)I
abbrev gm (most : Int32) : Prop := most < nI 1 ∨ ¬ most ≤ nI 4
def sp_G_find : mx_Sp := fun As F P => ∃ (fc kc tot wt most : Int32), As = [mx_r 10, mx_r 1, mx_i most] ∧ F 1 = some (e_R 0) ∧ F 3 = some (e_W 0) ∧ F 10 = some (e_G fc kc tot wt) ∧ (gm most → P (some (mx_i (-1))) F) ∧ (¬ gm most → ∀ x, P (some (mx_i (nI 0))) (mx_put F 10 x))
theorem d_G_find_0 : decode c_G_find 0 = .ok (.iload_n 2, 1) := by decide +kernel
theorem d_G_find_1 : decode c_G_find 1 = .ok (.iconst 1, 1) := by decide +kernel
theorem d_G_find_2 : decode c_G_find 2 = .ok (.if_icmp .lt 8, 3) := by decide +kernel
theorem d_G_find_5 : decode c_G_find 5 = .ok (.iload_n 2, 1) := by decide +kernel
theorem d_G_find_6 : decode c_G_find 6 = .ok (.iconst 4, 1) := by decide +kernel
theorem d_G_find_7 : decode c_G_find 7 = .ok (.if_icmp .le 5, 3) := by decide +kernel
theorem d_G_find_10 : decode c_G_find 10 = .ok (.iconst (-1), 1) := by decide +kernel
theorem d_G_find_11 : decode c_G_find 11 = .ok (.ireturn, 1) := by decide +kernel
theorem d_G_find_12 : decode c_G_find 12 = .ok (.aload_n 0, 1) := by decide +kernel
theorem d_G_find_13 : decode c_G_find 13 = .ok (.iconst 0, 1) := by decide +kernel
theorem d_G_find_14 : decode c_G_find 14 = .ok (.putfield 29, 3) := by decide +kernel
theorem d_G_find_17 : decode c_G_find 17 = .ok (.aload_n 0, 1) := by decide +kernel
theorem d_G_find_18 : decode c_G_find 18 = .ok (.iconst 0, 1) := by decide +kernel
theorem d_G_find_19 : decode c_G_find 19 = .ok (.putfield 33, 3) := by decide +kernel
theorem d_G_find_22 : decode c_G_find 22 = .ok (.aload_n 0, 1) := by decide +kernel
theorem d_G_find_23 : decode c_G_find 23 = .ok (.aload_n 0, 1) := by decide +kernel
theorem d_G_find_24 : decode c_G_find 24 = .ok (.getfield 25, 3) := by decide +kernel
theorem d_G_find_27 : decode c_G_find 27 = .ok (.invokevirtual 36, 3) := by decide +kernel
theorem d_G_find_30 : decode c_G_find 30 = .ok (.putfield 42, 3) := by decide +kernel
theorem d_G_find_33 : decode c_G_find 33 = .ok (.aload_n 1, 1) := by decide +kernel
theorem d_G_find_34 : decode c_G_find 34 = .ok (.invokestatic 45, 3) := by decide +kernel
theorem d_G_find_37 : decode c_G_find 37 = .ok (.lstore_n 3, 1) := by decide +kernel
theorem d_G_find_38 : decode c_G_find 38 = .ok (.aload_n 0, 1) := by decide +kernel
theorem d_G_find_39 : decode c_G_find 39 = .ok (.aload_n 1, 1) := by decide +kernel
theorem d_G_find_40 : decode c_G_find 40 = .ok (.lload_n 3, 1) := by decide +kernel
theorem d_G_find_41 : decode c_G_find 41 = .ok (.invokevirtual 49, 3) := by decide +kernel
theorem d_G_find_44 : decode c_G_find 44 = .ok (.aload_n 0, 1) := by decide +kernel
theorem d_G_find_45 : decode c_G_find 45 = .ok (.iconst 0, 1) := by decide +kernel
theorem d_G_find_46 : decode c_G_find 46 = .ok (.iload_n 2, 1) := by decide +kernel
theorem d_G_find_47 : decode c_G_find 47 = .ok (.iconst 0, 1) := by decide +kernel
theorem d_G_find_48 : decode c_G_find 48 = .ok (.lload_n 3, 1) := by decide +kernel
theorem d_G_find_49 : decode c_G_find 49 = .ok (.invokevirtual 53, 3) := by decide +kernel
theorem d_G_find_52 : decode c_G_find 52 = .ok (.aload_n 0, 1) := by decide +kernel
theorem d_G_find_53 : decode c_G_find 53 = .ok (.getfield 33, 3) := by decide +kernel
theorem d_G_find_56 : decode c_G_find 56 = .ok (.ireturn, 1) := by decide +kernel
abbrev w_G_find : List Cond := mx_ws y_G_find c_G_find 5 (some .int)
abbrev rm_G_find : Room := { frames := 40, cells := 0, slots := 0, locals := 800 }
def t_G_find  (P : Option mx_V → mx_F → Prop) : List (Nat × mx_O) := [
  (0, mx_iload 2 1),
  (1, mx_push (.inl (nI 1)) 2),
  (2, mx_ic_lt 10 5),
  (5, mx_iload 2 6),
  (6, mx_push (.inl (nI 4)) 7),
  (7, mx_ic_le 12 10),
  (10, mx_push (.inl (-1)) 11),
  (11, mx_iret P),
  (12, mx_aload 0 13),
  (13, mx_push (.inl (nI 0)) 14),
  (14, mx_puti 0 6 17),
  (17, mx_aload 0 18),
  (18, mx_push (.inl (nI 0)) 19),
  (19, mx_puti 0 7 22),
  (22, mx_aload 0 23),
  (23, mx_aload 0 24),
  (24, mx_get 0 0 27),
  (27, mx_cv0 5 sp_W_count 0 0 30),
  (30, mx_puti 0 8 33),
  (33, mx_aload 1 34),
  (34, mx_cs1 sp_G_heapOfRow 0 0 37),
  (37, mx_lstore 3 38),
  (38, mx_aload 0 39),
  (39, mx_aload 1 40),
  (40, mx_lload 3 41),
  (41, mx_cv2 0 sp_G_listFitting 0 0 44),
  (44, mx_aload 0 45),
  (45, mx_push (.inl (nI 0)) 46),
  (46, mx_iload 2 47),
  (47, mx_push (.inl (nI 0)) 48),
  (48, mx_lload 3 49),
  (49, mx_cv4 0 sp_G_choose 0 0 52),
  (52, mx_aload 0 53),
  (53, mx_get 0 7 56),
  (56, mx_iret P)]
set_option maxRecDepth 20000 in
theorem a_G_find  {p : Program} {l : Launch} {e : Env} {s : State} {m : MethodId} {args : Array Value} {below : List Frame} {meth : Method} {c : Code} {D : va_G} {tc : Nat → ClassId} {tb : Nat → Nat} {sz : Nat} {a0 : Nat → Nat} {G : mx_F} {P : Option mx_V → mx_F → Prop}  (C : mx_C p s m args c c_G_find y_G_find.cls w_G_find D tc tb (mx_A a0 G sz) 5 (mx_Ok0 a0 G)) (hr : meth.sig.returnType = (some .int)) (hlk : meth.locks = false) : mx_all (mx_W p l e rm_G_find s m args below meth c (MQ below (mx_Q D tc tb a0 G sz P) args s 0 0 (mx_A a0 G sz)) D tc tb (mx_A a0 G sz) 5 (mx_Ok0 a0 G)) (t_G_find  P) :=
  ⟨mx_s_iload_n C d_G_find_0 rfl,
  mx_s_iconst C d_G_find_1 (by decide),
  mx_s_ic_lt C d_G_find_2 (by decide),
  mx_s_iload_n C d_G_find_5 rfl,
  mx_s_iconst C d_G_find_6 (by decide),
  mx_s_ic_le C d_G_find_7 (by decide),
  mx_s_iconst C d_G_find_10 (by decide),
  mx_s_iret C hr hlk d_G_find_11,
  mx_s_aload_n C d_G_find_12 rfl,
  mx_s_iconst C d_G_find_13 (by decide),
  mx_s_puti (T := T_G) (N := 9) (k := 6) C (fun w h => List.mem_cons_of_mem _ (in_G w h)) rfl ty_G ok_G nm_G (by decide) (List.mem_cons_of_mem _ (mx_in0 (by decide +kernel) rfl)) rfl rfl (ok_G 6 (by decide)) d_G_find_14,
  mx_s_aload_n C d_G_find_17 rfl,
  mx_s_iconst C d_G_find_18 (by decide),
  mx_s_puti (T := T_G) (N := 9) (k := 7) C (fun w h => List.mem_cons_of_mem _ (in_G w h)) rfl ty_G ok_G nm_G (by decide) (List.mem_cons_of_mem _ (mx_in0 (by decide +kernel) rfl)) rfl rfl (ok_G 7 (by decide)) d_G_find_19,
  mx_s_aload_n C d_G_find_22 rfl,
  mx_s_aload_n C d_G_find_23 rfl,
  mx_s_get (T := T_G) (N := 9) (k := 0) C (fun w h => List.mem_cons_of_mem _ (in_G w h)) rfl (by decide) (List.mem_cons_of_mem _ (mx_in0 (by decide +kernel) rfl)) rfl d_G_find_24,
  mx_s_cv0 C (m_W_count l) rfl (cwV 0 C.2.2.2.2.1 (mx_gV (fun w h => List.mem_cons_of_mem _ h) (mx_in0 (by decide +kernel) rfl) (mx_in0 (by decide +kernel) rfl) (mx_in0 (by decide +kernel) rfl) (mx_in0 (by decide +kernel) rfl) (mx_in0 (by decide +kernel) rfl)) rfl rfl rfl (by decide +kernel) ⟨by decide, by decide⟩) d_G_find_27 ⟨Nat.zero_le _, Nat.zero_le _⟩,
  mx_s_puti (T := T_G) (N := 9) (k := 8) C (fun w h => List.mem_cons_of_mem _ (in_G w h)) rfl ty_G ok_G nm_G (by decide) (List.mem_cons_of_mem _ (mx_in0 (by decide +kernel) rfl)) rfl rfl (ok_G 8 (by decide)) d_G_find_30,
  mx_s_aload_n C d_G_find_33 rfl,
  mx_s_cs1 C (m_G_heapOfRow l) (cwS 1 C.2.2.2.2.1 (mx_gS (fun w h => List.mem_cons_of_mem _ h) (mx_in0 (by decide +kernel) rfl) (mx_in0 (by decide +kernel) rfl) (mx_in0 (by decide +kernel) rfl) (mx_in0 (by decide +kernel) rfl)) rfl rfl rfl (by decide +kernel) ⟨by decide, by decide⟩) d_G_find_34 ⟨Nat.zero_le _, Nat.zero_le _⟩,
  mx_s_lstore_n C d_G_find_37 rfl (by decide),
  mx_s_aload_n C d_G_find_38 rfl,
  mx_s_aload_n C d_G_find_39 rfl,
  mx_s_lload_n C d_G_find_40 rfl,
  mx_s_cv2 C (m_G_listFitting l) rfl (cwV 2 C.2.2.2.2.1 (mx_gV (fun w h => List.mem_cons_of_mem _ h) (mx_in0 (by decide +kernel) rfl) (mx_in0 (by decide +kernel) rfl) (mx_in0 (by decide +kernel) rfl) (mx_in0 (by decide +kernel) rfl) (mx_in0 (by decide +kernel) rfl)) rfl rfl rfl (by decide +kernel) ⟨by decide, by decide⟩) d_G_find_41 ⟨Nat.zero_le _, Nat.zero_le _⟩,
  mx_s_aload_n C d_G_find_44 rfl,
  mx_s_iconst C d_G_find_45 (by decide),
  mx_s_iload_n C d_G_find_46 rfl,
  mx_s_iconst C d_G_find_47 (by decide),
  mx_s_lload_n C d_G_find_48 rfl,
  mx_s_cv4 C (m_G_choose l) rfl (cwV 4 C.2.2.2.2.1 (mx_gV (fun w h => List.mem_cons_of_mem _ h) (mx_in0 (by decide +kernel) rfl) (mx_in0 (by decide +kernel) rfl) (mx_in0 (by decide +kernel) rfl) (mx_in0 (by decide +kernel) rfl) (mx_in0 (by decide +kernel) rfl)) rfl rfl rfl (by decide +kernel) ⟨by decide, by decide⟩) d_G_find_49 ⟨Nat.zero_le _, Nat.zero_le _⟩,
  mx_s_aload_n C d_G_find_52 rfl,
  mx_s_get (T := T_G) (N := 9) (k := 7) C (fun w h => List.mem_cons_of_mem _ (in_G w h)) rfl (by decide) (List.mem_cons_of_mem _ (mx_in0 (by decide +kernel) rfl)) rfl d_G_find_53,
  mx_s_iret C hr hlk d_G_find_56,
  trivial⟩
set_option maxRecDepth 20000 in
set_option maxHeartbeats 2000000 in
theorem m_G_find (l : Launch) : mx_M l y_G_find w_G_find rm_G_find sp_G_find := by
  intro D tc tb ad As F P sz0 h
  obtain ⟨fc, kc, tot, wt, most, rfl, h1, h3, h10, hz, ho⟩ := h
  refine mx_run (cc := c_G_find) (maxL := 5) (ret := (some .int)) (tab := t_G_find  P) (by decide) rfl D tc tb ad _ F P sz0 (Nat.le_of_ble_eq_true rfl) (fun p e s m args below meth c C hr hlk => a_G_find  C hr hlk) ?_
  intro Rr go
  have hF := mx_as3 h1 h3 h10
  rw [hF]
  have z : gm most → Rr 10 (mx_en [mx_r 10, mx_r 1, mx_i most] 5) [] (mx_put (mx_put (mx_put F 1 (e_R 0)) 3 (e_W 0)) 10 (e_G fc kc tot wt)) 0 0 := by
    intro hc
    refine go rfl ?_
    refine go rfl ⟨_, rfl, rfl, rfl, ?_⟩
    rw [← hF]
    exact hz hc
  refine go rfl ⟨_, rfl, ?_⟩
  refine go rfl ?_
  refine go rfl ⟨_, _, _, rfl, fun c1 => ?_, fun c1 => ?_⟩
  · exact z (Or.inl c1)
  refine go rfl ⟨_, rfl, ?_⟩
  refine go rfl ?_
  refine go rfl ⟨_, _, _, rfl, fun c2 => ?_, fun c2 => ?_⟩
  · refine go rfl ⟨_, rfl, ?_⟩
    refine go rfl ?_
    refine go rfl ⟨_, _, _, _, rfl, rfl, (Nat.le_of_ble_eq_true rfl), ?_⟩
    refine go rfl ⟨_, rfl, ?_⟩
    refine go rfl ?_
    refine go rfl ⟨_, _, _, _, rfl, rfl, (Nat.le_of_ble_eq_true rfl), ?_⟩
    refine go rfl ⟨_, rfl, ?_⟩
    refine go rfl ⟨_, rfl, ?_⟩
    refine go rfl ⟨_, _, _, _, rfl, rfl, rfl, ?_⟩
    refine go rfl ⟨_, _, _, rfl, rfl, rfl, rfl, rfl, ⟨0, rfl, rfl, ?_⟩⟩
    refine go rfl ⟨_, _, _, _, rfl, rfl, (Nat.le_of_ble_eq_true rfl), ?_⟩
    refine go rfl ⟨_, rfl, ?_⟩
    refine go rfl ⟨_, _, rfl, rfl, rfl, rfl, ⟨rfl, rfl, ?_⟩⟩
    refine go rfl ⟨_, _, rfl, ?_⟩
    refine go rfl ⟨_, rfl, ?_⟩
    refine go rfl ⟨_, rfl, ?_⟩
    refine go rfl ⟨_, rfl, ?_⟩
    refine go rfl ⟨_, _, _, _, _, rfl, rfl, rfl, rfl, rfl, ⟨_, _, _, _, _, rfl, rfl, rfl, ?_⟩⟩
    refine go rfl ⟨_, rfl, ?_⟩
    refine go rfl ?_
    refine go rfl ⟨_, rfl, ?_⟩
    refine go rfl ?_
    refine go rfl ⟨_, rfl, ?_⟩
    refine go rfl ⟨_, _, _, _, _, _, _, rfl, rfl, rfl, rfl, rfl, ⟨_, _, _, _, _, rfl, rfl, ?_⟩⟩
    refine go rfl ⟨_, rfl, ?_⟩
    refine go rfl ⟨_, _, _, _, rfl, rfl, rfl, ?_⟩
    refine go rfl ⟨_, rfl, rfl, rfl, ?_⟩
    rw [← hF]
    simp only [mx_pp]
    exact ho (fun h => h.elim c1 (fun q => q c2)) _
  · exact z (Or.inr c2)
-- LadderWords.gather(I)I
def sp_L_gather : mx_Sp := fun As F P => ∃ (fc kc tot wt most : Int32), As = [mx_r 0, mx_i most] ∧ F 0 = some e_L ∧ F 1 = some (e_R 0) ∧ F 3 = some (e_W 0) ∧ F 10 = some (e_G fc kc tot wt) ∧ (gm most → P (some (mx_i (-1))) F) ∧ (¬ gm most → ∀ x, P (some (mx_i (nI 0))) (mx_put F 10 x))
theorem d_L_gather_0 : decode c_L_gather 0 = .ok (.aload_n 0, 1) := by decide +kernel
theorem d_L_gather_1 : decode c_L_gather 1 = .ok (.getfield 35, 3) := by decide +kernel
theorem d_L_gather_4 : decode c_L_gather 4 = .ok (.aload_n 0, 1) := by decide +kernel
theorem d_L_gather_5 : decode c_L_gather 5 = .ok (.getfield 10, 3) := by decide +kernel
theorem d_L_gather_8 : decode c_L_gather 8 = .ok (.iload_n 1, 1) := by decide +kernel
theorem d_L_gather_9 : decode c_L_gather 9 = .ok (.invokevirtual 80, 3) := by decide +kernel
theorem d_L_gather_12 : decode c_L_gather 12 = .ok (.ireturn, 1) := by decide +kernel
abbrev w_L_gather : List Cond := mx_ws y_L_gather c_L_gather 2 (some .int)
abbrev rm_L_gather : Room := { frames := 50, cells := 0, slots := 0, locals := 1000 }
def t_L_gather  (P : Option mx_V → mx_F → Prop) : List (Nat × mx_O) := [
  (0, mx_aload 0 1),
  (1, mx_get 6 3 4),
  (4, mx_aload 0 5),
  (5, mx_get 6 0 8),
  (8, mx_iload 1 9),
  (9, mx_cv2 0 sp_G_find 0 0 12),
  (12, mx_iret P)]
set_option maxRecDepth 20000 in
theorem a_L_gather  {p : Program} {l : Launch} {e : Env} {s : State} {m : MethodId} {args : Array Value} {below : List Frame} {meth : Method} {c : Code} {D : va_G} {tc : Nat → ClassId} {tb : Nat → Nat} {sz : Nat} {a0 : Nat → Nat} {G : mx_F} {P : Option mx_V → mx_F → Prop}  (C : mx_C p s m args c c_L_gather y_L_gather.cls w_L_gather D tc tb (mx_A a0 G sz) 2 (mx_Ok0 a0 G)) (hr : meth.sig.returnType = (some .int)) (hlk : meth.locks = false) : mx_all (mx_W p l e rm_L_gather s m args below meth c (MQ below (mx_Q D tc tb a0 G sz P) args s 0 0 (mx_A a0 G sz)) D tc tb (mx_A a0 G sz) 2 (mx_Ok0 a0 G)) (t_L_gather  P) :=
  ⟨mx_s_aload_n C d_L_gather_0 rfl,
  mx_s_get (T := T_L) (N := 6) (k := 3) C (fun w h => List.mem_cons_of_mem _ (in_L w h)) rfl (by decide) (List.mem_cons_of_mem _ (mx_in0 (by decide +kernel) rfl)) rfl d_L_gather_1,
  mx_s_aload_n C d_L_gather_4 rfl,
  mx_s_get (T := T_L) (N := 6) (k := 0) C (fun w h => List.mem_cons_of_mem _ (in_L w h)) rfl (by decide) (List.mem_cons_of_mem _ (mx_in0 (by decide +kernel) rfl)) rfl d_L_gather_5,
  mx_s_iload_n C d_L_gather_8 rfl,
  mx_s_cv2 C (m_G_find l) rfl (cwV 2 C.2.2.2.2.1 (mx_gV (fun w h => List.mem_cons_of_mem _ h) (mx_in0 (by decide +kernel) rfl) (mx_in0 (by decide +kernel) rfl) (mx_in0 (by decide +kernel) rfl) (mx_in0 (by decide +kernel) rfl) (mx_in0 (by decide +kernel) rfl)) rfl rfl rfl (by decide +kernel) ⟨by decide, by decide⟩) d_L_gather_9 ⟨Nat.zero_le _, Nat.zero_le _⟩,
  mx_s_iret C hr hlk d_L_gather_12,
  trivial⟩
set_option maxRecDepth 20000 in
set_option maxHeartbeats 2000000 in
theorem m_L_gather (l : Launch) : mx_M l y_L_gather w_L_gather rm_L_gather sp_L_gather := by
  intro D tc tb ad As F P sz0 h
  obtain ⟨fc, kc, tot, wt, most, rfl, h0, h1, h3, h10, hz, ho⟩ := h
  refine mx_run (cc := c_L_gather) (maxL := 2) (ret := (some .int)) (tab := t_L_gather  P) (by decide) rfl D tc tb ad _ F P sz0 (Nat.le_of_ble_eq_true rfl) (fun p e s m args below meth c C hr hlk => a_L_gather  C hr hlk) ?_
  intro Rr go
  have hF := mx_as4 h0 h1 h3 h10
  rw [hF]
  refine go rfl ⟨_, rfl, ?_⟩
  refine go rfl ⟨_, _, _, _, rfl, rfl, rfl, ?_⟩
  refine go rfl ⟨_, rfl, ?_⟩
  refine go rfl ⟨_, _, _, _, rfl, rfl, rfl, ?_⟩
  refine go rfl ⟨_, rfl, ?_⟩
  refine go rfl ⟨_, _, _, _, _, rfl, rfl, rfl, rfl, rfl, ⟨fc, kc, tot, wt, most, rfl, rfl, rfl, rfl, fun hc => ?_, fun hc x => ?_⟩⟩
  · refine go rfl ⟨_, rfl, rfl, rfl, ?_⟩
    rw [← hF]
    exact hz hc
  · refine go rfl ⟨_, rfl, rfl, rfl, ?_⟩
    rw [← hF]
    exact ho hc x
-- LadderWords$Squares.openAll(I)V
abbrev qh : Nat → Option Nat := mx_g5 19
abbrev qo : Nat → Option Nat := mx_g5 24
/-- without words -/
def sp_Q_openAll : mx_Sp := fun As F P => ∃ (sz wt : Int32) (n : Nat) (f : Nat → Int64), As = [mx_r 15, mx_i (nI n)] ∧ n ≤ 5 ∧ F 3 = some (e_W 0) ∧ F 15 = some (e_Q sz wt) ∧ F 17 = some (mx_qa 2 5 qo) ∧ F 24 = some (mx_la 5 f) ∧ ∀ f', P none (mx_put F 24 (mx_la 5 f'))
theorem d_Q_openAll_0 : decode c_Q_openAll 0 = .ok (.lconst 0, 1) := by decide +kernel
theorem d_Q_openAll_1 : decode c_Q_openAll 1 = .ok (.lstore_n 2, 1) := by decide +kernel
theorem d_Q_openAll_2 : decode c_Q_openAll 2 = .ok (.iconst 0, 1) := by decide +kernel
theorem d_Q_openAll_3 : decode c_Q_openAll 3 = .ok (.istore 4, 2) := by decide +kernel
theorem d_Q_openAll_5 : decode c_Q_openAll 5 = .ok (.iload 4, 2) := by decide +kernel
theorem d_Q_openAll_7 : decode c_Q_openAll 7 = .ok (.aload_n 0, 1) := by decide +kernel
theorem d_Q_openAll_8 : decode c_Q_openAll 8 = .ok (.getfield 23, 3) := by decide +kernel
theorem d_Q_openAll_11 : decode c_Q_openAll 11 = .ok (.invokevirtual 39, 3) := by decide +kernel
theorem d_Q_openAll_14 : decode c_Q_openAll 14 = .ok (.if_icmp .ge 36, 3) := by decide +kernel
theorem d_Q_openAll_50 : decode c_Q_openAll 50 = .ok (.iconst 0, 1) := by decide +kernel
theorem d_Q_openAll_51 : decode c_Q_openAll 51 = .ok (.istore 4, 2) := by decide +kernel
theorem d_Q_openAll_53 : decode c_Q_openAll 53 = .ok (.iload 4, 2) := by decide +kernel
theorem d_Q_openAll_55 : decode c_Q_openAll 55 = .ok (.iload_n 1, 1) := by decide +kernel
theorem d_Q_openAll_56 : decode c_Q_openAll 56 = .ok (.if_icmp .ge 19, 3) := by decide +kernel
theorem d_Q_openAll_59 : decode c_Q_openAll 59 = .ok (.aload_n 0, 1) := by decide +kernel
theorem d_Q_openAll_60 : decode c_Q_openAll 60 = .ok (.getfield 16, 3) := by decide +kernel
theorem d_Q_openAll_63 : decode c_Q_openAll 63 = .ok (.iconst 0, 1) := by decide +kernel
theorem d_Q_openAll_64 : decode c_Q_openAll 64 = .ok (.aaload, 1) := by decide +kernel
theorem d_Q_openAll_65 : decode c_Q_openAll 65 = .ok (.iload 4, 2) := by decide +kernel
theorem d_Q_openAll_67 : decode c_Q_openAll 67 = .ok (.lload_n 2, 1) := by decide +kernel
theorem d_Q_openAll_68 : decode c_Q_openAll 68 = .ok (.lastore, 1) := by decide +kernel
theorem d_Q_openAll_69 : decode c_Q_openAll 69 = .ok (.iinc 4 1, 3) := by decide +kernel
theorem d_Q_openAll_72 : decode c_Q_openAll 72 = .ok (.goto (-19), 3) := by decide +kernel
theorem d_Q_openAll_75 : decode c_Q_openAll 75 = .ok (.return_, 1) := by decide +kernel
abbrev w_Q_openAll : List Cond := mx_ws y_Q_openAll c_Q_openAll 5 none
abbrev rm_Q_openAll : Room := { frames := 30, cells := 0, slots := 0, locals := 600 }
def t_Q_openAll  (P : Option mx_V → mx_F → Prop) : List (Nat × mx_O) := [
  (0, mx_push (.inr (.inl 0)) 1),
  (1, mx_lstore 2 2),
  (2, mx_push (.inl (nI 0)) 3),
  (3, mx_istore 4 5),
  (5, mx_iload 4 7),
  (7, mx_aload 0 8),
  (8, mx_get 4 0 11),
  (11, mx_cv0 5 sp_W_count 0 0 14),
  (14, mx_ic_ge 50 17),
  (50, mx_push (.inl (nI 0)) 51),
  (51, mx_istore 4 53),
  (53, mx_iload 4 55),
  (55, mx_iload 1 56),
  (56, mx_ic_ge 75 59),
  (59, mx_aload 0 60),
  (60, mx_get 4 2 63),
  (63, mx_push (.inl (nI 0)) 64),
  (64, mx_aald 65),
  (65, mx_iload 4 67),
  (67, mx_lload 2 68),
  (68, mx_last 69),
  (69, mx_iinc 4 (nI 1) 72),
  (72, mx_goto 53),
  (75, mx_ret P)]
set_option maxRecDepth 20000 in
theorem a_Q_openAll  {p : Program} {l : Launch} {e : Env} {s : State} {m : MethodId} {args : Array Value} {below : List Frame} {meth : Method} {c : Code} {D : va_G} {tc : Nat → ClassId} {tb : Nat → Nat} {sz : Nat} {a0 : Nat → Nat} {G : mx_F} {P : Option mx_V → mx_F → Prop}  (C : mx_C p s m args c c_Q_openAll y_Q_openAll.cls w_Q_openAll D tc tb (mx_A a0 G sz) 5 (mx_Ok0 a0 G)) (hr : meth.sig.returnType = none) (hlk : meth.locks = false) : mx_all (mx_W p l e rm_Q_openAll s m args below meth c (MQ below (mx_Q D tc tb a0 G sz P) args s 0 0 (mx_A a0 G sz)) D tc tb (mx_A a0 G sz) 5 (mx_Ok0 a0 G)) (t_Q_openAll  P) :=
  ⟨mx_s_lconst C d_Q_openAll_0 (by decide),
  mx_s_lstore_n C d_Q_openAll_1 rfl (by decide),
  mx_s_iconst C d_Q_openAll_2 (by decide),
  mx_s_istore C d_Q_openAll_3 (by decide),
  mx_s_iload C d_Q_openAll_5,
  mx_s_aload_n C d_Q_openAll_7 rfl,
  mx_s_get (T := T_Q) (N := 6) (k := 0) C (fun w h => List.mem_cons_of_mem _ (in_Q w h)) rfl (by decide) (List.mem_cons_of_mem _ (mx_in0 (by decide +kernel) rfl)) rfl d_Q_openAll_8,
  mx_s_cv0 C (m_W_count l) rfl (cwV 0 C.2.2.2.2.1 (mx_gV (fun w h => List.mem_cons_of_mem _ h) (mx_in0 (by decide +kernel) rfl) (mx_in0 (by decide +kernel) rfl) (mx_in0 (by decide +kernel) rfl) (mx_in0 (by decide +kernel) rfl) (mx_in0 (by decide +kernel) rfl)) rfl rfl rfl (by decide +kernel) ⟨by decide, by decide⟩) d_Q_openAll_11 ⟨Nat.zero_le _, Nat.zero_le _⟩,
  mx_s_ic_ge C d_Q_openAll_14 (by decide),
  mx_s_iconst C d_Q_openAll_50 (by decide),
  mx_s_istore C d_Q_openAll_51 (by decide),
  mx_s_iload C d_Q_openAll_53,
  mx_s_iload_n C d_Q_openAll_55 rfl,
  mx_s_ic_ge C d_Q_openAll_56 (by decide),
  mx_s_aload_n C d_Q_openAll_59 rfl,
  mx_s_get (T := T_Q) (N := 6) (k := 2) C (fun w h => List.mem_cons_of_mem _ (in_Q w h)) rfl (by decide) (List.mem_cons_of_mem _ (mx_in0 (by decide +kernel) rfl)) rfl d_Q_openAll_60,
  mx_s_iconst C d_Q_openAll_63 (by decide),
  mx_s_aald C d_Q_openAll_64,
  mx_s_iload C d_Q_openAll_65,
  mx_s_lload_n C d_Q_openAll_67 rfl,
  mx_s_last C d_Q_openAll_68,
  mx_s_iinc C d_Q_openAll_69 (by decide) (by decide),
  mx_s_goto C d_Q_openAll_72 (by decide),
  mx_s_ret C hr hlk d_Q_openAll_75,
  trivial⟩
set_option maxRecDepth 20000 in
set_option maxHeartbeats 2000000 in
theorem m_Q_openAll (l : Launch) : mx_M l y_Q_openAll w_Q_openAll rm_Q_openAll sp_Q_openAll := by
  intro D tc tb ad As F P sz0 h
  obtain ⟨sz, wt, n, f, rfl, hn, h3, h15, h17, h24, hp⟩ := h
  refine mx_run (cc := c_Q_openAll) (maxL := 5) (ret := none) (tab := t_Q_openAll  P) (by decide) rfl D tc tb ad _ F P sz0 (Nat.le_of_ble_eq_true rfl) (fun p e s m args below meth c C hr hlk => a_Q_openAll  C hr hlk) ?_
  intro Rr go
  have hF := mx_as4 h3 h15 h17 h24
  have hF3 := mx_as3 h3 h15 h17
  rw [hF]
  have loop : ∀ (k i : Nat) (f : Nat → Int64), i + k = n → Rr 53 [some (mx_r 15), some (mx_i (nI n)), some (mx_l 0), none, some (mx_i (nI i))] [] (mx_put (mx_put (mx_put (mx_put F 3 (e_W 0)) 15 (e_Q sz wt)) 17 (mx_qa 2 5 qo)) 24 (mx_la 5 f)) 0 0 := by
    intro k
    induction k with
    | zero =>
      intro i f hi
      refine go rfl ⟨_, rfl, ?_⟩
      refine go rfl ⟨_, rfl, ?_⟩
      refine go rfl ⟨_, _, _, rfl, fun c => ?_, fun c => ?_⟩
      · refine go rfl ⟨rfl, rfl, rfl, ?_⟩
        rw [← hF3]
        exact hp f
      · exact absurd (nI_le (by omega) (by omega)) c
    | succ k ih =>
      intro i f hi
      refine go rfl ⟨_, rfl, ?_⟩
      refine go rfl ⟨_, rfl, ?_⟩
      refine go rfl ⟨_, _, _, rfl, fun c => ?_, fun c => ?_⟩
      · exact absurd ((nI_leI (by omega) (by omega)).mp c) (by omega)
      · refine go rfl ⟨_, rfl, ?_⟩
        refine go rfl ⟨_, _, _, _, rfl, rfl, rfl, ?_⟩
        refine go rfl ?_
        refine go rfl ⟨_, _, _, _, _, _, _, rfl, rfl, ⟨_, rfl, rfl⟩, (vp_in_nI (by decide) (by decide)), (show mx_g5 24 _ = some 24 from rfl), ?_⟩
        refine go rfl ⟨_, rfl, ?_⟩
        refine go rfl ⟨_, rfl, ?_⟩
        refine go rfl ⟨_, _, _, _, _, _, rfl, rfl, (vp_in_nI (by omega) (by omega)), ?_⟩
        rw [mx_pp]
        refine go rfl ⟨_, rfl, ?_⟩
        refine go rfl ?_
        rw [nI_add]
        exact ih (i + 1) _ (by omega)
  refine go rfl ?_
  refine go rfl ⟨_, _, rfl, ?_⟩
  refine go rfl ?_
  refine go rfl ⟨_, _, rfl, ?_⟩
  refine go rfl ⟨_, rfl, ?_⟩
  refine go rfl ⟨_, rfl, ?_⟩
  refine go rfl ⟨_, _, _, _, rfl, rfl, rfl, ?_⟩
  refine go rfl ⟨_, _, _, rfl, rfl, rfl, rfl, rfl, ⟨0, rfl, rfl, ?_⟩⟩
  refine go rfl ⟨_, _, _, rfl, fun c => ?_, fun c => ?_⟩
  · refine go rfl ?_
    refine go rfl ⟨_, _, rfl, ?_⟩
    exact loop n 0 f (by omega)
  · exact absurd (nI_le (Nat.le_refl _) (by decide)) c
-- LadderWords$Squares.complete(II)Z
/-- without words -/
def sp_Q_complete : mx_Sp := fun As F P => ∃ (sz wt : Int32) (n : Nat), As = [mx_r 15, mx_i (nI 0), mx_i (nI n)] ∧ 1 ≤ n ∧ n ≤ 5 ∧ F 3 = some (e_W 0) ∧ F 15 = some (e_Q sz wt) ∧ P (some (mx_i (nI 0))) F
theorem d_Q_complete_0 : decode c_Q_complete 0 = .ok (.iload_n 1, 1) := by decide +kernel
theorem d_Q_complete_1 : decode c_Q_complete 1 = .ok (.iload_n 2, 1) := by decide +kernel
theorem d_Q_complete_2 : decode c_Q_complete 2 = .ok (.if_icmp .ge 8, 3) := by decide +kernel
theorem d_Q_complete_5 : decode c_Q_complete 5 = .ok (.iload_n 1, 1) := by decide +kernel
theorem d_Q_complete_6 : decode c_Q_complete 6 = .ok (.iconst 5, 1) := by decide +kernel
theorem d_Q_complete_7 : decode c_Q_complete 7 = .ok (.if_icmp .lt 5, 3) := by decide +kernel
theorem d_Q_complete_12 : decode c_Q_complete 12 = .ok (.iconst 0, 1) := by decide +kernel
theorem d_Q_complete_13 : decode c_Q_complete 13 = .ok (.istore_n 3, 1) := by decide +kernel
theorem d_Q_complete_14 : decode c_Q_complete 14 = .ok (.iload_n 3, 1) := by decide +kernel
theorem d_Q_complete_15 : decode c_Q_complete 15 = .ok (.aload_n 0, 1) := by decide +kernel
theorem d_Q_complete_16 : decode c_Q_complete 16 = .ok (.getfield 23, 3) := by decide +kernel
theorem d_Q_complete_19 : decode c_Q_complete 19 = .ok (.invokevirtual 39, 3) := by decide +kernel
theorem d_Q_complete_22 : decode c_Q_complete 22 = .ok (.if_icmp .ge 50, 3) := by decide +kernel
theorem d_Q_complete_72 : decode c_Q_complete 72 = .ok (.iconst 0, 1) := by decide +kernel
theorem d_Q_complete_73 : decode c_Q_complete 73 = .ok (.ireturn, 1) := by decide +kernel
abbrev w_Q_complete : List Cond := mx_ws y_Q_complete c_Q_complete 5 (some .boolean)
abbrev rm_Q_complete : Room := { frames := 30, cells := 0, slots := 0, locals := 600 }
def t_Q_complete  (P : Option mx_V → mx_F → Prop) : List (Nat × mx_O) := [
  (0, mx_iload 1 1),
  (1, mx_iload 2 2),
  (2, mx_ic_ge 10 5),
  (5, mx_iload 1 6),
  (6, mx_push (.inl (nI 5)) 7),
  (7, mx_ic_lt 12 10),
  (12, mx_push (.inl (nI 0)) 13),
  (13, mx_istore 3 14),
  (14, mx_iload 3 15),
  (15, mx_aload 0 16),
  (16, mx_get 4 0 19),
  (19, mx_cv0 5 sp_W_count 0 0 22),
  (22, mx_ic_ge 72 25),
  (72, mx_push (.inl (nI 0)) 73),
  (73, mx_zret P)]
set_option maxRecDepth 20000 in
theorem a_Q_complete  {p : Program} {l : Launch} {e : Env} {s : State} {m : MethodId} {args : Array Value} {below : List Frame} {meth : Method} {c : Code} {D : va_G} {tc : Nat → ClassId} {tb : Nat → Nat} {sz : Nat} {a0 : Nat → Nat} {G : mx_F} {P : Option mx_V → mx_F → Prop}  (C : mx_C p s m args c c_Q_complete y_Q_complete.cls w_Q_complete D tc tb (mx_A a0 G sz) 5 (mx_Ok0 a0 G)) (hr : meth.sig.returnType = (some .boolean)) (hlk : meth.locks = false) : mx_all (mx_W p l e rm_Q_complete s m args below meth c (MQ below (mx_Q D tc tb a0 G sz P) args s 0 0 (mx_A a0 G sz)) D tc tb (mx_A a0 G sz) 5 (mx_Ok0 a0 G)) (t_Q_complete  P) :=
  ⟨mx_s_iload_n C d_Q_complete_0 rfl,
  mx_s_iload_n C d_Q_complete_1 rfl,
  mx_s_ic_ge C d_Q_complete_2 (by decide),
  mx_s_iload_n C d_Q_complete_5 rfl,
  mx_s_iconst C d_Q_complete_6 (by decide),
  mx_s_ic_lt C d_Q_complete_7 (by decide),
  mx_s_iconst C d_Q_complete_12 (by decide),
  mx_s_istore_n C d_Q_complete_13 rfl (by decide),
  mx_s_iload_n C d_Q_complete_14 rfl,
  mx_s_aload_n C d_Q_complete_15 rfl,
  mx_s_get (T := T_Q) (N := 6) (k := 0) C (fun w h => List.mem_cons_of_mem _ (in_Q w h)) rfl (by decide) (List.mem_cons_of_mem _ (mx_in0 (by decide +kernel) rfl)) rfl d_Q_complete_16,
  mx_s_cv0 C (m_W_count l) rfl (cwV 0 C.2.2.2.2.1 (mx_gV (fun w h => List.mem_cons_of_mem _ h) (mx_in0 (by decide +kernel) rfl) (mx_in0 (by decide +kernel) rfl) (mx_in0 (by decide +kernel) rfl) (mx_in0 (by decide +kernel) rfl) (mx_in0 (by decide +kernel) rfl)) rfl rfl rfl (by decide +kernel) ⟨by decide, by decide⟩) d_Q_complete_19 ⟨Nat.zero_le _, Nat.zero_le _⟩,
  mx_s_ic_ge C d_Q_complete_22 (by decide),
  mx_s_iconst C d_Q_complete_72 (by decide),
  mx_s_zret C hr hlk d_Q_complete_73,
  trivial⟩
set_option maxRecDepth 20000 in
set_option maxHeartbeats 2000000 in
theorem m_Q_complete (l : Launch) : mx_M l y_Q_complete w_Q_complete rm_Q_complete sp_Q_complete := by
  intro D tc tb ad As F P sz0 h
  obtain ⟨sz, wt, n, rfl, hn1, hn, h3, h15, hp⟩ := h
  refine mx_run (cc := c_Q_complete) (maxL := 5) (ret := (some .boolean)) (tab := t_Q_complete  P) (by decide) rfl D tc tb ad _ F P sz0 (Nat.le_of_ble_eq_true rfl) (fun p e s m args below meth c C hr hlk => a_Q_complete  C hr hlk) ?_
  intro Rr go
  have hF := mx_as2 h3 h15
  rw [hF]
  refine go rfl ⟨_, rfl, ?_⟩
  refine go rfl ⟨_, rfl, ?_⟩
  refine go rfl ⟨_, _, _, rfl, fun c1 => ?_, fun c1 => ?_⟩
  · exact absurd ((nI_leI (by omega) (by omega)).mp c1) (by omega)
  refine go rfl ⟨_, rfl, ?_⟩
  refine go rfl ?_
  refine go rfl ⟨_, _, _, rfl, fun c2 => ?_, fun c2 => ?_⟩
  · refine go rfl ?_
    refine go rfl ⟨_, _, rfl, ?_⟩
    refine go rfl ⟨_, rfl, ?_⟩
    refine go rfl ⟨_, rfl, ?_⟩
    refine go rfl ⟨_, _, _, _, rfl, rfl, rfl, ?_⟩
    refine go rfl ⟨_, _, _, rfl, rfl, rfl, rfl, rfl, ⟨0, rfl, rfl, ?_⟩⟩
    refine go rfl ⟨_, _, _, rfl, fun c3 => ?_, fun c3 => ?_⟩
    · refine go rfl ?_
      refine go rfl ⟨_, rfl, rfl, rfl, (Or.inl rfl), ?_⟩
      rw [← hF]
      exact hp
    · exact absurd (nI_le (Nat.le_refl _) (by decide)) c3
  · exact absurd (nI_lt (by decide) (by decide)) c2
-- LadderWords$Squares.find(I)Z
def sp_Q_find : mx_Sp := fun As F P => ∃ (sz wt n : Int32) (f : Nat → Int64), As = [mx_r 15, mx_i n] ∧ F 3 = some (e_W 0) ∧ F 15 = some (e_Q sz wt) ∧ F 17 = some (mx_qa 2 5 qo) ∧ F 24 = some (mx_la 5 f) ∧ (∀ x, P (some (mx_i (nI 0))) (mx_put F 15 x)) ∧ (∀ x y, P (some (mx_i (nI 0))) (mx_put (mx_put F 15 x) 24 y))
theorem d_Q_find_0 : decode c_Q_find 0 = .ok (.aload_n 0, 1) := by decide +kernel
theorem d_Q_find_1 : decode c_Q_find 1 = .ok (.iconst 0, 1) := by decide +kernel
theorem d_Q_find_2 : decode c_Q_find 2 = .ok (.putfield 27, 3) := by decide +kernel
theorem d_Q_find_5 : decode c_Q_find 5 = .ok (.iload_n 1, 1) := by decide +kernel
theorem d_Q_find_6 : decode c_Q_find 6 = .ok (.iconst 2, 1) := by decide +kernel
theorem d_Q_find_7 : decode c_Q_find 7 = .ok (.if_icmp .lt 8, 3) := by decide +kernel
theorem d_Q_find_10 : decode c_Q_find 10 = .ok (.iload_n 1, 1) := by decide +kernel
theorem d_Q_find_11 : decode c_Q_find 11 = .ok (.iconst 5, 1) := by decide +kernel
theorem d_Q_find_12 : decode c_Q_find 12 = .ok (.if_icmp .le 5, 3) := by decide +kernel
theorem d_Q_find_15 : decode c_Q_find 15 = .ok (.iconst 0, 1) := by decide +kernel
theorem d_Q_find_16 : decode c_Q_find 16 = .ok (.ireturn, 1) := by decide +kernel
theorem d_Q_find_17 : decode c_Q_find 17 = .ok (.aload_n 0, 1) := by decide +kernel
theorem d_Q_find_18 : decode c_Q_find 18 = .ok (.iload_n 1, 1) := by decide +kernel
theorem d_Q_find_19 : decode c_Q_find 19 = .ok (.invokevirtual 31, 3) := by decide +kernel
theorem d_Q_find_22 : decode c_Q_find 22 = .ok (.aload_n 0, 1) := by decide +kernel
theorem d_Q_find_23 : decode c_Q_find 23 = .ok (.iconst 0, 1) := by decide +kernel
theorem d_Q_find_24 : decode c_Q_find 24 = .ok (.iload_n 1, 1) := by decide +kernel
theorem d_Q_find_25 : decode c_Q_find 25 = .ok (.invokevirtual 35, 3) := by decide +kernel
theorem d_Q_find_28 : decode c_Q_find 28 = .ok (.ifCond .ne 5, 3) := by decide +kernel
theorem d_Q_find_31 : decode c_Q_find 31 = .ok (.iconst 0, 1) := by decide +kernel
theorem d_Q_find_32 : decode c_Q_find 32 = .ok (.ireturn, 1) := by decide +kernel
abbrev w_Q_find : List Cond := mx_ws y_Q_find c_Q_find 2 (some .boolean)
abbrev rm_Q_find : Room := { frames := 40, cells := 0, slots := 0, locals := 800 }
def t_Q_find  (P : Option mx_V → mx_F → Prop) : List (Nat × mx_O) := [
  (0, mx_aload 0 1),
  (1, mx_push (.inl (nI 0)) 2),
  (2, mx_puti 4 4 5),
  (5, mx_iload 1 6),
  (6, mx_push (.inl (nI 2)) 7),
  (7, mx_ic_lt 15 10),
  (10, mx_iload 1 11),
  (11, mx_push (.inl (nI 5)) 12),
  (12, mx_ic_le 17 15),
  (15, mx_push (.inl (nI 0)) 16),
  (16, mx_zret P),
  (17, mx_aload 0 18),
  (18, mx_iload 1 19),
  (19, mx_cv1 4 sp_Q_openAll 0 0 22),
  (22, mx_aload 0 23),
  (23, mx_push (.inl (nI 0)) 24),
  (24, mx_iload 1 25),
  (25, mx_cv2 4 sp_Q_complete 0 0 28),
  (28, mx_if_ne 33 31),
  (31, mx_push (.inl (nI 0)) 32),
  (32, mx_zret P)]
set_option maxRecDepth 20000 in
theorem a_Q_find  {p : Program} {l : Launch} {e : Env} {s : State} {m : MethodId} {args : Array Value} {below : List Frame} {meth : Method} {c : Code} {D : va_G} {tc : Nat → ClassId} {tb : Nat → Nat} {sz : Nat} {a0 : Nat → Nat} {G : mx_F} {P : Option mx_V → mx_F → Prop}  (C : mx_C p s m args c c_Q_find y_Q_find.cls w_Q_find D tc tb (mx_A a0 G sz) 2 (mx_Ok0 a0 G)) (hr : meth.sig.returnType = (some .boolean)) (hlk : meth.locks = false) : mx_all (mx_W p l e rm_Q_find s m args below meth c (MQ below (mx_Q D tc tb a0 G sz P) args s 0 0 (mx_A a0 G sz)) D tc tb (mx_A a0 G sz) 2 (mx_Ok0 a0 G)) (t_Q_find  P) :=
  ⟨mx_s_aload_n C d_Q_find_0 rfl,
  mx_s_iconst C d_Q_find_1 (by decide),
  mx_s_puti (T := T_Q) (N := 6) (k := 4) C (fun w h => List.mem_cons_of_mem _ (in_Q w h)) rfl ty_Q ok_Q nm_Q (by decide) (List.mem_cons_of_mem _ (mx_in0 (by decide +kernel) rfl)) rfl rfl (ok_Q 4 (by decide)) d_Q_find_2,
  mx_s_iload_n C d_Q_find_5 rfl,
  mx_s_iconst C d_Q_find_6 (by decide),
  mx_s_ic_lt C d_Q_find_7 (by decide),
  mx_s_iload_n C d_Q_find_10 rfl,
  mx_s_iconst C d_Q_find_11 (by decide),
  mx_s_ic_le C d_Q_find_12 (by decide),
  mx_s_iconst C d_Q_find_15 (by decide),
  mx_s_zret C hr hlk d_Q_find_16,
  mx_s_aload_n C d_Q_find_17 rfl,
  mx_s_iload_n C d_Q_find_18 rfl,
  mx_s_cv1 C (m_Q_openAll l) rfl (cwV 1 C.2.2.2.2.1 (mx_gV (fun w h => List.mem_cons_of_mem _ h) (mx_in0 (by decide +kernel) rfl) (mx_in0 (by decide +kernel) rfl) (mx_in0 (by decide +kernel) rfl) (mx_in0 (by decide +kernel) rfl) (mx_in0 (by decide +kernel) rfl)) rfl rfl rfl (by decide +kernel) ⟨by decide, by decide⟩) d_Q_find_19 ⟨Nat.zero_le _, Nat.zero_le _⟩,
  mx_s_aload_n C d_Q_find_22 rfl,
  mx_s_iconst C d_Q_find_23 (by decide),
  mx_s_iload_n C d_Q_find_24 rfl,
  mx_s_cv2 C (m_Q_complete l) rfl (cwV 2 C.2.2.2.2.1 (mx_gV (fun w h => List.mem_cons_of_mem _ h) (mx_in0 (by decide +kernel) rfl) (mx_in0 (by decide +kernel) rfl) (mx_in0 (by decide +kernel) rfl) (mx_in0 (by decide +kernel) rfl) (mx_in0 (by decide +kernel) rfl)) rfl rfl rfl (by decide +kernel) ⟨by decide, by decide⟩) d_Q_find_25 ⟨Nat.zero_le _, Nat.zero_le _⟩,
  mx_s_if_ne C d_Q_find_28 (by decide),
  mx_s_iconst C d_Q_find_31 (by decide),
  mx_s_zret C hr hlk d_Q_find_32,
  trivial⟩
set_option maxRecDepth 20000 in
set_option maxHeartbeats 2000000 in
theorem m_Q_find (l : Launch) : mx_M l y_Q_find w_Q_find rm_Q_find sp_Q_find := by
  intro D tc tb ad As F P sz0 h
  obtain ⟨sz, wt, n, f, rfl, h3, h15, h17, h24, hz, ho⟩ := h
  refine mx_run (cc := c_Q_find) (maxL := 2) (ret := (some .boolean)) (tab := t_Q_find  P) (by decide) rfl D tc tb ad _ F P sz0 (Nat.le_of_ble_eq_true rfl) (fun p e s m args below meth c C hr hlk => a_Q_find  C hr hlk) ?_
  intro Rr go
  have hF := mx_as4 h3 h15 h17 h24
  rw [hF]
  refine go rfl ⟨_, rfl, ?_⟩
  refine go rfl ?_
  refine go rfl ⟨_, _, _, _, rfl, rfl, (Nat.le_of_ble_eq_true rfl), ?_⟩
  refine go rfl ⟨_, rfl, ?_⟩
  refine go rfl ?_
  refine go rfl ⟨_, _, _, rfl, fun c1 => ?_, fun c1 => ?_⟩
  · refine go rfl ?_
    refine go rfl ⟨_, rfl, rfl, rfl, (Or.inl rfl), ?_⟩
    rw [← hF]
    exact hz _
  refine go rfl ⟨_, rfl, ?_⟩
  refine go rfl ?_
  refine go rfl ⟨_, _, _, rfl, fun c2 => ?_, fun c2 => ?_⟩
  · obtain ⟨k, hk, rfl⟩ := nI_of2 (x := n) (M := nI 5) (n := 5) rfl (fun h => c1 (Int32.lt_trans h (by decide))) c2
    have hk2 : 2 ≤ k := by
      rcases Nat.lt_or_ge k 2 with q | q
      · exact absurd (nI_lt q (by decide)) c1
      · exact q
    refine go rfl ⟨_, rfl, ?_⟩
    refine go rfl ⟨_, rfl, ?_⟩
    refine go rfl ⟨_, _, _, _, rfl, rfl, rfl, rfl, rfl, ⟨_, _, k, f, rfl, hk, rfl, rfl, rfl, rfl, fun f' => ?_⟩⟩
    refine go rfl ⟨_, rfl, ?_⟩
    refine go rfl ?_
    refine go rfl ⟨_, rfl, ?_⟩
    refine go rfl ⟨_, _, _, _, _, rfl, rfl, rfl, rfl, rfl, ⟨_, _, k, rfl, by omega, hk, rfl, rfl, ?_⟩⟩
    refine go rfl ⟨_, _, rfl, fun c3 => ?_, fun c3 => ?_⟩
    · exact absurd rfl c3
    refine go rfl ?_
    refine go rfl ⟨_, rfl, rfl, rfl, (Or.inl rfl), ?_⟩
    rw [← hF]
    exact ho _ _
  · refine go rfl ?_
    refine go rfl ⟨_, rfl, rfl, rfl, (Or.inl rfl), ?_⟩
    rw [← hF]
    exact hz _
-- LadderWords.square(I)Z
def sp_L_square : mx_Sp := fun As F P => ∃ (sz wt n : Int32) (f : Nat → Int64), As = [mx_r 0, mx_i n] ∧ F 0 = some e_L ∧ F 3 = some (e_W 0) ∧ F 15 = some (e_Q sz wt) ∧ F 17 = some (mx_qa 2 5 qo) ∧ F 24 = some (mx_la 5 f) ∧ (∀ x, P (some (mx_i (nI 0))) (mx_put F 15 x)) ∧ (∀ x y, P (some (mx_i (nI 0))) (mx_put (mx_put F 15 x) 24 y))
theorem d_L_square_0 : decode c_L_square 0 = .ok (.aload_n 0, 1) := by decide +kernel
theorem d_L_square_1 : decode c_L_square 1 = .ok (.getfield 42, 3) := by decide +kernel
theorem d_L_square_4 : decode c_L_square 4 = .ok (.iload_n 1, 1) := by decide +kernel
theorem d_L_square_5 : decode c_L_square 5 = .ok (.invokevirtual 86, 3) := by decide +kernel
theorem d_L_square_8 : decode c_L_square 8 = .ok (.ireturn, 1) := by decide +kernel
abbrev w_L_square : List Cond := mx_ws y_L_square c_L_square 2 (some .boolean)
abbrev rm_L_square : Room := { frames := 50, cells := 0, slots := 0, locals := 1000 }
def t_L_square  (P : Option mx_V → mx_F → Prop) : List (Nat × mx_O) := [
  (0, mx_aload 0 1),
  (1, mx_get 6 4 4),
  (4, mx_iload 1 5),
  (5, mx_cv1 4 sp_Q_find 0 0 8),
  (8, mx_zret P)]
set_option maxRecDepth 20000 in
theorem a_L_square  {p : Program} {l : Launch} {e : Env} {s : State} {m : MethodId} {args : Array Value} {below : List Frame} {meth : Method} {c : Code} {D : va_G} {tc : Nat → ClassId} {tb : Nat → Nat} {sz : Nat} {a0 : Nat → Nat} {G : mx_F} {P : Option mx_V → mx_F → Prop}  (C : mx_C p s m args c c_L_square y_L_square.cls w_L_square D tc tb (mx_A a0 G sz) 2 (mx_Ok0 a0 G)) (hr : meth.sig.returnType = (some .boolean)) (hlk : meth.locks = false) : mx_all (mx_W p l e rm_L_square s m args below meth c (MQ below (mx_Q D tc tb a0 G sz P) args s 0 0 (mx_A a0 G sz)) D tc tb (mx_A a0 G sz) 2 (mx_Ok0 a0 G)) (t_L_square  P) :=
  ⟨mx_s_aload_n C d_L_square_0 rfl,
  mx_s_get (T := T_L) (N := 6) (k := 4) C (fun w h => List.mem_cons_of_mem _ (in_L w h)) rfl (by decide) (List.mem_cons_of_mem _ (mx_in0 (by decide +kernel) rfl)) rfl d_L_square_1,
  mx_s_iload_n C d_L_square_4 rfl,
  mx_s_cv1 C (m_Q_find l) rfl (cwV 1 C.2.2.2.2.1 (mx_gV (fun w h => List.mem_cons_of_mem _ h) (mx_in0 (by decide +kernel) rfl) (mx_in0 (by decide +kernel) rfl) (mx_in0 (by decide +kernel) rfl) (mx_in0 (by decide +kernel) rfl) (mx_in0 (by decide +kernel) rfl)) rfl rfl rfl (by decide +kernel) ⟨by decide, by decide⟩) d_L_square_5 ⟨Nat.zero_le _, Nat.zero_le _⟩,
  mx_s_zret C hr hlk d_L_square_8,
  trivial⟩
set_option maxRecDepth 20000 in
set_option maxHeartbeats 2000000 in
theorem m_L_square (l : Launch) : mx_M l y_L_square w_L_square rm_L_square sp_L_square := by
  intro D tc tb ad As F P sz0 h
  obtain ⟨sz, wt, n, f, rfl, h0, h3, h15, h17, h24, hz, ho⟩ := h
  refine mx_run (cc := c_L_square) (maxL := 2) (ret := (some .boolean)) (tab := t_L_square  P) (by decide) rfl D tc tb ad _ F P sz0 (Nat.le_of_ble_eq_true rfl) (fun p e s m args below meth c C hr hlk => a_L_square  C hr hlk) ?_
  intro Rr go
  have hF := mx_as5 h0 h3 h15 h17 h24
  rw [hF]
  refine go rfl ⟨_, rfl, ?_⟩
  refine go rfl ⟨_, _, _, _, rfl, rfl, rfl, ?_⟩
  refine go rfl ⟨_, rfl, ?_⟩
  refine go rfl ⟨_, _, _, _, rfl, rfl, rfl, rfl, rfl, ⟨sz, wt, n, f, rfl, rfl, rfl, rfl, rfl, fun x => ?_, fun x y => ?_⟩⟩
  · refine go rfl ⟨_, rfl, rfl, rfl, (Or.inl rfl), ?_⟩
    rw [← hF]
    exact hz x
  · refine go rfl ⟨_, rfl, rfl, rfl, (Or.inl rfl), ?_⟩
    rw [← hF]
    exact ho x y
end
section
-- LadderWordsModel.unit(I)Z
def sp_M_unit : mx_Sp := fun As F P => ∃ (th mn sp : Int32) (wy : Int64) (kp sd : Int32) (n : Nat) (f : Nat → Int32) (u : Int32), As = [mx_r 40, mx_i u] ∧ F 40 = some (e_M th (nI n) mn sp wy kp sd) ∧ F 41 = some (mx_ia 12 f) ∧ n ≤ 12 ∧ (uc n u → P (some (mx_i (nI 0))) (mx_put F 40 (e_M (nI 0) (nI n) mn sp wy kp sd))) ∧ (¬ uc n u → P (some (mx_i (nI 1))) (mx_put (mx_put (mx_put F 40 (e_M (nI 0) (nI n) mn sp wy kp sd)) 41 (mx_ia 12 (upd f n u))) 40 (e_M (nI 0) (nI (n + 1)) mn sp wy kp sd)))
theorem d_M_unit_0 : decode c_M_unit 0 = .ok (.aload_n 0, 1) := by decide +kernel
theorem d_M_unit_1 : decode c_M_unit 1 = .ok (.iconst 0, 1) := by decide +kernel
theorem d_M_unit_2 : decode c_M_unit 2 = .ok (.putfield 48, 3) := by decide +kernel
theorem d_M_unit_5 : decode c_M_unit 5 = .ok (.iload_n 1, 1) := by decide +kernel
theorem d_M_unit_6 : decode c_M_unit 6 = .ok (.bipush 97, 2) := by decide +kernel
theorem d_M_unit_8 : decode c_M_unit 8 = .ok (.if_icmp .lt 18, 3) := by decide +kernel
theorem d_M_unit_11 : decode c_M_unit 11 = .ok (.iload_n 1, 1) := by decide +kernel
theorem d_M_unit_12 : decode c_M_unit 12 = .ok (.bipush 122, 2) := by decide +kernel
theorem d_M_unit_14 : decode c_M_unit 14 = .ok (.if_icmp .gt 12, 3) := by decide +kernel
theorem d_M_unit_17 : decode c_M_unit 17 = .ok (.aload_n 0, 1) := by decide +kernel
theorem d_M_unit_18 : decode c_M_unit 18 = .ok (.getfield 54, 3) := by decide +kernel
theorem d_M_unit_21 : decode c_M_unit 21 = .ok (.bipush 12, 2) := by decide +kernel
theorem d_M_unit_23 : decode c_M_unit 23 = .ok (.if_icmp .ne 5, 3) := by decide +kernel
theorem d_M_unit_26 : decode c_M_unit 26 = .ok (.iconst 0, 1) := by decide +kernel
theorem d_M_unit_27 : decode c_M_unit 27 = .ok (.ireturn, 1) := by decide +kernel
theorem d_M_unit_28 : decode c_M_unit 28 = .ok (.aload_n 0, 1) := by decide +kernel
theorem d_M_unit_29 : decode c_M_unit 29 = .ok (.getfield 7, 3) := by decide +kernel
theorem d_M_unit_32 : decode c_M_unit 32 = .ok (.aload_n 0, 1) := by decide +kernel
theorem d_M_unit_33 : decode c_M_unit 33 = .ok (.getfield 54, 3) := by decide +kernel
theorem d_M_unit_36 : decode c_M_unit 36 = .ok (.iload_n 1, 1) := by decide +kernel
theorem d_M_unit_37 : decode c_M_unit 37 = .ok (.iastore, 1) := by decide +kernel
theorem d_M_unit_38 : decode c_M_unit 38 = .ok (.aload_n 0, 1) := by decide +kernel
theorem d_M_unit_39 : decode c_M_unit 39 = .ok (.dup, 1) := by decide +kernel
theorem d_M_unit_40 : decode c_M_unit 40 = .ok (.getfield 54, 3) := by decide +kernel
theorem d_M_unit_43 : decode c_M_unit 43 = .ok (.iconst 1, 1) := by decide +kernel
theorem d_M_unit_44 : decode c_M_unit 44 = .ok (.iadd, 1) := by decide +kernel
theorem d_M_unit_45 : decode c_M_unit 45 = .ok (.putfield 54, 3) := by decide +kernel
theorem d_M_unit_48 : decode c_M_unit 48 = .ok (.iconst 1, 1) := by decide +kernel
theorem d_M_unit_49 : decode c_M_unit 49 = .ok (.ireturn, 1) := by decide +kernel
abbrev w_M_unit : List Cond := mx_ws y_M_unit c_M_unit 2 (some .boolean)
abbrev rm_M_unit : Room := { frames := 10, cells := 0, slots := 0, locals := 200 }
def t_M_unit  (P : Option mx_V → mx_F → Prop) : List (Nat × mx_O) := [
  (0, mx_aload 0 1),
  (1, mx_push (.inl (nI 0)) 2),
  (2, mx_puti 7 0 5),
  (5, mx_iload 1 6),
  (6, mx_push (.inl (nI 97)) 8),
  (8, mx_ic_lt 26 11),
  (11, mx_iload 1 12),
  (12, mx_push (.inl (nI 122)) 14),
  (14, mx_ic_gt 26 17),
  (17, mx_aload 0 18),
  (18, mx_get 7 1 21),
  (21, mx_push (.inl (nI 12)) 23),
  (23, mx_ic_ne 28 26),
  (26, mx_push (.inl (nI 0)) 27),
  (27, mx_zret P),
  (28, mx_aload 0 29),
  (29, mx_get 7 2 32),
  (32, mx_aload 0 33),
  (33, mx_get 7 1 36),
  (36, mx_iload 1 37),
  (37, mx_iast 38),
  (38, mx_aload 0 39),
  (39, mx_dup 40),
  (40, mx_get 7 1 43),
  (43, mx_push (.inl (nI 1)) 44),
  (44, mx_iadd 45),
  (45, mx_puti 7 1 48),
  (48, mx_push (.inl (nI 1)) 49),
  (49, mx_zret P)]
set_option maxRecDepth 20000 in
theorem a_M_unit  {p : Program} {l : Launch} {e : Env} {s : State} {m : MethodId} {args : Array Value} {below : List Frame} {meth : Method} {c : Code} {D : va_G} {tc : Nat → ClassId} {tb : Nat → Nat} {sz : Nat} {a0 : Nat → Nat} {G : mx_F} {P : Option mx_V → mx_F → Prop}  (C : mx_C p s m args c c_M_unit y_M_unit.cls w_M_unit D tc tb (mx_A a0 G sz) 2 (mx_Ok0 a0 G)) (hr : meth.sig.returnType = (some .boolean)) (hlk : meth.locks = false) : mx_all (mx_W p l e rm_M_unit s m args below meth c (MQ below (mx_Q D tc tb a0 G sz P) args s 0 0 (mx_A a0 G sz)) D tc tb (mx_A a0 G sz) 2 (mx_Ok0 a0 G)) (t_M_unit  P) :=
  ⟨mx_s_aload_n C d_M_unit_0 rfl,
  mx_s_iconst C d_M_unit_1 (by decide),
  mx_s_puti (T := T_M) (N := 18) (k := 0) C (fun w h => List.mem_cons_of_mem _ (in_M w h)) rfl ty_M ok_M nm_M (by decide) (List.mem_cons_of_mem _ (mx_in0 (by decide +kernel) rfl)) rfl rfl (ok_M 0 (by decide)) d_M_unit_2,
  mx_s_iload_n C d_M_unit_5 rfl,
  mx_s_bipush C d_M_unit_6 (by decide),
  mx_s_ic_lt C d_M_unit_8 (by decide),
  mx_s_iload_n C d_M_unit_11 rfl,
  mx_s_bipush C d_M_unit_12 (by decide),
  mx_s_ic_gt C d_M_unit_14 (by decide),
  mx_s_aload_n C d_M_unit_17 rfl,
  mx_s_get (T := T_M) (N := 18) (k := 1) C (fun w h => List.mem_cons_of_mem _ (in_M w h)) rfl (by decide) (List.mem_cons_of_mem _ (mx_in0 (by decide +kernel) rfl)) rfl d_M_unit_18,
  mx_s_bipush C d_M_unit_21 (by decide),
  mx_s_ic_ne C d_M_unit_23 (by decide),
  mx_s_iconst C d_M_unit_26 (by decide),
  mx_s_zret C hr hlk d_M_unit_27,
  mx_s_aload_n C d_M_unit_28 rfl,
  mx_s_get (T := T_M) (N := 18) (k := 2) C (fun w h => List.mem_cons_of_mem _ (in_M w h)) rfl (by decide) (List.mem_cons_of_mem _ (mx_in0 (by decide +kernel) rfl)) rfl d_M_unit_29,
  mx_s_aload_n C d_M_unit_32 rfl,
  mx_s_get (T := T_M) (N := 18) (k := 1) C (fun w h => List.mem_cons_of_mem _ (in_M w h)) rfl (by decide) (List.mem_cons_of_mem _ (mx_in0 (by decide +kernel) rfl)) rfl d_M_unit_33,
  mx_s_iload_n C d_M_unit_36 rfl,
  mx_s_iast C d_M_unit_37,
  mx_s_aload_n C d_M_unit_38 rfl,
  mx_s_dup C d_M_unit_39,
  mx_s_get (T := T_M) (N := 18) (k := 1) C (fun w h => List.mem_cons_of_mem _ (in_M w h)) rfl (by decide) (List.mem_cons_of_mem _ (mx_in0 (by decide +kernel) rfl)) rfl d_M_unit_40,
  mx_s_iconst C d_M_unit_43 (by decide),
  mx_s_iadd C d_M_unit_44,
  mx_s_puti (T := T_M) (N := 18) (k := 1) C (fun w h => List.mem_cons_of_mem _ (in_M w h)) rfl ty_M ok_M nm_M (by decide) (List.mem_cons_of_mem _ (mx_in0 (by decide +kernel) rfl)) rfl rfl (ok_M 1 (by decide)) d_M_unit_45,
  mx_s_iconst C d_M_unit_48 (by decide),
  mx_s_zret C hr hlk d_M_unit_49,
  trivial⟩
set_option maxRecDepth 20000 in
set_option maxHeartbeats 2000000 in
theorem m_M_unit (l : Launch) : mx_M l y_M_unit w_M_unit rm_M_unit sp_M_unit := by
  intro D tc tb ad As F P sz0 h
  obtain ⟨th, mn, sp, wy, kp, sd, n, f, u, rfl, h1, h2, hn, hz, ho⟩ := h
  refine mx_run (cc := c_M_unit) (maxL := 2) (ret := (some .boolean)) (tab := t_M_unit  P) (by decide) rfl D tc tb ad _ F P sz0 (Nat.le_of_ble_eq_true rfl) (fun p e s m args below meth c C hr hlk => a_M_unit  C hr hlk) ?_
  intro Rr go
  have hF := mx_as2 h1 h2
  rw [hF]
  have z : uc n u → Rr 26 [some (mx_r 40), some (mx_i u)] [] (mx_put (mx_put (mx_put F 40 (e_M th (nI n) mn sp wy kp sd)) 41 (mx_ia 12 f)) 40 (e_M (nI 0) (nI n) mn sp wy kp sd)) 0 0 := by
    intro hc
    refine go rfl ?_
    refine go rfl ⟨_, rfl, rfl, rfl, (Or.inl rfl), ?_⟩
    rw [← hF]
    exact hz hc
  refine go rfl ⟨_, rfl, ?_⟩
  refine go rfl ?_
  refine go rfl ⟨_, _, _, _, rfl, rfl, (Nat.le_of_ble_eq_true rfl), ?_⟩
  refine go rfl ⟨_, rfl, ?_⟩
  refine go rfl ?_
  refine go rfl ⟨_, _, _, rfl, fun c1 => ?_, fun c1 => ?_⟩
  · exact z (Or.inl c1)
  refine go rfl ⟨_, rfl, ?_⟩
  refine go rfl ?_
  refine go rfl ⟨_, _, _, rfl, fun c2 => ?_, fun c2 => ?_⟩
  · exact z (Or.inr (Or.inl c2))
  refine go rfl ⟨_, rfl, ?_⟩
  refine go rfl ⟨_, _, _, _, rfl, rfl, rfl, ?_⟩
  refine go rfl ?_
  refine go rfl ⟨_, _, _, rfl, fun c3 => ?_, fun c3 => ?_⟩
  · have hlt : n < 12 := by
      rcases Nat.lt_or_ge n 12 with q | q
      · exact q
      · exact absurd (by rw [show n = 12 by omega]) c3
    refine go rfl ⟨_, rfl, ?_⟩
    refine go rfl ⟨_, _, _, _, rfl, rfl, rfl, ?_⟩
    refine go rfl ⟨_, rfl, ?_⟩
    refine go rfl ⟨_, _, _, _, rfl, rfl, rfl, ?_⟩
    refine go rfl ⟨_, rfl, ?_⟩
    refine go rfl ⟨_, _, _, _, _, _, rfl, rfl, (vp_in_nI hlt (by omega)), ?_⟩
    rw [nI_clamp (by omega)]
    refine go rfl ⟨_, rfl, ?_⟩
    refine go rfl ⟨_, _, rfl, rfl, ?_⟩
    refine go rfl ⟨_, _, _, _, rfl, rfl, rfl, ?_⟩
    refine go rfl ?_
    refine go rfl ⟨_, _, _, rfl, ?_⟩
    rw [nI_add]
    refine go rfl ⟨_, _, _, _, rfl, rfl, (Nat.le_of_ble_eq_true rfl), ?_⟩
    refine go rfl ?_
    refine go rfl ⟨_, rfl, rfl, rfl, (Or.inr rfl), ?_⟩
    rw [← hF]
    refine ho (fun hc => ?_)
    rcases hc with hc | hc | hc
    · exact c1 hc
    · exact c2 hc
    · exact absurd ((nI_leI (by omega) (by omega)).mp hc) (by omega)
  · exact z (Or.inr (Or.inr (by rw [c3]; decide)))
-- LadderWordsModel.isWord(I)Z
def sp_M_isWord : mx_Sp := fun As F P => ∃ (th sz sp : Int32) (wy : Int64) (kp sd : Int32) (n : Nat) (w : Int32), As = [mx_r 40, mx_i w] ∧ F 40 = some (e_M th sz (nI n) sp wy kp sd) ∧ ((w < 0 ∨ nI n ≤ w) → P (some (mx_i (nI 0))) F) ∧ (¬ (w < 0 ∨ nI n ≤ w) → P (some (mx_i (nI 1))) F)
theorem d_M_isWord_0 : decode c_M_isWord 0 = .ok (.iload_n 1, 1) := by decide +kernel
theorem d_M_isWord_1 : decode c_M_isWord 1 = .ok (.ifCond .lt 15, 3) := by decide +kernel
theorem d_M_isWord_4 : decode c_M_isWord 4 = .ok (.iload_n 1, 1) := by decide +kernel
theorem d_M_isWord_5 : decode c_M_isWord 5 = .ok (.aload_n 0, 1) := by decide +kernel
theorem d_M_isWord_6 : decode c_M_isWord 6 = .ok (.getfield 51, 3) := by decide +kernel
theorem d_M_isWord_9 : decode c_M_isWord 9 = .ok (.if_icmp .ge 7, 3) := by decide +kernel
theorem d_M_isWord_12 : decode c_M_isWord 12 = .ok (.iconst 1, 1) := by decide +kernel
theorem d_M_isWord_13 : decode c_M_isWord 13 = .ok (.goto 4, 3) := by decide +kernel
theorem d_M_isWord_16 : decode c_M_isWord 16 = .ok (.iconst 0, 1) := by decide +kernel
theorem d_M_isWord_17 : decode c_M_isWord 17 = .ok (.ireturn, 1) := by decide +kernel
abbrev w_M_isWord : List Cond := mx_ws y_M_isWord c_M_isWord 2 (some .boolean)
abbrev rm_M_isWord : Room := { frames := 10, cells := 0, slots := 0, locals := 200 }
def t_M_isWord  (P : Option mx_V → mx_F → Prop) : List (Nat × mx_O) := [
  (0, mx_iload 1 1),
  (1, mx_if_lt 16 4),
  (4, mx_iload 1 5),
  (5, mx_aload 0 6),
  (6, mx_get 7 3 9),
  (9, mx_ic_ge 16 12),
  (12, mx_push (.inl (nI 1)) 13),
  (13, mx_goto 17),
  (16, mx_push (.inl (nI 0)) 17),
  (17, mx_zret P)]
set_option maxRecDepth 20000 in
theorem a_M_isWord  {p : Program} {l : Launch} {e : Env} {s : State} {m : MethodId} {args : Array Value} {below : List Frame} {meth : Method} {c : Code} {D : va_G} {tc : Nat → ClassId} {tb : Nat → Nat} {sz : Nat} {a0 : Nat → Nat} {G : mx_F} {P : Option mx_V → mx_F → Prop}  (C : mx_C p s m args c c_M_isWord y_M_isWord.cls w_M_isWord D tc tb (mx_A a0 G sz) 2 (mx_Ok0 a0 G)) (hr : meth.sig.returnType = (some .boolean)) (hlk : meth.locks = false) : mx_all (mx_W p l e rm_M_isWord s m args below meth c (MQ below (mx_Q D tc tb a0 G sz P) args s 0 0 (mx_A a0 G sz)) D tc tb (mx_A a0 G sz) 2 (mx_Ok0 a0 G)) (t_M_isWord  P) :=
  ⟨mx_s_iload_n C d_M_isWord_0 rfl,
  mx_s_if_lt C d_M_isWord_1 (by decide),
  mx_s_iload_n C d_M_isWord_4 rfl,
  mx_s_aload_n C d_M_isWord_5 rfl,
  mx_s_get (T := T_M) (N := 18) (k := 3) C (fun w h => List.mem_cons_of_mem _ (in_M w h)) rfl (by decide) (List.mem_cons_of_mem _ (mx_in0 (by decide +kernel) rfl)) rfl d_M_isWord_6,
  mx_s_ic_ge C d_M_isWord_9 (by decide),
  mx_s_iconst C d_M_isWord_12 (by decide),
  mx_s_goto C d_M_isWord_13 (by decide),
  mx_s_iconst C d_M_isWord_16 (by decide),
  mx_s_zret C hr hlk d_M_isWord_17,
  trivial⟩
set_option maxRecDepth 20000 in
set_option maxHeartbeats 2000000 in
theorem m_M_isWord (l : Launch) : mx_M l y_M_isWord w_M_isWord rm_M_isWord sp_M_isWord := by
  intro D tc tb ad As F P sz0 h
  obtain ⟨th, sz, sp, wy, kp, sd, n, w, rfl, h1, hz, ho⟩ := h
  refine mx_run (cc := c_M_isWord) (maxL := 2) (ret := (some .boolean)) (tab := t_M_isWord  P) (by decide) rfl D tc tb ad _ F P sz0 (Nat.le_of_ble_eq_true rfl) (fun p e s m args below meth c C hr hlk => a_M_isWord  C hr hlk) ?_
  intro Rr go
  have hF := mx_as1 h1
  rw [hF]
  refine go rfl ⟨_, rfl, ?_⟩
  refine go rfl ⟨_, _, rfl, fun c1 => ?_, fun c1 => ?_⟩
  · refine go rfl ?_
    refine go rfl ⟨_, rfl, rfl, rfl, (Or.inl rfl), ?_⟩
    rw [← hF]
    exact hz (Or.inl c1)
  refine go rfl ⟨_, rfl, ?_⟩
  refine go rfl ⟨_, rfl, ?_⟩
  refine go rfl ⟨_, _, _, _, rfl, rfl, rfl, ?_⟩
  refine go rfl ⟨_, _, _, rfl, fun c2 => ?_, fun c2 => ?_⟩
  · refine go rfl ?_
    refine go rfl ⟨_, rfl, rfl, rfl, (Or.inl rfl), ?_⟩
    rw [← hF]
    exact hz (Or.inr c2)
  refine go rfl ?_
  refine go rfl ?_
  refine go rfl ⟨_, rfl, rfl, rfl, (Or.inr rfl), ?_⟩
  rw [← hF]
  exact ho (fun h => h.elim c1 c2)
-- LadderWordsModel.isCell(II)Z
def sp_M_isCell : mx_Sp := fun As F P => ∃ x y : Int32, As = [mx_i x, mx_i y] ∧ (ins x y → P (some (mx_i (nI 1))) F) ∧ (¬ ins x y → P (some (mx_i (nI 0))) F)
theorem d_M_isCell_0 : decode c_M_isCell 0 = .ok (.iload_n 0, 1) := by decide +kernel
theorem d_M_isCell_1 : decode c_M_isCell 1 = .ok (.ifCond .lt 23, 3) := by decide +kernel
theorem d_M_isCell_4 : decode c_M_isCell 4 = .ok (.iload_n 0, 1) := by decide +kernel
theorem d_M_isCell_5 : decode c_M_isCell 5 = .ok (.bipush 8, 2) := by decide +kernel
theorem d_M_isCell_7 : decode c_M_isCell 7 = .ok (.if_icmp .ge 17, 3) := by decide +kernel
theorem d_M_isCell_10 : decode c_M_isCell 10 = .ok (.iload_n 1, 1) := by decide +kernel
theorem d_M_isCell_11 : decode c_M_isCell 11 = .ok (.ifCond .lt 13, 3) := by decide +kernel
theorem d_M_isCell_14 : decode c_M_isCell 14 = .ok (.iload_n 1, 1) := by decide +kernel
theorem d_M_isCell_15 : decode c_M_isCell 15 = .ok (.bipush 8, 2) := by decide +kernel
theorem d_M_isCell_17 : decode c_M_isCell 17 = .ok (.if_icmp .ge 7, 3) := by decide +kernel
theorem d_M_isCell_20 : decode c_M_isCell 20 = .ok (.iconst 1, 1) := by decide +kernel
theorem d_M_isCell_21 : decode c_M_isCell 21 = .ok (.goto 4, 3) := by decide +kernel
theorem d_M_isCell_24 : decode c_M_isCell 24 = .ok (.iconst 0, 1) := by decide +kernel
theorem d_M_isCell_25 : decode c_M_isCell 25 = .ok (.ireturn, 1) := by decide +kernel
abbrev w_M_isCell : List Cond := mx_ws y_M_isCell c_M_isCell 2 (some .boolean)
abbrev rm_M_isCell : Room := { frames := 10, cells := 0, slots := 0, locals := 200 }
def t_M_isCell  (P : Option mx_V → mx_F → Prop) : List (Nat × mx_O) := [
  (0, mx_iload 0 1),
  (1, mx_if_lt 24 4),
  (4, mx_iload 0 5),
  (5, mx_push (.inl (nI 8)) 7),
  (7, mx_ic_ge 24 10),
  (10, mx_iload 1 11),
  (11, mx_if_lt 24 14),
  (14, mx_iload 1 15),
  (15, mx_push (.inl (nI 8)) 17),
  (17, mx_ic_ge 24 20),
  (20, mx_push (.inl (nI 1)) 21),
  (21, mx_goto 25),
  (24, mx_push (.inl (nI 0)) 25),
  (25, mx_zret P)]
set_option maxRecDepth 20000 in
theorem a_M_isCell  {p : Program} {l : Launch} {e : Env} {s : State} {m : MethodId} {args : Array Value} {below : List Frame} {meth : Method} {c : Code} {D : va_G} {tc : Nat → ClassId} {tb : Nat → Nat} {sz : Nat} {a0 : Nat → Nat} {G : mx_F} {P : Option mx_V → mx_F → Prop}  (C : mx_C p s m args c c_M_isCell y_M_isCell.cls w_M_isCell D tc tb (mx_A a0 G sz) 2 (mx_Ok0 a0 G)) (hr : meth.sig.returnType = (some .boolean)) (hlk : meth.locks = false) : mx_all (mx_W p l e rm_M_isCell s m args below meth c (MQ below (mx_Q D tc tb a0 G sz P) args s 0 0 (mx_A a0 G sz)) D tc tb (mx_A a0 G sz) 2 (mx_Ok0 a0 G)) (t_M_isCell  P) :=
  ⟨mx_s_iload_n C d_M_isCell_0 rfl,
  mx_s_if_lt C d_M_isCell_1 (by decide),
  mx_s_iload_n C d_M_isCell_4 rfl,
  mx_s_bipush C d_M_isCell_5 (by decide),
  mx_s_ic_ge C d_M_isCell_7 (by decide),
  mx_s_iload_n C d_M_isCell_10 rfl,
  mx_s_if_lt C d_M_isCell_11 (by decide),
  mx_s_iload_n C d_M_isCell_14 rfl,
  mx_s_bipush C d_M_isCell_15 (by decide),
  mx_s_ic_ge C d_M_isCell_17 (by decide),
  mx_s_iconst C d_M_isCell_20 (by decide),
  mx_s_goto C d_M_isCell_21 (by decide),
  mx_s_iconst C d_M_isCell_24 (by decide),
  mx_s_zret C hr hlk d_M_isCell_25,
  trivial⟩
set_option maxRecDepth 20000 in
set_option maxHeartbeats 2000000 in
theorem m_M_isCell (l : Launch) : mx_M l y_M_isCell w_M_isCell rm_M_isCell sp_M_isCell := by
  intro D tc tb ad As F P sz0 h
  obtain ⟨x, y, rfl, ho, hz⟩ := h
  refine mx_run (cc := c_M_isCell) (maxL := 2) (ret := (some .boolean)) (tab := t_M_isCell  P) (by decide) rfl D tc tb ad _ F P sz0 (Nat.le_of_ble_eq_true rfl) (fun p e s m args below meth c C hr hlk => a_M_isCell  C hr hlk) ?_
  intro Rr go
  have z : ¬ ins x y → Rr 24 [some (mx_i x), some (mx_i y)] [] F 0 0 := by
    intro hc
    refine go rfl ?_
    refine go rfl ⟨_, rfl, rfl, rfl, (Or.inl rfl), ?_⟩
    exact hz hc
  refine go rfl ⟨_, rfl, ?_⟩
  refine go rfl ⟨_, _, rfl, fun c1 => ?_, fun c1 => ?_⟩
  · exact z (fun h => h (Or.inl c1))
  refine go rfl ⟨_, rfl, ?_⟩
  refine go rfl ?_
  refine go rfl ⟨_, _, _, rfl, fun c2 => ?_, fun c2 => ?_⟩
  · exact z (fun h => h (Or.inr (Or.inl c2)))
  refine go rfl ⟨_, rfl, ?_⟩
  refine go rfl ⟨_, _, rfl, fun c3 => ?_, fun c3 => ?_⟩
  · exact z (fun h => h (Or.inr (Or.inr (Or.inl c3))))
  refine go rfl ⟨_, rfl, ?_⟩
  refine go rfl ?_
  refine go rfl ⟨_, _, _, rfl, fun c4 => ?_, fun c4 => ?_⟩
  · exact z (fun h => h (Or.inr (Or.inr (Or.inr c4))))
  refine go rfl ?_
  refine go rfl ?_
  refine go rfl ⟨_, rfl, rfl, rfl, (Or.inr rfl), ?_⟩
  refine ho (fun h => ?_)
  rcases h with h | h | h | h
  · exact c1 h
  · exact c2 h
  · exact c3 h
  · exact c4 h
-- LadderWordsModel.enter()I
/-- the row is empty -/
def sp_M_enter : mx_Sp := fun As F P => ∃ (th mn sp : Int32) (wy : Int64) (kp sd : Int32), As = [mx_r 40] ∧ F 40 = some (e_M th (nI 0) mn sp wy kp sd) ∧ P (some (mx_i (-1))) F
theorem d_M_enter_0 : decode c_M_enter 0 = .ok (.aload_n 0, 1) := by decide +kernel
theorem d_M_enter_1 : decode c_M_enter 1 = .ok (.getfield 54, 3) := by decide +kernel
theorem d_M_enter_4 : decode c_M_enter 4 = .ok (.ifCond .eq 12, 3) := by decide +kernel
theorem d_M_enter_16 : decode c_M_enter 16 = .ok (.iconst (-1), 1) := by decide +kernel
theorem d_M_enter_17 : decode c_M_enter 17 = .ok (.ireturn, 1) := by decide +kernel
abbrev w_M_enter : List Cond := mx_ws y_M_enter c_M_enter 2 (some .int)
abbrev rm_M_enter : Room := { frames := 30, cells := 0, slots := 0, locals := 600 }
def t_M_enter  (P : Option mx_V → mx_F → Prop) : List (Nat × mx_O) := [
  (0, mx_aload 0 1),
  (1, mx_get 7 1 4),
  (4, mx_if_eq 16 7),
  (16, mx_push (.inl (-1)) 17),
  (17, mx_iret P)]
set_option maxRecDepth 20000 in
theorem a_M_enter  {p : Program} {l : Launch} {e : Env} {s : State} {m : MethodId} {args : Array Value} {below : List Frame} {meth : Method} {c : Code} {D : va_G} {tc : Nat → ClassId} {tb : Nat → Nat} {sz : Nat} {a0 : Nat → Nat} {G : mx_F} {P : Option mx_V → mx_F → Prop}  (C : mx_C p s m args c c_M_enter y_M_enter.cls w_M_enter D tc tb (mx_A a0 G sz) 2 (mx_Ok0 a0 G)) (hr : meth.sig.returnType = (some .int)) (hlk : meth.locks = false) : mx_all (mx_W p l e rm_M_enter s m args below meth c (MQ below (mx_Q D tc tb a0 G sz P) args s 0 0 (mx_A a0 G sz)) D tc tb (mx_A a0 G sz) 2 (mx_Ok0 a0 G)) (t_M_enter  P) :=
  ⟨mx_s_aload_n C d_M_enter_0 rfl,
  mx_s_get (T := T_M) (N := 18) (k := 1) C (fun w h => List.mem_cons_of_mem _ (in_M w h)) rfl (by decide) (List.mem_cons_of_mem _ (mx_in0 (by decide +kernel) rfl)) rfl d_M_enter_1,
  mx_s_if_eq C d_M_enter_4 (by decide),
  mx_s_iconst C d_M_enter_16 (by decide),
  mx_s_iret C hr hlk d_M_enter_17,
  trivial⟩
set_option maxRecDepth 20000 in
set_option maxHeartbeats 2000000 in
theorem m_M_enter (l : Launch) : mx_M l y_M_enter w_M_enter rm_M_enter sp_M_enter := by
  intro D tc tb ad As F P sz0 h
  obtain ⟨th, mn, sp, wy, kp, sd, rfl, h1, hp⟩ := h
  refine mx_run (cc := c_M_enter) (maxL := 2) (ret := (some .int)) (tab := t_M_enter  P) (by decide) rfl D tc tb ad _ F P sz0 (Nat.le_of_ble_eq_true rfl) (fun p e s m args below meth c C hr hlk => a_M_enter  C hr hlk) ?_
  intro Rr go
  have hF := mx_as1 h1
  rw [hF]
  refine go rfl ⟨_, rfl, ?_⟩
  refine go rfl ⟨_, _, _, _, rfl, rfl, rfl, ?_⟩
  refine go rfl ⟨_, _, rfl, fun c => ?_, fun c => ?_⟩
  · refine go rfl ?_
    refine go rfl ⟨_, rfl, rfl, rfl, ?_⟩
    rw [← hF]
    exact hp
  · exact absurd rfl c
-- LadderWordsModel.word()I
def sp_M_word : mx_Sp := fun As F P => ∃ (th mn sp : Int32) (wy : Int64) (kp sd : Int32), As = [mx_r 40] ∧ F 40 = some (e_M th (nI 0) mn sp wy kp sd) ∧ ∀ x, P (some (mx_i (-1))) (mx_put F 40 x)
theorem d_M_word_0 : decode c_M_word 0 = .ok (.aload_n 0, 1) := by decide +kernel
theorem d_M_word_1 : decode c_M_word 1 = .ok (.iconst 0, 1) := by decide +kernel
theorem d_M_word_2 : decode c_M_word 2 = .ok (.putfield 48, 3) := by decide +kernel
theorem d_M_word_5 : decode c_M_word 5 = .ok (.aload_n 0, 1) := by decide +kernel
theorem d_M_word_6 : decode c_M_word 6 = .ok (.invokevirtual 71, 3) := by decide +kernel
theorem d_M_word_9 : decode c_M_word 9 = .ok (.istore_n 1, 1) := by decide +kernel
theorem d_M_word_10 : decode c_M_word 10 = .ok (.aload_n 0, 1) := by decide +kernel
theorem d_M_word_11 : decode c_M_word 11 = .ok (.iconst 0, 1) := by decide +kernel
theorem d_M_word_12 : decode c_M_word 12 = .ok (.putfield 54, 3) := by decide +kernel
theorem d_M_word_15 : decode c_M_word 15 = .ok (.iload_n 1, 1) := by decide +kernel
theorem d_M_word_16 : decode c_M_word 16 = .ok (.ireturn, 1) := by decide +kernel
abbrev w_M_word : List Cond := mx_ws y_M_word c_M_word 2 (some .int)
abbrev rm_M_word : Room := { frames := 40, cells := 0, slots := 0, locals := 800 }
def t_M_word  (P : Option mx_V → mx_F → Prop) : List (Nat × mx_O) := [
  (0, mx_aload 0 1),
  (1, mx_push (.inl (nI 0)) 2),
  (2, mx_puti 7 0 5),
  (5, mx_aload 0 6),
  (6, mx_cv0 7 sp_M_enter 0 0 9),
  (9, mx_istore 1 10),
  (10, mx_aload 0 11),
  (11, mx_push (.inl (nI 0)) 12),
  (12, mx_puti 7 1 15),
  (15, mx_iload 1 16),
  (16, mx_iret P)]
set_option maxRecDepth 20000 in
theorem a_M_word  {p : Program} {l : Launch} {e : Env} {s : State} {m : MethodId} {args : Array Value} {below : List Frame} {meth : Method} {c : Code} {D : va_G} {tc : Nat → ClassId} {tb : Nat → Nat} {sz : Nat} {a0 : Nat → Nat} {G : mx_F} {P : Option mx_V → mx_F → Prop}  (C : mx_C p s m args c c_M_word y_M_word.cls w_M_word D tc tb (mx_A a0 G sz) 2 (mx_Ok0 a0 G)) (hr : meth.sig.returnType = (some .int)) (hlk : meth.locks = false) : mx_all (mx_W p l e rm_M_word s m args below meth c (MQ below (mx_Q D tc tb a0 G sz P) args s 0 0 (mx_A a0 G sz)) D tc tb (mx_A a0 G sz) 2 (mx_Ok0 a0 G)) (t_M_word  P) :=
  ⟨mx_s_aload_n C d_M_word_0 rfl,
  mx_s_iconst C d_M_word_1 (by decide),
  mx_s_puti (T := T_M) (N := 18) (k := 0) C (fun w h => List.mem_cons_of_mem _ (in_M w h)) rfl ty_M ok_M nm_M (by decide) (List.mem_cons_of_mem _ (mx_in0 (by decide +kernel) rfl)) rfl rfl (ok_M 0 (by decide)) d_M_word_2,
  mx_s_aload_n C d_M_word_5 rfl,
  mx_s_cv0 C (m_M_enter l) rfl (cwV 0 C.2.2.2.2.1 (mx_gV (fun w h => List.mem_cons_of_mem _ h) (mx_in0 (by decide +kernel) rfl) (mx_in0 (by decide +kernel) rfl) (mx_in0 (by decide +kernel) rfl) (mx_in0 (by decide +kernel) rfl) (mx_in0 (by decide +kernel) rfl)) rfl rfl rfl (by decide +kernel) ⟨by decide, by decide⟩) d_M_word_6 ⟨Nat.zero_le _, Nat.zero_le _⟩,
  mx_s_istore_n C d_M_word_9 rfl (by decide),
  mx_s_aload_n C d_M_word_10 rfl,
  mx_s_iconst C d_M_word_11 (by decide),
  mx_s_puti (T := T_M) (N := 18) (k := 1) C (fun w h => List.mem_cons_of_mem _ (in_M w h)) rfl ty_M ok_M nm_M (by decide) (List.mem_cons_of_mem _ (mx_in0 (by decide +kernel) rfl)) rfl rfl (ok_M 1 (by decide)) d_M_word_12,
  mx_s_iload_n C d_M_word_15 rfl,
  mx_s_iret C hr hlk d_M_word_16,
  trivial⟩
set_option maxRecDepth 20000 in
set_option maxHeartbeats 2000000 in
theorem m_M_word (l : Launch) : mx_M l y_M_word w_M_word rm_M_word sp_M_word := by
  intro D tc tb ad As F P sz0 h
  obtain ⟨th, mn, sp, wy, kp, sd, rfl, h1, hp⟩ := h
  refine mx_run (cc := c_M_word) (maxL := 2) (ret := (some .int)) (tab := t_M_word  P) (by decide) rfl D tc tb ad _ F P sz0 (Nat.le_of_ble_eq_true rfl) (fun p e s m args below meth c C hr hlk => a_M_word  C hr hlk) ?_
  intro Rr go
  have hF := mx_as1 h1
  rw [hF]
  refine go rfl ⟨_, rfl, ?_⟩
  refine go rfl ?_
  refine go rfl ⟨_, _, _, _, rfl, rfl, (Nat.le_of_ble_eq_true rfl), ?_⟩
  refine go rfl ⟨_, rfl, ?_⟩
  refine go rfl ⟨_, _, _, rfl, rfl, rfl, rfl, rfl, ⟨_, _, _, _, _, _, rfl, rfl, ?_⟩⟩
  refine go rfl ⟨_, _, rfl, ?_⟩
  refine go rfl ⟨_, rfl, ?_⟩
  refine go rfl ?_
  refine go rfl ⟨_, _, _, _, rfl, rfl, (Nat.le_of_ble_eq_true rfl), ?_⟩
  refine go rfl ⟨_, rfl, ?_⟩
  refine go rfl ⟨_, rfl, rfl, rfl, ?_⟩
  rw [← hF]
  simp only [mx_pp]
  exact hp _
-- LadderWordsModel.letter(II)I
/-- without words -/
def sp_M_letter : mx_Sp := fun As F P => ∃ (th sz sp : Int32) (wy : Int64) (kp sd : Int32) (w i : Int32), As = [mx_r 40, mx_i w, mx_i i] ∧ F 40 = some (e_M th sz (nI 0) sp wy kp sd) ∧ ∀ x, P (some (mx_i (-1))) (mx_put F 40 x)
theorem d_M_letter_0 : decode c_M_letter 0 = .ok (.aload_n 0, 1) := by decide +kernel
theorem d_M_letter_1 : decode c_M_letter 1 = .ok (.iconst 0, 1) := by decide +kernel
theorem d_M_letter_2 : decode c_M_letter 2 = .ok (.putfield 48, 3) := by decide +kernel
theorem d_M_letter_5 : decode c_M_letter 5 = .ok (.aload_n 0, 1) := by decide +kernel
theorem d_M_letter_6 : decode c_M_letter 6 = .ok (.iload_n 1, 1) := by decide +kernel
theorem d_M_letter_7 : decode c_M_letter 7 = .ok (.invokevirtual 75, 3) := by decide +kernel
theorem d_M_letter_10 : decode c_M_letter 10 = .ok (.ifCond .eq 26, 3) := by decide +kernel
theorem d_M_letter_36 : decode c_M_letter 36 = .ok (.iconst (-1), 1) := by decide +kernel
theorem d_M_letter_37 : decode c_M_letter 37 = .ok (.ireturn, 1) := by decide +kernel
abbrev w_M_letter : List Cond := mx_ws y_M_letter c_M_letter 3 (some .int)
abbrev rm_M_letter : Room := { frames := 20, cells := 0, slots := 0, locals := 400 }
def t_M_letter  (P : Option mx_V → mx_F → Prop) : List (Nat × mx_O) := [
  (0, mx_aload 0 1),
  (1, mx_push (.inl (nI 0)) 2),
  (2, mx_puti 7 0 5),
  (5, mx_aload 0 6),
  (6, mx_iload 1 7),
  (7, mx_cv1 7 sp_M_isWord 0 0 10),
  (10, mx_if_eq 36 13),
  (36, mx_push (.inl (-1)) 37),
  (37, mx_iret P)]
set_option maxRecDepth 20000 in
theorem a_M_letter  {p : Program} {l : Launch} {e : Env} {s : State} {m : MethodId} {args : Array Value} {below : List Frame} {meth : Method} {c : Code} {D : va_G} {tc : Nat → ClassId} {tb : Nat → Nat} {sz : Nat} {a0 : Nat → Nat} {G : mx_F} {P : Option mx_V → mx_F → Prop}  (C : mx_C p s m args c c_M_letter y_M_letter.cls w_M_letter D tc tb (mx_A a0 G sz) 3 (mx_Ok0 a0 G)) (hr : meth.sig.returnType = (some .int)) (hlk : meth.locks = false) : mx_all (mx_W p l e rm_M_letter s m args below meth c (MQ below (mx_Q D tc tb a0 G sz P) args s 0 0 (mx_A a0 G sz)) D tc tb (mx_A a0 G sz) 3 (mx_Ok0 a0 G)) (t_M_letter  P) :=
  ⟨mx_s_aload_n C d_M_letter_0 rfl,
  mx_s_iconst C d_M_letter_1 (by decide),
  mx_s_puti (T := T_M) (N := 18) (k := 0) C (fun w h => List.mem_cons_of_mem _ (in_M w h)) rfl ty_M ok_M nm_M (by decide) (List.mem_cons_of_mem _ (mx_in0 (by decide +kernel) rfl)) rfl rfl (ok_M 0 (by decide)) d_M_letter_2,
  mx_s_aload_n C d_M_letter_5 rfl,
  mx_s_iload_n C d_M_letter_6 rfl,
  mx_s_cv1 C (m_M_isWord l) rfl (cwV 1 C.2.2.2.2.1 (mx_gV (fun w h => List.mem_cons_of_mem _ h) (mx_in0 (by decide +kernel) rfl) (mx_in0 (by decide +kernel) rfl) (mx_in0 (by decide +kernel) rfl) (mx_in0 (by decide +kernel) rfl) (mx_in0 (by decide +kernel) rfl)) rfl rfl rfl (by decide +kernel) ⟨by decide, by decide⟩) d_M_letter_7 ⟨Nat.zero_le _, Nat.zero_le _⟩,
  mx_s_if_eq C d_M_letter_10 (by decide),
  mx_s_iconst C d_M_letter_36 (by decide),
  mx_s_iret C hr hlk d_M_letter_37,
  trivial⟩
set_option maxRecDepth 20000 in
set_option maxHeartbeats 2000000 in
theorem m_M_letter (l : Launch) : mx_M l y_M_letter w_M_letter rm_M_letter sp_M_letter := by
  intro D tc tb ad As F P sz0 h
  obtain ⟨th, sz, sp, wy, kp, sd, w, i, rfl, h1, hp⟩ := h
  refine mx_run (cc := c_M_letter) (maxL := 3) (ret := (some .int)) (tab := t_M_letter  P) (by decide) rfl D tc tb ad _ F P sz0 (Nat.le_of_ble_eq_true rfl) (fun p e s m args below meth c C hr hlk => a_M_letter  C hr hlk) ?_
  intro Rr go
  have hF := mx_as1 h1
  rw [hF]
  refine go rfl ⟨_, rfl, ?_⟩
  refine go rfl ?_
  refine go rfl ⟨_, _, _, _, rfl, rfl, (Nat.le_of_ble_eq_true rfl), ?_⟩
  refine go rfl ⟨_, rfl, ?_⟩
  refine go rfl ⟨_, rfl, ?_⟩
  refine go rfl ⟨_, _, _, _, rfl, rfl, rfl, rfl, rfl, ⟨_, _, _, _, _, _, 0, w, rfl, rfl, fun hc => ?_, fun hc => ?_⟩⟩
  · refine go rfl ⟨_, _, rfl, fun c => ?_, fun c => ?_⟩
    · refine go rfl ?_
      refine go rfl ⟨_, rfl, rfl, rfl, ?_⟩
      rw [← hF]
      try simp only [mx_pp]
      exact hp _
    · exact absurd rfl c
  · exact absurd (Int32.not_lt.mp (fun h => hc (Or.inl h))) (fun h => hc (Or.inr h))
-- LadderWordsModel.ladder(III)I
/-- without words -/
def sp_M_ladder : mx_Sp := fun As F P => ∃ (th sz sp : Int32) (wy : Int64) (kp sd : Int32) (w b k : Int32), As = [mx_r 40, mx_i w, mx_i b, mx_i k] ∧ F 40 = some (e_M th sz (nI 0) sp wy kp sd) ∧ ∀ x, P (some (mx_i (-1))) (mx_put F 40 x)
theorem d_M_ladder_0 : decode c_M_ladder 0 = .ok (.aload_n 0, 1) := by decide +kernel
theorem d_M_ladder_1 : decode c_M_ladder 1 = .ok (.iconst 0, 1) := by decide +kernel
theorem d_M_ladder_2 : decode c_M_ladder 2 = .ok (.putfield 48, 3) := by decide +kernel
theorem d_M_ladder_5 : decode c_M_ladder 5 = .ok (.aload_n 0, 1) := by decide +kernel
theorem d_M_ladder_6 : decode c_M_ladder 6 = .ok (.iconst (-1), 1) := by decide +kernel
theorem d_M_ladder_7 : decode c_M_ladder 7 = .ok (.putfield 19, 3) := by decide +kernel
theorem d_M_ladder_10 : decode c_M_ladder 10 = .ok (.aload_n 0, 1) := by decide +kernel
theorem d_M_ladder_11 : decode c_M_ladder 11 = .ok (.iload_n 1, 1) := by decide +kernel
theorem d_M_ladder_12 : decode c_M_ladder 12 = .ok (.invokevirtual 75, 3) := by decide +kernel
theorem d_M_ladder_15 : decode c_M_ladder 15 = .ok (.ifCond .eq 20, 3) := by decide +kernel
theorem d_M_ladder_35 : decode c_M_ladder 35 = .ok (.iconst (-1), 1) := by decide +kernel
theorem d_M_ladder_36 : decode c_M_ladder 36 = .ok (.ireturn, 1) := by decide +kernel
abbrev w_M_ladder : List Cond := mx_ws y_M_ladder c_M_ladder 8 (some .int)
abbrev rm_M_ladder : Room := { frames := 40, cells := 0, slots := 0, locals := 800 }
def t_M_ladder  (P : Option mx_V → mx_F → Prop) : List (Nat × mx_O) := [
  (0, mx_aload 0 1),
  (1, mx_push (.inl (nI 0)) 2),
  (2, mx_puti 7 0 5),
  (5, mx_aload 0 6),
  (6, mx_push (.inl (-1)) 7),
  (7, mx_puti 7 6 10),
  (10, mx_aload 0 11),
  (11, mx_iload 1 12),
  (12, mx_cv1 7 sp_M_isWord 0 0 15),
  (15, mx_if_eq 35 18),
  (35, mx_push (.inl (-1)) 36),
  (36, mx_iret P)]
set_option maxRecDepth 20000 in
theorem a_M_ladder  {p : Program} {l : Launch} {e : Env} {s : State} {m : MethodId} {args : Array Value} {below : List Frame} {meth : Method} {c : Code} {D : va_G} {tc : Nat → ClassId} {tb : Nat → Nat} {sz : Nat} {a0 : Nat → Nat} {G : mx_F} {P : Option mx_V → mx_F → Prop}  (C : mx_C p s m args c c_M_ladder y_M_ladder.cls w_M_ladder D tc tb (mx_A a0 G sz) 8 (mx_Ok0 a0 G)) (hr : meth.sig.returnType = (some .int)) (hlk : meth.locks = false) : mx_all (mx_W p l e rm_M_ladder s m args below meth c (MQ below (mx_Q D tc tb a0 G sz P) args s 0 0 (mx_A a0 G sz)) D tc tb (mx_A a0 G sz) 8 (mx_Ok0 a0 G)) (t_M_ladder  P) :=
  ⟨mx_s_aload_n C d_M_ladder_0 rfl,
  mx_s_iconst C d_M_ladder_1 (by decide),
  mx_s_puti (T := T_M) (N := 18) (k := 0) C (fun w h => List.mem_cons_of_mem _ (in_M w h)) rfl ty_M ok_M nm_M (by decide) (List.mem_cons_of_mem _ (mx_in0 (by decide +kernel) rfl)) rfl rfl (ok_M 0 (by decide)) d_M_ladder_2,
  mx_s_aload_n C d_M_ladder_5 rfl,
  mx_s_iconst C d_M_ladder_6 (by decide),
  mx_s_puti (T := T_M) (N := 18) (k := 6) C (fun w h => List.mem_cons_of_mem _ (in_M w h)) rfl ty_M ok_M nm_M (by decide) (List.mem_cons_of_mem _ (mx_in0 (by decide +kernel) rfl)) rfl rfl (ok_M 6 (by decide)) d_M_ladder_7,
  mx_s_aload_n C d_M_ladder_10 rfl,
  mx_s_iload_n C d_M_ladder_11 rfl,
  mx_s_cv1 C (m_M_isWord l) rfl (cwV 1 C.2.2.2.2.1 (mx_gV (fun w h => List.mem_cons_of_mem _ h) (mx_in0 (by decide +kernel) rfl) (mx_in0 (by decide +kernel) rfl) (mx_in0 (by decide +kernel) rfl) (mx_in0 (by decide +kernel) rfl) (mx_in0 (by decide +kernel) rfl)) rfl rfl rfl (by decide +kernel) ⟨by decide, by decide⟩) d_M_ladder_12 ⟨Nat.zero_le _, Nat.zero_le _⟩,
  mx_s_if_eq C d_M_ladder_15 (by decide),
  mx_s_iconst C d_M_ladder_35 (by decide),
  mx_s_iret C hr hlk d_M_ladder_36,
  trivial⟩
set_option maxRecDepth 20000 in
set_option maxHeartbeats 2000000 in
theorem m_M_ladder (l : Launch) : mx_M l y_M_ladder w_M_ladder rm_M_ladder sp_M_ladder := by
  intro D tc tb ad As F P sz0 h
  obtain ⟨th, sz, sp, wy, kp, sd, w, b, k, rfl, h1, hp⟩ := h
  refine mx_run (cc := c_M_ladder) (maxL := 8) (ret := (some .int)) (tab := t_M_ladder  P) (by decide) rfl D tc tb ad _ F P sz0 (Nat.le_of_ble_eq_true rfl) (fun p e s m args below meth c C hr hlk => a_M_ladder  C hr hlk) ?_
  intro Rr go
  have hF := mx_as1 h1
  rw [hF]
  refine go rfl ⟨_, rfl, ?_⟩
  refine go rfl ?_
  refine go rfl ⟨_, _, _, _, rfl, rfl, (Nat.le_of_ble_eq_true rfl), ?_⟩
  refine go rfl ⟨_, rfl, ?_⟩
  refine go rfl ?_
  refine go rfl ⟨_, _, _, _, rfl, rfl, (Nat.le_of_ble_eq_true rfl), ?_⟩
  refine go rfl ⟨_, rfl, ?_⟩
  refine go rfl ⟨_, rfl, ?_⟩
  refine go rfl ⟨_, _, _, _, rfl, rfl, rfl, rfl, rfl, ⟨_, _, _, _, _, _, 0, w, rfl, rfl, fun hc => ?_, fun hc => ?_⟩⟩
  · refine go rfl ⟨_, _, rfl, fun c => ?_, fun c => ?_⟩
    · refine go rfl ?_
      refine go rfl ⟨_, rfl, rfl, rfl, ?_⟩
      rw [← hF]
      try simp only [mx_pp]
      exact hp _
    · exact absurd rfl c
  · exact absurd (Int32.not_lt.mp (fun h => hc (Or.inl h))) (fun h => hc (Or.inr h))
-- LadderWordsModel.hide(IIII)Z
/-- without words -/
def sp_M_hide : mx_Sp := fun As F P => ∃ (th sz sp : Int32) (wy : Int64) (kp sd : Int32) (w x y d : Int32), As = [mx_r 40, mx_i w, mx_i x, mx_i y, mx_i d] ∧ F 40 = some (e_M th sz (nI 0) sp wy kp sd) ∧ ∀ x, P (some (mx_i (nI 0))) (mx_put F 40 x)
theorem d_M_hide_0 : decode c_M_hide 0 = .ok (.aload_n 0, 1) := by decide +kernel
theorem d_M_hide_1 : decode c_M_hide 1 = .ok (.iconst 0, 1) := by decide +kernel
theorem d_M_hide_2 : decode c_M_hide 2 = .ok (.putfield 48, 3) := by decide +kernel
theorem d_M_hide_5 : decode c_M_hide 5 = .ok (.aload_n 0, 1) := by decide +kernel
theorem d_M_hide_6 : decode c_M_hide 6 = .ok (.iload_n 1, 1) := by decide +kernel
theorem d_M_hide_7 : decode c_M_hide 7 = .ok (.invokevirtual 75, 3) := by decide +kernel
theorem d_M_hide_10 : decode c_M_hide 10 = .ok (.ifCond .eq 36, 3) := by decide +kernel
theorem d_M_hide_46 : decode c_M_hide 46 = .ok (.iconst 0, 1) := by decide +kernel
theorem d_M_hide_47 : decode c_M_hide 47 = .ok (.ireturn, 1) := by decide +kernel
abbrev w_M_hide : List Cond := mx_ws y_M_hide c_M_hide 6 (some .boolean)
abbrev rm_M_hide : Room := { frames := 30, cells := 0, slots := 0, locals := 600 }
def t_M_hide  (P : Option mx_V → mx_F → Prop) : List (Nat × mx_O) := [
  (0, mx_aload 0 1),
  (1, mx_push (.inl (nI 0)) 2),
  (2, mx_puti 7 0 5),
  (5, mx_aload 0 6),
  (6, mx_iload 1 7),
  (7, mx_cv1 7 sp_M_isWord 0 0 10),
  (10, mx_if_eq 46 13),
  (46, mx_push (.inl (nI 0)) 47),
  (47, mx_zret P)]
set_option maxRecDepth 20000 in
theorem a_M_hide  {p : Program} {l : Launch} {e : Env} {s : State} {m : MethodId} {args : Array Value} {below : List Frame} {meth : Method} {c : Code} {D : va_G} {tc : Nat → ClassId} {tb : Nat → Nat} {sz : Nat} {a0 : Nat → Nat} {G : mx_F} {P : Option mx_V → mx_F → Prop}  (C : mx_C p s m args c c_M_hide y_M_hide.cls w_M_hide D tc tb (mx_A a0 G sz) 6 (mx_Ok0 a0 G)) (hr : meth.sig.returnType = (some .boolean)) (hlk : meth.locks = false) : mx_all (mx_W p l e rm_M_hide s m args below meth c (MQ below (mx_Q D tc tb a0 G sz P) args s 0 0 (mx_A a0 G sz)) D tc tb (mx_A a0 G sz) 6 (mx_Ok0 a0 G)) (t_M_hide  P) :=
  ⟨mx_s_aload_n C d_M_hide_0 rfl,
  mx_s_iconst C d_M_hide_1 (by decide),
  mx_s_puti (T := T_M) (N := 18) (k := 0) C (fun w h => List.mem_cons_of_mem _ (in_M w h)) rfl ty_M ok_M nm_M (by decide) (List.mem_cons_of_mem _ (mx_in0 (by decide +kernel) rfl)) rfl rfl (ok_M 0 (by decide)) d_M_hide_2,
  mx_s_aload_n C d_M_hide_5 rfl,
  mx_s_iload_n C d_M_hide_6 rfl,
  mx_s_cv1 C (m_M_isWord l) rfl (cwV 1 C.2.2.2.2.1 (mx_gV (fun w h => List.mem_cons_of_mem _ h) (mx_in0 (by decide +kernel) rfl) (mx_in0 (by decide +kernel) rfl) (mx_in0 (by decide +kernel) rfl) (mx_in0 (by decide +kernel) rfl) (mx_in0 (by decide +kernel) rfl)) rfl rfl rfl (by decide +kernel) ⟨by decide, by decide⟩) d_M_hide_7 ⟨Nat.zero_le _, Nat.zero_le _⟩,
  mx_s_if_eq C d_M_hide_10 (by decide),
  mx_s_iconst C d_M_hide_46 (by decide),
  mx_s_zret C hr hlk d_M_hide_47,
  trivial⟩
set_option maxRecDepth 20000 in
set_option maxHeartbeats 2000000 in
theorem m_M_hide (l : Launch) : mx_M l y_M_hide w_M_hide rm_M_hide sp_M_hide := by
  intro D tc tb ad As F P sz0 h
  obtain ⟨th, sz, sp, wy, kp, sd, w, x, y, d, rfl, h1, hp⟩ := h
  refine mx_run (cc := c_M_hide) (maxL := 6) (ret := (some .boolean)) (tab := t_M_hide  P) (by decide) rfl D tc tb ad _ F P sz0 (Nat.le_of_ble_eq_true rfl) (fun p e s m args below meth c C hr hlk => a_M_hide  C hr hlk) ?_
  intro Rr go
  have hF := mx_as1 h1
  rw [hF]
  refine go rfl ⟨_, rfl, ?_⟩
  refine go rfl ?_
  refine go rfl ⟨_, _, _, _, rfl, rfl, (Nat.le_of_ble_eq_true rfl), ?_⟩
  refine go rfl ⟨_, rfl, ?_⟩
  refine go rfl ⟨_, rfl, ?_⟩
  refine go rfl ⟨_, _, _, _, rfl, rfl, rfl, rfl, rfl, ⟨_, _, _, _, _, _, 0, w, rfl, rfl, fun hc => ?_, fun hc => ?_⟩⟩
  · refine go rfl ⟨_, _, rfl, fun c => ?_, fun c => ?_⟩
    · refine go rfl ?_
      refine go rfl ⟨_, rfl, rfl, rfl, (Or.inl rfl), ?_⟩
      rw [← hF]
      try simp only [mx_pp]
      exact hp _
    · exact absurd rfl c
  · exact absurd (Int32.not_lt.mp (fun h => hc (Or.inl h))) (fun h => hc (Or.inr h))
-- LadderWordsModel.found(I)I
/-- without words -/
def sp_M_found : mx_Sp := fun As F P => ∃ (th sz sp : Int32) (wy : Int64) (kp sd : Int32) (w : Int32), As = [mx_r 40, mx_i w] ∧ F 40 = some (e_M th sz (nI 0) sp wy kp sd) ∧ ∀ x, P (some (mx_i (-1))) (mx_put F 40 x)
theorem d_M_found_0 : decode c_M_found 0 = .ok (.aload_n 0, 1) := by decide +kernel
theorem d_M_found_1 : decode c_M_found 1 = .ok (.iconst 0, 1) := by decide +kernel
theorem d_M_found_2 : decode c_M_found 2 = .ok (.putfield 48, 3) := by decide +kernel
theorem d_M_found_5 : decode c_M_found 5 = .ok (.aload_n 0, 1) := by decide +kernel
theorem d_M_found_6 : decode c_M_found 6 = .ok (.iload_n 1, 1) := by decide +kernel
theorem d_M_found_7 : decode c_M_found 7 = .ok (.invokevirtual 75, 3) := by decide +kernel
theorem d_M_found_10 : decode c_M_found 10 = .ok (.ifCond .eq 12, 3) := by decide +kernel
theorem d_M_found_22 : decode c_M_found 22 = .ok (.iconst (-1), 1) := by decide +kernel
theorem d_M_found_23 : decode c_M_found 23 = .ok (.ireturn, 1) := by decide +kernel
abbrev w_M_found : List Cond := mx_ws y_M_found c_M_found 2 (some .int)
abbrev rm_M_found : Room := { frames := 40, cells := 0, slots := 0, locals := 800 }
def t_M_found  (P : Option mx_V → mx_F → Prop) : List (Nat × mx_O) := [
  (0, mx_aload 0 1),
  (1, mx_push (.inl (nI 0)) 2),
  (2, mx_puti 7 0 5),
  (5, mx_aload 0 6),
  (6, mx_iload 1 7),
  (7, mx_cv1 7 sp_M_isWord 0 0 10),
  (10, mx_if_eq 22 13),
  (22, mx_push (.inl (-1)) 23),
  (23, mx_iret P)]
set_option maxRecDepth 20000 in
theorem a_M_found  {p : Program} {l : Launch} {e : Env} {s : State} {m : MethodId} {args : Array Value} {below : List Frame} {meth : Method} {c : Code} {D : va_G} {tc : Nat → ClassId} {tb : Nat → Nat} {sz : Nat} {a0 : Nat → Nat} {G : mx_F} {P : Option mx_V → mx_F → Prop}  (C : mx_C p s m args c c_M_found y_M_found.cls w_M_found D tc tb (mx_A a0 G sz) 2 (mx_Ok0 a0 G)) (hr : meth.sig.returnType = (some .int)) (hlk : meth.locks = false) : mx_all (mx_W p l e rm_M_found s m args below meth c (MQ below (mx_Q D tc tb a0 G sz P) args s 0 0 (mx_A a0 G sz)) D tc tb (mx_A a0 G sz) 2 (mx_Ok0 a0 G)) (t_M_found  P) :=
  ⟨mx_s_aload_n C d_M_found_0 rfl,
  mx_s_iconst C d_M_found_1 (by decide),
  mx_s_puti (T := T_M) (N := 18) (k := 0) C (fun w h => List.mem_cons_of_mem _ (in_M w h)) rfl ty_M ok_M nm_M (by decide) (List.mem_cons_of_mem _ (mx_in0 (by decide +kernel) rfl)) rfl rfl (ok_M 0 (by decide)) d_M_found_2,
  mx_s_aload_n C d_M_found_5 rfl,
  mx_s_iload_n C d_M_found_6 rfl,
  mx_s_cv1 C (m_M_isWord l) rfl (cwV 1 C.2.2.2.2.1 (mx_gV (fun w h => List.mem_cons_of_mem _ h) (mx_in0 (by decide +kernel) rfl) (mx_in0 (by decide +kernel) rfl) (mx_in0 (by decide +kernel) rfl) (mx_in0 (by decide +kernel) rfl) (mx_in0 (by decide +kernel) rfl)) rfl rfl rfl (by decide +kernel) ⟨by decide, by decide⟩) d_M_found_7 ⟨Nat.zero_le _, Nat.zero_le _⟩,
  mx_s_if_eq C d_M_found_10 (by decide),
  mx_s_iconst C d_M_found_22 (by decide),
  mx_s_iret C hr hlk d_M_found_23,
  trivial⟩
set_option maxRecDepth 20000 in
set_option maxHeartbeats 2000000 in
theorem m_M_found (l : Launch) : mx_M l y_M_found w_M_found rm_M_found sp_M_found := by
  intro D tc tb ad As F P sz0 h
  obtain ⟨th, sz, sp, wy, kp, sd, w, rfl, h1, hp⟩ := h
  refine mx_run (cc := c_M_found) (maxL := 2) (ret := (some .int)) (tab := t_M_found  P) (by decide) rfl D tc tb ad _ F P sz0 (Nat.le_of_ble_eq_true rfl) (fun p e s m args below meth c C hr hlk => a_M_found  C hr hlk) ?_
  intro Rr go
  have hF := mx_as1 h1
  rw [hF]
  refine go rfl ⟨_, rfl, ?_⟩
  refine go rfl ?_
  refine go rfl ⟨_, _, _, _, rfl, rfl, (Nat.le_of_ble_eq_true rfl), ?_⟩
  refine go rfl ⟨_, rfl, ?_⟩
  refine go rfl ⟨_, rfl, ?_⟩
  refine go rfl ⟨_, _, _, _, rfl, rfl, rfl, rfl, rfl, ⟨_, _, _, _, _, _, 0, w, rfl, rfl, fun hc => ?_, fun hc => ?_⟩⟩
  · refine go rfl ⟨_, _, rfl, fun c => ?_, fun c => ?_⟩
    · refine go rfl ?_
      refine go rfl ⟨_, rfl, rfl, rfl, ?_⟩
      rw [← hF]
      try simp only [mx_pp]
      exact hp _
    · exact absurd rfl c
  · exact absurd (Int32.not_lt.mp (fun h => hc (Or.inl h))) (fun h => hc (Or.inr h))
-- LadderWordsModel.where(II)I
/-- without words -/
def sp_M_where : mx_Sp := fun As F P => ∃ (th sz sp : Int32) (wy : Int64) (kp sd : Int32) (w k : Int32), As = [mx_r 40, mx_i w, mx_i k] ∧ F 40 = some (e_M th sz (nI 0) sp wy kp sd) ∧ ∀ x, P (some (mx_i (-1))) (mx_put F 40 x)
theorem d_M_where_0 : decode c_M_where 0 = .ok (.aload_n 0, 1) := by decide +kernel
theorem d_M_where_1 : decode c_M_where 1 = .ok (.iconst 0, 1) := by decide +kernel
theorem d_M_where_2 : decode c_M_where 2 = .ok (.putfield 48, 3) := by decide +kernel
theorem d_M_where_5 : decode c_M_where 5 = .ok (.aload_n 0, 1) := by decide +kernel
theorem d_M_where_6 : decode c_M_where 6 = .ok (.iload_n 1, 1) := by decide +kernel
theorem d_M_where_7 : decode c_M_where 7 = .ok (.invokevirtual 75, 3) := by decide +kernel
theorem d_M_where_10 : decode c_M_where 10 = .ok (.ifCond .eq 16, 3) := by decide +kernel
theorem d_M_where_26 : decode c_M_where 26 = .ok (.iconst (-1), 1) := by decide +kernel
theorem d_M_where_27 : decode c_M_where 27 = .ok (.ireturn, 1) := by decide +kernel
abbrev w_M_where : List Cond := mx_ws y_M_where c_M_where 3 (some .int)
abbrev rm_M_where : Room := { frames := 40, cells := 0, slots := 0, locals := 800 }
def t_M_where  (P : Option mx_V → mx_F → Prop) : List (Nat × mx_O) := [
  (0, mx_aload 0 1),
  (1, mx_push (.inl (nI 0)) 2),
  (2, mx_puti 7 0 5),
  (5, mx_aload 0 6),
  (6, mx_iload 1 7),
  (7, mx_cv1 7 sp_M_isWord 0 0 10),
  (10, mx_if_eq 26 13),
  (26, mx_push (.inl (-1)) 27),
  (27, mx_iret P)]
set_option maxRecDepth 20000 in
theorem a_M_where  {p : Program} {l : Launch} {e : Env} {s : State} {m : MethodId} {args : Array Value} {below : List Frame} {meth : Method} {c : Code} {D : va_G} {tc : Nat → ClassId} {tb : Nat → Nat} {sz : Nat} {a0 : Nat → Nat} {G : mx_F} {P : Option mx_V → mx_F → Prop}  (C : mx_C p s m args c c_M_where y_M_where.cls w_M_where D tc tb (mx_A a0 G sz) 3 (mx_Ok0 a0 G)) (hr : meth.sig.returnType = (some .int)) (hlk : meth.locks = false) : mx_all (mx_W p l e rm_M_where s m args below meth c (MQ below (mx_Q D tc tb a0 G sz P) args s 0 0 (mx_A a0 G sz)) D tc tb (mx_A a0 G sz) 3 (mx_Ok0 a0 G)) (t_M_where  P) :=
  ⟨mx_s_aload_n C d_M_where_0 rfl,
  mx_s_iconst C d_M_where_1 (by decide),
  mx_s_puti (T := T_M) (N := 18) (k := 0) C (fun w h => List.mem_cons_of_mem _ (in_M w h)) rfl ty_M ok_M nm_M (by decide) (List.mem_cons_of_mem _ (mx_in0 (by decide +kernel) rfl)) rfl rfl (ok_M 0 (by decide)) d_M_where_2,
  mx_s_aload_n C d_M_where_5 rfl,
  mx_s_iload_n C d_M_where_6 rfl,
  mx_s_cv1 C (m_M_isWord l) rfl (cwV 1 C.2.2.2.2.1 (mx_gV (fun w h => List.mem_cons_of_mem _ h) (mx_in0 (by decide +kernel) rfl) (mx_in0 (by decide +kernel) rfl) (mx_in0 (by decide +kernel) rfl) (mx_in0 (by decide +kernel) rfl) (mx_in0 (by decide +kernel) rfl)) rfl rfl rfl (by decide +kernel) ⟨by decide, by decide⟩) d_M_where_7 ⟨Nat.zero_le _, Nat.zero_le _⟩,
  mx_s_if_eq C d_M_where_10 (by decide),
  mx_s_iconst C d_M_where_26 (by decide),
  mx_s_iret C hr hlk d_M_where_27,
  trivial⟩
set_option maxRecDepth 20000 in
set_option maxHeartbeats 2000000 in
theorem m_M_where (l : Launch) : mx_M l y_M_where w_M_where rm_M_where sp_M_where := by
  intro D tc tb ad As F P sz0 h
  obtain ⟨th, sz, sp, wy, kp, sd, w, k, rfl, h1, hp⟩ := h
  refine mx_run (cc := c_M_where) (maxL := 3) (ret := (some .int)) (tab := t_M_where  P) (by decide) rfl D tc tb ad _ F P sz0 (Nat.le_of_ble_eq_true rfl) (fun p e s m args below meth c C hr hlk => a_M_where  C hr hlk) ?_
  intro Rr go
  have hF := mx_as1 h1
  rw [hF]
  refine go rfl ⟨_, rfl, ?_⟩
  refine go rfl ?_
  refine go rfl ⟨_, _, _, _, rfl, rfl, (Nat.le_of_ble_eq_true rfl), ?_⟩
  refine go rfl ⟨_, rfl, ?_⟩
  refine go rfl ⟨_, rfl, ?_⟩
  refine go rfl ⟨_, _, _, _, rfl, rfl, rfl, rfl, rfl, ⟨_, _, _, _, _, _, 0, w, rfl, rfl, fun hc => ?_, fun hc => ?_⟩⟩
  · refine go rfl ⟨_, _, rfl, fun c => ?_, fun c => ?_⟩
    · refine go rfl ?_
      refine go rfl ⟨_, rfl, rfl, rfl, ?_⟩
      rw [← hF]
      try simp only [mx_pp]
      exact hp _
    · exact absurd rfl c
  · exact absurd (Int32.not_lt.mp (fun h => hc (Or.inl h))) (fun h => hc (Or.inr h))
-- LadderWordsModel.step(I)I
/-- no ladder -/
def sp_M_step : mx_Sp := fun As F P => ∃ (th sz mn : Int32) (wy : Int64) (kp sd k : Int32), As = [mx_r 40, mx_i k] ∧ F 40 = some (e_M th sz mn (-1) wy kp sd) ∧ ∀ x, P (some (mx_i (-1))) (mx_put F 40 x)
theorem d_M_step_0 : decode c_M_step 0 = .ok (.aload_n 0, 1) := by decide +kernel
theorem d_M_step_1 : decode c_M_step 1 = .ok (.iconst 0, 1) := by decide +kernel
theorem d_M_step_2 : decode c_M_step 2 = .ok (.putfield 48, 3) := by decide +kernel
theorem d_M_step_5 : decode c_M_step 5 = .ok (.iload_n 1, 1) := by decide +kernel
theorem d_M_step_6 : decode c_M_step 6 = .ok (.ifCond .lt 20, 3) := by decide +kernel
theorem d_M_step_9 : decode c_M_step 9 = .ok (.iload_n 1, 1) := by decide +kernel
theorem d_M_step_10 : decode c_M_step 10 = .ok (.aload_n 0, 1) := by decide +kernel
theorem d_M_step_11 : decode c_M_step 11 = .ok (.getfield 19, 3) := by decide +kernel
theorem d_M_step_14 : decode c_M_step 14 = .ok (.if_icmp .gt 12, 3) := by decide +kernel
theorem d_M_step_26 : decode c_M_step 26 = .ok (.iconst (-1), 1) := by decide +kernel
theorem d_M_step_27 : decode c_M_step 27 = .ok (.ireturn, 1) := by decide +kernel
abbrev w_M_step : List Cond := mx_ws y_M_step c_M_step 2 (some .int)
abbrev rm_M_step : Room := { frames := 10, cells := 0, slots := 0, locals := 200 }
def t_M_step  (P : Option mx_V → mx_F → Prop) : List (Nat × mx_O) := [
  (0, mx_aload 0 1),
  (1, mx_push (.inl (nI 0)) 2),
  (2, mx_puti 7 0 5),
  (5, mx_iload 1 6),
  (6, mx_if_lt 26 9),
  (9, mx_iload 1 10),
  (10, mx_aload 0 11),
  (11, mx_get 7 6 14),
  (14, mx_ic_gt 26 17),
  (26, mx_push (.inl (-1)) 27),
  (27, mx_iret P)]
set_option maxRecDepth 20000 in
theorem a_M_step  {p : Program} {l : Launch} {e : Env} {s : State} {m : MethodId} {args : Array Value} {below : List Frame} {meth : Method} {c : Code} {D : va_G} {tc : Nat → ClassId} {tb : Nat → Nat} {sz : Nat} {a0 : Nat → Nat} {G : mx_F} {P : Option mx_V → mx_F → Prop}  (C : mx_C p s m args c c_M_step y_M_step.cls w_M_step D tc tb (mx_A a0 G sz) 2 (mx_Ok0 a0 G)) (hr : meth.sig.returnType = (some .int)) (hlk : meth.locks = false) : mx_all (mx_W p l e rm_M_step s m args below meth c (MQ below (mx_Q D tc tb a0 G sz P) args s 0 0 (mx_A a0 G sz)) D tc tb (mx_A a0 G sz) 2 (mx_Ok0 a0 G)) (t_M_step  P) :=
  ⟨mx_s_aload_n C d_M_step_0 rfl,
  mx_s_iconst C d_M_step_1 (by decide),
  mx_s_puti (T := T_M) (N := 18) (k := 0) C (fun w h => List.mem_cons_of_mem _ (in_M w h)) rfl ty_M ok_M nm_M (by decide) (List.mem_cons_of_mem _ (mx_in0 (by decide +kernel) rfl)) rfl rfl (ok_M 0 (by decide)) d_M_step_2,
  mx_s_iload_n C d_M_step_5 rfl,
  mx_s_if_lt C d_M_step_6 (by decide),
  mx_s_iload_n C d_M_step_9 rfl,
  mx_s_aload_n C d_M_step_10 rfl,
  mx_s_get (T := T_M) (N := 18) (k := 6) C (fun w h => List.mem_cons_of_mem _ (in_M w h)) rfl (by decide) (List.mem_cons_of_mem _ (mx_in0 (by decide +kernel) rfl)) rfl d_M_step_11,
  mx_s_ic_gt C d_M_step_14 (by decide),
  mx_s_iconst C d_M_step_26 (by decide),
  mx_s_iret C hr hlk d_M_step_27,
  trivial⟩
set_option maxRecDepth 20000 in
set_option maxHeartbeats 2000000 in
theorem m_M_step (l : Launch) : mx_M l y_M_step w_M_step rm_M_step sp_M_step := by
  intro D tc tb ad As F P sz0 h
  obtain ⟨th, sz, mn, wy, kp, sd, k, rfl, h1, hp⟩ := h
  refine mx_run (cc := c_M_step) (maxL := 2) (ret := (some .int)) (tab := t_M_step  P) (by decide) rfl D tc tb ad _ F P sz0 (Nat.le_of_ble_eq_true rfl) (fun p e s m args below meth c C hr hlk => a_M_step  C hr hlk) ?_
  intro Rr go
  have hF := mx_as1 h1
  rw [hF]
  refine go rfl ⟨_, rfl, ?_⟩
  refine go rfl ?_
  refine go rfl ⟨_, _, _, _, rfl, rfl, (Nat.le_of_ble_eq_true rfl), ?_⟩
  refine go rfl ⟨_, rfl, ?_⟩
  refine go rfl ⟨_, _, rfl, fun c1 => ?_, fun c1 => ?_⟩
  · refine go rfl ?_
    refine go rfl ⟨_, rfl, rfl, rfl, ?_⟩
    rw [← hF]
    exact hp _
  refine go rfl ⟨_, rfl, ?_⟩
  refine go rfl ⟨_, rfl, ?_⟩
  refine go rfl ⟨_, _, _, _, rfl, rfl, rfl, ?_⟩
  refine go rfl ⟨_, _, _, rfl, fun c2 => ?_, fun c2 => ?_⟩
  · refine go rfl ?_
    refine go rfl ⟨_, rfl, rfl, rfl, ?_⟩
    rw [← hF]
    exact hp _
  · exact absurd (Int32.lt_of_lt_of_le (show (-1 : Int32) < 0 by decide) (Int32.not_lt.mp c1)) c2
-- LadderWordsModel.ways()J
/-- no ladder -/
def sp_M_ways : mx_Sp := fun As F P => ∃ (th sz mn : Int32) (wy : Int64) (kp sd : Int32), As = [mx_r 40] ∧ F 40 = some (e_M th sz mn (-1) wy kp sd) ∧ ∀ x, P (some (mx_l 0)) (mx_put F 40 x)
theorem d_M_ways_0 : decode c_M_ways 0 = .ok (.aload_n 0, 1) := by decide +kernel
theorem d_M_ways_1 : decode c_M_ways 1 = .ok (.iconst 0, 1) := by decide +kernel
theorem d_M_ways_2 : decode c_M_ways 2 = .ok (.putfield 48, 3) := by decide +kernel
theorem d_M_ways_5 : decode c_M_ways 5 = .ok (.aload_n 0, 1) := by decide +kernel
theorem d_M_ways_6 : decode c_M_ways 6 = .ok (.getfield 19, 3) := by decide +kernel
theorem d_M_ways_9 : decode c_M_ways 9 = .ok (.ifCond .ge 7, 3) := by decide +kernel
theorem d_M_ways_12 : decode c_M_ways 12 = .ok (.lconst 0, 1) := by decide +kernel
theorem d_M_ways_13 : decode c_M_ways 13 = .ok (.goto 7, 3) := by decide +kernel
theorem d_M_ways_20 : decode c_M_ways 20 = .ok (.lreturn, 1) := by decide +kernel
abbrev w_M_ways : List Cond := mx_ws y_M_ways c_M_ways 1 (some .long)
abbrev rm_M_ways : Room := { frames := 10, cells := 0, slots := 0, locals := 200 }
def t_M_ways  (P : Option mx_V → mx_F → Prop) : List (Nat × mx_O) := [
  (0, mx_aload 0 1),
  (1, mx_push (.inl (nI 0)) 2),
  (2, mx_puti 7 0 5),
  (5, mx_aload 0 6),
  (6, mx_get 7 6 9),
  (9, mx_if_ge 16 12),
  (12, mx_push (.inr (.inl 0)) 13),
  (13, mx_goto 20),
  (20, mx_lret P)]
set_option maxRecDepth 20000 in
theorem a_M_ways  {p : Program} {l : Launch} {e : Env} {s : State} {m : MethodId} {args : Array Value} {below : List Frame} {meth : Method} {c : Code} {D : va_G} {tc : Nat → ClassId} {tb : Nat → Nat} {sz : Nat} {a0 : Nat → Nat} {G : mx_F} {P : Option mx_V → mx_F → Prop}  (C : mx_C p s m args c c_M_ways y_M_ways.cls w_M_ways D tc tb (mx_A a0 G sz) 1 (mx_Ok0 a0 G)) (hr : meth.sig.returnType = (some .long)) (hlk : meth.locks = false) : mx_all (mx_W p l e rm_M_ways s m args below meth c (MQ below (mx_Q D tc tb a0 G sz P) args s 0 0 (mx_A a0 G sz)) D tc tb (mx_A a0 G sz) 1 (mx_Ok0 a0 G)) (t_M_ways  P) :=
  ⟨mx_s_aload_n C d_M_ways_0 rfl,
  mx_s_iconst C d_M_ways_1 (by decide),
  mx_s_puti (T := T_M) (N := 18) (k := 0) C (fun w h => List.mem_cons_of_mem _ (in_M w h)) rfl ty_M ok_M nm_M (by decide) (List.mem_cons_of_mem _ (mx_in0 (by decide +kernel) rfl)) rfl rfl (ok_M 0 (by decide)) d_M_ways_2,
  mx_s_aload_n C d_M_ways_5 rfl,
  mx_s_get (T := T_M) (N := 18) (k := 6) C (fun w h => List.mem_cons_of_mem _ (in_M w h)) rfl (by decide) (List.mem_cons_of_mem _ (mx_in0 (by decide +kernel) rfl)) rfl d_M_ways_6,
  mx_s_if_ge C d_M_ways_9 (by decide),
  mx_s_lconst C d_M_ways_12 (by decide),
  mx_s_goto C d_M_ways_13 (by decide),
  mx_s_lret C hr hlk d_M_ways_20,
  trivial⟩
set_option maxRecDepth 20000 in
set_option maxHeartbeats 2000000 in
theorem m_M_ways (l : Launch) : mx_M l y_M_ways w_M_ways rm_M_ways sp_M_ways := by
  intro D tc tb ad As F P sz0 h
  obtain ⟨th, sz, mn, wy, kp, sd, rfl, h1, hp⟩ := h
  refine mx_run (cc := c_M_ways) (maxL := 1) (ret := (some .long)) (tab := t_M_ways  P) (by decide) rfl D tc tb ad _ F P sz0 (Nat.le_of_ble_eq_true rfl) (fun p e s m args below meth c C hr hlk => a_M_ways  C hr hlk) ?_
  intro Rr go
  have hF := mx_as1 h1
  rw [hF]
  refine go rfl ⟨_, rfl, ?_⟩
  refine go rfl ?_
  refine go rfl ⟨_, _, _, _, rfl, rfl, (Nat.le_of_ble_eq_true rfl), ?_⟩
  refine go rfl ⟨_, rfl, ?_⟩
  refine go rfl ⟨_, _, _, _, rfl, rfl, rfl, ?_⟩
  refine go rfl ⟨_, _, rfl, fun c => ?_, fun c => ?_⟩
  · exact absurd c (by decide)
  refine go rfl ?_
  refine go rfl ?_
  refine go rfl ⟨_, rfl, rfl, rfl, ?_⟩
  rw [← hF]
  exact hp _
-- LadderWordsModel.line(I)I
def sp_M_line : mx_Sp := fun As F P => ∃ (th sz mn sp : Int32) (wy : Int64) (kp k : Int32), As = [mx_r 40, mx_i k] ∧ F 40 = some (e_M th sz mn sp wy kp 0) ∧ ∀ x, P (some (mx_i (-1))) (mx_put F 40 x)
theorem d_M_line_0 : decode c_M_line 0 = .ok (.aload_n 0, 1) := by decide +kernel
theorem d_M_line_1 : decode c_M_line 1 = .ok (.iconst 0, 1) := by decide +kernel
theorem d_M_line_2 : decode c_M_line 2 = .ok (.putfield 48, 3) := by decide +kernel
theorem d_M_line_5 : decode c_M_line 5 = .ok (.iload_n 1, 1) := by decide +kernel
theorem d_M_line_6 : decode c_M_line 6 = .ok (.ifCond .lt 20, 3) := by decide +kernel
theorem d_M_line_9 : decode c_M_line 9 = .ok (.iload_n 1, 1) := by decide +kernel
theorem d_M_line_10 : decode c_M_line 10 = .ok (.aload_n 0, 1) := by decide +kernel
theorem d_M_line_11 : decode c_M_line 11 = .ok (.getfield 68, 3) := by decide +kernel
theorem d_M_line_14 : decode c_M_line 14 = .ok (.if_icmp .ge 12, 3) := by decide +kernel
theorem d_M_line_26 : decode c_M_line 26 = .ok (.iconst (-1), 1) := by decide +kernel
theorem d_M_line_27 : decode c_M_line 27 = .ok (.ireturn, 1) := by decide +kernel
abbrev w_M_line : List Cond := mx_ws y_M_line c_M_line 2 (some .int)
abbrev rm_M_line : Room := { frames := 10, cells := 0, slots := 0, locals := 200 }
def t_M_line  (P : Option mx_V → mx_F → Prop) : List (Nat × mx_O) := [
  (0, mx_aload 0 1),
  (1, mx_push (.inl (nI 0)) 2),
  (2, mx_puti 7 0 5),
  (5, mx_iload 1 6),
  (6, mx_if_lt 26 9),
  (9, mx_iload 1 10),
  (10, mx_aload 0 11),
  (11, mx_get 7 15 14),
  (14, mx_ic_ge 26 17),
  (26, mx_push (.inl (-1)) 27),
  (27, mx_iret P)]
set_option maxRecDepth 20000 in
theorem a_M_line  {p : Program} {l : Launch} {e : Env} {s : State} {m : MethodId} {args : Array Value} {below : List Frame} {meth : Method} {c : Code} {D : va_G} {tc : Nat → ClassId} {tb : Nat → Nat} {sz : Nat} {a0 : Nat → Nat} {G : mx_F} {P : Option mx_V → mx_F → Prop}  (C : mx_C p s m args c c_M_line y_M_line.cls w_M_line D tc tb (mx_A a0 G sz) 2 (mx_Ok0 a0 G)) (hr : meth.sig.returnType = (some .int)) (hlk : meth.locks = false) : mx_all (mx_W p l e rm_M_line s m args below meth c (MQ below (mx_Q D tc tb a0 G sz P) args s 0 0 (mx_A a0 G sz)) D tc tb (mx_A a0 G sz) 2 (mx_Ok0 a0 G)) (t_M_line  P) :=
  ⟨mx_s_aload_n C d_M_line_0 rfl,
  mx_s_iconst C d_M_line_1 (by decide),
  mx_s_puti (T := T_M) (N := 18) (k := 0) C (fun w h => List.mem_cons_of_mem _ (in_M w h)) rfl ty_M ok_M nm_M (by decide) (List.mem_cons_of_mem _ (mx_in0 (by decide +kernel) rfl)) rfl rfl (ok_M 0 (by decide)) d_M_line_2,
  mx_s_iload_n C d_M_line_5 rfl,
  mx_s_if_lt C d_M_line_6 (by decide),
  mx_s_iload_n C d_M_line_9 rfl,
  mx_s_aload_n C d_M_line_10 rfl,
  mx_s_get (T := T_M) (N := 18) (k := 15) C (fun w h => List.mem_cons_of_mem _ (in_M w h)) rfl (by decide) (List.mem_cons_of_mem _ (mx_in0 (by decide +kernel) rfl)) rfl d_M_line_11,
  mx_s_ic_ge C d_M_line_14 (by decide),
  mx_s_iconst C d_M_line_26 (by decide),
  mx_s_iret C hr hlk d_M_line_27,
  trivial⟩
set_option maxRecDepth 20000 in
set_option maxHeartbeats 2000000 in
theorem m_M_line (l : Launch) : mx_M l y_M_line w_M_line rm_M_line sp_M_line := by
  intro D tc tb ad As F P sz0 h
  obtain ⟨th, sz, mn, sp, wy, kp, k, rfl, h1, hp⟩ := h
  refine mx_run (cc := c_M_line) (maxL := 2) (ret := (some .int)) (tab := t_M_line  P) (by decide) rfl D tc tb ad _ F P sz0 (Nat.le_of_ble_eq_true rfl) (fun p e s m args below meth c C hr hlk => a_M_line  C hr hlk) ?_
  intro Rr go
  have hF := mx_as1 h1
  rw [hF]
  refine go rfl ⟨_, rfl, ?_⟩
  refine go rfl ?_
  refine go rfl ⟨_, _, _, _, rfl, rfl, (Nat.le_of_ble_eq_true rfl), ?_⟩
  refine go rfl ⟨_, rfl, ?_⟩
  refine go rfl ⟨_, _, rfl, fun c1 => ?_, fun c1 => ?_⟩
  · refine go rfl ?_
    refine go rfl ⟨_, rfl, rfl, rfl, ?_⟩
    rw [← hF]
    exact hp _
  refine go rfl ⟨_, rfl, ?_⟩
  refine go rfl ⟨_, rfl, ?_⟩
  refine go rfl ⟨_, _, _, _, rfl, rfl, rfl, ?_⟩
  refine go rfl ⟨_, _, _, rfl, fun c2 => ?_, fun c2 => ?_⟩
  · refine go rfl ?_
    refine go rfl ⟨_, rfl, rfl, rfl, ?_⟩
    rw [← hF]
    exact hp _
  · exact absurd (Int32.not_lt.mp c1) c2
-- LadderWordsModel.gathered(II)I
def sp_M_gathered : mx_Sp := fun As F P => ∃ (th sz mn sp : Int32) (wy : Int64) (sd k i : Int32), As = [mx_r 40, mx_i k, mx_i i] ∧ F 40 = some (e_M th sz mn sp wy 0 sd) ∧ ∀ x, P (some (mx_i (-1))) (mx_put F 40 x)
theorem d_M_gathered_0 : decode c_M_gathered 0 = .ok (.aload_n 0, 1) := by decide +kernel
theorem d_M_gathered_1 : decode c_M_gathered 1 = .ok (.iconst 0, 1) := by decide +kernel
theorem d_M_gathered_2 : decode c_M_gathered 2 = .ok (.putfield 48, 3) := by decide +kernel
theorem d_M_gathered_5 : decode c_M_gathered 5 = .ok (.iload_n 1, 1) := by decide +kernel
theorem d_M_gathered_6 : decode c_M_gathered 6 = .ok (.ifCond .lt 33, 3) := by decide +kernel
theorem d_M_gathered_9 : decode c_M_gathered 9 = .ok (.iload_n 1, 1) := by decide +kernel
theorem d_M_gathered_10 : decode c_M_gathered 10 = .ok (.aload_n 0, 1) := by decide +kernel
theorem d_M_gathered_11 : decode c_M_gathered 11 = .ok (.getfield 65, 3) := by decide +kernel
theorem d_M_gathered_14 : decode c_M_gathered 14 = .ok (.if_icmp .ge 25, 3) := by decide +kernel
theorem d_M_gathered_39 : decode c_M_gathered 39 = .ok (.iconst (-1), 1) := by decide +kernel
theorem d_M_gathered_40 : decode c_M_gathered 40 = .ok (.ireturn, 1) := by decide +kernel
abbrev w_M_gathered : List Cond := mx_ws y_M_gathered c_M_gathered 3 (some .int)
abbrev rm_M_gathered : Room := { frames := 10, cells := 0, slots := 0, locals := 200 }
def t_M_gathered  (P : Option mx_V → mx_F → Prop) : List (Nat × mx_O) := [
  (0, mx_aload 0 1),
  (1, mx_push (.inl (nI 0)) 2),
  (2, mx_puti 7 0 5),
  (5, mx_iload 1 6),
  (6, mx_if_lt 39 9),
  (9, mx_iload 1 10),
  (10, mx_aload 0 11),
  (11, mx_get 7 11 14),
  (14, mx_ic_ge 39 17),
  (39, mx_push (.inl (-1)) 40),
  (40, mx_iret P)]
set_option maxRecDepth 20000 in
theorem a_M_gathered  {p : Program} {l : Launch} {e : Env} {s : State} {m : MethodId} {args : Array Value} {below : List Frame} {meth : Method} {c : Code} {D : va_G} {tc : Nat → ClassId} {tb : Nat → Nat} {sz : Nat} {a0 : Nat → Nat} {G : mx_F} {P : Option mx_V → mx_F → Prop}  (C : mx_C p s m args c c_M_gathered y_M_gathered.cls w_M_gathered D tc tb (mx_A a0 G sz) 3 (mx_Ok0 a0 G)) (hr : meth.sig.returnType = (some .int)) (hlk : meth.locks = false) : mx_all (mx_W p l e rm_M_gathered s m args below meth c (MQ below (mx_Q D tc tb a0 G sz P) args s 0 0 (mx_A a0 G sz)) D tc tb (mx_A a0 G sz) 3 (mx_Ok0 a0 G)) (t_M_gathered  P) :=
  ⟨mx_s_aload_n C d_M_gathered_0 rfl,
  mx_s_iconst C d_M_gathered_1 (by decide),
  mx_s_puti (T := T_M) (N := 18) (k := 0) C (fun w h => List.mem_cons_of_mem _ (in_M w h)) rfl ty_M ok_M nm_M (by decide) (List.mem_cons_of_mem _ (mx_in0 (by decide +kernel) rfl)) rfl rfl (ok_M 0 (by decide)) d_M_gathered_2,
  mx_s_iload_n C d_M_gathered_5 rfl,
  mx_s_if_lt C d_M_gathered_6 (by decide),
  mx_s_iload_n C d_M_gathered_9 rfl,
  mx_s_aload_n C d_M_gathered_10 rfl,
  mx_s_get (T := T_M) (N := 18) (k := 11) C (fun w h => List.mem_cons_of_mem _ (in_M w h)) rfl (by decide) (List.mem_cons_of_mem _ (mx_in0 (by decide +kernel) rfl)) rfl d_M_gathered_11,
  mx_s_ic_ge C d_M_gathered_14 (by decide),
  mx_s_iconst C d_M_gathered_39 (by decide),
  mx_s_iret C hr hlk d_M_gathered_40,
  trivial⟩
set_option maxRecDepth 20000 in
set_option maxHeartbeats 2000000 in
theorem m_M_gathered (l : Launch) : mx_M l y_M_gathered w_M_gathered rm_M_gathered sp_M_gathered := by
  intro D tc tb ad As F P sz0 h
  obtain ⟨th, sz, mn, sp, wy, sd, k, i, rfl, h1, hp⟩ := h
  refine mx_run (cc := c_M_gathered) (maxL := 3) (ret := (some .int)) (tab := t_M_gathered  P) (by decide) rfl D tc tb ad _ F P sz0 (Nat.le_of_ble_eq_true rfl) (fun p e s m args below meth c C hr hlk => a_M_gathered  C hr hlk) ?_
  intro Rr go
  have hF := mx_as1 h1
  rw [hF]
  refine go rfl ⟨_, rfl, ?_⟩
  refine go rfl ?_
  refine go rfl ⟨_, _, _, _, rfl, rfl, (Nat.le_of_ble_eq_true rfl), ?_⟩
  refine go rfl ⟨_, rfl, ?_⟩
  refine go rfl ⟨_, _, rfl, fun c1 => ?_, fun c1 => ?_⟩
  · refine go rfl ?_
    refine go rfl ⟨_, rfl, rfl, rfl, ?_⟩
    rw [← hF]
    exact hp _
  refine go rfl ⟨_, rfl, ?_⟩
  refine go rfl ⟨_, rfl, ?_⟩
  refine go rfl ⟨_, _, _, _, rfl, rfl, rfl, ?_⟩
  refine go rfl ⟨_, _, _, rfl, fun c2 => ?_, fun c2 => ?_⟩
  · refine go rfl ?_
    refine go rfl ⟨_, rfl, rfl, rfl, ?_⟩
    rw [← hF]
    exact hp _
  · exact absurd (Int32.not_lt.mp c1) c2
-- LadderWordsModel.fill(J)I
/-- without words -/
def sp_M_fill : mx_Sp := fun As F P => ∃ (th sz sp : Int32) (wy : Int64) (kp sd : Int32) (x : Int64), As = [mx_r 40, mx_l x] ∧ F 40 = some (e_M th sz (nI 0) sp wy kp sd) ∧ ∀ x, P (some (mx_i (-1))) (mx_put F 40 x)
theorem d_M_fill_0 : decode c_M_fill 0 = .ok (.aload_n 0, 1) := by decide +kernel
theorem d_M_fill_1 : decode c_M_fill 1 = .ok (.iconst 0, 1) := by decide +kernel
theorem d_M_fill_2 : decode c_M_fill 2 = .ok (.putfield 48, 3) := by decide +kernel
theorem d_M_fill_5 : decode c_M_fill 5 = .ok (.aload_n 0, 1) := by decide +kernel
theorem d_M_fill_6 : decode c_M_fill 6 = .ok (.getfield 51, 3) := by decide +kernel
theorem d_M_fill_9 : decode c_M_fill 9 = .ok (.ifCond .ne 5, 3) := by decide +kernel
theorem d_M_fill_12 : decode c_M_fill 12 = .ok (.iconst (-1), 1) := by decide +kernel
theorem d_M_fill_13 : decode c_M_fill 13 = .ok (.ireturn, 1) := by decide +kernel
abbrev w_M_fill : List Cond := mx_ws y_M_fill c_M_fill 8 (some .int)
abbrev rm_M_fill : Room := { frames := 30, cells := 0, slots := 0, locals := 600 }
def t_M_fill  (P : Option mx_V → mx_F → Prop) : List (Nat × mx_O) := [
  (0, mx_aload 0 1),
  (1, mx_push (.inl (nI 0)) 2),
  (2, mx_puti 7 0 5),
  (5, mx_aload 0 6),
  (6, mx_get 7 3 9),
  (9, mx_if_ne 14 12),
  (12, mx_push (.inl (-1)) 13),
  (13, mx_iret P)]
set_option maxRecDepth 20000 in
theorem a_M_fill  {p : Program} {l : Launch} {e : Env} {s : State} {m : MethodId} {args : Array Value} {below : List Frame} {meth : Method} {c : Code} {D : va_G} {tc : Nat → ClassId} {tb : Nat → Nat} {sz : Nat} {a0 : Nat → Nat} {G : mx_F} {P : Option mx_V → mx_F → Prop}  (C : mx_C p s m args c c_M_fill y_M_fill.cls w_M_fill D tc tb (mx_A a0 G sz) 8 (mx_Ok0 a0 G)) (hr : meth.sig.returnType = (some .int)) (hlk : meth.locks = false) : mx_all (mx_W p l e rm_M_fill s m args below meth c (MQ below (mx_Q D tc tb a0 G sz P) args s 0 0 (mx_A a0 G sz)) D tc tb (mx_A a0 G sz) 8 (mx_Ok0 a0 G)) (t_M_fill  P) :=
  ⟨mx_s_aload_n C d_M_fill_0 rfl,
  mx_s_iconst C d_M_fill_1 (by decide),
  mx_s_puti (T := T_M) (N := 18) (k := 0) C (fun w h => List.mem_cons_of_mem _ (in_M w h)) rfl ty_M ok_M nm_M (by decide) (List.mem_cons_of_mem _ (mx_in0 (by decide +kernel) rfl)) rfl rfl (ok_M 0 (by decide)) d_M_fill_2,
  mx_s_aload_n C d_M_fill_5 rfl,
  mx_s_get (T := T_M) (N := 18) (k := 3) C (fun w h => List.mem_cons_of_mem _ (in_M w h)) rfl (by decide) (List.mem_cons_of_mem _ (mx_in0 (by decide +kernel) rfl)) rfl d_M_fill_6,
  mx_s_if_ne C d_M_fill_9 (by decide),
  mx_s_iconst C d_M_fill_12 (by decide),
  mx_s_iret C hr hlk d_M_fill_13,
  trivial⟩
set_option maxRecDepth 20000 in
set_option maxHeartbeats 2000000 in
theorem m_M_fill (l : Launch) : mx_M l y_M_fill w_M_fill rm_M_fill sp_M_fill := by
  intro D tc tb ad As F P sz0 h
  obtain ⟨th, sz, sp, wy, kp, sd, x, rfl, h1, hp⟩ := h
  refine mx_run (cc := c_M_fill) (maxL := 8) (ret := (some .int)) (tab := t_M_fill  P) (by decide) rfl D tc tb ad _ F P sz0 (Nat.le_of_ble_eq_true rfl) (fun p e s m args below meth c C hr hlk => a_M_fill  C hr hlk) ?_
  intro Rr go
  have hF := mx_as1 h1
  rw [hF]
  refine go rfl ⟨_, rfl, ?_⟩
  refine go rfl ?_
  refine go rfl ⟨_, _, _, _, rfl, rfl, (Nat.le_of_ble_eq_true rfl), ?_⟩
  refine go rfl ⟨_, rfl, ?_⟩
  refine go rfl ⟨_, _, _, _, rfl, rfl, rfl, ?_⟩
  refine go rfl ⟨_, _, rfl, fun c => ?_, fun c => ?_⟩
  · exact absurd rfl c
  refine go rfl ?_
  refine go rfl ⟨_, rfl, rfl, rfl, ?_⟩
  rw [← hF]
  exact hp _
-- LadderWordsModel.cell(II)I
def sp_M_cell : mx_Sp := fun As F P => ∃ (th sz mn sp : Int32) (wy : Int64) (kp sd : Int32) (f : Nat → Int32) (x y : Int32), As = [mx_r 40, mx_i x, mx_i y] ∧ F 40 = some (e_M th sz mn sp wy kp sd) ∧ F 51 = some (mx_ia 64 f) ∧ (∀ i j : Nat, i < 8 → j < 8 → x = nI i → y = nI j → ∀ z, P (some (mx_i (f (i + 8 * j)))) (mx_put F 40 z)) ∧ (¬ ins x y → ∀ z, P (some (mx_i (-1))) (mx_put F 40 z))
theorem d_M_cell_0 : decode c_M_cell 0 = .ok (.aload_n 0, 1) := by decide +kernel
theorem d_M_cell_1 : decode c_M_cell 1 = .ok (.iconst 0, 1) := by decide +kernel
theorem d_M_cell_2 : decode c_M_cell 2 = .ok (.putfield 48, 3) := by decide +kernel
theorem d_M_cell_5 : decode c_M_cell 5 = .ok (.iload_n 1, 1) := by decide +kernel
theorem d_M_cell_6 : decode c_M_cell 6 = .ok (.iload_n 2, 1) := by decide +kernel
theorem d_M_cell_7 : decode c_M_cell 7 = .ok (.invokestatic 114, 3) := by decide +kernel
theorem d_M_cell_10 : decode c_M_cell 10 = .ok (.ifCond .eq 17, 3) := by decide +kernel
theorem d_M_cell_13 : decode c_M_cell 13 = .ok (.aload_n 0, 1) := by decide +kernel
theorem d_M_cell_14 : decode c_M_cell 14 = .ok (.getfield 45, 3) := by decide +kernel
theorem d_M_cell_17 : decode c_M_cell 17 = .ok (.iload_n 1, 1) := by decide +kernel
theorem d_M_cell_18 : decode c_M_cell 18 = .ok (.bipush 8, 2) := by decide +kernel
theorem d_M_cell_20 : decode c_M_cell 20 = .ok (.iload_n 2, 1) := by decide +kernel
theorem d_M_cell_21 : decode c_M_cell 21 = .ok (.imul, 1) := by decide +kernel
theorem d_M_cell_22 : decode c_M_cell 22 = .ok (.iadd, 1) := by decide +kernel
theorem d_M_cell_23 : decode c_M_cell 23 = .ok (.iaload, 1) := by decide +kernel
theorem d_M_cell_24 : decode c_M_cell 24 = .ok (.goto 4, 3) := by decide +kernel
theorem d_M_cell_27 : decode c_M_cell 27 = .ok (.iconst (-1), 1) := by decide +kernel
theorem d_M_cell_28 : decode c_M_cell 28 = .ok (.ireturn, 1) := by decide +kernel
abbrev w_M_cell : List Cond := mx_ws y_M_cell c_M_cell 3 (some .int)
abbrev rm_M_cell : Room := { frames := 20, cells := 0, slots := 0, locals := 400 }
def t_M_cell  (P : Option mx_V → mx_F → Prop) : List (Nat × mx_O) := [
  (0, mx_aload 0 1),
  (1, mx_push (.inl (nI 0)) 2),
  (2, mx_puti 7 0 5),
  (5, mx_iload 1 6),
  (6, mx_iload 2 7),
  (7, mx_cs2 sp_M_isCell 0 0 10),
  (10, mx_if_eq 27 13),
  (13, mx_aload 0 14),
  (14, mx_get 7 17 17),
  (17, mx_iload 1 18),
  (18, mx_push (.inl (nI 8)) 20),
  (20, mx_iload 2 21),
  (21, mx_imul 22),
  (22, mx_iadd 23),
  (23, mx_iald 24),
  (24, mx_goto 28),
  (27, mx_push (.inl (-1)) 28),
  (28, mx_iret P)]
set_option maxRecDepth 20000 in
theorem a_M_cell  {p : Program} {l : Launch} {e : Env} {s : State} {m : MethodId} {args : Array Value} {below : List Frame} {meth : Method} {c : Code} {D : va_G} {tc : Nat → ClassId} {tb : Nat → Nat} {sz : Nat} {a0 : Nat → Nat} {G : mx_F} {P : Option mx_V → mx_F → Prop}  (C : mx_C p s m args c c_M_cell y_M_cell.cls w_M_cell D tc tb (mx_A a0 G sz) 3 (mx_Ok0 a0 G)) (hr : meth.sig.returnType = (some .int)) (hlk : meth.locks = false) : mx_all (mx_W p l e rm_M_cell s m args below meth c (MQ below (mx_Q D tc tb a0 G sz P) args s 0 0 (mx_A a0 G sz)) D tc tb (mx_A a0 G sz) 3 (mx_Ok0 a0 G)) (t_M_cell  P) :=
  ⟨mx_s_aload_n C d_M_cell_0 rfl,
  mx_s_iconst C d_M_cell_1 (by decide),
  mx_s_puti (T := T_M) (N := 18) (k := 0) C (fun w h => List.mem_cons_of_mem _ (in_M w h)) rfl ty_M ok_M nm_M (by decide) (List.mem_cons_of_mem _ (mx_in0 (by decide +kernel) rfl)) rfl rfl (ok_M 0 (by decide)) d_M_cell_2,
  mx_s_iload_n C d_M_cell_5 rfl,
  mx_s_iload_n C d_M_cell_6 rfl,
  mx_s_cs2 C (m_M_isCell l) (cwS 2 C.2.2.2.2.1 (mx_gS (fun w h => List.mem_cons_of_mem _ h) (mx_in0 (by decide +kernel) rfl) (mx_in0 (by decide +kernel) rfl) (mx_in0 (by decide +kernel) rfl) (mx_in0 (by decide +kernel) rfl)) rfl rfl rfl (by decide +kernel) ⟨by decide, by decide⟩) d_M_cell_7 ⟨Nat.zero_le _, Nat.zero_le _⟩,
  mx_s_if_eq C d_M_cell_10 (by decide),
  mx_s_aload_n C d_M_cell_13 rfl,
  mx_s_get (T := T_M) (N := 18) (k := 17) C (fun w h => List.mem_cons_of_mem _ (in_M w h)) rfl (by decide) (List.mem_cons_of_mem _ (mx_in0 (by decide +kernel) rfl)) rfl d_M_cell_14,
  mx_s_iload_n C d_M_cell_17 rfl,
  mx_s_bipush C d_M_cell_18 (by decide),
  mx_s_iload_n C d_M_cell_20 rfl,
  mx_s_imul C d_M_cell_21,
  mx_s_iadd C d_M_cell_22,
  mx_s_iald C d_M_cell_23,
  mx_s_goto C d_M_cell_24 (by decide),
  mx_s_iconst C d_M_cell_27 (by decide),
  mx_s_iret C hr hlk d_M_cell_28,
  trivial⟩
set_option maxRecDepth 20000 in
set_option maxHeartbeats 2000000 in
theorem m_M_cell (l : Launch) : mx_M l y_M_cell w_M_cell rm_M_cell sp_M_cell := by
  intro D tc tb ad As F P sz0 h
  obtain ⟨th, sz, mn, sp, wy, kp, sd, f, x, y, rfl, h1, h2, ho, hz⟩ := h
  refine mx_run (cc := c_M_cell) (maxL := 3) (ret := (some .int)) (tab := t_M_cell  P) (by decide) rfl D tc tb ad _ F P sz0 (Nat.le_of_ble_eq_true rfl) (fun p e s m args below meth c C hr hlk => a_M_cell  C hr hlk) ?_
  intro Rr go
  have hF := mx_as2 h1 h2
  rw [hF]
  refine go rfl ⟨_, rfl, ?_⟩
  refine go rfl ?_
  refine go rfl ⟨_, _, _, _, rfl, rfl, (Nat.le_of_ble_eq_true rfl), ?_⟩
  refine go rfl ⟨_, rfl, ?_⟩
  refine go rfl ⟨_, rfl, ?_⟩
  refine go rfl ⟨_, _, _, rfl, rfl, rfl, rfl, ⟨x, y, rfl, fun hc => ?_, fun hc => ?_⟩⟩
  · obtain ⟨i, j, hi, hj, rfl, rfl⟩ := ins_at hc
    refine go rfl ⟨_, _, rfl, fun c1 => ?_, fun c1 => ?_⟩
    · exact absurd c1 (by decide)
    refine go rfl ⟨_, rfl, ?_⟩
    refine go rfl ⟨_, _, _, _, rfl, rfl, rfl, ?_⟩
    refine go rfl ⟨_, rfl, ?_⟩
    refine go rfl ?_
    refine go rfl ⟨_, rfl, ?_⟩
    refine go rfl ⟨_, _, _, rfl, ?_⟩
    rw [pk_mul]
    refine go rfl ⟨_, _, _, rfl, ?_⟩
    rw [nI_add]
    refine go rfl ⟨_, _, _, _, _, rfl, rfl, (vp_in_nI (show i + 8 * j < 64 by omega) (by omega)), ?_⟩
    rw [nI_clamp (by omega)]
    refine go rfl ?_
    refine go rfl ⟨_, rfl, rfl, rfl, ?_⟩
    rw [← hF]
    exact ho i j hi hj rfl rfl _
  · refine go rfl ⟨_, _, rfl, fun c1 => ?_, fun c1 => ?_⟩
    · refine go rfl ?_
      refine go rfl ⟨_, rfl, rfl, rfl, ?_⟩
      rw [← hF]
      exact hz hc _
    · exact absurd rfl c1
-- LadderWordsModel.wipe()V
def sp_M_wipe : mx_Sp := fun As F P => ∃ (th sz mn sp : Int32) (wy : Int64) (kp sd : Int32) (f : Nat → Int32), As = [mx_r 40] ∧ F 40 = some (e_M th sz mn sp wy kp sd) ∧ F 51 = some (mx_ia 64 f) ∧ ∀ x y, P none (mx_put (mx_put F 40 x) 51 y)
theorem d_M_wipe_0 : decode c_M_wipe 0 = .ok (.aload_n 0, 1) := by decide +kernel
theorem d_M_wipe_1 : decode c_M_wipe 1 = .ok (.iconst 0, 1) := by decide +kernel
theorem d_M_wipe_2 : decode c_M_wipe 2 = .ok (.putfield 48, 3) := by decide +kernel
theorem d_M_wipe_5 : decode c_M_wipe 5 = .ok (.iconst 0, 1) := by decide +kernel
theorem d_M_wipe_6 : decode c_M_wipe 6 = .ok (.istore_n 1, 1) := by decide +kernel
theorem d_M_wipe_7 : decode c_M_wipe 7 = .ok (.iload_n 1, 1) := by decide +kernel
theorem d_M_wipe_8 : decode c_M_wipe 8 = .ok (.bipush 64, 2) := by decide +kernel
theorem d_M_wipe_10 : decode c_M_wipe 10 = .ok (.if_icmp .ge 16, 3) := by decide +kernel
theorem d_M_wipe_13 : decode c_M_wipe 13 = .ok (.aload_n 0, 1) := by decide +kernel
theorem d_M_wipe_14 : decode c_M_wipe 14 = .ok (.getfield 45, 3) := by decide +kernel
theorem d_M_wipe_17 : decode c_M_wipe 17 = .ok (.iload_n 1, 1) := by decide +kernel
theorem d_M_wipe_18 : decode c_M_wipe 18 = .ok (.iconst 0, 1) := by decide +kernel
theorem d_M_wipe_19 : decode c_M_wipe 19 = .ok (.iastore, 1) := by decide +kernel
theorem d_M_wipe_20 : decode c_M_wipe 20 = .ok (.iinc 1 1, 3) := by decide +kernel
theorem d_M_wipe_23 : decode c_M_wipe 23 = .ok (.goto (-16), 3) := by decide +kernel
theorem d_M_wipe_26 : decode c_M_wipe 26 = .ok (.return_, 1) := by decide +kernel
abbrev w_M_wipe : List Cond := mx_ws y_M_wipe c_M_wipe 2 none
abbrev rm_M_wipe : Room := { frames := 10, cells := 0, slots := 0, locals := 200 }
def t_M_wipe  (P : Option mx_V → mx_F → Prop) : List (Nat × mx_O) := [
  (0, mx_aload 0 1),
  (1, mx_push (.inl (nI 0)) 2),
  (2, mx_puti 7 0 5),
  (5, mx_push (.inl (nI 0)) 6),
  (6, mx_istore 1 7),
  (7, mx_iload 1 8),
  (8, mx_push (.inl (nI 64)) 10),
  (10, mx_ic_ge 26 13),
  (13, mx_aload 0 14),
  (14, mx_get 7 17 17),
  (17, mx_iload 1 18),
  (18, mx_push (.inl (nI 0)) 19),
  (19, mx_iast 20),
  (20, mx_iinc 1 (nI 1) 23),
  (23, mx_goto 7),
  (26, mx_ret P)]
set_option maxRecDepth 20000 in
theorem a_M_wipe  {p : Program} {l : Launch} {e : Env} {s : State} {m : MethodId} {args : Array Value} {below : List Frame} {meth : Method} {c : Code} {D : va_G} {tc : Nat → ClassId} {tb : Nat → Nat} {sz : Nat} {a0 : Nat → Nat} {G : mx_F} {P : Option mx_V → mx_F → Prop}  (C : mx_C p s m args c c_M_wipe y_M_wipe.cls w_M_wipe D tc tb (mx_A a0 G sz) 2 (mx_Ok0 a0 G)) (hr : meth.sig.returnType = none) (hlk : meth.locks = false) : mx_all (mx_W p l e rm_M_wipe s m args below meth c (MQ below (mx_Q D tc tb a0 G sz P) args s 0 0 (mx_A a0 G sz)) D tc tb (mx_A a0 G sz) 2 (mx_Ok0 a0 G)) (t_M_wipe  P) :=
  ⟨mx_s_aload_n C d_M_wipe_0 rfl,
  mx_s_iconst C d_M_wipe_1 (by decide),
  mx_s_puti (T := T_M) (N := 18) (k := 0) C (fun w h => List.mem_cons_of_mem _ (in_M w h)) rfl ty_M ok_M nm_M (by decide) (List.mem_cons_of_mem _ (mx_in0 (by decide +kernel) rfl)) rfl rfl (ok_M 0 (by decide)) d_M_wipe_2,
  mx_s_iconst C d_M_wipe_5 (by decide),
  mx_s_istore_n C d_M_wipe_6 rfl (by decide),
  mx_s_iload_n C d_M_wipe_7 rfl,
  mx_s_bipush C d_M_wipe_8 (by decide),
  mx_s_ic_ge C d_M_wipe_10 (by decide),
  mx_s_aload_n C d_M_wipe_13 rfl,
  mx_s_get (T := T_M) (N := 18) (k := 17) C (fun w h => List.mem_cons_of_mem _ (in_M w h)) rfl (by decide) (List.mem_cons_of_mem _ (mx_in0 (by decide +kernel) rfl)) rfl d_M_wipe_14,
  mx_s_iload_n C d_M_wipe_17 rfl,
  mx_s_iconst C d_M_wipe_18 (by decide),
  mx_s_iast C d_M_wipe_19,
  mx_s_iinc C d_M_wipe_20 (by decide) (by decide),
  mx_s_goto C d_M_wipe_23 (by decide),
  mx_s_ret C hr hlk d_M_wipe_26,
  trivial⟩
set_option maxRecDepth 20000 in
set_option maxHeartbeats 2000000 in
theorem m_M_wipe (l : Launch) : mx_M l y_M_wipe w_M_wipe rm_M_wipe sp_M_wipe := by
  intro D tc tb ad As F P sz0 h
  obtain ⟨th, sz, mn, sp, wy, kp, sd, f, rfl, h1, h2, hp⟩ := h
  refine mx_run (cc := c_M_wipe) (maxL := 2) (ret := none) (tab := t_M_wipe  P) (by decide) rfl D tc tb ad _ F P sz0 (Nat.le_of_ble_eq_true rfl) (fun p e s m args below meth c C hr hlk => a_M_wipe  C hr hlk) ?_
  intro Rr go
  have hF := mx_as2 h1 h2
  rw [hF]
  have loop : ∀ (k i : Nat) (f : Nat → Int32), i + k = 64 → Rr 7 [some (mx_r 40), some (mx_i (nI i))] [] (mx_put (mx_put F 40 (e_M (nI 0) sz mn sp wy kp sd)) 51 (mx_ia 64 f)) 0 0 := by
    intro k
    induction k with
    | zero =>
      intro i f hi
      refine go rfl ⟨_, rfl, ?_⟩
      refine go rfl ?_
      refine go rfl ⟨_, _, _, rfl, fun c => ?_, fun c => ?_⟩
      · refine go rfl ⟨rfl, rfl, rfl, ?_⟩
        exact hp _ _
      · exact absurd (nI_le (by omega) (by omega)) c
    | succ k ih =>
      intro i f hi
      refine go rfl ⟨_, rfl, ?_⟩
      refine go rfl ?_
      refine go rfl ⟨_, _, _, rfl, fun c => ?_, fun c => ?_⟩
      · exact absurd ((nI_leI (by omega) (by omega)).mp c) (by omega)
      · refine go rfl ⟨_, rfl, ?_⟩
        refine go rfl ⟨_, _, _, _, rfl, rfl, rfl, ?_⟩
        refine go rfl ⟨_, rfl, ?_⟩
        refine go rfl ?_
        refine go rfl ⟨_, _, _, _, _, _, rfl, rfl, (vp_in_nI (by omega) (by omega)), ?_⟩
        rw [mx_pp]
        refine go rfl ⟨_, rfl, ?_⟩
        refine go rfl ?_
        rw [nI_add]
        exact ih (i + 1) _ (by omega)
  refine go rfl ⟨_, rfl, ?_⟩
  refine go rfl ?_
  refine go rfl ⟨_, _, _, _, rfl, rfl, (Nat.le_of_ble_eq_true rfl), ?_⟩
  rw [mx_pc _ _ _ (show (40 : Nat) ≠ 51 by decide), mx_pp]
  refine go rfl ?_
  refine go rfl ⟨_, _, rfl, ?_⟩
  exact loop 64 0 f rfl
-- LadderWordsModel.gather(I)I
def sp_M_gather : mx_Sp := fun As F P => ∃ (th mn sp : Int32) (wy : Int64) (kp sd : Int32) (f : Nat → Int32) (most : Int32), As = [mx_r 40, mx_i most] ∧ F 40 = some (e_M th (nI 0) mn sp wy kp sd) ∧ F 49 = some (mx_ia 26 f) ∧ (gm most → ∀ x y, P (some (mx_i (-1))) (mx_put (mx_put F 40 x) 49 y)) ∧ (¬ gm most → ∀ x y, P (some (mx_i (nI 0))) (mx_put (mx_put F 40 x) 49 y))
theorem d_M_gather_0 : decode c_M_gather 0 = .ok (.aload_n 0, 1) := by decide +kernel
theorem d_M_gather_1 : decode c_M_gather 1 = .ok (.iconst 0, 1) := by decide +kernel
theorem d_M_gather_2 : decode c_M_gather 2 = .ok (.putfield 48, 3) := by decide +kernel
theorem d_M_gather_5 : decode c_M_gather 5 = .ok (.iload_n 1, 1) := by decide +kernel
theorem d_M_gather_6 : decode c_M_gather 6 = .ok (.iconst 1, 1) := by decide +kernel
theorem d_M_gather_7 : decode c_M_gather 7 = .ok (.if_icmp .lt 8, 3) := by decide +kernel
theorem d_M_gather_10 : decode c_M_gather 10 = .ok (.iload_n 1, 1) := by decide +kernel
theorem d_M_gather_11 : decode c_M_gather 11 = .ok (.iconst 4, 1) := by decide +kernel
theorem d_M_gather_12 : decode c_M_gather 12 = .ok (.if_icmp .le 5, 3) := by decide +kernel
theorem d_M_gather_15 : decode c_M_gather 15 = .ok (.iconst (-1), 1) := by decide +kernel
theorem d_M_gather_16 : decode c_M_gather 16 = .ok (.ireturn, 1) := by decide +kernel
theorem d_M_gather_17 : decode c_M_gather 17 = .ok (.aload_n 0, 1) := by decide +kernel
theorem d_M_gather_18 : decode c_M_gather 18 = .ok (.iconst 0, 1) := by decide +kernel
theorem d_M_gather_19 : decode c_M_gather 19 = .ok (.putfield 65, 3) := by decide +kernel
theorem d_M_gather_22 : decode c_M_gather 22 = .ok (.iconst 0, 1) := by decide +kernel
theorem d_M_gather_23 : decode c_M_gather 23 = .ok (.istore_n 2, 1) := by decide +kernel
theorem d_M_gather_24 : decode c_M_gather 24 = .ok (.iload_n 2, 1) := by decide +kernel
theorem d_M_gather_25 : decode c_M_gather 25 = .ok (.bipush 26, 2) := by decide +kernel
theorem d_M_gather_27 : decode c_M_gather 27 = .ok (.if_icmp .ge 16, 3) := by decide +kernel
theorem d_M_gather_30 : decode c_M_gather 30 = .ok (.aload_n 0, 1) := by decide +kernel
theorem d_M_gather_31 : decode c_M_gather 31 = .ok (.getfield 39, 3) := by decide +kernel
theorem d_M_gather_34 : decode c_M_gather 34 = .ok (.iload_n 2, 1) := by decide +kernel
theorem d_M_gather_35 : decode c_M_gather 35 = .ok (.iconst 0, 1) := by decide +kernel
theorem d_M_gather_36 : decode c_M_gather 36 = .ok (.iastore, 1) := by decide +kernel
theorem d_M_gather_37 : decode c_M_gather 37 = .ok (.iinc 2 1, 3) := by decide +kernel
theorem d_M_gather_40 : decode c_M_gather 40 = .ok (.goto (-16), 3) := by decide +kernel
theorem d_M_gather_43 : decode c_M_gather 43 = .ok (.iconst 0, 1) := by decide +kernel
theorem d_M_gather_44 : decode c_M_gather 44 = .ok (.istore_n 2, 1) := by decide +kernel
theorem d_M_gather_45 : decode c_M_gather 45 = .ok (.iload_n 2, 1) := by decide +kernel
theorem d_M_gather_46 : decode c_M_gather 46 = .ok (.aload_n 0, 1) := by decide +kernel
theorem d_M_gather_47 : decode c_M_gather 47 = .ok (.getfield 54, 3) := by decide +kernel
theorem d_M_gather_50 : decode c_M_gather 50 = .ok (.if_icmp .ge 27, 3) := by decide +kernel
theorem d_M_gather_77 : decode c_M_gather 77 = .ok (.aload_n 0, 1) := by decide +kernel
theorem d_M_gather_78 : decode c_M_gather 78 = .ok (.getfield 54, 3) := by decide +kernel
theorem d_M_gather_81 : decode c_M_gather 81 = .ok (.ifCond .ne 5, 3) := by decide +kernel
theorem d_M_gather_84 : decode c_M_gather 84 = .ok (.iconst 0, 1) := by decide +kernel
theorem d_M_gather_85 : decode c_M_gather 85 = .ok (.ireturn, 1) := by decide +kernel
abbrev w_M_gather : List Cond := mx_ws y_M_gather c_M_gather 5 (some .int)
abbrev rm_M_gather : Room := { frames := 30, cells := 0, slots := 0, locals := 600 }
def t_M_gather  (P : Option mx_V → mx_F → Prop) : List (Nat × mx_O) := [
  (0, mx_aload 0 1),
  (1, mx_push (.inl (nI 0)) 2),
  (2, mx_puti 7 0 5),
  (5, mx_iload 1 6),
  (6, mx_push (.inl (nI 1)) 7),
  (7, mx_ic_lt 15 10),
  (10, mx_iload 1 11),
  (11, mx_push (.inl (nI 4)) 12),
  (12, mx_ic_le 17 15),
  (15, mx_push (.inl (-1)) 16),
  (16, mx_iret P),
  (17, mx_aload 0 18),
  (18, mx_push (.inl (nI 0)) 19),
  (19, mx_puti 7 11 22),
  (22, mx_push (.inl (nI 0)) 23),
  (23, mx_istore 2 24),
  (24, mx_iload 2 25),
  (25, mx_push (.inl (nI 26)) 27),
  (27, mx_ic_ge 43 30),
  (30, mx_aload 0 31),
  (31, mx_get 7 14 34),
  (34, mx_iload 2 35),
  (35, mx_push (.inl (nI 0)) 36),
  (36, mx_iast 37),
  (37, mx_iinc 2 (nI 1) 40),
  (40, mx_goto 24),
  (43, mx_push (.inl (nI 0)) 44),
  (44, mx_istore 2 45),
  (45, mx_iload 2 46),
  (46, mx_aload 0 47),
  (47, mx_get 7 1 50),
  (50, mx_ic_ge 77 53),
  (77, mx_aload 0 78),
  (78, mx_get 7 1 81),
  (81, mx_if_ne 86 84),
  (84, mx_push (.inl (nI 0)) 85),
  (85, mx_iret P)]
set_option maxRecDepth 20000 in
theorem a_M_gather  {p : Program} {l : Launch} {e : Env} {s : State} {m : MethodId} {args : Array Value} {below : List Frame} {meth : Method} {c : Code} {D : va_G} {tc : Nat → ClassId} {tb : Nat → Nat} {sz : Nat} {a0 : Nat → Nat} {G : mx_F} {P : Option mx_V → mx_F → Prop}  (C : mx_C p s m args c c_M_gather y_M_gather.cls w_M_gather D tc tb (mx_A a0 G sz) 5 (mx_Ok0 a0 G)) (hr : meth.sig.returnType = (some .int)) (hlk : meth.locks = false) : mx_all (mx_W p l e rm_M_gather s m args below meth c (MQ below (mx_Q D tc tb a0 G sz P) args s 0 0 (mx_A a0 G sz)) D tc tb (mx_A a0 G sz) 5 (mx_Ok0 a0 G)) (t_M_gather  P) :=
  ⟨mx_s_aload_n C d_M_gather_0 rfl,
  mx_s_iconst C d_M_gather_1 (by decide),
  mx_s_puti (T := T_M) (N := 18) (k := 0) C (fun w h => List.mem_cons_of_mem _ (in_M w h)) rfl ty_M ok_M nm_M (by decide) (List.mem_cons_of_mem _ (mx_in0 (by decide +kernel) rfl)) rfl rfl (ok_M 0 (by decide)) d_M_gather_2,
  mx_s_iload_n C d_M_gather_5 rfl,
  mx_s_iconst C d_M_gather_6 (by decide),
  mx_s_ic_lt C d_M_gather_7 (by decide),
  mx_s_iload_n C d_M_gather_10 rfl,
  mx_s_iconst C d_M_gather_11 (by decide),
  mx_s_ic_le C d_M_gather_12 (by decide),
  mx_s_iconst C d_M_gather_15 (by decide),
  mx_s_iret C hr hlk d_M_gather_16,
  mx_s_aload_n C d_M_gather_17 rfl,
  mx_s_iconst C d_M_gather_18 (by decide),
  mx_s_puti (T := T_M) (N := 18) (k := 11) C (fun w h => List.mem_cons_of_mem _ (in_M w h)) rfl ty_M ok_M nm_M (by decide) (List.mem_cons_of_mem _ (mx_in0 (by decide +kernel) rfl)) rfl rfl (ok_M 11 (by decide)) d_M_gather_19,
  mx_s_iconst C d_M_gather_22 (by decide),
  mx_s_istore_n C d_M_gather_23 rfl (by decide),
  mx_s_iload_n C d_M_gather_24 rfl,
  mx_s_bipush C d_M_gather_25 (by decide),
  mx_s_ic_ge C d_M_gather_27 (by decide),
  mx_s_aload_n C d_M_gather_30 rfl,
  mx_s_get (T := T_M) (N := 18) (k := 14) C (fun w h => List.mem_cons_of_mem _ (in_M w h)) rfl (by decide) (List.mem_cons_of_mem _ (mx_in0 (by decide +kernel) rfl)) rfl d_M_gather_31,
  mx_s_iload_n C d_M_gather_34 rfl,
  mx_s_iconst C d_M_gather_35 (by decide),
  mx_s_iast C d_M_gather_36,
  mx_s_iinc C d_M_gather_37 (by decide) (by decide),
  mx_s_goto C d_M_gather_40 (by decide),
  mx_s_iconst C d_M_gather_43 (by decide),
  mx_s_istore_n C d_M_gather_44 rfl (by decide),
  mx_s_iload_n C d_M_gather_45 rfl,
  mx_s_aload_n C d_M_gather_46 rfl,
  mx_s_get (T := T_M) (N := 18) (k := 1) C (fun w h => List.mem_cons_of_mem _ (in_M w h)) rfl (by decide) (List.mem_cons_of_mem _ (mx_in0 (by decide +kernel) rfl)) rfl d_M_gather_47,
  mx_s_ic_ge C d_M_gather_50 (by decide),
  mx_s_aload_n C d_M_gather_77 rfl,
  mx_s_get (T := T_M) (N := 18) (k := 1) C (fun w h => List.mem_cons_of_mem _ (in_M w h)) rfl (by decide) (List.mem_cons_of_mem _ (mx_in0 (by decide +kernel) rfl)) rfl d_M_gather_78,
  mx_s_if_ne C d_M_gather_81 (by decide),
  mx_s_iconst C d_M_gather_84 (by decide),
  mx_s_iret C hr hlk d_M_gather_85,
  trivial⟩
set_option maxRecDepth 20000 in
set_option maxHeartbeats 2000000 in
theorem m_M_gather (l : Launch) : mx_M l y_M_gather w_M_gather rm_M_gather sp_M_gather := by
  intro D tc tb ad As F P sz0 h
  obtain ⟨th, mn, sp, wy, kp, sd, f, most, rfl, h1, h2, hz, ho⟩ := h
  refine mx_run (cc := c_M_gather) (maxL := 5) (ret := (some .int)) (tab := t_M_gather  P) (by decide) rfl D tc tb ad _ F P sz0 (Nat.le_of_ble_eq_true rfl) (fun p e s m args below meth c C hr hlk => a_M_gather  C hr hlk) ?_
  intro Rr go
  have hF := mx_as2 h1 h2
  rw [hF]
  have z : gm most → Rr 15 (mx_en [mx_r 40, mx_i most] 5) [] (mx_put (mx_put F 40 (e_M (nI 0) (nI 0) mn sp wy kp sd)) 49 (mx_ia 26 f)) 0 0 := by
    intro hc
    refine go rfl ?_
    refine go rfl ⟨_, rfl, rfl, rfl, ?_⟩
    exact hz hc _ _
  have loop : ¬ gm most → ∀ (k i : Nat) (f : Nat → Int32), i + k = 26 → Rr 24 [some (mx_r 40), some (mx_i most), some (mx_i (nI i)), none, none] [] (mx_put (mx_put F 40 (e_M (nI 0) (nI 0) mn sp wy (nI 0) sd)) 49 (mx_ia 26 f)) 0 0 := by
    intro hc k
    induction k with
    | zero =>
      intro i f hi
      refine go rfl ⟨_, rfl, ?_⟩
      refine go rfl ?_
      refine go rfl ⟨_, _, _, rfl, fun c => ?_, fun c => ?_⟩
      · refine go rfl ?_
        refine go rfl ⟨_, _, rfl, ?_⟩
        refine go rfl ⟨_, rfl, ?_⟩
        refine go rfl ⟨_, rfl, ?_⟩
        refine go rfl ⟨_, _, _, _, rfl, rfl, rfl, ?_⟩
        refine go rfl ⟨_, _, _, rfl, fun c4 => ?_, fun c4 => ?_⟩
        · refine go rfl ⟨_, rfl, ?_⟩
          refine go rfl ⟨_, _, _, _, rfl, rfl, rfl, ?_⟩
          refine go rfl ⟨_, _, rfl, fun c5 => ?_, fun c5 => ?_⟩
          · exact absurd rfl c5
          refine go rfl ?_
          refine go rfl ⟨_, rfl, rfl, rfl, ?_⟩
          exact ho hc _ _
        · exact absurd (nI_le (Nat.le_refl _) (by decide)) c4
      · exact absurd (nI_le (by omega) (by omega)) c
    | succ k ih =>
      intro i f hi
      refine go rfl ⟨_, rfl, ?_⟩
      refine go rfl ?_
      refine go rfl ⟨_, _, _, rfl, fun c => ?_, fun c => ?_⟩
      · exact absurd ((nI_leI (by omega) (by omega)).mp c) (by omega)
      · refine go rfl ⟨_, rfl, ?_⟩
        refine go rfl ⟨_, _, _, _, rfl, rfl, rfl, ?_⟩
        refine go rfl ⟨_, rfl, ?_⟩
        refine go rfl ?_
        refine go rfl ⟨_, _, _, _, _, _, rfl, rfl, (vp_in_nI (by omega) (by omega)), ?_⟩
        rw [mx_pp]
        refine go rfl ⟨_, rfl, ?_⟩
        refine go rfl ?_
        rw [nI_add]
        exact ih (i + 1) _ (by omega)
  refine go rfl ⟨_, rfl, ?_⟩
  refine go rfl ?_
  refine go rfl ⟨_, _, _, _, rfl, rfl, (Nat.le_of_ble_eq_true rfl), ?_⟩
  rw [mx_pc _ _ _ (show (40 : Nat) ≠ 49 by decide), mx_pp]
  refine go rfl ⟨_, rfl, ?_⟩
  refine go rfl ?_
  refine go rfl ⟨_, _, _, rfl, fun c1 => ?_, fun c1 => ?_⟩
  · exact z (Or.inl c1)
  refine go rfl ⟨_, rfl, ?_⟩
  refine go rfl ?_
  refine go rfl ⟨_, _, _, rfl, fun c2 => ?_, fun c2 => ?_⟩
  · refine go rfl ⟨_, rfl, ?_⟩
    refine go rfl ?_
    refine go rfl ⟨_, _, _, _, rfl, rfl, (Nat.le_of_ble_eq_true rfl), ?_⟩
    rw [mx_pc _ _ _ (show (40 : Nat) ≠ 49 by decide), mx_pp]
    refine go rfl ?_
    refine go rfl ⟨_, _, rfl, ?_⟩
    exact loop (fun h => h.elim c1 (fun q => q c2)) 26 0 f rfl
  · exact z (Or.inr c2)
-- LadderWordsModel.square(I)Z
def sp_M_square : mx_Sp := fun As F P => ∃ (th sz sp : Int32) (wy : Int64) (kp sd : Int32) (f : Nat → Int32) (n : Int32), As = [mx_r 40, mx_i n] ∧ F 40 = some (e_M th sz (nI 0) sp wy kp sd) ∧ F 50 = some (mx_ia 6 f) ∧ ∀ x y, P (some (mx_i (nI 0))) (mx_put (mx_put F 40 x) 50 y)
theorem d_M_square_0 : decode c_M_square 0 = .ok (.aload_n 0, 1) := by decide +kernel
theorem d_M_square_1 : decode c_M_square 1 = .ok (.iconst 0, 1) := by decide +kernel
theorem d_M_square_2 : decode c_M_square 2 = .ok (.putfield 48, 3) := by decide +kernel
theorem d_M_square_5 : decode c_M_square 5 = .ok (.aload_n 0, 1) := by decide +kernel
theorem d_M_square_6 : decode c_M_square 6 = .ok (.iconst 0, 1) := by decide +kernel
theorem d_M_square_7 : decode c_M_square 7 = .ok (.putfield 68, 3) := by decide +kernel
theorem d_M_square_10 : decode c_M_square 10 = .ok (.iload_n 1, 1) := by decide +kernel
theorem d_M_square_11 : decode c_M_square 11 = .ok (.iconst 2, 1) := by decide +kernel
theorem d_M_square_12 : decode c_M_square 12 = .ok (.if_icmp .lt 8, 3) := by decide +kernel
theorem d_M_square_15 : decode c_M_square 15 = .ok (.iload_n 1, 1) := by decide +kernel
theorem d_M_square_16 : decode c_M_square 16 = .ok (.iconst 5, 1) := by decide +kernel
theorem d_M_square_17 : decode c_M_square 17 = .ok (.if_icmp .le 5, 3) := by decide +kernel
theorem d_M_square_20 : decode c_M_square 20 = .ok (.iconst 0, 1) := by decide +kernel
theorem d_M_square_21 : decode c_M_square 21 = .ok (.ireturn, 1) := by decide +kernel
theorem d_M_square_22 : decode c_M_square 22 = .ok (.iconst 0, 1) := by decide +kernel
theorem d_M_square_23 : decode c_M_square 23 = .ok (.istore_n 2, 1) := by decide +kernel
theorem d_M_square_24 : decode c_M_square 24 = .ok (.aload_n 0, 1) := by decide +kernel
theorem d_M_square_25 : decode c_M_square 25 = .ok (.getfield 42, 3) := by decide +kernel
theorem d_M_square_28 : decode c_M_square 28 = .ok (.iconst 0, 1) := by decide +kernel
theorem d_M_square_29 : decode c_M_square 29 = .ok (.iconst (-1), 1) := by decide +kernel
theorem d_M_square_30 : decode c_M_square 30 = .ok (.iastore, 1) := by decide +kernel
theorem d_M_square_31 : decode c_M_square 31 = .ok (.iload_n 2, 1) := by decide +kernel
theorem d_M_square_32 : decode c_M_square 32 = .ok (.ifCond .lt 91, 3) := by decide +kernel
theorem d_M_square_35 : decode c_M_square 35 = .ok (.iload_n 2, 1) := by decide +kernel
theorem d_M_square_36 : decode c_M_square 36 = .ok (.iload_n 1, 1) := by decide +kernel
theorem d_M_square_37 : decode c_M_square 37 = .ok (.if_icmp .ge 86, 3) := by decide +kernel
theorem d_M_square_40 : decode c_M_square 40 = .ok (.aload_n 0, 1) := by decide +kernel
theorem d_M_square_41 : decode c_M_square 41 = .ok (.getfield 42, 3) := by decide +kernel
theorem d_M_square_44 : decode c_M_square 44 = .ok (.iload_n 2, 1) := by decide +kernel
theorem d_M_square_45 : decode c_M_square 45 = .ok (.dup2, 1) := by decide +kernel
theorem d_M_square_46 : decode c_M_square 46 = .ok (.iaload, 1) := by decide +kernel
theorem d_M_square_47 : decode c_M_square 47 = .ok (.iconst 1, 1) := by decide +kernel
theorem d_M_square_48 : decode c_M_square 48 = .ok (.iadd, 1) := by decide +kernel
theorem d_M_square_49 : decode c_M_square 49 = .ok (.iastore, 1) := by decide +kernel
theorem d_M_square_50 : decode c_M_square 50 = .ok (.aload_n 0, 1) := by decide +kernel
theorem d_M_square_51 : decode c_M_square 51 = .ok (.getfield 42, 3) := by decide +kernel
theorem d_M_square_54 : decode c_M_square 54 = .ok (.iload_n 2, 1) := by decide +kernel
theorem d_M_square_55 : decode c_M_square 55 = .ok (.iaload, 1) := by decide +kernel
theorem d_M_square_56 : decode c_M_square 56 = .ok (.aload_n 0, 1) := by decide +kernel
theorem d_M_square_57 : decode c_M_square 57 = .ok (.getfield 51, 3) := by decide +kernel
theorem d_M_square_60 : decode c_M_square 60 = .ok (.if_icmp .ge 31, 3) := by decide +kernel
theorem d_M_square_91 : decode c_M_square 91 = .ok (.aload_n 0, 1) := by decide +kernel
theorem d_M_square_92 : decode c_M_square 92 = .ok (.getfield 42, 3) := by decide +kernel
theorem d_M_square_95 : decode c_M_square 95 = .ok (.iload_n 2, 1) := by decide +kernel
theorem d_M_square_96 : decode c_M_square 96 = .ok (.iaload, 1) := by decide +kernel
theorem d_M_square_97 : decode c_M_square 97 = .ok (.aload_n 0, 1) := by decide +kernel
theorem d_M_square_98 : decode c_M_square 98 = .ok (.getfield 51, 3) := by decide +kernel
theorem d_M_square_101 : decode c_M_square 101 = .ok (.if_icmp .ne 9, 3) := by decide +kernel
theorem d_M_square_104 : decode c_M_square 104 = .ok (.iinc 2 (-1), 3) := by decide +kernel
theorem d_M_square_107 : decode c_M_square 107 = .ok (.goto (-76), 3) := by decide +kernel
theorem d_M_square_123 : decode c_M_square 123 = .ok (.aload_n 0, 1) := by decide +kernel
theorem d_M_square_124 : decode c_M_square 124 = .ok (.iload_n 2, 1) := by decide +kernel
theorem d_M_square_125 : decode c_M_square 125 = .ok (.ifCond .ge 7, 3) := by decide +kernel
theorem d_M_square_128 : decode c_M_square 128 = .ok (.iconst 0, 1) := by decide +kernel
theorem d_M_square_129 : decode c_M_square 129 = .ok (.goto 4, 3) := by decide +kernel
theorem d_M_square_133 : decode c_M_square 133 = .ok (.putfield 68, 3) := by decide +kernel
theorem d_M_square_136 : decode c_M_square 136 = .ok (.iload_n 2, 1) := by decide +kernel
theorem d_M_square_137 : decode c_M_square 137 = .ok (.iload_n 1, 1) := by decide +kernel
theorem d_M_square_138 : decode c_M_square 138 = .ok (.if_icmp .ne 7, 3) := by decide +kernel
theorem d_M_square_145 : decode c_M_square 145 = .ok (.iconst 0, 1) := by decide +kernel
theorem d_M_square_146 : decode c_M_square 146 = .ok (.ireturn, 1) := by decide +kernel
abbrev w_M_square : List Cond := mx_ws y_M_square c_M_square 3 (some .boolean)
abbrev rm_M_square : Room := { frames := 30, cells := 0, slots := 0, locals := 600 }
def t_M_square  (P : Option mx_V → mx_F → Prop) : List (Nat × mx_O) := [
  (0, mx_aload 0 1),
  (1, mx_push (.inl (nI 0)) 2),
  (2, mx_puti 7 0 5),
  (5, mx_aload 0 6),
  (6, mx_push (.inl (nI 0)) 7),
  (7, mx_puti 7 15 10),
  (10, mx_iload 1 11),
  (11, mx_push (.inl (nI 2)) 12),
  (12, mx_ic_lt 20 15),
  (15, mx_iload 1 16),
  (16, mx_push (.inl (nI 5)) 17),
  (17, mx_ic_le 22 20),
  (20, mx_push (.inl (nI 0)) 21),
  (21, mx_zret P),
  (22, mx_push (.inl (nI 0)) 23),
  (23, mx_istore 2 24),
  (24, mx_aload 0 25),
  (25, mx_get 7 16 28),
  (28, mx_push (.inl (nI 0)) 29),
  (29, mx_push (.inl (-1)) 30),
  (30, mx_iast 31),
  (31, mx_iload 2 32),
  (32, mx_if_lt 123 35),
  (35, mx_iload 2 36),
  (36, mx_iload 1 37),
  (37, mx_ic_ge 123 40),
  (40, mx_aload 0 41),
  (41, mx_get 7 16 44),
  (44, mx_iload 2 45),
  (45, mx_dup2 46),
  (46, mx_iald 47),
  (47, mx_push (.inl (nI 1)) 48),
  (48, mx_iadd 49),
  (49, mx_iast 50),
  (50, mx_aload 0 51),
  (51, mx_get 7 16 54),
  (54, mx_iload 2 55),
  (55, mx_iald 56),
  (56, mx_aload 0 57),
  (57, mx_get 7 3 60),
  (60, mx_ic_ge 91 63),
  (91, mx_aload 0 92),
  (92, mx_get 7 16 95),
  (95, mx_iload 2 96),
  (96, mx_iald 97),
  (97, mx_aload 0 98),
  (98, mx_get 7 3 101),
  (101, mx_ic_ne 110 104),
  (104, mx_iinc 2 (-1) 107),
  (107, mx_goto 31),
  (123, mx_aload 0 124),
  (124, mx_iload 2 125),
  (125, mx_if_ge 132 128),
  (128, mx_push (.inl (nI 0)) 129),
  (129, mx_goto 133),
  (133, mx_puti 7 15 136),
  (136, mx_iload 2 137),
  (137, mx_iload 1 138),
  (138, mx_ic_ne 145 141),
  (145, mx_push (.inl (nI 0)) 146),
  (146, mx_zret P)]
set_option maxRecDepth 20000 in
theorem a_M_square  {p : Program} {l : Launch} {e : Env} {s : State} {m : MethodId} {args : Array Value} {below : List Frame} {meth : Method} {c : Code} {D : va_G} {tc : Nat → ClassId} {tb : Nat → Nat} {sz : Nat} {a0 : Nat → Nat} {G : mx_F} {P : Option mx_V → mx_F → Prop}  (C : mx_C p s m args c c_M_square y_M_square.cls w_M_square D tc tb (mx_A a0 G sz) 3 (mx_Ok0 a0 G)) (hr : meth.sig.returnType = (some .boolean)) (hlk : meth.locks = false) : mx_all (mx_W p l e rm_M_square s m args below meth c (MQ below (mx_Q D tc tb a0 G sz P) args s 0 0 (mx_A a0 G sz)) D tc tb (mx_A a0 G sz) 3 (mx_Ok0 a0 G)) (t_M_square  P) :=
  ⟨mx_s_aload_n C d_M_square_0 rfl,
  mx_s_iconst C d_M_square_1 (by decide),
  mx_s_puti (T := T_M) (N := 18) (k := 0) C (fun w h => List.mem_cons_of_mem _ (in_M w h)) rfl ty_M ok_M nm_M (by decide) (List.mem_cons_of_mem _ (mx_in0 (by decide +kernel) rfl)) rfl rfl (ok_M 0 (by decide)) d_M_square_2,
  mx_s_aload_n C d_M_square_5 rfl,
  mx_s_iconst C d_M_square_6 (by decide),
  mx_s_puti (T := T_M) (N := 18) (k := 15) C (fun w h => List.mem_cons_of_mem _ (in_M w h)) rfl ty_M ok_M nm_M (by decide) (List.mem_cons_of_mem _ (mx_in0 (by decide +kernel) rfl)) rfl rfl (ok_M 15 (by decide)) d_M_square_7,
  mx_s_iload_n C d_M_square_10 rfl,
  mx_s_iconst C d_M_square_11 (by decide),
  mx_s_ic_lt C d_M_square_12 (by decide),
  mx_s_iload_n C d_M_square_15 rfl,
  mx_s_iconst C d_M_square_16 (by decide),
  mx_s_ic_le C d_M_square_17 (by decide),
  mx_s_iconst C d_M_square_20 (by decide),
  mx_s_zret C hr hlk d_M_square_21,
  mx_s_iconst C d_M_square_22 (by decide),
  mx_s_istore_n C d_M_square_23 rfl (by decide),
  mx_s_aload_n C d_M_square_24 rfl,
  mx_s_get (T := T_M) (N := 18) (k := 16) C (fun w h => List.mem_cons_of_mem _ (in_M w h)) rfl (by decide) (List.mem_cons_of_mem _ (mx_in0 (by decide +kernel) rfl)) rfl d_M_square_25,
  mx_s_iconst C d_M_square_28 (by decide),
  mx_s_iconst C d_M_square_29 (by decide),
  mx_s_iast C d_M_square_30,
  mx_s_iload_n C d_M_square_31 rfl,
  mx_s_if_lt C d_M_square_32 (by decide),
  mx_s_iload_n C d_M_square_35 rfl,
  mx_s_iload_n C d_M_square_36 rfl,
  mx_s_ic_ge C d_M_square_37 (by decide),
  mx_s_aload_n C d_M_square_40 rfl,
  mx_s_get (T := T_M) (N := 18) (k := 16) C (fun w h => List.mem_cons_of_mem _ (in_M w h)) rfl (by decide) (List.mem_cons_of_mem _ (mx_in0 (by decide +kernel) rfl)) rfl d_M_square_41,
  mx_s_iload_n C d_M_square_44 rfl,
  mx_s_dup2 C d_M_square_45,
  mx_s_iald C d_M_square_46,
  mx_s_iconst C d_M_square_47 (by decide),
  mx_s_iadd C d_M_square_48,
  mx_s_iast C d_M_square_49,
  mx_s_aload_n C d_M_square_50 rfl,
  mx_s_get (T := T_M) (N := 18) (k := 16) C (fun w h => List.mem_cons_of_mem _ (in_M w h)) rfl (by decide) (List.mem_cons_of_mem _ (mx_in0 (by decide +kernel) rfl)) rfl d_M_square_51,
  mx_s_iload_n C d_M_square_54 rfl,
  mx_s_iald C d_M_square_55,
  mx_s_aload_n C d_M_square_56 rfl,
  mx_s_get (T := T_M) (N := 18) (k := 3) C (fun w h => List.mem_cons_of_mem _ (in_M w h)) rfl (by decide) (List.mem_cons_of_mem _ (mx_in0 (by decide +kernel) rfl)) rfl d_M_square_57,
  mx_s_ic_ge C d_M_square_60 (by decide),
  mx_s_aload_n C d_M_square_91 rfl,
  mx_s_get (T := T_M) (N := 18) (k := 16) C (fun w h => List.mem_cons_of_mem _ (in_M w h)) rfl (by decide) (List.mem_cons_of_mem _ (mx_in0 (by decide +kernel) rfl)) rfl d_M_square_92,
  mx_s_iload_n C d_M_square_95 rfl,
  mx_s_iald C d_M_square_96,
  mx_s_aload_n C d_M_square_97 rfl,
  mx_s_get (T := T_M) (N := 18) (k := 3) C (fun w h => List.mem_cons_of_mem _ (in_M w h)) rfl (by decide) (List.mem_cons_of_mem _ (mx_in0 (by decide +kernel) rfl)) rfl d_M_square_98,
  mx_s_ic_ne C d_M_square_101 (by decide),
  mx_s_iinc C d_M_square_104 (by decide) (by decide),
  mx_s_goto C d_M_square_107 (by decide),
  mx_s_aload_n C d_M_square_123 rfl,
  mx_s_iload_n C d_M_square_124 rfl,
  mx_s_if_ge C d_M_square_125 (by decide),
  mx_s_iconst C d_M_square_128 (by decide),
  mx_s_goto C d_M_square_129 (by decide),
  mx_s_puti (T := T_M) (N := 18) (k := 15) C (fun w h => List.mem_cons_of_mem _ (in_M w h)) rfl ty_M ok_M nm_M (by decide) (List.mem_cons_of_mem _ (mx_in0 (by decide +kernel) rfl)) rfl rfl (ok_M 15 (by decide)) d_M_square_133,
  mx_s_iload_n C d_M_square_136 rfl,
  mx_s_iload_n C d_M_square_137 rfl,
  mx_s_ic_ne C d_M_square_138 (by decide),
  mx_s_iconst C d_M_square_145 (by decide),
  mx_s_zret C hr hlk d_M_square_146,
  trivial⟩
set_option maxRecDepth 20000 in
set_option maxHeartbeats 2000000 in
theorem m_M_square (l : Launch) : mx_M l y_M_square w_M_square rm_M_square sp_M_square := by
  intro D tc tb ad As F P sz0 h
  obtain ⟨th, sz, sp, wy, kp, sd, f, n, rfl, h1, h2, hp⟩ := h
  refine mx_run (cc := c_M_square) (maxL := 3) (ret := (some .boolean)) (tab := t_M_square  P) (by decide) rfl D tc tb ad _ F P sz0 (Nat.le_of_ble_eq_true rfl) (fun p e s m args below meth c C hr hlk => a_M_square  C hr hlk) ?_
  intro Rr go
  have hF := mx_as2 h1 h2
  rw [hF]
  refine go rfl ⟨_, rfl, ?_⟩
  refine go rfl ?_
  refine go rfl ⟨_, _, _, _, rfl, rfl, (Nat.le_of_ble_eq_true rfl), ?_⟩
  refine go rfl ⟨_, rfl, ?_⟩
  refine go rfl ?_
  refine go rfl ⟨_, _, _, _, rfl, rfl, (Nat.le_of_ble_eq_true rfl), ?_⟩
  rw [mx_pp, mx_pc _ _ _ (show (40 : Nat) ≠ 50 by decide), mx_pp]
  refine go rfl ⟨_, rfl, ?_⟩
  refine go rfl ?_
  refine go rfl ⟨_, _, _, rfl, fun c1 => ?_, fun c1 => ?_⟩
  · refine go rfl ?_
    refine go rfl ⟨_, rfl, rfl, rfl, (Or.inl rfl), ?_⟩
    exact hp _ _
  refine go rfl ⟨_, rfl, ?_⟩
  refine go rfl ?_
  refine go rfl ⟨_, _, _, rfl, fun c2 => ?_, fun c2 => ?_⟩
  · refine go rfl ?_
    refine go rfl ⟨_, _, rfl, ?_⟩
    refine go rfl ⟨_, rfl, ?_⟩
    refine go rfl ⟨_, _, _, _, rfl, rfl, rfl, ?_⟩
    refine go rfl ?_
    refine go rfl ?_
    refine go rfl ⟨_, _, _, _, _, _, rfl, rfl, (vp_in_nI (by decide) (by decide)), ?_⟩
    rw [mx_pp]
    refine go rfl ⟨_, rfl, ?_⟩
    refine go rfl ⟨_, _, rfl, fun c3 => ?_, fun c3 => ?_⟩
    · exact absurd c3 (by decide)
    refine go rfl ⟨_, rfl, ?_⟩
    refine go rfl ⟨_, rfl, ?_⟩
    refine go rfl ⟨_, _, _, rfl, fun c4 => ?_, fun c4 => ?_⟩
    · exact absurd (Int32.lt_of_le_of_lt c4 (show nI 0 < nI 2 by decide)) c1
    refine go rfl ⟨_, rfl, ?_⟩
    refine go rfl ⟨_, _, _, _, rfl, rfl, rfl, ?_⟩
    refine go rfl ⟨_, rfl, ?_⟩
    refine go rfl ⟨_, _, _, rfl, rfl, rfl, ?_⟩
    refine go rfl ⟨_, _, _, _, _, rfl, rfl, (vp_in_nI (by decide) (by decide)), ?_⟩
    refine go rfl ?_
    refine go rfl ⟨_, _, _, rfl, ?_⟩
    refine go rfl ⟨_, _, _, _, _, _, rfl, rfl, (vp_in_nI (by decide) (by decide)), ?_⟩
    rw [mx_pp]
    refine go rfl ⟨_, rfl, ?_⟩
    refine go rfl ⟨_, _, _, _, rfl, rfl, rfl, ?_⟩
    refine go rfl ⟨_, rfl, ?_⟩
    refine go rfl ⟨_, _, _, _, _, rfl, rfl, (vp_in_nI (by decide) (by decide)), ?_⟩
    refine go rfl ⟨_, rfl, ?_⟩
    refine go rfl ⟨_, _, _, _, rfl, rfl, rfl, ?_⟩
    refine go rfl ⟨_, _, _, rfl, fun c5 => ?_, fun c5 => ?_⟩
    · refine go rfl ⟨_, rfl, ?_⟩
      refine go rfl ⟨_, _, _, _, rfl, rfl, rfl, ?_⟩
      refine go rfl ⟨_, rfl, ?_⟩
      refine go rfl ⟨_, _, _, _, _, rfl, rfl, (vp_in_nI (by decide) (by decide)), ?_⟩
      refine go rfl ⟨_, rfl, ?_⟩
      refine go rfl ⟨_, _, _, _, rfl, rfl, rfl, ?_⟩
      refine go rfl ⟨_, _, _, rfl, fun c6 => ?_, fun c6 => ?_⟩
      · exact absurd (by rw [pk_us, pk_us]; decide) c6
      refine go rfl ⟨_, rfl, ?_⟩
      refine go rfl ?_
      refine go rfl ⟨_, rfl, ?_⟩
      refine go rfl ⟨_, _, rfl, fun c7 => ?_, fun c7 => ?_⟩
      · refine go rfl ⟨_, rfl, ?_⟩
        refine go rfl ⟨_, rfl, ?_⟩
        refine go rfl ⟨_, _, rfl, fun c8 => ?_, fun c8 => ?_⟩
        · exact absurd c8 (by decide)
        refine go rfl ?_
        refine go rfl ?_
        refine go rfl ⟨_, _, _, _, rfl, rfl, (Nat.le_of_ble_eq_true rfl), ?_⟩
        refine go rfl ⟨_, rfl, ?_⟩
        refine go rfl ⟨_, rfl, ?_⟩
        refine go rfl ⟨_, _, _, rfl, fun c9 => ?_, fun c9 => ?_⟩
        · refine go rfl ?_
          refine go rfl ⟨_, rfl, rfl, rfl, (Or.inl rfl), ?_⟩
          rw [mx_pc _ _ _ (show (40 : Nat) ≠ 50 by decide), mx_pp]
          exact hp _ _
        · exact absurd (show n < nI 2 by rw [← c9]; decide) c1
      · exact absurd (by decide) c7
    · exact absurd (by rw [pk_us, pk_us]; decide) c5
  · refine go rfl ?_
    refine go rfl ⟨_, rfl, rfl, rfl, (Or.inl rfl), ?_⟩
    exact hp _ _
end
section
theorem mx_noI {k : Nat} {x : Nat × Nat × (Nat → Int32)} : mx_noE k (.inl x) := trivial
theorem mx_noL {k : Nat} {x : Nat × Nat × (Nat → Int64)} : mx_noE k (.inr (.inl x)) := trivial
theorem mx_noO {k ci : Nat} {fs : List mx_V} (h : fs.all (fun v => decide (v ≠ mx_r k)) = true) : mx_noE k (mx_ob ci fs) := fun v hv => of_decide_eq_true (List.all_eq_true.mp h v hv)
-- LadderWords$Row.<init>()V
def sp_R_init : mx_Sp := fun As F P => As = [mx_r 1] ∧ F 1 = some (mx_ob 3 [mx_null, mx_i 0]) ∧ F 2 = none ∧ mx_no 2 F ∧ P none (mx_put (mx_put F 2 (mx_ia 12 (fun _ => 0))) 1 (e_R 0))
theorem d_R_init_0 : decode c_R_init 0 = .ok (.aload_n 0, 1) := by decide +kernel
theorem d_R_init_1 : decode c_R_init 1 = .ok (.invokespecial 3, 3) := by decide +kernel
theorem d_R_init_4 : decode c_R_init 4 = .ok (.aload_n 0, 1) := by decide +kernel
theorem d_R_init_5 : decode c_R_init 5 = .ok (.bipush 12, 2) := by decide +kernel
theorem d_R_init_7 : decode c_R_init 7 = .ok (.newarray .int, 2) := by decide +kernel
theorem d_R_init_9 : decode c_R_init 9 = .ok (.putfield 9, 3) := by decide +kernel
theorem d_R_init_12 : decode c_R_init 12 = .ok (.return_, 1) := by decide +kernel
abbrev w_R_init : List Cond := mx_ws y_R_init c_R_init 1 none
abbrev rm_R_init : Room := { frames := 20, cells := 1, slots := 12, locals := 400 }
def t_R_init  (P : Option mx_V → mx_F → Prop) : List (Nat × mx_O) := [
  (0, mx_aload 0 1),
  (1, mx_oi 4),
  (4, mx_aload 0 5),
  (5, mx_push (.inl (nI 12)) 7),
  (7, mx_newi 2 1 12 9),
  (9, mx_putrF 3 0 12),
  (12, mx_ret1 P 1 12)]
set_option maxRecDepth 20000 in
theorem a_R_init  {p : Program} {l : Launch} {e : Env} {s : State} {m : MethodId} {args : Array Value} {below : List Frame} {meth : Method} {c : Code} {D : va_G} {tc : Nat → ClassId} {tb : Nat → Nat} {sz : Nat} {a0 : Nat → Nat} {G : mx_F} {P : Option mx_V → mx_F → Prop}  (C : mx_C p s m args c c_R_init y_R_init.cls w_R_init D tc tb (mx_A a0 G sz) 1 (mx_Ok1 a0 G)) (hr : meth.sig.returnType = none) (hlk : meth.locks = false) (hin2 : meth.name = "<init>") : mx_all (mx_W p l e rm_R_init s m args below meth c (MQ below (mx_Q1 D tc tb a0 G sz P) args s rm_R_init.cells rm_R_init.slots (mx_A a0 G sz)) D tc tb (mx_A a0 G sz) 1 (mx_Ok1 a0 G)) (t_R_init  P) :=
  ⟨mx_s_aload_n C d_R_init_0 rfl,
  mx_s_oi C (List.mem_cons_of_mem _ (mx_in0 (by decide +kernel) rfl)) (List.mem_cons_of_mem _ (mx_in0 (by decide +kernel) rfl)) (List.mem_cons_of_mem _ (mx_in0 (by decide +kernel) rfl)) d_R_init_1 ⟨by decide, by decide⟩,
  mx_s_aload_n C d_R_init_4 rfl,
  mx_s_bipush C d_R_init_5 (by decide),
  mx_s_newi C (fun ad F k q x h h0 => mx_Ok1_up h h0) (List.mem_cons_of_mem _ (mx_in0 (by decide +kernel) rfl)) d_R_init_7 ⟨Nat.le_refl _, Nat.le_refl _⟩,
  mx_s_putrF (T := T_R) (N := 2) (k := 0) C hin2 (fun w h => List.mem_cons_of_mem _ (in_R w h)) rfl ty_R ok_R nm_R (by decide) (List.mem_cons_of_mem _ (mx_in0 (by decide +kernel) rfl)) rfl rfl (ok_R 0 (by decide)) (fun _ => rfl) (fun _ => rfl) d_R_init_9,
  mx_s_ret1 C hr hlk d_R_init_12,
  trivial⟩
set_option maxRecDepth 20000 in
set_option maxHeartbeats 2000000 in
theorem m_R_init (l : Launch) : mx_M1 l y_R_init w_R_init rm_R_init sp_R_init := by
  intro D tc tb ad As F P sz0 h
  obtain ⟨rfl, h1, h2, n2, hp⟩ := h
  refine mx_run1 (cc := c_R_init) (maxL := 1) (ret := none) (tab := t_R_init  P) (by decide) rfl D tc tb ad _ F P sz0 (Nat.le_of_ble_eq_true rfl) (fun p e s m args below meth c C hr hlk hnm => a_R_init  C hr hlk (by rw [hnm]; rfl)) ?_
  intro Rr go
  have hF := mx_as1 h1
  rw [hF]
  refine go rfl ⟨_, rfl, ?_⟩
  refine go rfl ⟨_, _, rfl, rfl, ?_⟩
  refine go rfl ⟨_, rfl, ?_⟩
  refine go rfl ?_
  refine go rfl ⟨_, _, rfl, rfl, (h2), (mx_no_put n2 (mx_noO rfl)), rfl, rfl, rfl, rfl, ?_⟩
  refine go rfl ⟨_, _, _, _, rfl, rfl, (Nat.le_of_ble_eq_true rfl), ?_⟩
  refine go rfl ⟨rfl, rfl, rfl, ?_⟩
  rw [← hF]
  exact hp
-- LadderWords$Words.<init>()V
def sp_W_init : mx_Sp := fun As F P => As = [mx_r 3] ∧ F 3 = some (mx_ob 5 [mx_null, mx_null, mx_i 0]) ∧ F 4 = none ∧ mx_no 4 F ∧ F 5 = none ∧ mx_no 5 F ∧ P none (mx_put (mx_put (mx_put F 4 (mx_ia 360 (fun _ => 0))) 5 (mx_ia 61 (fun _ => 0))) 3 (e_W 0))
theorem d_W_init_0 : decode c_W_init 0 = .ok (.aload_n 0, 1) := by decide +kernel
theorem d_W_init_1 : decode c_W_init 1 = .ok (.invokespecial 3, 3) := by decide +kernel
theorem d_W_init_4 : decode c_W_init 4 = .ok (.aload_n 0, 1) := by decide +kernel
theorem d_W_init_5 : decode c_W_init 5 = .ok (.sipush 360, 3) := by decide +kernel
theorem d_W_init_8 : decode c_W_init 8 = .ok (.newarray .int, 2) := by decide +kernel
theorem d_W_init_10 : decode c_W_init 10 = .ok (.putfield 9, 3) := by decide +kernel
theorem d_W_init_13 : decode c_W_init 13 = .ok (.aload_n 0, 1) := by decide +kernel
theorem d_W_init_14 : decode c_W_init 14 = .ok (.bipush 61, 2) := by decide +kernel
theorem d_W_init_16 : decode c_W_init 16 = .ok (.newarray .int, 2) := by decide +kernel
theorem d_W_init_18 : decode c_W_init 18 = .ok (.putfield 15, 3) := by decide +kernel
theorem d_W_init_21 : decode c_W_init 21 = .ok (.return_, 1) := by decide +kernel
abbrev w_W_init : List Cond := mx_ws y_W_init c_W_init 1 none
abbrev rm_W_init : Room := { frames := 20, cells := 2, slots := 421, locals := 400 }
def t_W_init  (P : Option mx_V → mx_F → Prop) : List (Nat × mx_O) := [
  (0, mx_aload 0 1),
  (1, mx_oi 4),
  (4, mx_aload 0 5),
  (5, mx_push (.inl (nI 360)) 8),
  (8, mx_newi 4 2 421 10),
  (10, mx_putrF 5 0 13),
  (13, mx_aload 0 14),
  (14, mx_push (.inl (nI 61)) 16),
  (16, mx_newi 5 2 421 18),
  (18, mx_putrF 5 1 21),
  (21, mx_ret1 P 2 421)]
set_option maxRecDepth 20000 in
theorem a_W_init  {p : Program} {l : Launch} {e : Env} {s : State} {m : MethodId} {args : Array Value} {below : List Frame} {meth : Method} {c : Code} {D : va_G} {tc : Nat → ClassId} {tb : Nat → Nat} {sz : Nat} {a0 : Nat → Nat} {G : mx_F} {P : Option mx_V → mx_F → Prop}  (C : mx_C p s m args c c_W_init y_W_init.cls w_W_init D tc tb (mx_A a0 G sz) 1 (mx_Ok1 a0 G)) (hr : meth.sig.returnType = none) (hlk : meth.locks = false) (hin2 : meth.name = "<init>") : mx_all (mx_W p l e rm_W_init s m args below meth c (MQ below (mx_Q1 D tc tb a0 G sz P) args s rm_W_init.cells rm_W_init.slots (mx_A a0 G sz)) D tc tb (mx_A a0 G sz) 1 (mx_Ok1 a0 G)) (t_W_init  P) :=
  ⟨mx_s_aload_n C d_W_init_0 rfl,
  mx_s_oi C (List.mem_cons_of_mem _ (mx_in0 (by decide +kernel) rfl)) (List.mem_cons_of_mem _ (mx_in0 (by decide +kernel) rfl)) (List.mem_cons_of_mem _ (mx_in0 (by decide +kernel) rfl)) d_W_init_1 ⟨by decide, by decide⟩,
  mx_s_aload_n C d_W_init_4 rfl,
  mx_s_sipush C d_W_init_5 (by decide),
  mx_s_newi C (fun ad F k q x h h0 => mx_Ok1_up h h0) (List.mem_cons_of_mem _ (mx_in0 (by decide +kernel) rfl)) d_W_init_8 ⟨Nat.le_refl _, Nat.le_refl _⟩,
  mx_s_putrF (T := T_W) (N := 3) (k := 0) C hin2 (fun w h => List.mem_cons_of_mem _ (in_W w h)) rfl ty_W ok_W nm_W (by decide) (List.mem_cons_of_mem _ (mx_in0 (by decide +kernel) rfl)) rfl rfl (ok_W 0 (by decide)) (fun _ => rfl) (fun _ => rfl) d_W_init_10,
  mx_s_aload_n C d_W_init_13 rfl,
  mx_s_bipush C d_W_init_14 (by decide),
  mx_s_newi C (fun ad F k q x h h0 => mx_Ok1_up h h0) (List.mem_cons_of_mem _ (mx_in0 (by decide +kernel) rfl)) d_W_init_16 ⟨Nat.le_refl _, Nat.le_refl _⟩,
  mx_s_putrF (T := T_W) (N := 3) (k := 1) C hin2 (fun w h => List.mem_cons_of_mem _ (in_W w h)) rfl ty_W ok_W nm_W (by decide) (List.mem_cons_of_mem _ (mx_in0 (by decide +kernel) rfl)) rfl rfl (ok_W 1 (by decide)) (fun _ => rfl) (fun _ => rfl) d_W_init_18,
  mx_s_ret1 C hr hlk d_W_init_21,
  trivial⟩
set_option maxRecDepth 20000 in
set_option maxHeartbeats 2000000 in
theorem m_W_init (l : Launch) : mx_M1 l y_W_init w_W_init rm_W_init sp_W_init := by
  intro D tc tb ad As F P sz0 h
  obtain ⟨rfl, h1, h4, n4, h5, n5, hp⟩ := h
  refine mx_run1 (cc := c_W_init) (maxL := 1) (ret := none) (tab := t_W_init  P) (by decide) rfl D tc tb ad _ F P sz0 (Nat.le_of_ble_eq_true rfl) (fun p e s m args below meth c C hr hlk hnm => a_W_init  C hr hlk (by rw [hnm]; rfl)) ?_
  intro Rr go
  have hF := mx_as1 h1
  rw [hF]
  refine go rfl ⟨_, rfl, ?_⟩
  refine go rfl ⟨_, _, rfl, rfl, ?_⟩
  refine go rfl ⟨_, rfl, ?_⟩
  refine go rfl ?_
  refine go rfl ⟨_, _, rfl, rfl, (h4), (mx_no_put n4 (mx_noO rfl)), rfl, rfl, rfl, rfl, ?_⟩
  refine go rfl ⟨_, _, _, _, rfl, rfl, (Nat.le_of_ble_eq_true rfl), ?_⟩
  refine go rfl ⟨_, rfl, ?_⟩
  refine go rfl ?_
  refine go rfl ⟨_, _, rfl, rfl, (h5), (mx_no_put (mx_no_put (mx_no_put n5 (mx_noO rfl)) mx_noI) (mx_noO rfl)), rfl, rfl, rfl, rfl, ?_⟩
  refine go rfl ⟨_, _, _, _, rfl, rfl, (Nat.le_of_ble_eq_true rfl), ?_⟩
  refine go rfl ⟨rfl, rfl, rfl, ?_⟩
  rw [← hF]
  rw [mx_pc _ _ _ (show (5 : Nat) ≠ 3 by decide), mx_pp]
  exact hp
-- LadderWords$Ladders.<init>(LLadderWords$Words;)V
def sp_D_init : mx_Sp := fun As F P => As = [mx_r 6, mx_r 3] ∧ F 6 = some (mx_ob 2 [mx_null, mx_null, mx_null, mx_null, mx_i 0, mx_l 0, mx_i 0]) ∧ F 7 = none ∧ mx_no 7 F ∧ F 8 = none ∧ mx_no 8 F ∧ F 9 = none ∧ mx_no 9 F ∧ P none (mx_put (mx_put (mx_put (mx_put F 7 (mx_ia 60 (fun _ => 0))) 8 (mx_la 60 (fun _ => 0))) 9 (mx_ia 60 (fun _ => 0))) 6 (e_D 0 0 0))
theorem d_D_init_0 : decode c_D_init 0 = .ok (.aload_n 0, 1) := by decide +kernel
theorem d_D_init_1 : decode c_D_init 1 = .ok (.invokespecial 3, 3) := by decide +kernel
theorem d_D_init_4 : decode c_D_init 4 = .ok (.aload_n 0, 1) := by decide +kernel
theorem d_D_init_5 : decode c_D_init 5 = .ok (.bipush 60, 2) := by decide +kernel
theorem d_D_init_7 : decode c_D_init 7 = .ok (.newarray .int, 2) := by decide +kernel
theorem d_D_init_9 : decode c_D_init 9 = .ok (.putfield 9, 3) := by decide +kernel
theorem d_D_init_12 : decode c_D_init 12 = .ok (.aload_n 0, 1) := by decide +kernel
theorem d_D_init_13 : decode c_D_init 13 = .ok (.bipush 60, 2) := by decide +kernel
theorem d_D_init_15 : decode c_D_init 15 = .ok (.newarray .long, 2) := by decide +kernel
theorem d_D_init_17 : decode c_D_init 17 = .ok (.putfield 15, 3) := by decide +kernel
theorem d_D_init_20 : decode c_D_init 20 = .ok (.aload_n 0, 1) := by decide +kernel
theorem d_D_init_21 : decode c_D_init 21 = .ok (.bipush 60, 2) := by decide +kernel
theorem d_D_init_23 : decode c_D_init 23 = .ok (.newarray .int, 2) := by decide +kernel
theorem d_D_init_25 : decode c_D_init 25 = .ok (.putfield 19, 3) := by decide +kernel
theorem d_D_init_28 : decode c_D_init 28 = .ok (.aload_n 0, 1) := by decide +kernel
theorem d_D_init_29 : decode c_D_init 29 = .ok (.aload_n 1, 1) := by decide +kernel
theorem d_D_init_30 : decode c_D_init 30 = .ok (.putfield 22, 3) := by decide +kernel
theorem d_D_init_33 : decode c_D_init 33 = .ok (.return_, 1) := by decide +kernel
abbrev w_D_init : List Cond := mx_ws y_D_init c_D_init 2 none
abbrev rm_D_init : Room := { frames := 20, cells := 3, slots := 180, locals := 400 }
def t_D_init  (P : Option mx_V → mx_F → Prop) : List (Nat × mx_O) := [
  (0, mx_aload 0 1),
  (1, mx_oi 4),
  (4, mx_aload 0 5),
  (5, mx_push (.inl (nI 60)) 7),
  (7, mx_newi 7 3 180 9),
  (9, mx_putrF 2 1 12),
  (12, mx_aload 0 13),
  (13, mx_push (.inl (nI 60)) 15),
  (15, mx_newl 8 3 180 17),
  (17, mx_putrF 2 2 20),
  (20, mx_aload 0 21),
  (21, mx_push (.inl (nI 60)) 23),
  (23, mx_newi 9 3 180 25),
  (25, mx_putrF 2 3 28),
  (28, mx_aload 0 29),
  (29, mx_aload 1 30),
  (30, mx_putrF 2 0 33),
  (33, mx_ret1 P 3 180)]
set_option maxRecDepth 20000 in
theorem a_D_init  {p : Program} {l : Launch} {e : Env} {s : State} {m : MethodId} {args : Array Value} {below : List Frame} {meth : Method} {c : Code} {D : va_G} {tc : Nat → ClassId} {tb : Nat → Nat} {sz : Nat} {a0 : Nat → Nat} {G : mx_F} {P : Option mx_V → mx_F → Prop}  (C : mx_C p s m args c c_D_init y_D_init.cls w_D_init D tc tb (mx_A a0 G sz) 2 (mx_Ok1 a0 G)) (hr : meth.sig.returnType = none) (hlk : meth.locks = false) (hin2 : meth.name = "<init>") : mx_all (mx_W p l e rm_D_init s m args below meth c (MQ below (mx_Q1 D tc tb a0 G sz P) args s rm_D_init.cells rm_D_init.slots (mx_A a0 G sz)) D tc tb (mx_A a0 G sz) 2 (mx_Ok1 a0 G)) (t_D_init  P) :=
  ⟨mx_s_aload_n C d_D_init_0 rfl,
  mx_s_oi C (List.mem_cons_of_mem _ (mx_in0 (by decide +kernel) rfl)) (List.mem_cons_of_mem _ (mx_in0 (by decide +kernel) rfl)) (List.mem_cons_of_mem _ (mx_in0 (by decide +kernel) rfl)) d_D_init_1 ⟨by decide, by decide⟩,
  mx_s_aload_n C d_D_init_4 rfl,
  mx_s_bipush C d_D_init_5 (by decide),
  mx_s_newi C (fun ad F k q x h h0 => mx_Ok1_up h h0) (List.mem_cons_of_mem _ (mx_in0 (by decide +kernel) rfl)) d_D_init_7 ⟨Nat.le_refl _, Nat.le_refl _⟩,
  mx_s_putrF (T := T_D) (N := 7) (k := 1) C hin2 (fun w h => List.mem_cons_of_mem _ (in_D w h)) rfl ty_D ok_D nm_D (by decide) (List.mem_cons_of_mem _ (mx_in0 (by decide +kernel) rfl)) rfl rfl (ok_D 1 (by decide)) (fun _ => rfl) (fun _ => rfl) d_D_init_9,
  mx_s_aload_n C d_D_init_12 rfl,
  mx_s_bipush C d_D_init_13 (by decide),
  mx_s_newl C (fun ad F k q x h h0 => mx_Ok1_up h h0) (List.mem_cons_of_mem _ (mx_in0 (by decide +kernel) rfl)) d_D_init_15 ⟨Nat.le_refl _, Nat.le_refl _⟩,
  mx_s_putrF (T := T_D) (N := 7) (k := 2) C hin2 (fun w h => List.mem_cons_of_mem _ (in_D w h)) rfl ty_D ok_D nm_D (by decide) (List.mem_cons_of_mem _ (mx_in0 (by decide +kernel) rfl)) rfl rfl (ok_D 2 (by decide)) (fun _ => rfl) (fun _ => rfl) d_D_init_17,
  mx_s_aload_n C d_D_init_20 rfl,
  mx_s_bipush C d_D_init_21 (by decide),
  mx_s_newi C (fun ad F k q x h h0 => mx_Ok1_up h h0) (List.mem_cons_of_mem _ (mx_in0 (by decide +kernel) rfl)) d_D_init_23 ⟨Nat.le_refl _, Nat.le_refl _⟩,
  mx_s_putrF (T := T_D) (N := 7) (k := 3) C hin2 (fun w h => List.mem_cons_of_mem _ (in_D w h)) rfl ty_D ok_D nm_D (by decide) (List.mem_cons_of_mem _ (mx_in0 (by decide +kernel) rfl)) rfl rfl (ok_D 3 (by decide)) (fun _ => rfl) (fun _ => rfl) d_D_init_25,
  mx_s_aload_n C d_D_init_28 rfl,
  mx_s_aload_n C d_D_init_29 rfl,
  mx_s_putrF (T := T_D) (N := 7) (k := 0) C hin2 (fun w h => List.mem_cons_of_mem _ (in_D w h)) rfl ty_D ok_D nm_D (by decide) (List.mem_cons_of_mem _ (mx_in0 (by decide +kernel) rfl)) rfl rfl (ok_D 0 (by decide)) (fun _ => rfl) (fun _ => rfl) d_D_init_30,
  mx_s_ret1 C hr hlk d_D_init_33,
  trivial⟩
set_option maxRecDepth 20000 in
set_option maxHeartbeats 2000000 in
theorem m_D_init (l : Launch) : mx_M1 l y_D_init w_D_init rm_D_init sp_D_init := by
  intro D tc tb ad As F P sz0 h
  obtain ⟨rfl, h1, h7, n7, h8, n8, h9, n9, hp⟩ := h
  refine mx_run1 (cc := c_D_init) (maxL := 2) (ret := none) (tab := t_D_init  P) (by decide) rfl D tc tb ad _ F P sz0 (Nat.le_of_ble_eq_true rfl) (fun p e s m args below meth c C hr hlk hnm => a_D_init  C hr hlk (by rw [hnm]; rfl)) ?_
  intro Rr go
  rw [mx_as1 h1]
  refine go rfl ⟨_, rfl, ?_⟩
  refine go rfl ⟨_, _, rfl, rfl, ?_⟩
  refine go rfl ⟨_, rfl, ?_⟩
  refine go rfl ?_
  refine go rfl ⟨_, _, rfl, rfl, (h7), (mx_no_put (n7) (mx_noO rfl)), rfl, rfl, rfl, rfl, ?_⟩
  refine go rfl ⟨_, _, _, _, rfl, rfl, (Nat.le_of_ble_eq_true rfl), ?_⟩
  rw [mx_pc _ _ _ (show (7 : Nat) ≠ 6 by decide), mx_pp]
  refine go rfl ⟨_, rfl, ?_⟩
  refine go rfl ?_
  refine go rfl ⟨_, _, rfl, rfl, (h8), (mx_no_put (mx_no_put (n8) mx_noI) (mx_noO rfl)), rfl, rfl, rfl, rfl, ?_⟩
  refine go rfl ⟨_, _, _, _, rfl, rfl, (Nat.le_of_ble_eq_true rfl), ?_⟩
  rw [mx_pc _ _ _ (show (8 : Nat) ≠ 6 by decide), mx_pp]
  refine go rfl ⟨_, rfl, ?_⟩
  refine go rfl ?_
  refine go rfl ⟨_, _, rfl, rfl, (h9), (mx_no_put (mx_no_put (mx_no_put (n9) mx_noI) mx_noL) (mx_noO rfl)), rfl, rfl, rfl, rfl, ?_⟩
  refine go rfl ⟨_, _, _, _, rfl, rfl, (Nat.le_of_ble_eq_true rfl), ?_⟩
  rw [mx_pc _ _ _ (show (9 : Nat) ≠ 6 by decide), mx_pp]
  refine go rfl ⟨_, rfl, ?_⟩
  refine go rfl ⟨_, rfl, ?_⟩
  refine go rfl ⟨_, _, _, _, rfl, rfl, (Nat.le_of_ble_eq_true rfl), ?_⟩
  rw [mx_pp]
  refine go rfl ⟨rfl, rfl, rfl, ?_⟩
  exact hp
-- LadderWords$Gatherings.<init>(LLadderWords$Words;)V
def sp_G_init : mx_Sp := fun As F P => As = [mx_r 10, mx_r 3] ∧ F 10 = some (mx_ob 0 [mx_null, mx_null, mx_null, mx_i 0, mx_null, mx_null, mx_i 0, mx_i 0, mx_i 0]) ∧ F 11 = none ∧ mx_no 11 F ∧ F 12 = none ∧ mx_no 12 F ∧ F 13 = none ∧ mx_no 13 F ∧ F 14 = none ∧ mx_no 14 F ∧ P none (mx_put (mx_put (mx_put (mx_put (mx_put F 11 (mx_ia 60 (fun _ => 0))) 12 (mx_la 60 (fun _ => 0))) 13 (mx_ia 4 (fun _ => 0))) 14 (mx_ia 800 (fun _ => 0))) 10 (e_G 0 0 0 0))
theorem d_G_init_0 : decode c_G_init 0 = .ok (.aload_n 0, 1) := by decide +kernel
theorem d_G_init_1 : decode c_G_init 1 = .ok (.invokespecial 3, 3) := by decide +kernel
theorem d_G_init_4 : decode c_G_init 4 = .ok (.aload_n 0, 1) := by decide +kernel
theorem d_G_init_5 : decode c_G_init 5 = .ok (.bipush 60, 2) := by decide +kernel
theorem d_G_init_7 : decode c_G_init 7 = .ok (.newarray .int, 2) := by decide +kernel
theorem d_G_init_9 : decode c_G_init 9 = .ok (.putfield 9, 3) := by decide +kernel
theorem d_G_init_12 : decode c_G_init 12 = .ok (.aload_n 0, 1) := by decide +kernel
theorem d_G_init_13 : decode c_G_init 13 = .ok (.bipush 60, 2) := by decide +kernel
theorem d_G_init_15 : decode c_G_init 15 = .ok (.newarray .long, 2) := by decide +kernel
theorem d_G_init_17 : decode c_G_init 17 = .ok (.putfield 15, 3) := by decide +kernel
theorem d_G_init_20 : decode c_G_init 20 = .ok (.aload_n 0, 1) := by decide +kernel
theorem d_G_init_21 : decode c_G_init 21 = .ok (.iconst 4, 1) := by decide +kernel
theorem d_G_init_22 : decode c_G_init 22 = .ok (.newarray .int, 2) := by decide +kernel
theorem d_G_init_24 : decode c_G_init 24 = .ok (.putfield 19, 3) := by decide +kernel
theorem d_G_init_27 : decode c_G_init 27 = .ok (.aload_n 0, 1) := by decide +kernel
theorem d_G_init_28 : decode c_G_init 28 = .ok (.sipush 800, 3) := by decide +kernel
theorem d_G_init_31 : decode c_G_init 31 = .ok (.newarray .int, 2) := by decide +kernel
theorem d_G_init_33 : decode c_G_init 33 = .ok (.putfield 22, 3) := by decide +kernel
theorem d_G_init_36 : decode c_G_init 36 = .ok (.aload_n 0, 1) := by decide +kernel
theorem d_G_init_37 : decode c_G_init 37 = .ok (.aload_n 1, 1) := by decide +kernel
theorem d_G_init_38 : decode c_G_init 38 = .ok (.putfield 25, 3) := by decide +kernel
theorem d_G_init_41 : decode c_G_init 41 = .ok (.return_, 1) := by decide +kernel
abbrev w_G_init : List Cond := mx_ws y_G_init c_G_init 2 none
abbrev rm_G_init : Room := { frames := 20, cells := 4, slots := 924, locals := 400 }
def t_G_init  (P : Option mx_V → mx_F → Prop) : List (Nat × mx_O) := [
  (0, mx_aload 0 1),
  (1, mx_oi 4),
  (4, mx_aload 0 5),
  (5, mx_push (.inl (nI 60)) 7),
  (7, mx_newi 11 4 924 9),
  (9, mx_putrF 0 1 12),
  (12, mx_aload 0 13),
  (13, mx_push (.inl (nI 60)) 15),
  (15, mx_newl 12 4 924 17),
  (17, mx_putrF 0 2 20),
  (20, mx_aload 0 21),
  (21, mx_push (.inl (nI 4)) 22),
  (22, mx_newi 13 4 924 24),
  (24, mx_putrF 0 4 27),
  (27, mx_aload 0 28),
  (28, mx_push (.inl (nI 800)) 31),
  (31, mx_newi 14 4 924 33),
  (33, mx_putrF 0 5 36),
  (36, mx_aload 0 37),
  (37, mx_aload 1 38),
  (38, mx_putrF 0 0 41),
  (41, mx_ret1 P 4 924)]
set_option maxRecDepth 20000 in
theorem a_G_init  {p : Program} {l : Launch} {e : Env} {s : State} {m : MethodId} {args : Array Value} {below : List Frame} {meth : Method} {c : Code} {D : va_G} {tc : Nat → ClassId} {tb : Nat → Nat} {sz : Nat} {a0 : Nat → Nat} {G : mx_F} {P : Option mx_V → mx_F → Prop}  (C : mx_C p s m args c c_G_init y_G_init.cls w_G_init D tc tb (mx_A a0 G sz) 2 (mx_Ok1 a0 G)) (hr : meth.sig.returnType = none) (hlk : meth.locks = false) (hin2 : meth.name = "<init>") : mx_all (mx_W p l e rm_G_init s m args below meth c (MQ below (mx_Q1 D tc tb a0 G sz P) args s rm_G_init.cells rm_G_init.slots (mx_A a0 G sz)) D tc tb (mx_A a0 G sz) 2 (mx_Ok1 a0 G)) (t_G_init  P) :=
  ⟨mx_s_aload_n C d_G_init_0 rfl,
  mx_s_oi C (List.mem_cons_of_mem _ (mx_in0 (by decide +kernel) rfl)) (List.mem_cons_of_mem _ (mx_in0 (by decide +kernel) rfl)) (List.mem_cons_of_mem _ (mx_in0 (by decide +kernel) rfl)) d_G_init_1 ⟨by decide, by decide⟩,
  mx_s_aload_n C d_G_init_4 rfl,
  mx_s_bipush C d_G_init_5 (by decide),
  mx_s_newi C (fun ad F k q x h h0 => mx_Ok1_up h h0) (List.mem_cons_of_mem _ (mx_in0 (by decide +kernel) rfl)) d_G_init_7 ⟨Nat.le_refl _, Nat.le_refl _⟩,
  mx_s_putrF (T := T_G) (N := 9) (k := 1) C hin2 (fun w h => List.mem_cons_of_mem _ (in_G w h)) rfl ty_G ok_G nm_G (by decide) (List.mem_cons_of_mem _ (mx_in0 (by decide +kernel) rfl)) rfl rfl (ok_G 1 (by decide)) (fun _ => rfl) (fun _ => rfl) d_G_init_9,
  mx_s_aload_n C d_G_init_12 rfl,
  mx_s_bipush C d_G_init_13 (by decide),
  mx_s_newl C (fun ad F k q x h h0 => mx_Ok1_up h h0) (List.mem_cons_of_mem _ (mx_in0 (by decide +kernel) rfl)) d_G_init_15 ⟨Nat.le_refl _, Nat.le_refl _⟩,
  mx_s_putrF (T := T_G) (N := 9) (k := 2) C hin2 (fun w h => List.mem_cons_of_mem _ (in_G w h)) rfl ty_G ok_G nm_G (by decide) (List.mem_cons_of_mem _ (mx_in0 (by decide +kernel) rfl)) rfl rfl (ok_G 2 (by decide)) (fun _ => rfl) (fun _ => rfl) d_G_init_17,
  mx_s_aload_n C d_G_init_20 rfl,
  mx_s_iconst C d_G_init_21 (by decide),
  mx_s_newi C (fun ad F k q x h h0 => mx_Ok1_up h h0) (List.mem_cons_of_mem _ (mx_in0 (by decide +kernel) rfl)) d_G_init_22 ⟨Nat.le_refl _, Nat.le_refl _⟩,
  mx_s_putrF (T := T_G) (N := 9) (k := 4) C hin2 (fun w h => List.mem_cons_of_mem _ (in_G w h)) rfl ty_G ok_G nm_G (by decide) (List.mem_cons_of_mem _ (mx_in0 (by decide +kernel) rfl)) rfl rfl (ok_G 4 (by decide)) (fun _ => rfl) (fun _ => rfl) d_G_init_24,
  mx_s_aload_n C d_G_init_27 rfl,
  mx_s_sipush C d_G_init_28 (by decide),
  mx_s_newi C (fun ad F k q x h h0 => mx_Ok1_up h h0) (List.mem_cons_of_mem _ (mx_in0 (by decide +kernel) rfl)) d_G_init_31 ⟨Nat.le_refl _, Nat.le_refl _⟩,
  mx_s_putrF (T := T_G) (N := 9) (k := 5) C hin2 (fun w h => List.mem_cons_of_mem _ (in_G w h)) rfl ty_G ok_G nm_G (by decide) (List.mem_cons_of_mem _ (mx_in0 (by decide +kernel) rfl)) rfl rfl (ok_G 5 (by decide)) (fun _ => rfl) (fun _ => rfl) d_G_init_33,
  mx_s_aload_n C d_G_init_36 rfl,
  mx_s_aload_n C d_G_init_37 rfl,
  mx_s_putrF (T := T_G) (N := 9) (k := 0) C hin2 (fun w h => List.mem_cons_of_mem _ (in_G w h)) rfl ty_G ok_G nm_G (by decide) (List.mem_cons_of_mem _ (mx_in0 (by decide +kernel) rfl)) rfl rfl (ok_G 0 (by decide)) (fun _ => rfl) (fun _ => rfl) d_G_init_38,
  mx_s_ret1 C hr hlk d_G_init_41,
  trivial⟩
set_option maxRecDepth 20000 in
set_option maxHeartbeats 2000000 in
theorem m_G_init (l : Launch) : mx_M1 l y_G_init w_G_init rm_G_init sp_G_init := by
  intro D tc tb ad As F P sz0 h
  obtain ⟨rfl, h1, h11, n11, h12, n12, h13, n13, h14, n14, hp⟩ := h
  refine mx_run1 (cc := c_G_init) (maxL := 2) (ret := none) (tab := t_G_init  P) (by decide) rfl D tc tb ad _ F P sz0 (Nat.le_of_ble_eq_true rfl) (fun p e s m args below meth c C hr hlk hnm => a_G_init  C hr hlk (by rw [hnm]; rfl)) ?_
  intro Rr go
  rw [mx_as1 h1]
  refine go rfl ⟨_, rfl, ?_⟩
  refine go rfl ⟨_, _, rfl, rfl, ?_⟩
  refine go rfl ⟨_, rfl, ?_⟩
  refine go rfl ?_
  refine go rfl ⟨_, _, rfl, rfl, (h11), (mx_no_put (n11) (mx_noO rfl)), rfl, rfl, rfl, rfl, ?_⟩
  refine go rfl ⟨_, _, _, _, rfl, rfl, (Nat.le_of_ble_eq_true rfl), ?_⟩
  rw [mx_pc _ _ _ (show (11 : Nat) ≠ 10 by decide), mx_pp]
  refine go rfl ⟨_, rfl, ?_⟩
  refine go rfl ?_
  refine go rfl ⟨_, _, rfl, rfl, (h12), (mx_no_put (mx_no_put (n12) mx_noI) (mx_noO rfl)), rfl, rfl, rfl, rfl, ?_⟩
  refine go rfl ⟨_, _, _, _, rfl, rfl, (Nat.le_of_ble_eq_true rfl), ?_⟩
  rw [mx_pc _ _ _ (show (12 : Nat) ≠ 10 by decide), mx_pp]
  refine go rfl ⟨_, rfl, ?_⟩
  refine go rfl ?_
  refine go rfl ⟨_, _, rfl, rfl, (h13), (mx_no_put (mx_no_put (mx_no_put (n13) mx_noI) mx_noL) (mx_noO rfl)), rfl, rfl, rfl, rfl, ?_⟩
  refine go rfl ⟨_, _, _, _, rfl, rfl, (Nat.le_of_ble_eq_true rfl), ?_⟩
  rw [mx_pc _ _ _ (show (13 : Nat) ≠ 10 by decide), mx_pp]
  refine go rfl ⟨_, rfl, ?_⟩
  refine go rfl ?_
  refine go rfl ⟨_, _, rfl, rfl, (h14), (mx_no_put (mx_no_put (mx_no_put (mx_no_put (n14) mx_noI) mx_noL) mx_noI) (mx_noO rfl)), rfl, rfl, rfl, rfl, ?_⟩
  refine go rfl ⟨_, _, _, _, rfl, rfl, (Nat.le_of_ble_eq_true rfl), ?_⟩
  rw [mx_pc _ _ _ (show (14 : Nat) ≠ 10 by decide), mx_pp]
  refine go rfl ⟨_, rfl, ?_⟩
  refine go rfl ⟨_, rfl, ?_⟩
  refine go rfl ⟨_, _, _, _, rfl, rfl, (Nat.le_of_ble_eq_true rfl), ?_⟩
  rw [mx_pp]
  refine go rfl ⟨rfl, rfl, rfl, ?_⟩
  exact hp
-- LadderWords$Grid.<init>(LLadderWords$Words;)V
def sp_C_init : mx_Sp := fun As F P => As = [mx_r 29, mx_r 3] ∧ F 29 = some (mx_ob 1 [mx_null, mx_null]) ∧ F 30 = none ∧ mx_no 30 F ∧ P none (mx_put (mx_put F 30 (mx_ia 64 (fun _ => 0))) 29 (e_C))
theorem d_C_init_0 : decode c_C_init 0 = .ok (.aload_n 0, 1) := by decide +kernel
theorem d_C_init_1 : decode c_C_init 1 = .ok (.invokespecial 5, 3) := by decide +kernel
theorem d_C_init_4 : decode c_C_init 4 = .ok (.aload_n 0, 1) := by decide +kernel
theorem d_C_init_5 : decode c_C_init 5 = .ok (.bipush 64, 2) := by decide +kernel
theorem d_C_init_7 : decode c_C_init 7 = .ok (.newarray .int, 2) := by decide +kernel
theorem d_C_init_9 : decode c_C_init 9 = .ok (.putfield 11, 3) := by decide +kernel
theorem d_C_init_12 : decode c_C_init 12 = .ok (.aload_n 0, 1) := by decide +kernel
theorem d_C_init_13 : decode c_C_init 13 = .ok (.aload_n 1, 1) := by decide +kernel
theorem d_C_init_14 : decode c_C_init 14 = .ok (.putfield 15, 3) := by decide +kernel
theorem d_C_init_17 : decode c_C_init 17 = .ok (.return_, 1) := by decide +kernel
abbrev w_C_init : List Cond := mx_ws y_C_init c_C_init 2 none
abbrev rm_C_init : Room := { frames := 20, cells := 1, slots := 64, locals := 400 }
def t_C_init  (P : Option mx_V → mx_F → Prop) : List (Nat × mx_O) := [
  (0, mx_aload 0 1),
  (1, mx_oi 4),
  (4, mx_aload 0 5),
  (5, mx_push (.inl (nI 64)) 7),
  (7, mx_newi 30 1 64 9),
  (9, mx_putrF 1 1 12),
  (12, mx_aload 0 13),
  (13, mx_aload 1 14),
  (14, mx_putrF 1 0 17),
  (17, mx_ret1 P 1 64)]
set_option maxRecDepth 20000 in
theorem a_C_init  {p : Program} {l : Launch} {e : Env} {s : State} {m : MethodId} {args : Array Value} {below : List Frame} {meth : Method} {c : Code} {D : va_G} {tc : Nat → ClassId} {tb : Nat → Nat} {sz : Nat} {a0 : Nat → Nat} {G : mx_F} {P : Option mx_V → mx_F → Prop}  (C : mx_C p s m args c c_C_init y_C_init.cls w_C_init D tc tb (mx_A a0 G sz) 2 (mx_Ok1 a0 G)) (hr : meth.sig.returnType = none) (hlk : meth.locks = false) (hin2 : meth.name = "<init>") : mx_all (mx_W p l e rm_C_init s m args below meth c (MQ below (mx_Q1 D tc tb a0 G sz P) args s rm_C_init.cells rm_C_init.slots (mx_A a0 G sz)) D tc tb (mx_A a0 G sz) 2 (mx_Ok1 a0 G)) (t_C_init  P) :=
  ⟨mx_s_aload_n C d_C_init_0 rfl,
  mx_s_oi C (List.mem_cons_of_mem _ (mx_in0 (by decide +kernel) rfl)) (List.mem_cons_of_mem _ (mx_in0 (by decide +kernel) rfl)) (List.mem_cons_of_mem _ (mx_in0 (by decide +kernel) rfl)) d_C_init_1 ⟨by decide, by decide⟩,
  mx_s_aload_n C d_C_init_4 rfl,
  mx_s_bipush C d_C_init_5 (by decide),
  mx_s_newi C (fun ad F k q x h h0 => mx_Ok1_up h h0) (List.mem_cons_of_mem _ (mx_in0 (by decide +kernel) rfl)) d_C_init_7 ⟨Nat.le_refl _, Nat.le_refl _⟩,
  mx_s_putrF (T := T_C) (N := 2) (k := 1) C hin2 (fun w h => List.mem_cons_of_mem _ (in_C w h)) rfl ty_C ok_C nm_C (by decide) (List.mem_cons_of_mem _ (mx_in0 (by decide +kernel) rfl)) rfl rfl (ok_C 1 (by decide)) (fun _ => rfl) (fun _ => rfl) d_C_init_9,
  mx_s_aload_n C d_C_init_12 rfl,
  mx_s_aload_n C d_C_init_13 rfl,
  mx_s_putrF (T := T_C) (N := 2) (k := 0) C hin2 (fun w h => List.mem_cons_of_mem _ (in_C w h)) rfl ty_C ok_C nm_C (by decide) (List.mem_cons_of_mem _ (mx_in0 (by decide +kernel) rfl)) rfl rfl (ok_C 0 (by decide)) (fun _ => rfl) (fun _ => rfl) d_C_init_14,
  mx_s_ret1 C hr hlk d_C_init_17,
  trivial⟩
set_option maxRecDepth 20000 in
set_option maxHeartbeats 2000000 in
theorem m_C_init (l : Launch) : mx_M1 l y_C_init w_C_init rm_C_init sp_C_init := by
  intro D tc tb ad As F P sz0 h
  obtain ⟨rfl, h1, h30, n30, hp⟩ := h
  refine mx_run1 (cc := c_C_init) (maxL := 2) (ret := none) (tab := t_C_init  P) (by decide) rfl D tc tb ad _ F P sz0 (Nat.le_of_ble_eq_true rfl) (fun p e s m args below meth c C hr hlk hnm => a_C_init  C hr hlk (by rw [hnm]; rfl)) ?_
  intro Rr go
  rw [mx_as1 h1]
  refine go rfl ⟨_, rfl, ?_⟩
  refine go rfl ⟨_, _, rfl, rfl, ?_⟩
  refine go rfl ⟨_, rfl, ?_⟩
  refine go rfl ?_
  refine go rfl ⟨_, _, rfl, rfl, (h30), (mx_no_put (n30) (mx_noO rfl)), rfl, rfl, rfl, rfl, ?_⟩
  refine go rfl ⟨_, _, _, _, rfl, rfl, (Nat.le_of_ble_eq_true rfl), ?_⟩
  rw [mx_pc _ _ _ (show (30 : Nat) ≠ 29 by decide), mx_pp]
  refine go rfl ⟨_, rfl, ?_⟩
  refine go rfl ⟨_, rfl, ?_⟩
  refine go rfl ⟨_, _, _, _, rfl, rfl, (Nat.le_of_ble_eq_true rfl), ?_⟩
  rw [mx_pp]
  refine go rfl ⟨rfl, rfl, rfl, ?_⟩
  exact hp
-- LadderWordsModel.<init>()V
def sp_M_init : mx_Sp := fun As F P => As = [mx_r 40] ∧ F 40 = some (mx_ob 7 [mx_i 0, mx_i 0, mx_null, mx_i 0, mx_null, mx_null, mx_i 0, mx_null, mx_l 0, mx_null, mx_null, mx_i 0, mx_null, mx_null, mx_null, mx_i 0, mx_null, mx_null]) ∧ F 41 = none ∧ mx_no 41 F ∧ F 42 = none ∧ mx_no 42 F ∧ F 43 = none ∧ mx_no 43 F ∧ F 44 = none ∧ mx_no 44 F ∧ F 45 = none ∧ mx_no 45 F ∧ F 46 = none ∧ mx_no 46 F ∧ F 47 = none ∧ mx_no 47 F ∧ F 48 = none ∧ mx_no 48 F ∧ F 49 = none ∧ mx_no 49 F ∧ F 50 = none ∧ mx_no 50 F ∧ F 51 = none ∧ mx_no 51 F ∧ P none (mx_put (mx_put (mx_put (mx_put (mx_put (mx_put (mx_put (mx_put (mx_put (mx_put (mx_put (mx_put F 41 (mx_ia 12 (fun _ => 0))) 42 (mx_ia 360 (fun _ => 0))) 43 (mx_ia 60 (fun _ => 0))) 44 (mx_ia 60 (fun _ => 0))) 45 (mx_ia 60 (fun _ => 0))) 46 (mx_la 60 (fun _ => 0))) 47 (mx_ia 800 (fun _ => 0))) 48 (mx_ia 5 (fun _ => 0))) 49 (mx_ia 26 (fun _ => 0))) 50 (mx_ia 6 (fun _ => 0))) 51 (mx_ia 64 (fun _ => 0))) 40 (e_M 0 0 0 (-1) 0 0 0))
theorem d_M_init_0 : decode c_M_init 0 = .ok (.aload_n 0, 1) := by decide +kernel
theorem d_M_init_1 : decode c_M_init 1 = .ok (.invokespecial 1, 3) := by decide +kernel
theorem d_M_init_4 : decode c_M_init 4 = .ok (.aload_n 0, 1) := by decide +kernel
theorem d_M_init_5 : decode c_M_init 5 = .ok (.bipush 12, 2) := by decide +kernel
theorem d_M_init_7 : decode c_M_init 7 = .ok (.newarray .int, 2) := by decide +kernel
theorem d_M_init_9 : decode c_M_init 9 = .ok (.putfield 7, 3) := by decide +kernel
theorem d_M_init_12 : decode c_M_init 12 = .ok (.aload_n 0, 1) := by decide +kernel
theorem d_M_init_13 : decode c_M_init 13 = .ok (.sipush 360, 3) := by decide +kernel
theorem d_M_init_16 : decode c_M_init 16 = .ok (.newarray .int, 2) := by decide +kernel
theorem d_M_init_18 : decode c_M_init 18 = .ok (.putfield 13, 3) := by decide +kernel
theorem d_M_init_21 : decode c_M_init 21 = .ok (.aload_n 0, 1) := by decide +kernel
theorem d_M_init_22 : decode c_M_init 22 = .ok (.bipush 60, 2) := by decide +kernel
theorem d_M_init_24 : decode c_M_init 24 = .ok (.newarray .int, 2) := by decide +kernel
theorem d_M_init_26 : decode c_M_init 26 = .ok (.putfield 16, 3) := by decide +kernel
theorem d_M_init_29 : decode c_M_init 29 = .ok (.aload_n 0, 1) := by decide +kernel
theorem d_M_init_30 : decode c_M_init 30 = .ok (.iconst (-1), 1) := by decide +kernel
theorem d_M_init_31 : decode c_M_init 31 = .ok (.putfield 19, 3) := by decide +kernel
theorem d_M_init_34 : decode c_M_init 34 = .ok (.aload_n 0, 1) := by decide +kernel
theorem d_M_init_35 : decode c_M_init 35 = .ok (.bipush 60, 2) := by decide +kernel
theorem d_M_init_37 : decode c_M_init 37 = .ok (.newarray .int, 2) := by decide +kernel
theorem d_M_init_39 : decode c_M_init 39 = .ok (.putfield 23, 3) := by decide +kernel
theorem d_M_init_42 : decode c_M_init 42 = .ok (.aload_n 0, 1) := by decide +kernel
theorem d_M_init_43 : decode c_M_init 43 = .ok (.bipush 60, 2) := by decide +kernel
theorem d_M_init_45 : decode c_M_init 45 = .ok (.newarray .int, 2) := by decide +kernel
theorem d_M_init_47 : decode c_M_init 47 = .ok (.putfield 26, 3) := by decide +kernel
theorem d_M_init_50 : decode c_M_init 50 = .ok (.aload_n 0, 1) := by decide +kernel
theorem d_M_init_51 : decode c_M_init 51 = .ok (.bipush 60, 2) := by decide +kernel
theorem d_M_init_53 : decode c_M_init 53 = .ok (.newarray .long, 2) := by decide +kernel
theorem d_M_init_55 : decode c_M_init 55 = .ok (.putfield 29, 3) := by decide +kernel
theorem d_M_init_58 : decode c_M_init 58 = .ok (.aload_n 0, 1) := by decide +kernel
theorem d_M_init_59 : decode c_M_init 59 = .ok (.sipush 800, 3) := by decide +kernel
theorem d_M_init_62 : decode c_M_init 62 = .ok (.newarray .int, 2) := by decide +kernel
theorem d_M_init_64 : decode c_M_init 64 = .ok (.putfield 33, 3) := by decide +kernel
theorem d_M_init_67 : decode c_M_init 67 = .ok (.aload_n 0, 1) := by decide +kernel
theorem d_M_init_68 : decode c_M_init 68 = .ok (.iconst 5, 1) := by decide +kernel
theorem d_M_init_69 : decode c_M_init 69 = .ok (.newarray .int, 2) := by decide +kernel
theorem d_M_init_71 : decode c_M_init 71 = .ok (.putfield 36, 3) := by decide +kernel
theorem d_M_init_74 : decode c_M_init 74 = .ok (.aload_n 0, 1) := by decide +kernel
theorem d_M_init_75 : decode c_M_init 75 = .ok (.bipush 26, 2) := by decide +kernel
theorem d_M_init_77 : decode c_M_init 77 = .ok (.newarray .int, 2) := by decide +kernel
theorem d_M_init_79 : decode c_M_init 79 = .ok (.putfield 39, 3) := by decide +kernel
theorem d_M_init_82 : decode c_M_init 82 = .ok (.aload_n 0, 1) := by decide +kernel
theorem d_M_init_83 : decode c_M_init 83 = .ok (.bipush 6, 2) := by decide +kernel
theorem d_M_init_85 : decode c_M_init 85 = .ok (.newarray .int, 2) := by decide +kernel
theorem d_M_init_87 : decode c_M_init 87 = .ok (.putfield 42, 3) := by decide +kernel
theorem d_M_init_90 : decode c_M_init 90 = .ok (.aload_n 0, 1) := by decide +kernel
theorem d_M_init_91 : decode c_M_init 91 = .ok (.bipush 64, 2) := by decide +kernel
theorem d_M_init_93 : decode c_M_init 93 = .ok (.newarray .int, 2) := by decide +kernel
theorem d_M_init_95 : decode c_M_init 95 = .ok (.putfield 45, 3) := by decide +kernel
theorem d_M_init_98 : decode c_M_init 98 = .ok (.return_, 1) := by decide +kernel
abbrev w_M_init : List Cond := mx_ws y_M_init c_M_init 1 none
abbrev rm_M_init : Room := { frames := 20, cells := 11, slots := 1513, locals := 400 }
def t_M_init  (P : Option mx_V → mx_F → Prop) : List (Nat × mx_O) := [
  (0, mx_aload 0 1),
  (1, mx_oi 4),
  (4, mx_aload 0 5),
  (5, mx_push (.inl (nI 12)) 7),
  (7, mx_newi 41 11 1513 9),
  (9, mx_putrF 7 2 12),
  (12, mx_aload 0 13),
  (13, mx_push (.inl (nI 360)) 16),
  (16, mx_newi 42 11 1513 18),
  (18, mx_putrF 7 4 21),
  (21, mx_aload 0 22),
  (22, mx_push (.inl (nI 60)) 24),
  (24, mx_newi 43 11 1513 26),
  (26, mx_putrF 7 5 29),
  (29, mx_aload 0 30),
  (30, mx_push (.inl (-1)) 31),
  (31, mx_puti 7 6 34),
  (34, mx_aload 0 35),
  (35, mx_push (.inl (nI 60)) 37),
  (37, mx_newi 44 11 1513 39),
  (39, mx_putrF 7 7 42),
  (42, mx_aload 0 43),
  (43, mx_push (.inl (nI 60)) 45),
  (45, mx_newi 45 11 1513 47),
  (47, mx_putrF 7 9 50),
  (50, mx_aload 0 51),
  (51, mx_push (.inl (nI 60)) 53),
  (53, mx_newl 46 11 1513 55),
  (55, mx_putrF 7 10 58),
  (58, mx_aload 0 59),
  (59, mx_push (.inl (nI 800)) 62),
  (62, mx_newi 47 11 1513 64),
  (64, mx_putrF 7 12 67),
  (67, mx_aload 0 68),
  (68, mx_push (.inl (nI 5)) 69),
  (69, mx_newi 48 11 1513 71),
  (71, mx_putrF 7 13 74),
  (74, mx_aload 0 75),
  (75, mx_push (.inl (nI 26)) 77),
  (77, mx_newi 49 11 1513 79),
  (79, mx_putrF 7 14 82),
  (82, mx_aload 0 83),
  (83, mx_push (.inl (nI 6)) 85),
  (85, mx_newi 50 11 1513 87),
  (87, mx_putrF 7 16 90),
  (90, mx_aload 0 91),
  (91, mx_push (.inl (nI 64)) 93),
  (93, mx_newi 51 11 1513 95),
  (95, mx_putrF 7 17 98),
  (98, mx_ret1 P 11 1513)]
set_option maxRecDepth 20000 in
theorem a_M_init  {p : Program} {l : Launch} {e : Env} {s : State} {m : MethodId} {args : Array Value} {below : List Frame} {meth : Method} {c : Code} {D : va_G} {tc : Nat → ClassId} {tb : Nat → Nat} {sz : Nat} {a0 : Nat → Nat} {G : mx_F} {P : Option mx_V → mx_F → Prop}  (C : mx_C p s m args c c_M_init y_M_init.cls w_M_init D tc tb (mx_A a0 G sz) 1 (mx_Ok1 a0 G)) (hr : meth.sig.returnType = none) (hlk : meth.locks = false) (hin2 : meth.name = "<init>") : mx_all (mx_W p l e rm_M_init s m args below meth c (MQ below (mx_Q1 D tc tb a0 G sz P) args s rm_M_init.cells rm_M_init.slots (mx_A a0 G sz)) D tc tb (mx_A a0 G sz) 1 (mx_Ok1 a0 G)) (t_M_init  P) :=
  ⟨mx_s_aload_n C d_M_init_0 rfl,
  mx_s_oi C (List.mem_cons_of_mem _ (mx_in0 (by decide +kernel) rfl)) (List.mem_cons_of_mem _ (mx_in0 (by decide +kernel) rfl)) (List.mem_cons_of_mem _ (mx_in0 (by decide +kernel) rfl)) d_M_init_1 ⟨by decide, by decide⟩,
  mx_s_aload_n C d_M_init_4 rfl,
  mx_s_bipush C d_M_init_5 (by decide),
  mx_s_newi C (fun ad F k q x h h0 => mx_Ok1_up h h0) (List.mem_cons_of_mem _ (mx_in0 (by decide +kernel) rfl)) d_M_init_7 ⟨Nat.le_refl _, Nat.le_refl _⟩,
  mx_s_putrF (T := T_M) (N := 18) (k := 2) C hin2 (fun w h => List.mem_cons_of_mem _ (in_M w h)) rfl ty_M ok_M nm_M (by decide) (List.mem_cons_of_mem _ (mx_in0 (by decide +kernel) rfl)) rfl rfl (ok_M 2 (by decide)) (fun _ => rfl) (fun _ => rfl) d_M_init_9,
  mx_s_aload_n C d_M_init_12 rfl,
  mx_s_sipush C d_M_init_13 (by decide),
  mx_s_newi C (fun ad F k q x h h0 => mx_Ok1_up h h0) (List.mem_cons_of_mem _ (mx_in0 (by decide +kernel) rfl)) d_M_init_16 ⟨Nat.le_refl _, Nat.le_refl _⟩,
  mx_s_putrF (T := T_M) (N := 18) (k := 4) C hin2 (fun w h => List.mem_cons_of_mem _ (in_M w h)) rfl ty_M ok_M nm_M (by decide) (List.mem_cons_of_mem _ (mx_in0 (by decide +kernel) rfl)) rfl rfl (ok_M 4 (by decide)) (fun _ => rfl) (fun _ => rfl) d_M_init_18,
  mx_s_aload_n C d_M_init_21 rfl,
  mx_s_bipush C d_M_init_22 (by decide),
  mx_s_newi C (fun ad F k q x h h0 => mx_Ok1_up h h0) (List.mem_cons_of_mem _ (mx_in0 (by decide +kernel) rfl)) d_M_init_24 ⟨Nat.le_refl _, Nat.le_refl _⟩,
  mx_s_putrF (T := T_M) (N := 18) (k := 5) C hin2 (fun w h => List.mem_cons_of_mem _ (in_M w h)) rfl ty_M ok_M nm_M (by decide) (List.mem_cons_of_mem _ (mx_in0 (by decide +kernel) rfl)) rfl rfl (ok_M 5 (by decide)) (fun _ => rfl) (fun _ => rfl) d_M_init_26,
  mx_s_aload_n C d_M_init_29 rfl,
  mx_s_iconst C d_M_init_30 (by decide),
  mx_s_puti (T := T_M) (N := 18) (k := 6) C (fun w h => List.mem_cons_of_mem _ (in_M w h)) rfl ty_M ok_M nm_M (by decide) (List.mem_cons_of_mem _ (mx_in0 (by decide +kernel) rfl)) rfl rfl (ok_M 6 (by decide)) d_M_init_31,
  mx_s_aload_n C d_M_init_34 rfl,
  mx_s_bipush C d_M_init_35 (by decide),
  mx_s_newi C (fun ad F k q x h h0 => mx_Ok1_up h h0) (List.mem_cons_of_mem _ (mx_in0 (by decide +kernel) rfl)) d_M_init_37 ⟨Nat.le_refl _, Nat.le_refl _⟩,
  mx_s_putrF (T := T_M) (N := 18) (k := 7) C hin2 (fun w h => List.mem_cons_of_mem _ (in_M w h)) rfl ty_M ok_M nm_M (by decide) (List.mem_cons_of_mem _ (mx_in0 (by decide +kernel) rfl)) rfl rfl (ok_M 7 (by decide)) (fun _ => rfl) (fun _ => rfl) d_M_init_39,
  mx_s_aload_n C d_M_init_42 rfl,
  mx_s_bipush C d_M_init_43 (by decide),
  mx_s_newi C (fun ad F k q x h h0 => mx_Ok1_up h h0) (List.mem_cons_of_mem _ (mx_in0 (by decide +kernel) rfl)) d_M_init_45 ⟨Nat.le_refl _, Nat.le_refl _⟩,
  mx_s_putrF (T := T_M) (N := 18) (k := 9) C hin2 (fun w h => List.mem_cons_of_mem _ (in_M w h)) rfl ty_M ok_M nm_M (by decide) (List.mem_cons_of_mem _ (mx_in0 (by decide +kernel) rfl)) rfl rfl (ok_M 9 (by decide)) (fun _ => rfl) (fun _ => rfl) d_M_init_47,
  mx_s_aload_n C d_M_init_50 rfl,
  mx_s_bipush C d_M_init_51 (by decide),
  mx_s_newl C (fun ad F k q x h h0 => mx_Ok1_up h h0) (List.mem_cons_of_mem _ (mx_in0 (by decide +kernel) rfl)) d_M_init_53 ⟨Nat.le_refl _, Nat.le_refl _⟩,
  mx_s_putrF (T := T_M) (N := 18) (k := 10) C hin2 (fun w h => List.mem_cons_of_mem _ (in_M w h)) rfl ty_M ok_M nm_M (by decide) (List.mem_cons_of_mem _ (mx_in0 (by decide +kernel) rfl)) rfl rfl (ok_M 10 (by decide)) (fun _ => rfl) (fun _ => rfl) d_M_init_55,
  mx_s_aload_n C d_M_init_58 rfl,
  mx_s_sipush C d_M_init_59 (by decide),
  mx_s_newi C (fun ad F k q x h h0 => mx_Ok1_up h h0) (List.mem_cons_of_mem _ (mx_in0 (by decide +kernel) rfl)) d_M_init_62 ⟨Nat.le_refl _, Nat.le_refl _⟩,
  mx_s_putrF (T := T_M) (N := 18) (k := 12) C hin2 (fun w h => List.mem_cons_of_mem _ (in_M w h)) rfl ty_M ok_M nm_M (by decide) (List.mem_cons_of_mem _ (mx_in0 (by decide +kernel) rfl)) rfl rfl (ok_M 12 (by decide)) (fun _ => rfl) (fun _ => rfl) d_M_init_64,
  mx_s_aload_n C d_M_init_67 rfl,
  mx_s_iconst C d_M_init_68 (by decide),
  mx_s_newi C (fun ad F k q x h h0 => mx_Ok1_up h h0) (List.mem_cons_of_mem _ (mx_in0 (by decide +kernel) rfl)) d_M_init_69 ⟨Nat.le_refl _, Nat.le_refl _⟩,
  mx_s_putrF (T := T_M) (N := 18) (k := 13) C hin2 (fun w h => List.mem_cons_of_mem _ (in_M w h)) rfl ty_M ok_M nm_M (by decide) (List.mem_cons_of_mem _ (mx_in0 (by decide +kernel) rfl)) rfl rfl (ok_M 13 (by decide)) (fun _ => rfl) (fun _ => rfl) d_M_init_71,
  mx_s_aload_n C d_M_init_74 rfl,
  mx_s_bipush C d_M_init_75 (by decide),
  mx_s_newi C (fun ad F k q x h h0 => mx_Ok1_up h h0) (List.mem_cons_of_mem _ (mx_in0 (by decide +kernel) rfl)) d_M_init_77 ⟨Nat.le_refl _, Nat.le_refl _⟩,
  mx_s_putrF (T := T_M) (N := 18) (k := 14) C hin2 (fun w h => List.mem_cons_of_mem _ (in_M w h)) rfl ty_M ok_M nm_M (by decide) (List.mem_cons_of_mem _ (mx_in0 (by decide +kernel) rfl)) rfl rfl (ok_M 14 (by decide)) (fun _ => rfl) (fun _ => rfl) d_M_init_79,
  mx_s_aload_n C d_M_init_82 rfl,
  mx_s_bipush C d_M_init_83 (by decide),
  mx_s_newi C (fun ad F k q x h h0 => mx_Ok1_up h h0) (List.mem_cons_of_mem _ (mx_in0 (by decide +kernel) rfl)) d_M_init_85 ⟨Nat.le_refl _, Nat.le_refl _⟩,
  mx_s_putrF (T := T_M) (N := 18) (k := 16) C hin2 (fun w h => List.mem_cons_of_mem _ (in_M w h)) rfl ty_M ok_M nm_M (by decide) (List.mem_cons_of_mem _ (mx_in0 (by decide +kernel) rfl)) rfl rfl (ok_M 16 (by decide)) (fun _ => rfl) (fun _ => rfl) d_M_init_87,
  mx_s_aload_n C d_M_init_90 rfl,
  mx_s_bipush C d_M_init_91 (by decide),
  mx_s_newi C (fun ad F k q x h h0 => mx_Ok1_up h h0) (List.mem_cons_of_mem _ (mx_in0 (by decide +kernel) rfl)) d_M_init_93 ⟨Nat.le_refl _, Nat.le_refl _⟩,
  mx_s_putrF (T := T_M) (N := 18) (k := 17) C hin2 (fun w h => List.mem_cons_of_mem _ (in_M w h)) rfl ty_M ok_M nm_M (by decide) (List.mem_cons_of_mem _ (mx_in0 (by decide +kernel) rfl)) rfl rfl (ok_M 17 (by decide)) (fun _ => rfl) (fun _ => rfl) d_M_init_95,
  mx_s_ret1 C hr hlk d_M_init_98,
  trivial⟩
set_option maxRecDepth 20000 in
set_option maxHeartbeats 2000000 in
theorem m_M_init (l : Launch) : mx_M1 l y_M_init w_M_init rm_M_init sp_M_init := by
  intro D tc tb ad As F P sz0 h
  obtain ⟨rfl, h1, h41, n41, h42, n42, h43, n43, h44, n44, h45, n45, h46, n46, h47, n47, h48, n48, h49, n49, h50, n50, h51, n51, hp⟩ := h
  refine mx_run1 (cc := c_M_init) (maxL := 1) (ret := none) (tab := t_M_init  P) (by decide) rfl D tc tb ad _ F P sz0 (Nat.le_of_ble_eq_true rfl) (fun p e s m args below meth c C hr hlk hnm => a_M_init  C hr hlk (by rw [hnm]; rfl)) ?_
  intro Rr go
  rw [mx_as1 h1]
  refine go rfl ⟨_, rfl, ?_⟩
  refine go rfl ⟨_, _, rfl, rfl, ?_⟩
  refine go rfl ⟨_, rfl, ?_⟩
  refine go rfl ?_
  refine go rfl ⟨_, _, rfl, rfl, (h41), (mx_no_put (n41) (mx_noO rfl)), rfl, rfl, rfl, rfl, ?_⟩
  refine go rfl ⟨_, _, _, _, rfl, rfl, (Nat.le_of_ble_eq_true rfl), ?_⟩
  rw [mx_pc _ _ _ (show (41 : Nat) ≠ 40 by decide), mx_pp]
  refine go rfl ⟨_, rfl, ?_⟩
  refine go rfl ?_
  refine go rfl ⟨_, _, rfl, rfl, (h42), (mx_no_put (mx_no_put (n42) mx_noI) (mx_noO rfl)), rfl, rfl, rfl, rfl, ?_⟩
  refine go rfl ⟨_, _, _, _, rfl, rfl, (Nat.le_of_ble_eq_true rfl), ?_⟩
  rw [mx_pc _ _ _ (show (42 : Nat) ≠ 40 by decide), mx_pp]
  refine go rfl ⟨_, rfl, ?_⟩
  refine go rfl ?_
  refine go rfl ⟨_, _, rfl, rfl, (h43), (mx_no_put (mx_no_put (mx_no_put (n43) mx_noI) mx_noI) (mx_noO rfl)), rfl, rfl, rfl, rfl, ?_⟩
  refine go rfl ⟨_, _, _, _, rfl, rfl, (Nat.le_of_ble_eq_true rfl), ?_⟩
  rw [mx_pc _ _ _ (show (43 : Nat) ≠ 40 by decide), mx_pp]
  refine go rfl ⟨_, rfl, ?_⟩
  refine go rfl ?_
  refine go rfl ⟨_, _, _, _, rfl, rfl, (Nat.le_of_ble_eq_true rfl), ?_⟩
  rw [mx_pp]
  refine go rfl ⟨_, rfl, ?_⟩
  refine go rfl ?_
  refine go rfl ⟨_, _, rfl, rfl, (h44), (mx_no_put (mx_no_put (mx_no_put (mx_no_put (n44) mx_noI) mx_noI) mx_noI) (mx_noO rfl)), rfl, rfl, rfl, rfl, ?_⟩
  refine go rfl ⟨_, _, _, _, rfl, rfl, (Nat.le_of_ble_eq_true rfl), ?_⟩
  rw [mx_pc _ _ _ (show (44 : Nat) ≠ 40 by decide), mx_pp]
  refine go rfl ⟨_, rfl, ?_⟩
  refine go rfl ?_
  refine go rfl ⟨_, _, rfl, rfl, (h45), (mx_no_put (mx_no_put (mx_no_put (mx_no_put (mx_no_put (n45) mx_noI) mx_noI) mx_noI) mx_noI) (mx_noO rfl)), rfl, rfl, rfl, rfl, ?_⟩
  refine go rfl ⟨_, _, _, _, rfl, rfl, (Nat.le_of_ble_eq_true rfl), ?_⟩
  rw [mx_pc _ _ _ (show (45 : Nat) ≠ 40 by decide), mx_pp]
  refine go rfl ⟨_, rfl, ?_⟩
  refine go rfl ?_
  refine go rfl ⟨_, _, rfl, rfl, (h46), (mx_no_put (mx_no_put (mx_no_put (mx_no_put (mx_no_put (mx_no_put (n46) mx_noI) mx_noI) mx_noI) mx_noI) mx_noI) (mx_noO rfl)), rfl, rfl, rfl, rfl, ?_⟩
  refine go rfl ⟨_, _, _, _, rfl, rfl, (Nat.le_of_ble_eq_true rfl), ?_⟩
  rw [mx_pc _ _ _ (show (46 : Nat) ≠ 40 by decide), mx_pp]
  refine go rfl ⟨_, rfl, ?_⟩
  refine go rfl ?_
  refine go rfl ⟨_, _, rfl, rfl, (h47), (mx_no_put (mx_no_put (mx_no_put (mx_no_put (mx_no_put (mx_no_put (mx_no_put (n47) mx_noI) mx_noI) mx_noI) mx_noI) mx_noI) mx_noL) (mx_noO rfl)), rfl, rfl, rfl, rfl, ?_⟩
  refine go rfl ⟨_, _, _, _, rfl, rfl, (Nat.le_of_ble_eq_true rfl), ?_⟩
  rw [mx_pc _ _ _ (show (47 : Nat) ≠ 40 by decide), mx_pp]
  refine go rfl ⟨_, rfl, ?_⟩
  refine go rfl ?_
  refine go rfl ⟨_, _, rfl, rfl, (h48), (mx_no_put (mx_no_put (mx_no_put (mx_no_put (mx_no_put (mx_no_put (mx_no_put (mx_no_put (n48) mx_noI) mx_noI) mx_noI) mx_noI) mx_noI) mx_noL) mx_noI) (mx_noO rfl)), rfl, rfl, rfl, rfl, ?_⟩
  refine go rfl ⟨_, _, _, _, rfl, rfl, (Nat.le_of_ble_eq_true rfl), ?_⟩
  rw [mx_pc _ _ _ (show (48 : Nat) ≠ 40 by decide), mx_pp]
  refine go rfl ⟨_, rfl, ?_⟩
  refine go rfl ?_
  refine go rfl ⟨_, _, rfl, rfl, (h49), (mx_no_put (mx_no_put (mx_no_put (mx_no_put (mx_no_put (mx_no_put (mx_no_put (mx_no_put (mx_no_put (n49) mx_noI) mx_noI) mx_noI) mx_noI) mx_noI) mx_noL) mx_noI) mx_noI) (mx_noO rfl)), rfl, rfl, rfl, rfl, ?_⟩
  refine go rfl ⟨_, _, _, _, rfl, rfl, (Nat.le_of_ble_eq_true rfl), ?_⟩
  rw [mx_pc _ _ _ (show (49 : Nat) ≠ 40 by decide), mx_pp]
  refine go rfl ⟨_, rfl, ?_⟩
  refine go rfl ?_
  refine go rfl ⟨_, _, rfl, rfl, (h50), (mx_no_put (mx_no_put (mx_no_put (mx_no_put (mx_no_put (mx_no_put (mx_no_put (mx_no_put (mx_no_put (mx_no_put (n50) mx_noI) mx_noI) mx_noI) mx_noI) mx_noI) mx_noL) mx_noI) mx_noI) mx_noI) (mx_noO rfl)), rfl, rfl, rfl, rfl, ?_⟩
  refine go rfl ⟨_, _, _, _, rfl, rfl, (Nat.le_of_ble_eq_true rfl), ?_⟩
  rw [mx_pc _ _ _ (show (50 : Nat) ≠ 40 by decide), mx_pp]
  refine go rfl ⟨_, rfl, ?_⟩
  refine go rfl ?_
  refine go rfl ⟨_, _, rfl, rfl, (h51), (mx_no_put (mx_no_put (mx_no_put (mx_no_put (mx_no_put (mx_no_put (mx_no_put (mx_no_put (mx_no_put (mx_no_put (mx_no_put (n51) mx_noI) mx_noI) mx_noI) mx_noI) mx_noI) mx_noL) mx_noI) mx_noI) mx_noI) mx_noI) (mx_noO rfl)), rfl, rfl, rfl, rfl, ?_⟩
  refine go rfl ⟨_, _, _, _, rfl, rfl, (Nat.le_of_ble_eq_true rfl), ?_⟩
  rw [mx_pc _ _ _ (show (51 : Nat) ≠ 40 by decide), mx_pp]
  refine go rfl ⟨rfl, rfl, rfl, ?_⟩
  exact hp
end
section
theorem mx_out {F : mx_F} {k j : Nat} {e : mx_E} (h : F k = none ∧ mx_no k F) (hk : k ≠ j) (he : mx_noE k e) : mx_put F j e k = none ∧ mx_no k (mx_put F j e) := ⟨by rw [mx_put_ne hk]; exact h.1, mx_no_put h.2 he⟩
/-- what a cell points to lies below n -/
def mx_lo (n : Nat) : mx_V → Bool
  | .inr (.inr (.inl (some q))) => Nat.blt q n
  | _ => true
theorem mx_noB {k ci n : Nat} {fs : List mx_V} (hk : n ≤ k) (h : fs.all (mx_lo n) = true) : mx_noE k (mx_ob ci fs) := by
  intro v hv z
  have h1 := List.all_eq_true.mp h v hv
  rw [z] at h1
  have h2 : k < n := Nat.le_of_ble_eq_true h1
  omega
theorem mx_noQ {k t n : Nat} {f : Nat → Option Nat} (h : ∀ i, f i ≠ some k) : mx_noE k (mx_qa t n f) := h
theorem g5_in {a i q : Nat} (h : mx_g5 a i = some q) : a ≤ q ∧ q < a + 5 := by
  unfold mx_g5 at h
  split at h
  · cases h
    omega
  · cases h
theorem qh_lt {i q : Nat} (h : qh i = some q) : q < 29 := by
  have := g5_in h
  omega
theorem qo_lt {i q : Nat} (h : qo i = some q) : q < 29 := by
  have := g5_in h
  omega
theorem mx_sw15 {F : mx_F} {a b : mx_E} {j : Nat} (h : j ≠ 15) : mx_put (mx_put F 15 a) j b = mx_put (mx_put F j b) 15 a := mx_pc F a b h
theorem mx_out_rows {F : mx_F} {k a n : Nat} (h : F k = none ∧ mx_no k F) (hk : k < a ∨ a + 5 ≤ k) : mx_rows F a n k = none ∧ mx_no k (mx_rows F a n) := by
  unfold mx_rows
  exact mx_out (mx_out (mx_out (mx_out (mx_out h (by omega) mx_noL) (by omega) mx_noL) (by omega) mx_noL) (by omega) mx_noL) (by omega) mx_noL
abbrev qw (F : mx_F) : mx_F := (mx_put (mx_put (mx_put (mx_put (mx_put (mx_put (mx_put (mx_put (mx_put (mx_put (mx_put (mx_put (mx_put (mx_put F 19 (mx_la 26 (fun _ => 0))) 20 (mx_la 26 (fun _ => 0))) 21 (mx_la 26 (fun _ => 0))) 22 (mx_la 26 (fun _ => 0))) 23 (mx_la 26 (fun _ => 0))) 16 (mx_qa 2 5 qh)) 24 (mx_la 5 (fun _ => 0))) 25 (mx_la 5 (fun _ => 0))) 26 (mx_la 5 (fun _ => 0))) 27 (mx_la 5 (fun _ => 0))) 28 (mx_la 5 (fun _ => 0))) 17 (mx_qa 2 5 qo)) 18 (mx_ia 5 (fun _ => 0))) 15 (e_Q 0 0))
-- LadderWords$Squares.<init>(LLadderWords$Words;)V
def sp_Q_init : mx_Sp := fun As F P => As = [mx_r 15, mx_r 3] ∧ F 15 = some (mx_ob 4 [mx_null, mx_null, mx_null, mx_null, mx_i 0, mx_i 0]) ∧ (∀ k, 16 ≤ k → F k = none ∧ mx_no k F) ∧ P none (qw F)
theorem d_Q_init_0 : decode c_Q_init 0 = .ok (.aload_n 0, 1) := by decide +kernel
theorem d_Q_init_1 : decode c_Q_init 1 = .ok (.invokespecial 3, 3) := by decide +kernel
theorem d_Q_init_4 : decode c_Q_init 4 = .ok (.aload_n 0, 1) := by decide +kernel
theorem d_Q_init_5 : decode c_Q_init 5 = .ok (.iconst 5, 1) := by decide +kernel
theorem d_Q_init_6 : decode c_Q_init 6 = .ok (.bipush 26, 2) := by decide +kernel
theorem d_Q_init_8 : decode c_Q_init 8 = .ok (.multianewarray 11 2, 4) := by decide +kernel
theorem d_Q_init_12 : decode c_Q_init 12 = .ok (.putfield 13, 3) := by decide +kernel
theorem d_Q_init_15 : decode c_Q_init 15 = .ok (.aload_n 0, 1) := by decide +kernel
theorem d_Q_init_16 : decode c_Q_init 16 = .ok (.iconst 5, 1) := by decide +kernel
theorem d_Q_init_17 : decode c_Q_init 17 = .ok (.iconst 5, 1) := by decide +kernel
theorem d_Q_init_18 : decode c_Q_init 18 = .ok (.multianewarray 11 2, 4) := by decide +kernel
theorem d_Q_init_22 : decode c_Q_init 22 = .ok (.putfield 16, 3) := by decide +kernel
theorem d_Q_init_25 : decode c_Q_init 25 = .ok (.aload_n 0, 1) := by decide +kernel
theorem d_Q_init_26 : decode c_Q_init 26 = .ok (.iconst 5, 1) := by decide +kernel
theorem d_Q_init_27 : decode c_Q_init 27 = .ok (.newarray .int, 2) := by decide +kernel
theorem d_Q_init_29 : decode c_Q_init 29 = .ok (.putfield 19, 3) := by decide +kernel
theorem d_Q_init_32 : decode c_Q_init 32 = .ok (.aload_n 0, 1) := by decide +kernel
theorem d_Q_init_33 : decode c_Q_init 33 = .ok (.aload_n 1, 1) := by decide +kernel
theorem d_Q_init_34 : decode c_Q_init 34 = .ok (.putfield 23, 3) := by decide +kernel
theorem d_Q_init_37 : decode c_Q_init 37 = .ok (.return_, 1) := by decide +kernel
abbrev w_Q_init : List Cond := mx_ws y_Q_init c_Q_init 2 none
abbrev rm_Q_init : Room := { frames := 20, cells := 13, slots := 170, locals := 400 }
def t_Q_init  (P : Option mx_V → mx_F → Prop) : List (Nat × mx_O) := [
  (0, mx_aload 0 1),
  (1, mx_oi 4),
  (4, mx_aload 0 5),
  (5, mx_push (.inl (nI 5)) 6),
  (6, mx_push (.inl (nI 26)) 8),
  (8, mx_newg 16 19 13 170 12),
  (12, mx_putrF 4 1 15),
  (15, mx_aload 0 16),
  (16, mx_push (.inl (nI 5)) 17),
  (17, mx_push (.inl (nI 5)) 18),
  (18, mx_newg 17 24 13 170 22),
  (22, mx_putrF 4 2 25),
  (25, mx_aload 0 26),
  (26, mx_push (.inl (nI 5)) 27),
  (27, mx_newi 18 13 170 29),
  (29, mx_putrF 4 3 32),
  (32, mx_aload 0 33),
  (33, mx_aload 1 34),
  (34, mx_putrF 4 0 37),
  (37, mx_ret1 P 13 170)]
set_option maxRecDepth 20000 in
theorem a_Q_init  {p : Program} {l : Launch} {e : Env} {s : State} {m : MethodId} {args : Array Value} {below : List Frame} {meth : Method} {c : Code} {D : va_G} {tc : Nat → ClassId} {tb : Nat → Nat} {sz : Nat} {a0 : Nat → Nat} {G : mx_F} {P : Option mx_V → mx_F → Prop}  (C : mx_C p s m args c c_Q_init y_Q_init.cls w_Q_init D tc tb (mx_A a0 G sz) 2 (mx_Ok1 a0 G)) (hr : meth.sig.returnType = none) (hlk : meth.locks = false) (hin2 : meth.name = "<init>") : mx_all (mx_W p l e rm_Q_init s m args below meth c (MQ below (mx_Q1 D tc tb a0 G sz P) args s rm_Q_init.cells rm_Q_init.slots (mx_A a0 G sz)) D tc tb (mx_A a0 G sz) 2 (mx_Ok1 a0 G)) (t_Q_init  P) :=
  ⟨mx_s_aload_n C d_Q_init_0 rfl,
  mx_s_oi C (List.mem_cons_of_mem _ (mx_in0 (by decide +kernel) rfl)) (List.mem_cons_of_mem _ (mx_in0 (by decide +kernel) rfl)) (List.mem_cons_of_mem _ (mx_in0 (by decide +kernel) rfl)) d_Q_init_1 ⟨by decide, by decide⟩,
  mx_s_aload_n C d_Q_init_4 rfl,
  mx_s_iconst C d_Q_init_5 (by decide),
  mx_s_bipush C d_Q_init_6 (by decide),
  mx_s_newg C (fun ad ad' F F' h h0 => mx_Ok1_tr h h0) (List.mem_cons_of_mem _ (mx_in0 (by decide +kernel) rfl)) d_Q_init_8 ⟨Nat.le_refl _, Nat.le_refl _⟩,
  mx_s_putrF (T := T_Q) (N := 6) (k := 1) C hin2 (fun w h => List.mem_cons_of_mem _ (in_Q w h)) rfl ty_Q ok_Q nm_Q (by decide) (List.mem_cons_of_mem _ (mx_in0 (by decide +kernel) rfl)) rfl rfl (ok_Q 1 (by decide)) (fun _ => rfl) (fun _ => rfl) d_Q_init_12,
  mx_s_aload_n C d_Q_init_15 rfl,
  mx_s_iconst C d_Q_init_16 (by decide),
  mx_s_iconst C d_Q_init_17 (by decide),
  mx_s_newg C (fun ad ad' F F' h h0 => mx_Ok1_tr h h0) (List.mem_cons_of_mem _ (mx_in0 (by decide +kernel) rfl)) d_Q_init_18 ⟨Nat.le_refl _, Nat.le_refl _⟩,
  mx_s_putrF (T := T_Q) (N := 6) (k := 2) C hin2 (fun w h => List.mem_cons_of_mem _ (in_Q w h)) rfl ty_Q ok_Q nm_Q (by decide) (List.mem_cons_of_mem _ (mx_in0 (by decide +kernel) rfl)) rfl rfl (ok_Q 2 (by decide)) (fun _ => rfl) (fun _ => rfl) d_Q_init_22,
  mx_s_aload_n C d_Q_init_25 rfl,
  mx_s_iconst C d_Q_init_26 (by decide),
  mx_s_newi C (fun ad F k q x h h0 => mx_Ok1_up h h0) (List.mem_cons_of_mem _ (mx_in0 (by decide +kernel) rfl)) d_Q_init_27 ⟨Nat.le_refl _, Nat.le_refl _⟩,
  mx_s_putrF (T := T_Q) (N := 6) (k := 3) C hin2 (fun w h => List.mem_cons_of_mem _ (in_Q w h)) rfl ty_Q ok_Q nm_Q (by decide) (List.mem_cons_of_mem _ (mx_in0 (by decide +kernel) rfl)) rfl rfl (ok_Q 3 (by decide)) (fun _ => rfl) (fun _ => rfl) d_Q_init_29,
  mx_s_aload_n C d_Q_init_32 rfl,
  mx_s_aload_n C d_Q_init_33 rfl,
  mx_s_putrF (T := T_Q) (N := 6) (k := 0) C hin2 (fun w h => List.mem_cons_of_mem _ (in_Q w h)) rfl ty_Q ok_Q nm_Q (by decide) (List.mem_cons_of_mem _ (mx_in0 (by decide +kernel) rfl)) rfl rfl (ok_Q 0 (by decide)) (fun _ => rfl) (fun _ => rfl) d_Q_init_34,
  mx_s_ret1 C hr hlk d_Q_init_37,
  trivial⟩
set_option maxRecDepth 20000 in
set_option maxHeartbeats 2000000 in
theorem m_Q_init (l : Launch) : mx_M1 l y_Q_init w_Q_init rm_Q_init sp_Q_init := by
  intro D tc tb ad As F P sz0 h
  obtain ⟨rfl, h15, hf, hp⟩ := h
  refine mx_run1 (cc := c_Q_init) (maxL := 2) (ret := none) (tab := t_Q_init  P) (by decide) rfl D tc tb ad _ F P sz0 (Nat.le_of_ble_eq_true rfl) (fun p e s m args below meth c C hr hlk hnm => a_Q_init  C hr hlk (by rw [hnm]; rfl)) ?_
  intro Rr go
  rw [mx_as1 h15]
  have o0 : ∀ q, 16 ≤ q → (mx_put F 15 (mx_ob 4 [mx_null, mx_null, mx_null, mx_null, mx_i 0, mx_i 0])) q = none ∧ mx_no q (mx_put F 15 (mx_ob 4 [mx_null, mx_null, mx_null, mx_null, mx_i 0, mx_i 0])) := fun q hq => mx_out (hf q hq) (by omega) (mx_noB (n := 16) hq rfl)
  have f0 : ∀ q, (q = 16 ∨ (19 ≤ q ∧ q < 19 + 5)) → (mx_put F 15 (mx_ob 4 [mx_null, mx_null, mx_null, mx_null, mx_i 0, mx_i 0])) q = none ∧ mx_no q (mx_put F 15 (mx_ob 4 [mx_null, mx_null, mx_null, mx_null, mx_i 0, mx_i 0])) ∧ mx_nrL q (mx_en [mx_r 15, mx_r 3] 2) = true ∧ mx_nrS q [mx_r 15] = true := by
    intro q hq
    have o := o0 q (by omega)
    refine ⟨o.1, o.2, ?_⟩
    rcases (show q = 16 ∨ q = 19 ∨ q = 20 ∨ q = 21 ∨ q = 22 ∨ q = 23 by omega) with rfl | rfl | rfl | rfl | rfl | rfl <;> exact ⟨rfl, rfl⟩
  refine go rfl ⟨_, rfl, ?_⟩
  refine go rfl ⟨_, _, rfl, rfl, ?_⟩
  refine go rfl ⟨_, rfl, ?_⟩
  refine go rfl ?_
  refine go rfl ?_
  refine go rfl ⟨_, _, rfl, rfl, (f0), (by decide), rfl, rfl, ?_⟩
  refine go rfl ⟨_, _, _, _, rfl, rfl, (Nat.le_of_ble_eq_true rfl), ?_⟩
  show Rr 15 _ _ (mx_put (mx_put (mx_rows (mx_put F 15 (mx_ob 4 [mx_null, mx_null, mx_null, mx_null, mx_i 0, mx_i 0])) 19 26) 16 (mx_qa 2 5 (mx_g5 19))) 15 (mx_ob 4 [mx_null, mx_r 16, mx_null, mx_null, mx_i 0, mx_i 0])) _ _
  have o2 : ∀ q, (q = 17 ∨ q = 18 ∨ 24 ≤ q) → (mx_put (mx_put (mx_rows (mx_put F 15 (mx_ob 4 [mx_null, mx_null, mx_null, mx_null, mx_i 0, mx_i 0])) 19 26) 16 (mx_qa 2 5 (mx_g5 19))) 15 (mx_ob 4 [mx_null, mx_r 16, mx_null, mx_null, mx_i 0, mx_i 0])) q = none ∧ mx_no q (mx_put (mx_put (mx_rows (mx_put F 15 (mx_ob 4 [mx_null, mx_null, mx_null, mx_null, mx_i 0, mx_i 0])) 19 26) 16 (mx_qa 2 5 (mx_g5 19))) 15 (mx_ob 4 [mx_null, mx_r 16, mx_null, mx_null, mx_i 0, mx_i 0])) := fun q hq => mx_out (mx_out (mx_out_rows (o0 q (by omega)) (by omega)) (by omega) (mx_noQ (fun i z => by have := g5_in z; omega))) (by omega) (mx_noB (n := 17) (by omega) rfl)
  have f2 : ∀ q, (q = 17 ∨ (24 ≤ q ∧ q < 24 + 5)) → (mx_put (mx_put (mx_rows (mx_put F 15 (mx_ob 4 [mx_null, mx_null, mx_null, mx_null, mx_i 0, mx_i 0])) 19 26) 16 (mx_qa 2 5 (mx_g5 19))) 15 (mx_ob 4 [mx_null, mx_r 16, mx_null, mx_null, mx_i 0, mx_i 0])) q = none ∧ mx_no q (mx_put (mx_put (mx_rows (mx_put F 15 (mx_ob 4 [mx_null, mx_null, mx_null, mx_null, mx_i 0, mx_i 0])) 19 26) 16 (mx_qa 2 5 (mx_g5 19))) 15 (mx_ob 4 [mx_null, mx_r 16, mx_null, mx_null, mx_i 0, mx_i 0])) ∧ mx_nrL q (mx_en [mx_r 15, mx_r 3] 2) = true ∧ mx_nrS q [mx_r 15] = true := by
    intro q hq
    have o := o2 q (by omega)
    refine ⟨o.1, o.2, ?_⟩
    rcases (show q = 17 ∨ q = 24 ∨ q = 25 ∨ q = 26 ∨ q = 27 ∨ q = 28 by omega) with rfl | rfl | rfl | rfl | rfl | rfl <;> exact ⟨rfl, rfl⟩
  refine go rfl ⟨_, rfl, ?_⟩
  refine go rfl ?_
  refine go rfl ?_
  refine go rfl ⟨_, _, rfl, rfl, (f2), (by decide), rfl, rfl, ?_⟩
  refine go rfl ⟨_, _, _, _, rfl, rfl, (Nat.le_of_ble_eq_true rfl), ?_⟩
  show Rr 25 _ _ (mx_put (mx_put (mx_rows (mx_put (mx_put (mx_rows (mx_put F 15 (mx_ob 4 [mx_null, mx_null, mx_null, mx_null, mx_i 0, mx_i 0])) 19 26) 16 (mx_qa 2 5 (mx_g5 19))) 15 (mx_ob 4 [mx_null, mx_r 16, mx_null, mx_null, mx_i 0, mx_i 0])) 24 5) 17 (mx_qa 2 5 (mx_g5 24))) 15 (mx_ob 4 [mx_null, mx_r 16, mx_r 17, mx_null, mx_i 0, mx_i 0])) _ _
  have o4 : (mx_put (mx_put (mx_rows (mx_put (mx_put (mx_rows (mx_put F 15 (mx_ob 4 [mx_null, mx_null, mx_null, mx_null, mx_i 0, mx_i 0])) 19 26) 16 (mx_qa 2 5 (mx_g5 19))) 15 (mx_ob 4 [mx_null, mx_r 16, mx_null, mx_null, mx_i 0, mx_i 0])) 24 5) 17 (mx_qa 2 5 (mx_g5 24))) 15 (mx_ob 4 [mx_null, mx_r 16, mx_r 17, mx_null, mx_i 0, mx_i 0])) 18 = none ∧ mx_no 18 (mx_put (mx_put (mx_rows (mx_put (mx_put (mx_rows (mx_put F 15 (mx_ob 4 [mx_null, mx_null, mx_null, mx_null, mx_i 0, mx_i 0])) 19 26) 16 (mx_qa 2 5 (mx_g5 19))) 15 (mx_ob 4 [mx_null, mx_r 16, mx_null, mx_null, mx_i 0, mx_i 0])) 24 5) 17 (mx_qa 2 5 (mx_g5 24))) 15 (mx_ob 4 [mx_null, mx_r 16, mx_r 17, mx_null, mx_i 0, mx_i 0])) := mx_out (mx_out (mx_out_rows (o2 18 (by decide)) (by decide)) (by decide) (mx_noQ (fun i z => by have := g5_in z; omega))) (by decide) (mx_noB (n := 18) (by decide) rfl)
  refine go rfl ⟨_, rfl, ?_⟩
  refine go rfl ?_
  refine go rfl ⟨_, _, rfl, rfl, (o4.1), (o4.2), rfl, rfl, rfl, rfl, ?_⟩
  refine go rfl ⟨_, _, _, _, rfl, rfl, (Nat.le_of_ble_eq_true rfl), ?_⟩
  refine go rfl ⟨_, rfl, ?_⟩
  refine go rfl ⟨_, rfl, ?_⟩
  refine go rfl ⟨_, _, _, _, rfl, rfl, (Nat.le_of_ble_eq_true rfl), ?_⟩
  refine go rfl ⟨rfl, rfl, rfl, ?_⟩
  have e1 : P none (qw F) := hp
  unfold mx_rows
  simp only [Nat.reduceAdd]
  simp (decide := true) only [mx_pp, mx_sw15]
  exact hp
/-- a new object's cells -/
def fr_L (F : mx_F) : Prop := F 0 = some e_L ∧ F 1 = some (e_R 0) ∧ F 2 = some (mx_ia 12 (fun _ => 0)) ∧ F 3 = some (e_W 0) ∧ F 4 = some (mx_ia 360 (fun _ => 0)) ∧ F 5 = some (mx_ia 61 (fun _ => 0)) ∧ F 6 = some (e_D 0 0 0) ∧ F 7 = some (mx_ia 60 (fun _ => 0)) ∧ F 8 = some (mx_la 60 (fun _ => 0)) ∧ F 9 = some (mx_ia 60 (fun _ => 0)) ∧ F 10 = some (e_G 0 0 0 0) ∧ F 11 = some (mx_ia 60 (fun _ => 0)) ∧ F 12 = some (mx_la 60 (fun _ => 0)) ∧ F 13 = some (mx_ia 4 (fun _ => 0)) ∧ F 14 = some (mx_ia 800 (fun _ => 0)) ∧ F 15 = some (e_Q 0 0) ∧ F 16 = some (mx_qa 2 5 qh) ∧ F 17 = some (mx_qa 2 5 qo) ∧ F 18 = some (mx_ia 5 (fun _ => 0)) ∧ F 19 = some (mx_la 26 (fun _ => 0)) ∧ F 20 = some (mx_la 26 (fun _ => 0)) ∧ F 21 = some (mx_la 26 (fun _ => 0)) ∧ F 22 = some (mx_la 26 (fun _ => 0)) ∧ F 23 = some (mx_la 26 (fun _ => 0)) ∧ F 24 = some (mx_la 5 (fun _ => 0)) ∧ F 25 = some (mx_la 5 (fun _ => 0)) ∧ F 26 = some (mx_la 5 (fun _ => 0)) ∧ F 27 = some (mx_la 5 (fun _ => 0)) ∧ F 28 = some (mx_la 5 (fun _ => 0)) ∧ F 29 = some e_C ∧ F 30 = some (mx_ia 64 (fun _ => 0))
-- LadderWords.<init>()V
def sp_L_init : mx_Sp := fun As F P => As = [mx_r 0] ∧ F 0 = some (mx_ob 6 [mx_null, mx_null, mx_null, mx_null, mx_null, mx_null]) ∧ (∀ k, 1 ≤ k → F k = none ∧ mx_no k F) ∧ ∀ F', fr_L F' → (∀ k, 31 ≤ k → F' k = none ∧ mx_no k F') → P none F'
theorem d_L_init_0 : decode c_L_init 0 = .ok (.aload_n 0, 1) := by decide +kernel
theorem d_L_init_1 : decode c_L_init 1 = .ok (.invokespecial 1, 3) := by decide +kernel
theorem d_L_init_4 : decode c_L_init 4 = .ok (.aload_n 0, 1) := by decide +kernel
theorem d_L_init_5 : decode c_L_init 5 = .ok (.new 7, 3) := by decide +kernel
theorem d_L_init_8 : decode c_L_init 8 = .ok (.dup, 1) := by decide +kernel
theorem d_L_init_9 : decode c_L_init 9 = .ok (.invokespecial 9, 3) := by decide +kernel
theorem d_L_init_12 : decode c_L_init 12 = .ok (.putfield 10, 3) := by decide +kernel
theorem d_L_init_15 : decode c_L_init 15 = .ok (.aload_n 0, 1) := by decide +kernel
theorem d_L_init_16 : decode c_L_init 16 = .ok (.new 16, 3) := by decide +kernel
theorem d_L_init_19 : decode c_L_init 19 = .ok (.dup, 1) := by decide +kernel
theorem d_L_init_20 : decode c_L_init 20 = .ok (.invokespecial 18, 3) := by decide +kernel
theorem d_L_init_23 : decode c_L_init 23 = .ok (.putfield 19, 3) := by decide +kernel
theorem d_L_init_26 : decode c_L_init 26 = .ok (.aload_n 0, 1) := by decide +kernel
theorem d_L_init_27 : decode c_L_init 27 = .ok (.new 23, 3) := by decide +kernel
theorem d_L_init_30 : decode c_L_init 30 = .ok (.dup, 1) := by decide +kernel
theorem d_L_init_31 : decode c_L_init 31 = .ok (.aload_n 0, 1) := by decide +kernel
theorem d_L_init_32 : decode c_L_init 32 = .ok (.getfield 19, 3) := by decide +kernel
theorem d_L_init_35 : decode c_L_init 35 = .ok (.invokespecial 25, 3) := by decide +kernel
theorem d_L_init_38 : decode c_L_init 38 = .ok (.putfield 28, 3) := by decide +kernel
theorem d_L_init_41 : decode c_L_init 41 = .ok (.aload_n 0, 1) := by decide +kernel
theorem d_L_init_42 : decode c_L_init 42 = .ok (.new 32, 3) := by decide +kernel
theorem d_L_init_45 : decode c_L_init 45 = .ok (.dup, 1) := by decide +kernel
theorem d_L_init_46 : decode c_L_init 46 = .ok (.aload_n 0, 1) := by decide +kernel
theorem d_L_init_47 : decode c_L_init 47 = .ok (.getfield 19, 3) := by decide +kernel
theorem d_L_init_50 : decode c_L_init 50 = .ok (.invokespecial 34, 3) := by decide +kernel
theorem d_L_init_53 : decode c_L_init 53 = .ok (.putfield 35, 3) := by decide +kernel
theorem d_L_init_56 : decode c_L_init 56 = .ok (.aload_n 0, 1) := by decide +kernel
theorem d_L_init_57 : decode c_L_init 57 = .ok (.new 39, 3) := by decide +kernel
theorem d_L_init_60 : decode c_L_init 60 = .ok (.dup, 1) := by decide +kernel
theorem d_L_init_61 : decode c_L_init 61 = .ok (.aload_n 0, 1) := by decide +kernel
theorem d_L_init_62 : decode c_L_init 62 = .ok (.getfield 19, 3) := by decide +kernel
theorem d_L_init_65 : decode c_L_init 65 = .ok (.invokespecial 41, 3) := by decide +kernel
theorem d_L_init_68 : decode c_L_init 68 = .ok (.putfield 42, 3) := by decide +kernel
theorem d_L_init_71 : decode c_L_init 71 = .ok (.aload_n 0, 1) := by decide +kernel
theorem d_L_init_72 : decode c_L_init 72 = .ok (.new 46, 3) := by decide +kernel
theorem d_L_init_75 : decode c_L_init 75 = .ok (.dup, 1) := by decide +kernel
theorem d_L_init_76 : decode c_L_init 76 = .ok (.aload_n 0, 1) := by decide +kernel
theorem d_L_init_77 : decode c_L_init 77 = .ok (.getfield 19, 3) := by decide +kernel
theorem d_L_init_80 : decode c_L_init 80 = .ok (.invokespecial 48, 3) := by decide +kernel
theorem d_L_init_83 : decode c_L_init 83 = .ok (.putfield 49, 3) := by decide +kernel
theorem d_L_init_86 : decode c_L_init 86 = .ok (.return_, 1) := by decide +kernel
abbrev w_L_init : List Cond := mx_ws y_L_init c_L_init 1 none
abbrev rm_L_init : Room := { frames := 30, cells := 30, slots := 1800, locals := 600 }
def t_L_init  (P : Option mx_V → mx_F → Prop) : List (Nat × mx_O) := [
  (0, mx_aload 0 1),
  (1, mx_oi 4),
  (4, mx_aload 0 5),
  (5, mx_new 3 1 2 [mx_null, mx_i 0] 30 1800 8),
  (8, mx_dup 9),
  (9, mx_ci0 sp_R_init 1 12 30 1800 12),
  (12, mx_putrF 6 0 15),
  (15, mx_aload 0 16),
  (16, mx_new 5 3 3 [mx_null, mx_null, mx_i 0] 30 1800 19),
  (19, mx_dup 20),
  (20, mx_ci0 sp_W_init 2 421 30 1800 23),
  (23, mx_putrF 6 1 26),
  (26, mx_aload 0 27),
  (27, mx_new 2 6 7 [mx_null, mx_null, mx_null, mx_null, mx_i 0, mx_l 0, mx_i 0] 30 1800 30),
  (30, mx_dup 31),
  (31, mx_aload 0 32),
  (32, mx_get 6 1 35),
  (35, mx_ci1 sp_D_init 3 180 30 1800 38),
  (38, mx_putrF 6 2 41),
  (41, mx_aload 0 42),
  (42, mx_new 0 10 9 [mx_null, mx_null, mx_null, mx_i 0, mx_null, mx_null, mx_i 0, mx_i 0, mx_i 0] 30 1800 45),
  (45, mx_dup 46),
  (46, mx_aload 0 47),
  (47, mx_get 6 1 50),
  (50, mx_ci1 sp_G_init 4 924 30 1800 53),
  (53, mx_putrF 6 3 56),
  (56, mx_aload 0 57),
  (57, mx_new 4 15 6 [mx_null, mx_null, mx_null, mx_null, mx_i 0, mx_i 0] 30 1800 60),
  (60, mx_dup 61),
  (61, mx_aload 0 62),
  (62, mx_get 6 1 65),
  (65, mx_ci1 sp_Q_init 13 170 30 1800 68),
  (68, mx_putrF 6 4 71),
  (71, mx_aload 0 72),
  (72, mx_new 1 29 2 [mx_null, mx_null] 30 1800 75),
  (75, mx_dup 76),
  (76, mx_aload 0 77),
  (77, mx_get 6 1 80),
  (80, mx_ci1 sp_C_init 1 64 30 1800 83),
  (83, mx_putrF 6 5 86),
  (86, mx_ret1 P 30 1800)]
set_option maxRecDepth 20000 in
theorem a_L_init  {p : Program} {l : Launch} {e : Env} {s : State} {m : MethodId} {args : Array Value} {below : List Frame} {meth : Method} {c : Code} {D : va_G} {tc : Nat → ClassId} {tb : Nat → Nat} {sz : Nat} {a0 : Nat → Nat} {G : mx_F} {P : Option mx_V → mx_F → Prop}  (C : mx_C p s m args c c_L_init y_L_init.cls w_L_init D tc tb (mx_A a0 G sz) 1 (mx_Ok1 a0 G)) (hr : meth.sig.returnType = none) (hlk : meth.locks = false) (hin2 : meth.name = "<init>") : mx_all (mx_W p l e rm_L_init s m args below meth c (MQ below (mx_Q1 D tc tb a0 G sz P) args s rm_L_init.cells rm_L_init.slots (mx_A a0 G sz)) D tc tb (mx_A a0 G sz) 1 (mx_Ok1 a0 G)) (t_L_init  P) :=
  ⟨mx_s_aload_n C d_L_init_0 rfl,
  mx_s_oi C (List.mem_cons_of_mem _ (mx_in0 (by decide +kernel) rfl)) (List.mem_cons_of_mem _ (mx_in0 (by decide +kernel) rfl)) (List.mem_cons_of_mem _ (mx_in0 (by decide +kernel) rfl)) d_L_init_1 ⟨by decide, by decide⟩,
  mx_s_aload_n C d_L_init_4 rfl,
  mx_s_new C (fun ad F k q x h h0 => mx_Ok1_up h h0) (fun w h => List.mem_cons_of_mem _ (in_R w h)) ty_R ok_R rfl (List.mem_cons_of_mem _ (mx_in0 (by decide +kernel) rfl)) (List.mem_cons_of_mem _ (mx_in0 (by decide +kernel) rfl)) (List.mem_cons_of_mem _ (mx_in0 (by decide +kernel) rfl)) (fun ad j hj => by rcases (show j = 0 ∨ j = 1 by omega) with rfl | rfl <;> rfl) (by decide) d_L_init_5 ⟨Nat.le_refl _, Nat.le_refl _⟩,
  mx_s_dup C d_L_init_8,
  mx_s_ciN0 C (fun ad ad' F F' h h0 => mx_Ok1_tr h h0) (m_R_init l) rfl rfl ⟨va_cnB 0 C.2.2.2.2.1 (mx_gI (fun w h => List.mem_cons_of_mem _ h) (mx_in0 (by decide +kernel) rfl)) rfl rfl rfl (C.2.2.2.2.2.2.2.1.2.2.1 (Jvm.Cond.methodLinkNest R_L 9 y_R_init "LadderWords") (by decide +kernel)) (C.2.2.2.2.1 (Jvm.Cond.initialized R_R) (List.mem_cons_of_mem _ (mx_in0 (by decide +kernel) rfl))) (by decide +kernel) ⟨by decide, by decide⟩, rfl, C.2.2.2.2.1 (Jvm.Cond.instanceMethod y_R_init) (List.mem_cons_of_mem _ (mx_in0 (by decide +kernel) rfl))⟩ d_L_init_9 ⟨Nat.le_refl _, Nat.le_refl _⟩,
  mx_s_putrF (T := T_L) (N := 6) (k := 0) C hin2 (fun w h => List.mem_cons_of_mem _ (in_L w h)) rfl ty_L ok_L nm_L (by decide) (List.mem_cons_of_mem _ (mx_in0 (by decide +kernel) rfl)) rfl rfl (ok_L 0 (by decide)) (fun _ => rfl) (fun _ => rfl) d_L_init_12,
  mx_s_aload_n C d_L_init_15 rfl,
  mx_s_new C (fun ad F k q x h h0 => mx_Ok1_up h h0) (fun w h => List.mem_cons_of_mem _ (in_W w h)) ty_W ok_W rfl (List.mem_cons_of_mem _ (mx_in0 (by decide +kernel) rfl)) (List.mem_cons_of_mem _ (mx_in0 (by decide +kernel) rfl)) (List.mem_cons_of_mem _ (mx_in0 (by decide +kernel) rfl)) (fun ad j hj => by rcases (show j = 0 ∨ j = 1 ∨ j = 2 by omega) with rfl | rfl | rfl <;> rfl) (by decide) d_L_init_16 ⟨Nat.le_refl _, Nat.le_refl _⟩,
  mx_s_dup C d_L_init_19,
  mx_s_ciN0 C (fun ad ad' F F' h h0 => mx_Ok1_tr h h0) (m_W_init l) rfl rfl ⟨va_cnB 0 C.2.2.2.2.1 (mx_gI (fun w h => List.mem_cons_of_mem _ h) (mx_in0 (by decide +kernel) rfl)) rfl rfl rfl (C.2.2.2.2.2.2.2.1.2.2.1 (Jvm.Cond.methodLinkNest R_L 18 y_W_init "LadderWords") (by decide +kernel)) (C.2.2.2.2.1 (Jvm.Cond.initialized R_W) (List.mem_cons_of_mem _ (mx_in0 (by decide +kernel) rfl))) (by decide +kernel) ⟨by decide, by decide⟩, rfl, C.2.2.2.2.1 (Jvm.Cond.instanceMethod y_W_init) (List.mem_cons_of_mem _ (mx_in0 (by decide +kernel) rfl))⟩ d_L_init_20 ⟨Nat.le_refl _, Nat.le_refl _⟩,
  mx_s_putrF (T := T_L) (N := 6) (k := 1) C hin2 (fun w h => List.mem_cons_of_mem _ (in_L w h)) rfl ty_L ok_L nm_L (by decide) (List.mem_cons_of_mem _ (mx_in0 (by decide +kernel) rfl)) rfl rfl (ok_L 1 (by decide)) (fun _ => rfl) (fun _ => rfl) d_L_init_23,
  mx_s_aload_n C d_L_init_26 rfl,
  mx_s_new C (fun ad F k q x h h0 => mx_Ok1_up h h0) (fun w h => List.mem_cons_of_mem _ (in_D w h)) ty_D ok_D rfl (List.mem_cons_of_mem _ (mx_in0 (by decide +kernel) rfl)) (List.mem_cons_of_mem _ (mx_in0 (by decide +kernel) rfl)) (List.mem_cons_of_mem _ (mx_in0 (by decide +kernel) rfl)) (fun ad j hj => by rcases (show j = 0 ∨ j = 1 ∨ j = 2 ∨ j = 3 ∨ j = 4 ∨ j = 5 ∨ j = 6 by omega) with rfl | rfl | rfl | rfl | rfl | rfl | rfl <;> rfl) (by decide) d_L_init_27 ⟨Nat.le_refl _, Nat.le_refl _⟩,
  mx_s_dup C d_L_init_30,
  mx_s_aload_n C d_L_init_31 rfl,
  mx_s_get (T := T_L) (N := 6) (k := 1) C (fun w h => List.mem_cons_of_mem _ (in_L w h)) rfl (by decide) (List.mem_cons_of_mem _ (mx_in0 (by decide +kernel) rfl)) rfl d_L_init_32,
  mx_s_ci1 C (fun ad ad' F F' h h0 => mx_Ok1_tr h h0) (m_D_init l) rfl rfl (cwI 1 C.2.2.2.2.1 (mx_gI (fun w h => List.mem_cons_of_mem _ h) (mx_in0 (by decide +kernel) rfl)) rfl rfl rfl (C.2.2.2.2.1 (Jvm.Cond.initialized R_D) (List.mem_cons_of_mem _ (mx_in0 (by decide +kernel) rfl))) (C.2.2.2.2.1 (Jvm.Cond.methodLink R_L 25 y_D_init) (List.mem_cons_of_mem _ (mx_in0 (by decide +kernel) rfl))) (C.2.2.2.2.1 (Jvm.Cond.instanceMethod y_D_init) (List.mem_cons_of_mem _ (mx_in0 (by decide +kernel) rfl))) rfl (by decide +kernel) ⟨by decide, by decide⟩) d_L_init_35 ⟨Nat.le_refl _, Nat.le_refl _⟩,
  mx_s_putrF (T := T_L) (N := 6) (k := 2) C hin2 (fun w h => List.mem_cons_of_mem _ (in_L w h)) rfl ty_L ok_L nm_L (by decide) (List.mem_cons_of_mem _ (mx_in0 (by decide +kernel) rfl)) rfl rfl (ok_L 2 (by decide)) (fun _ => rfl) (fun _ => rfl) d_L_init_38,
  mx_s_aload_n C d_L_init_41 rfl,
  mx_s_new C (fun ad F k q x h h0 => mx_Ok1_up h h0) (fun w h => List.mem_cons_of_mem _ (in_G w h)) ty_G ok_G rfl (List.mem_cons_of_mem _ (mx_in0 (by decide +kernel) rfl)) (List.mem_cons_of_mem _ (mx_in0 (by decide +kernel) rfl)) (List.mem_cons_of_mem _ (mx_in0 (by decide +kernel) rfl)) (fun ad j hj => by rcases (show j = 0 ∨ j = 1 ∨ j = 2 ∨ j = 3 ∨ j = 4 ∨ j = 5 ∨ j = 6 ∨ j = 7 ∨ j = 8 by omega) with rfl | rfl | rfl | rfl | rfl | rfl | rfl | rfl | rfl <;> rfl) (by decide) d_L_init_42 ⟨Nat.le_refl _, Nat.le_refl _⟩,
  mx_s_dup C d_L_init_45,
  mx_s_aload_n C d_L_init_46 rfl,
  mx_s_get (T := T_L) (N := 6) (k := 1) C (fun w h => List.mem_cons_of_mem _ (in_L w h)) rfl (by decide) (List.mem_cons_of_mem _ (mx_in0 (by decide +kernel) rfl)) rfl d_L_init_47,
  mx_s_ci1 C (fun ad ad' F F' h h0 => mx_Ok1_tr h h0) (m_G_init l) rfl rfl (cwI 1 C.2.2.2.2.1 (mx_gI (fun w h => List.mem_cons_of_mem _ h) (mx_in0 (by decide +kernel) rfl)) rfl rfl rfl (C.2.2.2.2.1 (Jvm.Cond.initialized R_G) (List.mem_cons_of_mem _ (mx_in0 (by decide +kernel) rfl))) (C.2.2.2.2.1 (Jvm.Cond.methodLink R_L 34 y_G_init) (List.mem_cons_of_mem _ (mx_in0 (by decide +kernel) rfl))) (C.2.2.2.2.1 (Jvm.Cond.instanceMethod y_G_init) (List.mem_cons_of_mem _ (mx_in0 (by decide +kernel) rfl))) rfl (by decide +kernel) ⟨by decide, by decide⟩) d_L_init_50 ⟨Nat.le_refl _, Nat.le_refl _⟩,
  mx_s_putrF (T := T_L) (N := 6) (k := 3) C hin2 (fun w h => List.mem_cons_of_mem _ (in_L w h)) rfl ty_L ok_L nm_L (by decide) (List.mem_cons_of_mem _ (mx_in0 (by decide +kernel) rfl)) rfl rfl (ok_L 3 (by decide)) (fun _ => rfl) (fun _ => rfl) d_L_init_53,
  mx_s_aload_n C d_L_init_56 rfl,
  mx_s_new C (fun ad F k q x h h0 => mx_Ok1_up h h0) (fun w h => List.mem_cons_of_mem _ (in_Q w h)) ty_Q ok_Q rfl (List.mem_cons_of_mem _ (mx_in0 (by decide +kernel) rfl)) (List.mem_cons_of_mem _ (mx_in0 (by decide +kernel) rfl)) (List.mem_cons_of_mem _ (mx_in0 (by decide +kernel) rfl)) (fun ad j hj => by rcases (show j = 0 ∨ j = 1 ∨ j = 2 ∨ j = 3 ∨ j = 4 ∨ j = 5 by omega) with rfl | rfl | rfl | rfl | rfl | rfl <;> rfl) (by decide) d_L_init_57 ⟨Nat.le_refl _, Nat.le_refl _⟩,
  mx_s_dup C d_L_init_60,
  mx_s_aload_n C d_L_init_61 rfl,
  mx_s_get (T := T_L) (N := 6) (k := 1) C (fun w h => List.mem_cons_of_mem _ (in_L w h)) rfl (by decide) (List.mem_cons_of_mem _ (mx_in0 (by decide +kernel) rfl)) rfl d_L_init_62,
  mx_s_ci1 C (fun ad ad' F F' h h0 => mx_Ok1_tr h h0) (m_Q_init l) rfl rfl (cwI 1 C.2.2.2.2.1 (mx_gI (fun w h => List.mem_cons_of_mem _ h) (mx_in0 (by decide +kernel) rfl)) rfl rfl rfl (C.2.2.2.2.1 (Jvm.Cond.initialized R_Q) (List.mem_cons_of_mem _ (mx_in0 (by decide +kernel) rfl))) (C.2.2.2.2.1 (Jvm.Cond.methodLink R_L 41 y_Q_init) (List.mem_cons_of_mem _ (mx_in0 (by decide +kernel) rfl))) (C.2.2.2.2.1 (Jvm.Cond.instanceMethod y_Q_init) (List.mem_cons_of_mem _ (mx_in0 (by decide +kernel) rfl))) rfl (by decide +kernel) ⟨by decide, by decide⟩) d_L_init_65 ⟨Nat.le_refl _, Nat.le_refl _⟩,
  mx_s_putrF (T := T_L) (N := 6) (k := 4) C hin2 (fun w h => List.mem_cons_of_mem _ (in_L w h)) rfl ty_L ok_L nm_L (by decide) (List.mem_cons_of_mem _ (mx_in0 (by decide +kernel) rfl)) rfl rfl (ok_L 4 (by decide)) (fun _ => rfl) (fun _ => rfl) d_L_init_68,
  mx_s_aload_n C d_L_init_71 rfl,
  mx_s_new C (fun ad F k q x h h0 => mx_Ok1_up h h0) (fun w h => List.mem_cons_of_mem _ (in_C w h)) ty_C ok_C rfl (List.mem_cons_of_mem _ (mx_in0 (by decide +kernel) rfl)) (List.mem_cons_of_mem _ (mx_in0 (by decide +kernel) rfl)) (List.mem_cons_of_mem _ (mx_in0 (by decide +kernel) rfl)) (fun ad j hj => by rcases (show j = 0 ∨ j = 1 by omega) with rfl | rfl <;> rfl) (by decide) d_L_init_72 ⟨Nat.le_refl _, Nat.le_refl _⟩,
  mx_s_dup C d_L_init_75,
  mx_s_aload_n C d_L_init_76 rfl,
  mx_s_get (T := T_L) (N := 6) (k := 1) C (fun w h => List.mem_cons_of_mem _ (in_L w h)) rfl (by decide) (List.mem_cons_of_mem _ (mx_in0 (by decide +kernel) rfl)) rfl d_L_init_77,
  mx_s_ci1 C (fun ad ad' F F' h h0 => mx_Ok1_tr h h0) (m_C_init l) rfl rfl (cwI 1 C.2.2.2.2.1 (mx_gI (fun w h => List.mem_cons_of_mem _ h) (mx_in0 (by decide +kernel) rfl)) rfl rfl rfl (C.2.2.2.2.1 (Jvm.Cond.initialized R_C) (List.mem_cons_of_mem _ (mx_in0 (by decide +kernel) rfl))) (C.2.2.2.2.1 (Jvm.Cond.methodLink R_L 48 y_C_init) (List.mem_cons_of_mem _ (mx_in0 (by decide +kernel) rfl))) (C.2.2.2.2.1 (Jvm.Cond.instanceMethod y_C_init) (List.mem_cons_of_mem _ (mx_in0 (by decide +kernel) rfl))) rfl (by decide +kernel) ⟨by decide, by decide⟩) d_L_init_80 ⟨Nat.le_refl _, Nat.le_refl _⟩,
  mx_s_putrF (T := T_L) (N := 6) (k := 5) C hin2 (fun w h => List.mem_cons_of_mem _ (in_L w h)) rfl ty_L ok_L nm_L (by decide) (List.mem_cons_of_mem _ (mx_in0 (by decide +kernel) rfl)) rfl rfl (ok_L 5 (by decide)) (fun _ => rfl) (fun _ => rfl) d_L_init_83,
  mx_s_ret1 C hr hlk d_L_init_86,
  trivial⟩
set_option maxRecDepth 20000 in
set_option maxHeartbeats 2000000 in
theorem m_L_init (l : Launch) : mx_M1 l y_L_init w_L_init rm_L_init sp_L_init := by
  intro D tc tb ad As F P sz0 h
  obtain ⟨rfl, h0, hf, hp⟩ := h
  refine mx_run1 (cc := c_L_init) (maxL := 1) (ret := none) (tab := t_L_init  P) (by decide) rfl D tc tb ad _ F P sz0 (Nat.le_of_ble_eq_true rfl) (fun p e s m args below meth c C hr hlk hnm => a_L_init  C hr hlk (by rw [hnm]; rfl)) ?_
  intro Rr go
  rw [mx_as1 h0]
  have g0 : ∀ k, 1 ≤ k → (mx_put F 0 (mx_ob 6 [mx_null, mx_null, mx_null, mx_null, mx_null, mx_null])) k = none ∧ mx_no k (mx_put F 0 (mx_ob 6 [mx_null, mx_null, mx_null, mx_null, mx_null, mx_null])) := fun k hk => mx_out (hf k hk) (by omega) (mx_noB (n := 1) hk rfl)
  have r0 : (mx_put F 0 (mx_ob 6 [mx_null, mx_null, mx_null, mx_null, mx_null, mx_null])) 0 = some (mx_ob 6 [mx_null, mx_null, mx_null, mx_null, mx_null, mx_null]) := rfl
  generalize mx_put F 0 (mx_ob 6 [mx_null, mx_null, mx_null, mx_null, mx_null, mx_null]) = G0 at g0 r0
  rw [mx_as1 r0]
  refine go rfl ⟨_, rfl, ?_⟩
  refine go rfl ⟨_, _, rfl, rfl, ?_⟩
  refine go rfl ⟨_, rfl, ?_⟩
  refine go rfl ⟨((g0 1 (by decide)).1), (mx_no_put (g0 1 (by decide)).2 (mx_noO rfl)), rfl, rfl, rfl, rfl, ?_⟩
  refine go rfl ⟨_, _, rfl, rfl, ?_⟩
  refine go rfl ⟨_, _, rfl, rfl, rfl, rfl, rfl, rfl, ⟨rfl, rfl, (g0 2 (by decide)).1, mx_no_put (mx_no_put (g0 2 (by decide)).2 (mx_noO rfl)) (mx_noO rfl), ?_⟩⟩
  refine go rfl ⟨_, _, _, _, rfl, rfl, (Nat.le_of_ble_eq_true rfl), ?_⟩
  show Rr 15 _ _ (mx_put (mx_put (mx_put (mx_put (mx_put G0 0 (mx_ob 6 [mx_null, mx_null, mx_null, mx_null, mx_null, mx_null])) 1 (mx_ob 3 [mx_null, mx_i 0])) 2 (mx_ia 12 (fun _ => 0))) 1 (e_R 0)) 0 (mx_ob 6 [mx_r 1, mx_null, mx_null, mx_null, mx_null, mx_null])) _ _
  have g1 : ∀ k, 3 ≤ k → (mx_put (mx_put (mx_put (mx_put (mx_put G0 0 (mx_ob 6 [mx_null, mx_null, mx_null, mx_null, mx_null, mx_null])) 1 (mx_ob 3 [mx_null, mx_i 0])) 2 (mx_ia 12 (fun _ => 0))) 1 (e_R 0)) 0 (mx_ob 6 [mx_r 1, mx_null, mx_null, mx_null, mx_null, mx_null])) k = none ∧ mx_no k (mx_put (mx_put (mx_put (mx_put (mx_put G0 0 (mx_ob 6 [mx_null, mx_null, mx_null, mx_null, mx_null, mx_null])) 1 (mx_ob 3 [mx_null, mx_i 0])) 2 (mx_ia 12 (fun _ => 0))) 1 (e_R 0)) 0 (mx_ob 6 [mx_r 1, mx_null, mx_null, mx_null, mx_null, mx_null])) := by
    intro k hk
    repeat first
      | exact g0 k (by omega)
      | refine mx_out ?_ (by omega) (mx_noB (n := 3) hk rfl)
      | refine mx_out ?_ (by omega) mx_noI
      | refine mx_out ?_ (by omega) mx_noL
  have r0_1 : (mx_put (mx_put (mx_put (mx_put (mx_put G0 0 (mx_ob 6 [mx_null, mx_null, mx_null, mx_null, mx_null, mx_null])) 1 (mx_ob 3 [mx_null, mx_i 0])) 2 (mx_ia 12 (fun _ => 0))) 1 (e_R 0)) 0 (mx_ob 6 [mx_r 1, mx_null, mx_null, mx_null, mx_null, mx_null])) 0 = some (mx_ob 6 [mx_r 1, mx_null, mx_null, mx_null, mx_null, mx_null]) := rfl
  have r1_1 : (mx_put (mx_put (mx_put (mx_put (mx_put G0 0 (mx_ob 6 [mx_null, mx_null, mx_null, mx_null, mx_null, mx_null])) 1 (mx_ob 3 [mx_null, mx_i 0])) 2 (mx_ia 12 (fun _ => 0))) 1 (e_R 0)) 0 (mx_ob 6 [mx_r 1, mx_null, mx_null, mx_null, mx_null, mx_null])) 1 = some ((e_R 0)) := rfl
  have r2_1 : (mx_put (mx_put (mx_put (mx_put (mx_put G0 0 (mx_ob 6 [mx_null, mx_null, mx_null, mx_null, mx_null, mx_null])) 1 (mx_ob 3 [mx_null, mx_i 0])) 2 (mx_ia 12 (fun _ => 0))) 1 (e_R 0)) 0 (mx_ob 6 [mx_r 1, mx_null, mx_null, mx_null, mx_null, mx_null])) 2 = some ((mx_ia 12 (fun _ => 0))) := rfl
  generalize (mx_put (mx_put (mx_put (mx_put (mx_put G0 0 (mx_ob 6 [mx_null, mx_null, mx_null, mx_null, mx_null, mx_null])) 1 (mx_ob 3 [mx_null, mx_i 0])) 2 (mx_ia 12 (fun _ => 0))) 1 (e_R 0)) 0 (mx_ob 6 [mx_r 1, mx_null, mx_null, mx_null, mx_null, mx_null])) = G1 at g1 r0_1 r1_1 r2_1 ⊢
  have r0 := r0_1
  rw [mx_as1 r0]
  refine go rfl ⟨_, rfl, ?_⟩
  refine go rfl ⟨((g1 3 (by decide)).1), (mx_no_put (g1 3 (by decide)).2 (mx_noO rfl)), rfl, rfl, rfl, rfl, ?_⟩
  refine go rfl ⟨_, _, rfl, rfl, ?_⟩
  refine go rfl ⟨_, _, rfl, rfl, rfl, rfl, rfl, rfl, ⟨rfl, rfl, (g1 4 (by decide)).1, mx_no_put (mx_no_put (g1 4 (by decide)).2 (mx_noO rfl)) (mx_noO rfl), (g1 5 (by decide)).1, mx_no_put (mx_no_put (g1 5 (by decide)).2 (mx_noO rfl)) (mx_noO rfl), ?_⟩⟩
  refine go rfl ⟨_, _, _, _, rfl, rfl, (Nat.le_of_ble_eq_true rfl), ?_⟩
  show Rr 26 _ _ (mx_put (mx_put (mx_put (mx_put (mx_put (mx_put G1 0 (mx_ob 6 [mx_r 1, mx_null, mx_null, mx_null, mx_null, mx_null])) 3 (mx_ob 5 [mx_null, mx_null, mx_i 0])) 4 (mx_ia 360 (fun _ => 0))) 5 (mx_ia 61 (fun _ => 0))) 3 (e_W 0)) 0 (mx_ob 6 [mx_r 1, mx_r 3, mx_null, mx_null, mx_null, mx_null])) _ _
  have g2 : ∀ k, 6 ≤ k → (mx_put (mx_put (mx_put (mx_put (mx_put (mx_put G1 0 (mx_ob 6 [mx_r 1, mx_null, mx_null, mx_null, mx_null, mx_null])) 3 (mx_ob 5 [mx_null, mx_null, mx_i 0])) 4 (mx_ia 360 (fun _ => 0))) 5 (mx_ia 61 (fun _ => 0))) 3 (e_W 0)) 0 (mx_ob 6 [mx_r 1, mx_r 3, mx_null, mx_null, mx_null, mx_null])) k = none ∧ mx_no k (mx_put (mx_put (mx_put (mx_put (mx_put (mx_put G1 0 (mx_ob 6 [mx_r 1, mx_null, mx_null, mx_null, mx_null, mx_null])) 3 (mx_ob 5 [mx_null, mx_null, mx_i 0])) 4 (mx_ia 360 (fun _ => 0))) 5 (mx_ia 61 (fun _ => 0))) 3 (e_W 0)) 0 (mx_ob 6 [mx_r 1, mx_r 3, mx_null, mx_null, mx_null, mx_null])) := by
    intro k hk
    repeat first
      | exact g1 k (by omega)
      | refine mx_out ?_ (by omega) (mx_noB (n := 6) hk rfl)
      | refine mx_out ?_ (by omega) mx_noI
      | refine mx_out ?_ (by omega) mx_noL
  have r0_2 : (mx_put (mx_put (mx_put (mx_put (mx_put (mx_put G1 0 (mx_ob 6 [mx_r 1, mx_null, mx_null, mx_null, mx_null, mx_null])) 3 (mx_ob 5 [mx_null, mx_null, mx_i 0])) 4 (mx_ia 360 (fun _ => 0))) 5 (mx_ia 61 (fun _ => 0))) 3 (e_W 0)) 0 (mx_ob 6 [mx_r 1, mx_r 3, mx_null, mx_null, mx_null, mx_null])) 0 = some (mx_ob 6 [mx_r 1, mx_r 3, mx_null, mx_null, mx_null, mx_null]) := rfl
  have r3_2 : (mx_put (mx_put (mx_put (mx_put (mx_put (mx_put G1 0 (mx_ob 6 [mx_r 1, mx_null, mx_null, mx_null, mx_null, mx_null])) 3 (mx_ob 5 [mx_null, mx_null, mx_i 0])) 4 (mx_ia 360 (fun _ => 0))) 5 (mx_ia 61 (fun _ => 0))) 3 (e_W 0)) 0 (mx_ob 6 [mx_r 1, mx_r 3, mx_null, mx_null, mx_null, mx_null])) 3 = some ((e_W 0)) := rfl
  have r4_2 : (mx_put (mx_put (mx_put (mx_put (mx_put (mx_put G1 0 (mx_ob 6 [mx_r 1, mx_null, mx_null, mx_null, mx_null, mx_null])) 3 (mx_ob 5 [mx_null, mx_null, mx_i 0])) 4 (mx_ia 360 (fun _ => 0))) 5 (mx_ia 61 (fun _ => 0))) 3 (e_W 0)) 0 (mx_ob 6 [mx_r 1, mx_r 3, mx_null, mx_null, mx_null, mx_null])) 4 = some ((mx_ia 360 (fun _ => 0))) := rfl
  have r5_2 : (mx_put (mx_put (mx_put (mx_put (mx_put (mx_put G1 0 (mx_ob 6 [mx_r 1, mx_null, mx_null, mx_null, mx_null, mx_null])) 3 (mx_ob 5 [mx_null, mx_null, mx_i 0])) 4 (mx_ia 360 (fun _ => 0))) 5 (mx_ia 61 (fun _ => 0))) 3 (e_W 0)) 0 (mx_ob 6 [mx_r 1, mx_r 3, mx_null, mx_null, mx_null, mx_null])) 5 = some ((mx_ia 61 (fun _ => 0))) := rfl
  have r1_2 : (mx_put (mx_put (mx_put (mx_put (mx_put (mx_put G1 0 (mx_ob 6 [mx_r 1, mx_null, mx_null, mx_null, mx_null, mx_null])) 3 (mx_ob 5 [mx_null, mx_null, mx_i 0])) 4 (mx_ia 360 (fun _ => 0))) 5 (mx_ia 61 (fun _ => 0))) 3 (e_W 0)) 0 (mx_ob 6 [mx_r 1, mx_r 3, mx_null, mx_null, mx_null, mx_null])) 1 = some (e_R 0) := r1_1
  have r2_2 : (mx_put (mx_put (mx_put (mx_put (mx_put (mx_put G1 0 (mx_ob 6 [mx_r 1, mx_null, mx_null, mx_null, mx_null, mx_null])) 3 (mx_ob 5 [mx_null, mx_null, mx_i 0])) 4 (mx_ia 360 (fun _ => 0))) 5 (mx_ia 61 (fun _ => 0))) 3 (e_W 0)) 0 (mx_ob 6 [mx_r 1, mx_r 3, mx_null, mx_null, mx_null, mx_null])) 2 = some (mx_ia 12 (fun _ => 0)) := r2_1
  generalize (mx_put (mx_put (mx_put (mx_put (mx_put (mx_put G1 0 (mx_ob 6 [mx_r 1, mx_null, mx_null, mx_null, mx_null, mx_null])) 3 (mx_ob 5 [mx_null, mx_null, mx_i 0])) 4 (mx_ia 360 (fun _ => 0))) 5 (mx_ia 61 (fun _ => 0))) 3 (e_W 0)) 0 (mx_ob 6 [mx_r 1, mx_r 3, mx_null, mx_null, mx_null, mx_null])) = G2 at g2 r0_2 r1_2 r2_2 r3_2 r4_2 r5_2 ⊢
  have r0 := r0_2
  rw [mx_as1 r0]
  refine go rfl ⟨_, rfl, ?_⟩
  refine go rfl ⟨((g2 6 (by decide)).1), (mx_no_put (g2 6 (by decide)).2 (mx_noO rfl)), rfl, rfl, rfl, rfl, ?_⟩
  refine go rfl ⟨_, _, rfl, rfl, ?_⟩
  refine go rfl ⟨_, rfl, ?_⟩
  refine go rfl ⟨_, _, _, _, rfl, rfl, rfl, ?_⟩
  refine go rfl ⟨_, _, _, rfl, rfl, rfl, rfl, rfl, rfl, ⟨rfl, rfl, (g2 7 (by decide)).1, mx_no_put (mx_no_put (g2 7 (by decide)).2 (mx_noO rfl)) (mx_noO rfl), (g2 8 (by decide)).1, mx_no_put (mx_no_put (g2 8 (by decide)).2 (mx_noO rfl)) (mx_noO rfl), (g2 9 (by decide)).1, mx_no_put (mx_no_put (g2 9 (by decide)).2 (mx_noO rfl)) (mx_noO rfl), ?_⟩⟩
  refine go rfl ⟨_, _, _, _, rfl, rfl, (Nat.le_of_ble_eq_true rfl), ?_⟩
  show Rr 41 _ _ (mx_put (mx_put (mx_put (mx_put (mx_put (mx_put (mx_put G2 0 (mx_ob 6 [mx_r 1, mx_r 3, mx_null, mx_null, mx_null, mx_null])) 6 (mx_ob 2 [mx_null, mx_null, mx_null, mx_null, mx_i 0, mx_l 0, mx_i 0])) 7 (mx_ia 60 (fun _ => 0))) 8 (mx_la 60 (fun _ => 0))) 9 (mx_ia 60 (fun _ => 0))) 6 (e_D 0 0 0)) 0 (mx_ob 6 [mx_r 1, mx_r 3, mx_r 6, mx_null, mx_null, mx_null])) _ _
  have g3 : ∀ k, 10 ≤ k → (mx_put (mx_put (mx_put (mx_put (mx_put (mx_put (mx_put G2 0 (mx_ob 6 [mx_r 1, mx_r 3, mx_null, mx_null, mx_null, mx_null])) 6 (mx_ob 2 [mx_null, mx_null, mx_null, mx_null, mx_i 0, mx_l 0, mx_i 0])) 7 (mx_ia 60 (fun _ => 0))) 8 (mx_la 60 (fun _ => 0))) 9 (mx_ia 60 (fun _ => 0))) 6 (e_D 0 0 0)) 0 (mx_ob 6 [mx_r 1, mx_r 3, mx_r 6, mx_null, mx_null, mx_null])) k = none ∧ mx_no k (mx_put (mx_put (mx_put (mx_put (mx_put (mx_put (mx_put G2 0 (mx_ob 6 [mx_r 1, mx_r 3, mx_null, mx_null, mx_null, mx_null])) 6 (mx_ob 2 [mx_null, mx_null, mx_null, mx_null, mx_i 0, mx_l 0, mx_i 0])) 7 (mx_ia 60 (fun _ => 0))) 8 (mx_la 60 (fun _ => 0))) 9 (mx_ia 60 (fun _ => 0))) 6 (e_D 0 0 0)) 0 (mx_ob 6 [mx_r 1, mx_r 3, mx_r 6, mx_null, mx_null, mx_null])) := by
    intro k hk
    repeat first
      | exact g2 k (by omega)
      | refine mx_out ?_ (by omega) (mx_noB (n := 10) hk rfl)
      | refine mx_out ?_ (by omega) mx_noI
      | refine mx_out ?_ (by omega) mx_noL
  have r0_3 : (mx_put (mx_put (mx_put (mx_put (mx_put (mx_put (mx_put G2 0 (mx_ob 6 [mx_r 1, mx_r 3, mx_null, mx_null, mx_null, mx_null])) 6 (mx_ob 2 [mx_null, mx_null, mx_null, mx_null, mx_i 0, mx_l 0, mx_i 0])) 7 (mx_ia 60 (fun _ => 0))) 8 (mx_la 60 (fun _ => 0))) 9 (mx_ia 60 (fun _ => 0))) 6 (e_D 0 0 0)) 0 (mx_ob 6 [mx_r 1, mx_r 3, mx_r 6, mx_null, mx_null, mx_null])) 0 = some (mx_ob 6 [mx_r 1, mx_r 3, mx_r 6, mx_null, mx_null, mx_null]) := rfl
  have r6_3 : (mx_put (mx_put (mx_put (mx_put (mx_put (mx_put (mx_put G2 0 (mx_ob 6 [mx_r 1, mx_r 3, mx_null, mx_null, mx_null, mx_null])) 6 (mx_ob 2 [mx_null, mx_null, mx_null, mx_null, mx_i 0, mx_l 0, mx_i 0])) 7 (mx_ia 60 (fun _ => 0))) 8 (mx_la 60 (fun _ => 0))) 9 (mx_ia 60 (fun _ => 0))) 6 (e_D 0 0 0)) 0 (mx_ob 6 [mx_r 1, mx_r 3, mx_r 6, mx_null, mx_null, mx_null])) 6 = some ((e_D 0 0 0)) := rfl
  have r7_3 : (mx_put (mx_put (mx_put (mx_put (mx_put (mx_put (mx_put G2 0 (mx_ob 6 [mx_r 1, mx_r 3, mx_null, mx_null, mx_null, mx_null])) 6 (mx_ob 2 [mx_null, mx_null, mx_null, mx_null, mx_i 0, mx_l 0, mx_i 0])) 7 (mx_ia 60 (fun _ => 0))) 8 (mx_la 60 (fun _ => 0))) 9 (mx_ia 60 (fun _ => 0))) 6 (e_D 0 0 0)) 0 (mx_ob 6 [mx_r 1, mx_r 3, mx_r 6, mx_null, mx_null, mx_null])) 7 = some ((mx_ia 60 (fun _ => 0))) := rfl
  have r8_3 : (mx_put (mx_put (mx_put (mx_put (mx_put (mx_put (mx_put G2 0 (mx_ob 6 [mx_r 1, mx_r 3, mx_null, mx_null, mx_null, mx_null])) 6 (mx_ob 2 [mx_null, mx_null, mx_null, mx_null, mx_i 0, mx_l 0, mx_i 0])) 7 (mx_ia 60 (fun _ => 0))) 8 (mx_la 60 (fun _ => 0))) 9 (mx_ia 60 (fun _ => 0))) 6 (e_D 0 0 0)) 0 (mx_ob 6 [mx_r 1, mx_r 3, mx_r 6, mx_null, mx_null, mx_null])) 8 = some ((mx_la 60 (fun _ => 0))) := rfl
  have r9_3 : (mx_put (mx_put (mx_put (mx_put (mx_put (mx_put (mx_put G2 0 (mx_ob 6 [mx_r 1, mx_r 3, mx_null, mx_null, mx_null, mx_null])) 6 (mx_ob 2 [mx_null, mx_null, mx_null, mx_null, mx_i 0, mx_l 0, mx_i 0])) 7 (mx_ia 60 (fun _ => 0))) 8 (mx_la 60 (fun _ => 0))) 9 (mx_ia 60 (fun _ => 0))) 6 (e_D 0 0 0)) 0 (mx_ob 6 [mx_r 1, mx_r 3, mx_r 6, mx_null, mx_null, mx_null])) 9 = some ((mx_ia 60 (fun _ => 0))) := rfl
  have r1_3 : (mx_put (mx_put (mx_put (mx_put (mx_put (mx_put (mx_put G2 0 (mx_ob 6 [mx_r 1, mx_r 3, mx_null, mx_null, mx_null, mx_null])) 6 (mx_ob 2 [mx_null, mx_null, mx_null, mx_null, mx_i 0, mx_l 0, mx_i 0])) 7 (mx_ia 60 (fun _ => 0))) 8 (mx_la 60 (fun _ => 0))) 9 (mx_ia 60 (fun _ => 0))) 6 (e_D 0 0 0)) 0 (mx_ob 6 [mx_r 1, mx_r 3, mx_r 6, mx_null, mx_null, mx_null])) 1 = some (e_R 0) := r1_2
  have r2_3 : (mx_put (mx_put (mx_put (mx_put (mx_put (mx_put (mx_put G2 0 (mx_ob 6 [mx_r 1, mx_r 3, mx_null, mx_null, mx_null, mx_null])) 6 (mx_ob 2 [mx_null, mx_null, mx_null, mx_null, mx_i 0, mx_l 0, mx_i 0])) 7 (mx_ia 60 (fun _ => 0))) 8 (mx_la 60 (fun _ => 0))) 9 (mx_ia 60 (fun _ => 0))) 6 (e_D 0 0 0)) 0 (mx_ob 6 [mx_r 1, mx_r 3, mx_r 6, mx_null, mx_null, mx_null])) 2 = some (mx_ia 12 (fun _ => 0)) := r2_2
  have r3_3 : (mx_put (mx_put (mx_put (mx_put (mx_put (mx_put (mx_put G2 0 (mx_ob 6 [mx_r 1, mx_r 3, mx_null, mx_null, mx_null, mx_null])) 6 (mx_ob 2 [mx_null, mx_null, mx_null, mx_null, mx_i 0, mx_l 0, mx_i 0])) 7 (mx_ia 60 (fun _ => 0))) 8 (mx_la 60 (fun _ => 0))) 9 (mx_ia 60 (fun _ => 0))) 6 (e_D 0 0 0)) 0 (mx_ob 6 [mx_r 1, mx_r 3, mx_r 6, mx_null, mx_null, mx_null])) 3 = some (e_W 0) := r3_2
  have r4_3 : (mx_put (mx_put (mx_put (mx_put (mx_put (mx_put (mx_put G2 0 (mx_ob 6 [mx_r 1, mx_r 3, mx_null, mx_null, mx_null, mx_null])) 6 (mx_ob 2 [mx_null, mx_null, mx_null, mx_null, mx_i 0, mx_l 0, mx_i 0])) 7 (mx_ia 60 (fun _ => 0))) 8 (mx_la 60 (fun _ => 0))) 9 (mx_ia 60 (fun _ => 0))) 6 (e_D 0 0 0)) 0 (mx_ob 6 [mx_r 1, mx_r 3, mx_r 6, mx_null, mx_null, mx_null])) 4 = some (mx_ia 360 (fun _ => 0)) := r4_2
  have r5_3 : (mx_put (mx_put (mx_put (mx_put (mx_put (mx_put (mx_put G2 0 (mx_ob 6 [mx_r 1, mx_r 3, mx_null, mx_null, mx_null, mx_null])) 6 (mx_ob 2 [mx_null, mx_null, mx_null, mx_null, mx_i 0, mx_l 0, mx_i 0])) 7 (mx_ia 60 (fun _ => 0))) 8 (mx_la 60 (fun _ => 0))) 9 (mx_ia 60 (fun _ => 0))) 6 (e_D 0 0 0)) 0 (mx_ob 6 [mx_r 1, mx_r 3, mx_r 6, mx_null, mx_null, mx_null])) 5 = some (mx_ia 61 (fun _ => 0)) := r5_2
  generalize (mx_put (mx_put (mx_put (mx_put (mx_put (mx_put (mx_put G2 0 (mx_ob 6 [mx_r 1, mx_r 3, mx_null, mx_null, mx_null, mx_null])) 6 (mx_ob 2 [mx_null, mx_null, mx_null, mx_null, mx_i 0, mx_l 0, mx_i 0])) 7 (mx_ia 60 (fun _ => 0))) 8 (mx_la 60 (fun _ => 0))) 9 (mx_ia 60 (fun _ => 0))) 6 (e_D 0 0 0)) 0 (mx_ob 6 [mx_r 1, mx_r 3, mx_r 6, mx_null, mx_null, mx_null])) = G3 at g3 r0_3 r1_3 r2_3 r3_3 r4_3 r5_3 r6_3 r7_3 r8_3 r9_3 ⊢
  have r0 := r0_3
  rw [mx_as1 r0]
  refine go rfl ⟨_, rfl, ?_⟩
  refine go rfl ⟨((g3 10 (by decide)).1), (mx_no_put (g3 10 (by decide)).2 (mx_noO rfl)), rfl, rfl, rfl, rfl, ?_⟩
  refine go rfl ⟨_, _, rfl, rfl, ?_⟩
  refine go rfl ⟨_, rfl, ?_⟩
  refine go rfl ⟨_, _, _, _, rfl, rfl, rfl, ?_⟩
  refine go rfl ⟨_, _, _, rfl, rfl, rfl, rfl, rfl, rfl, ⟨rfl, rfl, (g3 11 (by decide)).1, mx_no_put (mx_no_put (g3 11 (by decide)).2 (mx_noO rfl)) (mx_noO rfl), (g3 12 (by decide)).1, mx_no_put (mx_no_put (g3 12 (by decide)).2 (mx_noO rfl)) (mx_noO rfl), (g3 13 (by decide)).1, mx_no_put (mx_no_put (g3 13 (by decide)).2 (mx_noO rfl)) (mx_noO rfl), (g3 14 (by decide)).1, mx_no_put (mx_no_put (g3 14 (by decide)).2 (mx_noO rfl)) (mx_noO rfl), ?_⟩⟩
  refine go rfl ⟨_, _, _, _, rfl, rfl, (Nat.le_of_ble_eq_true rfl), ?_⟩
  show Rr 56 _ _ (mx_put (mx_put (mx_put (mx_put (mx_put (mx_put (mx_put (mx_put G3 0 (mx_ob 6 [mx_r 1, mx_r 3, mx_r 6, mx_null, mx_null, mx_null])) 10 (mx_ob 0 [mx_null, mx_null, mx_null, mx_i 0, mx_null, mx_null, mx_i 0, mx_i 0, mx_i 0])) 11 (mx_ia 60 (fun _ => 0))) 12 (mx_la 60 (fun _ => 0))) 13 (mx_ia 4 (fun _ => 0))) 14 (mx_ia 800 (fun _ => 0))) 10 (e_G 0 0 0 0)) 0 (mx_ob 6 [mx_r 1, mx_r 3, mx_r 6, mx_r 10, mx_null, mx_null])) _ _
  have g4 : ∀ k, 15 ≤ k → (mx_put (mx_put (mx_put (mx_put (mx_put (mx_put (mx_put (mx_put G3 0 (mx_ob 6 [mx_r 1, mx_r 3, mx_r 6, mx_null, mx_null, mx_null])) 10 (mx_ob 0 [mx_null, mx_null, mx_null, mx_i 0, mx_null, mx_null, mx_i 0, mx_i 0, mx_i 0])) 11 (mx_ia 60 (fun _ => 0))) 12 (mx_la 60 (fun _ => 0))) 13 (mx_ia 4 (fun _ => 0))) 14 (mx_ia 800 (fun _ => 0))) 10 (e_G 0 0 0 0)) 0 (mx_ob 6 [mx_r 1, mx_r 3, mx_r 6, mx_r 10, mx_null, mx_null])) k = none ∧ mx_no k (mx_put (mx_put (mx_put (mx_put (mx_put (mx_put (mx_put (mx_put G3 0 (mx_ob 6 [mx_r 1, mx_r 3, mx_r 6, mx_null, mx_null, mx_null])) 10 (mx_ob 0 [mx_null, mx_null, mx_null, mx_i 0, mx_null, mx_null, mx_i 0, mx_i 0, mx_i 0])) 11 (mx_ia 60 (fun _ => 0))) 12 (mx_la 60 (fun _ => 0))) 13 (mx_ia 4 (fun _ => 0))) 14 (mx_ia 800 (fun _ => 0))) 10 (e_G 0 0 0 0)) 0 (mx_ob 6 [mx_r 1, mx_r 3, mx_r 6, mx_r 10, mx_null, mx_null])) := by
    intro k hk
    repeat first
      | exact g3 k (by omega)
      | refine mx_out ?_ (by omega) (mx_noB (n := 15) hk rfl)
      | refine mx_out ?_ (by omega) mx_noI
      | refine mx_out ?_ (by omega) mx_noL
  have r0_4 : (mx_put (mx_put (mx_put (mx_put (mx_put (mx_put (mx_put (mx_put G3 0 (mx_ob 6 [mx_r 1, mx_r 3, mx_r 6, mx_null, mx_null, mx_null])) 10 (mx_ob 0 [mx_null, mx_null, mx_null, mx_i 0, mx_null, mx_null, mx_i 0, mx_i 0, mx_i 0])) 11 (mx_ia 60 (fun _ => 0))) 12 (mx_la 60 (fun _ => 0))) 13 (mx_ia 4 (fun _ => 0))) 14 (mx_ia 800 (fun _ => 0))) 10 (e_G 0 0 0 0)) 0 (mx_ob 6 [mx_r 1, mx_r 3, mx_r 6, mx_r 10, mx_null, mx_null])) 0 = some (mx_ob 6 [mx_r 1, mx_r 3, mx_r 6, mx_r 10, mx_null, mx_null]) := rfl
  have r10_4 : (mx_put (mx_put (mx_put (mx_put (mx_put (mx_put (mx_put (mx_put G3 0 (mx_ob 6 [mx_r 1, mx_r 3, mx_r 6, mx_null, mx_null, mx_null])) 10 (mx_ob 0 [mx_null, mx_null, mx_null, mx_i 0, mx_null, mx_null, mx_i 0, mx_i 0, mx_i 0])) 11 (mx_ia 60 (fun _ => 0))) 12 (mx_la 60 (fun _ => 0))) 13 (mx_ia 4 (fun _ => 0))) 14 (mx_ia 800 (fun _ => 0))) 10 (e_G 0 0 0 0)) 0 (mx_ob 6 [mx_r 1, mx_r 3, mx_r 6, mx_r 10, mx_null, mx_null])) 10 = some ((e_G 0 0 0 0)) := rfl
  have r11_4 : (mx_put (mx_put (mx_put (mx_put (mx_put (mx_put (mx_put (mx_put G3 0 (mx_ob 6 [mx_r 1, mx_r 3, mx_r 6, mx_null, mx_null, mx_null])) 10 (mx_ob 0 [mx_null, mx_null, mx_null, mx_i 0, mx_null, mx_null, mx_i 0, mx_i 0, mx_i 0])) 11 (mx_ia 60 (fun _ => 0))) 12 (mx_la 60 (fun _ => 0))) 13 (mx_ia 4 (fun _ => 0))) 14 (mx_ia 800 (fun _ => 0))) 10 (e_G 0 0 0 0)) 0 (mx_ob 6 [mx_r 1, mx_r 3, mx_r 6, mx_r 10, mx_null, mx_null])) 11 = some ((mx_ia 60 (fun _ => 0))) := rfl
  have r12_4 : (mx_put (mx_put (mx_put (mx_put (mx_put (mx_put (mx_put (mx_put G3 0 (mx_ob 6 [mx_r 1, mx_r 3, mx_r 6, mx_null, mx_null, mx_null])) 10 (mx_ob 0 [mx_null, mx_null, mx_null, mx_i 0, mx_null, mx_null, mx_i 0, mx_i 0, mx_i 0])) 11 (mx_ia 60 (fun _ => 0))) 12 (mx_la 60 (fun _ => 0))) 13 (mx_ia 4 (fun _ => 0))) 14 (mx_ia 800 (fun _ => 0))) 10 (e_G 0 0 0 0)) 0 (mx_ob 6 [mx_r 1, mx_r 3, mx_r 6, mx_r 10, mx_null, mx_null])) 12 = some ((mx_la 60 (fun _ => 0))) := rfl
  have r13_4 : (mx_put (mx_put (mx_put (mx_put (mx_put (mx_put (mx_put (mx_put G3 0 (mx_ob 6 [mx_r 1, mx_r 3, mx_r 6, mx_null, mx_null, mx_null])) 10 (mx_ob 0 [mx_null, mx_null, mx_null, mx_i 0, mx_null, mx_null, mx_i 0, mx_i 0, mx_i 0])) 11 (mx_ia 60 (fun _ => 0))) 12 (mx_la 60 (fun _ => 0))) 13 (mx_ia 4 (fun _ => 0))) 14 (mx_ia 800 (fun _ => 0))) 10 (e_G 0 0 0 0)) 0 (mx_ob 6 [mx_r 1, mx_r 3, mx_r 6, mx_r 10, mx_null, mx_null])) 13 = some ((mx_ia 4 (fun _ => 0))) := rfl
  have r14_4 : (mx_put (mx_put (mx_put (mx_put (mx_put (mx_put (mx_put (mx_put G3 0 (mx_ob 6 [mx_r 1, mx_r 3, mx_r 6, mx_null, mx_null, mx_null])) 10 (mx_ob 0 [mx_null, mx_null, mx_null, mx_i 0, mx_null, mx_null, mx_i 0, mx_i 0, mx_i 0])) 11 (mx_ia 60 (fun _ => 0))) 12 (mx_la 60 (fun _ => 0))) 13 (mx_ia 4 (fun _ => 0))) 14 (mx_ia 800 (fun _ => 0))) 10 (e_G 0 0 0 0)) 0 (mx_ob 6 [mx_r 1, mx_r 3, mx_r 6, mx_r 10, mx_null, mx_null])) 14 = some ((mx_ia 800 (fun _ => 0))) := rfl
  have r1_4 : (mx_put (mx_put (mx_put (mx_put (mx_put (mx_put (mx_put (mx_put G3 0 (mx_ob 6 [mx_r 1, mx_r 3, mx_r 6, mx_null, mx_null, mx_null])) 10 (mx_ob 0 [mx_null, mx_null, mx_null, mx_i 0, mx_null, mx_null, mx_i 0, mx_i 0, mx_i 0])) 11 (mx_ia 60 (fun _ => 0))) 12 (mx_la 60 (fun _ => 0))) 13 (mx_ia 4 (fun _ => 0))) 14 (mx_ia 800 (fun _ => 0))) 10 (e_G 0 0 0 0)) 0 (mx_ob 6 [mx_r 1, mx_r 3, mx_r 6, mx_r 10, mx_null, mx_null])) 1 = some (e_R 0) := r1_3
  have r2_4 : (mx_put (mx_put (mx_put (mx_put (mx_put (mx_put (mx_put (mx_put G3 0 (mx_ob 6 [mx_r 1, mx_r 3, mx_r 6, mx_null, mx_null, mx_null])) 10 (mx_ob 0 [mx_null, mx_null, mx_null, mx_i 0, mx_null, mx_null, mx_i 0, mx_i 0, mx_i 0])) 11 (mx_ia 60 (fun _ => 0))) 12 (mx_la 60 (fun _ => 0))) 13 (mx_ia 4 (fun _ => 0))) 14 (mx_ia 800 (fun _ => 0))) 10 (e_G 0 0 0 0)) 0 (mx_ob 6 [mx_r 1, mx_r 3, mx_r 6, mx_r 10, mx_null, mx_null])) 2 = some (mx_ia 12 (fun _ => 0)) := r2_3
  have r3_4 : (mx_put (mx_put (mx_put (mx_put (mx_put (mx_put (mx_put (mx_put G3 0 (mx_ob 6 [mx_r 1, mx_r 3, mx_r 6, mx_null, mx_null, mx_null])) 10 (mx_ob 0 [mx_null, mx_null, mx_null, mx_i 0, mx_null, mx_null, mx_i 0, mx_i 0, mx_i 0])) 11 (mx_ia 60 (fun _ => 0))) 12 (mx_la 60 (fun _ => 0))) 13 (mx_ia 4 (fun _ => 0))) 14 (mx_ia 800 (fun _ => 0))) 10 (e_G 0 0 0 0)) 0 (mx_ob 6 [mx_r 1, mx_r 3, mx_r 6, mx_r 10, mx_null, mx_null])) 3 = some (e_W 0) := r3_3
  have r4_4 : (mx_put (mx_put (mx_put (mx_put (mx_put (mx_put (mx_put (mx_put G3 0 (mx_ob 6 [mx_r 1, mx_r 3, mx_r 6, mx_null, mx_null, mx_null])) 10 (mx_ob 0 [mx_null, mx_null, mx_null, mx_i 0, mx_null, mx_null, mx_i 0, mx_i 0, mx_i 0])) 11 (mx_ia 60 (fun _ => 0))) 12 (mx_la 60 (fun _ => 0))) 13 (mx_ia 4 (fun _ => 0))) 14 (mx_ia 800 (fun _ => 0))) 10 (e_G 0 0 0 0)) 0 (mx_ob 6 [mx_r 1, mx_r 3, mx_r 6, mx_r 10, mx_null, mx_null])) 4 = some (mx_ia 360 (fun _ => 0)) := r4_3
  have r5_4 : (mx_put (mx_put (mx_put (mx_put (mx_put (mx_put (mx_put (mx_put G3 0 (mx_ob 6 [mx_r 1, mx_r 3, mx_r 6, mx_null, mx_null, mx_null])) 10 (mx_ob 0 [mx_null, mx_null, mx_null, mx_i 0, mx_null, mx_null, mx_i 0, mx_i 0, mx_i 0])) 11 (mx_ia 60 (fun _ => 0))) 12 (mx_la 60 (fun _ => 0))) 13 (mx_ia 4 (fun _ => 0))) 14 (mx_ia 800 (fun _ => 0))) 10 (e_G 0 0 0 0)) 0 (mx_ob 6 [mx_r 1, mx_r 3, mx_r 6, mx_r 10, mx_null, mx_null])) 5 = some (mx_ia 61 (fun _ => 0)) := r5_3
  have r6_4 : (mx_put (mx_put (mx_put (mx_put (mx_put (mx_put (mx_put (mx_put G3 0 (mx_ob 6 [mx_r 1, mx_r 3, mx_r 6, mx_null, mx_null, mx_null])) 10 (mx_ob 0 [mx_null, mx_null, mx_null, mx_i 0, mx_null, mx_null, mx_i 0, mx_i 0, mx_i 0])) 11 (mx_ia 60 (fun _ => 0))) 12 (mx_la 60 (fun _ => 0))) 13 (mx_ia 4 (fun _ => 0))) 14 (mx_ia 800 (fun _ => 0))) 10 (e_G 0 0 0 0)) 0 (mx_ob 6 [mx_r 1, mx_r 3, mx_r 6, mx_r 10, mx_null, mx_null])) 6 = some (e_D 0 0 0) := r6_3
  have r7_4 : (mx_put (mx_put (mx_put (mx_put (mx_put (mx_put (mx_put (mx_put G3 0 (mx_ob 6 [mx_r 1, mx_r 3, mx_r 6, mx_null, mx_null, mx_null])) 10 (mx_ob 0 [mx_null, mx_null, mx_null, mx_i 0, mx_null, mx_null, mx_i 0, mx_i 0, mx_i 0])) 11 (mx_ia 60 (fun _ => 0))) 12 (mx_la 60 (fun _ => 0))) 13 (mx_ia 4 (fun _ => 0))) 14 (mx_ia 800 (fun _ => 0))) 10 (e_G 0 0 0 0)) 0 (mx_ob 6 [mx_r 1, mx_r 3, mx_r 6, mx_r 10, mx_null, mx_null])) 7 = some (mx_ia 60 (fun _ => 0)) := r7_3
  have r8_4 : (mx_put (mx_put (mx_put (mx_put (mx_put (mx_put (mx_put (mx_put G3 0 (mx_ob 6 [mx_r 1, mx_r 3, mx_r 6, mx_null, mx_null, mx_null])) 10 (mx_ob 0 [mx_null, mx_null, mx_null, mx_i 0, mx_null, mx_null, mx_i 0, mx_i 0, mx_i 0])) 11 (mx_ia 60 (fun _ => 0))) 12 (mx_la 60 (fun _ => 0))) 13 (mx_ia 4 (fun _ => 0))) 14 (mx_ia 800 (fun _ => 0))) 10 (e_G 0 0 0 0)) 0 (mx_ob 6 [mx_r 1, mx_r 3, mx_r 6, mx_r 10, mx_null, mx_null])) 8 = some (mx_la 60 (fun _ => 0)) := r8_3
  have r9_4 : (mx_put (mx_put (mx_put (mx_put (mx_put (mx_put (mx_put (mx_put G3 0 (mx_ob 6 [mx_r 1, mx_r 3, mx_r 6, mx_null, mx_null, mx_null])) 10 (mx_ob 0 [mx_null, mx_null, mx_null, mx_i 0, mx_null, mx_null, mx_i 0, mx_i 0, mx_i 0])) 11 (mx_ia 60 (fun _ => 0))) 12 (mx_la 60 (fun _ => 0))) 13 (mx_ia 4 (fun _ => 0))) 14 (mx_ia 800 (fun _ => 0))) 10 (e_G 0 0 0 0)) 0 (mx_ob 6 [mx_r 1, mx_r 3, mx_r 6, mx_r 10, mx_null, mx_null])) 9 = some (mx_ia 60 (fun _ => 0)) := r9_3
  generalize (mx_put (mx_put (mx_put (mx_put (mx_put (mx_put (mx_put (mx_put G3 0 (mx_ob 6 [mx_r 1, mx_r 3, mx_r 6, mx_null, mx_null, mx_null])) 10 (mx_ob 0 [mx_null, mx_null, mx_null, mx_i 0, mx_null, mx_null, mx_i 0, mx_i 0, mx_i 0])) 11 (mx_ia 60 (fun _ => 0))) 12 (mx_la 60 (fun _ => 0))) 13 (mx_ia 4 (fun _ => 0))) 14 (mx_ia 800 (fun _ => 0))) 10 (e_G 0 0 0 0)) 0 (mx_ob 6 [mx_r 1, mx_r 3, mx_r 6, mx_r 10, mx_null, mx_null])) = G4 at g4 r0_4 r1_4 r2_4 r3_4 r4_4 r5_4 r6_4 r7_4 r8_4 r9_4 r10_4 r11_4 r12_4 r13_4 r14_4 ⊢
  have r0 := r0_4
  rw [mx_as1 r0]
  refine go rfl ⟨_, rfl, ?_⟩
  refine go rfl ⟨((g4 15 (by decide)).1), (mx_no_put (g4 15 (by decide)).2 (mx_noO rfl)), rfl, rfl, rfl, rfl, ?_⟩
  refine go rfl ⟨_, _, rfl, rfl, ?_⟩
  refine go rfl ⟨_, rfl, ?_⟩
  refine go rfl ⟨_, _, _, _, rfl, rfl, rfl, ?_⟩
  refine go rfl ⟨_, _, _, rfl, rfl, rfl, rfl, rfl, rfl, ⟨rfl, rfl, fun k hk => mx_out (mx_out (g4 k (by omega)) (by omega) (mx_noB (n := 16) hk rfl)) (by omega) (mx_noB (n := 16) hk rfl), ?_⟩⟩
  refine go rfl ⟨_, _, _, _, rfl, rfl, (Nat.le_of_ble_eq_true rfl), ?_⟩
  show Rr 71 _ _ (mx_put (qw (mx_put (mx_put G4 0 (mx_ob 6 [mx_r 1, mx_r 3, mx_r 6, mx_r 10, mx_null, mx_null])) 15 (mx_ob 4 [mx_null, mx_null, mx_null, mx_null, mx_i 0, mx_i 0]))) 0 (mx_ob 6 [mx_r 1, mx_r 3, mx_r 6, mx_r 10, mx_r 15, mx_null])) _ _
  have g5 : ∀ k, 29 ≤ k → (mx_put (qw (mx_put (mx_put G4 0 (mx_ob 6 [mx_r 1, mx_r 3, mx_r 6, mx_r 10, mx_null, mx_null])) 15 (mx_ob 4 [mx_null, mx_null, mx_null, mx_null, mx_i 0, mx_i 0]))) 0 (mx_ob 6 [mx_r 1, mx_r 3, mx_r 6, mx_r 10, mx_r 15, mx_null])) k = none ∧ mx_no k (mx_put (qw (mx_put (mx_put G4 0 (mx_ob 6 [mx_r 1, mx_r 3, mx_r 6, mx_r 10, mx_null, mx_null])) 15 (mx_ob 4 [mx_null, mx_null, mx_null, mx_null, mx_i 0, mx_i 0]))) 0 (mx_ob 6 [mx_r 1, mx_r 3, mx_r 6, mx_r 10, mx_r 15, mx_null])) := by
    intro k hk
    repeat first
      | exact g4 k (by omega)
      | refine mx_out ?_ (by omega) (mx_noB (n := 29) hk rfl)
      | refine mx_out ?_ (by omega) mx_noI
      | refine mx_out ?_ (by omega) mx_noL
      | refine mx_out ?_ (by omega) (mx_noQ (fun i z => by have := qh_lt z; omega))
      | refine mx_out ?_ (by omega) (mx_noQ (fun i z => by have := qo_lt z; omega))
  have r0_5 : (mx_put (qw (mx_put (mx_put G4 0 (mx_ob 6 [mx_r 1, mx_r 3, mx_r 6, mx_r 10, mx_null, mx_null])) 15 (mx_ob 4 [mx_null, mx_null, mx_null, mx_null, mx_i 0, mx_i 0]))) 0 (mx_ob 6 [mx_r 1, mx_r 3, mx_r 6, mx_r 10, mx_r 15, mx_null])) 0 = some (mx_ob 6 [mx_r 1, mx_r 3, mx_r 6, mx_r 10, mx_r 15, mx_null]) := rfl
  have r15_5 : (mx_put (qw (mx_put (mx_put G4 0 (mx_ob 6 [mx_r 1, mx_r 3, mx_r 6, mx_r 10, mx_null, mx_null])) 15 (mx_ob 4 [mx_null, mx_null, mx_null, mx_null, mx_i 0, mx_i 0]))) 0 (mx_ob 6 [mx_r 1, mx_r 3, mx_r 6, mx_r 10, mx_r 15, mx_null])) 15 = some ((e_Q 0 0)) := rfl
  have r16_5 : (mx_put (qw (mx_put (mx_put G4 0 (mx_ob 6 [mx_r 1, mx_r 3, mx_r 6, mx_r 10, mx_null, mx_null])) 15 (mx_ob 4 [mx_null, mx_null, mx_null, mx_null, mx_i 0, mx_i 0]))) 0 (mx_ob 6 [mx_r 1, mx_r 3, mx_r 6, mx_r 10, mx_r 15, mx_null])) 16 = some ((mx_qa 2 5 qh)) := rfl
  have r17_5 : (mx_put (qw (mx_put (mx_put G4 0 (mx_ob 6 [mx_r 1, mx_r 3, mx_r 6, mx_r 10, mx_null, mx_null])) 15 (mx_ob 4 [mx_null, mx_null, mx_null, mx_null, mx_i 0, mx_i 0]))) 0 (mx_ob 6 [mx_r 1, mx_r 3, mx_r 6, mx_r 10, mx_r 15, mx_null])) 17 = some ((mx_qa 2 5 qo)) := rfl
  have r18_5 : (mx_put (qw (mx_put (mx_put G4 0 (mx_ob 6 [mx_r 1, mx_r 3, mx_r 6, mx_r 10, mx_null, mx_null])) 15 (mx_ob 4 [mx_null, mx_null, mx_null, mx_null, mx_i 0, mx_i 0]))) 0 (mx_ob 6 [mx_r 1, mx_r 3, mx_r 6, mx_r 10, mx_r 15, mx_null])) 18 = some ((mx_ia 5 (fun _ => 0))) := rfl
  have r19_5 : (mx_put (qw (mx_put (mx_put G4 0 (mx_ob 6 [mx_r 1, mx_r 3, mx_r 6, mx_r 10, mx_null, mx_null])) 15 (mx_ob 4 [mx_null, mx_null, mx_null, mx_null, mx_i 0, mx_i 0]))) 0 (mx_ob 6 [mx_r 1, mx_r 3, mx_r 6, mx_r 10, mx_r 15, mx_null])) 19 = some ((mx_la 26 (fun _ => 0))) := rfl
  have r20_5 : (mx_put (qw (mx_put (mx_put G4 0 (mx_ob 6 [mx_r 1, mx_r 3, mx_r 6, mx_r 10, mx_null, mx_null])) 15 (mx_ob 4 [mx_null, mx_null, mx_null, mx_null, mx_i 0, mx_i 0]))) 0 (mx_ob 6 [mx_r 1, mx_r 3, mx_r 6, mx_r 10, mx_r 15, mx_null])) 20 = some ((mx_la 26 (fun _ => 0))) := rfl
  have r21_5 : (mx_put (qw (mx_put (mx_put G4 0 (mx_ob 6 [mx_r 1, mx_r 3, mx_r 6, mx_r 10, mx_null, mx_null])) 15 (mx_ob 4 [mx_null, mx_null, mx_null, mx_null, mx_i 0, mx_i 0]))) 0 (mx_ob 6 [mx_r 1, mx_r 3, mx_r 6, mx_r 10, mx_r 15, mx_null])) 21 = some ((mx_la 26 (fun _ => 0))) := rfl
  have r22_5 : (mx_put (qw (mx_put (mx_put G4 0 (mx_ob 6 [mx_r 1, mx_r 3, mx_r 6, mx_r 10, mx_null, mx_null])) 15 (mx_ob 4 [mx_null, mx_null, mx_null, mx_null, mx_i 0, mx_i 0]))) 0 (mx_ob 6 [mx_r 1, mx_r 3, mx_r 6, mx_r 10, mx_r 15, mx_null])) 22 = some ((mx_la 26 (fun _ => 0))) := rfl
  have r23_5 : (mx_put (qw (mx_put (mx_put G4 0 (mx_ob 6 [mx_r 1, mx_r 3, mx_r 6, mx_r 10, mx_null, mx_null])) 15 (mx_ob 4 [mx_null, mx_null, mx_null, mx_null, mx_i 0, mx_i 0]))) 0 (mx_ob 6 [mx_r 1, mx_r 3, mx_r 6, mx_r 10, mx_r 15, mx_null])) 23 = some ((mx_la 26 (fun _ => 0))) := rfl
  have r24_5 : (mx_put (qw (mx_put (mx_put G4 0 (mx_ob 6 [mx_r 1, mx_r 3, mx_r 6, mx_r 10, mx_null, mx_null])) 15 (mx_ob 4 [mx_null, mx_null, mx_null, mx_null, mx_i 0, mx_i 0]))) 0 (mx_ob 6 [mx_r 1, mx_r 3, mx_r 6, mx_r 10, mx_r 15, mx_null])) 24 = some ((mx_la 5 (fun _ => 0))) := rfl
  have r25_5 : (mx_put (qw (mx_put (mx_put G4 0 (mx_ob 6 [mx_r 1, mx_r 3, mx_r 6, mx_r 10, mx_null, mx_null])) 15 (mx_ob 4 [mx_null, mx_null, mx_null, mx_null, mx_i 0, mx_i 0]))) 0 (mx_ob 6 [mx_r 1, mx_r 3, mx_r 6, mx_r 10, mx_r 15, mx_null])) 25 = some ((mx_la 5 (fun _ => 0))) := rfl
  have r26_5 : (mx_put (qw (mx_put (mx_put G4 0 (mx_ob 6 [mx_r 1, mx_r 3, mx_r 6, mx_r 10, mx_null, mx_null])) 15 (mx_ob 4 [mx_null, mx_null, mx_null, mx_null, mx_i 0, mx_i 0]))) 0 (mx_ob 6 [mx_r 1, mx_r 3, mx_r 6, mx_r 10, mx_r 15, mx_null])) 26 = some ((mx_la 5 (fun _ => 0))) := rfl
  have r27_5 : (mx_put (qw (mx_put (mx_put G4 0 (mx_ob 6 [mx_r 1, mx_r 3, mx_r 6, mx_r 10, mx_null, mx_null])) 15 (mx_ob 4 [mx_null, mx_null, mx_null, mx_null, mx_i 0, mx_i 0]))) 0 (mx_ob 6 [mx_r 1, mx_r 3, mx_r 6, mx_r 10, mx_r 15, mx_null])) 27 = some ((mx_la 5 (fun _ => 0))) := rfl
  have r28_5 : (mx_put (qw (mx_put (mx_put G4 0 (mx_ob 6 [mx_r 1, mx_r 3, mx_r 6, mx_r 10, mx_null, mx_null])) 15 (mx_ob 4 [mx_null, mx_null, mx_null, mx_null, mx_i 0, mx_i 0]))) 0 (mx_ob 6 [mx_r 1, mx_r 3, mx_r 6, mx_r 10, mx_r 15, mx_null])) 28 = some ((mx_la 5 (fun _ => 0))) := rfl
  have r1_5 : (mx_put (qw (mx_put (mx_put G4 0 (mx_ob 6 [mx_r 1, mx_r 3, mx_r 6, mx_r 10, mx_null, mx_null])) 15 (mx_ob 4 [mx_null, mx_null, mx_null, mx_null, mx_i 0, mx_i 0]))) 0 (mx_ob 6 [mx_r 1, mx_r 3, mx_r 6, mx_r 10, mx_r 15, mx_null])) 1 = some (e_R 0) := r1_4
  have r2_5 : (mx_put (qw (mx_put (mx_put G4 0 (mx_ob 6 [mx_r 1, mx_r 3, mx_r 6, mx_r 10, mx_null, mx_null])) 15 (mx_ob 4 [mx_null, mx_null, mx_null, mx_null, mx_i 0, mx_i 0]))) 0 (mx_ob 6 [mx_r 1, mx_r 3, mx_r 6, mx_r 10, mx_r 15, mx_null])) 2 = some (mx_ia 12 (fun _ => 0)) := r2_4
  have r3_5 : (mx_put (qw (mx_put (mx_put G4 0 (mx_ob 6 [mx_r 1, mx_r 3, mx_r 6, mx_r 10, mx_null, mx_null])) 15 (mx_ob 4 [mx_null, mx_null, mx_null, mx_null, mx_i 0, mx_i 0]))) 0 (mx_ob 6 [mx_r 1, mx_r 3, mx_r 6, mx_r 10, mx_r 15, mx_null])) 3 = some (e_W 0) := r3_4
  have r4_5 : (mx_put (qw (mx_put (mx_put G4 0 (mx_ob 6 [mx_r 1, mx_r 3, mx_r 6, mx_r 10, mx_null, mx_null])) 15 (mx_ob 4 [mx_null, mx_null, mx_null, mx_null, mx_i 0, mx_i 0]))) 0 (mx_ob 6 [mx_r 1, mx_r 3, mx_r 6, mx_r 10, mx_r 15, mx_null])) 4 = some (mx_ia 360 (fun _ => 0)) := r4_4
  have r5_5 : (mx_put (qw (mx_put (mx_put G4 0 (mx_ob 6 [mx_r 1, mx_r 3, mx_r 6, mx_r 10, mx_null, mx_null])) 15 (mx_ob 4 [mx_null, mx_null, mx_null, mx_null, mx_i 0, mx_i 0]))) 0 (mx_ob 6 [mx_r 1, mx_r 3, mx_r 6, mx_r 10, mx_r 15, mx_null])) 5 = some (mx_ia 61 (fun _ => 0)) := r5_4
  have r6_5 : (mx_put (qw (mx_put (mx_put G4 0 (mx_ob 6 [mx_r 1, mx_r 3, mx_r 6, mx_r 10, mx_null, mx_null])) 15 (mx_ob 4 [mx_null, mx_null, mx_null, mx_null, mx_i 0, mx_i 0]))) 0 (mx_ob 6 [mx_r 1, mx_r 3, mx_r 6, mx_r 10, mx_r 15, mx_null])) 6 = some (e_D 0 0 0) := r6_4
  have r7_5 : (mx_put (qw (mx_put (mx_put G4 0 (mx_ob 6 [mx_r 1, mx_r 3, mx_r 6, mx_r 10, mx_null, mx_null])) 15 (mx_ob 4 [mx_null, mx_null, mx_null, mx_null, mx_i 0, mx_i 0]))) 0 (mx_ob 6 [mx_r 1, mx_r 3, mx_r 6, mx_r 10, mx_r 15, mx_null])) 7 = some (mx_ia 60 (fun _ => 0)) := r7_4
  have r8_5 : (mx_put (qw (mx_put (mx_put G4 0 (mx_ob 6 [mx_r 1, mx_r 3, mx_r 6, mx_r 10, mx_null, mx_null])) 15 (mx_ob 4 [mx_null, mx_null, mx_null, mx_null, mx_i 0, mx_i 0]))) 0 (mx_ob 6 [mx_r 1, mx_r 3, mx_r 6, mx_r 10, mx_r 15, mx_null])) 8 = some (mx_la 60 (fun _ => 0)) := r8_4
  have r9_5 : (mx_put (qw (mx_put (mx_put G4 0 (mx_ob 6 [mx_r 1, mx_r 3, mx_r 6, mx_r 10, mx_null, mx_null])) 15 (mx_ob 4 [mx_null, mx_null, mx_null, mx_null, mx_i 0, mx_i 0]))) 0 (mx_ob 6 [mx_r 1, mx_r 3, mx_r 6, mx_r 10, mx_r 15, mx_null])) 9 = some (mx_ia 60 (fun _ => 0)) := r9_4
  have r10_5 : (mx_put (qw (mx_put (mx_put G4 0 (mx_ob 6 [mx_r 1, mx_r 3, mx_r 6, mx_r 10, mx_null, mx_null])) 15 (mx_ob 4 [mx_null, mx_null, mx_null, mx_null, mx_i 0, mx_i 0]))) 0 (mx_ob 6 [mx_r 1, mx_r 3, mx_r 6, mx_r 10, mx_r 15, mx_null])) 10 = some (e_G 0 0 0 0) := r10_4
  have r11_5 : (mx_put (qw (mx_put (mx_put G4 0 (mx_ob 6 [mx_r 1, mx_r 3, mx_r 6, mx_r 10, mx_null, mx_null])) 15 (mx_ob 4 [mx_null, mx_null, mx_null, mx_null, mx_i 0, mx_i 0]))) 0 (mx_ob 6 [mx_r 1, mx_r 3, mx_r 6, mx_r 10, mx_r 15, mx_null])) 11 = some (mx_ia 60 (fun _ => 0)) := r11_4
  have r12_5 : (mx_put (qw (mx_put (mx_put G4 0 (mx_ob 6 [mx_r 1, mx_r 3, mx_r 6, mx_r 10, mx_null, mx_null])) 15 (mx_ob 4 [mx_null, mx_null, mx_null, mx_null, mx_i 0, mx_i 0]))) 0 (mx_ob 6 [mx_r 1, mx_r 3, mx_r 6, mx_r 10, mx_r 15, mx_null])) 12 = some (mx_la 60 (fun _ => 0)) := r12_4
  have r13_5 : (mx_put (qw (mx_put (mx_put G4 0 (mx_ob 6 [mx_r 1, mx_r 3, mx_r 6, mx_r 10, mx_null, mx_null])) 15 (mx_ob 4 [mx_null, mx_null, mx_null, mx_null, mx_i 0, mx_i 0]))) 0 (mx_ob 6 [mx_r 1, mx_r 3, mx_r 6, mx_r 10, mx_r 15, mx_null])) 13 = some (mx_ia 4 (fun _ => 0)) := r13_4
  have r14_5 : (mx_put (qw (mx_put (mx_put G4 0 (mx_ob 6 [mx_r 1, mx_r 3, mx_r 6, mx_r 10, mx_null, mx_null])) 15 (mx_ob 4 [mx_null, mx_null, mx_null, mx_null, mx_i 0, mx_i 0]))) 0 (mx_ob 6 [mx_r 1, mx_r 3, mx_r 6, mx_r 10, mx_r 15, mx_null])) 14 = some (mx_ia 800 (fun _ => 0)) := r14_4
  generalize (mx_put (qw (mx_put (mx_put G4 0 (mx_ob 6 [mx_r 1, mx_r 3, mx_r 6, mx_r 10, mx_null, mx_null])) 15 (mx_ob 4 [mx_null, mx_null, mx_null, mx_null, mx_i 0, mx_i 0]))) 0 (mx_ob 6 [mx_r 1, mx_r 3, mx_r 6, mx_r 10, mx_r 15, mx_null])) = G5 at g5 r0_5 r1_5 r2_5 r3_5 r4_5 r5_5 r6_5 r7_5 r8_5 r9_5 r10_5 r11_5 r12_5 r13_5 r14_5 r15_5 r16_5 r17_5 r18_5 r19_5 r20_5 r21_5 r22_5 r23_5 r24_5 r25_5 r26_5 r27_5 r28_5 ⊢
  have r0 := r0_5
  rw [mx_as1 r0]
  refine go rfl ⟨_, rfl, ?_⟩
  refine go rfl ⟨((g5 29 (by decide)).1), (mx_no_put (g5 29 (by decide)).2 (mx_noO rfl)), rfl, rfl, rfl, rfl, ?_⟩
  refine go rfl ⟨_, _, rfl, rfl, ?_⟩
  refine go rfl ⟨_, rfl, ?_⟩
  refine go rfl ⟨_, _, _, _, rfl, rfl, rfl, ?_⟩
  refine go rfl ⟨_, _, _, rfl, rfl, rfl, rfl, rfl, rfl, ⟨rfl, rfl, (g5 30 (by decide)).1, mx_no_put (mx_no_put (g5 30 (by decide)).2 (mx_noO rfl)) (mx_noO rfl), ?_⟩⟩
  refine go rfl ⟨_, _, _, _, rfl, rfl, (Nat.le_of_ble_eq_true rfl), ?_⟩
  show Rr 86 _ _ (mx_put (mx_put (mx_put (mx_put (mx_put G5 0 (mx_ob 6 [mx_r 1, mx_r 3, mx_r 6, mx_r 10, mx_r 15, mx_null])) 29 (mx_ob 1 [mx_null, mx_null])) 30 (mx_ia 64 (fun _ => 0))) 29 e_C) 0 (mx_ob 6 [mx_r 1, mx_r 3, mx_r 6, mx_r 10, mx_r 15, mx_r 29])) _ _
  have g6 : ∀ k, 31 ≤ k → (mx_put (mx_put (mx_put (mx_put (mx_put G5 0 (mx_ob 6 [mx_r 1, mx_r 3, mx_r 6, mx_r 10, mx_r 15, mx_null])) 29 (mx_ob 1 [mx_null, mx_null])) 30 (mx_ia 64 (fun _ => 0))) 29 e_C) 0 (mx_ob 6 [mx_r 1, mx_r 3, mx_r 6, mx_r 10, mx_r 15, mx_r 29])) k = none ∧ mx_no k (mx_put (mx_put (mx_put (mx_put (mx_put G5 0 (mx_ob 6 [mx_r 1, mx_r 3, mx_r 6, mx_r 10, mx_r 15, mx_null])) 29 (mx_ob 1 [mx_null, mx_null])) 30 (mx_ia 64 (fun _ => 0))) 29 e_C) 0 (mx_ob 6 [mx_r 1, mx_r 3, mx_r 6, mx_r 10, mx_r 15, mx_r 29])) := by
    intro k hk
    repeat first
      | exact g5 k (by omega)
      | refine mx_out ?_ (by omega) (mx_noB (n := 31) hk rfl)
      | refine mx_out ?_ (by omega) mx_noI
      | refine mx_out ?_ (by omega) mx_noL
  have r0_6 : (mx_put (mx_put (mx_put (mx_put (mx_put G5 0 (mx_ob 6 [mx_r 1, mx_r 3, mx_r 6, mx_r 10, mx_r 15, mx_null])) 29 (mx_ob 1 [mx_null, mx_null])) 30 (mx_ia 64 (fun _ => 0))) 29 e_C) 0 (mx_ob 6 [mx_r 1, mx_r 3, mx_r 6, mx_r 10, mx_r 15, mx_r 29])) 0 = some (mx_ob 6 [mx_r 1, mx_r 3, mx_r 6, mx_r 10, mx_r 15, mx_r 29]) := rfl
  have r29_6 : (mx_put (mx_put (mx_put (mx_put (mx_put G5 0 (mx_ob 6 [mx_r 1, mx_r 3, mx_r 6, mx_r 10, mx_r 15, mx_null])) 29 (mx_ob 1 [mx_null, mx_null])) 30 (mx_ia 64 (fun _ => 0))) 29 e_C) 0 (mx_ob 6 [mx_r 1, mx_r 3, mx_r 6, mx_r 10, mx_r 15, mx_r 29])) 29 = some (e_C) := rfl
  have r30_6 : (mx_put (mx_put (mx_put (mx_put (mx_put G5 0 (mx_ob 6 [mx_r 1, mx_r 3, mx_r 6, mx_r 10, mx_r 15, mx_null])) 29 (mx_ob 1 [mx_null, mx_null])) 30 (mx_ia 64 (fun _ => 0))) 29 e_C) 0 (mx_ob 6 [mx_r 1, mx_r 3, mx_r 6, mx_r 10, mx_r 15, mx_r 29])) 30 = some ((mx_ia 64 (fun _ => 0))) := rfl
  have r1_6 : (mx_put (mx_put (mx_put (mx_put (mx_put G5 0 (mx_ob 6 [mx_r 1, mx_r 3, mx_r 6, mx_r 10, mx_r 15, mx_null])) 29 (mx_ob 1 [mx_null, mx_null])) 30 (mx_ia 64 (fun _ => 0))) 29 e_C) 0 (mx_ob 6 [mx_r 1, mx_r 3, mx_r 6, mx_r 10, mx_r 15, mx_r 29])) 1 = some (e_R 0) := r1_5
  have r2_6 : (mx_put (mx_put (mx_put (mx_put (mx_put G5 0 (mx_ob 6 [mx_r 1, mx_r 3, mx_r 6, mx_r 10, mx_r 15, mx_null])) 29 (mx_ob 1 [mx_null, mx_null])) 30 (mx_ia 64 (fun _ => 0))) 29 e_C) 0 (mx_ob 6 [mx_r 1, mx_r 3, mx_r 6, mx_r 10, mx_r 15, mx_r 29])) 2 = some (mx_ia 12 (fun _ => 0)) := r2_5
  have r3_6 : (mx_put (mx_put (mx_put (mx_put (mx_put G5 0 (mx_ob 6 [mx_r 1, mx_r 3, mx_r 6, mx_r 10, mx_r 15, mx_null])) 29 (mx_ob 1 [mx_null, mx_null])) 30 (mx_ia 64 (fun _ => 0))) 29 e_C) 0 (mx_ob 6 [mx_r 1, mx_r 3, mx_r 6, mx_r 10, mx_r 15, mx_r 29])) 3 = some (e_W 0) := r3_5
  have r4_6 : (mx_put (mx_put (mx_put (mx_put (mx_put G5 0 (mx_ob 6 [mx_r 1, mx_r 3, mx_r 6, mx_r 10, mx_r 15, mx_null])) 29 (mx_ob 1 [mx_null, mx_null])) 30 (mx_ia 64 (fun _ => 0))) 29 e_C) 0 (mx_ob 6 [mx_r 1, mx_r 3, mx_r 6, mx_r 10, mx_r 15, mx_r 29])) 4 = some (mx_ia 360 (fun _ => 0)) := r4_5
  have r5_6 : (mx_put (mx_put (mx_put (mx_put (mx_put G5 0 (mx_ob 6 [mx_r 1, mx_r 3, mx_r 6, mx_r 10, mx_r 15, mx_null])) 29 (mx_ob 1 [mx_null, mx_null])) 30 (mx_ia 64 (fun _ => 0))) 29 e_C) 0 (mx_ob 6 [mx_r 1, mx_r 3, mx_r 6, mx_r 10, mx_r 15, mx_r 29])) 5 = some (mx_ia 61 (fun _ => 0)) := r5_5
  have r6_6 : (mx_put (mx_put (mx_put (mx_put (mx_put G5 0 (mx_ob 6 [mx_r 1, mx_r 3, mx_r 6, mx_r 10, mx_r 15, mx_null])) 29 (mx_ob 1 [mx_null, mx_null])) 30 (mx_ia 64 (fun _ => 0))) 29 e_C) 0 (mx_ob 6 [mx_r 1, mx_r 3, mx_r 6, mx_r 10, mx_r 15, mx_r 29])) 6 = some (e_D 0 0 0) := r6_5
  have r7_6 : (mx_put (mx_put (mx_put (mx_put (mx_put G5 0 (mx_ob 6 [mx_r 1, mx_r 3, mx_r 6, mx_r 10, mx_r 15, mx_null])) 29 (mx_ob 1 [mx_null, mx_null])) 30 (mx_ia 64 (fun _ => 0))) 29 e_C) 0 (mx_ob 6 [mx_r 1, mx_r 3, mx_r 6, mx_r 10, mx_r 15, mx_r 29])) 7 = some (mx_ia 60 (fun _ => 0)) := r7_5
  have r8_6 : (mx_put (mx_put (mx_put (mx_put (mx_put G5 0 (mx_ob 6 [mx_r 1, mx_r 3, mx_r 6, mx_r 10, mx_r 15, mx_null])) 29 (mx_ob 1 [mx_null, mx_null])) 30 (mx_ia 64 (fun _ => 0))) 29 e_C) 0 (mx_ob 6 [mx_r 1, mx_r 3, mx_r 6, mx_r 10, mx_r 15, mx_r 29])) 8 = some (mx_la 60 (fun _ => 0)) := r8_5
  have r9_6 : (mx_put (mx_put (mx_put (mx_put (mx_put G5 0 (mx_ob 6 [mx_r 1, mx_r 3, mx_r 6, mx_r 10, mx_r 15, mx_null])) 29 (mx_ob 1 [mx_null, mx_null])) 30 (mx_ia 64 (fun _ => 0))) 29 e_C) 0 (mx_ob 6 [mx_r 1, mx_r 3, mx_r 6, mx_r 10, mx_r 15, mx_r 29])) 9 = some (mx_ia 60 (fun _ => 0)) := r9_5
  have r10_6 : (mx_put (mx_put (mx_put (mx_put (mx_put G5 0 (mx_ob 6 [mx_r 1, mx_r 3, mx_r 6, mx_r 10, mx_r 15, mx_null])) 29 (mx_ob 1 [mx_null, mx_null])) 30 (mx_ia 64 (fun _ => 0))) 29 e_C) 0 (mx_ob 6 [mx_r 1, mx_r 3, mx_r 6, mx_r 10, mx_r 15, mx_r 29])) 10 = some (e_G 0 0 0 0) := r10_5
  have r11_6 : (mx_put (mx_put (mx_put (mx_put (mx_put G5 0 (mx_ob 6 [mx_r 1, mx_r 3, mx_r 6, mx_r 10, mx_r 15, mx_null])) 29 (mx_ob 1 [mx_null, mx_null])) 30 (mx_ia 64 (fun _ => 0))) 29 e_C) 0 (mx_ob 6 [mx_r 1, mx_r 3, mx_r 6, mx_r 10, mx_r 15, mx_r 29])) 11 = some (mx_ia 60 (fun _ => 0)) := r11_5
  have r12_6 : (mx_put (mx_put (mx_put (mx_put (mx_put G5 0 (mx_ob 6 [mx_r 1, mx_r 3, mx_r 6, mx_r 10, mx_r 15, mx_null])) 29 (mx_ob 1 [mx_null, mx_null])) 30 (mx_ia 64 (fun _ => 0))) 29 e_C) 0 (mx_ob 6 [mx_r 1, mx_r 3, mx_r 6, mx_r 10, mx_r 15, mx_r 29])) 12 = some (mx_la 60 (fun _ => 0)) := r12_5
  have r13_6 : (mx_put (mx_put (mx_put (mx_put (mx_put G5 0 (mx_ob 6 [mx_r 1, mx_r 3, mx_r 6, mx_r 10, mx_r 15, mx_null])) 29 (mx_ob 1 [mx_null, mx_null])) 30 (mx_ia 64 (fun _ => 0))) 29 e_C) 0 (mx_ob 6 [mx_r 1, mx_r 3, mx_r 6, mx_r 10, mx_r 15, mx_r 29])) 13 = some (mx_ia 4 (fun _ => 0)) := r13_5
  have r14_6 : (mx_put (mx_put (mx_put (mx_put (mx_put G5 0 (mx_ob 6 [mx_r 1, mx_r 3, mx_r 6, mx_r 10, mx_r 15, mx_null])) 29 (mx_ob 1 [mx_null, mx_null])) 30 (mx_ia 64 (fun _ => 0))) 29 e_C) 0 (mx_ob 6 [mx_r 1, mx_r 3, mx_r 6, mx_r 10, mx_r 15, mx_r 29])) 14 = some (mx_ia 800 (fun _ => 0)) := r14_5
  have r15_6 : (mx_put (mx_put (mx_put (mx_put (mx_put G5 0 (mx_ob 6 [mx_r 1, mx_r 3, mx_r 6, mx_r 10, mx_r 15, mx_null])) 29 (mx_ob 1 [mx_null, mx_null])) 30 (mx_ia 64 (fun _ => 0))) 29 e_C) 0 (mx_ob 6 [mx_r 1, mx_r 3, mx_r 6, mx_r 10, mx_r 15, mx_r 29])) 15 = some (e_Q 0 0) := r15_5
  have r16_6 : (mx_put (mx_put (mx_put (mx_put (mx_put G5 0 (mx_ob 6 [mx_r 1, mx_r 3, mx_r 6, mx_r 10, mx_r 15, mx_null])) 29 (mx_ob 1 [mx_null, mx_null])) 30 (mx_ia 64 (fun _ => 0))) 29 e_C) 0 (mx_ob 6 [mx_r 1, mx_r 3, mx_r 6, mx_r 10, mx_r 15, mx_r 29])) 16 = some (mx_qa 2 5 qh) := r16_5
  have r17_6 : (mx_put (mx_put (mx_put (mx_put (mx_put G5 0 (mx_ob 6 [mx_r 1, mx_r 3, mx_r 6, mx_r 10, mx_r 15, mx_null])) 29 (mx_ob 1 [mx_null, mx_null])) 30 (mx_ia 64 (fun _ => 0))) 29 e_C) 0 (mx_ob 6 [mx_r 1, mx_r 3, mx_r 6, mx_r 10, mx_r 15, mx_r 29])) 17 = some (mx_qa 2 5 qo) := r17_5
  have r18_6 : (mx_put (mx_put (mx_put (mx_put (mx_put G5 0 (mx_ob 6 [mx_r 1, mx_r 3, mx_r 6, mx_r 10, mx_r 15, mx_null])) 29 (mx_ob 1 [mx_null, mx_null])) 30 (mx_ia 64 (fun _ => 0))) 29 e_C) 0 (mx_ob 6 [mx_r 1, mx_r 3, mx_r 6, mx_r 10, mx_r 15, mx_r 29])) 18 = some (mx_ia 5 (fun _ => 0)) := r18_5
  have r19_6 : (mx_put (mx_put (mx_put (mx_put (mx_put G5 0 (mx_ob 6 [mx_r 1, mx_r 3, mx_r 6, mx_r 10, mx_r 15, mx_null])) 29 (mx_ob 1 [mx_null, mx_null])) 30 (mx_ia 64 (fun _ => 0))) 29 e_C) 0 (mx_ob 6 [mx_r 1, mx_r 3, mx_r 6, mx_r 10, mx_r 15, mx_r 29])) 19 = some (mx_la 26 (fun _ => 0)) := r19_5
  have r20_6 : (mx_put (mx_put (mx_put (mx_put (mx_put G5 0 (mx_ob 6 [mx_r 1, mx_r 3, mx_r 6, mx_r 10, mx_r 15, mx_null])) 29 (mx_ob 1 [mx_null, mx_null])) 30 (mx_ia 64 (fun _ => 0))) 29 e_C) 0 (mx_ob 6 [mx_r 1, mx_r 3, mx_r 6, mx_r 10, mx_r 15, mx_r 29])) 20 = some (mx_la 26 (fun _ => 0)) := r20_5
  have r21_6 : (mx_put (mx_put (mx_put (mx_put (mx_put G5 0 (mx_ob 6 [mx_r 1, mx_r 3, mx_r 6, mx_r 10, mx_r 15, mx_null])) 29 (mx_ob 1 [mx_null, mx_null])) 30 (mx_ia 64 (fun _ => 0))) 29 e_C) 0 (mx_ob 6 [mx_r 1, mx_r 3, mx_r 6, mx_r 10, mx_r 15, mx_r 29])) 21 = some (mx_la 26 (fun _ => 0)) := r21_5
  have r22_6 : (mx_put (mx_put (mx_put (mx_put (mx_put G5 0 (mx_ob 6 [mx_r 1, mx_r 3, mx_r 6, mx_r 10, mx_r 15, mx_null])) 29 (mx_ob 1 [mx_null, mx_null])) 30 (mx_ia 64 (fun _ => 0))) 29 e_C) 0 (mx_ob 6 [mx_r 1, mx_r 3, mx_r 6, mx_r 10, mx_r 15, mx_r 29])) 22 = some (mx_la 26 (fun _ => 0)) := r22_5
  have r23_6 : (mx_put (mx_put (mx_put (mx_put (mx_put G5 0 (mx_ob 6 [mx_r 1, mx_r 3, mx_r 6, mx_r 10, mx_r 15, mx_null])) 29 (mx_ob 1 [mx_null, mx_null])) 30 (mx_ia 64 (fun _ => 0))) 29 e_C) 0 (mx_ob 6 [mx_r 1, mx_r 3, mx_r 6, mx_r 10, mx_r 15, mx_r 29])) 23 = some (mx_la 26 (fun _ => 0)) := r23_5
  have r24_6 : (mx_put (mx_put (mx_put (mx_put (mx_put G5 0 (mx_ob 6 [mx_r 1, mx_r 3, mx_r 6, mx_r 10, mx_r 15, mx_null])) 29 (mx_ob 1 [mx_null, mx_null])) 30 (mx_ia 64 (fun _ => 0))) 29 e_C) 0 (mx_ob 6 [mx_r 1, mx_r 3, mx_r 6, mx_r 10, mx_r 15, mx_r 29])) 24 = some (mx_la 5 (fun _ => 0)) := r24_5
  have r25_6 : (mx_put (mx_put (mx_put (mx_put (mx_put G5 0 (mx_ob 6 [mx_r 1, mx_r 3, mx_r 6, mx_r 10, mx_r 15, mx_null])) 29 (mx_ob 1 [mx_null, mx_null])) 30 (mx_ia 64 (fun _ => 0))) 29 e_C) 0 (mx_ob 6 [mx_r 1, mx_r 3, mx_r 6, mx_r 10, mx_r 15, mx_r 29])) 25 = some (mx_la 5 (fun _ => 0)) := r25_5
  have r26_6 : (mx_put (mx_put (mx_put (mx_put (mx_put G5 0 (mx_ob 6 [mx_r 1, mx_r 3, mx_r 6, mx_r 10, mx_r 15, mx_null])) 29 (mx_ob 1 [mx_null, mx_null])) 30 (mx_ia 64 (fun _ => 0))) 29 e_C) 0 (mx_ob 6 [mx_r 1, mx_r 3, mx_r 6, mx_r 10, mx_r 15, mx_r 29])) 26 = some (mx_la 5 (fun _ => 0)) := r26_5
  have r27_6 : (mx_put (mx_put (mx_put (mx_put (mx_put G5 0 (mx_ob 6 [mx_r 1, mx_r 3, mx_r 6, mx_r 10, mx_r 15, mx_null])) 29 (mx_ob 1 [mx_null, mx_null])) 30 (mx_ia 64 (fun _ => 0))) 29 e_C) 0 (mx_ob 6 [mx_r 1, mx_r 3, mx_r 6, mx_r 10, mx_r 15, mx_r 29])) 27 = some (mx_la 5 (fun _ => 0)) := r27_5
  have r28_6 : (mx_put (mx_put (mx_put (mx_put (mx_put G5 0 (mx_ob 6 [mx_r 1, mx_r 3, mx_r 6, mx_r 10, mx_r 15, mx_null])) 29 (mx_ob 1 [mx_null, mx_null])) 30 (mx_ia 64 (fun _ => 0))) 29 e_C) 0 (mx_ob 6 [mx_r 1, mx_r 3, mx_r 6, mx_r 10, mx_r 15, mx_r 29])) 28 = some (mx_la 5 (fun _ => 0)) := r28_5
  generalize (mx_put (mx_put (mx_put (mx_put (mx_put G5 0 (mx_ob 6 [mx_r 1, mx_r 3, mx_r 6, mx_r 10, mx_r 15, mx_null])) 29 (mx_ob 1 [mx_null, mx_null])) 30 (mx_ia 64 (fun _ => 0))) 29 e_C) 0 (mx_ob 6 [mx_r 1, mx_r 3, mx_r 6, mx_r 10, mx_r 15, mx_r 29])) = G6 at g6 r0_6 r1_6 r2_6 r3_6 r4_6 r5_6 r6_6 r7_6 r8_6 r9_6 r10_6 r11_6 r12_6 r13_6 r14_6 r15_6 r16_6 r17_6 r18_6 r19_6 r20_6 r21_6 r22_6 r23_6 r24_6 r25_6 r26_6 r27_6 r28_6 r29_6 r30_6 ⊢
  have r0 := r0_6
  rw [mx_as1 r0]
  refine go rfl ⟨rfl, rfl, rfl, ?_⟩
  rw [← mx_as1 r0]
  exact hp _ ⟨r0, r1_6, r2_6, r3_6, r4_6, r5_6, r6_6, r7_6, r8_6, r9_6, r10_6, r11_6, r12_6, r13_6, r14_6, r15_6, r16_6, r17_6, r18_6, r19_6, r20_6, r21_6, r22_6, r23_6, r24_6, r25_6, r26_6, r27_6, r28_6, r29_6, r30_6⟩ g6
end
section
def R_law : String := "LadderWordsLaw"
def lw_P (b : Addr) (xs : List Int32) (args : Array Value) (s : State) : Prop := args = #[.ref b] ∧ s.IntsAt b xs ∧ xs.length ≤ 5 ∧ (Jvm.Cond.and given_1 narrow_1).before args s = true
def lw_Q (_ : Array Value) (s : State) (o : Outcome) (t : State) : Prop := o = .returned (some (.int 1)) ∧ Framed s o t [] 600000 7302250
def lw_Z (below : List Frame) (a : Array Value) (s : State) : State → Prop := fun t => ∃ o, t.status = .running ∧ Ended t below o ∧ lw_Q a s o t
/-- the law's own end, with 1 on the stack, nothing written that was there before, its room as the claim has it -/
theorem lw_ret {p : Program} {l : Launch} {e : Env} {s : State} {m : MethodId} {below : List Frame} {meth : Method} {c : Code} {b : Nat} (hx : p.tables.exec = Jvm.exec) (hb : c.code = code) (hr : meth.sig.returnType = ret) (hlocks : meth.locks = false) {pc : Nat} {H : Heap} {ls : Array Slot} (hdg : decode code pc = .ok (.ireturn, 1)) : W p l e room_1 s m #[Value.ref b] below meth c H [] 600000 7302250 (lw_Z below #[Value.ref b] s) (F0 m pc ls [.int 1]) := by
  intro T hT X
  obtain ⟨fs, hret, hrun, hended, hW, hframe⟩ := X.leave (v := some (.int 1)) (hlocks := hlocks) (fun h => by rw [hr] at h; cases h)
  have hmeth' : T.vm.method? m = some meth := X.method'
  refine ⟨T.setFrames fs, ?_, .returned (some (.int 1)), hrun, hended, rfl, ⟨_, rfl⟩, hW, hframe⟩
  jvm_step X.here [X.here.top, hx, hb, hdg, hmeth', hr, ret, narrow_b1]
  (try refine ⟨rfl, ?_⟩); (try refine ⟨rfl, ?_⟩)
  first | (intro acts; rw [hret _ acts rfl rfl rfl]) | rw [hret _ _ rfl rfl rfl]
  exact Steps.refl _
/-- what holds at the law's entry: the machine, the code, the tables' words (any of lw_tbl by 'hts w (by decide +kernel)'), the script of L ints xs at the cell b, what the Statement gives of the start (any of its parts by flat_of_before) -/
def lw_At (p : Program) (s : State) (m : MethodId) (meth : Method) (c : Code) (b L : Nat) (xs : Nat → Int32) : Prop :=
  p.tables.exec = Jvm.exec ∧ c.code = code ∧ meth.sig.returnType = ret ∧ c.maxLocals = 4 ∧ s.vm.findClass R_law = some m.cls ∧ (∀ w ∈ lw_tbl, w.before #[Value.ref b] s = true) ∧ va_X b L xs s s.heap ∧ b < s.heap.size ∧ meth.locks = false ∧ (Jvm.Cond.and given_1 narrow_1).before #[Value.ref b] s = true
end
section
/-! THE LAW: its own steps, its table -/
def mx_aloadT (i nx : Nat) : mx_O := fun lv st F ca sl K => ∃ t : Nat, lv[i]? = some (some (.inr (.inr (.inr t)))) ∧ K nx lv (.inr (.inr (.inr t)) :: st) F ca sl
def mx_slen (L nx : Nat) : mx_O := fun lv st F ca sl K => ∃ r : mx_S, st = mx_tb 9 :: r ∧ K nx lv (.inl (nI L) :: r) F ca sl
def mx_sld (L : Nat) (xs : Nat → Int32) (nx : Nat) : mx_O := fun lv st F ca sl K => ∃ (i : Int32) (r : mx_S), st = .inl i :: mx_tb 9 :: r ∧ vp_in i L ∧ K nx lv (.inl (xs i.toNatClampNeg) :: r) F ca sl
def law_tg (k : Nat) : Nat := match k with
  | 0 => 112
  | 1 => 135
  | 2 => 148
  | 3 => 181
  | 4 => 224
  | 5 => 247
  | 6 => 261
  | 7 => 284
  | 8 => 317
  | 9 => 340
  | 10 => 363
  | 11 => 416
  | 12 => 469
  | 13 => 502
  | 14 => 525
  | _ => 558
def mx_tsw (tg : Nat → Nat) : mx_O := fun lv st F ca sl K => ∃ (k : Nat) (r : mx_S), st = .inl (nI k) :: r ∧ k < 16 ∧ K (tg k) lv r F ca sl
def mx_law : mx_O := fun _ st _ ca sl _ => st = [.inl (nI 1)] ∧ Nat.ble ca 600000 = true ∧ Nat.ble sl 7302250 = true
section MXL
variable {p : Program} {l : Launch} {e : Env} {R : Room} {s : State} {m : MethodId} {args : Array Value} {below : List Frame} {meth : Method} {c : Code} {Q : State → Prop} {cc : ByteArray} {own : String} {Ts : List Cond} {D : va_G} {tc : Nat → ClassId} {tb : Nat → Nat} {A : Nat → Prop} {nL : Nat} {Ok : (Nat → Nat) → mx_F → Prop} {pc : Nat}
theorem mx_s_aloadT (C : mx_C p s m args c cc own Ts D tc tb A nL Ok) {k : Fin 4} {i : Nat} (hd : decode cc pc = .ok (.aload_n k, 1)) (hi : (k : Nat) = i) : mx_So (mx_W p l e R s m args below meth c Q D tc tb A nL Ok) pc (mx_aloadT i (pc + 1)) := by
  obtain ⟨hx, hb, hml, hown, hts, hK, hA, hZ, hOk⟩ := C
  intro lv st F ca sl h
  obtain ⟨t, hv, h⟩ := h
  intro ad H locs ls h1 hP hD hS hl
  exact lv_aload_n hx hb hd hi (hl.at hv) (h ad H locs ls h1 hP hD hS hl)
theorem mx_s_slen (C : mx_C p s m args c cc own Ts D tc tb A nL Ok) {L : Nat} {xs : Nat → Int32} (hX : va_X (tb 9) L xs s s.heap) (hbl : tb 9 < s.heap.size) (hbA : ¬ A (tb 9)) (hd : decode cc pc = .ok (.arraylength, 1)) : mx_So (mx_W p l e R s m args below meth c Q D tc tb A nL Ok) pc (mx_slen L (pc + 1)) := by
  obtain ⟨hx, hb, hml, hown, hts, hK, hA, hZ, hOk⟩ := C
  intro lv st F ca sl h
  obtain ⟨r, rfl, h⟩ := h
  intro ad H locs ls h1 hP hD hS hl
  exact va_slen hx hb hX hbl hbA hS hd (h ad H locs ls h1 hP hD hS hl)
theorem mx_s_sld (C : mx_C p s m args c cc own Ts D tc tb A nL Ok) {L : Nat} {xs : Nat → Int32} (hX : va_X (tb 9) L xs s s.heap) (hbl : tb 9 < s.heap.size) (hbA : ¬ A (tb 9)) (hd : decode cc pc = .ok (.iaload, 1)) : mx_So (mx_W p l e R s m args below meth c Q D tc tb A nL Ok) pc (mx_sld L xs (pc + 1)) := by
  obtain ⟨hx, hb, hml, hown, hts, hK, hA, hZ, hOk⟩ := C
  intro lv st F ca sl h
  obtain ⟨i, r, rfl, hin, h⟩ := h
  intro ad H locs ls h1 hP hD hS hl
  exact va_sld hx hb hX hbl hbA hS hin hd (h ad H locs ls h1 hP hD hS hl)
theorem mx_s_tsw (C : mx_C p s m args c cc own Ts D tc tb A nL Ok) (hd : decode cc 32 = .ok (.tableswitch 537 0 15 #[80, 103, 116, 149, 192, 215, 229, 252, 285, 308, 331, 384, 437, 470, 493, 526], 80)) : mx_So (mx_W p l e R s m args below meth c Q D tc tb A nL Ok) 32 (mx_tsw law_tg) := by
  obtain ⟨hx, hb, hml, hown, hts, hK, hA, hZ, hOk⟩ := C
  intro lv st F ca sl h
  obtain ⟨k, r, rfl, hk, h⟩ := h
  intro ad H locs ls h1 hP hD hS hl
  have h := h ad H locs ls h1 hP hD hS hl
  rcases (show k = 0 ∨ k = 1 ∨ k = 2 ∨ k = 3 ∨ k = 4 ∨ k = 5 ∨ k = 6 ∨ k = 7 ∨ k = 8 ∨ k = 9 ∨ k = 10 ∨ k = 11 ∨ k = 12 ∨ k = 13 ∨ k = 14 ∨ k = 15 by omega) with rfl | rfl | rfl | rfl | rfl | rfl | rfl | rfl | rfl | rfl | rfl | rfl | rfl | rfl | rfl | rfl
  · exact lv_tableIn (x := nI 0) (off := 80) (tgt := 112) hx hb hd (by decide) (by decide) (by decide) (by decide) h
  · exact lv_tableIn (x := nI 1) (off := 103) (tgt := 135) hx hb hd (by decide) (by decide) (by decide) (by decide) h
  · exact lv_tableIn (x := nI 2) (off := 116) (tgt := 148) hx hb hd (by decide) (by decide) (by decide) (by decide) h
  · exact lv_tableIn (x := nI 3) (off := 149) (tgt := 181) hx hb hd (by decide) (by decide) (by decide) (by decide) h
  · exact lv_tableIn (x := nI 4) (off := 192) (tgt := 224) hx hb hd (by decide) (by decide) (by decide) (by decide) h
  · exact lv_tableIn (x := nI 5) (off := 215) (tgt := 247) hx hb hd (by decide) (by decide) (by decide) (by decide) h
  · exact lv_tableIn (x := nI 6) (off := 229) (tgt := 261) hx hb hd (by decide) (by decide) (by decide) (by decide) h
  · exact lv_tableIn (x := nI 7) (off := 252) (tgt := 284) hx hb hd (by decide) (by decide) (by decide) (by decide) h
  · exact lv_tableIn (x := nI 8) (off := 285) (tgt := 317) hx hb hd (by decide) (by decide) (by decide) (by decide) h
  · exact lv_tableIn (x := nI 9) (off := 308) (tgt := 340) hx hb hd (by decide) (by decide) (by decide) (by decide) h
  · exact lv_tableIn (x := nI 10) (off := 331) (tgt := 363) hx hb hd (by decide) (by decide) (by decide) (by decide) h
  · exact lv_tableIn (x := nI 11) (off := 384) (tgt := 416) hx hb hd (by decide) (by decide) (by decide) (by decide) h
  · exact lv_tableIn (x := nI 12) (off := 437) (tgt := 469) hx hb hd (by decide) (by decide) (by decide) (by decide) h
  · exact lv_tableIn (x := nI 13) (off := 470) (tgt := 502) hx hb hd (by decide) (by decide) (by decide) (by decide) h
  · exact lv_tableIn (x := nI 14) (off := 493) (tgt := 525) hx hb hd (by decide) (by decide) (by decide) (by decide) h
  · exact lv_tableIn (x := nI 15) (off := 526) (tgt := 558) hx hb hd (by decide) (by decide) (by decide) (by decide) h
theorem mx_s_law {b : Nat} {tb : Nat → Nat} (C : mx_C p s m #[Value.ref b] c code own Ts D tc tb (fun q => s.heap.size ≤ q) nL Ok) (hr : meth.sig.returnType = ret) (hlk : meth.locks = false) (hd : decode code pc = .ok (.ireturn, 1)) : mx_So (mx_W p l e room_1 s m #[Value.ref b] below meth c (lw_Z below #[Value.ref b] s) D tc tb (fun q => s.heap.size ≤ q) nL Ok) pc mx_law := by
  obtain ⟨hx, hb, hml, hown, hts, hK, hA, hZ, hOk⟩ := C
  intro lv st F ca sl h
  obtain ⟨rfl, g1, g2⟩ := h
  intro ad H locs ls h1 hP hD hS hl
  refine va_forget (fun q hq => hS.2.2 q hq) ?_
  refine W.widen (k := 600000) (n := 7302250) (Nat.le_of_ble_eq_true g1) (Nat.le_of_ble_eq_true g2) ?_
  exact lw_ret hx hb hr hlk hd
end MXL
theorem d_law_0 : decode code 0 = .ok (.new 7, 3) := by decide +kernel
theorem d_law_3 : decode code 3 = .ok (.dup, 1) := by decide +kernel
theorem d_law_4 : decode code 4 = .ok (.invokespecial 9, 3) := by decide +kernel
theorem d_law_7 : decode code 7 = .ok (.astore_n 1, 1) := by decide +kernel
theorem d_law_8 : decode code 8 = .ok (.new 10, 3) := by decide +kernel
theorem d_law_11 : decode code 11 = .ok (.dup, 1) := by decide +kernel
theorem d_law_12 : decode code 12 = .ok (.invokespecial 12, 3) := by decide +kernel
theorem d_law_15 : decode code 15 = .ok (.astore_n 2, 1) := by decide +kernel
theorem d_law_16 : decode code 16 = .ok (.iconst 0, 1) := by decide +kernel
theorem d_law_17 : decode code 17 = .ok (.istore_n 3, 1) := by decide +kernel
theorem d_law_18 : decode code 18 = .ok (.iload_n 3, 1) := by decide +kernel
theorem d_law_19 : decode code 19 = .ok (.aload_n 0, 1) := by decide +kernel
theorem d_law_20 : decode code 20 = .ok (.arraylength, 1) := by decide +kernel
theorem d_law_21 : decode code 21 = .ok (.iconst 5, 1) := by decide +kernel
theorem d_law_22 : decode code 22 = .ok (.isub, 1) := by decide +kernel
theorem d_law_23 : decode code 23 = .ok (.if_icmp .gt 552, 3) := by decide +kernel
theorem d_law_26 : decode code 26 = .ok (.aload_n 0, 1) := by decide +kernel
theorem d_law_27 : decode code 27 = .ok (.iload_n 3, 1) := by decide +kernel
theorem d_law_28 : decode code 28 = .ok (.iaload, 1) := by decide +kernel
theorem d_law_29 : decode code 29 = .ok (.bipush 15, 2) := by decide +kernel
theorem d_law_31 : decode code 31 = .ok (.iand, 1) := by decide +kernel
theorem d_law_32 : decode code 32 = .ok (.tableswitch 537 0 15 #[80, 103, 116, 149, 192, 215, 229, 252, 285, 308, 331, 384, 437, 470, 493, 526], 80) := by decide +kernel
theorem d_law_112 : decode code 112 = .ok (.aload_n 1, 1) := by decide +kernel
theorem d_law_113 : decode code 113 = .ok (.aload_n 0, 1) := by decide +kernel
theorem d_law_114 : decode code 114 = .ok (.iload_n 3, 1) := by decide +kernel
theorem d_law_115 : decode code 115 = .ok (.iconst 1, 1) := by decide +kernel
theorem d_law_116 : decode code 116 = .ok (.iadd, 1) := by decide +kernel
theorem d_law_117 : decode code 117 = .ok (.iaload, 1) := by decide +kernel
theorem d_law_118 : decode code 118 = .ok (.invokevirtual 13, 3) := by decide +kernel
theorem d_law_121 : decode code 121 = .ok (.aload_n 2, 1) := by decide +kernel
theorem d_law_122 : decode code 122 = .ok (.aload_n 0, 1) := by decide +kernel
theorem d_law_123 : decode code 123 = .ok (.iload_n 3, 1) := by decide +kernel
theorem d_law_124 : decode code 124 = .ok (.iconst 1, 1) := by decide +kernel
theorem d_law_125 : decode code 125 = .ok (.iadd, 1) := by decide +kernel
theorem d_law_126 : decode code 126 = .ok (.iaload, 1) := by decide +kernel
theorem d_law_127 : decode code 127 = .ok (.invokevirtual 17, 3) := by decide +kernel
theorem d_law_130 : decode code 130 = .ok (.if_icmp .eq 439, 3) := by decide +kernel
theorem d_law_135 : decode code 135 = .ok (.aload_n 1, 1) := by decide +kernel
theorem d_law_136 : decode code 136 = .ok (.invokevirtual 18, 3) := by decide +kernel
theorem d_law_139 : decode code 139 = .ok (.aload_n 2, 1) := by decide +kernel
theorem d_law_140 : decode code 140 = .ok (.invokevirtual 22, 3) := by decide +kernel
theorem d_law_143 : decode code 143 = .ok (.if_icmp .eq 426, 3) := by decide +kernel
theorem d_law_148 : decode code 148 = .ok (.aload_n 1, 1) := by decide +kernel
theorem d_law_149 : decode code 149 = .ok (.aload_n 0, 1) := by decide +kernel
theorem d_law_150 : decode code 150 = .ok (.iload_n 3, 1) := by decide +kernel
theorem d_law_151 : decode code 151 = .ok (.iconst 1, 1) := by decide +kernel
theorem d_law_152 : decode code 152 = .ok (.iadd, 1) := by decide +kernel
theorem d_law_153 : decode code 153 = .ok (.iaload, 1) := by decide +kernel
theorem d_law_154 : decode code 154 = .ok (.aload_n 0, 1) := by decide +kernel
theorem d_law_155 : decode code 155 = .ok (.iload_n 3, 1) := by decide +kernel
theorem d_law_156 : decode code 156 = .ok (.iconst 2, 1) := by decide +kernel
theorem d_law_157 : decode code 157 = .ok (.iadd, 1) := by decide +kernel
theorem d_law_158 : decode code 158 = .ok (.iaload, 1) := by decide +kernel
theorem d_law_159 : decode code 159 = .ok (.invokevirtual 23, 3) := by decide +kernel
theorem d_law_162 : decode code 162 = .ok (.aload_n 2, 1) := by decide +kernel
theorem d_law_163 : decode code 163 = .ok (.aload_n 0, 1) := by decide +kernel
theorem d_law_164 : decode code 164 = .ok (.iload_n 3, 1) := by decide +kernel
theorem d_law_165 : decode code 165 = .ok (.iconst 1, 1) := by decide +kernel
theorem d_law_166 : decode code 166 = .ok (.iadd, 1) := by decide +kernel
theorem d_law_167 : decode code 167 = .ok (.iaload, 1) := by decide +kernel
theorem d_law_168 : decode code 168 = .ok (.aload_n 0, 1) := by decide +kernel
theorem d_law_169 : decode code 169 = .ok (.iload_n 3, 1) := by decide +kernel
theorem d_law_170 : decode code 170 = .ok (.iconst 2, 1) := by decide +kernel
theorem d_law_171 : decode code 171 = .ok (.iadd, 1) := by decide +kernel
theorem d_law_172 : decode code 172 = .ok (.iaload, 1) := by decide +kernel
theorem d_law_173 : decode code 173 = .ok (.invokevirtual 27, 3) := by decide +kernel
theorem d_law_176 : decode code 176 = .ok (.if_icmp .eq 393, 3) := by decide +kernel
theorem d_law_181 : decode code 181 = .ok (.aload_n 1, 1) := by decide +kernel
theorem d_law_182 : decode code 182 = .ok (.aload_n 0, 1) := by decide +kernel
theorem d_law_183 : decode code 183 = .ok (.iload_n 3, 1) := by decide +kernel
theorem d_law_184 : decode code 184 = .ok (.iconst 1, 1) := by decide +kernel
theorem d_law_185 : decode code 185 = .ok (.iadd, 1) := by decide +kernel
theorem d_law_186 : decode code 186 = .ok (.iaload, 1) := by decide +kernel
theorem d_law_187 : decode code 187 = .ok (.aload_n 0, 1) := by decide +kernel
theorem d_law_188 : decode code 188 = .ok (.iload_n 3, 1) := by decide +kernel
theorem d_law_189 : decode code 189 = .ok (.iconst 2, 1) := by decide +kernel
theorem d_law_190 : decode code 190 = .ok (.iadd, 1) := by decide +kernel
theorem d_law_191 : decode code 191 = .ok (.iaload, 1) := by decide +kernel
theorem d_law_192 : decode code 192 = .ok (.aload_n 0, 1) := by decide +kernel
theorem d_law_193 : decode code 193 = .ok (.iload_n 3, 1) := by decide +kernel
theorem d_law_194 : decode code 194 = .ok (.iconst 3, 1) := by decide +kernel
theorem d_law_195 : decode code 195 = .ok (.iadd, 1) := by decide +kernel
theorem d_law_196 : decode code 196 = .ok (.iaload, 1) := by decide +kernel
theorem d_law_197 : decode code 197 = .ok (.invokevirtual 28, 3) := by decide +kernel
theorem d_law_200 : decode code 200 = .ok (.aload_n 2, 1) := by decide +kernel
theorem d_law_201 : decode code 201 = .ok (.aload_n 0, 1) := by decide +kernel
theorem d_law_202 : decode code 202 = .ok (.iload_n 3, 1) := by decide +kernel
theorem d_law_203 : decode code 203 = .ok (.iconst 1, 1) := by decide +kernel
theorem d_law_204 : decode code 204 = .ok (.iadd, 1) := by decide +kernel
theorem d_law_205 : decode code 205 = .ok (.iaload, 1) := by decide +kernel
theorem d_law_206 : decode code 206 = .ok (.aload_n 0, 1) := by decide +kernel
theorem d_law_207 : decode code 207 = .ok (.iload_n 3, 1) := by decide +kernel
theorem d_law_208 : decode code 208 = .ok (.iconst 2, 1) := by decide +kernel
theorem d_law_209 : decode code 209 = .ok (.iadd, 1) := by decide +kernel
theorem d_law_210 : decode code 210 = .ok (.iaload, 1) := by decide +kernel
theorem d_law_211 : decode code 211 = .ok (.aload_n 0, 1) := by decide +kernel
theorem d_law_212 : decode code 212 = .ok (.iload_n 3, 1) := by decide +kernel
theorem d_law_213 : decode code 213 = .ok (.iconst 3, 1) := by decide +kernel
theorem d_law_214 : decode code 214 = .ok (.iadd, 1) := by decide +kernel
theorem d_law_215 : decode code 215 = .ok (.iaload, 1) := by decide +kernel
theorem d_law_216 : decode code 216 = .ok (.invokevirtual 32, 3) := by decide +kernel
theorem d_law_219 : decode code 219 = .ok (.if_icmp .eq 350, 3) := by decide +kernel
theorem d_law_224 : decode code 224 = .ok (.aload_n 1, 1) := by decide +kernel
theorem d_law_225 : decode code 225 = .ok (.aload_n 0, 1) := by decide +kernel
theorem d_law_226 : decode code 226 = .ok (.iload_n 3, 1) := by decide +kernel
theorem d_law_227 : decode code 227 = .ok (.iconst 1, 1) := by decide +kernel
theorem d_law_228 : decode code 228 = .ok (.iadd, 1) := by decide +kernel
theorem d_law_229 : decode code 229 = .ok (.iaload, 1) := by decide +kernel
theorem d_law_230 : decode code 230 = .ok (.invokevirtual 33, 3) := by decide +kernel
theorem d_law_233 : decode code 233 = .ok (.aload_n 2, 1) := by decide +kernel
theorem d_law_234 : decode code 234 = .ok (.aload_n 0, 1) := by decide +kernel
theorem d_law_235 : decode code 235 = .ok (.iload_n 3, 1) := by decide +kernel
theorem d_law_236 : decode code 236 = .ok (.iconst 1, 1) := by decide +kernel
theorem d_law_237 : decode code 237 = .ok (.iadd, 1) := by decide +kernel
theorem d_law_238 : decode code 238 = .ok (.iaload, 1) := by decide +kernel
theorem d_law_239 : decode code 239 = .ok (.invokevirtual 37, 3) := by decide +kernel
theorem d_law_242 : decode code 242 = .ok (.if_icmp .eq 327, 3) := by decide +kernel
theorem d_law_247 : decode code 247 = .ok (.aload_n 1, 1) := by decide +kernel
theorem d_law_248 : decode code 248 = .ok (.invokevirtual 38, 3) := by decide +kernel
theorem d_law_251 : decode code 251 = .ok (.aload_n 2, 1) := by decide +kernel
theorem d_law_252 : decode code 252 = .ok (.invokevirtual 42, 3) := by decide +kernel
theorem d_law_255 : decode code 255 = .ok (.lcmp, 1) := by decide +kernel
theorem d_law_256 : decode code 256 = .ok (.ifCond .eq 313, 3) := by decide +kernel
theorem d_law_261 : decode code 261 = .ok (.aload_n 1, 1) := by decide +kernel
theorem d_law_262 : decode code 262 = .ok (.aload_n 0, 1) := by decide +kernel
theorem d_law_263 : decode code 263 = .ok (.iload_n 3, 1) := by decide +kernel
theorem d_law_264 : decode code 264 = .ok (.iconst 1, 1) := by decide +kernel
theorem d_law_265 : decode code 265 = .ok (.iadd, 1) := by decide +kernel
theorem d_law_266 : decode code 266 = .ok (.iaload, 1) := by decide +kernel
theorem d_law_267 : decode code 267 = .ok (.invokevirtual 43, 3) := by decide +kernel
theorem d_law_270 : decode code 270 = .ok (.aload_n 2, 1) := by decide +kernel
theorem d_law_271 : decode code 271 = .ok (.aload_n 0, 1) := by decide +kernel
theorem d_law_272 : decode code 272 = .ok (.iload_n 3, 1) := by decide +kernel
theorem d_law_273 : decode code 273 = .ok (.iconst 1, 1) := by decide +kernel
theorem d_law_274 : decode code 274 = .ok (.iadd, 1) := by decide +kernel
theorem d_law_275 : decode code 275 = .ok (.iaload, 1) := by decide +kernel
theorem d_law_276 : decode code 276 = .ok (.invokevirtual 46, 3) := by decide +kernel
theorem d_law_279 : decode code 279 = .ok (.if_icmp .eq 290, 3) := by decide +kernel
theorem d_law_284 : decode code 284 = .ok (.aload_n 1, 1) := by decide +kernel
theorem d_law_285 : decode code 285 = .ok (.aload_n 0, 1) := by decide +kernel
theorem d_law_286 : decode code 286 = .ok (.iload_n 3, 1) := by decide +kernel
theorem d_law_287 : decode code 287 = .ok (.iconst 1, 1) := by decide +kernel
theorem d_law_288 : decode code 288 = .ok (.iadd, 1) := by decide +kernel
theorem d_law_289 : decode code 289 = .ok (.iaload, 1) := by decide +kernel
theorem d_law_290 : decode code 290 = .ok (.aload_n 0, 1) := by decide +kernel
theorem d_law_291 : decode code 291 = .ok (.iload_n 3, 1) := by decide +kernel
theorem d_law_292 : decode code 292 = .ok (.iconst 2, 1) := by decide +kernel
theorem d_law_293 : decode code 293 = .ok (.iadd, 1) := by decide +kernel
theorem d_law_294 : decode code 294 = .ok (.iaload, 1) := by decide +kernel
theorem d_law_295 : decode code 295 = .ok (.invokevirtual 47, 3) := by decide +kernel
theorem d_law_298 : decode code 298 = .ok (.aload_n 2, 1) := by decide +kernel
theorem d_law_299 : decode code 299 = .ok (.aload_n 0, 1) := by decide +kernel
theorem d_law_300 : decode code 300 = .ok (.iload_n 3, 1) := by decide +kernel
theorem d_law_301 : decode code 301 = .ok (.iconst 1, 1) := by decide +kernel
theorem d_law_302 : decode code 302 = .ok (.iadd, 1) := by decide +kernel
theorem d_law_303 : decode code 303 = .ok (.iaload, 1) := by decide +kernel
theorem d_law_304 : decode code 304 = .ok (.aload_n 0, 1) := by decide +kernel
theorem d_law_305 : decode code 305 = .ok (.iload_n 3, 1) := by decide +kernel
theorem d_law_306 : decode code 306 = .ok (.iconst 2, 1) := by decide +kernel
theorem d_law_307 : decode code 307 = .ok (.iadd, 1) := by decide +kernel
theorem d_law_308 : decode code 308 = .ok (.iaload, 1) := by decide +kernel
theorem d_law_309 : decode code 309 = .ok (.invokevirtual 50, 3) := by decide +kernel
theorem d_law_312 : decode code 312 = .ok (.if_icmp .eq 257, 3) := by decide +kernel
theorem d_law_317 : decode code 317 = .ok (.aload_n 1, 1) := by decide +kernel
theorem d_law_318 : decode code 318 = .ok (.aload_n 0, 1) := by decide +kernel
theorem d_law_319 : decode code 319 = .ok (.iload_n 3, 1) := by decide +kernel
theorem d_law_320 : decode code 320 = .ok (.iconst 1, 1) := by decide +kernel
theorem d_law_321 : decode code 321 = .ok (.iadd, 1) := by decide +kernel
theorem d_law_322 : decode code 322 = .ok (.iaload, 1) := by decide +kernel
theorem d_law_323 : decode code 323 = .ok (.invokevirtual 51, 3) := by decide +kernel
theorem d_law_326 : decode code 326 = .ok (.aload_n 2, 1) := by decide +kernel
theorem d_law_327 : decode code 327 = .ok (.aload_n 0, 1) := by decide +kernel
theorem d_law_328 : decode code 328 = .ok (.iload_n 3, 1) := by decide +kernel
theorem d_law_329 : decode code 329 = .ok (.iconst 1, 1) := by decide +kernel
theorem d_law_330 : decode code 330 = .ok (.iadd, 1) := by decide +kernel
theorem d_law_331 : decode code 331 = .ok (.iaload, 1) := by decide +kernel
theorem d_law_332 : decode code 332 = .ok (.invokevirtual 54, 3) := by decide +kernel
theorem d_law_335 : decode code 335 = .ok (.if_icmp .eq 234, 3) := by decide +kernel
theorem d_law_340 : decode code 340 = .ok (.aload_n 1, 1) := by decide +kernel
theorem d_law_341 : decode code 341 = .ok (.aload_n 0, 1) := by decide +kernel
theorem d_law_342 : decode code 342 = .ok (.iload_n 3, 1) := by decide +kernel
theorem d_law_343 : decode code 343 = .ok (.iconst 1, 1) := by decide +kernel
theorem d_law_344 : decode code 344 = .ok (.iadd, 1) := by decide +kernel
theorem d_law_345 : decode code 345 = .ok (.iaload, 1) := by decide +kernel
theorem d_law_346 : decode code 346 = .ok (.invokevirtual 55, 3) := by decide +kernel
theorem d_law_349 : decode code 349 = .ok (.aload_n 2, 1) := by decide +kernel
theorem d_law_350 : decode code 350 = .ok (.aload_n 0, 1) := by decide +kernel
theorem d_law_351 : decode code 351 = .ok (.iload_n 3, 1) := by decide +kernel
theorem d_law_352 : decode code 352 = .ok (.iconst 1, 1) := by decide +kernel
theorem d_law_353 : decode code 353 = .ok (.iadd, 1) := by decide +kernel
theorem d_law_354 : decode code 354 = .ok (.iaload, 1) := by decide +kernel
theorem d_law_355 : decode code 355 = .ok (.invokevirtual 58, 3) := by decide +kernel
theorem d_law_358 : decode code 358 = .ok (.if_icmp .eq 211, 3) := by decide +kernel
theorem d_law_363 : decode code 363 = .ok (.aload_n 1, 1) := by decide +kernel
theorem d_law_364 : decode code 364 = .ok (.aload_n 0, 1) := by decide +kernel
theorem d_law_365 : decode code 365 = .ok (.iload_n 3, 1) := by decide +kernel
theorem d_law_366 : decode code 366 = .ok (.iconst 1, 1) := by decide +kernel
theorem d_law_367 : decode code 367 = .ok (.iadd, 1) := by decide +kernel
theorem d_law_368 : decode code 368 = .ok (.iaload, 1) := by decide +kernel
theorem d_law_369 : decode code 369 = .ok (.aload_n 0, 1) := by decide +kernel
theorem d_law_370 : decode code 370 = .ok (.iload_n 3, 1) := by decide +kernel
theorem d_law_371 : decode code 371 = .ok (.iconst 2, 1) := by decide +kernel
theorem d_law_372 : decode code 372 = .ok (.iadd, 1) := by decide +kernel
theorem d_law_373 : decode code 373 = .ok (.iaload, 1) := by decide +kernel
theorem d_law_374 : decode code 374 = .ok (.aload_n 0, 1) := by decide +kernel
theorem d_law_375 : decode code 375 = .ok (.iload_n 3, 1) := by decide +kernel
theorem d_law_376 : decode code 376 = .ok (.iconst 3, 1) := by decide +kernel
theorem d_law_377 : decode code 377 = .ok (.iadd, 1) := by decide +kernel
theorem d_law_378 : decode code 378 = .ok (.iaload, 1) := by decide +kernel
theorem d_law_379 : decode code 379 = .ok (.aload_n 0, 1) := by decide +kernel
theorem d_law_380 : decode code 380 = .ok (.iload_n 3, 1) := by decide +kernel
theorem d_law_381 : decode code 381 = .ok (.iconst 4, 1) := by decide +kernel
theorem d_law_382 : decode code 382 = .ok (.iadd, 1) := by decide +kernel
theorem d_law_383 : decode code 383 = .ok (.iaload, 1) := by decide +kernel
theorem d_law_384 : decode code 384 = .ok (.invokevirtual 59, 3) := by decide +kernel
theorem d_law_387 : decode code 387 = .ok (.aload_n 2, 1) := by decide +kernel
theorem d_law_388 : decode code 388 = .ok (.aload_n 0, 1) := by decide +kernel
theorem d_law_389 : decode code 389 = .ok (.iload_n 3, 1) := by decide +kernel
theorem d_law_390 : decode code 390 = .ok (.iconst 1, 1) := by decide +kernel
theorem d_law_391 : decode code 391 = .ok (.iadd, 1) := by decide +kernel
theorem d_law_392 : decode code 392 = .ok (.iaload, 1) := by decide +kernel
theorem d_law_393 : decode code 393 = .ok (.aload_n 0, 1) := by decide +kernel
theorem d_law_394 : decode code 394 = .ok (.iload_n 3, 1) := by decide +kernel
theorem d_law_395 : decode code 395 = .ok (.iconst 2, 1) := by decide +kernel
theorem d_law_396 : decode code 396 = .ok (.iadd, 1) := by decide +kernel
theorem d_law_397 : decode code 397 = .ok (.iaload, 1) := by decide +kernel
theorem d_law_398 : decode code 398 = .ok (.aload_n 0, 1) := by decide +kernel
theorem d_law_399 : decode code 399 = .ok (.iload_n 3, 1) := by decide +kernel
theorem d_law_400 : decode code 400 = .ok (.iconst 3, 1) := by decide +kernel
theorem d_law_401 : decode code 401 = .ok (.iadd, 1) := by decide +kernel
theorem d_law_402 : decode code 402 = .ok (.iaload, 1) := by decide +kernel
theorem d_law_403 : decode code 403 = .ok (.aload_n 0, 1) := by decide +kernel
theorem d_law_404 : decode code 404 = .ok (.iload_n 3, 1) := by decide +kernel
theorem d_law_405 : decode code 405 = .ok (.iconst 4, 1) := by decide +kernel
theorem d_law_406 : decode code 406 = .ok (.iadd, 1) := by decide +kernel
theorem d_law_407 : decode code 407 = .ok (.iaload, 1) := by decide +kernel
theorem d_law_408 : decode code 408 = .ok (.invokevirtual 63, 3) := by decide +kernel
theorem d_law_411 : decode code 411 = .ok (.if_icmp .eq 158, 3) := by decide +kernel
theorem d_law_416 : decode code 416 = .ok (.aload_n 1, 1) := by decide +kernel
theorem d_law_417 : decode code 417 = .ok (.aload_n 0, 1) := by decide +kernel
theorem d_law_418 : decode code 418 = .ok (.iload_n 3, 1) := by decide +kernel
theorem d_law_419 : decode code 419 = .ok (.iconst 1, 1) := by decide +kernel
theorem d_law_420 : decode code 420 = .ok (.iadd, 1) := by decide +kernel
theorem d_law_421 : decode code 421 = .ok (.iaload, 1) := by decide +kernel
theorem d_law_422 : decode code 422 = .ok (.i2l, 1) := by decide +kernel
theorem d_law_423 : decode code 423 = .ok (.bipush 32, 2) := by decide +kernel
theorem d_law_425 : decode code 425 = .ok (.lshl, 1) := by decide +kernel
theorem d_law_426 : decode code 426 = .ok (.aload_n 0, 1) := by decide +kernel
theorem d_law_427 : decode code 427 = .ok (.iload_n 3, 1) := by decide +kernel
theorem d_law_428 : decode code 428 = .ok (.iconst 2, 1) := by decide +kernel
theorem d_law_429 : decode code 429 = .ok (.iadd, 1) := by decide +kernel
theorem d_law_430 : decode code 430 = .ok (.iaload, 1) := by decide +kernel
theorem d_law_431 : decode code 431 = .ok (.i2l, 1) := by decide +kernel
theorem d_law_432 : decode code 432 = .ok (.ldc2_w 64, 3) := by decide +kernel
theorem d_law_435 : decode code 435 = .ok (.land, 1) := by decide +kernel
theorem d_law_436 : decode code 436 = .ok (.lor, 1) := by decide +kernel
theorem d_law_437 : decode code 437 = .ok (.invokevirtual 66, 3) := by decide +kernel
theorem d_law_440 : decode code 440 = .ok (.aload_n 2, 1) := by decide +kernel
theorem d_law_441 : decode code 441 = .ok (.aload_n 0, 1) := by decide +kernel
theorem d_law_442 : decode code 442 = .ok (.iload_n 3, 1) := by decide +kernel
theorem d_law_443 : decode code 443 = .ok (.iconst 1, 1) := by decide +kernel
theorem d_law_444 : decode code 444 = .ok (.iadd, 1) := by decide +kernel
theorem d_law_445 : decode code 445 = .ok (.iaload, 1) := by decide +kernel
theorem d_law_446 : decode code 446 = .ok (.i2l, 1) := by decide +kernel
theorem d_law_447 : decode code 447 = .ok (.bipush 32, 2) := by decide +kernel
theorem d_law_449 : decode code 449 = .ok (.lshl, 1) := by decide +kernel
theorem d_law_450 : decode code 450 = .ok (.aload_n 0, 1) := by decide +kernel
theorem d_law_451 : decode code 451 = .ok (.iload_n 3, 1) := by decide +kernel
theorem d_law_452 : decode code 452 = .ok (.iconst 2, 1) := by decide +kernel
theorem d_law_453 : decode code 453 = .ok (.iadd, 1) := by decide +kernel
theorem d_law_454 : decode code 454 = .ok (.iaload, 1) := by decide +kernel
theorem d_law_455 : decode code 455 = .ok (.i2l, 1) := by decide +kernel
theorem d_law_456 : decode code 456 = .ok (.ldc2_w 64, 3) := by decide +kernel
theorem d_law_459 : decode code 459 = .ok (.land, 1) := by decide +kernel
theorem d_law_460 : decode code 460 = .ok (.lor, 1) := by decide +kernel
theorem d_law_461 : decode code 461 = .ok (.invokevirtual 70, 3) := by decide +kernel
theorem d_law_464 : decode code 464 = .ok (.if_icmp .eq 105, 3) := by decide +kernel
theorem d_law_469 : decode code 469 = .ok (.aload_n 1, 1) := by decide +kernel
theorem d_law_470 : decode code 470 = .ok (.aload_n 0, 1) := by decide +kernel
theorem d_law_471 : decode code 471 = .ok (.iload_n 3, 1) := by decide +kernel
theorem d_law_472 : decode code 472 = .ok (.iconst 1, 1) := by decide +kernel
theorem d_law_473 : decode code 473 = .ok (.iadd, 1) := by decide +kernel
theorem d_law_474 : decode code 474 = .ok (.iaload, 1) := by decide +kernel
theorem d_law_475 : decode code 475 = .ok (.aload_n 0, 1) := by decide +kernel
theorem d_law_476 : decode code 476 = .ok (.iload_n 3, 1) := by decide +kernel
theorem d_law_477 : decode code 477 = .ok (.iconst 2, 1) := by decide +kernel
theorem d_law_478 : decode code 478 = .ok (.iadd, 1) := by decide +kernel
theorem d_law_479 : decode code 479 = .ok (.iaload, 1) := by decide +kernel
theorem d_law_480 : decode code 480 = .ok (.invokevirtual 71, 3) := by decide +kernel
theorem d_law_483 : decode code 483 = .ok (.aload_n 2, 1) := by decide +kernel
theorem d_law_484 : decode code 484 = .ok (.aload_n 0, 1) := by decide +kernel
theorem d_law_485 : decode code 485 = .ok (.iload_n 3, 1) := by decide +kernel
theorem d_law_486 : decode code 486 = .ok (.iconst 1, 1) := by decide +kernel
theorem d_law_487 : decode code 487 = .ok (.iadd, 1) := by decide +kernel
theorem d_law_488 : decode code 488 = .ok (.iaload, 1) := by decide +kernel
theorem d_law_489 : decode code 489 = .ok (.aload_n 0, 1) := by decide +kernel
theorem d_law_490 : decode code 490 = .ok (.iload_n 3, 1) := by decide +kernel
theorem d_law_491 : decode code 491 = .ok (.iconst 2, 1) := by decide +kernel
theorem d_law_492 : decode code 492 = .ok (.iadd, 1) := by decide +kernel
theorem d_law_493 : decode code 493 = .ok (.iaload, 1) := by decide +kernel
theorem d_law_494 : decode code 494 = .ok (.invokevirtual 74, 3) := by decide +kernel
theorem d_law_497 : decode code 497 = .ok (.if_icmp .eq 72, 3) := by decide +kernel
theorem d_law_502 : decode code 502 = .ok (.aload_n 1, 1) := by decide +kernel
theorem d_law_503 : decode code 503 = .ok (.aload_n 0, 1) := by decide +kernel
theorem d_law_504 : decode code 504 = .ok (.iload_n 3, 1) := by decide +kernel
theorem d_law_505 : decode code 505 = .ok (.iconst 1, 1) := by decide +kernel
theorem d_law_506 : decode code 506 = .ok (.iadd, 1) := by decide +kernel
theorem d_law_507 : decode code 507 = .ok (.iaload, 1) := by decide +kernel
theorem d_law_508 : decode code 508 = .ok (.invokevirtual 75, 3) := by decide +kernel
theorem d_law_511 : decode code 511 = .ok (.aload_n 2, 1) := by decide +kernel
theorem d_law_512 : decode code 512 = .ok (.aload_n 0, 1) := by decide +kernel
theorem d_law_513 : decode code 513 = .ok (.iload_n 3, 1) := by decide +kernel
theorem d_law_514 : decode code 514 = .ok (.iconst 1, 1) := by decide +kernel
theorem d_law_515 : decode code 515 = .ok (.iadd, 1) := by decide +kernel
theorem d_law_516 : decode code 516 = .ok (.iaload, 1) := by decide +kernel
theorem d_law_517 : decode code 517 = .ok (.invokevirtual 78, 3) := by decide +kernel
theorem d_law_520 : decode code 520 = .ok (.if_icmp .eq 49, 3) := by decide +kernel
theorem d_law_525 : decode code 525 = .ok (.aload_n 1, 1) := by decide +kernel
theorem d_law_526 : decode code 526 = .ok (.aload_n 0, 1) := by decide +kernel
theorem d_law_527 : decode code 527 = .ok (.iload_n 3, 1) := by decide +kernel
theorem d_law_528 : decode code 528 = .ok (.iconst 1, 1) := by decide +kernel
theorem d_law_529 : decode code 529 = .ok (.iadd, 1) := by decide +kernel
theorem d_law_530 : decode code 530 = .ok (.iaload, 1) := by decide +kernel
theorem d_law_531 : decode code 531 = .ok (.aload_n 0, 1) := by decide +kernel
theorem d_law_532 : decode code 532 = .ok (.iload_n 3, 1) := by decide +kernel
theorem d_law_533 : decode code 533 = .ok (.iconst 2, 1) := by decide +kernel
theorem d_law_534 : decode code 534 = .ok (.iadd, 1) := by decide +kernel
theorem d_law_535 : decode code 535 = .ok (.iaload, 1) := by decide +kernel
theorem d_law_536 : decode code 536 = .ok (.invokevirtual 79, 3) := by decide +kernel
theorem d_law_539 : decode code 539 = .ok (.aload_n 2, 1) := by decide +kernel
theorem d_law_540 : decode code 540 = .ok (.aload_n 0, 1) := by decide +kernel
theorem d_law_541 : decode code 541 = .ok (.iload_n 3, 1) := by decide +kernel
theorem d_law_542 : decode code 542 = .ok (.iconst 1, 1) := by decide +kernel
theorem d_law_543 : decode code 543 = .ok (.iadd, 1) := by decide +kernel
theorem d_law_544 : decode code 544 = .ok (.iaload, 1) := by decide +kernel
theorem d_law_545 : decode code 545 = .ok (.aload_n 0, 1) := by decide +kernel
theorem d_law_546 : decode code 546 = .ok (.iload_n 3, 1) := by decide +kernel
theorem d_law_547 : decode code 547 = .ok (.iconst 2, 1) := by decide +kernel
theorem d_law_548 : decode code 548 = .ok (.iadd, 1) := by decide +kernel
theorem d_law_549 : decode code 549 = .ok (.iaload, 1) := by decide +kernel
theorem d_law_550 : decode code 550 = .ok (.invokevirtual 82, 3) := by decide +kernel
theorem d_law_553 : decode code 553 = .ok (.if_icmp .eq 16, 3) := by decide +kernel
theorem d_law_558 : decode code 558 = .ok (.aload_n 1, 1) := by decide +kernel
theorem d_law_559 : decode code 559 = .ok (.invokevirtual 83, 3) := by decide +kernel
theorem d_law_562 : decode code 562 = .ok (.aload_n 2, 1) := by decide +kernel
theorem d_law_563 : decode code 563 = .ok (.invokevirtual 86, 3) := by decide +kernel
theorem d_law_566 : decode code 566 = .ok (.goto 3, 3) := by decide +kernel
theorem d_law_569 : decode code 569 = .ok (.iinc 3 5, 3) := by decide +kernel
theorem d_law_572 : decode code 572 = .ok (.goto (-554), 3) := by decide +kernel
theorem d_law_575 : decode code 575 = .ok (.iconst 1, 1) := by decide +kernel
theorem d_law_576 : decode code 576 = .ok (.ireturn, 1) := by decide +kernel
def t_law (L : Nat) (xs : Nat → Int32) : List (Nat × mx_O) := [
  (0, mx_new 6 0 6 [mx_null, mx_null, mx_null, mx_null, mx_null, mx_null] 600000 7302250 3),
  (3, mx_dup 4),
  (4, mx_ci0 sp_L_init 30 1800 600000 7302250 7),
  (7, mx_astore 1 8),
  (8, mx_new 7 40 18 [mx_i 0, mx_i 0, mx_null, mx_i 0, mx_null, mx_null, mx_i 0, mx_null, mx_l 0, mx_null, mx_null, mx_i 0, mx_null, mx_null, mx_null, mx_i 0, mx_null, mx_null] 600000 7302250 11),
  (11, mx_dup 12),
  (12, mx_ci0 sp_M_init 11 1513 600000 7302250 15),
  (15, mx_astore 2 16),
  (16, mx_push (.inl (nI 0)) 17),
  (17, mx_istore 3 18),
  (18, mx_iload 3 19),
  (19, mx_aloadT 0 20),
  (20, mx_slen L 21),
  (21, mx_push (.inl (nI 5)) 22),
  (22, mx_isub 23),
  (23, mx_ic_gt 575 26),
  (26, mx_aloadT 0 27),
  (27, mx_iload 3 28),
  (28, mx_sld L xs 29),
  (29, mx_push (.inl (nI 15)) 31),
  (31, mx_iand 32),
  (32, mx_tsw law_tg),
  (112, mx_aload 1 113),
  (113, mx_aloadT 0 114),
  (114, mx_iload 3 115),
  (115, mx_push (.inl (nI 1)) 116),
  (116, mx_iadd 117),
  (117, mx_sld L xs 118),
  (118, mx_cv1 6 sp_L_unit 600000 7302250 121),
  (121, mx_aload 2 122),
  (122, mx_aloadT 0 123),
  (123, mx_iload 3 124),
  (124, mx_push (.inl (nI 1)) 125),
  (125, mx_iadd 126),
  (126, mx_sld L xs 127),
  (127, mx_cv1 7 sp_M_unit 600000 7302250 130),
  (130, mx_ic_eq 569 133),
  (135, mx_aload 1 136),
  (136, mx_cv0 6 sp_L_word 600000 7302250 139),
  (139, mx_aload 2 140),
  (140, mx_cv0 7 sp_M_word 600000 7302250 143),
  (143, mx_ic_eq 569 146),
  (148, mx_aload 1 149),
  (149, mx_aloadT 0 150),
  (150, mx_iload 3 151),
  (151, mx_push (.inl (nI 1)) 152),
  (152, mx_iadd 153),
  (153, mx_sld L xs 154),
  (154, mx_aloadT 0 155),
  (155, mx_iload 3 156),
  (156, mx_push (.inl (nI 2)) 157),
  (157, mx_iadd 158),
  (158, mx_sld L xs 159),
  (159, mx_cv2 6 sp_L_letter 600000 7302250 162),
  (162, mx_aload 2 163),
  (163, mx_aloadT 0 164),
  (164, mx_iload 3 165),
  (165, mx_push (.inl (nI 1)) 166),
  (166, mx_iadd 167),
  (167, mx_sld L xs 168),
  (168, mx_aloadT 0 169),
  (169, mx_iload 3 170),
  (170, mx_push (.inl (nI 2)) 171),
  (171, mx_iadd 172),
  (172, mx_sld L xs 173),
  (173, mx_cv2 7 sp_M_letter 600000 7302250 176),
  (176, mx_ic_eq 569 179),
  (181, mx_aload 1 182),
  (182, mx_aloadT 0 183),
  (183, mx_iload 3 184),
  (184, mx_push (.inl (nI 1)) 185),
  (185, mx_iadd 186),
  (186, mx_sld L xs 187),
  (187, mx_aloadT 0 188),
  (188, mx_iload 3 189),
  (189, mx_push (.inl (nI 2)) 190),
  (190, mx_iadd 191),
  (191, mx_sld L xs 192),
  (192, mx_aloadT 0 193),
  (193, mx_iload 3 194),
  (194, mx_push (.inl (nI 3)) 195),
  (195, mx_iadd 196),
  (196, mx_sld L xs 197),
  (197, mx_cv3 6 sp_L_ladder 600000 7302250 200),
  (200, mx_aload 2 201),
  (201, mx_aloadT 0 202),
  (202, mx_iload 3 203),
  (203, mx_push (.inl (nI 1)) 204),
  (204, mx_iadd 205),
  (205, mx_sld L xs 206),
  (206, mx_aloadT 0 207),
  (207, mx_iload 3 208),
  (208, mx_push (.inl (nI 2)) 209),
  (209, mx_iadd 210),
  (210, mx_sld L xs 211),
  (211, mx_aloadT 0 212),
  (212, mx_iload 3 213),
  (213, mx_push (.inl (nI 3)) 214),
  (214, mx_iadd 215),
  (215, mx_sld L xs 216),
  (216, mx_cv3 7 sp_M_ladder 600000 7302250 219),
  (219, mx_ic_eq 569 222),
  (224, mx_aload 1 225),
  (225, mx_aloadT 0 226),
  (226, mx_iload 3 227),
  (227, mx_push (.inl (nI 1)) 228),
  (228, mx_iadd 229),
  (229, mx_sld L xs 230),
  (230, mx_cv1 6 sp_L_step 600000 7302250 233),
  (233, mx_aload 2 234),
  (234, mx_aloadT 0 235),
  (235, mx_iload 3 236),
  (236, mx_push (.inl (nI 1)) 237),
  (237, mx_iadd 238),
  (238, mx_sld L xs 239),
  (239, mx_cv1 7 sp_M_step 600000 7302250 242),
  (242, mx_ic_eq 569 245),
  (247, mx_aload 1 248),
  (248, mx_cv0 6 sp_L_ways 600000 7302250 251),
  (251, mx_aload 2 252),
  (252, mx_cv0 7 sp_M_ways 600000 7302250 255),
  (255, mx_lcmp 256),
  (256, mx_if_eq 569 259),
  (261, mx_aload 1 262),
  (262, mx_aloadT 0 263),
  (263, mx_iload 3 264),
  (264, mx_push (.inl (nI 1)) 265),
  (265, mx_iadd 266),
  (266, mx_sld L xs 267),
  (267, mx_cv1 6 sp_L_gather 600000 7302250 270),
  (270, mx_aload 2 271),
  (271, mx_aloadT 0 272),
  (272, mx_iload 3 273),
  (273, mx_push (.inl (nI 1)) 274),
  (274, mx_iadd 275),
  (275, mx_sld L xs 276),
  (276, mx_cv1 7 sp_M_gather 600000 7302250 279),
  (279, mx_ic_eq 569 282),
  (284, mx_aload 1 285),
  (285, mx_aloadT 0 286),
  (286, mx_iload 3 287),
  (287, mx_push (.inl (nI 1)) 288),
  (288, mx_iadd 289),
  (289, mx_sld L xs 290),
  (290, mx_aloadT 0 291),
  (291, mx_iload 3 292),
  (292, mx_push (.inl (nI 2)) 293),
  (293, mx_iadd 294),
  (294, mx_sld L xs 295),
  (295, mx_cv2 6 sp_L_gathered 600000 7302250 298),
  (298, mx_aload 2 299),
  (299, mx_aloadT 0 300),
  (300, mx_iload 3 301),
  (301, mx_push (.inl (nI 1)) 302),
  (302, mx_iadd 303),
  (303, mx_sld L xs 304),
  (304, mx_aloadT 0 305),
  (305, mx_iload 3 306),
  (306, mx_push (.inl (nI 2)) 307),
  (307, mx_iadd 308),
  (308, mx_sld L xs 309),
  (309, mx_cv2 7 sp_M_gathered 600000 7302250 312),
  (312, mx_ic_eq 569 315),
  (317, mx_aload 1 318),
  (318, mx_aloadT 0 319),
  (319, mx_iload 3 320),
  (320, mx_push (.inl (nI 1)) 321),
  (321, mx_iadd 322),
  (322, mx_sld L xs 323),
  (323, mx_cv1 6 sp_L_square 600000 7302250 326),
  (326, mx_aload 2 327),
  (327, mx_aloadT 0 328),
  (328, mx_iload 3 329),
  (329, mx_push (.inl (nI 1)) 330),
  (330, mx_iadd 331),
  (331, mx_sld L xs 332),
  (332, mx_cv1 7 sp_M_square 600000 7302250 335),
  (335, mx_ic_eq 569 338),
  (340, mx_aload 1 341),
  (341, mx_aloadT 0 342),
  (342, mx_iload 3 343),
  (343, mx_push (.inl (nI 1)) 344),
  (344, mx_iadd 345),
  (345, mx_sld L xs 346),
  (346, mx_cv1 6 sp_L_line 600000 7302250 349),
  (349, mx_aload 2 350),
  (350, mx_aloadT 0 351),
  (351, mx_iload 3 352),
  (352, mx_push (.inl (nI 1)) 353),
  (353, mx_iadd 354),
  (354, mx_sld L xs 355),
  (355, mx_cv1 7 sp_M_line 600000 7302250 358),
  (358, mx_ic_eq 569 361),
  (363, mx_aload 1 364),
  (364, mx_aloadT 0 365),
  (365, mx_iload 3 366),
  (366, mx_push (.inl (nI 1)) 367),
  (367, mx_iadd 368),
  (368, mx_sld L xs 369),
  (369, mx_aloadT 0 370),
  (370, mx_iload 3 371),
  (371, mx_push (.inl (nI 2)) 372),
  (372, mx_iadd 373),
  (373, mx_sld L xs 374),
  (374, mx_aloadT 0 375),
  (375, mx_iload 3 376),
  (376, mx_push (.inl (nI 3)) 377),
  (377, mx_iadd 378),
  (378, mx_sld L xs 379),
  (379, mx_aloadT 0 380),
  (380, mx_iload 3 381),
  (381, mx_push (.inl (nI 4)) 382),
  (382, mx_iadd 383),
  (383, mx_sld L xs 384),
  (384, mx_cv4 6 sp_L_hide 600000 7302250 387),
  (387, mx_aload 2 388),
  (388, mx_aloadT 0 389),
  (389, mx_iload 3 390),
  (390, mx_push (.inl (nI 1)) 391),
  (391, mx_iadd 392),
  (392, mx_sld L xs 393),
  (393, mx_aloadT 0 394),
  (394, mx_iload 3 395),
  (395, mx_push (.inl (nI 2)) 396),
  (396, mx_iadd 397),
  (397, mx_sld L xs 398),
  (398, mx_aloadT 0 399),
  (399, mx_iload 3 400),
  (400, mx_push (.inl (nI 3)) 401),
  (401, mx_iadd 402),
  (402, mx_sld L xs 403),
  (403, mx_aloadT 0 404),
  (404, mx_iload 3 405),
  (405, mx_push (.inl (nI 4)) 406),
  (406, mx_iadd 407),
  (407, mx_sld L xs 408),
  (408, mx_cv4 7 sp_M_hide 600000 7302250 411),
  (411, mx_ic_eq 569 414),
  (416, mx_aload 1 417),
  (417, mx_aloadT 0 418),
  (418, mx_iload 3 419),
  (419, mx_push (.inl (nI 1)) 420),
  (420, mx_iadd 421),
  (421, mx_sld L xs 422),
  (422, mx_i2l 423),
  (423, mx_push (.inl (nI 32)) 425),
  (425, mx_lshl 426),
  (426, mx_aloadT 0 427),
  (427, mx_iload 3 428),
  (428, mx_push (.inl (nI 2)) 429),
  (429, mx_iadd 430),
  (430, mx_sld L xs 431),
  (431, mx_i2l 432),
  (432, mx_push (.inr (.inl 4294967295)) 435),
  (435, mx_land 436),
  (436, mx_lor 437),
  (437, mx_cv1 6 sp_L_fill 600000 7302250 440),
  (440, mx_aload 2 441),
  (441, mx_aloadT 0 442),
  (442, mx_iload 3 443),
  (443, mx_push (.inl (nI 1)) 444),
  (444, mx_iadd 445),
  (445, mx_sld L xs 446),
  (446, mx_i2l 447),
  (447, mx_push (.inl (nI 32)) 449),
  (449, mx_lshl 450),
  (450, mx_aloadT 0 451),
  (451, mx_iload 3 452),
  (452, mx_push (.inl (nI 2)) 453),
  (453, mx_iadd 454),
  (454, mx_sld L xs 455),
  (455, mx_i2l 456),
  (456, mx_push (.inr (.inl 4294967295)) 459),
  (459, mx_land 460),
  (460, mx_lor 461),
  (461, mx_cv1 7 sp_M_fill 600000 7302250 464),
  (464, mx_ic_eq 569 467),
  (469, mx_aload 1 470),
  (470, mx_aloadT 0 471),
  (471, mx_iload 3 472),
  (472, mx_push (.inl (nI 1)) 473),
  (473, mx_iadd 474),
  (474, mx_sld L xs 475),
  (475, mx_aloadT 0 476),
  (476, mx_iload 3 477),
  (477, mx_push (.inl (nI 2)) 478),
  (478, mx_iadd 479),
  (479, mx_sld L xs 480),
  (480, mx_cv2 6 sp_L_cell 600000 7302250 483),
  (483, mx_aload 2 484),
  (484, mx_aloadT 0 485),
  (485, mx_iload 3 486),
  (486, mx_push (.inl (nI 1)) 487),
  (487, mx_iadd 488),
  (488, mx_sld L xs 489),
  (489, mx_aloadT 0 490),
  (490, mx_iload 3 491),
  (491, mx_push (.inl (nI 2)) 492),
  (492, mx_iadd 493),
  (493, mx_sld L xs 494),
  (494, mx_cv2 7 sp_M_cell 600000 7302250 497),
  (497, mx_ic_eq 569 500),
  (502, mx_aload 1 503),
  (503, mx_aloadT 0 504),
  (504, mx_iload 3 505),
  (505, mx_push (.inl (nI 1)) 506),
  (506, mx_iadd 507),
  (507, mx_sld L xs 508),
  (508, mx_cv1 6 sp_L_found 600000 7302250 511),
  (511, mx_aload 2 512),
  (512, mx_aloadT 0 513),
  (513, mx_iload 3 514),
  (514, mx_push (.inl (nI 1)) 515),
  (515, mx_iadd 516),
  (516, mx_sld L xs 517),
  (517, mx_cv1 7 sp_M_found 600000 7302250 520),
  (520, mx_ic_eq 569 523),
  (525, mx_aload 1 526),
  (526, mx_aloadT 0 527),
  (527, mx_iload 3 528),
  (528, mx_push (.inl (nI 1)) 529),
  (529, mx_iadd 530),
  (530, mx_sld L xs 531),
  (531, mx_aloadT 0 532),
  (532, mx_iload 3 533),
  (533, mx_push (.inl (nI 2)) 534),
  (534, mx_iadd 535),
  (535, mx_sld L xs 536),
  (536, mx_cv2 6 sp_L_where 600000 7302250 539),
  (539, mx_aload 2 540),
  (540, mx_aloadT 0 541),
  (541, mx_iload 3 542),
  (542, mx_push (.inl (nI 1)) 543),
  (543, mx_iadd 544),
  (544, mx_sld L xs 545),
  (545, mx_aloadT 0 546),
  (546, mx_iload 3 547),
  (547, mx_push (.inl (nI 2)) 548),
  (548, mx_iadd 549),
  (549, mx_sld L xs 550),
  (550, mx_cv2 7 sp_M_where 600000 7302250 553),
  (553, mx_ic_eq 569 556),
  (558, mx_aload 1 559),
  (559, mx_cv0 6 sp_L_wipe 600000 7302250 562),
  (562, mx_aload 2 563),
  (563, mx_cv0 7 sp_M_wipe 600000 7302250 566),
  (566, mx_goto 569),
  (569, mx_iinc 3 (nI 5) 572),
  (572, mx_goto 18),
  (575, mx_push (.inl (nI 1)) 576),
  (576, mx_law)]
end
section
set_option maxRecDepth 100000 in
set_option maxHeartbeats 4000000 in
theorem a_law {p : Program} {l : Launch} {e : Env} {s : State} {m : MethodId} {below : List Frame} {meth : Method} {c : Code} {D : va_G} {tc : Nat → ClassId} {tb : Nat → Nat} {b L : Nat} {xs : Nat → Int32} (C : mx_C p s m #[Value.ref b] c code R_law lw_tbl D tc tb (fun q => s.heap.size ≤ q) 4 (fun _ _ => True)) (hr : meth.sig.returnType = ret) (hlk : meth.locks = false) (hX : va_X (tb 9) L xs s s.heap) (hbl : tb 9 < s.heap.size) (hbA : ¬ s.heap.size ≤ tb 9) : mx_all (mx_W p l e room_1 s m #[Value.ref b] below meth c (lw_Z below #[Value.ref b] s) D tc tb (fun q => s.heap.size ≤ q) 4 (fun _ _ => True)) (t_law L xs) :=
  ⟨mx_s_new C (fun _ _ _ _ _ _ _ => trivial) (fun w h => mx_T0_in (in_L w h)) ty_L ok_L rfl (by decide +kernel) (by decide +kernel) (by decide +kernel) (fun ad j hj => by rcases (show j = 0 ∨ j = 1 ∨ j = 2 ∨ j = 3 ∨ j = 4 ∨ j = 5 by omega) with rfl | rfl | rfl | rfl | rfl | rfl <;> rfl) (by decide) d_law_0 ⟨by decide, by decide⟩,
  mx_s_dup C d_law_3,
  mx_s_ci0 C (fun _ _ _ _ _ _ => trivial) (m_L_init l) rfl rfl (cwI 0 C.2.2.2.2.1 (mx_gI (fun w h => mx_T0_in h) (mx_in0 (by decide +kernel) rfl)) rfl rfl rfl (C.2.2.2.2.1 (Jvm.Cond.initialized R_L) (by decide +kernel)) (C.2.2.2.2.1 (Jvm.Cond.methodLink R_law 9 y_L_init) (by decide +kernel)) (C.2.2.2.2.1 (Jvm.Cond.instanceMethod y_L_init) (by decide +kernel)) rfl (by decide +kernel) ⟨by decide, by decide⟩) d_law_4 ⟨by decide, by decide⟩,
  mx_s_astore_n C d_law_7 rfl (by decide),
  mx_s_new C (fun _ _ _ _ _ _ _ => trivial) (fun w h => mx_T0_in (in_M w h)) ty_M ok_M rfl (by decide +kernel) (by decide +kernel) (by decide +kernel) (fun ad j hj => by rcases (show j = 0 ∨ j = 1 ∨ j = 2 ∨ j = 3 ∨ j = 4 ∨ j = 5 ∨ j = 6 ∨ j = 7 ∨ j = 8 ∨ j = 9 ∨ j = 10 ∨ j = 11 ∨ j = 12 ∨ j = 13 ∨ j = 14 ∨ j = 15 ∨ j = 16 ∨ j = 17 by omega) with rfl | rfl | rfl | rfl | rfl | rfl | rfl | rfl | rfl | rfl | rfl | rfl | rfl | rfl | rfl | rfl | rfl | rfl <;> rfl) (by decide) d_law_8 ⟨by decide, by decide⟩,
  mx_s_dup C d_law_11,
  mx_s_ci0 C (fun _ _ _ _ _ _ => trivial) (m_M_init l) rfl rfl (cwI 0 C.2.2.2.2.1 (mx_gI (fun w h => mx_T0_in h) (mx_in0 (by decide +kernel) rfl)) rfl rfl rfl (C.2.2.2.2.1 (Jvm.Cond.initialized R_M) (by decide +kernel)) (C.2.2.2.2.1 (Jvm.Cond.methodLink R_law 12 y_M_init) (by decide +kernel)) (C.2.2.2.2.1 (Jvm.Cond.instanceMethod y_M_init) (by decide +kernel)) rfl (by decide +kernel) ⟨by decide, by decide⟩) d_law_12 ⟨by decide, by decide⟩,
  mx_s_astore_n C d_law_15 rfl (by decide),
  mx_s_iconst C d_law_16 (by decide),
  mx_s_istore_n C d_law_17 rfl (by decide),
  mx_s_iload_n C d_law_18 rfl,
  mx_s_aloadT C d_law_19 rfl,
  mx_s_slen C hX hbl hbA d_law_20,
  mx_s_iconst C d_law_21 (by decide),
  mx_s_isub C d_law_22,
  mx_s_ic_gt C d_law_23 (by decide),
  mx_s_aloadT C d_law_26 rfl,
  mx_s_iload_n C d_law_27 rfl,
  mx_s_sld C hX hbl hbA d_law_28,
  mx_s_bipush C d_law_29 (by decide),
  mx_s_iand C d_law_31,
  mx_s_tsw C d_law_32,
  mx_s_aload_n C d_law_112 rfl,
  mx_s_aloadT C d_law_113 rfl,
  mx_s_iload_n C d_law_114 rfl,
  mx_s_iconst C d_law_115 (by decide),
  mx_s_iadd C d_law_116,
  mx_s_sld C hX hbl hbA d_law_117,
  mx_s_cv1 C (m_L_unit l) rfl (cwV 1 C.2.2.2.2.1 (mx_gV (fun w h => mx_T0_in h) (mx_in0 (by decide +kernel) rfl) (mx_in0 (by decide +kernel) rfl) (mx_in0 (by decide +kernel) rfl) (mx_in0 (by decide +kernel) rfl) (mx_in0 (by decide +kernel) rfl)) rfl rfl rfl (by decide +kernel) ⟨by decide, by decide⟩) d_law_118 ⟨by decide, by decide⟩,
  mx_s_aload_n C d_law_121 rfl,
  mx_s_aloadT C d_law_122 rfl,
  mx_s_iload_n C d_law_123 rfl,
  mx_s_iconst C d_law_124 (by decide),
  mx_s_iadd C d_law_125,
  mx_s_sld C hX hbl hbA d_law_126,
  mx_s_cv1 C (m_M_unit l) rfl (cwV 1 C.2.2.2.2.1 (mx_gV (fun w h => mx_T0_in h) (mx_in0 (by decide +kernel) rfl) (mx_in0 (by decide +kernel) rfl) (mx_in0 (by decide +kernel) rfl) (mx_in0 (by decide +kernel) rfl) (mx_in0 (by decide +kernel) rfl)) rfl rfl rfl (by decide +kernel) ⟨by decide, by decide⟩) d_law_127 ⟨by decide, by decide⟩,
  mx_s_ic_eq C d_law_130 (by decide),
  mx_s_aload_n C d_law_135 rfl,
  mx_s_cv0 C (m_L_word l) rfl (cwV 0 C.2.2.2.2.1 (mx_gV (fun w h => mx_T0_in h) (mx_in0 (by decide +kernel) rfl) (mx_in0 (by decide +kernel) rfl) (mx_in0 (by decide +kernel) rfl) (mx_in0 (by decide +kernel) rfl) (mx_in0 (by decide +kernel) rfl)) rfl rfl rfl (by decide +kernel) ⟨by decide, by decide⟩) d_law_136 ⟨by decide, by decide⟩,
  mx_s_aload_n C d_law_139 rfl,
  mx_s_cv0 C (m_M_word l) rfl (cwV 0 C.2.2.2.2.1 (mx_gV (fun w h => mx_T0_in h) (mx_in0 (by decide +kernel) rfl) (mx_in0 (by decide +kernel) rfl) (mx_in0 (by decide +kernel) rfl) (mx_in0 (by decide +kernel) rfl) (mx_in0 (by decide +kernel) rfl)) rfl rfl rfl (by decide +kernel) ⟨by decide, by decide⟩) d_law_140 ⟨by decide, by decide⟩,
  mx_s_ic_eq C d_law_143 (by decide),
  mx_s_aload_n C d_law_148 rfl,
  mx_s_aloadT C d_law_149 rfl,
  mx_s_iload_n C d_law_150 rfl,
  mx_s_iconst C d_law_151 (by decide),
  mx_s_iadd C d_law_152,
  mx_s_sld C hX hbl hbA d_law_153,
  mx_s_aloadT C d_law_154 rfl,
  mx_s_iload_n C d_law_155 rfl,
  mx_s_iconst C d_law_156 (by decide),
  mx_s_iadd C d_law_157,
  mx_s_sld C hX hbl hbA d_law_158,
  mx_s_cv2 C (m_L_letter l) rfl (cwV 2 C.2.2.2.2.1 (mx_gV (fun w h => mx_T0_in h) (mx_in0 (by decide +kernel) rfl) (mx_in0 (by decide +kernel) rfl) (mx_in0 (by decide +kernel) rfl) (mx_in0 (by decide +kernel) rfl) (mx_in0 (by decide +kernel) rfl)) rfl rfl rfl (by decide +kernel) ⟨by decide, by decide⟩) d_law_159 ⟨by decide, by decide⟩,
  mx_s_aload_n C d_law_162 rfl,
  mx_s_aloadT C d_law_163 rfl,
  mx_s_iload_n C d_law_164 rfl,
  mx_s_iconst C d_law_165 (by decide),
  mx_s_iadd C d_law_166,
  mx_s_sld C hX hbl hbA d_law_167,
  mx_s_aloadT C d_law_168 rfl,
  mx_s_iload_n C d_law_169 rfl,
  mx_s_iconst C d_law_170 (by decide),
  mx_s_iadd C d_law_171,
  mx_s_sld C hX hbl hbA d_law_172,
  mx_s_cv2 C (m_M_letter l) rfl (cwV 2 C.2.2.2.2.1 (mx_gV (fun w h => mx_T0_in h) (mx_in0 (by decide +kernel) rfl) (mx_in0 (by decide +kernel) rfl) (mx_in0 (by decide +kernel) rfl) (mx_in0 (by decide +kernel) rfl) (mx_in0 (by decide +kernel) rfl)) rfl rfl rfl (by decide +kernel) ⟨by decide, by decide⟩) d_law_173 ⟨by decide, by decide⟩,
  mx_s_ic_eq C d_law_176 (by decide),
  mx_s_aload_n C d_law_181 rfl,
  mx_s_aloadT C d_law_182 rfl,
  mx_s_iload_n C d_law_183 rfl,
  mx_s_iconst C d_law_184 (by decide),
  mx_s_iadd C d_law_185,
  mx_s_sld C hX hbl hbA d_law_186,
  mx_s_aloadT C d_law_187 rfl,
  mx_s_iload_n C d_law_188 rfl,
  mx_s_iconst C d_law_189 (by decide),
  mx_s_iadd C d_law_190,
  mx_s_sld C hX hbl hbA d_law_191,
  mx_s_aloadT C d_law_192 rfl,
  mx_s_iload_n C d_law_193 rfl,
  mx_s_iconst C d_law_194 (by decide),
  mx_s_iadd C d_law_195,
  mx_s_sld C hX hbl hbA d_law_196,
  mx_s_cv3 C (m_L_ladder l) rfl (cwV 3 C.2.2.2.2.1 (mx_gV (fun w h => mx_T0_in h) (mx_in0 (by decide +kernel) rfl) (mx_in0 (by decide +kernel) rfl) (mx_in0 (by decide +kernel) rfl) (mx_in0 (by decide +kernel) rfl) (mx_in0 (by decide +kernel) rfl)) rfl rfl rfl (by decide +kernel) ⟨by decide, by decide⟩) d_law_197 ⟨by decide, by decide⟩,
  mx_s_aload_n C d_law_200 rfl,
  mx_s_aloadT C d_law_201 rfl,
  mx_s_iload_n C d_law_202 rfl,
  mx_s_iconst C d_law_203 (by decide),
  mx_s_iadd C d_law_204,
  mx_s_sld C hX hbl hbA d_law_205,
  mx_s_aloadT C d_law_206 rfl,
  mx_s_iload_n C d_law_207 rfl,
  mx_s_iconst C d_law_208 (by decide),
  mx_s_iadd C d_law_209,
  mx_s_sld C hX hbl hbA d_law_210,
  mx_s_aloadT C d_law_211 rfl,
  mx_s_iload_n C d_law_212 rfl,
  mx_s_iconst C d_law_213 (by decide),
  mx_s_iadd C d_law_214,
  mx_s_sld C hX hbl hbA d_law_215,
  mx_s_cv3 C (m_M_ladder l) rfl (cwV 3 C.2.2.2.2.1 (mx_gV (fun w h => mx_T0_in h) (mx_in0 (by decide +kernel) rfl) (mx_in0 (by decide +kernel) rfl) (mx_in0 (by decide +kernel) rfl) (mx_in0 (by decide +kernel) rfl) (mx_in0 (by decide +kernel) rfl)) rfl rfl rfl (by decide +kernel) ⟨by decide, by decide⟩) d_law_216 ⟨by decide, by decide⟩,
  mx_s_ic_eq C d_law_219 (by decide),
  mx_s_aload_n C d_law_224 rfl,
  mx_s_aloadT C d_law_225 rfl,
  mx_s_iload_n C d_law_226 rfl,
  mx_s_iconst C d_law_227 (by decide),
  mx_s_iadd C d_law_228,
  mx_s_sld C hX hbl hbA d_law_229,
  mx_s_cv1 C (m_L_step l) rfl (cwV 1 C.2.2.2.2.1 (mx_gV (fun w h => mx_T0_in h) (mx_in0 (by decide +kernel) rfl) (mx_in0 (by decide +kernel) rfl) (mx_in0 (by decide +kernel) rfl) (mx_in0 (by decide +kernel) rfl) (mx_in0 (by decide +kernel) rfl)) rfl rfl rfl (by decide +kernel) ⟨by decide, by decide⟩) d_law_230 ⟨by decide, by decide⟩,
  mx_s_aload_n C d_law_233 rfl,
  mx_s_aloadT C d_law_234 rfl,
  mx_s_iload_n C d_law_235 rfl,
  mx_s_iconst C d_law_236 (by decide),
  mx_s_iadd C d_law_237,
  mx_s_sld C hX hbl hbA d_law_238,
  mx_s_cv1 C (m_M_step l) rfl (cwV 1 C.2.2.2.2.1 (mx_gV (fun w h => mx_T0_in h) (mx_in0 (by decide +kernel) rfl) (mx_in0 (by decide +kernel) rfl) (mx_in0 (by decide +kernel) rfl) (mx_in0 (by decide +kernel) rfl) (mx_in0 (by decide +kernel) rfl)) rfl rfl rfl (by decide +kernel) ⟨by decide, by decide⟩) d_law_239 ⟨by decide, by decide⟩,
  mx_s_ic_eq C d_law_242 (by decide),
  mx_s_aload_n C d_law_247 rfl,
  mx_s_cv0 C (m_L_ways l) rfl (cwV 0 C.2.2.2.2.1 (mx_gV (fun w h => mx_T0_in h) (mx_in0 (by decide +kernel) rfl) (mx_in0 (by decide +kernel) rfl) (mx_in0 (by decide +kernel) rfl) (mx_in0 (by decide +kernel) rfl) (mx_in0 (by decide +kernel) rfl)) rfl rfl rfl (by decide +kernel) ⟨by decide, by decide⟩) d_law_248 ⟨by decide, by decide⟩,
  mx_s_aload_n C d_law_251 rfl,
  mx_s_cv0 C (m_M_ways l) rfl (cwV 0 C.2.2.2.2.1 (mx_gV (fun w h => mx_T0_in h) (mx_in0 (by decide +kernel) rfl) (mx_in0 (by decide +kernel) rfl) (mx_in0 (by decide +kernel) rfl) (mx_in0 (by decide +kernel) rfl) (mx_in0 (by decide +kernel) rfl)) rfl rfl rfl (by decide +kernel) ⟨by decide, by decide⟩) d_law_252 ⟨by decide, by decide⟩,
  mx_s_lcmp C d_law_255,
  mx_s_if_eq C d_law_256 (by decide),
  mx_s_aload_n C d_law_261 rfl,
  mx_s_aloadT C d_law_262 rfl,
  mx_s_iload_n C d_law_263 rfl,
  mx_s_iconst C d_law_264 (by decide),
  mx_s_iadd C d_law_265,
  mx_s_sld C hX hbl hbA d_law_266,
  mx_s_cv1 C (m_L_gather l) rfl (cwV 1 C.2.2.2.2.1 (mx_gV (fun w h => mx_T0_in h) (mx_in0 (by decide +kernel) rfl) (mx_in0 (by decide +kernel) rfl) (mx_in0 (by decide +kernel) rfl) (mx_in0 (by decide +kernel) rfl) (mx_in0 (by decide +kernel) rfl)) rfl rfl rfl (by decide +kernel) ⟨by decide, by decide⟩) d_law_267 ⟨by decide, by decide⟩,
  mx_s_aload_n C d_law_270 rfl,
  mx_s_aloadT C d_law_271 rfl,
  mx_s_iload_n C d_law_272 rfl,
  mx_s_iconst C d_law_273 (by decide),
  mx_s_iadd C d_law_274,
  mx_s_sld C hX hbl hbA d_law_275,
  mx_s_cv1 C (m_M_gather l) rfl (cwV 1 C.2.2.2.2.1 (mx_gV (fun w h => mx_T0_in h) (mx_in0 (by decide +kernel) rfl) (mx_in0 (by decide +kernel) rfl) (mx_in0 (by decide +kernel) rfl) (mx_in0 (by decide +kernel) rfl) (mx_in0 (by decide +kernel) rfl)) rfl rfl rfl (by decide +kernel) ⟨by decide, by decide⟩) d_law_276 ⟨by decide, by decide⟩,
  mx_s_ic_eq C d_law_279 (by decide),
  mx_s_aload_n C d_law_284 rfl,
  mx_s_aloadT C d_law_285 rfl,
  mx_s_iload_n C d_law_286 rfl,
  mx_s_iconst C d_law_287 (by decide),
  mx_s_iadd C d_law_288,
  mx_s_sld C hX hbl hbA d_law_289,
  mx_s_aloadT C d_law_290 rfl,
  mx_s_iload_n C d_law_291 rfl,
  mx_s_iconst C d_law_292 (by decide),
  mx_s_iadd C d_law_293,
  mx_s_sld C hX hbl hbA d_law_294,
  mx_s_cv2 C (m_L_gathered l) rfl (cwV 2 C.2.2.2.2.1 (mx_gV (fun w h => mx_T0_in h) (mx_in0 (by decide +kernel) rfl) (mx_in0 (by decide +kernel) rfl) (mx_in0 (by decide +kernel) rfl) (mx_in0 (by decide +kernel) rfl) (mx_in0 (by decide +kernel) rfl)) rfl rfl rfl (by decide +kernel) ⟨by decide, by decide⟩) d_law_295 ⟨by decide, by decide⟩,
  mx_s_aload_n C d_law_298 rfl,
  mx_s_aloadT C d_law_299 rfl,
  mx_s_iload_n C d_law_300 rfl,
  mx_s_iconst C d_law_301 (by decide),
  mx_s_iadd C d_law_302,
  mx_s_sld C hX hbl hbA d_law_303,
  mx_s_aloadT C d_law_304 rfl,
  mx_s_iload_n C d_law_305 rfl,
  mx_s_iconst C d_law_306 (by decide),
  mx_s_iadd C d_law_307,
  mx_s_sld C hX hbl hbA d_law_308,
  mx_s_cv2 C (m_M_gathered l) rfl (cwV 2 C.2.2.2.2.1 (mx_gV (fun w h => mx_T0_in h) (mx_in0 (by decide +kernel) rfl) (mx_in0 (by decide +kernel) rfl) (mx_in0 (by decide +kernel) rfl) (mx_in0 (by decide +kernel) rfl) (mx_in0 (by decide +kernel) rfl)) rfl rfl rfl (by decide +kernel) ⟨by decide, by decide⟩) d_law_309 ⟨by decide, by decide⟩,
  mx_s_ic_eq C d_law_312 (by decide),
  mx_s_aload_n C d_law_317 rfl,
  mx_s_aloadT C d_law_318 rfl,
  mx_s_iload_n C d_law_319 rfl,
  mx_s_iconst C d_law_320 (by decide),
  mx_s_iadd C d_law_321,
  mx_s_sld C hX hbl hbA d_law_322,
  mx_s_cv1 C (m_L_square l) rfl (cwV 1 C.2.2.2.2.1 (mx_gV (fun w h => mx_T0_in h) (mx_in0 (by decide +kernel) rfl) (mx_in0 (by decide +kernel) rfl) (mx_in0 (by decide +kernel) rfl) (mx_in0 (by decide +kernel) rfl) (mx_in0 (by decide +kernel) rfl)) rfl rfl rfl (by decide +kernel) ⟨by decide, by decide⟩) d_law_323 ⟨by decide, by decide⟩,
  mx_s_aload_n C d_law_326 rfl,
  mx_s_aloadT C d_law_327 rfl,
  mx_s_iload_n C d_law_328 rfl,
  mx_s_iconst C d_law_329 (by decide),
  mx_s_iadd C d_law_330,
  mx_s_sld C hX hbl hbA d_law_331,
  mx_s_cv1 C (m_M_square l) rfl (cwV 1 C.2.2.2.2.1 (mx_gV (fun w h => mx_T0_in h) (mx_in0 (by decide +kernel) rfl) (mx_in0 (by decide +kernel) rfl) (mx_in0 (by decide +kernel) rfl) (mx_in0 (by decide +kernel) rfl) (mx_in0 (by decide +kernel) rfl)) rfl rfl rfl (by decide +kernel) ⟨by decide, by decide⟩) d_law_332 ⟨by decide, by decide⟩,
  mx_s_ic_eq C d_law_335 (by decide),
  mx_s_aload_n C d_law_340 rfl,
  mx_s_aloadT C d_law_341 rfl,
  mx_s_iload_n C d_law_342 rfl,
  mx_s_iconst C d_law_343 (by decide),
  mx_s_iadd C d_law_344,
  mx_s_sld C hX hbl hbA d_law_345,
  mx_s_cv1 C (m_L_line l) rfl (cwV 1 C.2.2.2.2.1 (mx_gV (fun w h => mx_T0_in h) (mx_in0 (by decide +kernel) rfl) (mx_in0 (by decide +kernel) rfl) (mx_in0 (by decide +kernel) rfl) (mx_in0 (by decide +kernel) rfl) (mx_in0 (by decide +kernel) rfl)) rfl rfl rfl (by decide +kernel) ⟨by decide, by decide⟩) d_law_346 ⟨by decide, by decide⟩,
  mx_s_aload_n C d_law_349 rfl,
  mx_s_aloadT C d_law_350 rfl,
  mx_s_iload_n C d_law_351 rfl,
  mx_s_iconst C d_law_352 (by decide),
  mx_s_iadd C d_law_353,
  mx_s_sld C hX hbl hbA d_law_354,
  mx_s_cv1 C (m_M_line l) rfl (cwV 1 C.2.2.2.2.1 (mx_gV (fun w h => mx_T0_in h) (mx_in0 (by decide +kernel) rfl) (mx_in0 (by decide +kernel) rfl) (mx_in0 (by decide +kernel) rfl) (mx_in0 (by decide +kernel) rfl) (mx_in0 (by decide +kernel) rfl)) rfl rfl rfl (by decide +kernel) ⟨by decide, by decide⟩) d_law_355 ⟨by decide, by decide⟩,
  mx_s_ic_eq C d_law_358 (by decide),
  mx_s_aload_n C d_law_363 rfl,
  mx_s_aloadT C d_law_364 rfl,
  mx_s_iload_n C d_law_365 rfl,
  mx_s_iconst C d_law_366 (by decide),
  mx_s_iadd C d_law_367,
  mx_s_sld C hX hbl hbA d_law_368,
  mx_s_aloadT C d_law_369 rfl,
  mx_s_iload_n C d_law_370 rfl,
  mx_s_iconst C d_law_371 (by decide),
  mx_s_iadd C d_law_372,
  mx_s_sld C hX hbl hbA d_law_373,
  mx_s_aloadT C d_law_374 rfl,
  mx_s_iload_n C d_law_375 rfl,
  mx_s_iconst C d_law_376 (by decide),
  mx_s_iadd C d_law_377,
  mx_s_sld C hX hbl hbA d_law_378,
  mx_s_aloadT C d_law_379 rfl,
  mx_s_iload_n C d_law_380 rfl,
  mx_s_iconst C d_law_381 (by decide),
  mx_s_iadd C d_law_382,
  mx_s_sld C hX hbl hbA d_law_383,
  mx_s_cv4 C (m_L_hide l) rfl (cwV 4 C.2.2.2.2.1 (mx_gV (fun w h => mx_T0_in h) (mx_in0 (by decide +kernel) rfl) (mx_in0 (by decide +kernel) rfl) (mx_in0 (by decide +kernel) rfl) (mx_in0 (by decide +kernel) rfl) (mx_in0 (by decide +kernel) rfl)) rfl rfl rfl (by decide +kernel) ⟨by decide, by decide⟩) d_law_384 ⟨by decide, by decide⟩,
  mx_s_aload_n C d_law_387 rfl,
  mx_s_aloadT C d_law_388 rfl,
  mx_s_iload_n C d_law_389 rfl,
  mx_s_iconst C d_law_390 (by decide),
  mx_s_iadd C d_law_391,
  mx_s_sld C hX hbl hbA d_law_392,
  mx_s_aloadT C d_law_393 rfl,
  mx_s_iload_n C d_law_394 rfl,
  mx_s_iconst C d_law_395 (by decide),
  mx_s_iadd C d_law_396,
  mx_s_sld C hX hbl hbA d_law_397,
  mx_s_aloadT C d_law_398 rfl,
  mx_s_iload_n C d_law_399 rfl,
  mx_s_iconst C d_law_400 (by decide),
  mx_s_iadd C d_law_401,
  mx_s_sld C hX hbl hbA d_law_402,
  mx_s_aloadT C d_law_403 rfl,
  mx_s_iload_n C d_law_404 rfl,
  mx_s_iconst C d_law_405 (by decide),
  mx_s_iadd C d_law_406,
  mx_s_sld C hX hbl hbA d_law_407,
  mx_s_cv4 C (m_M_hide l) rfl (cwV 4 C.2.2.2.2.1 (mx_gV (fun w h => mx_T0_in h) (mx_in0 (by decide +kernel) rfl) (mx_in0 (by decide +kernel) rfl) (mx_in0 (by decide +kernel) rfl) (mx_in0 (by decide +kernel) rfl) (mx_in0 (by decide +kernel) rfl)) rfl rfl rfl (by decide +kernel) ⟨by decide, by decide⟩) d_law_408 ⟨by decide, by decide⟩,
  mx_s_ic_eq C d_law_411 (by decide),
  mx_s_aload_n C d_law_416 rfl,
  mx_s_aloadT C d_law_417 rfl,
  mx_s_iload_n C d_law_418 rfl,
  mx_s_iconst C d_law_419 (by decide),
  mx_s_iadd C d_law_420,
  mx_s_sld C hX hbl hbA d_law_421,
  mx_s_i2l C d_law_422,
  mx_s_bipush C d_law_423 (by decide),
  mx_s_lshl C d_law_425,
  mx_s_aloadT C d_law_426 rfl,
  mx_s_iload_n C d_law_427 rfl,
  mx_s_iconst C d_law_428 (by decide),
  mx_s_iadd C d_law_429,
  mx_s_sld C hX hbl hbA d_law_430,
  mx_s_i2l C d_law_431,
  mx_s_ldc2 C d_law_432 (by decide +kernel),
  mx_s_land C d_law_435,
  mx_s_lor C d_law_436,
  mx_s_cv1 C (m_L_fill l) rfl (cwV 1 C.2.2.2.2.1 (mx_gV (fun w h => mx_T0_in h) (mx_in0 (by decide +kernel) rfl) (mx_in0 (by decide +kernel) rfl) (mx_in0 (by decide +kernel) rfl) (mx_in0 (by decide +kernel) rfl) (mx_in0 (by decide +kernel) rfl)) rfl rfl rfl (by decide +kernel) ⟨by decide, by decide⟩) d_law_437 ⟨by decide, by decide⟩,
  mx_s_aload_n C d_law_440 rfl,
  mx_s_aloadT C d_law_441 rfl,
  mx_s_iload_n C d_law_442 rfl,
  mx_s_iconst C d_law_443 (by decide),
  mx_s_iadd C d_law_444,
  mx_s_sld C hX hbl hbA d_law_445,
  mx_s_i2l C d_law_446,
  mx_s_bipush C d_law_447 (by decide),
  mx_s_lshl C d_law_449,
  mx_s_aloadT C d_law_450 rfl,
  mx_s_iload_n C d_law_451 rfl,
  mx_s_iconst C d_law_452 (by decide),
  mx_s_iadd C d_law_453,
  mx_s_sld C hX hbl hbA d_law_454,
  mx_s_i2l C d_law_455,
  mx_s_ldc2 C d_law_456 (by decide +kernel),
  mx_s_land C d_law_459,
  mx_s_lor C d_law_460,
  mx_s_cv1 C (m_M_fill l) rfl (cwV 1 C.2.2.2.2.1 (mx_gV (fun w h => mx_T0_in h) (mx_in0 (by decide +kernel) rfl) (mx_in0 (by decide +kernel) rfl) (mx_in0 (by decide +kernel) rfl) (mx_in0 (by decide +kernel) rfl) (mx_in0 (by decide +kernel) rfl)) rfl rfl rfl (by decide +kernel) ⟨by decide, by decide⟩) d_law_461 ⟨by decide, by decide⟩,
  mx_s_ic_eq C d_law_464 (by decide),
  mx_s_aload_n C d_law_469 rfl,
  mx_s_aloadT C d_law_470 rfl,
  mx_s_iload_n C d_law_471 rfl,
  mx_s_iconst C d_law_472 (by decide),
  mx_s_iadd C d_law_473,
  mx_s_sld C hX hbl hbA d_law_474,
  mx_s_aloadT C d_law_475 rfl,
  mx_s_iload_n C d_law_476 rfl,
  mx_s_iconst C d_law_477 (by decide),
  mx_s_iadd C d_law_478,
  mx_s_sld C hX hbl hbA d_law_479,
  mx_s_cv2 C (m_L_cell l) rfl (cwV 2 C.2.2.2.2.1 (mx_gV (fun w h => mx_T0_in h) (mx_in0 (by decide +kernel) rfl) (mx_in0 (by decide +kernel) rfl) (mx_in0 (by decide +kernel) rfl) (mx_in0 (by decide +kernel) rfl) (mx_in0 (by decide +kernel) rfl)) rfl rfl rfl (by decide +kernel) ⟨by decide, by decide⟩) d_law_480 ⟨by decide, by decide⟩,
  mx_s_aload_n C d_law_483 rfl,
  mx_s_aloadT C d_law_484 rfl,
  mx_s_iload_n C d_law_485 rfl,
  mx_s_iconst C d_law_486 (by decide),
  mx_s_iadd C d_law_487,
  mx_s_sld C hX hbl hbA d_law_488,
  mx_s_aloadT C d_law_489 rfl,
  mx_s_iload_n C d_law_490 rfl,
  mx_s_iconst C d_law_491 (by decide),
  mx_s_iadd C d_law_492,
  mx_s_sld C hX hbl hbA d_law_493,
  mx_s_cv2 C (m_M_cell l) rfl (cwV 2 C.2.2.2.2.1 (mx_gV (fun w h => mx_T0_in h) (mx_in0 (by decide +kernel) rfl) (mx_in0 (by decide +kernel) rfl) (mx_in0 (by decide +kernel) rfl) (mx_in0 (by decide +kernel) rfl) (mx_in0 (by decide +kernel) rfl)) rfl rfl rfl (by decide +kernel) ⟨by decide, by decide⟩) d_law_494 ⟨by decide, by decide⟩,
  mx_s_ic_eq C d_law_497 (by decide),
  mx_s_aload_n C d_law_502 rfl,
  mx_s_aloadT C d_law_503 rfl,
  mx_s_iload_n C d_law_504 rfl,
  mx_s_iconst C d_law_505 (by decide),
  mx_s_iadd C d_law_506,
  mx_s_sld C hX hbl hbA d_law_507,
  mx_s_cv1 C (m_L_found l) rfl (cwV 1 C.2.2.2.2.1 (mx_gV (fun w h => mx_T0_in h) (mx_in0 (by decide +kernel) rfl) (mx_in0 (by decide +kernel) rfl) (mx_in0 (by decide +kernel) rfl) (mx_in0 (by decide +kernel) rfl) (mx_in0 (by decide +kernel) rfl)) rfl rfl rfl (by decide +kernel) ⟨by decide, by decide⟩) d_law_508 ⟨by decide, by decide⟩,
  mx_s_aload_n C d_law_511 rfl,
  mx_s_aloadT C d_law_512 rfl,
  mx_s_iload_n C d_law_513 rfl,
  mx_s_iconst C d_law_514 (by decide),
  mx_s_iadd C d_law_515,
  mx_s_sld C hX hbl hbA d_law_516,
  mx_s_cv1 C (m_M_found l) rfl (cwV 1 C.2.2.2.2.1 (mx_gV (fun w h => mx_T0_in h) (mx_in0 (by decide +kernel) rfl) (mx_in0 (by decide +kernel) rfl) (mx_in0 (by decide +kernel) rfl) (mx_in0 (by decide +kernel) rfl) (mx_in0 (by decide +kernel) rfl)) rfl rfl rfl (by decide +kernel) ⟨by decide, by decide⟩) d_law_517 ⟨by decide, by decide⟩,
  mx_s_ic_eq C d_law_520 (by decide),
  mx_s_aload_n C d_law_525 rfl,
  mx_s_aloadT C d_law_526 rfl,
  mx_s_iload_n C d_law_527 rfl,
  mx_s_iconst C d_law_528 (by decide),
  mx_s_iadd C d_law_529,
  mx_s_sld C hX hbl hbA d_law_530,
  mx_s_aloadT C d_law_531 rfl,
  mx_s_iload_n C d_law_532 rfl,
  mx_s_iconst C d_law_533 (by decide),
  mx_s_iadd C d_law_534,
  mx_s_sld C hX hbl hbA d_law_535,
  mx_s_cv2 C (m_L_where l) rfl (cwV 2 C.2.2.2.2.1 (mx_gV (fun w h => mx_T0_in h) (mx_in0 (by decide +kernel) rfl) (mx_in0 (by decide +kernel) rfl) (mx_in0 (by decide +kernel) rfl) (mx_in0 (by decide +kernel) rfl) (mx_in0 (by decide +kernel) rfl)) rfl rfl rfl (by decide +kernel) ⟨by decide, by decide⟩) d_law_536 ⟨by decide, by decide⟩,
  mx_s_aload_n C d_law_539 rfl,
  mx_s_aloadT C d_law_540 rfl,
  mx_s_iload_n C d_law_541 rfl,
  mx_s_iconst C d_law_542 (by decide),
  mx_s_iadd C d_law_543,
  mx_s_sld C hX hbl hbA d_law_544,
  mx_s_aloadT C d_law_545 rfl,
  mx_s_iload_n C d_law_546 rfl,
  mx_s_iconst C d_law_547 (by decide),
  mx_s_iadd C d_law_548,
  mx_s_sld C hX hbl hbA d_law_549,
  mx_s_cv2 C (m_M_where l) rfl (cwV 2 C.2.2.2.2.1 (mx_gV (fun w h => mx_T0_in h) (mx_in0 (by decide +kernel) rfl) (mx_in0 (by decide +kernel) rfl) (mx_in0 (by decide +kernel) rfl) (mx_in0 (by decide +kernel) rfl) (mx_in0 (by decide +kernel) rfl)) rfl rfl rfl (by decide +kernel) ⟨by decide, by decide⟩) d_law_550 ⟨by decide, by decide⟩,
  mx_s_ic_eq C d_law_553 (by decide),
  mx_s_aload_n C d_law_558 rfl,
  mx_s_cv0 C (m_L_wipe l) rfl (cwV 0 C.2.2.2.2.1 (mx_gV (fun w h => mx_T0_in h) (mx_in0 (by decide +kernel) rfl) (mx_in0 (by decide +kernel) rfl) (mx_in0 (by decide +kernel) rfl) (mx_in0 (by decide +kernel) rfl) (mx_in0 (by decide +kernel) rfl)) rfl rfl rfl (by decide +kernel) ⟨by decide, by decide⟩) d_law_559 ⟨by decide, by decide⟩,
  mx_s_aload_n C d_law_562 rfl,
  mx_s_cv0 C (m_M_wipe l) rfl (cwV 0 C.2.2.2.2.1 (mx_gV (fun w h => mx_T0_in h) (mx_in0 (by decide +kernel) rfl) (mx_in0 (by decide +kernel) rfl) (mx_in0 (by decide +kernel) rfl) (mx_in0 (by decide +kernel) rfl) (mx_in0 (by decide +kernel) rfl)) rfl rfl rfl (by decide +kernel) ⟨by decide, by decide⟩) d_law_563 ⟨by decide, by decide⟩,
  mx_s_goto C d_law_566 (by decide),
  mx_s_iinc C d_law_569 (by decide) (by decide),
  mx_s_goto C d_law_572 (by decide),
  mx_s_iconst C d_law_575 (by decide),
  mx_s_law C hr hlk d_law_576,
  trivial⟩
end
section
theorem vin0 : vp_in (nI 0) 5 := vp_in_nI (by decide) (by decide)
theorem vin1 : vp_in (nI 0 + nI 1) 5 := by
  rw [nI_add]
  exact vp_in_nI (by decide) (by decide)
theorem vin2 : vp_in (nI 0 + nI 2) 5 := by
  rw [nI_add]
  exact vp_in_nI (by decide) (by decide)
theorem vin3 : vp_in (nI 0 + nI 3) 5 := by
  rw [nI_add]
  exact vp_in_nI (by decide) (by decide)
theorem vin4 : vp_in (nI 0 + nI 4) 5 := by
  rw [nI_add]
  exact vp_in_nI (by decide) (by decide)
theorem ins_of {x y : Int32} {i j : Nat} (hi : i < 8) (hj : j < 8) (ei : x = nI i) (ej : y = nI j) : ins x y := by
  intro h
  subst ei
  subst ej
  rcases h with h | h | h | h
  · exact nI_pos (by omega) h
  · exact absurd ((nI_leI (by omega) (by omega)).mp h) (by omega)
  · exact nI_pos (by omega) h
  · exact absurd ((nI_leI (by omega) (by omega)).mp h) (by omega)
set_option maxRecDepth 100000 in
set_option maxHeartbeats 8000000 in
theorem law_walk {L : Nat} {xs : Nat → Int32} (hL : L ≤ 5) (Rr : mx_K) (go : ∀ {pc : Nat} {o : mx_O} {lv : mx_L} {st : mx_S} {F : mx_F} {ca sl : Nat}, mx_at (t_law L xs) pc = some o → o lv st F ca sl Rr → Rr pc lv st F ca sl) : Rr 0 (mx_en [mx_tb 9] 4) [] (fun _ => none) 0 0 := by
  have done : L = 5 → ∀ F'' : mx_F, Rr 569 [some (mx_tb 9), some (mx_r 0), some (mx_r 40), some (mx_i (nI 0))] [] F'' 43 3337 := by
    intro hL5 F''
    refine go rfl ⟨_, rfl, ?_⟩
    refine go rfl ?_
    rw [nI_add]
    refine go rfl ⟨_, rfl, ?_⟩
    refine go rfl ⟨_, rfl, ?_⟩
    refine go rfl ⟨_, rfl, ?_⟩
    refine go rfl ?_
    refine go rfl ⟨_, _, _, rfl, ?_⟩
    rw [hL5]
    refine go rfl ⟨_, _, _, rfl, fun c => ?_, fun c => ?_⟩
    · refine go rfl ?_
      refine go rfl ⟨rfl, rfl, rfl⟩
    · exact absurd (by decide) c
  refine go rfl ⟨(rfl), (fun j x h => by cases h), rfl, rfl, rfl, rfl, ?_⟩
  refine go rfl ⟨_, _, rfl, rfl, ?_⟩
  refine go rfl ⟨_, _, rfl, rfl, rfl, rfl, rfl, rfl, ⟨rfl, rfl, fun k hk => mx_out ⟨rfl, fun j x h => by cases h⟩ (by omega) (mx_noB (n := 1) hk rfl), fun F' hfr hf => ?_⟩⟩
  obtain ⟨h0, h1, h2, h3, h4, h5, h6, h7, h8, h9, h10, h11, h12, h13, h14, h15, h16, h17, h18, h19, h20, h21, h22, h23, h24, h25, h26, h27, h28, h29, h30⟩ := hfr
  show Rr 7 _ _ F' _ _
  rw [mx_as1 h0]
  refine go rfl ⟨_, _, rfl, ?_⟩
  refine go rfl ⟨((hf 40 (by decide)).1), (mx_no_put (hf 40 (by decide)).2 (mx_noO rfl)), rfl, rfl, rfl, rfl, ?_⟩
  refine go rfl ⟨_, _, rfl, rfl, ?_⟩
  refine go rfl ⟨_, _, rfl, rfl, rfl, rfl, rfl, rfl, ⟨rfl, rfl, (hf 41 (by decide)).1, mx_no_put (mx_no_put (hf 41 (by decide)).2 (mx_noO rfl)) (mx_noO rfl), (hf 42 (by decide)).1, mx_no_put (mx_no_put (hf 42 (by decide)).2 (mx_noO rfl)) (mx_noO rfl), (hf 43 (by decide)).1, mx_no_put (mx_no_put (hf 43 (by decide)).2 (mx_noO rfl)) (mx_noO rfl), (hf 44 (by decide)).1, mx_no_put (mx_no_put (hf 44 (by decide)).2 (mx_noO rfl)) (mx_noO rfl), (hf 45 (by decide)).1, mx_no_put (mx_no_put (hf 45 (by decide)).2 (mx_noO rfl)) (mx_noO rfl), (hf 46 (by decide)).1, mx_no_put (mx_no_put (hf 46 (by decide)).2 (mx_noO rfl)) (mx_noO rfl), (hf 47 (by decide)).1, mx_no_put (mx_no_put (hf 47 (by decide)).2 (mx_noO rfl)) (mx_noO rfl), (hf 48 (by decide)).1, mx_no_put (mx_no_put (hf 48 (by decide)).2 (mx_noO rfl)) (mx_noO rfl), (hf 49 (by decide)).1, mx_no_put (mx_no_put (hf 49 (by decide)).2 (mx_noO rfl)) (mx_noO rfl), (hf 50 (by decide)).1, mx_no_put (mx_no_put (hf 50 (by decide)).2 (mx_noO rfl)) (mx_noO rfl), (hf 51 (by decide)).1, mx_no_put (mx_no_put (hf 51 (by decide)).2 (mx_noO rfl)) (mx_noO rfl), ?_⟩⟩
  refine go rfl ⟨_, _, rfl, ?_⟩
  refine go rfl ?_
  refine go rfl ⟨_, _, rfl, ?_⟩
  refine go rfl ⟨_, rfl, ?_⟩
  refine go rfl ⟨_, rfl, ?_⟩
  refine go rfl ⟨_, rfl, ?_⟩
  refine go rfl ?_
  refine go rfl ⟨_, _, _, rfl, ?_⟩
  refine go rfl ⟨_, _, _, rfl, fun c0 => ?_, fun c0 => ?_⟩
  · refine go rfl ?_
    refine go rfl ⟨rfl, rfl, rfl⟩
  have hL5 : L = 5 := by
    rcases Nat.lt_or_ge L 5 with q | q
    · exact absurd (pk_sneg (by decide) q) (by rw [← nI_0]; exact c0)
    · omega
  subst hL5
  refine go rfl ⟨_, rfl, ?_⟩
  refine go rfl ⟨_, rfl, ?_⟩
  refine go rfl ⟨_, _, rfl, (vin0), ?_⟩
  refine go rfl ?_
  refine go rfl ⟨_, _, _, rfl, ?_⟩
  obtain ⟨k, hk, ek⟩ := pk_andE (xs (nI 0).toNatClampNeg) (m := nI 15) 4 (by decide)
  rw [ek]
  refine go rfl ⟨k, _, rfl, hk, ?_⟩
  rcases (show k = 0 ∨ k = 1 ∨ k = 2 ∨ k = 3 ∨ k = 4 ∨ k = 5 ∨ k = 6 ∨ k = 7 ∨ k = 8 ∨ k = 9 ∨ k = 10 ∨ k = 11 ∨ k = 12 ∨ k = 13 ∨ k = 14 ∨ k = 15 by omega) with rfl | rfl | rfl | rfl | rfl | rfl | rfl | rfl | rfl | rfl | rfl | rfl | rfl | rfl | rfl | rfl
  · show Rr 112 _ _ _ _ _
    refine go rfl ⟨_, rfl, ?_⟩
    refine go rfl ⟨_, rfl, ?_⟩
    refine go rfl ⟨_, rfl, ?_⟩
    refine go rfl ?_
    refine go rfl ⟨_, _, _, rfl, ?_⟩
    refine go rfl ⟨_, _, rfl, (vin1), ?_⟩
    refine go rfl ⟨_, _, _, _, rfl, rfl, rfl, rfl, rfl, ⟨0, _, _, rfl, rfl, h1, h2, by decide, fun hc => ?_, fun hc => ?_⟩⟩
    · refine go rfl ⟨_, rfl, ?_⟩
      refine go rfl ⟨_, rfl, ?_⟩
      refine go rfl ⟨_, rfl, ?_⟩
      refine go rfl ?_
      refine go rfl ⟨_, _, _, rfl, ?_⟩
      refine go rfl ⟨_, _, rfl, (vin1), ?_⟩
      refine go rfl ⟨_, _, _, _, rfl, rfl, rfl, rfl, rfl, ⟨_, _, _, _, _, _, 0, _, _, rfl, rfl, rfl, by decide, fun _ => ?_, fun hd => absurd hc hd⟩⟩
      refine go rfl ⟨_, _, _, rfl, fun c => ?_, fun c => ?_⟩
      · exact done rfl _
      · exact absurd rfl c
    · refine go rfl ⟨_, rfl, ?_⟩
      refine go rfl ⟨_, rfl, ?_⟩
      refine go rfl ⟨_, rfl, ?_⟩
      refine go rfl ?_
      refine go rfl ⟨_, _, _, rfl, ?_⟩
      refine go rfl ⟨_, _, rfl, (vin1), ?_⟩
      refine go rfl ⟨_, _, _, _, rfl, rfl, rfl, rfl, rfl, ⟨_, _, _, _, _, _, 0, _, _, rfl, rfl, rfl, by decide, fun hd => absurd hd hc, fun _ => ?_⟩⟩
      refine go rfl ⟨_, _, _, rfl, fun c => ?_, fun c => ?_⟩
      · exact done rfl _
      · exact absurd rfl c
  · show Rr 135 _ _ _ _ _
    refine go rfl ⟨_, rfl, ?_⟩
    refine go rfl ⟨_, _, _, rfl, rfl, rfl, rfl, rfl, ⟨rfl, rfl, h1, ⟨0, h3⟩, ?_⟩⟩
    refine go rfl ⟨_, rfl, ?_⟩
    refine go rfl ⟨_, _, _, rfl, rfl, rfl, rfl, rfl, ⟨_, _, _, _, _, _, rfl, rfl, fun x => ?_⟩⟩
    refine go rfl ⟨_, _, _, rfl, fun c => ?_, fun c => ?_⟩
    · exact done rfl _
    · exact absurd rfl c
  · show Rr 148 _ _ _ _ _
    refine go rfl ⟨_, rfl, ?_⟩
    refine go rfl ⟨_, rfl, ?_⟩
    refine go rfl ⟨_, rfl, ?_⟩
    refine go rfl ?_
    refine go rfl ⟨_, _, _, rfl, ?_⟩
    refine go rfl ⟨_, _, rfl, (vin1), ?_⟩
    refine go rfl ⟨_, rfl, ?_⟩
    refine go rfl ⟨_, rfl, ?_⟩
    refine go rfl ?_
    refine go rfl ⟨_, _, _, rfl, ?_⟩
    refine go rfl ⟨_, _, rfl, (vin2), ?_⟩
    refine go rfl ⟨_, _, _, _, _, rfl, rfl, rfl, rfl, rfl, ⟨_, _, rfl, rfl, h3, ?_⟩⟩
    refine go rfl ⟨_, rfl, ?_⟩
    refine go rfl ⟨_, rfl, ?_⟩
    refine go rfl ⟨_, rfl, ?_⟩
    refine go rfl ?_
    refine go rfl ⟨_, _, _, rfl, ?_⟩
    refine go rfl ⟨_, _, rfl, (vin1), ?_⟩
    refine go rfl ⟨_, rfl, ?_⟩
    refine go rfl ⟨_, rfl, ?_⟩
    refine go rfl ?_
    refine go rfl ⟨_, _, _, rfl, ?_⟩
    refine go rfl ⟨_, _, rfl, (vin2), ?_⟩
    refine go rfl ⟨_, _, _, _, _, rfl, rfl, rfl, rfl, rfl, ⟨_, _, _, _, _, _, _, _, rfl, rfl, fun x => ?_⟩⟩
    refine go rfl ⟨_, _, _, rfl, fun c => ?_, fun c => ?_⟩
    · exact done rfl _
    · exact absurd rfl c
  · show Rr 181 _ _ _ _ _
    refine go rfl ⟨_, rfl, ?_⟩
    refine go rfl ⟨_, rfl, ?_⟩
    refine go rfl ⟨_, rfl, ?_⟩
    refine go rfl ?_
    refine go rfl ⟨_, _, _, rfl, ?_⟩
    refine go rfl ⟨_, _, rfl, (vin1), ?_⟩
    refine go rfl ⟨_, rfl, ?_⟩
    refine go rfl ⟨_, rfl, ?_⟩
    refine go rfl ?_
    refine go rfl ⟨_, _, _, rfl, ?_⟩
    refine go rfl ⟨_, _, rfl, (vin2), ?_⟩
    refine go rfl ⟨_, rfl, ?_⟩
    refine go rfl ⟨_, rfl, ?_⟩
    refine go rfl ?_
    refine go rfl ⟨_, _, _, rfl, ?_⟩
    refine go rfl ⟨_, _, rfl, (vin3), ?_⟩
    refine go rfl ⟨_, _, _, _, _, _, rfl, rfl, rfl, rfl, rfl, ⟨_, _, _, _, _, _, rfl, rfl, h3, h6, fun x => ?_⟩⟩
    refine go rfl ⟨_, rfl, ?_⟩
    refine go rfl ⟨_, rfl, ?_⟩
    refine go rfl ⟨_, rfl, ?_⟩
    refine go rfl ?_
    refine go rfl ⟨_, _, _, rfl, ?_⟩
    refine go rfl ⟨_, _, rfl, (vin1), ?_⟩
    refine go rfl ⟨_, rfl, ?_⟩
    refine go rfl ⟨_, rfl, ?_⟩
    refine go rfl ?_
    refine go rfl ⟨_, _, _, rfl, ?_⟩
    refine go rfl ⟨_, _, rfl, (vin2), ?_⟩
    refine go rfl ⟨_, rfl, ?_⟩
    refine go rfl ⟨_, rfl, ?_⟩
    refine go rfl ?_
    refine go rfl ⟨_, _, _, rfl, ?_⟩
    refine go rfl ⟨_, _, rfl, (vin3), ?_⟩
    refine go rfl ⟨_, _, _, _, _, _, rfl, rfl, rfl, rfl, rfl, ⟨_, _, _, _, _, _, _, _, _, rfl, rfl, fun x => ?_⟩⟩
    refine go rfl ⟨_, _, _, rfl, fun c => ?_, fun c => ?_⟩
    · exact done rfl _
    · exact absurd rfl c
  · show Rr 224 _ _ _ _ _
    refine go rfl ⟨_, rfl, ?_⟩
    refine go rfl ⟨_, rfl, ?_⟩
    refine go rfl ⟨_, rfl, ?_⟩
    refine go rfl ?_
    refine go rfl ⟨_, _, _, rfl, ?_⟩
    refine go rfl ⟨_, _, rfl, (vin1), ?_⟩
    refine go rfl ⟨_, _, _, _, rfl, rfl, rfl, rfl, rfl, ⟨_, _, _, rfl, rfl, h6, ?_⟩⟩
    refine go rfl ⟨_, rfl, ?_⟩
    refine go rfl ⟨_, rfl, ?_⟩
    refine go rfl ⟨_, rfl, ?_⟩
    refine go rfl ?_
    refine go rfl ⟨_, _, _, rfl, ?_⟩
    refine go rfl ⟨_, _, rfl, (vin1), ?_⟩
    refine go rfl ⟨_, _, _, _, rfl, rfl, rfl, rfl, rfl, ⟨_, _, _, _, _, _, _, rfl, rfl, fun x => ?_⟩⟩
    refine go rfl ⟨_, _, _, rfl, fun c => ?_, fun c => ?_⟩
    · exact done rfl _
    · exact absurd rfl c
  · show Rr 247 _ _ _ _ _
    refine go rfl ⟨_, rfl, ?_⟩
    refine go rfl ⟨_, _, _, rfl, rfl, rfl, rfl, rfl, ⟨_, _, _, rfl, rfl, h6, ?_⟩⟩
    refine go rfl ⟨_, rfl, ?_⟩
    refine go rfl ⟨_, _, _, rfl, rfl, rfl, rfl, rfl, ⟨_, _, _, _, _, _, rfl, rfl, fun x => ?_⟩⟩
    refine go rfl ⟨_, _, _, rfl, ?_⟩
    refine go rfl ⟨_, _, rfl, fun c => ?_, fun c => ?_⟩
    · exact done rfl _
    · exact absurd rfl c
  · show Rr 261 _ _ _ _ _
    refine go rfl ⟨_, rfl, ?_⟩
    refine go rfl ⟨_, rfl, ?_⟩
    refine go rfl ⟨_, rfl, ?_⟩
    refine go rfl ?_
    refine go rfl ⟨_, _, _, rfl, ?_⟩
    refine go rfl ⟨_, _, rfl, (vin1), ?_⟩
    refine go rfl ⟨_, _, _, _, rfl, rfl, rfl, rfl, rfl, ⟨_, _, _, _, _, rfl, rfl, h1, h3, h10, fun hc => ?_, fun hc x => ?_⟩⟩
    · refine go rfl ⟨_, rfl, ?_⟩
      refine go rfl ⟨_, rfl, ?_⟩
      refine go rfl ⟨_, rfl, ?_⟩
      refine go rfl ?_
      refine go rfl ⟨_, _, _, rfl, ?_⟩
      refine go rfl ⟨_, _, rfl, (vin1), ?_⟩
      refine go rfl ⟨_, _, _, _, rfl, rfl, rfl, rfl, rfl, ⟨_, _, _, _, _, _, _, _, rfl, rfl, rfl, fun _ x y => ?_, fun hd => absurd hc hd⟩⟩
      refine go rfl ⟨_, _, _, rfl, fun c => ?_, fun c => ?_⟩
      · exact done rfl _
      · exact absurd rfl c
    · refine go rfl ⟨_, rfl, ?_⟩
      refine go rfl ⟨_, rfl, ?_⟩
      refine go rfl ⟨_, rfl, ?_⟩
      refine go rfl ?_
      refine go rfl ⟨_, _, _, rfl, ?_⟩
      refine go rfl ⟨_, _, rfl, (vin1), ?_⟩
      refine go rfl ⟨_, _, _, _, rfl, rfl, rfl, rfl, rfl, ⟨_, _, _, _, _, _, _, _, rfl, rfl, rfl, fun hd => absurd hd hc, fun _ x y => ?_⟩⟩
      refine go rfl ⟨_, _, _, rfl, fun c => ?_, fun c => ?_⟩
      · exact done rfl _
      · exact absurd rfl c
  · show Rr 284 _ _ _ _ _
    refine go rfl ⟨_, rfl, ?_⟩
    refine go rfl ⟨_, rfl, ?_⟩
    refine go rfl ⟨_, rfl, ?_⟩
    refine go rfl ?_
    refine go rfl ⟨_, _, _, rfl, ?_⟩
    refine go rfl ⟨_, _, rfl, (vin1), ?_⟩
    refine go rfl ⟨_, rfl, ?_⟩
    refine go rfl ⟨_, rfl, ?_⟩
    refine go rfl ?_
    refine go rfl ⟨_, _, _, rfl, ?_⟩
    refine go rfl ⟨_, _, rfl, (vin2), ?_⟩
    refine go rfl ⟨_, _, _, _, _, rfl, rfl, rfl, rfl, rfl, ⟨_, _, _, _, _, rfl, rfl, h10, ?_⟩⟩
    refine go rfl ⟨_, rfl, ?_⟩
    refine go rfl ⟨_, rfl, ?_⟩
    refine go rfl ⟨_, rfl, ?_⟩
    refine go rfl ?_
    refine go rfl ⟨_, _, _, rfl, ?_⟩
    refine go rfl ⟨_, _, rfl, (vin1), ?_⟩
    refine go rfl ⟨_, rfl, ?_⟩
    refine go rfl ⟨_, rfl, ?_⟩
    refine go rfl ?_
    refine go rfl ⟨_, _, _, rfl, ?_⟩
    refine go rfl ⟨_, _, rfl, (vin2), ?_⟩
    refine go rfl ⟨_, _, _, _, _, rfl, rfl, rfl, rfl, rfl, ⟨_, _, _, _, _, _, _, _, rfl, rfl, fun x => ?_⟩⟩
    refine go rfl ⟨_, _, _, rfl, fun c => ?_, fun c => ?_⟩
    · exact done rfl _
    · exact absurd rfl c
  · show Rr 317 _ _ _ _ _
    refine go rfl ⟨_, rfl, ?_⟩
    refine go rfl ⟨_, rfl, ?_⟩
    refine go rfl ⟨_, rfl, ?_⟩
    refine go rfl ?_
    refine go rfl ⟨_, _, _, rfl, ?_⟩
    refine go rfl ⟨_, _, rfl, (vin1), ?_⟩
    refine go rfl ⟨_, _, _, _, rfl, rfl, rfl, rfl, rfl, ⟨_, _, _, _, rfl, rfl, h3, h15, h17, h24, fun x => ?_, fun x y => ?_⟩⟩
    · refine go rfl ⟨_, rfl, ?_⟩
      refine go rfl ⟨_, rfl, ?_⟩
      refine go rfl ⟨_, rfl, ?_⟩
      refine go rfl ?_
      refine go rfl ⟨_, _, _, rfl, ?_⟩
      refine go rfl ⟨_, _, rfl, (vin1), ?_⟩
      refine go rfl ⟨_, _, _, _, rfl, rfl, rfl, rfl, rfl, ⟨_, _, _, _, _, _, _, _, rfl, rfl, rfl, fun x y => ?_⟩⟩
      refine go rfl ⟨_, _, _, rfl, fun c => ?_, fun c => ?_⟩
      · exact done rfl _
      · exact absurd rfl c
    · refine go rfl ⟨_, rfl, ?_⟩
      refine go rfl ⟨_, rfl, ?_⟩
      refine go rfl ⟨_, rfl, ?_⟩
      refine go rfl ?_
      refine go rfl ⟨_, _, _, rfl, ?_⟩
      refine go rfl ⟨_, _, rfl, (vin1), ?_⟩
      refine go rfl ⟨_, _, _, _, rfl, rfl, rfl, rfl, rfl, ⟨_, _, _, _, _, _, _, _, rfl, rfl, rfl, fun x y => ?_⟩⟩
      refine go rfl ⟨_, _, _, rfl, fun c => ?_, fun c => ?_⟩
      · exact done rfl _
      · exact absurd rfl c
  · show Rr 340 _ _ _ _ _
    refine go rfl ⟨_, rfl, ?_⟩
    refine go rfl ⟨_, rfl, ?_⟩
    refine go rfl ⟨_, rfl, ?_⟩
    refine go rfl ?_
    refine go rfl ⟨_, _, _, rfl, ?_⟩
    refine go rfl ⟨_, _, rfl, (vin1), ?_⟩
    refine go rfl ⟨_, _, _, _, rfl, rfl, rfl, rfl, rfl, ⟨_, _, rfl, rfl, h15, ?_⟩⟩
    refine go rfl ⟨_, rfl, ?_⟩
    refine go rfl ⟨_, rfl, ?_⟩
    refine go rfl ⟨_, rfl, ?_⟩
    refine go rfl ?_
    refine go rfl ⟨_, _, _, rfl, ?_⟩
    refine go rfl ⟨_, _, rfl, (vin1), ?_⟩
    refine go rfl ⟨_, _, _, _, rfl, rfl, rfl, rfl, rfl, ⟨_, _, _, _, _, _, _, rfl, rfl, fun x => ?_⟩⟩
    refine go rfl ⟨_, _, _, rfl, fun c => ?_, fun c => ?_⟩
    · exact done rfl _
    · exact absurd rfl c
  · show Rr 363 _ _ _ _ _
    refine go rfl ⟨_, rfl, ?_⟩
    refine go rfl ⟨_, rfl, ?_⟩
    refine go rfl ⟨_, rfl, ?_⟩
    refine go rfl ?_
    refine go rfl ⟨_, _, _, rfl, ?_⟩
    refine go rfl ⟨_, _, rfl, (vin1), ?_⟩
    refine go rfl ⟨_, rfl, ?_⟩
    refine go rfl ⟨_, rfl, ?_⟩
    refine go rfl ?_
    refine go rfl ⟨_, _, _, rfl, ?_⟩
    refine go rfl ⟨_, _, rfl, (vin2), ?_⟩
    refine go rfl ⟨_, rfl, ?_⟩
    refine go rfl ⟨_, rfl, ?_⟩
    refine go rfl ?_
    refine go rfl ⟨_, _, _, rfl, ?_⟩
    refine go rfl ⟨_, _, rfl, (vin3), ?_⟩
    refine go rfl ⟨_, rfl, ?_⟩
    refine go rfl ⟨_, rfl, ?_⟩
    refine go rfl ?_
    refine go rfl ⟨_, _, _, rfl, ?_⟩
    refine go rfl ⟨_, _, rfl, (vin4), ?_⟩
    refine go rfl ⟨_, _, _, _, _, _, _, rfl, rfl, rfl, rfl, rfl, ⟨_, _, _, _, rfl, rfl, h3, h29, ?_⟩⟩
    refine go rfl ⟨_, rfl, ?_⟩
    refine go rfl ⟨_, rfl, ?_⟩
    refine go rfl ⟨_, rfl, ?_⟩
    refine go rfl ?_
    refine go rfl ⟨_, _, _, rfl, ?_⟩
    refine go rfl ⟨_, _, rfl, (vin1), ?_⟩
    refine go rfl ⟨_, rfl, ?_⟩
    refine go rfl ⟨_, rfl, ?_⟩
    refine go rfl ?_
    refine go rfl ⟨_, _, _, rfl, ?_⟩
    refine go rfl ⟨_, _, rfl, (vin2), ?_⟩
    refine go rfl ⟨_, rfl, ?_⟩
    refine go rfl ⟨_, rfl, ?_⟩
    refine go rfl ?_
    refine go rfl ⟨_, _, _, rfl, ?_⟩
    refine go rfl ⟨_, _, rfl, (vin3), ?_⟩
    refine go rfl ⟨_, rfl, ?_⟩
    refine go rfl ⟨_, rfl, ?_⟩
    refine go rfl ?_
    refine go rfl ⟨_, _, _, rfl, ?_⟩
    refine go rfl ⟨_, _, rfl, (vin4), ?_⟩
    refine go rfl ⟨_, _, _, _, _, _, _, rfl, rfl, rfl, rfl, rfl, ⟨_, _, _, _, _, _, _, _, _, _, rfl, rfl, fun x => ?_⟩⟩
    refine go rfl ⟨_, _, _, rfl, fun c => ?_, fun c => ?_⟩
    · exact done rfl _
    · exact absurd rfl c
  · show Rr 416 _ _ _ _ _
    refine go rfl ⟨_, rfl, ?_⟩
    refine go rfl ⟨_, rfl, ?_⟩
    refine go rfl ⟨_, rfl, ?_⟩
    refine go rfl ?_
    refine go rfl ⟨_, _, _, rfl, ?_⟩
    refine go rfl ⟨_, _, rfl, (vin1), ?_⟩
    refine go rfl ⟨_, _, rfl, ?_⟩
    refine go rfl ?_
    refine go rfl ⟨_, _, _, rfl, ?_⟩
    refine go rfl ⟨_, rfl, ?_⟩
    refine go rfl ⟨_, rfl, ?_⟩
    refine go rfl ?_
    refine go rfl ⟨_, _, _, rfl, ?_⟩
    refine go rfl ⟨_, _, rfl, (vin2), ?_⟩
    refine go rfl ⟨_, _, rfl, ?_⟩
    refine go rfl ?_
    refine go rfl ⟨_, _, _, rfl, ?_⟩
    refine go rfl ⟨_, _, _, rfl, ?_⟩
    refine go rfl ⟨_, _, _, _, rfl, rfl, rfl, rfl, rfl, ⟨_, _, rfl, rfl, h3, h5, h29, rfl, ?_⟩⟩
    refine go rfl ⟨_, rfl, ?_⟩
    refine go rfl ⟨_, rfl, ?_⟩
    refine go rfl ⟨_, rfl, ?_⟩
    refine go rfl ?_
    refine go rfl ⟨_, _, _, rfl, ?_⟩
    refine go rfl ⟨_, _, rfl, (vin1), ?_⟩
    refine go rfl ⟨_, _, rfl, ?_⟩
    refine go rfl ?_
    refine go rfl ⟨_, _, _, rfl, ?_⟩
    refine go rfl ⟨_, rfl, ?_⟩
    refine go rfl ⟨_, rfl, ?_⟩
    refine go rfl ?_
    refine go rfl ⟨_, _, _, rfl, ?_⟩
    refine go rfl ⟨_, _, rfl, (vin2), ?_⟩
    refine go rfl ⟨_, _, rfl, ?_⟩
    refine go rfl ?_
    refine go rfl ⟨_, _, _, rfl, ?_⟩
    refine go rfl ⟨_, _, _, rfl, ?_⟩
    refine go rfl ⟨_, _, _, _, rfl, rfl, rfl, rfl, rfl, ⟨_, _, _, _, _, _, _, rfl, rfl, fun x => ?_⟩⟩
    refine go rfl ⟨_, _, _, rfl, fun c => ?_, fun c => ?_⟩
    · exact done rfl _
    · exact absurd rfl c
  · show Rr 469 _ _ _ _ _
    refine go rfl ⟨_, rfl, ?_⟩
    refine go rfl ⟨_, rfl, ?_⟩
    refine go rfl ⟨_, rfl, ?_⟩
    refine go rfl ?_
    refine go rfl ⟨_, _, _, rfl, ?_⟩
    refine go rfl ⟨_, _, rfl, (vin1), ?_⟩
    refine go rfl ⟨_, rfl, ?_⟩
    refine go rfl ⟨_, rfl, ?_⟩
    refine go rfl ?_
    refine go rfl ⟨_, _, _, rfl, ?_⟩
    refine go rfl ⟨_, _, rfl, (vin2), ?_⟩
    refine go rfl ⟨_, _, _, _, _, rfl, rfl, rfl, rfl, rfl, ⟨_, _, _, rfl, rfl, h29, h30, fun i j hi hj ei ej => ?_, fun hc => ?_⟩⟩
    · refine go rfl ⟨_, rfl, ?_⟩
      refine go rfl ⟨_, rfl, ?_⟩
      refine go rfl ⟨_, rfl, ?_⟩
      refine go rfl ?_
      refine go rfl ⟨_, _, _, rfl, ?_⟩
      refine go rfl ⟨_, _, rfl, (vin1), ?_⟩
      refine go rfl ⟨_, rfl, ?_⟩
      refine go rfl ⟨_, rfl, ?_⟩
      refine go rfl ?_
      refine go rfl ⟨_, _, _, rfl, ?_⟩
      refine go rfl ⟨_, _, rfl, (vin2), ?_⟩
      refine go rfl ⟨_, _, _, _, _, rfl, rfl, rfl, rfl, rfl, ⟨_, _, _, _, _, _, _, _, _, _, rfl, rfl, rfl, fun i' j' hi' hj' ei' ej' z => ?_, fun hc z => ?_⟩⟩
      · refine go rfl ⟨_, _, _, rfl, fun c => ?_, fun c => ?_⟩
        · exact done rfl _
        · exact absurd rfl c
      · exact absurd (ins_of hi hj ei ej) hc
    · refine go rfl ⟨_, rfl, ?_⟩
      refine go rfl ⟨_, rfl, ?_⟩
      refine go rfl ⟨_, rfl, ?_⟩
      refine go rfl ?_
      refine go rfl ⟨_, _, _, rfl, ?_⟩
      refine go rfl ⟨_, _, rfl, (vin1), ?_⟩
      refine go rfl ⟨_, rfl, ?_⟩
      refine go rfl ⟨_, rfl, ?_⟩
      refine go rfl ?_
      refine go rfl ⟨_, _, _, rfl, ?_⟩
      refine go rfl ⟨_, _, rfl, (vin2), ?_⟩
      refine go rfl ⟨_, _, _, _, _, rfl, rfl, rfl, rfl, rfl, ⟨_, _, _, _, _, _, _, _, _, _, rfl, rfl, rfl, fun i' j' hi' hj' ei' ej' z => absurd (ins_of hi' hj' ei' ej') hc, fun _ z => ?_⟩⟩
      refine go rfl ⟨_, _, _, rfl, fun c => ?_, fun c => ?_⟩
      · exact done rfl _
      · exact absurd rfl c
  · show Rr 502 _ _ _ _ _
    refine go rfl ⟨_, rfl, ?_⟩
    refine go rfl ⟨_, rfl, ?_⟩
    refine go rfl ⟨_, rfl, ?_⟩
    refine go rfl ?_
    refine go rfl ⟨_, _, _, rfl, ?_⟩
    refine go rfl ⟨_, _, rfl, (vin1), ?_⟩
    refine go rfl ⟨_, _, _, _, rfl, rfl, rfl, rfl, rfl, ⟨_, rfl, rfl, h3, h29, ?_⟩⟩
    refine go rfl ⟨_, rfl, ?_⟩
    refine go rfl ⟨_, rfl, ?_⟩
    refine go rfl ⟨_, rfl, ?_⟩
    refine go rfl ?_
    refine go rfl ⟨_, _, _, rfl, ?_⟩
    refine go rfl ⟨_, _, rfl, (vin1), ?_⟩
    refine go rfl ⟨_, _, _, _, rfl, rfl, rfl, rfl, rfl, ⟨_, _, _, _, _, _, _, rfl, rfl, fun x => ?_⟩⟩
    refine go rfl ⟨_, _, _, rfl, fun c => ?_, fun c => ?_⟩
    · exact done rfl _
    · exact absurd rfl c
  · show Rr 525 _ _ _ _ _
    refine go rfl ⟨_, rfl, ?_⟩
    refine go rfl ⟨_, rfl, ?_⟩
    refine go rfl ⟨_, rfl, ?_⟩
    refine go rfl ?_
    refine go rfl ⟨_, _, _, rfl, ?_⟩
    refine go rfl ⟨_, _, rfl, (vin1), ?_⟩
    refine go rfl ⟨_, rfl, ?_⟩
    refine go rfl ⟨_, rfl, ?_⟩
    refine go rfl ?_
    refine go rfl ⟨_, _, _, rfl, ?_⟩
    refine go rfl ⟨_, _, rfl, (vin2), ?_⟩
    refine go rfl ⟨_, _, _, _, _, rfl, rfl, rfl, rfl, rfl, ⟨_, _, rfl, rfl, h3, h29, ?_⟩⟩
    refine go rfl ⟨_, rfl, ?_⟩
    refine go rfl ⟨_, rfl, ?_⟩
    refine go rfl ⟨_, rfl, ?_⟩
    refine go rfl ?_
    refine go rfl ⟨_, _, _, rfl, ?_⟩
    refine go rfl ⟨_, _, rfl, (vin1), ?_⟩
    refine go rfl ⟨_, rfl, ?_⟩
    refine go rfl ⟨_, rfl, ?_⟩
    refine go rfl ?_
    refine go rfl ⟨_, _, _, rfl, ?_⟩
    refine go rfl ⟨_, _, rfl, (vin2), ?_⟩
    refine go rfl ⟨_, _, _, _, _, rfl, rfl, rfl, rfl, rfl, ⟨_, _, _, _, _, _, _, _, rfl, rfl, fun x => ?_⟩⟩
    refine go rfl ⟨_, _, _, rfl, fun c => ?_, fun c => ?_⟩
    · exact done rfl _
    · exact absurd rfl c
  · show Rr 558 _ _ _ _ _
    refine go rfl ⟨_, rfl, ?_⟩
    refine go rfl ⟨_, _, _, rfl, rfl, rfl, rfl, rfl, ⟨_, rfl, rfl, h29, h30, fun f => ?_⟩⟩
    refine go rfl ⟨_, rfl, ?_⟩
    refine go rfl ⟨_, _, _, rfl, rfl, rfl, rfl, rfl, ⟨_, _, _, _, _, _, _, _, rfl, rfl, rfl, fun x y => ?_⟩⟩
    refine go rfl ?_
    exact done rfl _
end
section
theorem st_RIGHT {args : Array Value} {s : State} (h : (Jvm.Cond.and given_1 narrow_1).before args s = true) : ∃ t : Nat, (Term.static "LadderWords$Grid" "RIGHT" "[I").eval args s none [] s = some (.ref t) ∧ va_T .int t 8 (fun j => .int (mx_t0 j)) (fun q => s.heap.size ≤ q) s s.heap := by
  have hs := flat_of_before _ h
  refine va_Tof (N := 8) (by decide) (hs (Cond.arrayOf (Term.static "LadderWords$Grid" "RIGHT" "[I") .int) (by decide +kernel)) (va_eqt (hs (Cond.eq (Term.length (Term.static "LadderWords$Grid" "RIGHT" "[I")) (Term.int 8)) (by decide +kernel))) ?_ (fun a ha hb => by omega)
  intro j hj
  rcases (show j = 0 ∨ j = 1 ∨ j = 2 ∨ j = 3 ∨ j = 4 ∨ j = 5 ∨ j = 6 ∨ j = 7 by omega) with rfl | rfl | rfl | rfl | rfl | rfl | rfl | rfl
  · exact va_eqt (hs (Cond.eq (Term.elem (Term.static "LadderWords$Grid" "RIGHT" "[I") (Term.int 0)) (Term.int 1)) (by decide +kernel))
  · exact va_eqt (hs (Cond.eq (Term.elem (Term.static "LadderWords$Grid" "RIGHT" "[I") (Term.int 1)) (Term.int 1)) (by decide +kernel))
  · exact va_eqt (hs (Cond.eq (Term.elem (Term.static "LadderWords$Grid" "RIGHT" "[I") (Term.int 2)) (Term.int 0)) (by decide +kernel))
  · exact va_eqt (hs (Cond.eq (Term.elem (Term.static "LadderWords$Grid" "RIGHT" "[I") (Term.int 3)) (Term.int (-1))) (by decide +kernel))
  · exact va_eqt (hs (Cond.eq (Term.elem (Term.static "LadderWords$Grid" "RIGHT" "[I") (Term.int 4)) (Term.int (-1))) (by decide +kernel))
  · exact va_eqt (hs (Cond.eq (Term.elem (Term.static "LadderWords$Grid" "RIGHT" "[I") (Term.int 5)) (Term.int (-1))) (by decide +kernel))
  · exact va_eqt (hs (Cond.eq (Term.elem (Term.static "LadderWords$Grid" "RIGHT" "[I") (Term.int 6)) (Term.int 0)) (by decide +kernel))
  · exact va_eqt (hs (Cond.eq (Term.elem (Term.static "LadderWords$Grid" "RIGHT" "[I") (Term.int 7)) (Term.int 1)) (by decide +kernel))
theorem st_DOWN {args : Array Value} {s : State} (h : (Jvm.Cond.and given_1 narrow_1).before args s = true) : ∃ t : Nat, (Term.static "LadderWords$Grid" "DOWN" "[I").eval args s none [] s = some (.ref t) ∧ va_T .int t 8 (fun j => .int (mx_t1 j)) (fun q => s.heap.size ≤ q) s s.heap := by
  have hs := flat_of_before _ h
  refine va_Tof (N := 8) (by decide) (hs (Cond.arrayOf (Term.static "LadderWords$Grid" "DOWN" "[I") .int) (by decide +kernel)) (va_eqt (hs (Cond.eq (Term.length (Term.static "LadderWords$Grid" "DOWN" "[I")) (Term.int 8)) (by decide +kernel))) ?_ (fun a ha hb => by omega)
  intro j hj
  rcases (show j = 0 ∨ j = 1 ∨ j = 2 ∨ j = 3 ∨ j = 4 ∨ j = 5 ∨ j = 6 ∨ j = 7 by omega) with rfl | rfl | rfl | rfl | rfl | rfl | rfl | rfl
  · exact va_eqt (hs (Cond.eq (Term.elem (Term.static "LadderWords$Grid" "DOWN" "[I") (Term.int 0)) (Term.int 0)) (by decide +kernel))
  · exact va_eqt (hs (Cond.eq (Term.elem (Term.static "LadderWords$Grid" "DOWN" "[I") (Term.int 1)) (Term.int 1)) (by decide +kernel))
  · exact va_eqt (hs (Cond.eq (Term.elem (Term.static "LadderWords$Grid" "DOWN" "[I") (Term.int 2)) (Term.int 1)) (by decide +kernel))
  · exact va_eqt (hs (Cond.eq (Term.elem (Term.static "LadderWords$Grid" "DOWN" "[I") (Term.int 3)) (Term.int 1)) (by decide +kernel))
  · exact va_eqt (hs (Cond.eq (Term.elem (Term.static "LadderWords$Grid" "DOWN" "[I") (Term.int 4)) (Term.int 0)) (by decide +kernel))
  · exact va_eqt (hs (Cond.eq (Term.elem (Term.static "LadderWords$Grid" "DOWN" "[I") (Term.int 5)) (Term.int (-1))) (by decide +kernel))
  · exact va_eqt (hs (Cond.eq (Term.elem (Term.static "LadderWords$Grid" "DOWN" "[I") (Term.int 6)) (Term.int (-1))) (by decide +kernel))
  · exact va_eqt (hs (Cond.eq (Term.elem (Term.static "LadderWords$Grid" "DOWN" "[I") (Term.int 7)) (Term.int (-1))) (by decide +kernel))
set_option maxRecDepth 100000 in
set_option maxHeartbeats 4000000 in
/-- THE LAW, from its entry -/
theorem whole_start {p : Program} {e : Env} {s : State} {m : MethodId} {below : List Frame} {meth : Method} {c : Code} (l : Launch) {b L : Nat} {xs : Nat → Int32} (hL : L ≤ 5) (C0 : lw_At p s m meth c b L xs) : W p l e room_1 s m #[Value.ref b] below meth c s.heap [] 0 0 (lw_Z below #[Value.ref b] s) (entryFrame m ([Value.ref b] : List Value).toArray 4) := by
  obtain ⟨hx, hb, hr, hml, hown, hts, hX, hbl, hlocks, hgv⟩ := id C0
  obtain ⟨c0, i0, k0⟩ := u_known (C := R_G) (T := T_G) (N := 9) (n := 9) hts (fun w h => mx_T0_in (in_G w h)) (hts (.instantiable R_G 9) (by decide +kernel))
  obtain ⟨c1, i1, k1⟩ := u_known (C := R_C) (T := T_C) (N := 2) (n := 2) hts (fun w h => mx_T0_in (in_C w h)) (hts (.instantiable R_C 2) (by decide +kernel))
  obtain ⟨c2, i2, k2⟩ := u_known (C := R_D) (T := T_D) (N := 7) (n := 7) hts (fun w h => mx_T0_in (in_D w h)) (hts (.instantiable R_D 7) (by decide +kernel))
  obtain ⟨c3, i3, k3⟩ := u_known (C := R_R) (T := T_R) (N := 2) (n := 2) hts (fun w h => mx_T0_in (in_R w h)) (hts (.instantiable R_R 2) (by decide +kernel))
  obtain ⟨c4, i4, k4⟩ := u_known (C := R_Q) (T := T_Q) (N := 6) (n := 6) hts (fun w h => mx_T0_in (in_Q w h)) (hts (.instantiable R_Q 6) (by decide +kernel))
  obtain ⟨c5, i5, k5⟩ := u_known (C := R_W) (T := T_W) (N := 3) (n := 3) hts (fun w h => mx_T0_in (in_W w h)) (hts (.instantiable R_W 3) (by decide +kernel))
  obtain ⟨c6, i6, k6⟩ := u_known (C := R_L) (T := T_L) (N := 6) (n := 6) hts (fun w h => mx_T0_in (in_L w h)) (hts (.instantiable R_L 6) (by decide +kernel))
  obtain ⟨c7, i7, k7⟩ := u_known (C := R_M) (T := T_M) (N := 18) (n := 18) hts (fun w h => mx_T0_in (in_M w h)) (hts (.instantiable R_M 18) (by decide +kernel))
  obtain ⟨dC, dI, hKc⟩ : ∃ (dC : Nat → ClassId) (dI : Nat → Nat → Nat), ∀ (k : Nat) (q : vw_C), vwCl[k]? = some q → u_Kn s q.1 q.2.1 q.2.2 (dC k) (dI k) := by
    refine ⟨fun k => match k with | 0 => c0 | 1 => c1 | 2 => c2 | 3 => c3 | 4 => c4 | 5 => c5 | 6 => c6 | _ => c7, fun k => match k with | 0 => i0 | 1 => i1 | 2 => i2 | 3 => i3 | 4 => i4 | 5 => i5 | 6 => i6 | _ => i7, ?_⟩
    intro k q hq
    match k, hq with
    | 0, hq => cases hq; exact k0
    | 1, hq => cases hq; exact k1
    | 2, hq => cases hq; exact k2
    | 3, hq => cases hq; exact k3
    | 4, hq => cases hq; exact k4
    | 5, hq => cases hq; exact k5
    | 6, hq => cases hq; exact k6
    | 7, hq => cases hq; exact k7
    | k + 8, hq => simp [vwCl] at hq
  obtain ⟨cI, kI, pI, hI1, hI2, hI3⟩ := Cond.arrayClass_spec (hts (.arrayClass .int) (by decide +kernel))
  obtain ⟨cL, kL, pL, hL1, hL2, hL3⟩ := Cond.arrayClass_spec (hts (.arrayClass .long) (by decide +kernel))
  obtain ⟨pQ, cQ, kQ, hQ0, hQ9, hQ2, hQ3, hQ1⟩ := arrayOverA_spec (hts (.arrayOver (.array .long)) (by decide +kernel))
  obtain ⟨tc, hK⟩ : ∃ tc : Nat → ClassId, va_K (dC, dI) vwCl (mx_t tc mx_ft) s := by
    refine ⟨fun k => match k with | 0 => cI | 1 => cL | _ => cQ, hKc, fun k q hk => ?_⟩
    match k, hk with
    | 0, hk => cases hk; exact ⟨fun n z => ⟨fun k h => (by cases h), kI, hI2, pI, hI3⟩, hI1⟩
    | 1, hk => cases hk; exact ⟨fun n z => ⟨fun k h => (by cases h), kL, hL2, pL, hL3⟩, hL1⟩
    | 2, hk => cases hk; exact ⟨fun n z => ⟨fun k h => (by cases h), kQ, hQ2, pQ, hQ3⟩, hQ1⟩
    | k + 3, hk => simp [mx_t, mx_ft] at hk
  obtain ⟨tR, eR, hR⟩ := st_RIGHT hgv
  obtain ⟨tD, eD, hD⟩ := st_DOWN hgv
  obtain ⟨tb, h9, hZ⟩ : ∃ tb : Nat → Nat, tb 9 = b ∧ mx_Z tb (fun q => s.heap.size ≤ q) s s.heap := by
    refine ⟨fun k => match k with | 0 => tR | 1 => tD | _ => b, rfl, fun z hz => ?_, fun t n f ht => ?_, fun w hw => ?_, ⟨cQ, pQ, kQ, hQ1, hQ0, hQ2, hQ3⟩⟩
    · simp only [mx_zs, List.mem_cons, List.not_mem_nil, or_false] at hz
      rcases hz with rfl | rfl
      · exact va_Zof (hts (.laysStatic "LadderWords$Grid" "RIGHT" "[I") (by decide +kernel)) (hts (.initialized "LadderWords$Grid") (by decide +kernel)) eR (fun a ha hb => by omega)
      · exact va_Zof (hts (.laysStatic "LadderWords$Grid" "DOWN" "[I") (by decide +kernel)) (hts (.initialized "LadderWords$Grid") (by decide +kernel)) eD (fun a ha hb => by omega)
    · match t, ht with
      | 0, ht => cases ht; exact hR
      | 1, ht => cases ht; exact hD
      | t + 2, ht => cases ht
    · simp only [mx_nw, List.mem_cons, List.not_mem_nil, or_false] at hw
      rcases hw with rfl | rfl
      · exact va_Nw.of rfl (hts _ (by decide +kernel))
      · exact va_Nw.of rfl (hts _ (by decide +kernel))
  subst h9
  have C : mx_C p s m #[Value.ref (tb 9)] c code R_law lw_tbl (dC, dI) tc tb (fun q => s.heap.size ≤ q) 4 (fun _ _ => True) := ⟨hx, hb, hml, hown, hts, hK, fun q h => h, hZ, fun _ _ _ _ _ => trivial⟩
  have hW := law_walk (xs := xs) hL _ (fun h1 h2 => mx_go (a_law (l := l) (e := e) (below := below) C hr hlocks hX hbl (by omega)) h1 h2)
  rw [lg_entry_eq]
  exact hW (fun _ => 0) s.heap [] _ trivial (fun k x h => (by cases h)) ⟨fun i j x y h => (by cases h), fun k x h => (by cases h)⟩ va_S.rf (mx_entry (ad := fun _ => 0) (tb := tb) (As := [mx_tb 9]) (n := 4) (by decide))
end
section
set_option maxHeartbeats 4000000 in
theorem lw_walk (l : Launch) (b : Addr) (xs : List Int32) : MetFree l x (headSpec (Jvm.Cond.code x code maxLocals ret :: tables_1) room_1) (lw_P b xs) (fun _ _ _ _ _ => True) lw_Q := by
  refine MetFree.of_bodyS (code := code) (maxLocals := maxLocals) (ret := ret) (by decide) ?_ ?_
  · intro args s m h hn
    obtain ⟨meth, c, h1, h2, h3, h4, h5, h6, -, -⟩ := Cond.code_spec hn (atoms_spec (ws := Jvm.Cond.code x code maxLocals ret :: tables_1) h _ List.mem_cons_self)
    exact ⟨meth, c, h1, h2, h3, h4, h5, h6⟩
  · intro p e s m args below meth c s₁ B hml0 hP _
    obtain ⟨rfl, hx, hbd, hgv⟩ := hP
    obtain ⟨scr, harrAt, hlist, hof, hsmall⟩ := hx
    obtain ⟨hcb, hkn, -, -⟩ := State.arrayAt?_spec harrAt
    have hown : s.vm.findClass R_law = some m.cls := findClass_of_methodNamed B.named
    have hts0 : ∀ c ∈ (Jvm.Cond.code x code maxLocals ret :: tables_1), c.before #[Value.ref b] s = true := atoms_spec (ws := Jvm.Cond.code x code maxLocals ret :: tables_1) B.pre
    have hts : ∀ w ∈ lw_tbl, w.before #[Value.ref b] s = true := k2_hts_sels lw_privs (fun w hw => hts0 w (List.mem_cons_of_mem _ hw)) lw_privs_ok
    have hml : c.maxLocals = 4 := B.maxLocals_eq (hts0 _ List.mem_cons_self)
    have X₀ : Stand p l e room_1 s m #[Value.ref b] below meth c s₁ [] 0 0 := Stand.of_body B
    have hh0 : s₁.heap = s.heap := by rw [B.state]; rfl
    have hsz : scr.slots.size = xs.length := by rw [← Array.length_toList, hlist, List.length_map]
    have hval : ∀ j : Nat, j < xs.length → scr.slots[j]? = some (.int (xs.getD j 0)) := fun j hj => by
      rw [← Array.getElem?_toList, hlist]
      simp [hj]
    have hbl : b < s.heap.size := (Array.getElem?_eq_some_iff.mp hcb).1
    have hX : va_X b xs.length (fun j => xs.getD j 0) s s.heap := ⟨scr, hcb, hof, hkn, hsz, hval⟩
    have K : W p l e room_1 s m #[Value.ref b] below meth c s₁.heap [] 0 0 (lw_Z below #[Value.ref b] s) (entryFrame m ([Value.ref b] : List Value).toArray 4) := by
      rw [hh0]
      exact whole_start l hbd ⟨B.exec, B.bytes, B.returns, hml, hown, hts, hX, hbl, B.notSynchronized, hgv⟩
    obtain ⟨t, a1, o, b1, b2, b3⟩ := K s₁ rfl X₀
    exact ⟨t, o, a1, b1, b2, b3⟩
theorem lw_pre_spec {args : Array Value} {s : State} (h : (Jvm.Cond.and given_1 narrow_1).before args s = true) (hr : rest_1_c.before args s = true) : ∃ (b : Addr) (xs : List Int32), lw_P b xs args s := by
  have hs := flat_of_before _ h
  have hq := flat_of_before _ hr
  have hc : (Cond.count 1).before args s = true := hs _ (by decide +kernel)
  have harr : (Cond.arrayOf (.arg 0) .int).before args s = true := hs _ (by decide +kernel)
  have hle : (Cond.le (.length (.arg 0)) (.int 5)).before args s = true := hs _ (by decide +kernel)
  have hlen : (Cond.isInt (.length (.arg 0))).before args s = true := hq _ (by decide +kernel)
  have hall : (Cond.all (.arg 0) (.isInt (.elem (.arg 0) (.index 0)))).before args s = true := hq _ (by decide +kernel)
  obtain ⟨b, xs, hb, hx⟩ := State.ints_of_pre rfl harr hlen hall
  have hsm : xs.length < 2 ^ 31 := hx.choose_spec.2.2.2
  have hev : (Term.length (.arg 0)).eval args s none [] s = some (.int xs.length.toInt32) := hx.length_eval hb
  have hv := Cond.le_ints hev (show (Term.int 5).eval args s none [] s = some (.int 5) from rfl)
  have hd : xs.length.toInt32 ≤ 5 := by
    simpa [Cond.before, Cond.holds, hv] using hle
  have hN : xs.length ≤ 5 := (Int32.ofNat_le_ofNat hsm (by decide)).mp (show Int32.ofNat xs.length ≤ Int32.ofNat 5 from hd)
  exact ⟨b, xs, Cond.one_arg hc (show args[0]? = some (.ref b) from hb), hx, hN, h⟩
theorem lw_comes (l : Launch) : Comes l x (Jvm.Cond.code x code maxLocals ret :: tables_1) room_1 (fun tb e args s => Calls_1 tb e args s ∧ rest_1 tb e args s ∧ Pre_1 tb e args s)
    (fun _ _ args s o t => lw_Q args s o t) := by
  intro p e ha hc hk s m args below hf hfit hheap happ hpre
  obtain ⟨b, xs, hP⟩ := lw_pre_spec hpre.2.2 hpre.2.1
  obtain ⟨k, o, h1, h2, h3, hQ⟩ := lw_walk l b xs p e ha hc hk s m args below hf ((Spec.applies_iff_loose hf).mp happ).1 hP trivial
  exact ⟨k, o, h1, h2, h3, hQ⟩
theorem lw_frame {s t : State} {o : Outcome} {args : Array Value} (h : Framed s o t [] 600000 7302250) :
    Framed s o t (fieldLocs frame_1_writes args s ++ arrayLocs frame_1_arrays args s ++ staticLocs frame_1_statics s) 600000 7302250 := h
theorem lw_limb (L : Cond) (hL : ∀ (args : Array Value) (s t : State), L.after args s (.returned (some (.int 1))) t = true) :
    ArmFor flags0 classFile x code maxLocals ret World_1 tables_1 room_1 Calls_1 rest_1 Pre_1
      (fun tb e a s o t => postC L tb e a s o t ∧ Framed s o t (fieldLocs frame_1_writes a s ++ arrayLocs frame_1_arrays a s ++ staticLocs frame_1_statics s) 600000 7302250) := by
  intro l _ _ _ p e ha hc hk s m args below hf hfit hheap happ hpre
  obtain ⟨k, o, h1, h2, h3, rfl, hF⟩ := lw_comes l p e ha hc hk s m args below hf hfit hheap happ hpre
  exact ⟨k, _, h1, h2, h3, hL args s _, lw_frame hF⟩
theorem i_vc : Claimed_1_1 ∧ Claimed_1_2 := ⟨lw_limb limb_1_1 (fun args s t => by simp [limb_1_1, Cond.after, Cond.holds, Cond.value]), lw_limb limb_1_2 (fun args s t => Cond.after_iff.mpr (by
  first | (rw [show limb_1_2 = Cond.eq .result (.int 1) from rfl, Cond.eq_ints (x := 1) (y := 1) rfl rfl]; simp; done) | (simp [limb_1_2, Cond.value, Term.eval]; done)))⟩
end
