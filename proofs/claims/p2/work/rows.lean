section
/-- a private method of a class that the tables say can be made, by its rows of tables_1 -/
def lw_okq (q : MethodName × Nat) : Prop := (q.1.cls ≠ "java/lang/invoke/MethodHandle" ∧ q.1.cls ≠ "java/lang/invoke/VarHandle") ∧ Cond.instantiable q.1.cls q.2 ∈ tables_1 ∧ Cond.privateMethod q.1 ∈ tables_1 ∧ Cond.instanceMethod q.1 ∈ tables_1
theorem lw_p0 : lw_okq (⟨"LadderWords$Words", "knownNumberOf", "(LLadderWords$Row;)I"⟩, 3) := ⟨⟨by decide +kernel, by decide +kernel⟩, List.mem_of_getElem? (i := 32) (by decide +kernel), List.mem_of_getElem? (i := 190) (by decide +kernel), List.mem_of_getElem? (i := 191) (by decide +kernel)⟩
theorem lw_p1 : lw_okq (⟨"LadderWords$Words", "isSame", "(ILLadderWords$Row;)Z"⟩, 3) := ⟨⟨by decide +kernel, by decide +kernel⟩, List.mem_of_getElem? (i := 32) (by decide +kernel), List.mem_of_getElem? (i := 194) (by decide +kernel), List.mem_of_getElem? (i := 195) (by decide +kernel)⟩
theorem lw_p2 : lw_okq (⟨"LadderWords$Words", "append", "(LLadderWords$Row;)V"⟩, 3) := ⟨⟨by decide +kernel, by decide +kernel⟩, List.mem_of_getElem? (i := 32) (by decide +kernel), List.mem_of_getElem? (i := 210) (by decide +kernel), List.mem_of_getElem? (i := 211) (by decide +kernel)⟩
theorem lw_p3 : lw_okq (⟨"LadderWords$Ladders", "measure", "(III)V"⟩, 7) := ⟨⟨by decide +kernel, by decide +kernel⟩, List.mem_of_getElem? (i := 48) (by decide +kernel), List.mem_of_getElem? (i := 235) (by decide +kernel), List.mem_of_getElem? (i := 236) (by decide +kernel)⟩
theorem lw_p4 : lw_okq (⟨"LadderWords$Ladders", "spread", "(II)V"⟩, 7) := ⟨⟨by decide +kernel, by decide +kernel⟩, List.mem_of_getElem? (i := 48) (by decide +kernel), List.mem_of_getElem? (i := 243) (by decide +kernel), List.mem_of_getElem? (i := 244) (by decide +kernel)⟩
theorem lw_p5 : lw_okq (⟨"LadderWords$Words", "differences", "(II)I"⟩, 3) := ⟨⟨by decide +kernel, by decide +kernel⟩, List.mem_of_getElem? (i := 32) (by decide +kernel), List.mem_of_getElem? (i := 251) (by decide +kernel), List.mem_of_getElem? (i := 252) (by decide +kernel)⟩
theorem lw_p6 : lw_okq (⟨"LadderWords$Words", "isOneMore", "(II)Z"⟩, 3) := ⟨⟨by decide +kernel, by decide +kernel⟩, List.mem_of_getElem? (i := 32) (by decide +kernel), List.mem_of_getElem? (i := 255) (by decide +kernel), List.mem_of_getElem? (i := 256) (by decide +kernel)⟩
theorem lw_p7 : lw_okq (⟨"LadderWords$Ladders", "climb", "(II)V"⟩, 7) := ⟨⟨by decide +kernel, by decide +kernel⟩, List.mem_of_getElem? (i := 48) (by decide +kernel), List.mem_of_getElem? (i := 259) (by decide +kernel), List.mem_of_getElem? (i := 260) (by decide +kernel)⟩
theorem lw_p8 : lw_okq (⟨"LadderWords$Ladders", "leastNext", "(III)I"⟩, 7) := ⟨⟨by decide +kernel, by decide +kernel⟩, List.mem_of_getElem? (i := 48) (by decide +kernel), List.mem_of_getElem? (i := 263) (by decide +kernel), List.mem_of_getElem? (i := 264) (by decide +kernel)⟩
theorem lw_p9 : lw_okq (⟨"LadderWords$Gatherings", "listFitting", "(LLadderWords$Row;J)V"⟩, 9) := ⟨⟨by decide +kernel, by decide +kernel⟩, List.mem_of_getElem? (i := 77) (by decide +kernel), List.mem_of_getElem? (i := 304) (by decide +kernel), List.mem_of_getElem? (i := 305) (by decide +kernel)⟩
theorem lw_p10 : lw_okq (⟨"LadderWords$Gatherings", "heapOfWord", "(ILLadderWords$Row;)J"⟩, 9) := ⟨⟨by decide +kernel, by decide +kernel⟩, List.mem_of_getElem? (i := 77) (by decide +kernel), List.mem_of_getElem? (i := 308) (by decide +kernel), List.mem_of_getElem? (i := 309) (by decide +kernel)⟩
theorem lw_p11 : lw_okq (⟨"LadderWords$Gatherings", "choose", "(IIIJ)V"⟩, 9) := ⟨⟨by decide +kernel, by decide +kernel⟩, List.mem_of_getElem? (i := 77) (by decide +kernel), List.mem_of_getElem? (i := 319) (by decide +kernel), List.mem_of_getElem? (i := 320) (by decide +kernel)⟩
theorem lw_p12 : lw_okq (⟨"LadderWords$Gatherings", "take", "(IIIJ)V"⟩, 9) := ⟨⟨by decide +kernel, by decide +kernel⟩, List.mem_of_getElem? (i := 77) (by decide +kernel), List.mem_of_getElem? (i := 323) (by decide +kernel), List.mem_of_getElem? (i := 324) (by decide +kernel)⟩
theorem lw_p13 : lw_okq (⟨"LadderWords$Gatherings", "keep", "(I)V"⟩, 9) := ⟨⟨by decide +kernel, by decide +kernel⟩, List.mem_of_getElem? (i := 77) (by decide +kernel), List.mem_of_getElem? (i := 327) (by decide +kernel), List.mem_of_getElem? (i := 328) (by decide +kernel)⟩
theorem lw_p14 : lw_okq (⟨"LadderWords$Squares", "openAll", "(I)V"⟩, 6) := ⟨⟨by decide +kernel, by decide +kernel⟩, List.mem_of_getElem? (i := 111) (by decide +kernel), List.mem_of_getElem? (i := 347) (by decide +kernel), List.mem_of_getElem? (i := 348) (by decide +kernel)⟩
theorem lw_p15 : lw_okq (⟨"LadderWords$Squares", "noteLetters", "(II)V"⟩, 6) := ⟨⟨by decide +kernel, by decide +kernel⟩, List.mem_of_getElem? (i := 111) (by decide +kernel), List.mem_of_getElem? (i := 353) (by decide +kernel), List.mem_of_getElem? (i := 354) (by decide +kernel)⟩
def lw_privs_1 : List (MethodName × Nat) := [(⟨"LadderWords$Words", "knownNumberOf", "(LLadderWords$Row;)I"⟩, 3), (⟨"LadderWords$Words", "isSame", "(ILLadderWords$Row;)Z"⟩, 3), (⟨"LadderWords$Words", "append", "(LLadderWords$Row;)V"⟩, 3), (⟨"LadderWords$Ladders", "measure", "(III)V"⟩, 7), (⟨"LadderWords$Ladders", "spread", "(II)V"⟩, 7), (⟨"LadderWords$Words", "differences", "(II)I"⟩, 3), (⟨"LadderWords$Words", "isOneMore", "(II)Z"⟩, 3), (⟨"LadderWords$Ladders", "climb", "(II)V"⟩, 7), (⟨"LadderWords$Ladders", "leastNext", "(III)I"⟩, 7), (⟨"LadderWords$Gatherings", "listFitting", "(LLadderWords$Row;J)V"⟩, 9), (⟨"LadderWords$Gatherings", "heapOfWord", "(ILLadderWords$Row;)J"⟩, 9), (⟨"LadderWords$Gatherings", "choose", "(IIIJ)V"⟩, 9), (⟨"LadderWords$Gatherings", "take", "(IIIJ)V"⟩, 9), (⟨"LadderWords$Gatherings", "keep", "(I)V"⟩, 9), (⟨"LadderWords$Squares", "openAll", "(I)V"⟩, 6), (⟨"LadderWords$Squares", "noteLetters", "(II)V"⟩, 6)]
theorem lw_r1 : ∀ q ∈ lw_privs_1, lw_okq q := List.forall_mem_cons.mpr ⟨lw_p0, List.forall_mem_cons.mpr ⟨lw_p1, List.forall_mem_cons.mpr ⟨lw_p2, List.forall_mem_cons.mpr ⟨lw_p3, List.forall_mem_cons.mpr ⟨lw_p4, List.forall_mem_cons.mpr ⟨lw_p5, List.forall_mem_cons.mpr ⟨lw_p6, List.forall_mem_cons.mpr ⟨lw_p7, List.forall_mem_cons.mpr ⟨lw_p8, List.forall_mem_cons.mpr ⟨lw_p9, List.forall_mem_cons.mpr ⟨lw_p10, List.forall_mem_cons.mpr ⟨lw_p11, List.forall_mem_cons.mpr ⟨lw_p12, List.forall_mem_cons.mpr ⟨lw_p13, List.forall_mem_cons.mpr ⟨lw_p14, List.forall_mem_cons.mpr ⟨lw_p15, fun _ h => absurd h List.not_mem_nil⟩⟩⟩⟩⟩⟩⟩⟩⟩⟩⟩⟩⟩⟩⟩⟩
theorem lw_p16 : lw_okq (⟨"LadderWords$Squares", "complete", "(II)Z"⟩, 6) := ⟨⟨by decide +kernel, by decide +kernel⟩, List.mem_of_getElem? (i := 111) (by decide +kernel), List.mem_of_getElem? (i := 358) (by decide +kernel), List.mem_of_getElem? (i := 359) (by decide +kernel)⟩
theorem lw_p17 : lw_okq (⟨"LadderWords$Squares", "completeWith", "(III)Z"⟩, 6) := ⟨⟨by decide +kernel, by decide +kernel⟩, List.mem_of_getElem? (i := 111) (by decide +kernel), List.mem_of_getElem? (i := 362) (by decide +kernel), List.mem_of_getElem? (i := 363) (by decide +kernel)⟩
theorem lw_p18 : lw_okq (⟨"LadderWords$Squares", "wordsWith", "(II)J"⟩, 6) := ⟨⟨by decide +kernel, by decide +kernel⟩, List.mem_of_getElem? (i := 111) (by decide +kernel), List.mem_of_getElem? (i := 366) (by decide +kernel), List.mem_of_getElem? (i := 367) (by decide +kernel)⟩
theorem lw_p19 : lw_okq (⟨"LadderWords$Grid", "hasRoom", "(IIII)Z"⟩, 2) := ⟨⟨by decide +kernel, by decide +kernel⟩, List.mem_of_getElem? (i := 138) (by decide +kernel), List.mem_of_getElem? (i := 390) (by decide +kernel), List.mem_of_getElem? (i := 391) (by decide +kernel)⟩
theorem lw_p20 : lw_okq (⟨"LadderWords$Grid", "set", "(III)V"⟩, 2) := ⟨⟨by decide +kernel, by decide +kernel⟩, List.mem_of_getElem? (i := 138) (by decide +kernel), List.mem_of_getElem? (i := 404) (by decide +kernel), List.mem_of_getElem? (i := 405) (by decide +kernel)⟩
theorem lw_p21 : lw_okq (⟨"LadderWords$Grid", "stands", "(II)Z"⟩, 2) := ⟨⟨by decide +kernel, by decide +kernel⟩, List.mem_of_getElem? (i := 138) (by decide +kernel), List.mem_of_getElem? (i := 440) (by decide +kernel), List.mem_of_getElem? (i := 441) (by decide +kernel)⟩
theorem lw_p22 : lw_okq (⟨"LadderWordsModel", "enter", "()I"⟩, 18) := ⟨⟨by decide +kernel, by decide +kernel⟩, List.mem_of_getElem? (i := 460) (by decide +kernel), List.mem_of_getElem? (i := 529) (by decide +kernel), List.mem_of_getElem? (i := 530) (by decide +kernel)⟩
theorem lw_p23 : lw_okq (⟨"LadderWordsModel", "isRow", "(I)Z"⟩, 18) := ⟨⟨by decide +kernel, by decide +kernel⟩, List.mem_of_getElem? (i := 460) (by decide +kernel), List.mem_of_getElem? (i := 533) (by decide +kernel), List.mem_of_getElem? (i := 534) (by decide +kernel)⟩
theorem lw_p24 : lw_okq (⟨"LadderWordsModel", "at", "(II)I"⟩, 18) := ⟨⟨by decide +kernel, by decide +kernel⟩, List.mem_of_getElem? (i := 460) (by decide +kernel), List.mem_of_getElem? (i := 537) (by decide +kernel), List.mem_of_getElem? (i := 538) (by decide +kernel)⟩
theorem lw_p25 : lw_okq (⟨"LadderWordsModel", "isWord", "(I)Z"⟩, 18) := ⟨⟨by decide +kernel, by decide +kernel⟩, List.mem_of_getElem? (i := 460) (by decide +kernel), List.mem_of_getElem? (i := 545) (by decide +kernel), List.mem_of_getElem? (i := 546) (by decide +kernel)⟩
theorem lw_p26 : lw_okq (⟨"LadderWordsModel", "isStep", "(III)Z"⟩, 18) := ⟨⟨by decide +kernel, by decide +kernel⟩, List.mem_of_getElem? (i := 460) (by decide +kernel), List.mem_of_getElem? (i := 553) (by decide +kernel), List.mem_of_getElem? (i := 554) (by decide +kernel)⟩
theorem lw_p27 : lw_okq (⟨"LadderWordsModel", "differsOnce", "(II)Z"⟩, 18) := ⟨⟨by decide +kernel, by decide +kernel⟩, List.mem_of_getElem? (i := 460) (by decide +kernel), List.mem_of_getElem? (i := 557) (by decide +kernel), List.mem_of_getElem? (i := 558) (by decide +kernel)⟩
theorem lw_p28 : lw_okq (⟨"LadderWordsModel", "isLessOne", "(II)Z"⟩, 18) := ⟨⟨by decide +kernel, by decide +kernel⟩, List.mem_of_getElem? (i := 460) (by decide +kernel), List.mem_of_getElem? (i := 561) (by decide +kernel), List.mem_of_getElem? (i := 562) (by decide +kernel)⟩
theorem lw_p29 : lw_okq (⟨"LadderWordsModel", "take", "(II)Z"⟩, 18) := ⟨⟨by decide +kernel, by decide +kernel⟩, List.mem_of_getElem? (i := 460) (by decide +kernel), List.mem_of_getElem? (i := 577) (by decide +kernel), List.mem_of_getElem? (i := 578) (by decide +kernel)⟩
theorem lw_p30 : lw_okq (⟨"LadderWordsModel", "isEmpty", "()Z"⟩, 18) := ⟨⟨by decide +kernel, by decide +kernel⟩, List.mem_of_getElem? (i := 460) (by decide +kernel), List.mem_of_getElem? (i := 581) (by decide +kernel), List.mem_of_getElem? (i := 582) (by decide +kernel)⟩
theorem lw_p31 : lw_okq (⟨"LadderWordsModel", "keep", "(I)V"⟩, 18) := ⟨⟨by decide +kernel, by decide +kernel⟩, List.mem_of_getElem? (i := 460) (by decide +kernel), List.mem_of_getElem? (i := 585) (by decide +kernel), List.mem_of_getElem? (i := 586) (by decide +kernel)⟩
def lw_privs_2 : List (MethodName × Nat) := [(⟨"LadderWords$Squares", "complete", "(II)Z"⟩, 6), (⟨"LadderWords$Squares", "completeWith", "(III)Z"⟩, 6), (⟨"LadderWords$Squares", "wordsWith", "(II)J"⟩, 6), (⟨"LadderWords$Grid", "hasRoom", "(IIII)Z"⟩, 2), (⟨"LadderWords$Grid", "set", "(III)V"⟩, 2), (⟨"LadderWords$Grid", "stands", "(II)Z"⟩, 2), (⟨"LadderWordsModel", "enter", "()I"⟩, 18), (⟨"LadderWordsModel", "isRow", "(I)Z"⟩, 18), (⟨"LadderWordsModel", "at", "(II)I"⟩, 18), (⟨"LadderWordsModel", "isWord", "(I)Z"⟩, 18), (⟨"LadderWordsModel", "isStep", "(III)Z"⟩, 18), (⟨"LadderWordsModel", "differsOnce", "(II)Z"⟩, 18), (⟨"LadderWordsModel", "isLessOne", "(II)Z"⟩, 18), (⟨"LadderWordsModel", "take", "(II)Z"⟩, 18), (⟨"LadderWordsModel", "isEmpty", "()Z"⟩, 18), (⟨"LadderWordsModel", "keep", "(I)V"⟩, 18)]
theorem lw_r2 : ∀ q ∈ lw_privs_2, lw_okq q := List.forall_mem_cons.mpr ⟨lw_p16, List.forall_mem_cons.mpr ⟨lw_p17, List.forall_mem_cons.mpr ⟨lw_p18, List.forall_mem_cons.mpr ⟨lw_p19, List.forall_mem_cons.mpr ⟨lw_p20, List.forall_mem_cons.mpr ⟨lw_p21, List.forall_mem_cons.mpr ⟨lw_p22, List.forall_mem_cons.mpr ⟨lw_p23, List.forall_mem_cons.mpr ⟨lw_p24, List.forall_mem_cons.mpr ⟨lw_p25, List.forall_mem_cons.mpr ⟨lw_p26, List.forall_mem_cons.mpr ⟨lw_p27, List.forall_mem_cons.mpr ⟨lw_p28, List.forall_mem_cons.mpr ⟨lw_p29, List.forall_mem_cons.mpr ⟨lw_p30, List.forall_mem_cons.mpr ⟨lw_p31, fun _ h => absurd h List.not_mem_nil⟩⟩⟩⟩⟩⟩⟩⟩⟩⟩⟩⟩⟩⟩⟩⟩
theorem lw_p32 : lw_okq (⟨"LadderWordsModel", "mayBe", "(III)Z"⟩, 18) := ⟨⟨by decide +kernel, by decide +kernel⟩, List.mem_of_getElem? (i := 460) (by decide +kernel), List.mem_of_getElem? (i := 597) (by decide +kernel), List.mem_of_getElem? (i := 598) (by decide +kernel)⟩
theorem lw_p33 : lw_okq (⟨"LadderWordsModel", "stands", "(IIIIZ)Z"⟩, 18) := ⟨⟨by decide +kernel, by decide +kernel⟩, List.mem_of_getElem? (i := 460) (by decide +kernel), List.mem_of_getElem? (i := 612) (by decide +kernel), List.mem_of_getElem? (i := 613) (by decide +kernel)⟩
theorem lw_p34 : lw_okq (⟨"LadderWordsModel", "letterOfAll", "(I)I"⟩, 18) := ⟨⟨by decide +kernel, by decide +kernel⟩, List.mem_of_getElem? (i := 460) (by decide +kernel), List.mem_of_getElem? (i := 628) (by decide +kernel), List.mem_of_getElem? (i := 629) (by decide +kernel)⟩
theorem lw_p35 : lw_okq (⟨"LadderWordsModel", "place", "(II)I"⟩, 18) := ⟨⟨by decide +kernel, by decide +kernel⟩, List.mem_of_getElem? (i := 460) (by decide +kernel), List.mem_of_getElem? (i := 640) (by decide +kernel), List.mem_of_getElem? (i := 641) (by decide +kernel)⟩
def lw_privs_3 : List (MethodName × Nat) := [(⟨"LadderWordsModel", "mayBe", "(III)Z"⟩, 18), (⟨"LadderWordsModel", "stands", "(IIIIZ)Z"⟩, 18), (⟨"LadderWordsModel", "letterOfAll", "(I)I"⟩, 18), (⟨"LadderWordsModel", "place", "(II)I"⟩, 18)]
theorem lw_r3 : ∀ q ∈ lw_privs_3, lw_okq q := List.forall_mem_cons.mpr ⟨lw_p32, List.forall_mem_cons.mpr ⟨lw_p33, List.forall_mem_cons.mpr ⟨lw_p34, List.forall_mem_cons.mpr ⟨lw_p35, fun _ h => absurd h List.not_mem_nil⟩⟩⟩⟩
def lw_privs : List (MethodName × Nat) := lw_privs_1 ++ (lw_privs_2 ++ (lw_privs_3))
def lw_tbl : List Cond := k2_sels lw_privs ++ tables_1
theorem lw_privs_ok : ∀ q ∈ lw_privs, lw_okq q := by
  show ∀ q ∈ lw_privs_1 ++ (lw_privs_2 ++ (lw_privs_3)), lw_okq q
  exact List.forall_mem_append.mpr ⟨lw_r1, List.forall_mem_append.mpr ⟨lw_r2, lw_r3⟩⟩
end
section
-- NAMES, by program: classes, fields, methods
/-- the words that a callee may rest on -/
def mx_T0 : List Cond := lw_tbl.filter goodWord
def R_G : String := "LadderWords$Gatherings"
def T_G : u_T := fun k => match k with
  | 0 => ("LadderWords$Gatherings", "words", "LLadderWords$Words;", true)
  | 1 => ("LadderWords$Gatherings", "fitting", "[I", true)
  | 2 => ("LadderWords$Gatherings", "heaps", "[J", true)
  | 3 => ("LadderWords$Gatherings", "fittingCount", "I", false)
  | 4 => ("LadderWords$Gatherings", "chosen", "[I", true)
  | 5 => ("LadderWords$Gatherings", "kept", "[I", true)
  | 6 => ("LadderWords$Gatherings", "keptCount", "I", false)
  | 7 => ("LadderWords$Gatherings", "total", "I", false)
  | _ => ("LadderWords$Gatherings", "wordsThen", "I", false)
def ty_G : Nat → FieldType := fun k => match k with
  | 0 => .object "LadderWords$Words"
  | 1 => .array .int
  | 2 => .array .long
  | 3 => .int
  | 4 => .array .int
  | 5 => .array .int
  | 6 => .int
  | 7 => .int
  | _ => .int
theorem nm_G : ∀ a, a < 9 → ∀ b, b < 9 → a ≠ b → (T_G a).2.1 ≠ (T_G b).2.1 := by decide +kernel
theorem ok_G : ∀ k, k < 9 → parseFieldDescriptor (T_G k).2.2.1 = some (ty_G k) := by decide +kernel
theorem in_G : ∀ w ∈ u_ws R_G T_G 9, w ∈ mx_T0 := by decide +kernel
def R_C : String := "LadderWords$Grid"
def T_C : u_T := fun k => match k with
  | 0 => ("LadderWords$Grid", "words", "LLadderWords$Words;", true)
  | _ => ("LadderWords$Grid", "cells", "[I", true)
def ty_C : Nat → FieldType := fun k => match k with
  | 0 => .object "LadderWords$Words"
  | _ => .array .int
theorem nm_C : ∀ a, a < 2 → ∀ b, b < 2 → a ≠ b → (T_C a).2.1 ≠ (T_C b).2.1 := by decide +kernel
theorem ok_C : ∀ k, k < 2 → parseFieldDescriptor (T_C k).2.2.1 = some (ty_C k) := by decide +kernel
theorem in_C : ∀ w ∈ u_ws R_C T_C 2, w ∈ mx_T0 := by decide +kernel
def R_D : String := "LadderWords$Ladders"
def T_D : u_T := fun k => match k with
  | 0 => ("LadderWords$Ladders", "words", "LLadderWords$Words;", true)
  | 1 => ("LadderWords$Ladders", "distances", "[I", true)
  | 2 => ("LadderWords$Ladders", "counts", "[J", true)
  | 3 => ("LadderWords$Ladders", "rungs", "[I", true)
  | 4 => ("LadderWords$Ladders", "rungCount", "I", false)
  | 5 => ("LadderWords$Ladders", "shortest", "J", false)
  | _ => ("LadderWords$Ladders", "wordsThen", "I", false)
def ty_D : Nat → FieldType := fun k => match k with
  | 0 => .object "LadderWords$Words"
  | 1 => .array .int
  | 2 => .array .long
  | 3 => .array .int
  | 4 => .int
  | 5 => .long
  | _ => .int
theorem nm_D : ∀ a, a < 7 → ∀ b, b < 7 → a ≠ b → (T_D a).2.1 ≠ (T_D b).2.1 := by decide +kernel
theorem ok_D : ∀ k, k < 7 → parseFieldDescriptor (T_D k).2.2.1 = some (ty_D k) := by decide +kernel
theorem in_D : ∀ w ∈ u_ws R_D T_D 7, w ∈ mx_T0 := by decide +kernel
def R_R : String := "LadderWords$Row"
def T_R : u_T := fun k => match k with
  | 0 => ("LadderWords$Row", "letters", "[I", true)
  | _ => ("LadderWords$Row", "length", "I", false)
def ty_R : Nat → FieldType := fun k => match k with
  | 0 => .array .int
  | _ => .int
theorem nm_R : ∀ a, a < 2 → ∀ b, b < 2 → a ≠ b → (T_R a).2.1 ≠ (T_R b).2.1 := by decide +kernel
theorem ok_R : ∀ k, k < 2 → parseFieldDescriptor (T_R k).2.2.1 = some (ty_R k) := by decide +kernel
theorem in_R : ∀ w ∈ u_ws R_R T_R 2, w ∈ mx_T0 := by decide +kernel
def R_Q : String := "LadderWords$Squares"
def T_Q : u_T := fun k => match k with
  | 0 => ("LadderWords$Squares", "words", "LLadderWords$Words;", true)
  | 1 => ("LadderWords$Squares", "having", "[[J", true)
  | 2 => ("LadderWords$Squares", "open", "[[J", true)
  | 3 => ("LadderWords$Squares", "lines", "[I", true)
  | 4 => ("LadderWords$Squares", "size", "I", false)
  | _ => ("LadderWords$Squares", "wordsThen", "I", false)
def ty_Q : Nat → FieldType := fun k => match k with
  | 0 => .object "LadderWords$Words"
  | 1 => .array (.array .long)
  | 2 => .array (.array .long)
  | 3 => .array .int
  | 4 => .int
  | _ => .int
theorem nm_Q : ∀ a, a < 6 → ∀ b, b < 6 → a ≠ b → (T_Q a).2.1 ≠ (T_Q b).2.1 := by decide +kernel
theorem ok_Q : ∀ k, k < 6 → parseFieldDescriptor (T_Q k).2.2.1 = some (ty_Q k) := by decide +kernel
theorem in_Q : ∀ w ∈ u_ws R_Q T_Q 6, w ∈ mx_T0 := by decide +kernel
def R_W : String := "LadderWords$Words"
def T_W : u_T := fun k => match k with
  | 0 => ("LadderWords$Words", "letters", "[I", true)
  | 1 => ("LadderWords$Words", "starts", "[I", true)
  | _ => ("LadderWords$Words", "count", "I", false)
def ty_W : Nat → FieldType := fun k => match k with
  | 0 => .array .int
  | 1 => .array .int
  | _ => .int
theorem nm_W : ∀ a, a < 3 → ∀ b, b < 3 → a ≠ b → (T_W a).2.1 ≠ (T_W b).2.1 := by decide +kernel
theorem ok_W : ∀ k, k < 3 → parseFieldDescriptor (T_W k).2.2.1 = some (ty_W k) := by decide +kernel
theorem in_W : ∀ w ∈ u_ws R_W T_W 3, w ∈ mx_T0 := by decide +kernel
def R_L : String := "LadderWords"
def T_L : u_T := fun k => match k with
  | 0 => ("LadderWords", "row", "LLadderWords$Row;", true)
  | 1 => ("LadderWords", "words", "LLadderWords$Words;", true)
  | 2 => ("LadderWords", "ladders", "LLadderWords$Ladders;", true)
  | 3 => ("LadderWords", "gatherings", "LLadderWords$Gatherings;", true)
  | 4 => ("LadderWords", "squares", "LLadderWords$Squares;", true)
  | _ => ("LadderWords", "grid", "LLadderWords$Grid;", true)
def ty_L : Nat → FieldType := fun k => match k with
  | 0 => .object "LadderWords$Row"
  | 1 => .object "LadderWords$Words"
  | 2 => .object "LadderWords$Ladders"
  | 3 => .object "LadderWords$Gatherings"
  | 4 => .object "LadderWords$Squares"
  | _ => .object "LadderWords$Grid"
theorem nm_L : ∀ a, a < 6 → ∀ b, b < 6 → a ≠ b → (T_L a).2.1 ≠ (T_L b).2.1 := by decide +kernel
theorem ok_L : ∀ k, k < 6 → parseFieldDescriptor (T_L k).2.2.1 = some (ty_L k) := by decide +kernel
theorem in_L : ∀ w ∈ u_ws R_L T_L 6, w ∈ mx_T0 := by decide +kernel
def R_M : String := "LadderWordsModel"
def T_M : u_T := fun k => match k with
  | 0 => ("LadderWordsModel", "thrown", "I", false)
  | 1 => ("LadderWordsModel", "size", "I", false)
  | 2 => ("LadderWordsModel", "row", "[I", true)
  | 3 => ("LadderWordsModel", "many", "I", false)
  | 4 => ("LadderWordsModel", "letters", "[I", true)
  | 5 => ("LadderWordsModel", "lengths", "[I", true)
  | 6 => ("LadderWordsModel", "steps", "I", false)
  | 7 => ("LadderWordsModel", "ladder", "[I", true)
  | 8 => ("LadderWordsModel", "ways", "J", false)
  | 9 => ("LadderWordsModel", "far", "[I", true)
  | 10 => ("LadderWordsModel", "counts", "[J", true)
  | 11 => ("LadderWordsModel", "kept", "I", false)
  | 12 => ("LadderWordsModel", "gatherings", "[I", true)
  | 13 => ("LadderWordsModel", "chosen", "[I", true)
  | 14 => ("LadderWordsModel", "left", "[I", true)
  | 15 => ("LadderWordsModel", "side", "I", false)
  | 16 => ("LadderWordsModel", "lines", "[I", true)
  | _ => ("LadderWordsModel", "grid", "[I", true)
def ty_M : Nat → FieldType := fun k => match k with
  | 0 => .int
  | 1 => .int
  | 2 => .array .int
  | 3 => .int
  | 4 => .array .int
  | 5 => .array .int
  | 6 => .int
  | 7 => .array .int
  | 8 => .long
  | 9 => .array .int
  | 10 => .array .long
  | 11 => .int
  | 12 => .array .int
  | 13 => .array .int
  | 14 => .array .int
  | 15 => .int
  | 16 => .array .int
  | _ => .array .int
theorem nm_M : ∀ a, a < 18 → ∀ b, b < 18 → a ≠ b → (T_M a).2.1 ≠ (T_M b).2.1 := by decide +kernel
theorem ok_M : ∀ k, k < 18 → parseFieldDescriptor (T_M k).2.2.1 = some (ty_M k) := by decide +kernel
theorem in_M : ∀ w ∈ u_ws R_M T_M 18, w ∈ mx_T0 := by decide +kernel
abbrev vwCl : List vw_C := [(R_G, T_G, 9), (R_C, T_C, 2), (R_D, T_D, 7), (R_R, T_R, 2), (R_Q, T_Q, 6), (R_W, T_W, 3), (R_L, T_L, 6), (R_M, T_M, 18)]
/-- the kinds of arrays -/
abbrev mx_ft : List FieldType := [.int, .long, .array .long]
/-- static fields that hold tables, and the tables -/
abbrev mx_zs : List (String × String × String × Nat) := [("LadderWords$Grid", "RIGHT", "[I", 0), ("LadderWords$Grid", "DOWN", "[I", 1)]
/-- links that a private constructor needs -/
abbrev mx_nw : List Cond := [Cond.methodLinkNest "LadderWords" 9 ⟨"LadderWords$Row", "<init>", "()V"⟩ "LadderWords", Cond.methodLinkNest "LadderWords" 18 ⟨"LadderWords$Words", "<init>", "()V"⟩ "LadderWords"]
def mx_t0 : Nat → Int32 := fun j => match j with
  | 0 => 1 | 1 => 1 | 2 => 0 | 3 => -1 | 4 => -1 | 5 => -1 | 6 => 0 | _ => 1
def mx_t1 : Nat → Int32 := fun j => match j with
  | 0 => 0 | 1 => 1 | 2 => 1 | 3 => 1 | 4 => 0 | 5 => -1 | 6 => -1 | _ => -1
abbrev mx_tt : Nat → Option (Nat × (Nat → Int32)) := fun t => match t with
  | 0 => some (8, mx_t0) | 1 => some (8, mx_t1) | _ => none
theorem mx_T0_in {w : Cond} (h : w ∈ mx_T0) : w ∈ lw_tbl := (List.mem_filter.mp h).1
theorem mx_in0 {w : Cond} (h : w ∈ lw_tbl) (h2 : goodWord w = true) : w ∈ mx_T0 := List.mem_filter.mpr ⟨h, h2⟩
theorem mx_good {w : Cond} (h : w ∈ mx_T0) : (w.onTables && w.keeps) = true ∨ ∃ ty, w = .arrayClass ty := good_of_word (List.mem_filter.mp h).2
/-- the words of a method: its code, and all words of the tables -/
abbrev mx_ws (y : MethodName) (cc : ByteArray) (n : Nat) (r : Option FieldType) : List Cond := Cond.code y cc n r :: mx_T0
theorem mx_gI {Ts : List Cond} {y : MethodName} {cc : ByteArray} {n : Nat} {r : Option FieldType} (hT : ∀ w ∈ mx_T0, w ∈ Ts) (h5 : Cond.code y cc n r ∈ mx_T0) : GoodIn Ts (mx_ws y cc n r) := by
  intro w hw
  rcases List.mem_cons.mp hw with rfl | hw
  · exact ⟨hT _ h5, mx_good h5⟩
  · exact ⟨hT _ hw, mx_good hw⟩
theorem mx_gV {Ts : List Cond} {own C : String} {i : Nat} {y : MethodName} {cc : ByteArray} {n : Nat} {r : Option FieldType} (hT : ∀ w ∈ mx_T0, w ∈ Ts) (h1 : Cond.methodLink own i y ∈ mx_T0) (h2 : Cond.instanceMethod y ∈ mx_T0) (h3 : Cond.selects C y y ∈ mx_T0) (h4 : Cond.initialized C ∈ mx_T0) (h5 : Cond.code y cc n r ∈ mx_T0) : GoodIn Ts (wsV own i C y (mx_ws y cc n r)) := by
  intro w hw
  rcases List.mem_append.mp hw with hw | hw
  · have hm : w ∈ mx_T0 := by
      simp only [List.mem_cons, List.not_mem_nil, or_false] at hw
      rcases hw with rfl | rfl | rfl | rfl <;> assumption
    exact ⟨hT _ hm, mx_good hm⟩
  · exact mx_gI hT h5 w hw
theorem mx_gS {Ts : List Cond} {own : String} {i : Nat} {y : MethodName} {cc : ByteArray} {n : Nat} {r : Option FieldType} (hT : ∀ w ∈ mx_T0, w ∈ Ts) (h1 : Cond.methodLink own i y ∈ mx_T0) (h2 : Cond.static y ∈ mx_T0) (h4 : Cond.initialized own ∈ mx_T0) (h5 : Cond.code y cc n r ∈ mx_T0) : GoodIn Ts (wsS own i y (mx_ws y cc n r)) := by
  intro w hw
  rcases List.mem_append.mp hw with hw | hw
  · have hm : w ∈ mx_T0 := by
      simp only [List.mem_cons, List.not_mem_nil, or_false] at hw
      rcases hw with rfl | rfl | rfl <;> assumption
    exact ⟨hT _ hm, mx_good hm⟩
  · exact mx_gI hT h5 w hw
abbrev c_L_init : ByteArray := prog_1_method_1_code
def y_L_init : MethodName := ⟨R_L, "<init>", "()V"⟩
abbrev c_R_init : ByteArray := prog_5_method_1_code
def y_R_init : MethodName := ⟨R_R, "<init>", "()V"⟩
abbrev c_W_init : ByteArray := prog_7_method_1_code
def y_W_init : MethodName := ⟨R_W, "<init>", "()V"⟩
abbrev c_D_init : ByteArray := prog_4_method_1_code
def y_D_init : MethodName := ⟨R_D, "<init>", "(LLadderWords$Words;)V"⟩
abbrev c_G_init : ByteArray := prog_2_method_1_code
def y_G_init : MethodName := ⟨R_G, "<init>", "(LLadderWords$Words;)V"⟩
abbrev c_Q_init : ByteArray := prog_6_method_1_code
def y_Q_init : MethodName := ⟨R_Q, "<init>", "(LLadderWords$Words;)V"⟩
abbrev c_C_init : ByteArray := prog_3_method_1_code
def y_C_init : MethodName := ⟨R_C, "<init>", "(LLadderWords$Words;)V"⟩
abbrev c_L_unit : ByteArray := prog_1_method_2_code
def y_L_unit : MethodName := ⟨R_L, "unit", "(I)Z"⟩
abbrev c_R_add : ByteArray := prog_5_method_2_code
def y_R_add : MethodName := ⟨R_R, "add", "(I)Z"⟩
abbrev c_L_word : ByteArray := prog_1_method_3_code
def y_L_word : MethodName := ⟨R_L, "word", "()I"⟩
abbrev c_W_numberFor : ByteArray := prog_7_method_8_code
def y_W_numberFor : MethodName := ⟨R_W, "numberFor", "(LLadderWords$Row;)I"⟩
abbrev c_R_length : ByteArray := prog_5_method_4_code
def y_R_length : MethodName := ⟨R_R, "length", "()I"⟩
abbrev c_W_knownNumberOf : ByteArray := prog_7_method_9_code
def y_W_knownNumberOf : MethodName := ⟨R_W, "knownNumberOf", "(LLadderWords$Row;)I"⟩
abbrev c_W_isSame : ByteArray := prog_7_method_10_code
def y_W_isSame : MethodName := ⟨R_W, "isSame", "(ILLadderWords$Row;)Z"⟩
abbrev c_W_lengthOf : ByteArray := prog_7_method_4_code
def y_W_lengthOf : MethodName := ⟨R_W, "lengthOf", "(I)I"⟩
abbrev c_W_letterOf : ByteArray := prog_7_method_5_code
def y_W_letterOf : MethodName := ⟨R_W, "letterOf", "(II)I"⟩
abbrev c_R_letterAt : ByteArray := prog_5_method_5_code
def y_R_letterAt : MethodName := ⟨R_R, "letterAt", "(I)I"⟩
abbrev c_W_append : ByteArray := prog_7_method_11_code
def y_W_append : MethodName := ⟨R_W, "append", "(LLadderWords$Row;)V"⟩
abbrev c_R_clear : ByteArray := prog_5_method_3_code
def y_R_clear : MethodName := ⟨R_R, "clear", "()V"⟩
abbrev c_L_letter : ByteArray := prog_1_method_4_code
def y_L_letter : MethodName := ⟨R_L, "letter", "(II)I"⟩
abbrev c_L_ladder : ByteArray := prog_1_method_5_code
def y_L_ladder : MethodName := ⟨R_L, "ladder", "(III)I"⟩
abbrev c_D_find : ByteArray := prog_4_method_2_code
def y_D_find : MethodName := ⟨R_D, "find", "(III)I"⟩
abbrev c_W_has : ByteArray := prog_7_method_3_code
def y_W_has : MethodName := ⟨R_W, "has", "(I)Z"⟩
abbrev c_D_measure : ByteArray := prog_4_method_5_code
def y_D_measure : MethodName := ⟨R_D, "measure", "(III)V"⟩
abbrev c_W_count : ByteArray := prog_7_method_2_code
def y_W_count : MethodName := ⟨R_W, "count", "()I"⟩
abbrev c_D_spread : ByteArray := prog_4_method_6_code
def y_D_spread : MethodName := ⟨R_D, "spread", "(II)V"⟩
abbrev c_W_isStep : ByteArray := prog_7_method_12_code
def y_W_isStep : MethodName := ⟨R_W, "isStep", "(III)Z"⟩
abbrev c_W_differences : ByteArray := prog_7_method_13_code
def y_W_differences : MethodName := ⟨R_W, "differences", "(II)I"⟩
abbrev c_W_isOneMore : ByteArray := prog_7_method_14_code
def y_W_isOneMore : MethodName := ⟨R_W, "isOneMore", "(II)Z"⟩
abbrev c_D_climb : ByteArray := prog_4_method_7_code
def y_D_climb : MethodName := ⟨R_D, "climb", "(II)V"⟩
abbrev c_D_leastNext : ByteArray := prog_4_method_8_code
def y_D_leastNext : MethodName := ⟨R_D, "leastNext", "(III)I"⟩
abbrev c_L_step : ByteArray := prog_1_method_6_code
def y_L_step : MethodName := ⟨R_L, "step", "(I)I"⟩
abbrev c_D_rungAt : ByteArray := prog_4_method_3_code
def y_D_rungAt : MethodName := ⟨R_D, "rungAt", "(I)I"⟩
abbrev c_L_ways : ByteArray := prog_1_method_7_code
def y_L_ways : MethodName := ⟨R_L, "ways", "()J"⟩
abbrev c_D_shortestCount : ByteArray := prog_4_method_4_code
def y_D_shortestCount : MethodName := ⟨R_D, "shortestCount", "()J"⟩
abbrev c_L_gather : ByteArray := prog_1_method_8_code
def y_L_gather : MethodName := ⟨R_L, "gather", "(I)I"⟩
abbrev c_G_find : ByteArray := prog_2_method_2_code
def y_G_find : MethodName := ⟨R_G, "find", "(LLadderWords$Row;I)I"⟩
abbrev c_G_heapOfRow : ByteArray := prog_2_method_4_code
def y_G_heapOfRow : MethodName := ⟨R_G, "heapOfRow", "(LLadderWords$Row;)J"⟩
abbrev c_R_firstPlaceOf : ByteArray := prog_5_method_6_code
def y_R_firstPlaceOf : MethodName := ⟨R_R, "firstPlaceOf", "(I)I"⟩
abbrev c_G_oneAt : ByteArray := prog_2_method_5_code
def y_G_oneAt : MethodName := ⟨R_G, "oneAt", "(I)J"⟩
abbrev c_G_listFitting : ByteArray := prog_2_method_7_code
def y_G_listFitting : MethodName := ⟨R_G, "listFitting", "(LLadderWords$Row;J)V"⟩
abbrev c_G_heapOfWord : ByteArray := prog_2_method_8_code
def y_G_heapOfWord : MethodName := ⟨R_G, "heapOfWord", "(ILLadderWords$Row;)J"⟩
abbrev c_G_isWithin : ByteArray := prog_2_method_6_code
def y_G_isWithin : MethodName := ⟨R_G, "isWithin", "(JJ)Z"⟩
abbrev c_G_choose : ByteArray := prog_2_method_9_code
def y_G_choose : MethodName := ⟨R_G, "choose", "(IIIJ)V"⟩
abbrev c_G_take : ByteArray := prog_2_method_10_code
def y_G_take : MethodName := ⟨R_G, "take", "(IIIJ)V"⟩
abbrev c_G_keep : ByteArray := prog_2_method_11_code
def y_G_keep : MethodName := ⟨R_G, "keep", "(I)V"⟩
abbrev c_L_gathered : ByteArray := prog_1_method_9_code
def y_L_gathered : MethodName := ⟨R_L, "gathered", "(II)I"⟩
abbrev c_G_wordAt : ByteArray := prog_2_method_3_code
def y_G_wordAt : MethodName := ⟨R_G, "wordAt", "(II)I"⟩
abbrev c_L_square : ByteArray := prog_1_method_10_code
def y_L_square : MethodName := ⟨R_L, "square", "(I)Z"⟩
abbrev c_Q_find : ByteArray := prog_6_method_2_code
def y_Q_find : MethodName := ⟨R_Q, "find", "(I)Z"⟩
abbrev c_Q_openAll : ByteArray := prog_6_method_4_code
def y_Q_openAll : MethodName := ⟨R_Q, "openAll", "(I)V"⟩
abbrev c_Q_noteLetters : ByteArray := prog_6_method_5_code
def y_Q_noteLetters : MethodName := ⟨R_Q, "noteLetters", "(II)V"⟩
abbrev c_Q_complete : ByteArray := prog_6_method_6_code
def y_Q_complete : MethodName := ⟨R_Q, "complete", "(II)Z"⟩
abbrev c_Q_completeWith : ByteArray := prog_6_method_7_code
def y_Q_completeWith : MethodName := ⟨R_Q, "completeWith", "(III)Z"⟩
abbrev c_Q_wordsWith : ByteArray := prog_6_method_8_code
def y_Q_wordsWith : MethodName := ⟨R_Q, "wordsWith", "(II)J"⟩
abbrev c_L_line : ByteArray := prog_1_method_11_code
def y_L_line : MethodName := ⟨R_L, "line", "(I)I"⟩
abbrev c_Q_wordAt : ByteArray := prog_6_method_3_code
def y_Q_wordAt : MethodName := ⟨R_Q, "wordAt", "(I)I"⟩
abbrev c_L_hide : ByteArray := prog_1_method_12_code
def y_L_hide : MethodName := ⟨R_L, "hide", "(IIII)Z"⟩
abbrev c_C_put : ByteArray := prog_3_method_4_code
def y_C_put : MethodName := ⟨R_C, "put", "(IIII)Z"⟩
abbrev c_C_isInside : ByteArray := prog_3_method_8_code
def y_C_isInside : MethodName := ⟨R_C, "isInside", "(II)Z"⟩
abbrev c_C_hasRoom : ByteArray := prog_3_method_10_code
def y_C_hasRoom : MethodName := ⟨R_C, "hasRoom", "(IIII)Z"⟩
abbrev c_C_letterAt : ByteArray := prog_3_method_3_code
def y_C_letterAt : MethodName := ⟨R_C, "letterAt", "(II)I"⟩
abbrev c_C_set : ByteArray := prog_3_method_9_code
def y_C_set : MethodName := ⟨R_C, "set", "(III)V"⟩
abbrev c_L_fill : ByteArray := prog_1_method_13_code
def y_L_fill : MethodName := ⟨R_L, "fill", "(J)I"⟩
abbrev c_C_fillEmpty : ByteArray := prog_3_method_5_code
def y_C_fillEmpty : MethodName := ⟨R_C, "fillEmpty", "(J)I"⟩
abbrev c_W_lengthOfAll : ByteArray := prog_7_method_6_code
def y_W_lengthOfAll : MethodName := ⟨R_W, "lengthOfAll", "()I"⟩
abbrev c_W_letterOfAll : ByteArray := prog_7_method_7_code
def y_W_letterOfAll : MethodName := ⟨R_W, "letterOfAll", "(I)I"⟩
abbrev c_L_cell : ByteArray := prog_1_method_14_code
def y_L_cell : MethodName := ⟨R_L, "cell", "(II)I"⟩
abbrev c_L_found : ByteArray := prog_1_method_15_code
def y_L_found : MethodName := ⟨R_L, "found", "(I)I"⟩
abbrev c_C_countOf : ByteArray := prog_3_method_6_code
def y_C_countOf : MethodName := ⟨R_C, "countOf", "(I)I"⟩
abbrev c_C_stands : ByteArray := prog_3_method_11_code
def y_C_stands : MethodName := ⟨R_C, "stands", "(II)Z"⟩
abbrev c_L_where : ByteArray := prog_1_method_16_code
def y_L_where : MethodName := ⟨R_L, "where", "(II)I"⟩
abbrev c_C_placeOf : ByteArray := prog_3_method_7_code
def y_C_placeOf : MethodName := ⟨R_C, "placeOf", "(II)I"⟩
abbrev c_L_wipe : ByteArray := prog_1_method_17_code
def y_L_wipe : MethodName := ⟨R_L, "wipe", "()V"⟩
abbrev c_C_clear : ByteArray := prog_3_method_2_code
def y_C_clear : MethodName := ⟨R_C, "clear", "()V"⟩
abbrev c_M_init : ByteArray := prog_9_method_1_code
def y_M_init : MethodName := ⟨R_M, "<init>", "()V"⟩
abbrev c_M_unit : ByteArray := prog_9_method_5_code
def y_M_unit : MethodName := ⟨R_M, "unit", "(I)Z"⟩
abbrev c_M_word : ByteArray := prog_9_method_8_code
def y_M_word : MethodName := ⟨R_M, "word", "()I"⟩
abbrev c_M_enter : ByteArray := prog_9_method_7_code
def y_M_enter : MethodName := ⟨R_M, "enter", "()I"⟩
abbrev c_M_isRow : ByteArray := prog_9_method_6_code
def y_M_isRow : MethodName := ⟨R_M, "isRow", "(I)Z"⟩
abbrev c_M_at : ByteArray := prog_9_method_4_code
def y_M_at : MethodName := ⟨R_M, "at", "(II)I"⟩
abbrev c_M_letter : ByteArray := prog_9_method_9_code
def y_M_letter : MethodName := ⟨R_M, "letter", "(II)I"⟩
abbrev c_M_isWord : ByteArray := prog_9_method_3_code
def y_M_isWord : MethodName := ⟨R_M, "isWord", "(I)Z"⟩
abbrev c_M_ladder : ByteArray := prog_9_method_13_code
def y_M_ladder : MethodName := ⟨R_M, "ladder", "(III)I"⟩
abbrev c_M_isStep : ByteArray := prog_9_method_12_code
def y_M_isStep : MethodName := ⟨R_M, "isStep", "(III)Z"⟩
abbrev c_M_differsOnce : ByteArray := prog_9_method_10_code
def y_M_differsOnce : MethodName := ⟨R_M, "differsOnce", "(II)Z"⟩
abbrev c_M_isLessOne : ByteArray := prog_9_method_11_code
def y_M_isLessOne : MethodName := ⟨R_M, "isLessOne", "(II)Z"⟩
abbrev c_M_step : ByteArray := prog_9_method_14_code
def y_M_step : MethodName := ⟨R_M, "step", "(I)I"⟩
abbrev c_M_ways : ByteArray := prog_9_method_15_code
def y_M_ways : MethodName := ⟨R_M, "ways", "()J"⟩
abbrev c_M_gather : ByteArray := prog_9_method_19_code
def y_M_gather : MethodName := ⟨R_M, "gather", "(I)I"⟩
abbrev c_M_take : ByteArray := prog_9_method_16_code
def y_M_take : MethodName := ⟨R_M, "take", "(II)Z"⟩
abbrev c_M_isEmpty : ByteArray := prog_9_method_17_code
def y_M_isEmpty : MethodName := ⟨R_M, "isEmpty", "()Z"⟩
abbrev c_M_keep : ByteArray := prog_9_method_18_code
def y_M_keep : MethodName := ⟨R_M, "keep", "(I)V"⟩
abbrev c_M_gathered : ByteArray := prog_9_method_20_code
def y_M_gathered : MethodName := ⟨R_M, "gathered", "(II)I"⟩
abbrev c_M_square : ByteArray := prog_9_method_22_code
def y_M_square : MethodName := ⟨R_M, "square", "(I)Z"⟩
abbrev c_M_mayBe : ByteArray := prog_9_method_21_code
def y_M_mayBe : MethodName := ⟨R_M, "mayBe", "(III)Z"⟩
abbrev c_M_line : ByteArray := prog_9_method_23_code
def y_M_line : MethodName := ⟨R_M, "line", "(I)I"⟩
abbrev c_M_hide : ByteArray := prog_9_method_28_code
def y_M_hide : MethodName := ⟨R_M, "hide", "(IIII)Z"⟩
abbrev c_M_isCell : ByteArray := prog_9_method_26_code
def y_M_isCell : MethodName := ⟨R_M, "isCell", "(II)Z"⟩
abbrev c_M_stands : ByteArray := prog_9_method_27_code
def y_M_stands : MethodName := ⟨R_M, "stands", "(IIIIZ)Z"⟩
abbrev c_M_across : ByteArray := prog_9_method_24_code
def y_M_across : MethodName := ⟨R_M, "across", "(I)I"⟩
abbrev c_M_down : ByteArray := prog_9_method_25_code
def y_M_down : MethodName := ⟨R_M, "down", "(I)I"⟩
abbrev c_M_fill : ByteArray := prog_9_method_30_code
def y_M_fill : MethodName := ⟨R_M, "fill", "(J)I"⟩
abbrev c_M_letterOfAll : ByteArray := prog_9_method_29_code
def y_M_letterOfAll : MethodName := ⟨R_M, "letterOfAll", "(I)I"⟩
abbrev c_M_cell : ByteArray := prog_9_method_31_code
def y_M_cell : MethodName := ⟨R_M, "cell", "(II)I"⟩
abbrev c_M_found : ByteArray := prog_9_method_33_code
def y_M_found : MethodName := ⟨R_M, "found", "(I)I"⟩
abbrev c_M_place : ByteArray := prog_9_method_32_code
def y_M_place : MethodName := ⟨R_M, "place", "(II)I"⟩
abbrev c_M_where : ByteArray := prog_9_method_34_code
def y_M_where : MethodName := ⟨R_M, "where", "(II)I"⟩
abbrev c_M_wipe : ByteArray := prog_9_method_35_code
def y_M_wipe : MethodName := ⟨R_M, "wipe", "()V"⟩
end
section
/-! THE WALKING MACHINE: a value, a cell, a world by numbers of places (no address is seen), an instruction as a step on them, each step's soundness out of the kit's rows -/
/-- an int, a long, a cell by its place (none: null), a table of constants by its number -/
abbrev mx_V : Type := Int32 ⊕ Int64 ⊕ Option Nat ⊕ Nat
/-- an array of ints (kind, length, contents), of longs, of references; an object (class number, fields) -/
abbrev mx_E : Type := (Nat × Nat × (Nat → Int32)) ⊕ (Nat × Nat × (Nat → Int64)) ⊕ (Nat × Nat × (Nat → Option Nat)) ⊕ (Nat × List mx_V)
abbrev mx_L : Type := List (Option mx_V)
abbrev mx_S : Type := List mx_V
abbrev mx_F : Type := Nat → Option mx_E
abbrev mx_K : Type := Nat → mx_L → mx_S → mx_F → Nat → Nat → Prop
abbrev mx_O : Type := mx_L → mx_S → mx_F → Nat → Nat → mx_K → Prop
/-- a contract as it is used: arguments, world, what is asked of answer and world -/
abbrev mx_Sp : Type := List mx_V → mx_F → (Option mx_V → mx_F → Prop) → Prop
abbrev mx_i (x : Int32) : mx_V := .inl x
abbrev mx_l (x : Int64) : mx_V := .inr (.inl x)
abbrev mx_r (q : Nat) : mx_V := .inr (.inr (.inl (some q)))
abbrev mx_tb (t : Nat) : mx_V := .inr (.inr (.inr t))
abbrev mx_null : mx_V := .inr (.inr (.inl none))
abbrev mx_ia (n : Nat) (f : Nat → Int32) : mx_E := .inl (0, n, f)
abbrev mx_la (n : Nat) (f : Nat → Int64) : mx_E := .inr (.inl (1, n, f))
abbrev mx_qa (t n : Nat) (f : Nat → Option Nat) : mx_E := .inr (.inr (.inl (t, n, f)))
abbrev mx_ob (ci : Nat) (fs : List mx_V) : mx_E := .inr (.inr (.inr (ci, fs)))
def mx_v (ad tb : Nat → Nat) : mx_V → Value
  | .inl x => .int x
  | .inr (.inl y) => .long y
  | .inr (.inr (.inl none)) => .null
  | .inr (.inr (.inl (some p))) => .ref (ad p)
  | .inr (.inr (.inr t)) => .ref (tb t)
def mx_e (tc : Nat → ClassId) (ad tb : Nat → Nat) : mx_E → va_E
  | .inl (t, n, f) => .inl (tc t, n, .inl f)
  | .inr (.inl (t, n, f)) => .inl (tc t, n, .inr (.inl f))
  | .inr (.inr (.inl (t, n, f))) => .inl (tc t, n, .inr (.inr (.inr (.inr (fun j => (f j).map ad)))))
  | .inr (.inr (.inr (ci, fs))) => .inr (ci, fs.map (mx_v ad tb))
def mx_cat : mx_V → Nat
  | .inr (.inl _) => 2
  | _ => 1
theorem mx_cat_v (ad tb : Nat → Nat) (v : mx_V) : (mx_v ad tb v).category = mx_cat v := by
  rcases v with x | x | (_ | x) | x <;> rfl
def mx_cs : mx_S → Nat
  | [] => 0
  | v :: r => mx_cat v + mx_cs r
theorem mx_cs_map (ad tb : Nat → Nat) (r : mx_S) : ((r.map (mx_v ad tb)).map fun v => v.category).sum = mx_cs r := by
  induction r with
  | nil => rfl
  | cons v r ih => simp only [List.map_cons, List.sum_cons, mx_cs, mx_cat_v, ih]
/-- a kind of array by its number -/
def mx_t (tc : Nat → ClassId) (ft : List FieldType) : List (ClassId × FieldType) := ft.mapIdx (fun i t => (tc i, t))
theorem mx_t_get {tc : Nat → ClassId} {ft : List FieldType} {i : Nat} {t : FieldType} (h : ft[i]? = some t) : (mx_t tc ft)[i]? = some (tc i, t) := by
  unfold mx_t
  rw [List.getElem?_mapIdx, h]
  rfl
-- worlds
def mx_put (F : mx_F) (k : Nat) (e : mx_E) : mx_F := fun j => bif Nat.beq j k then some e else F j
theorem mx_beq_ne {j k : Nat} (h : j ≠ k) : Nat.beq j k = false := by
  cases hb : Nat.beq j k with
  | false => rfl
  | true => exact absurd (Nat.eq_of_beq_eq_true hb) h
theorem mx_put_at (F : mx_F) (k : Nat) (e : mx_E) : mx_put F k e k = some e := by
  unfold mx_put
  rw [Nat.beq_refl]
  rfl
theorem mx_put_ne {F : mx_F} {j k : Nat} {e : mx_E} (h : j ≠ k) : mx_put F k e j = F j := by
  unfold mx_put
  rw [mx_beq_ne h]
  rfl
theorem mx_put_or {F : mx_F} {j k : Nat} {e x : mx_E} (h : mx_put F k e j = some x) : (j = k ∧ x = e) ∨ (j ≠ k ∧ F j = some x) := by
  by_cases hj : j = k
  · subst hj
    rw [mx_put_at] at h
    exact Or.inl ⟨rfl, (Option.some.inj h).symm⟩
  · rw [mx_put_ne hj] at h
    exact Or.inr ⟨hj, h⟩
theorem mx_self {F : mx_F} {k : Nat} {e : mx_E} (h : F k = some e) : mx_put F k e = F := by
  funext j
  by_cases hj : j = k
  · subst hj
    rw [mx_put_at, h]
  · rw [mx_put_ne hj]
theorem mx_pp (F : mx_F) (k : Nat) (a b : mx_E) : mx_put (mx_put F k a) k b = mx_put F k b := by
  funext j
  by_cases hj : j = k
  · subst hj
    rw [mx_put_at, mx_put_at]
  · rw [mx_put_ne hj, mx_put_ne hj, mx_put_ne hj]
theorem mx_pc (F : mx_F) {j k : Nat} (a b : mx_E) (h : j ≠ k) : mx_put (mx_put F k a) j b = mx_put (mx_put F j b) k a := by
  funext i
  by_cases hj : i = j
  · subst hj
    rw [mx_put_at, mx_put_ne h, mx_put_at]
  · by_cases hk : i = k
    · subst hk
      rw [mx_put_ne hj, mx_put_at, mx_put_at]
    · rw [mx_put_ne hj, mx_put_ne hk, mx_put_ne hk, mx_put_ne hj]
def mx_P (D : va_G) (tc : Nat → ClassId) (ad tb : Nat → Nat) (F : mx_F) (H : Heap) : Prop := ∀ (k : Nat) (e : mx_E), F k = some e → va_at D vwCl (ad k, mx_e tc ad tb e) H
def mx_D (A : Nat → Prop) (ad : Nat → Nat) (F : mx_F) : Prop := (∀ (j k : Nat) (x y : mx_E), F j = some x → F k = some y → ad j = ad k → j = k) ∧ ∀ (k : Nat) (x : mx_E), F k = some x → A (ad k)
def mx_A (ad : Nat → Nat) (F : mx_F) (sz : Nat) : Nat → Prop := fun q => (∃ (k : Nat) (x : mx_E), F k = some x ∧ ad k = q) ∨ sz ≤ q
/-- the places of G are places of F -/
def mx_in (G F : mx_F) : Prop := ∀ (k : Nat) (x : mx_E), G k = some x → ∃ y, F k = some y
theorem mx_in_rf (F : mx_F) : mx_in F F := fun _ x h => ⟨x, h⟩
theorem mx_in_tr {F G I : mx_F} (h1 : mx_in F G) (h2 : mx_in G I) : mx_in F I := fun k x h => by
  obtain ⟨y, hy⟩ := h1 k x h
  exact h2 k y hy
theorem mx_in_put (F : mx_F) (k : Nat) (e : mx_E) : mx_in F (mx_put F k e) := fun j x h => by
  by_cases hj : j = k
  · subst hj
    exact ⟨e, mx_put_at _ _ _⟩
  · exact ⟨x, by rw [mx_put_ne hj]; exact h⟩
theorem mx_P.set {D : va_G} {tc : Nat → ClassId} {ad tb : Nat → Nat} {A : Nat → Prop} {F : mx_F} {H H1 : Heap} {k : Nat} {e0 e : mx_E} (h : mx_P D tc ad tb F H) (hD : mx_D A ad F) (hk : F k = some e0) (he : va_at D vwCl (ad k, mx_e tc ad tb e) H1) (oq : ∀ q : Nat, q ≠ ad k → H1[q]? = H[q]?) : mx_P D tc ad tb (mx_put F k e) H1 := by
  intro j x hx
  rcases mx_put_or hx with ⟨rfl, rfl⟩ | ⟨hj, hx⟩
  · exact he
  · exact (h j x hx).kept (oq _ (fun q => hj (hD.1 j k x e0 hx hk q)))
theorem mx_D.set {A : Nat → Prop} {ad : Nat → Nat} {F : mx_F} {k : Nat} {e0 e : mx_E} (hD : mx_D A ad F) (hk : F k = some e0) : mx_D A ad (mx_put F k e) := by
  have old : ∀ (j : Nat) (x : mx_E), mx_put F k e j = some x → ∃ y, F j = some y := by
    intro j x hx
    rcases mx_put_or hx with ⟨rfl, rfl⟩ | ⟨_, hx⟩
    · exact ⟨_, hk⟩
    · exact ⟨_, hx⟩
  refine ⟨fun i j x y hx hy h => ?_, fun j x hx => ?_⟩
  · obtain ⟨x', hx'⟩ := old i x hx
    obtain ⟨y', hy'⟩ := old j y hy
    exact hD.1 i j x' y' hx' hy' h
  · obtain ⟨x', hx'⟩ := old j x hx
    exact hD.2 j x' hx'
-- locals
def mx_ls (ad tb : Nat → Nat) (lv : mx_L) : List (Nat × Value) := (List.range lv.length).filterMap (fun i => match lv[i]? with
  | some (some v) => some (i, mx_v ad tb v)
  | _ => none)
theorem mx_ls_mem {ad tb : Nat → Nat} {lv : mx_L} {q : Nat × Value} : q ∈ mx_ls ad tb lv ↔ ∃ v, lv[q.1]? = some (some v) ∧ q.2 = mx_v ad tb v := by
  unfold mx_ls
  rw [List.mem_filterMap]
  constructor
  · rintro ⟨i, -, hi⟩
    split at hi
    · rename_i v hv
      cases hi
      exact ⟨v, hv, rfl⟩
    · cases hi
  · rintro ⟨v, hv, h2⟩
    refine ⟨q.1, List.mem_range.mpr (List.getElem?_eq_some_iff.mp hv).1, ?_⟩
    rw [hv]
    show some (q.1, mx_v ad tb v) = some q
    rw [← h2]
def mx_H (ad tb : Nat → Nat) (ls : Array Slot) (nL : Nat) (lv : mx_L) : Prop := lv.length = nL ∧ lv_has ls nL (mx_ls ad tb lv)
theorem mx_H.at {ad tb : Nat → Nat} {ls : Array Slot} {nL : Nat} {lv : mx_L} (h : mx_H ad tb ls nL lv) {i : Nat} {v : mx_V} (hv : lv[i]? = some (some v)) : ls[i]? = some (.val (mx_v ad tb v)) := h.2.2.2 (i, mx_v ad tb v) (mx_ls_mem.mpr ⟨v, hv, rfl⟩)
def mx_kp (lv : mx_L) : Nat → mx_L
  | 0 => lv
  | j + 1 => match lv[j]? with
    | some (some (.inr (.inl _))) => lv.set j none
    | _ => lv
def mx_st1 (lv : mx_L) (i : Nat) (v : mx_V) : mx_L := (mx_kp lv i).set i (some v)
def mx_st2 (lv : mx_L) (i : Nat) (v : mx_V) : mx_L := ((mx_kp lv i).set i (some v)).set (i + 1) none
theorem mx_kp_len (lv : mx_L) (i : Nat) : (mx_kp lv i).length = lv.length := by
  cases i with
  | zero => rfl
  | succ j =>
    simp only [mx_kp]
    split
    · rw [List.length_set]
    · rfl
theorem mx_kp_at {lv : mx_L} {i j : Nat} {w : mx_V} (h : (mx_kp lv i)[j]? = some (some w)) : lv[j]? = some (some w) ∧ ¬ (j + 1 = i ∧ mx_cat w = 2) := by
  cases i with
  | zero => exact ⟨h, fun q => by omega⟩
  | succ k =>
    simp only [mx_kp] at h
    split at h
    · rw [List.getElem?_set] at h
      split at h
      · split at h
        · cases h
        · cases h
      · rename_i hne
        exact ⟨h, fun q => hne (by omega)⟩
    · rename_i hno
      refine ⟨h, fun q => ?_⟩
      obtain ⟨q1, q2⟩ := q
      have hjk : j = k := by omega
      subst hjk
      rcases w with x | x | x | x
      · cases q2
      · exact hno x h
      · cases q2
      · cases q2
theorem mx_H.st1 {ad tb : Nat → Nat} {ls' : Array Slot} {nL : Nat} {lv : mx_L} {i : Nat} {v : mx_V} (hn : lv.length = nL) (h : lv_has ls' nL ((i, mx_v ad tb v) :: (mx_ls ad tb lv).filter (fun q => !(q.1 == i) && !(q.1 + 1 == i && q.2.category == 2)))) : mx_H ad tb ls' nL (mx_st1 lv i v) := by
  refine ⟨by rw [mx_st1, List.length_set, mx_kp_len, hn], h.1, h.2.1, fun q hq => h.2.2 q ?_⟩
  obtain ⟨w, h1, h2⟩ := mx_ls_mem.mp hq
  obtain ⟨j, x⟩ := q
  dsimp only at h1 h2
  rw [mx_st1, List.getElem?_set] at h1
  split at h1
  · rename_i hij
    subst hij
    split at h1
    · cases h1
      rw [h2]
      exact List.mem_cons_self
    · cases h1
  · rename_i hij
    obtain ⟨g1, g2⟩ := mx_kp_at h1
    refine List.mem_cons_of_mem _ (List.mem_filter.mpr ⟨mx_ls_mem.mpr ⟨w, g1, h2⟩, ?_⟩)
    dsimp only
    rw [h2, mx_cat_v]
    have e1 : (j == i) = false := by simp; omega
    rw [e1]
    by_cases e2 : j + 1 = i
    · have e3 : mx_cat w ≠ 2 := fun z => g2 ⟨e2, z⟩
      simp [e3]
    · simp [e2]
theorem mx_H.st2 {ad tb : Nat → Nat} {ls' : Array Slot} {nL : Nat} {lv : mx_L} {i : Nat} {v : mx_V} (hn : lv.length = nL) (h : lv_has ls' nL ((i, mx_v ad tb v) :: (mx_ls ad tb lv).filter (fun q => !(q.1 == i) && (!(q.1 == i + 1) && !(q.1 + 1 == i && q.2.category == 2))))) : mx_H ad tb ls' nL (mx_st2 lv i v) := by
  refine ⟨by rw [mx_st2, List.length_set, List.length_set, mx_kp_len, hn], h.1, h.2.1, fun q hq => h.2.2 q ?_⟩
  obtain ⟨w, h1, h2⟩ := mx_ls_mem.mp hq
  obtain ⟨j, x⟩ := q
  dsimp only at h1 h2
  rw [mx_st2, List.getElem?_set] at h1
  split at h1
  · split at h1
    · cases h1
    · cases h1
  rename_i hij1
  rw [List.getElem?_set] at h1
  split at h1
  · rename_i hij
    subst hij
    split at h1
    · cases h1
      rw [h2]
      exact List.mem_cons_self
    · cases h1
  · rename_i hij
    obtain ⟨g1, g2⟩ := mx_kp_at h1
    refine List.mem_cons_of_mem _ (List.mem_filter.mpr ⟨mx_ls_mem.mpr ⟨w, g1, h2⟩, ?_⟩)
    dsimp only
    rw [h2, mx_cat_v]
    have e1 : (j == i) = false := by simp; omega
    have e4 : (j == i + 1) = false := by simp; omega
    rw [e1, e4]
    by_cases e2 : j + 1 = i
    · have e3 : mx_cat w ≠ 2 := fun z => g2 ⟨e2, z⟩
      simp [e3]
    · simp [e2]
-- statics: fields that hold tables, and the tables
/-- the class of arrays of longs is the component of that of arrays of them -/
def mx_J (U : State) : Prop := ∃ (cQ cJ : ClassId) (kQ : Class), U.vm.findClass "[[J" = some cQ ∧ U.vm.findClass "[J" = some cJ ∧ U.vm.classes[cQ]? = some kQ ∧ kQ.kind = .array cJ (.array .long)
theorem mx_J.moved {u U : State} (hvm : u.vm.Alike U.vm) (h : mx_J u) : mx_J U := by
  obtain ⟨cQ, cJ, kQ, h1, h2, h3, h4⟩ := h
  obtain ⟨k', hk', he⟩ := hvm.2.2 _ _ h3
  exact ⟨cQ, cJ, k', by rw [hvm.findClass]; exact h1, by rw [hvm.findClass]; exact h2, hk', by rw [he]; exact h4⟩
def mx_Z (tb : Nat → Nat) (A : Nat → Prop) (U : State) (H : Heap) : Prop := (∀ z ∈ mx_zs, va_Z z.1 z.2.1 z.2.2.1 (.ref (tb z.2.2.2)) A U H) ∧ (∀ (t n : Nat) (f : Nat → Int32), mx_tt t = some (n, f) → va_T .int (tb t) n (fun j => .int (f j)) A U H) ∧ (∀ w ∈ mx_nw, va_Nw w U) ∧ mx_J U
theorem mx_Z.to {tb : Nat → Nat} {A B : Nat → Prop} {u U : State} {H H1 : Heap} (h : mx_Z tb A u H) (hvm : u.vm.Alike U.vm) (hN : ∀ w ∈ mx_nw, va_Nw w u → va_Nw w U) (hq : ∀ a : Nat, a < H.size → ¬ A a → H1[a]? = H[a]?) (hAB : ∀ q, B q → A q) : mx_Z tb B U H1 :=
  ⟨fun z hz => (((h.1 z hz).moved hvm).kept hq).narrow hAB, fun t n f ht => (((h.2.1 t n f ht).moved hvm).kept hq).narrow hAB, fun w hw => hN w hw (h.2.2.1 w hw), h.2.2.2.moved hvm⟩
theorem mx_nw_warm {s U : State} (hW : s.WarmedH U.vm) : ∀ w ∈ mx_nw, va_Nw w s → va_Nw w U := by
  intro w hw h
  simp only [mx_nw, List.mem_cons, List.not_mem_nil, or_false] at hw
  rcases hw with rfl | rfl
  · exact va_Nw.warmM hW h
  · exact va_Nw.warmM hW h
theorem mx_nw_same {u U : State} (hv : u.vm = U.vm) : ∀ w ∈ mx_nw, va_Nw w u → va_Nw w U := by
  intro w hw h
  simp only [mx_nw, List.mem_cons, List.not_mem_nil, or_false] at hw
  rcases hw with rfl | rfl
  · exact va_Nw.same rfl hv h
  · exact va_Nw.same rfl hv h
/-- the machine at a place: from every heap that holds the world it comes to Q -/
def mx_W (p : Program) (l : Launch) (e : Env) (R : Room) (s : State) (m : MethodId) (args : Array Value) (below : List Frame) (meth : Method) (c : Code) (Q : State → Prop) (D : va_G) (tc : Nat → ClassId) (tb : Nat → Nat) (A : Nat → Prop) (nL : Nat) (Ok : (Nat → Nat) → mx_F → Prop) : mx_K := fun pc lv st F ca sl =>
  ∀ (ad : Nat → Nat) (H : Heap) (locs : List Loc) (ls : Array Slot), Ok ad F → mx_P D tc ad tb F H → mx_D A ad F → va_S A s.heap H locs → mx_H ad tb ls nL lv → W p l e R s m args below meth c H locs ca sl Q (F0 m pc ls (st.map (mx_v ad tb)))
/-- what stays through a method -/
def mx_C (p : Program) (s : State) (m : MethodId) (args : Array Value) (c : Code) (cc : ByteArray) (own : String) (Ts : List Cond) (D : va_G) (tc : Nat → ClassId) (tb : Nat → Nat) (A : Nat → Prop) (nL : Nat) (Ok : (Nat → Nat) → mx_F → Prop) : Prop :=
  p.tables.exec = Jvm.exec ∧ c.code = cc ∧ c.maxLocals = nL ∧ s.vm.findClass own = some m.cls ∧ (∀ w ∈ Ts, w.before args s = true) ∧ va_K D vwCl (mx_t tc mx_ft) s ∧ (∀ q : Nat, s.heap.size ≤ q → A q) ∧ mx_Z tb A s s.heap ∧ ∀ (ad : Nat → Nat) (F F' : mx_F), mx_in F F' → Ok ad F → Ok ad F'
/-- a step is sound at a place -/
def mx_So (K : mx_K) (pc : Nat) (o : mx_O) : Prop := ∀ (lv : mx_L) (st : mx_S) (F : mx_F) (ca sl : Nat), o lv st F ca sl K → K pc lv st F ca sl
def mx_all (K : mx_K) : List (Nat × mx_O) → Prop
  | [] => True
  | q :: r => mx_So K q.1 q.2 ∧ mx_all K r
def mx_at : List (Nat × mx_O) → Nat → Option mx_O
  | [], _ => none
  | q :: r, pc => bif Nat.beq q.1 pc then some q.2 else mx_at r pc
theorem mx_go {K : mx_K} : ∀ {t : List (Nat × mx_O)}, mx_all K t → ∀ {pc : Nat} {o : mx_O} {lv : mx_L} {st : mx_S} {F : mx_F} {ca sl : Nat}, mx_at t pc = some o → o lv st F ca sl K → K pc lv st F ca sl
  | [], _, _, _, _, _, _, _, _, h, _ => by cases h
  | q :: r, ha, pc, o, lv, st, F, ca, sl, h, ho => by
    unfold mx_at at h
    cases hb : Nat.beq q.1 pc with
    | true =>
      rw [hb] at h
      have e1 : q.1 = pc := Nat.eq_of_beq_eq_true hb
      cases h
      rw [← e1]
      exact ha.1 lv st F ca sl ho
    | false =>
      rw [hb] at h
      exact mx_go ha.2 h ho
-- the steps
def mx_push (v : mx_V) (nx : Nat) : mx_O := fun lv st F ca sl K => K nx lv (v :: st) F ca sl
def mx_iload (i nx : Nat) : mx_O := fun lv st F ca sl K => ∃ (x : Int32), lv[i]? = some (some (.inl x)) ∧ K nx lv (.inl x :: st) F ca sl
def mx_lload (i nx : Nat) : mx_O := fun lv st F ca sl K => ∃ (x : Int64), lv[i]? = some (some (.inr (.inl x))) ∧ K nx lv (.inr (.inl x) :: st) F ca sl
def mx_aload (i nx : Nat) : mx_O := fun lv st F ca sl K => ∃ (q : Nat), lv[i]? = some (some (.inr (.inr (.inl (some q))))) ∧ K nx lv (.inr (.inr (.inl (some q))) :: st) F ca sl
def mx_istore (i nx : Nat) : mx_O := fun lv st F ca sl K => ∃ (x : Int32) (r : mx_S), st = .inl x :: r ∧ K nx (mx_st1 lv i (.inl x)) r F ca sl
def mx_lstore (i nx : Nat) : mx_O := fun lv st F ca sl K => ∃ (x : Int64) (r : mx_S), st = .inr (.inl x) :: r ∧ K nx (mx_st2 lv i (.inr (.inl x))) r F ca sl
def mx_astore (i nx : Nat) : mx_O := fun lv st F ca sl K => ∃ (q : Nat) (r : mx_S), st = .inr (.inr (.inl (some q))) :: r ∧ K nx (mx_st1 lv i (.inr (.inr (.inl (some q))))) r F ca sl
def mx_iinc (i : Nat) (k : Int32) (nx : Nat) : mx_O := fun lv st F ca sl K => ∃ (x : Int32), lv[i]? = some (some (.inl x)) ∧ K nx (mx_st1 lv i (.inl (x + k))) st F ca sl
def mx_goto (nx : Nat) : mx_O := fun lv st F ca sl K => K nx lv st F ca sl
def mx_dup (nx : Nat) : mx_O := fun lv st F ca sl K => ∃ (v : mx_V) (r : mx_S), st = v :: r ∧ mx_cat v = 1 ∧ K nx lv (v :: v :: r) F ca sl
def mx_dup2 (nx : Nat) : mx_O := fun lv st F ca sl K => ∃ (v w : mx_V) (r : mx_S), st = v :: w :: r ∧ mx_cat v = 1 ∧ mx_cat w = 1 ∧ K nx lv (v :: w :: v :: w :: r) F ca sl
def mx_pop (nx : Nat) : mx_O := fun lv st F ca sl K => ∃ (v : mx_V) (r : mx_S), st = v :: r ∧ mx_cat v = 1 ∧ K nx lv r F ca sl
def mx_dup_x1 (nx : Nat) : mx_O := fun lv st F ca sl K => ∃ (v w : mx_V) (r : mx_S), st = v :: w :: r ∧ mx_cat v = 1 ∧ mx_cat w = 1 ∧ K nx lv (v :: w :: v :: r) F ca sl
def mx_dup_x2 (nx : Nat) : mx_O := fun lv st F ca sl K => ∃ (v w u : mx_V) (r : mx_S), st = v :: w :: u :: r ∧ mx_cat v = 1 ∧ mx_cat w = 1 ∧ mx_cat u = 1 ∧ K nx lv (v :: w :: u :: v :: r) F ca sl
def mx_i2l (nx : Nat) : mx_O := fun lv st F ca sl K => ∃ (x : Int32) (r : mx_S), st = .inl x :: r ∧ K nx lv (.inr (.inl x.toInt64) :: r) F ca sl
def mx_l2i (nx : Nat) : mx_O := fun lv st F ca sl K => ∃ (x : Int64) (r : mx_S), st = .inr (.inl x) :: r ∧ K nx lv (.inl x.toInt32 :: r) F ca sl
def mx_ineg (nx : Nat) : mx_O := fun lv st F ca sl K => ∃ (x : Int32) (r : mx_S), st = .inl x :: r ∧ K nx lv (.inl (-x) :: r) F ca sl
def mx_lcmp (nx : Nat) : mx_O := fun lv st F ca sl K => ∃ (x y : Int64) (r : mx_S), st = .inr (.inl y) :: .inr (.inl x) :: r ∧ K nx lv (.inl (lg_cmp x y) :: r) F ca sl
def mx_get (ci k nx : Nat) : mx_O := fun lv st F ca sl K => ∃ (q : Nat) (r : mx_S) (fs : List mx_V) (v : mx_V), st = .inr (.inr (.inl (some q))) :: r ∧ F q = some (.inr (.inr (.inr (ci, fs)))) ∧ fs[k]? = some v ∧ K nx lv (v :: r) F ca sl
def mx_puti (ci k nx : Nat) : mx_O := fun lv st F ca sl K => ∃ (x : Int32) (q : Nat) (r : mx_S) (fs : List mx_V), st = .inl x :: .inr (.inr (.inl (some q))) :: r ∧ F q = some (.inr (.inr (.inr (ci, fs)))) ∧ k < fs.length ∧ K nx lv r (mx_put F q (.inr (.inr (.inr (ci, fs.set k (.inl x)))))) ca sl
def mx_putl (ci k nx : Nat) : mx_O := fun lv st F ca sl K => ∃ (x : Int64) (q : Nat) (r : mx_S) (fs : List mx_V), st = .inr (.inl x) :: .inr (.inr (.inl (some q))) :: r ∧ F q = some (.inr (.inr (.inr (ci, fs)))) ∧ k < fs.length ∧ K nx lv r (mx_put F q (.inr (.inr (.inr (ci, fs.set k (.inr (.inl x))))))) ca sl
def mx_gets (t nx : Nat) : mx_O := fun lv st F ca sl K => K nx lv (.inr (.inr (.inr t)) :: st) F ca sl
def mx_iald (nx : Nat) : mx_O := fun lv st F ca sl K => ∃ (i : Int32) (q : Nat) (r : mx_S) (n : Nat) (f : Nat → Int32), st = .inl i :: .inr (.inr (.inl (some q))) :: r ∧ F q = some (.inl (0, n, f)) ∧ vp_in i n ∧ K nx lv (.inl (f i.toNatClampNeg) :: r) F ca sl
def mx_tald (nx : Nat) : mx_O := fun lv st F ca sl K => ∃ (i : Int32) (t : Nat) (r : mx_S) (n : Nat) (f : Nat → Int32), st = .inl i :: .inr (.inr (.inr t)) :: r ∧ mx_tt t = some (n, f) ∧ vp_in i n ∧ K nx lv (.inl (f i.toNatClampNeg) :: r) F ca sl
def mx_lald (nx : Nat) : mx_O := fun lv st F ca sl K => ∃ (i : Int32) (q : Nat) (r : mx_S) (n : Nat) (f : Nat → Int64), st = .inl i :: .inr (.inr (.inl (some q))) :: r ∧ F q = some (.inr (.inl (1, n, f))) ∧ vp_in i n ∧ K nx lv (.inr (.inl (f i.toNatClampNeg)) :: r) F ca sl
def mx_aald (nx : Nat) : mx_O := fun lv st F ca sl K => ∃ (i : Int32) (q : Nat) (r : mx_S) (t n : Nat) (f : Nat → Option Nat) (u : Nat), st = .inl i :: .inr (.inr (.inl (some q))) :: r ∧ F q = some (.inr (.inr (.inl (t, n, f)))) ∧ (∃ ty, mx_ft[t]? = some ty ∧ ty.isReference = true) ∧ vp_in i n ∧ f i.toNatClampNeg = some u ∧ K nx lv (.inr (.inr (.inl (some u))) :: r) F ca sl
def mx_iast (nx : Nat) : mx_O := fun lv st F ca sl K => ∃ (x i : Int32) (q : Nat) (r : mx_S) (n : Nat) (f : Nat → Int32), st = .inl x :: .inl i :: .inr (.inr (.inl (some q))) :: r ∧ F q = some (.inl (0, n, f)) ∧ vp_in i n ∧ K nx lv r (mx_put F q (.inl (0, n, upd f i.toNatClampNeg x))) ca sl
def mx_last (nx : Nat) : mx_O := fun lv st F ca sl K => ∃ (x : Int64) (i : Int32) (q : Nat) (r : mx_S) (n : Nat) (f : Nat → Int64), st = .inr (.inl x) :: .inl i :: .inr (.inr (.inl (some q))) :: r ∧ F q = some (.inr (.inl (1, n, f))) ∧ vp_in i n ∧ K nx lv r (mx_put F q (.inr (.inl (1, n, vp_updL f i.toNatClampNeg x)))) ca sl
def mx_alen (nx : Nat) : mx_O := fun lv st F ca sl K => ∃ (q : Nat) (r : mx_S) (n : Nat) (f : Nat → Int32), st = .inr (.inr (.inl (some q))) :: r ∧ F q = some (.inl (0, n, f)) ∧ K nx lv (.inl (nI n) :: r) F ca sl
def mx_iadd (nx : Nat) : mx_O := fun lv st F ca sl K => ∃ (x y : Int32) (r : mx_S), st = .inl y :: .inl x :: r ∧ K nx lv (.inl (x + y) :: r) F ca sl
def mx_isub (nx : Nat) : mx_O := fun lv st F ca sl K => ∃ (x y : Int32) (r : mx_S), st = .inl y :: .inl x :: r ∧ K nx lv (.inl (x - y) :: r) F ca sl
def mx_imul (nx : Nat) : mx_O := fun lv st F ca sl K => ∃ (x y : Int32) (r : mx_S), st = .inl y :: .inl x :: r ∧ K nx lv (.inl (x * y) :: r) F ca sl
def mx_iand (nx : Nat) : mx_O := fun lv st F ca sl K => ∃ (x y : Int32) (r : mx_S), st = .inl y :: .inl x :: r ∧ K nx lv (.inl (x &&& y) :: r) F ca sl
def mx_ior (nx : Nat) : mx_O := fun lv st F ca sl K => ∃ (x y : Int32) (r : mx_S), st = .inl y :: .inl x :: r ∧ K nx lv (.inl (x ||| y) :: r) F ca sl
def mx_ixor (nx : Nat) : mx_O := fun lv st F ca sl K => ∃ (x y : Int32) (r : mx_S), st = .inl y :: .inl x :: r ∧ K nx lv (.inl (x ^^^ y) :: r) F ca sl
def mx_ishl (nx : Nat) : mx_O := fun lv st F ca sl K => ∃ (x y : Int32) (r : mx_S), st = .inl y :: .inl x :: r ∧ K nx lv (.inl (x <<< (y &&& 31)) :: r) F ca sl
def mx_ishr (nx : Nat) : mx_O := fun lv st F ca sl K => ∃ (x y : Int32) (r : mx_S), st = .inl y :: .inl x :: r ∧ K nx lv (.inl (x >>> (y &&& 31)) :: r) F ca sl
def mx_iushr (nx : Nat) : mx_O := fun lv st F ca sl K => ∃ (x y : Int32) (r : mx_S), st = .inl y :: .inl x :: r ∧ K nx lv (.inl ((x.toUInt32 >>> (y.toUInt32 &&& Int32.toUInt32 31)).toInt32) :: r) F ca sl
def mx_ladd (nx : Nat) : mx_O := fun lv st F ca sl K => ∃ (x y : Int64) (r : mx_S), st = .inr (.inl y) :: .inr (.inl x) :: r ∧ K nx lv (.inr (.inl (x + y)) :: r) F ca sl
def mx_lsub (nx : Nat) : mx_O := fun lv st F ca sl K => ∃ (x y : Int64) (r : mx_S), st = .inr (.inl y) :: .inr (.inl x) :: r ∧ K nx lv (.inr (.inl (x - y)) :: r) F ca sl
def mx_lmul (nx : Nat) : mx_O := fun lv st F ca sl K => ∃ (x y : Int64) (r : mx_S), st = .inr (.inl y) :: .inr (.inl x) :: r ∧ K nx lv (.inr (.inl (x * y)) :: r) F ca sl
def mx_land (nx : Nat) : mx_O := fun lv st F ca sl K => ∃ (x y : Int64) (r : mx_S), st = .inr (.inl y) :: .inr (.inl x) :: r ∧ K nx lv (.inr (.inl (x &&& y)) :: r) F ca sl
def mx_lor (nx : Nat) : mx_O := fun lv st F ca sl K => ∃ (x y : Int64) (r : mx_S), st = .inr (.inl y) :: .inr (.inl x) :: r ∧ K nx lv (.inr (.inl (x ||| y)) :: r) F ca sl
def mx_lxor (nx : Nat) : mx_O := fun lv st F ca sl K => ∃ (x y : Int64) (r : mx_S), st = .inr (.inl y) :: .inr (.inl x) :: r ∧ K nx lv (.inr (.inl (x ^^^ y)) :: r) F ca sl
def mx_lshl (nx : Nat) : mx_O := fun lv st F ca sl K => ∃ (x : Int64) (y : Int32) (r : mx_S), st = .inl y :: .inr (.inl x) :: r ∧ K nx lv (.inr (.inl (x <<< (y.toInt64 &&& 63))) :: r) F ca sl
def mx_lshr (nx : Nat) : mx_O := fun lv st F ca sl K => ∃ (x : Int64) (y : Int32) (r : mx_S), st = .inl y :: .inr (.inl x) :: r ∧ K nx lv (.inr (.inl (x >>> (y.toInt64 &&& 63))) :: r) F ca sl
def mx_lushr (nx : Nat) : mx_O := fun lv st F ca sl K => ∃ (x : Int64) (y : Int32) (r : mx_S), st = .inl y :: .inr (.inl x) :: r ∧ K nx lv (.inr (.inl ((x.toUInt64 >>> (y.toInt64.toUInt64 &&& Int64.toUInt64 63)).toInt64)) :: r) F ca sl
def mx_idiv (nx : Nat) : mx_O := fun lv st F ca sl K => ∃ (x y : Int32) (r : mx_S), st = .inl y :: .inl x :: r ∧ ¬ y = 0 ∧ K nx lv (.inl (x / y) :: r) F ca sl
def mx_irem (nx : Nat) : mx_O := fun lv st F ca sl K => ∃ (x y : Int32) (r : mx_S), st = .inl y :: .inl x :: r ∧ ¬ y = 0 ∧ K nx lv (.inl (x - x / y * y) :: r) F ca sl
def mx_ldiv (nx : Nat) : mx_O := fun lv st F ca sl K => ∃ (x y : Int64) (r : mx_S), st = .inr (.inl y) :: .inr (.inl x) :: r ∧ ¬ y = 0 ∧ K nx lv (.inr (.inl (x / y)) :: r) F ca sl
def mx_lrem (nx : Nat) : mx_O := fun lv st F ca sl K => ∃ (x y : Int64) (r : mx_S), st = .inr (.inl y) :: .inr (.inl x) :: r ∧ ¬ y = 0 ∧ K nx lv (.inr (.inl (x - x / y * y)) :: r) F ca sl
def mx_if_eq (tg nx : Nat) : mx_O := fun lv st F ca sl K => ∃ (x : Int32) (r : mx_S), st = .inl x :: r ∧ (x = 0 → K tg lv r F ca sl) ∧ (¬ x = 0 → K nx lv r F ca sl)
def mx_if_ne (tg nx : Nat) : mx_O := fun lv st F ca sl K => ∃ (x : Int32) (r : mx_S), st = .inl x :: r ∧ (¬ x = 0 → K tg lv r F ca sl) ∧ (x = 0 → K nx lv r F ca sl)
def mx_if_lt (tg nx : Nat) : mx_O := fun lv st F ca sl K => ∃ (x : Int32) (r : mx_S), st = .inl x :: r ∧ (x < 0 → K tg lv r F ca sl) ∧ (¬ x < 0 → K nx lv r F ca sl)
def mx_if_ge (tg nx : Nat) : mx_O := fun lv st F ca sl K => ∃ (x : Int32) (r : mx_S), st = .inl x :: r ∧ (0 ≤ x → K tg lv r F ca sl) ∧ (¬ 0 ≤ x → K nx lv r F ca sl)
def mx_if_gt (tg nx : Nat) : mx_O := fun lv st F ca sl K => ∃ (x : Int32) (r : mx_S), st = .inl x :: r ∧ (0 < x → K tg lv r F ca sl) ∧ (¬ 0 < x → K nx lv r F ca sl)
def mx_if_le (tg nx : Nat) : mx_O := fun lv st F ca sl K => ∃ (x : Int32) (r : mx_S), st = .inl x :: r ∧ (x ≤ 0 → K tg lv r F ca sl) ∧ (¬ x ≤ 0 → K nx lv r F ca sl)
def mx_ic_eq (tg nx : Nat) : mx_O := fun lv st F ca sl K => ∃ (x y : Int32) (r : mx_S), st = .inl y :: .inl x :: r ∧ (x = y → K tg lv r F ca sl) ∧ (¬ x = y → K nx lv r F ca sl)
def mx_ic_ne (tg nx : Nat) : mx_O := fun lv st F ca sl K => ∃ (x y : Int32) (r : mx_S), st = .inl y :: .inl x :: r ∧ (¬ x = y → K tg lv r F ca sl) ∧ (x = y → K nx lv r F ca sl)
def mx_ic_lt (tg nx : Nat) : mx_O := fun lv st F ca sl K => ∃ (x y : Int32) (r : mx_S), st = .inl y :: .inl x :: r ∧ (x < y → K tg lv r F ca sl) ∧ (¬ x < y → K nx lv r F ca sl)
def mx_ic_ge (tg nx : Nat) : mx_O := fun lv st F ca sl K => ∃ (x y : Int32) (r : mx_S), st = .inl y :: .inl x :: r ∧ (y ≤ x → K tg lv r F ca sl) ∧ (¬ y ≤ x → K nx lv r F ca sl)
def mx_ic_gt (tg nx : Nat) : mx_O := fun lv st F ca sl K => ∃ (x y : Int32) (r : mx_S), st = .inl y :: .inl x :: r ∧ (y < x → K tg lv r F ca sl) ∧ (¬ y < x → K nx lv r F ca sl)
def mx_ic_le (tg nx : Nat) : mx_O := fun lv st F ca sl K => ∃ (x y : Int32) (r : mx_S), st = .inl y :: .inl x :: r ∧ (x ≤ y → K tg lv r F ca sl) ∧ (¬ x ≤ y → K nx lv r F ca sl)
-- returns: what is asked of the answer
def mx_ret (P : Option mx_V → mx_F → Prop) : mx_O := fun _ st F ca sl _ => st = [] ∧ ca = 0 ∧ sl = 0 ∧ P none F
def mx_iret (P : Option mx_V → mx_F → Prop) : mx_O := fun _ st F ca sl _ => ∃ (x : Int32), st = [.inl x] ∧ ca = 0 ∧ sl = 0 ∧ P (some (.inl x)) F
def mx_zret (P : Option mx_V → mx_F → Prop) : mx_O := fun _ st F ca sl _ => ∃ (x : Int32), st = [.inl x] ∧ ca = 0 ∧ sl = 0 ∧ (x = 0 ∨ x = 1) ∧ P (some (.inl x)) F
def mx_lret (P : Option mx_V → mx_F → Prop) : mx_O := fun _ st F ca sl _ => ∃ (x : Int64), st = [.inr (.inl x)] ∧ ca = 0 ∧ sl = 0 ∧ P (some (.inr (.inl x))) F
-- calls that make no cell
def mx_k (nx : Nat) (lv : mx_L) (r : mx_S) (ca sl : Nat) (K : mx_K) : Option mx_V → mx_F → Prop := fun v F' => match v with
  | some x => K nx lv (x :: r) F' ca sl
  | none => K nx lv r F' ca sl
def mx_cv0 (ci : Nat) (sp : mx_Sp) (mc ms nx : Nat) : mx_O := fun lv st F ca sl K => ∃ (q : Nat) (r : mx_S) (fs : List mx_V), st = mx_r q :: r ∧ F q = some (.inr (.inr (.inr (ci, fs)))) ∧ Nat.ble (mx_cs r) 8 = true ∧ Nat.ble ca mc = true ∧ Nat.ble sl ms = true ∧ sp [mx_r q] F (mx_k nx lv r ca sl K)
def mx_cv1 (ci : Nat) (sp : mx_Sp) (mc ms nx : Nat) : mx_O := fun lv st F ca sl K => ∃ (q : Nat) (a1 : mx_V) (r : mx_S) (fs : List mx_V), st = a1 :: mx_r q :: r ∧ F q = some (.inr (.inr (.inr (ci, fs)))) ∧ Nat.ble (mx_cs r) 8 = true ∧ Nat.ble ca mc = true ∧ Nat.ble sl ms = true ∧ sp [mx_r q, a1] F (mx_k nx lv r ca sl K)
def mx_cv2 (ci : Nat) (sp : mx_Sp) (mc ms nx : Nat) : mx_O := fun lv st F ca sl K => ∃ (q : Nat) (a1 a2 : mx_V) (r : mx_S) (fs : List mx_V), st = a2 :: a1 :: mx_r q :: r ∧ F q = some (.inr (.inr (.inr (ci, fs)))) ∧ Nat.ble (mx_cs r) 8 = true ∧ Nat.ble ca mc = true ∧ Nat.ble sl ms = true ∧ sp [mx_r q, a1, a2] F (mx_k nx lv r ca sl K)
def mx_cv3 (ci : Nat) (sp : mx_Sp) (mc ms nx : Nat) : mx_O := fun lv st F ca sl K => ∃ (q : Nat) (a1 a2 a3 : mx_V) (r : mx_S) (fs : List mx_V), st = a3 :: a2 :: a1 :: mx_r q :: r ∧ F q = some (.inr (.inr (.inr (ci, fs)))) ∧ Nat.ble (mx_cs r) 8 = true ∧ Nat.ble ca mc = true ∧ Nat.ble sl ms = true ∧ sp [mx_r q, a1, a2, a3] F (mx_k nx lv r ca sl K)
def mx_cv4 (ci : Nat) (sp : mx_Sp) (mc ms nx : Nat) : mx_O := fun lv st F ca sl K => ∃ (q : Nat) (a1 a2 a3 a4 : mx_V) (r : mx_S) (fs : List mx_V), st = a4 :: a3 :: a2 :: a1 :: mx_r q :: r ∧ F q = some (.inr (.inr (.inr (ci, fs)))) ∧ Nat.ble (mx_cs r) 8 = true ∧ Nat.ble ca mc = true ∧ Nat.ble sl ms = true ∧ sp [mx_r q, a1, a2, a3, a4] F (mx_k nx lv r ca sl K)
def mx_cv5 (ci : Nat) (sp : mx_Sp) (mc ms nx : Nat) : mx_O := fun lv st F ca sl K => ∃ (q : Nat) (a1 a2 a3 a4 a5 : mx_V) (r : mx_S) (fs : List mx_V), st = a5 :: a4 :: a3 :: a2 :: a1 :: mx_r q :: r ∧ F q = some (.inr (.inr (.inr (ci, fs)))) ∧ Nat.ble (mx_cs r) 8 = true ∧ Nat.ble ca mc = true ∧ Nat.ble sl ms = true ∧ sp [mx_r q, a1, a2, a3, a4, a5] F (mx_k nx lv r ca sl K)
def mx_cs1 (sp : mx_Sp) (mc ms nx : Nat) : mx_O := fun lv st F ca sl K => ∃ (a0 : mx_V) (r : mx_S), st = a0 :: r ∧ Nat.ble (mx_cs r) 8 = true ∧ Nat.ble ca mc = true ∧ Nat.ble sl ms = true ∧ sp [a0] F (mx_k nx lv r ca sl K)
def mx_cs2 (sp : mx_Sp) (mc ms nx : Nat) : mx_O := fun lv st F ca sl K => ∃ (a0 a1 : mx_V) (r : mx_S), st = a1 :: a0 :: r ∧ Nat.ble (mx_cs r) 8 = true ∧ Nat.ble ca mc = true ∧ Nat.ble sl ms = true ∧ sp [a0, a1] F (mx_k nx lv r ca sl K)
def mx_cs3 (sp : mx_Sp) (mc ms nx : Nat) : mx_O := fun lv st F ca sl K => ∃ (a0 a1 a2 : mx_V) (r : mx_S), st = a2 :: a1 :: a0 :: r ∧ Nat.ble (mx_cs r) 8 = true ∧ Nat.ble ca mc = true ∧ Nat.ble sl ms = true ∧ sp [a0, a1, a2] F (mx_k nx lv r ca sl K)
def mx_cs4 (sp : mx_Sp) (mc ms nx : Nat) : mx_O := fun lv st F ca sl K => ∃ (a0 a1 a2 a3 : mx_V) (r : mx_S), st = a3 :: a2 :: a1 :: a0 :: r ∧ Nat.ble (mx_cs r) 8 = true ∧ Nat.ble ca mc = true ∧ Nat.ble sl ms = true ∧ sp [a0, a1, a2, a3] F (mx_k nx lv r ca sl K)
section MXS
variable {p : Program} {l : Launch} {e : Env} {R : Room} {s : State} {m : MethodId} {args : Array Value} {below : List Frame} {meth : Method} {c : Code} {Q : State → Prop} {cc : ByteArray} {own : String} {Ts : List Cond} {D : va_G} {tc : Nat → ClassId} {tb : Nat → Nat} {A : Nat → Prop} {nL : Nat} {Ok : (Nat → Nat) → mx_F → Prop} {pc : Nat}
theorem mx_s_iconst (C : mx_C p s m args c cc own Ts D tc tb A nL Ok) {n : Int} {x : Int32} (hd : decode cc pc = .ok (.iconst n, 1)) (hv : Int32.ofInt n = x) : mx_So (mx_W p l e R s m args below meth c Q D tc tb A nL Ok) pc (mx_push (.inl x) (pc + 1)) := by
  obtain ⟨hx, hb, hml, hown, hts, hK, hA, hZ, hOk⟩ := C
  intro lv st F ca sl h
  intro ad H locs ls h1 hP hD hS hl
  exact lv_iconst hx hb hd hv (h ad H locs ls h1 hP hD hS hl)
theorem mx_s_bipush (C : mx_C p s m args c cc own Ts D tc tb A nL Ok) {n : Int} {x : Int32} (hd : decode cc pc = .ok (.bipush n, 2)) (hv : (Int8.ofInt n).toInt32 = x) : mx_So (mx_W p l e R s m args below meth c Q D tc tb A nL Ok) pc (mx_push (.inl x) (pc + 2)) := by
  obtain ⟨hx, hb, hml, hown, hts, hK, hA, hZ, hOk⟩ := C
  intro lv st F ca sl h
  intro ad H locs ls h1 hP hD hS hl
  exact lv_bipush hx hb hd hv (h ad H locs ls h1 hP hD hS hl)
theorem mx_s_sipush (C : mx_C p s m args c cc own Ts D tc tb A nL Ok) {n : Int} {x : Int32} (hd : decode cc pc = .ok (.sipush n, 3)) (hv : (Int16.ofInt n).toInt32 = x) : mx_So (mx_W p l e R s m args below meth c Q D tc tb A nL Ok) pc (mx_push (.inl x) (pc + 3)) := by
  obtain ⟨hx, hb, hml, hown, hts, hK, hA, hZ, hOk⟩ := C
  intro lv st F ca sl h
  intro ad H locs ls h1 hP hD hS hl
  exact lv_sipush hx hb hd hv (h ad H locs ls h1 hP hD hS hl)
theorem mx_s_lconst (C : mx_C p s m args c cc own Ts D tc tb A nL Ok) {n : Fin 2} {x : Int64} (hd : decode cc pc = .ok (.lconst n, 1)) (hv : Int64.ofNat (n : Nat) = x) : mx_So (mx_W p l e R s m args below meth c Q D tc tb A nL Ok) pc (mx_push (.inr (.inl x)) (pc + 1)) := by
  obtain ⟨hx, hb, hml, hown, hts, hK, hA, hZ, hOk⟩ := C
  intro lv st F ca sl h
  intro ad H locs ls h1 hP hD hS hl
  exact lv_lconst hx hb hd hv (h ad H locs ls h1 hP hD hS hl)
theorem mx_s_ldc (C : mx_C p s m args c cc own Ts D tc tb A nL Ok) {i : Nat} {x : Int32} (hd : decode cc pc = .ok (.ldc i, 2)) (hw : Jvm.Cond.constant own i x ∈ Ts) : mx_So (mx_W p l e R s m args below meth c Q D tc tb A nL Ok) pc (mx_push (.inl x) (pc + 2)) := by
  obtain ⟨hx, hb, hml, hown, hts, hK, hA, hZ, hOk⟩ := C
  intro lv st F ca sl h
  intro ad H locs ls h1 hP hD hS hl
  exact lv_ldc hx hb hown (hts _ hw) hd (h ad H locs ls h1 hP hD hS hl)
theorem mx_s_ldc2 (C : mx_C p s m args c cc own Ts D tc tb A nL Ok) {i : Nat} {x : Int64} (hd : decode cc pc = .ok (.ldc2_w i, 3)) (hw : Jvm.Cond.constantLong own i x ∈ Ts) : mx_So (mx_W p l e R s m args below meth c Q D tc tb A nL Ok) pc (mx_push (.inr (.inl x)) (pc + 3)) := by
  obtain ⟨hx, hb, hml, hown, hts, hK, hA, hZ, hOk⟩ := C
  intro lv st F ca sl h
  intro ad H locs ls h1 hP hD hS hl
  exact lv_ldc2 hx hb hown (hts _ hw) hd (h ad H locs ls h1 hP hD hS hl)
theorem mx_s_iload_n (C : mx_C p s m args c cc own Ts D tc tb A nL Ok) {k : Fin 4} {i : Nat} (hd : decode cc pc = .ok (.iload_n k, 1)) (hi : (k : Nat) = i) : mx_So (mx_W p l e R s m args below meth c Q D tc tb A nL Ok) pc (mx_iload i (pc + 1)) := by
  obtain ⟨hx, hb, hml, hown, hts, hK, hA, hZ, hOk⟩ := C
  intro lv st F ca sl h
  obtain ⟨x, hv, h⟩ := h
  intro ad H locs ls h1 hP hD hS hl
  exact lv_iload_n hx hb hd hi (hl.at hv) (h ad H locs ls h1 hP hD hS hl)
theorem mx_s_iload (C : mx_C p s m args c cc own Ts D tc tb A nL Ok) {i : Nat} (hd : decode cc pc = .ok (.iload i, 2)) : mx_So (mx_W p l e R s m args below meth c Q D tc tb A nL Ok) pc (mx_iload i (pc + 2)) := by
  obtain ⟨hx, hb, hml, hown, hts, hK, hA, hZ, hOk⟩ := C
  intro lv st F ca sl h
  obtain ⟨x, hv, h⟩ := h
  intro ad H locs ls h1 hP hD hS hl
  exact lv_iload hx hb hd (hl.at hv) (h ad H locs ls h1 hP hD hS hl)
theorem mx_s_lload_n (C : mx_C p s m args c cc own Ts D tc tb A nL Ok) {k : Fin 4} {i : Nat} (hd : decode cc pc = .ok (.lload_n k, 1)) (hi : (k : Nat) = i) : mx_So (mx_W p l e R s m args below meth c Q D tc tb A nL Ok) pc (mx_lload i (pc + 1)) := by
  obtain ⟨hx, hb, hml, hown, hts, hK, hA, hZ, hOk⟩ := C
  intro lv st F ca sl h
  obtain ⟨x, hv, h⟩ := h
  intro ad H locs ls h1 hP hD hS hl
  exact lv_lload_n hx hb hd hi (hl.at hv) (h ad H locs ls h1 hP hD hS hl)
theorem mx_s_lload (C : mx_C p s m args c cc own Ts D tc tb A nL Ok) {i : Nat} (hd : decode cc pc = .ok (.lload i, 2)) : mx_So (mx_W p l e R s m args below meth c Q D tc tb A nL Ok) pc (mx_lload i (pc + 2)) := by
  obtain ⟨hx, hb, hml, hown, hts, hK, hA, hZ, hOk⟩ := C
  intro lv st F ca sl h
  obtain ⟨x, hv, h⟩ := h
  intro ad H locs ls h1 hP hD hS hl
  exact lv_lload hx hb hd (hl.at hv) (h ad H locs ls h1 hP hD hS hl)
theorem mx_s_aload_n (C : mx_C p s m args c cc own Ts D tc tb A nL Ok) {k : Fin 4} {i : Nat} (hd : decode cc pc = .ok (.aload_n k, 1)) (hi : (k : Nat) = i) : mx_So (mx_W p l e R s m args below meth c Q D tc tb A nL Ok) pc (mx_aload i (pc + 1)) := by
  obtain ⟨hx, hb, hml, hown, hts, hK, hA, hZ, hOk⟩ := C
  intro lv st F ca sl h
  obtain ⟨x, hv, h⟩ := h
  intro ad H locs ls h1 hP hD hS hl
  exact lv_aload_n hx hb hd hi (hl.at hv) (h ad H locs ls h1 hP hD hS hl)
theorem mx_s_aload (C : mx_C p s m args c cc own Ts D tc tb A nL Ok) {i : Nat} (hd : decode cc pc = .ok (.aload i, 2)) : mx_So (mx_W p l e R s m args below meth c Q D tc tb A nL Ok) pc (mx_aload i (pc + 2)) := by
  obtain ⟨hx, hb, hml, hown, hts, hK, hA, hZ, hOk⟩ := C
  intro lv st F ca sl h
  obtain ⟨x, hv, h⟩ := h
  intro ad H locs ls h1 hP hD hS hl
  exact lv_aload hx hb hd (hl.at hv) (h ad H locs ls h1 hP hD hS hl)
theorem mx_s_istore_n (C : mx_C p s m args c cc own Ts D tc tb A nL Ok) {k : Fin 4} {i : Nat} (hd : decode cc pc = .ok (.istore_n k, 1)) (hi : (k : Nat) = i) (hn : i < nL) : mx_So (mx_W p l e R s m args below meth c Q D tc tb A nL Ok) pc (mx_istore i (pc + 1)) := by
  obtain ⟨hx, hb, hml, hown, hts, hK, hA, hZ, hOk⟩ := C
  intro lv st F ca sl h
  obtain ⟨x, r, rfl, h⟩ := h
  intro ad H locs ls h1 hP hD hS hl
  exact lv_istore_n hx hb hd hi hl.2 hn rfl (fun ls' hl' => h ad H locs ls' h1 hP hD hS (mx_H.st1 (v := .inl x) hl.1 hl'))
theorem mx_s_istore (C : mx_C p s m args c cc own Ts D tc tb A nL Ok) {i : Nat} (hd : decode cc pc = .ok (.istore i, 2)) (hn : i < nL) : mx_So (mx_W p l e R s m args below meth c Q D tc tb A nL Ok) pc (mx_istore i (pc + 2)) := by
  obtain ⟨hx, hb, hml, hown, hts, hK, hA, hZ, hOk⟩ := C
  intro lv st F ca sl h
  obtain ⟨x, r, rfl, h⟩ := h
  intro ad H locs ls h1 hP hD hS hl
  exact lv_istore hx hb hd hl.2 hn rfl (fun ls' hl' => h ad H locs ls' h1 hP hD hS (mx_H.st1 (v := .inl x) hl.1 hl'))
theorem mx_s_lstore_n (C : mx_C p s m args c cc own Ts D tc tb A nL Ok) {k : Fin 4} {i : Nat} (hd : decode cc pc = .ok (.lstore_n k, 1)) (hi : (k : Nat) = i) (hn : i + 1 < nL) : mx_So (mx_W p l e R s m args below meth c Q D tc tb A nL Ok) pc (mx_lstore i (pc + 1)) := by
  obtain ⟨hx, hb, hml, hown, hts, hK, hA, hZ, hOk⟩ := C
  intro lv st F ca sl h
  obtain ⟨x, r, rfl, h⟩ := h
  intro ad H locs ls h1 hP hD hS hl
  exact lv_lstore_n hx hb hd hi hl.2 hn rfl (fun ls' hl' => h ad H locs ls' h1 hP hD hS (mx_H.st2 (v := .inr (.inl x)) hl.1 hl'))
theorem mx_s_lstore (C : mx_C p s m args c cc own Ts D tc tb A nL Ok) {i : Nat} (hd : decode cc pc = .ok (.lstore i, 2)) (hn : i + 1 < nL) : mx_So (mx_W p l e R s m args below meth c Q D tc tb A nL Ok) pc (mx_lstore i (pc + 2)) := by
  obtain ⟨hx, hb, hml, hown, hts, hK, hA, hZ, hOk⟩ := C
  intro lv st F ca sl h
  obtain ⟨x, r, rfl, h⟩ := h
  intro ad H locs ls h1 hP hD hS hl
  exact lv_lstore hx hb hd hl.2 hn rfl (fun ls' hl' => h ad H locs ls' h1 hP hD hS (mx_H.st2 (v := .inr (.inl x)) hl.1 hl'))
theorem mx_s_astore_n (C : mx_C p s m args c cc own Ts D tc tb A nL Ok) {k : Fin 4} {i : Nat} (hd : decode cc pc = .ok (.astore_n k, 1)) (hi : (k : Nat) = i) (hn : i < nL) : mx_So (mx_W p l e R s m args below meth c Q D tc tb A nL Ok) pc (mx_astore i (pc + 1)) := by
  obtain ⟨hx, hb, hml, hown, hts, hK, hA, hZ, hOk⟩ := C
  intro lv st F ca sl h
  obtain ⟨x, r, rfl, h⟩ := h
  intro ad H locs ls h1 hP hD hS hl
  exact lv_astore_n hx hb hd hi hl.2 hn rfl (fun ls' hl' => h ad H locs ls' h1 hP hD hS (mx_H.st1 (v := .inr (.inr (.inl (some x)))) hl.1 hl'))
theorem mx_s_astore (C : mx_C p s m args c cc own Ts D tc tb A nL Ok) {i : Nat} (hd : decode cc pc = .ok (.astore i, 2)) (hn : i < nL) : mx_So (mx_W p l e R s m args below meth c Q D tc tb A nL Ok) pc (mx_astore i (pc + 2)) := by
  obtain ⟨hx, hb, hml, hown, hts, hK, hA, hZ, hOk⟩ := C
  intro lv st F ca sl h
  obtain ⟨x, r, rfl, h⟩ := h
  intro ad H locs ls h1 hP hD hS hl
  exact lv_astore hx hb hd hl.2 hn rfl (fun ls' hl' => h ad H locs ls' h1 hP hD hS (mx_H.st1 (v := .inr (.inr (.inl (some x)))) hl.1 hl'))
theorem mx_s_iinc (C : mx_C p s m args c cc own Ts D tc tb A nL Ok) {i : Nat} {n : Int} {k : Int32} (hd : decode cc pc = .ok (.iinc i n, 3)) (hk : Int32.ofInt n = k) (hn : i < nL) : mx_So (mx_W p l e R s m args below meth c Q D tc tb A nL Ok) pc (mx_iinc i k (pc + 3)) := by
  obtain ⟨hx, hb, hml, hown, hts, hK, hA, hZ, hOk⟩ := C
  intro lv st F ca sl h
  obtain ⟨x, hv, h⟩ := h
  intro ad H locs ls h1 hP hD hS hl
  obtain ⟨j, hj⟩ := List.getElem?_of_mem (mx_ls_mem.mpr ⟨.inl x, hv, rfl⟩ : (i, Value.int x) ∈ mx_ls ad tb lv)
  exact lv_iinc hx hb hd hl.2 hj (by rw [hk]) hn rfl (fun ls' hl' => h ad H locs ls' h1 hP hD hS (mx_H.st1 (v := .inl (x + k)) hl.1 hl'))
theorem mx_s_goto (C : mx_C p s m args c cc own Ts D tc tb A nL Ok) {off : Int} {tg : Nat} (hd : decode cc pc = .ok (.goto off, 3)) (ht : (pc : Int) + off = (tg : Int)) : mx_So (mx_W p l e R s m args below meth c Q D tc tb A nL Ok) pc (mx_goto tg) := by
  obtain ⟨hx, hb, hml, hown, hts, hK, hA, hZ, hOk⟩ := C
  intro lv st F ca sl h
  intro ad H locs ls h1 hP hD hS hl
  exact lv_goto hx hb hd ht (h ad H locs ls h1 hP hD hS hl)
theorem mx_s_dup (C : mx_C p s m args c cc own Ts D tc tb A nL Ok) (hd : decode cc pc = .ok (.dup, 1)) : mx_So (mx_W p l e R s m args below meth c Q D tc tb A nL Ok) pc (mx_dup (pc + 1)) := by
  obtain ⟨hx, hb, hml, hown, hts, hK, hA, hZ, hOk⟩ := C
  intro lv st F ca sl h
  obtain ⟨v, r, rfl, hv, h⟩ := h
  intro ad H locs ls h1 hP hD hS hl
  exact lv_dup hx hb hd ((mx_cat_v ad tb v).trans hv) (h ad H locs ls h1 hP hD hS hl)
theorem mx_s_dup2 (C : mx_C p s m args c cc own Ts D tc tb A nL Ok) (hd : decode cc pc = .ok (.dup2, 1)) : mx_So (mx_W p l e R s m args below meth c Q D tc tb A nL Ok) pc (mx_dup2 (pc + 1)) := by
  obtain ⟨hx, hb, hml, hown, hts, hK, hA, hZ, hOk⟩ := C
  intro lv st F ca sl h
  obtain ⟨v, w, r, rfl, hv, hw, h⟩ := h
  intro ad H locs ls h1 hP hD hS hl
  exact lv_dup2_11 hx hb hd ((mx_cat_v ad tb v).trans hv) ((mx_cat_v ad tb w).trans hw) (h ad H locs ls h1 hP hD hS hl)
theorem mx_s_pop (C : mx_C p s m args c cc own Ts D tc tb A nL Ok) (hd : decode cc pc = .ok (.pop, 1)) : mx_So (mx_W p l e R s m args below meth c Q D tc tb A nL Ok) pc (mx_pop (pc + 1)) := by
  obtain ⟨hx, hb, hml, hown, hts, hK, hA, hZ, hOk⟩ := C
  intro lv st F ca sl h
  obtain ⟨v, r, rfl, hv, h⟩ := h
  intro ad H locs ls h1 hP hD hS hl
  exact lv_pop hx hb hd ((mx_cat_v ad tb v).trans hv) (h ad H locs ls h1 hP hD hS hl)
theorem mx_s_dup_x1 (C : mx_C p s m args c cc own Ts D tc tb A nL Ok) (hd : decode cc pc = .ok (.dup_x1, 1)) : mx_So (mx_W p l e R s m args below meth c Q D tc tb A nL Ok) pc (mx_dup_x1 (pc + 1)) := by
  obtain ⟨hx, hb, hml, hown, hts, hK, hA, hZ, hOk⟩ := C
  intro lv st F ca sl h
  obtain ⟨v, w, r, rfl, hv, hw, h⟩ := h
  intro ad H locs ls h1 hP hD hS hl
  exact lv_dup_x1 hx hb hd ((mx_cat_v ad tb v).trans hv) ((mx_cat_v ad tb w).trans hw) (h ad H locs ls h1 hP hD hS hl)
theorem mx_s_dup_x2 (C : mx_C p s m args c cc own Ts D tc tb A nL Ok) (hd : decode cc pc = .ok (.dup_x2, 1)) : mx_So (mx_W p l e R s m args below meth c Q D tc tb A nL Ok) pc (mx_dup_x2 (pc + 1)) := by
  obtain ⟨hx, hb, hml, hown, hts, hK, hA, hZ, hOk⟩ := C
  intro lv st F ca sl h
  obtain ⟨v, w, u, r, rfl, hv, hw, hu, h⟩ := h
  intro ad H locs ls h1 hP hD hS hl
  exact lv_dup_x2 hx hb hd ((mx_cat_v ad tb v).trans hv) ((mx_cat_v ad tb w).trans hw) ((mx_cat_v ad tb u).trans hu) (h ad H locs ls h1 hP hD hS hl)
theorem mx_s_i2l (C : mx_C p s m args c cc own Ts D tc tb A nL Ok) (hd : decode cc pc = .ok (.i2l, 1)) : mx_So (mx_W p l e R s m args below meth c Q D tc tb A nL Ok) pc (mx_i2l (pc + 1)) := by
  obtain ⟨hx, hb, hml, hown, hts, hK, hA, hZ, hOk⟩ := C
  intro lv st F ca sl h
  obtain ⟨x, r, rfl, h⟩ := h
  intro ad H locs ls h1 hP hD hS hl
  exact lv_i2l hx hb hd rfl (h ad H locs ls h1 hP hD hS hl)
theorem mx_s_l2i (C : mx_C p s m args c cc own Ts D tc tb A nL Ok) (hd : decode cc pc = .ok (.l2i, 1)) : mx_So (mx_W p l e R s m args below meth c Q D tc tb A nL Ok) pc (mx_l2i (pc + 1)) := by
  obtain ⟨hx, hb, hml, hown, hts, hK, hA, hZ, hOk⟩ := C
  intro lv st F ca sl h
  obtain ⟨x, r, rfl, h⟩ := h
  intro ad H locs ls h1 hP hD hS hl
  exact lv_l2i hx hb hd rfl (h ad H locs ls h1 hP hD hS hl)
theorem mx_s_ineg (C : mx_C p s m args c cc own Ts D tc tb A nL Ok) (hd : decode cc pc = .ok (.ineg, 1)) : mx_So (mx_W p l e R s m args below meth c Q D tc tb A nL Ok) pc (mx_ineg (pc + 1)) := by
  obtain ⟨hx, hb, hml, hown, hts, hK, hA, hZ, hOk⟩ := C
  intro lv st F ca sl h
  obtain ⟨x, r, rfl, h⟩ := h
  intro ad H locs ls h1 hP hD hS hl
  exact lv_ineg hx hb hd (h ad H locs ls h1 hP hD hS hl)
theorem mx_s_lcmp (C : mx_C p s m args c cc own Ts D tc tb A nL Ok) (hd : decode cc pc = .ok (.lcmp, 1)) : mx_So (mx_W p l e R s m args below meth c Q D tc tb A nL Ok) pc (mx_lcmp (pc + 1)) := by
  obtain ⟨hx, hb, hml, hown, hts, hK, hA, hZ, hOk⟩ := C
  intro lv st F ca sl h
  obtain ⟨x, y, r, rfl, h⟩ := h
  intro ad H locs ls h1 hP hD hS hl
  exact W.lcmp hx hb hd (h ad H locs ls h1 hP hD hS hl)
theorem mx_s_iadd (C : mx_C p s m args c cc own Ts D tc tb A nL Ok) (hd : decode cc pc = .ok (.iadd, 1)) : mx_So (mx_W p l e R s m args below meth c Q D tc tb A nL Ok) pc (mx_iadd (pc + 1)) := by
  obtain ⟨hx, hb, hml, hown, hts, hK, hA, hZ, hOk⟩ := C
  intro lv st F ca sl h
  obtain ⟨x, y, r, rfl, h⟩ := h
  intro ad H locs ls h1 hP hD hS hl
  exact lv_iadd hx hb hd (h ad H locs ls h1 hP hD hS hl)
theorem mx_s_isub (C : mx_C p s m args c cc own Ts D tc tb A nL Ok) (hd : decode cc pc = .ok (.isub, 1)) : mx_So (mx_W p l e R s m args below meth c Q D tc tb A nL Ok) pc (mx_isub (pc + 1)) := by
  obtain ⟨hx, hb, hml, hown, hts, hK, hA, hZ, hOk⟩ := C
  intro lv st F ca sl h
  obtain ⟨x, y, r, rfl, h⟩ := h
  intro ad H locs ls h1 hP hD hS hl
  exact lv_isub hx hb hd (h ad H locs ls h1 hP hD hS hl)
theorem mx_s_imul (C : mx_C p s m args c cc own Ts D tc tb A nL Ok) (hd : decode cc pc = .ok (.imul, 1)) : mx_So (mx_W p l e R s m args below meth c Q D tc tb A nL Ok) pc (mx_imul (pc + 1)) := by
  obtain ⟨hx, hb, hml, hown, hts, hK, hA, hZ, hOk⟩ := C
  intro lv st F ca sl h
  obtain ⟨x, y, r, rfl, h⟩ := h
  intro ad H locs ls h1 hP hD hS hl
  exact lv_imul hx hb hd (h ad H locs ls h1 hP hD hS hl)
theorem mx_s_iand (C : mx_C p s m args c cc own Ts D tc tb A nL Ok) (hd : decode cc pc = .ok (.iand, 1)) : mx_So (mx_W p l e R s m args below meth c Q D tc tb A nL Ok) pc (mx_iand (pc + 1)) := by
  obtain ⟨hx, hb, hml, hown, hts, hK, hA, hZ, hOk⟩ := C
  intro lv st F ca sl h
  obtain ⟨x, y, r, rfl, h⟩ := h
  intro ad H locs ls h1 hP hD hS hl
  exact lv_iand hx hb hd (h ad H locs ls h1 hP hD hS hl)
theorem mx_s_ior (C : mx_C p s m args c cc own Ts D tc tb A nL Ok) (hd : decode cc pc = .ok (.ior, 1)) : mx_So (mx_W p l e R s m args below meth c Q D tc tb A nL Ok) pc (mx_ior (pc + 1)) := by
  obtain ⟨hx, hb, hml, hown, hts, hK, hA, hZ, hOk⟩ := C
  intro lv st F ca sl h
  obtain ⟨x, y, r, rfl, h⟩ := h
  intro ad H locs ls h1 hP hD hS hl
  exact lv_ior hx hb hd (h ad H locs ls h1 hP hD hS hl)
theorem mx_s_ixor (C : mx_C p s m args c cc own Ts D tc tb A nL Ok) (hd : decode cc pc = .ok (.ixor, 1)) : mx_So (mx_W p l e R s m args below meth c Q D tc tb A nL Ok) pc (mx_ixor (pc + 1)) := by
  obtain ⟨hx, hb, hml, hown, hts, hK, hA, hZ, hOk⟩ := C
  intro lv st F ca sl h
  obtain ⟨x, y, r, rfl, h⟩ := h
  intro ad H locs ls h1 hP hD hS hl
  exact lv_ixor hx hb hd (h ad H locs ls h1 hP hD hS hl)
theorem mx_s_ishl (C : mx_C p s m args c cc own Ts D tc tb A nL Ok) (hd : decode cc pc = .ok (.ishl, 1)) : mx_So (mx_W p l e R s m args below meth c Q D tc tb A nL Ok) pc (mx_ishl (pc + 1)) := by
  obtain ⟨hx, hb, hml, hown, hts, hK, hA, hZ, hOk⟩ := C
  intro lv st F ca sl h
  obtain ⟨x, y, r, rfl, h⟩ := h
  intro ad H locs ls h1 hP hD hS hl
  exact lv_ishl hx hb hd (h ad H locs ls h1 hP hD hS hl)
theorem mx_s_ishr (C : mx_C p s m args c cc own Ts D tc tb A nL Ok) (hd : decode cc pc = .ok (.ishr, 1)) : mx_So (mx_W p l e R s m args below meth c Q D tc tb A nL Ok) pc (mx_ishr (pc + 1)) := by
  obtain ⟨hx, hb, hml, hown, hts, hK, hA, hZ, hOk⟩ := C
  intro lv st F ca sl h
  obtain ⟨x, y, r, rfl, h⟩ := h
  intro ad H locs ls h1 hP hD hS hl
  exact lv_ishr hx hb hd (h ad H locs ls h1 hP hD hS hl)
theorem mx_s_iushr (C : mx_C p s m args c cc own Ts D tc tb A nL Ok) (hd : decode cc pc = .ok (.iushr, 1)) : mx_So (mx_W p l e R s m args below meth c Q D tc tb A nL Ok) pc (mx_iushr (pc + 1)) := by
  obtain ⟨hx, hb, hml, hown, hts, hK, hA, hZ, hOk⟩ := C
  intro lv st F ca sl h
  obtain ⟨x, y, r, rfl, h⟩ := h
  intro ad H locs ls h1 hP hD hS hl
  exact lv_iushr hx hb hd rfl (h ad H locs ls h1 hP hD hS hl)
theorem mx_s_ladd (C : mx_C p s m args c cc own Ts D tc tb A nL Ok) (hd : decode cc pc = .ok (.ladd, 1)) : mx_So (mx_W p l e R s m args below meth c Q D tc tb A nL Ok) pc (mx_ladd (pc + 1)) := by
  obtain ⟨hx, hb, hml, hown, hts, hK, hA, hZ, hOk⟩ := C
  intro lv st F ca sl h
  obtain ⟨x, y, r, rfl, h⟩ := h
  intro ad H locs ls h1 hP hD hS hl
  exact lv_ladd hx hb hd (h ad H locs ls h1 hP hD hS hl)
theorem mx_s_lsub (C : mx_C p s m args c cc own Ts D tc tb A nL Ok) (hd : decode cc pc = .ok (.lsub, 1)) : mx_So (mx_W p l e R s m args below meth c Q D tc tb A nL Ok) pc (mx_lsub (pc + 1)) := by
  obtain ⟨hx, hb, hml, hown, hts, hK, hA, hZ, hOk⟩ := C
  intro lv st F ca sl h
  obtain ⟨x, y, r, rfl, h⟩ := h
  intro ad H locs ls h1 hP hD hS hl
  exact lv_lsub hx hb hd (h ad H locs ls h1 hP hD hS hl)
theorem mx_s_lmul (C : mx_C p s m args c cc own Ts D tc tb A nL Ok) (hd : decode cc pc = .ok (.lmul, 1)) : mx_So (mx_W p l e R s m args below meth c Q D tc tb A nL Ok) pc (mx_lmul (pc + 1)) := by
  obtain ⟨hx, hb, hml, hown, hts, hK, hA, hZ, hOk⟩ := C
  intro lv st F ca sl h
  obtain ⟨x, y, r, rfl, h⟩ := h
  intro ad H locs ls h1 hP hD hS hl
  exact lv_lmul hx hb hd (h ad H locs ls h1 hP hD hS hl)
theorem mx_s_land (C : mx_C p s m args c cc own Ts D tc tb A nL Ok) (hd : decode cc pc = .ok (.land, 1)) : mx_So (mx_W p l e R s m args below meth c Q D tc tb A nL Ok) pc (mx_land (pc + 1)) := by
  obtain ⟨hx, hb, hml, hown, hts, hK, hA, hZ, hOk⟩ := C
  intro lv st F ca sl h
  obtain ⟨x, y, r, rfl, h⟩ := h
  intro ad H locs ls h1 hP hD hS hl
  exact lv_land hx hb hd (h ad H locs ls h1 hP hD hS hl)
theorem mx_s_lor (C : mx_C p s m args c cc own Ts D tc tb A nL Ok) (hd : decode cc pc = .ok (.lor, 1)) : mx_So (mx_W p l e R s m args below meth c Q D tc tb A nL Ok) pc (mx_lor (pc + 1)) := by
  obtain ⟨hx, hb, hml, hown, hts, hK, hA, hZ, hOk⟩ := C
  intro lv st F ca sl h
  obtain ⟨x, y, r, rfl, h⟩ := h
  intro ad H locs ls h1 hP hD hS hl
  exact lv_lor hx hb hd (h ad H locs ls h1 hP hD hS hl)
theorem mx_s_lxor (C : mx_C p s m args c cc own Ts D tc tb A nL Ok) (hd : decode cc pc = .ok (.lxor, 1)) : mx_So (mx_W p l e R s m args below meth c Q D tc tb A nL Ok) pc (mx_lxor (pc + 1)) := by
  obtain ⟨hx, hb, hml, hown, hts, hK, hA, hZ, hOk⟩ := C
  intro lv st F ca sl h
  obtain ⟨x, y, r, rfl, h⟩ := h
  intro ad H locs ls h1 hP hD hS hl
  exact lv_lxor hx hb hd (h ad H locs ls h1 hP hD hS hl)
theorem mx_s_lshl (C : mx_C p s m args c cc own Ts D tc tb A nL Ok) (hd : decode cc pc = .ok (.lshl, 1)) : mx_So (mx_W p l e R s m args below meth c Q D tc tb A nL Ok) pc (mx_lshl (pc + 1)) := by
  obtain ⟨hx, hb, hml, hown, hts, hK, hA, hZ, hOk⟩ := C
  intro lv st F ca sl h
  obtain ⟨x, y, r, rfl, h⟩ := h
  intro ad H locs ls h1 hP hD hS hl
  exact lv_lshl hx hb hd rfl (h ad H locs ls h1 hP hD hS hl)
theorem mx_s_lshr (C : mx_C p s m args c cc own Ts D tc tb A nL Ok) (hd : decode cc pc = .ok (.lshr, 1)) : mx_So (mx_W p l e R s m args below meth c Q D tc tb A nL Ok) pc (mx_lshr (pc + 1)) := by
  obtain ⟨hx, hb, hml, hown, hts, hK, hA, hZ, hOk⟩ := C
  intro lv st F ca sl h
  obtain ⟨x, y, r, rfl, h⟩ := h
  intro ad H locs ls h1 hP hD hS hl
  exact lv_lshr hx hb hd rfl (h ad H locs ls h1 hP hD hS hl)
theorem mx_s_lushr (C : mx_C p s m args c cc own Ts D tc tb A nL Ok) (hd : decode cc pc = .ok (.lushr, 1)) : mx_So (mx_W p l e R s m args below meth c Q D tc tb A nL Ok) pc (mx_lushr (pc + 1)) := by
  obtain ⟨hx, hb, hml, hown, hts, hK, hA, hZ, hOk⟩ := C
  intro lv st F ca sl h
  obtain ⟨x, y, r, rfl, h⟩ := h
  intro ad H locs ls h1 hP hD hS hl
  exact lv_lushr hx hb hd rfl (h ad H locs ls h1 hP hD hS hl)
theorem mx_s_idiv (C : mx_C p s m args c cc own Ts D tc tb A nL Ok) (hd : decode cc pc = .ok (.idiv, 1)) : mx_So (mx_W p l e R s m args below meth c Q D tc tb A nL Ok) pc (mx_idiv (pc + 1)) := by
  obtain ⟨hx, hb, hml, hown, hts, hK, hA, hZ, hOk⟩ := C
  intro lv st F ca sl h
  obtain ⟨x, y, r, rfl, hy, h⟩ := h
  intro ad H locs ls h1 hP hD hS hl
  exact lv_idiv hx hb hd hy (h ad H locs ls h1 hP hD hS hl)
theorem mx_s_irem (C : mx_C p s m args c cc own Ts D tc tb A nL Ok) (hd : decode cc pc = .ok (.irem, 1)) : mx_So (mx_W p l e R s m args below meth c Q D tc tb A nL Ok) pc (mx_irem (pc + 1)) := by
  obtain ⟨hx, hb, hml, hown, hts, hK, hA, hZ, hOk⟩ := C
  intro lv st F ca sl h
  obtain ⟨x, y, r, rfl, hy, h⟩ := h
  intro ad H locs ls h1 hP hD hS hl
  exact lv_irem hx hb hd hy (h ad H locs ls h1 hP hD hS hl)
theorem mx_s_ldiv (C : mx_C p s m args c cc own Ts D tc tb A nL Ok) (hd : decode cc pc = .ok (.ldiv, 1)) : mx_So (mx_W p l e R s m args below meth c Q D tc tb A nL Ok) pc (mx_ldiv (pc + 1)) := by
  obtain ⟨hx, hb, hml, hown, hts, hK, hA, hZ, hOk⟩ := C
  intro lv st F ca sl h
  obtain ⟨x, y, r, rfl, hy, h⟩ := h
  intro ad H locs ls h1 hP hD hS hl
  exact lv_ldiv hx hb hd hy (h ad H locs ls h1 hP hD hS hl)
theorem mx_s_lrem (C : mx_C p s m args c cc own Ts D tc tb A nL Ok) (hd : decode cc pc = .ok (.lrem, 1)) : mx_So (mx_W p l e R s m args below meth c Q D tc tb A nL Ok) pc (mx_lrem (pc + 1)) := by
  obtain ⟨hx, hb, hml, hown, hts, hK, hA, hZ, hOk⟩ := C
  intro lv st F ca sl h
  obtain ⟨x, y, r, rfl, hy, h⟩ := h
  intro ad H locs ls h1 hP hD hS hl
  exact lv_lrem hx hb hd hy (h ad H locs ls h1 hP hD hS hl)
theorem mx_s_if_eq (C : mx_C p s m args c cc own Ts D tc tb A nL Ok) {off : Int} {tg : Nat} (hd : decode cc pc = .ok (.ifCond .eq off, 3)) (ht : (pc : Int) + off = (tg : Int)) : mx_So (mx_W p l e R s m args below meth c Q D tc tb A nL Ok) pc (mx_if_eq tg (pc + 3)) := by
  obtain ⟨hx, hb, hml, hown, hts, hK, hA, hZ, hOk⟩ := C
  intro lv st F ca sl h
  obtain ⟨x, r, rfl, ha, hc⟩ := h
  intro ad H locs ls h1 hP hD hS hl
  exact lv_if_eq hx hb hd ht (fun z => ha z ad H locs ls h1 hP hD hS hl) (fun z => hc z ad H locs ls h1 hP hD hS hl)
theorem mx_s_if_ne (C : mx_C p s m args c cc own Ts D tc tb A nL Ok) {off : Int} {tg : Nat} (hd : decode cc pc = .ok (.ifCond .ne off, 3)) (ht : (pc : Int) + off = (tg : Int)) : mx_So (mx_W p l e R s m args below meth c Q D tc tb A nL Ok) pc (mx_if_ne tg (pc + 3)) := by
  obtain ⟨hx, hb, hml, hown, hts, hK, hA, hZ, hOk⟩ := C
  intro lv st F ca sl h
  obtain ⟨x, r, rfl, ha, hc⟩ := h
  intro ad H locs ls h1 hP hD hS hl
  exact lv_if_ne hx hb hd ht (fun z => ha z ad H locs ls h1 hP hD hS hl) (fun z => hc z ad H locs ls h1 hP hD hS hl)
theorem mx_s_if_lt (C : mx_C p s m args c cc own Ts D tc tb A nL Ok) {off : Int} {tg : Nat} (hd : decode cc pc = .ok (.ifCond .lt off, 3)) (ht : (pc : Int) + off = (tg : Int)) : mx_So (mx_W p l e R s m args below meth c Q D tc tb A nL Ok) pc (mx_if_lt tg (pc + 3)) := by
  obtain ⟨hx, hb, hml, hown, hts, hK, hA, hZ, hOk⟩ := C
  intro lv st F ca sl h
  obtain ⟨x, r, rfl, ha, hc⟩ := h
  intro ad H locs ls h1 hP hD hS hl
  exact lv_if_lt hx hb hd ht (fun z => ha z ad H locs ls h1 hP hD hS hl) (fun z => hc z ad H locs ls h1 hP hD hS hl)
theorem mx_s_if_ge (C : mx_C p s m args c cc own Ts D tc tb A nL Ok) {off : Int} {tg : Nat} (hd : decode cc pc = .ok (.ifCond .ge off, 3)) (ht : (pc : Int) + off = (tg : Int)) : mx_So (mx_W p l e R s m args below meth c Q D tc tb A nL Ok) pc (mx_if_ge tg (pc + 3)) := by
  obtain ⟨hx, hb, hml, hown, hts, hK, hA, hZ, hOk⟩ := C
  intro lv st F ca sl h
  obtain ⟨x, r, rfl, ha, hc⟩ := h
  intro ad H locs ls h1 hP hD hS hl
  exact lv_if_ge hx hb hd ht (fun z => ha z ad H locs ls h1 hP hD hS hl) (fun z => hc z ad H locs ls h1 hP hD hS hl)
theorem mx_s_if_gt (C : mx_C p s m args c cc own Ts D tc tb A nL Ok) {off : Int} {tg : Nat} (hd : decode cc pc = .ok (.ifCond .gt off, 3)) (ht : (pc : Int) + off = (tg : Int)) : mx_So (mx_W p l e R s m args below meth c Q D tc tb A nL Ok) pc (mx_if_gt tg (pc + 3)) := by
  obtain ⟨hx, hb, hml, hown, hts, hK, hA, hZ, hOk⟩ := C
  intro lv st F ca sl h
  obtain ⟨x, r, rfl, ha, hc⟩ := h
  intro ad H locs ls h1 hP hD hS hl
  exact lv_if_gt hx hb hd ht (fun z => ha z ad H locs ls h1 hP hD hS hl) (fun z => hc z ad H locs ls h1 hP hD hS hl)
theorem mx_s_if_le (C : mx_C p s m args c cc own Ts D tc tb A nL Ok) {off : Int} {tg : Nat} (hd : decode cc pc = .ok (.ifCond .le off, 3)) (ht : (pc : Int) + off = (tg : Int)) : mx_So (mx_W p l e R s m args below meth c Q D tc tb A nL Ok) pc (mx_if_le tg (pc + 3)) := by
  obtain ⟨hx, hb, hml, hown, hts, hK, hA, hZ, hOk⟩ := C
  intro lv st F ca sl h
  obtain ⟨x, r, rfl, ha, hc⟩ := h
  intro ad H locs ls h1 hP hD hS hl
  exact lv_if_le hx hb hd ht (fun z => ha z ad H locs ls h1 hP hD hS hl) (fun z => hc z ad H locs ls h1 hP hD hS hl)
theorem mx_s_ic_eq (C : mx_C p s m args c cc own Ts D tc tb A nL Ok) {off : Int} {tg : Nat} (hd : decode cc pc = .ok (.if_icmp .eq off, 3)) (ht : (pc : Int) + off = (tg : Int)) : mx_So (mx_W p l e R s m args below meth c Q D tc tb A nL Ok) pc (mx_ic_eq tg (pc + 3)) := by
  obtain ⟨hx, hb, hml, hown, hts, hK, hA, hZ, hOk⟩ := C
  intro lv st F ca sl h
  obtain ⟨x, y, r, rfl, ha, hc⟩ := h
  intro ad H locs ls h1 hP hD hS hl
  exact lv_icmp_eq hx hb hd ht (fun z => ha z ad H locs ls h1 hP hD hS hl) (fun z => hc z ad H locs ls h1 hP hD hS hl)
theorem mx_s_ic_ne (C : mx_C p s m args c cc own Ts D tc tb A nL Ok) {off : Int} {tg : Nat} (hd : decode cc pc = .ok (.if_icmp .ne off, 3)) (ht : (pc : Int) + off = (tg : Int)) : mx_So (mx_W p l e R s m args below meth c Q D tc tb A nL Ok) pc (mx_ic_ne tg (pc + 3)) := by
  obtain ⟨hx, hb, hml, hown, hts, hK, hA, hZ, hOk⟩ := C
  intro lv st F ca sl h
  obtain ⟨x, y, r, rfl, ha, hc⟩ := h
  intro ad H locs ls h1 hP hD hS hl
  exact lv_icmp_ne hx hb hd ht (fun z => ha z ad H locs ls h1 hP hD hS hl) (fun z => hc z ad H locs ls h1 hP hD hS hl)
theorem mx_s_ic_lt (C : mx_C p s m args c cc own Ts D tc tb A nL Ok) {off : Int} {tg : Nat} (hd : decode cc pc = .ok (.if_icmp .lt off, 3)) (ht : (pc : Int) + off = (tg : Int)) : mx_So (mx_W p l e R s m args below meth c Q D tc tb A nL Ok) pc (mx_ic_lt tg (pc + 3)) := by
  obtain ⟨hx, hb, hml, hown, hts, hK, hA, hZ, hOk⟩ := C
  intro lv st F ca sl h
  obtain ⟨x, y, r, rfl, ha, hc⟩ := h
  intro ad H locs ls h1 hP hD hS hl
  exact lv_icmp_lt hx hb hd ht (fun z => ha z ad H locs ls h1 hP hD hS hl) (fun z => hc z ad H locs ls h1 hP hD hS hl)
theorem mx_s_ic_ge (C : mx_C p s m args c cc own Ts D tc tb A nL Ok) {off : Int} {tg : Nat} (hd : decode cc pc = .ok (.if_icmp .ge off, 3)) (ht : (pc : Int) + off = (tg : Int)) : mx_So (mx_W p l e R s m args below meth c Q D tc tb A nL Ok) pc (mx_ic_ge tg (pc + 3)) := by
  obtain ⟨hx, hb, hml, hown, hts, hK, hA, hZ, hOk⟩ := C
  intro lv st F ca sl h
  obtain ⟨x, y, r, rfl, ha, hc⟩ := h
  intro ad H locs ls h1 hP hD hS hl
  exact lv_icmp_ge hx hb hd ht (fun z => ha z ad H locs ls h1 hP hD hS hl) (fun z => hc z ad H locs ls h1 hP hD hS hl)
theorem mx_s_ic_gt (C : mx_C p s m args c cc own Ts D tc tb A nL Ok) {off : Int} {tg : Nat} (hd : decode cc pc = .ok (.if_icmp .gt off, 3)) (ht : (pc : Int) + off = (tg : Int)) : mx_So (mx_W p l e R s m args below meth c Q D tc tb A nL Ok) pc (mx_ic_gt tg (pc + 3)) := by
  obtain ⟨hx, hb, hml, hown, hts, hK, hA, hZ, hOk⟩ := C
  intro lv st F ca sl h
  obtain ⟨x, y, r, rfl, ha, hc⟩ := h
  intro ad H locs ls h1 hP hD hS hl
  exact lv_icmp_gt hx hb hd ht (fun z => ha z ad H locs ls h1 hP hD hS hl) (fun z => hc z ad H locs ls h1 hP hD hS hl)
theorem mx_s_ic_le (C : mx_C p s m args c cc own Ts D tc tb A nL Ok) {off : Int} {tg : Nat} (hd : decode cc pc = .ok (.if_icmp .le off, 3)) (ht : (pc : Int) + off = (tg : Int)) : mx_So (mx_W p l e R s m args below meth c Q D tc tb A nL Ok) pc (mx_ic_le tg (pc + 3)) := by
  obtain ⟨hx, hb, hml, hown, hts, hK, hA, hZ, hOk⟩ := C
  intro lv st F ca sl h
  obtain ⟨x, y, r, rfl, ha, hc⟩ := h
  intro ad H locs ls h1 hP hD hS hl
  exact lv_icmp_le hx hb hd ht (fun z => ha z ad H locs ls h1 hP hD hS hl) (fun z => hc z ad H locs ls h1 hP hD hS hl)
theorem mx_s_get (C : mx_C p s m args c cc own Ts D tc tb A nL Ok) {ref Cn : String} {T : u_T} {N ci i k : Nat} (hin : ∀ w ∈ u_ws Cn T N, w ∈ Ts) (hc : vwCl[ci]? = some (Cn, T, N)) (hk : k < N) (hl0 : Jvm.Cond.fieldLink own i ref (T k).2.1 (T k).2.2.1 ∈ Ts) (hr : (T k).1 = ref) (hd : decode cc pc = .ok (.getfield i, 3)) : mx_So (mx_W p l e R s m args below meth c Q D tc tb A nL Ok) pc (mx_get ci k (pc + 3)) := by
  obtain ⟨hx, hb, hml, hown, hts, hK, hA, hZ, hOk⟩ := C
  intro lv st F ca sl h
  obtain ⟨q, r, fs, v, rfl, hq, hv, h⟩ := h
  intro ad H locs ls h1 hP hD hS hl
  have hP1 : va_P D vwCl [(ad q, mx_e tc ad tb (.inr (.inr (.inr (ci, fs)))))] H := fun k2 x hx2 => by
    have hz : k2 < 1 := (List.getElem?_eq_some_iff.mp hx2).1
    rw [show k2 = 0 by omega] at hx2
    cases hx2
    exact hP q _ hq
  exact va_get (D := D) (ci := ci) (C := Cn) (T := T) (N := N) (v := mx_v ad tb v) hx hb hts hin hown hK hP1 0 rfl hc k hk (hts _ hl0) (fun x h9 => by rw [← hr]; exact h9) (by rw [List.getElem?_map, hv]; rfl) hd (h ad H locs ls h1 hP hD hS hl)
theorem mx_putW (C : mx_C p s m args c cc own Ts D tc tb A nL Ok) {ref Cn : String} {T : u_T} {N ci i k q : Nat} {fs : List mx_V} {v : mx_V} {ty : FieldType} {ad : Nat → Nat} {H : Heap} {locs : List Loc} {ls : Array Slot} {rest : List Value} {F : mx_F} {ca sl : Nat} (hin : ∀ w ∈ u_ws Cn T N, w ∈ Ts) (hc : vwCl[ci]? = some (Cn, T, N)) (ty0 : Nat → FieldType) (hty : ∀ k, k < N → parseFieldDescriptor (T k).2.2.1 = some (ty0 k)) (hnm : ∀ a, a < N → ∀ b, b < N → a ≠ b → (T a).2.1 ≠ (T b).2.1) (hk : k < N) (hl0 : Jvm.Cond.fieldLink own i ref (T k).2.1 (T k).2.2.1 ∈ Ts) (hr : (T k).1 = ref) (hfin : (T k).2.2.2 = false) (hdd : parseFieldDescriptor (T k).2.2.1 = some ty) (hn : narrow ty (mx_v ad tb v) = mx_v ad tb v) (hfit : fits ty (mx_v ad tb v) = true) (hd : decode cc pc = .ok (.putfield i, 3)) (hq : F q = some (.inr (.inr (.inr (ci, fs))))) (hlen : k < fs.length)
    (hP : mx_P D tc ad tb F H) (hD : mx_D A ad F) (hS : va_S A s.heap H locs)
    (kk : ∀ (H1 : Heap) (locs1 : List Loc), mx_P D tc ad tb (mx_put F q (.inr (.inr (.inr (ci, fs.set k v))))) H1 → mx_D A ad (mx_put F q (.inr (.inr (.inr (ci, fs.set k v))))) → va_S A s.heap H1 locs1 → W p l e R s m args below meth c H1 locs1 ca sl Q (F0 m (pc + 3) ls rest)) : W p l e R s m args below meth c H locs ca sl Q (F0 m pc ls (mx_v ad tb v :: .ref (ad q) :: rest)) := by
  obtain ⟨hx, hb, hml, hown, hts, hK, hA, hZ, hOk⟩ := C
  have hap := va_apart (own := own) hts hin ty0 hty hnm hK hc
  obtain ⟨r, h1, cell, q1, q2, q3, q4⟩ := hP q _ hq
  have hr2 : r = (Cn, T, N) := Option.some.inj (h1.symm.trans hc)
  subst hr2
  obtain ⟨hS9, hfc, kC, hkC, hkind⟩ := hK.1 ci _ hc
  obtain ⟨cf, kf, fi, f, hi, hsl⟩ := hS9 k hk
  have hlay := hts _ (hin _ (u_in_lay hk))
  unfold u_lay at hlay
  rw [if_neg (by rw [hfin]; decide)] at hlay
  have hst := (u_facts hfc hkC (u_lays hts hin hk) hi).1
  have h6 := u_store hfc hkC hkind hlay hi hdd hn hfit
  refine W.putK hx hb (f := f) ⟨hown, hts _ hl0, ⟨_, _, _, by rw [← hr]; exact hi⟩, hst⟩ (by rw [q2]; exact h6) q1 q3 (by rw [hsl]; exact k2_hasslot (q4 k hk)) rfl rfl hd fun H' e1 e2 e3 => ?_
  rw [hsl] at e1 ⊢
  refine kk H' _ (hP.set hD hq ⟨_, hc, t_OB.to (V := updV (vp_V (fs.map (mx_v ad tb))) k (mx_v ad tb v)) ⟨_, e1, q2, q3, t_set q4 hap hk _⟩ (fun j _ => ?_)⟩ e3) (hD.set hq) (hS.put e2 e3 (hD.2 q _ hq))
  show _ = vp_V ((fs.set k v).map (mx_v ad tb)) j
  rw [List.map_set]
  exact vp_updV_set (by rw [List.length_map]; exact hlen) _ j
theorem mx_s_puti (C : mx_C p s m args c cc own Ts D tc tb A nL Ok) {ref Cn : String} {T : u_T} {N ci i k : Nat} (hin : ∀ w ∈ u_ws Cn T N, w ∈ Ts) (hc : vwCl[ci]? = some (Cn, T, N)) (ty0 : Nat → FieldType) (hty : ∀ k, k < N → parseFieldDescriptor (T k).2.2.1 = some (ty0 k)) (hnm : ∀ a, a < N → ∀ b, b < N → a ≠ b → (T a).2.1 ≠ (T b).2.1) (hk : k < N) (hl0 : Jvm.Cond.fieldLink own i ref (T k).2.1 (T k).2.2.1 ∈ Ts) (hr : (T k).1 = ref) (hfin : (T k).2.2.2 = false) (hdd : parseFieldDescriptor (T k).2.2.1 = some .int) (hd : decode cc pc = .ok (.putfield i, 3)) : mx_So (mx_W p l e R s m args below meth c Q D tc tb A nL Ok) pc (mx_puti ci k (pc + 3)) := by
  obtain ⟨hx, hb, hml, hown, hts, hK, hA, hZ, hOk⟩ := C
  intro lv st F ca sl h
  obtain ⟨x, q, r, fs, rfl, hq, hlen, h⟩ := h
  intro ad H locs ls h1 hP hD hS hl
  exact mx_putW (v := .inl x) ⟨hx, hb, hml, hown, hts, hK, hA, hZ, hOk⟩ hin hc ty0 hty hnm hk hl0 hr hfin hdd rfl rfl hd hq hlen hP hD hS (fun H1 locs1 a1 a2 a3 => h ad H1 locs1 ls (hOk ad F _ (mx_in_put F q _) h1) a1 a2 a3 hl)
theorem mx_s_putl (C : mx_C p s m args c cc own Ts D tc tb A nL Ok) {ref Cn : String} {T : u_T} {N ci i k : Nat} (hin : ∀ w ∈ u_ws Cn T N, w ∈ Ts) (hc : vwCl[ci]? = some (Cn, T, N)) (ty0 : Nat → FieldType) (hty : ∀ k, k < N → parseFieldDescriptor (T k).2.2.1 = some (ty0 k)) (hnm : ∀ a, a < N → ∀ b, b < N → a ≠ b → (T a).2.1 ≠ (T b).2.1) (hk : k < N) (hl0 : Jvm.Cond.fieldLink own i ref (T k).2.1 (T k).2.2.1 ∈ Ts) (hr : (T k).1 = ref) (hfin : (T k).2.2.2 = false) (hdd : parseFieldDescriptor (T k).2.2.1 = some .long) (hd : decode cc pc = .ok (.putfield i, 3)) : mx_So (mx_W p l e R s m args below meth c Q D tc tb A nL Ok) pc (mx_putl ci k (pc + 3)) := by
  obtain ⟨hx, hb, hml, hown, hts, hK, hA, hZ, hOk⟩ := C
  intro lv st F ca sl h
  obtain ⟨x, q, r, fs, rfl, hq, hlen, h⟩ := h
  intro ad H locs ls h1 hP hD hS hl
  exact mx_putW (v := .inr (.inl x)) ⟨hx, hb, hml, hown, hts, hK, hA, hZ, hOk⟩ hin hc ty0 hty hnm hk hl0 hr hfin hdd rfl rfl hd hq hlen hP hD hS (fun H1 locs1 a1 a2 a3 => h ad H1 locs1 ls (hOk ad F _ (mx_in_put F q _) h1) a1 a2 a3 hl)
theorem mx_s_iald (C : mx_C p s m args c cc own Ts D tc tb A nL Ok) (hd : decode cc pc = .ok (.iaload, 1)) : mx_So (mx_W p l e R s m args below meth c Q D tc tb A nL Ok) pc (mx_iald (pc + 1)) := by
  obtain ⟨hx, hb, hml, hown, hts, hK, hA, hZ, hOk⟩ := C
  intro lv st F ca sl h
  obtain ⟨i, q, r, n, f, rfl, hq, hin, h⟩ := h
  intro ad H locs ls h1 hP hD hS hl
  have hlt : i.toNatClampNeg < n := Nat.not_le.mp fun z => hin (Or.inr z)
  exact W.iald (v := .int (f i.toNatClampNeg)) hx hb (hP q _ hq) ((hK.2 0 _ (mx_t_get rfl)).1 n (fun j => .int (f j))) (fun z => by cases z) (by show ¬ (i < 0 ∨ (arrV _ _ _).slots.size ≤ _); rw [arrV_size]; exact hin) (by show (arrV _ _ _).slots[_]? = _; rw [arrV_read _ _ hlt]) rfl rfl hd (h ad H locs ls h1 hP hD hS hl)
theorem mx_s_tald (C : mx_C p s m args c cc own Ts D tc tb A nL Ok) (hd : decode cc pc = .ok (.iaload, 1)) : mx_So (mx_W p l e R s m args below meth c Q D tc tb A nL Ok) pc (mx_tald (pc + 1)) := by
  obtain ⟨hx, hb, hml, hown, hts, hK, hA, hZ, hOk⟩ := C
  intro lv st F ca sl h
  obtain ⟨i, t, r, n, f, rfl, ht, hin, h⟩ := h
  intro ad H locs ls h1 hP hD hS hl
  exact va_ti hx hb (hZ.2.1 t n f ht) hS hin rfl hd (h ad H locs ls h1 hP hD hS hl)
theorem mx_s_lald (C : mx_C p s m args c cc own Ts D tc tb A nL Ok) (hd : decode cc pc = .ok (.laload, 1)) : mx_So (mx_W p l e R s m args below meth c Q D tc tb A nL Ok) pc (mx_lald (pc + 1)) := by
  obtain ⟨hx, hb, hml, hown, hts, hK, hA, hZ, hOk⟩ := C
  intro lv st F ca sl h
  obtain ⟨i, q, r, n, f, rfl, hq, hin, h⟩ := h
  intro ad H locs ls h1 hP hD hS hl
  have hlt : i.toNatClampNeg < n := Nat.not_le.mp fun z => hin (Or.inr z)
  exact W.lald (v := .long (f i.toNatClampNeg)) hx hb (hP q _ hq) ((hK.2 1 _ (mx_t_get rfl)).1 n (fun j => .long (f j))) (fun z => by cases z) (by show ¬ (i < 0 ∨ (arrV _ _ _).slots.size ≤ _); rw [arrV_size]; exact hin) (by show (arrV _ _ _).slots[_]? = _; rw [arrV_read _ _ hlt]) rfl rfl hd (h ad H locs ls h1 hP hD hS hl)
theorem mx_s_aald (C : mx_C p s m args c cc own Ts D tc tb A nL Ok) (hd : decode cc pc = .ok (.aaload, 1)) : mx_So (mx_W p l e R s m args below meth c Q D tc tb A nL Ok) pc (mx_aald (pc + 1)) := by
  obtain ⟨hx, hb, hml, hown, hts, hK, hA, hZ, hOk⟩ := C
  intro lv st F ca sl h
  obtain ⟨i, q, r, t, n, f, u, rfl, hq, ⟨ty, hty, hrf⟩, hin, hu, h⟩ := h
  intro ad H locs ls h1 hP hD hS hl
  have hlt : i.toNatClampNeg < n := Nat.not_le.mp fun z => hin (Or.inr z)
  exact W.aald (v := .ref (ad u)) (ty := ty) hx hb (hP q _ hq) ((hK.2 t _ (mx_t_get hty)).1 n (fun j => va_rf ((f j).map ad))) hrf (fun z => by cases z) (by show ¬ (i < 0 ∨ (arrV _ _ _).slots.size ≤ _); rw [arrV_size]; exact hin) (by show (arrV _ _ _).slots[_]? = _; rw [arrV_read _ _ hlt]; show some (va_rf ((f i.toNatClampNeg).map ad)) = _; rw [hu]; rfl) rfl rfl hd (h ad H locs ls h1 hP hD hS hl)
theorem mx_s_iast (C : mx_C p s m args c cc own Ts D tc tb A nL Ok) (hd : decode cc pc = .ok (.iastore, 1)) : mx_So (mx_W p l e R s m args below meth c Q D tc tb A nL Ok) pc (mx_iast (pc + 1)) := by
  obtain ⟨hx, hb, hml, hown, hts, hK, hA, hZ, hOk⟩ := C
  intro lv st F ca sl h
  obtain ⟨x, i, q, r, n, f, rfl, hq, hin, h⟩ := h
  intro ad H locs ls h1 hP hD hS hl
  refine W.iast hx hb (hP q _ hq) ((hK.2 0 _ (mx_t_get rfl)).1 n (fun j => .int (f j))) (fun z => by cases z) (by show ¬ (i < 0 ∨ (arrV _ _ _).slots.size ≤ _); rw [arrV_size]; exact hin) rfl rfl hd fun H1 e9 z oq => ?_
  refine h ad H1 _ ls (hOk ad F _ (mx_in_put F q _) h1) (hP.set hD hq ?_ oq) (hD.set hq) (hS.put z oq (hD.2 q _ hq)) hl
  show H1[ad q]? = some (vp_cell _ _)
  rw [e9]
  show some (Cell.setSlot (vp_cell _ _) _ _) = _
  rw [vp_cell_i, vp_cell_i, arrV_store]
  congr 2
  funext j
  by_cases hj : j = i.toNatClampNeg
  · subst hj
    simp [updV, upd]
  · simp [updV, upd, hj]
theorem mx_s_last (C : mx_C p s m args c cc own Ts D tc tb A nL Ok) (hd : decode cc pc = .ok (.lastore, 1)) : mx_So (mx_W p l e R s m args below meth c Q D tc tb A nL Ok) pc (mx_last (pc + 1)) := by
  obtain ⟨hx, hb, hml, hown, hts, hK, hA, hZ, hOk⟩ := C
  intro lv st F ca sl h
  obtain ⟨x, i, q, r, n, f, rfl, hq, hin, h⟩ := h
  intro ad H locs ls h1 hP hD hS hl
  refine W.last hx hb (hP q _ hq) ((hK.2 1 _ (mx_t_get rfl)).1 n (fun j => .long (f j))) (fun z => by cases z) (by show ¬ (i < 0 ∨ (arrV _ _ _).slots.size ≤ _); rw [arrV_size]; exact hin) rfl rfl hd fun H1 e9 z oq => ?_
  refine h ad H1 _ ls (hOk ad F _ (mx_in_put F q _) h1) (hP.set hD hq ?_ oq) (hD.set hq) (hS.put z oq (hD.2 q _ hq)) hl
  show H1[ad q]? = some (vp_cell _ _)
  rw [e9]
  show some (Cell.setSlot (vp_cell _ _) _ _) = _
  rw [vp_cell_l, vp_cell_l, arrV_store]
  congr 2
  funext j
  by_cases hj : j = i.toNatClampNeg
  · subst hj
    simp [updV, vp_updL]
  · simp [updV, vp_updL, hj]
theorem mx_s_alen (C : mx_C p s m args c cc own Ts D tc tb A nL Ok) (hd : decode cc pc = .ok (.arraylength, 1)) : mx_So (mx_W p l e R s m args below meth c Q D tc tb A nL Ok) pc (mx_alen (pc + 1)) := by
  obtain ⟨hx, hb, hml, hown, hts, hK, hA, hZ, hOk⟩ := C
  intro lv st F ca sl h
  obtain ⟨q, r, n, f, rfl, hq, h⟩ := h
  intro ad H locs ls h1 hP hD hS hl
  exact W.alen (n := Int32.ofNat n) hx hb (hP q _ hq) ((hK.2 0 _ (mx_t_get rfl)).1 n (fun j => .int (f j))) (by show (arrV _ _ _).slots.size.toInt32 = _; rw [arrV_size] <;> rfl) rfl rfl hd (h ad H locs ls h1 hP hD hS hl)
theorem mx_s_gets (C : mx_C p s m args c cc own Ts D tc tb A nL Ok) {Cn nm ds ref : String} {t i : Nat} (hz : (Cn, nm, ds, t) ∈ mx_zs) (hl0 : Jvm.Cond.fieldLink own i ref nm ds ∈ Ts) (hr : Cn = ref) (hd : decode cc pc = .ok (.getstatic i, 3)) : mx_So (mx_W p l e R s m args below meth c Q D tc tb A nL Ok) pc (mx_gets t (pc + 3)) := by
  obtain ⟨hx, hb, hml, hown, hts, hK, hA, hZ, hOk⟩ := C
  intro lv st F ca sl h
  intro ad H locs ls h1 hP hD hS hl
  exact va_gets hx hb (hZ.1 _ hz) hS hown (hts _ hl0) (fun x h9 => by rw [← hr]; exact h9) hd (h ad H locs ls h1 hP hD hS hl)
end MXS
end
section
/-! CONTRACTS OVER WORLDS: entry, return, call -/
/-- the addresses stay, the places stay -/
def mx_Ok0 (a0 : Nat → Nat) (G : mx_F) : (Nat → Nat) → mx_F → Prop := fun ad F => ad = a0 ∧ mx_in G F
def mx_B (D : va_G) (tc : Nat → ClassId) (tb ad : Nat → Nat) (F : mx_F) (sz : Nat) : State → Prop := fun U => U.heap.size = sz ∧ mx_P D tc ad tb F U.heap ∧ va_K D vwCl (mx_t tc mx_ft) U ∧ mx_D (fun _ => True) ad F ∧ mx_Z tb (mx_A ad F sz) U U.heap
def mx_Q (D : va_G) (tc : Nat → ClassId) (tb ad : Nat → Nat) (F : mx_F) (sz : Nat) (P : Option mx_V → mx_F → Prop) : Array Value → State → Outcome → State → Prop := fun _ st oc t =>
  (∃ (r : Option mx_V) (F' : mx_F), oc = .returned (r.map (mx_v ad tb)) ∧ P r F' ∧ mx_in F F' ∧ mx_P D tc ad tb F' t.heap ∧ mx_D (mx_A ad F sz) ad F') ∧ va_F (mx_A ad F sz) st t
/-- a contract: what the specification asks for gives what the answer and the world must be; no cell is made -/
def mx_M (l : Launch) (y : MethodName) (ws : List Cond) (rm : Room) (sp : mx_Sp) : Prop := ∀ (D : va_G) (tc : Nat → ClassId) (tb ad : Nat → Nat) (As : List mx_V) (F : mx_F) (P : Option mx_V → mx_F → Prop) (sz : Nat), sp As F P →
  Met l y ws rm (va_Pc (As.map (mx_v ad tb)) (mx_B D tc tb ad F sz)) (mx_Q D tc tb ad F sz P) 0 0 (mx_A ad F sz)
theorem mx_blind {D : va_G} {tc : Nat → ClassId} {tb ad : Nat → Nat} {F : mx_F} {sz : Nat} {av : List Value} : FrameBlind (va_Pc av (mx_B D tc tb ad F sz)) := by
  intro a U g mk q
  obtain ⟨q0, q1, qP, qK, qD, qZ⟩ := q
  exact ⟨q0, q1, qP, va_K.moved (u := U) (U := U.calling g mk a) (Vm.Alike.refl U.vm) qK, qD, qZ.to (U := U.calling g mk a) (Vm.Alike.refl U.vm) (mx_nw_same rfl) (fun _ _ _ => rfl) (fun _ h => h)⟩
-- the locals at the entry
def mx_ar : List mx_V → mx_L
  | [] => []
  | v :: r => match v with
    | .inr (.inl _) => some v :: none :: mx_ar r
    | _ => some v :: mx_ar r
def mx_en (As : List mx_V) (n : Nat) : mx_L := mx_ar As ++ List.replicate (n - (mx_ar As).length) none
theorem mx_ar_len (ad tb : Nat → Nat) (As : List mx_V) : (lg_sl (As.map (mx_v ad tb))).length = (mx_ar As).length := by
  induction As with
  | nil => rfl
  | cons v r ih =>
    have e1 : lg_sl ((v :: r).map (mx_v ad tb)) = (if (mx_v ad tb v).category = 2 then [.val (mx_v ad tb v), .second] else [.val (mx_v ad tb v)]) ++ lg_sl (r.map (mx_v ad tb)) := by
      simp [lg_sl]
    rw [e1, List.length_append, ih, mx_cat_v]
    rcases v with x | x | x | x <;> simp [mx_ar, mx_cat] <;> omega
theorem mx_ar_mem (ad tb : Nat → Nat) : ∀ (As : List mx_V) (i j : Nat) (w : mx_V), (mx_ar As)[j]? = some (some w) → (i + j, mx_v ad tb w) ∈ lv_args i (As.map (mx_v ad tb))
  | [], _, _, _, h => by simp [mx_ar] at h
  | v :: r, i, j, w, h => by
    have ih := mx_ar_mem ad tb r
    have e2 : lv_args i ((v :: r).map (mx_v ad tb)) = (i, mx_v ad tb v) :: lv_args (if (mx_v ad tb v).category = 2 then i + 2 else i + 1) (r.map (mx_v ad tb)) := rfl
    rw [e2, mx_cat_v]
    have one : ∀ (hc : mx_cat v ≠ 2) (h : (some v :: mx_ar r)[j]? = some (some w)), (i + j, mx_v ad tb w) ∈ (i, mx_v ad tb v) :: lv_args (if mx_cat v = 2 then i + 2 else i + 1) (r.map (mx_v ad tb)) := by
      intro hc h
      cases j with
      | zero =>
        simp at h
        subst h
        exact List.mem_cons_self
      | succ k =>
        rw [List.getElem?_cons_succ] at h
        rw [if_neg hc]
        have := ih (i + 1) k w h
        rw [show i + (k + 1) = i + 1 + k by omega]
        exact List.mem_cons_of_mem _ this
    rcases v with x | x | x | x
    · exact one (show (1 : Nat) ≠ 2 by decide) h
    · have h' : (some (Sum.inr (Sum.inl x)) :: none :: mx_ar r)[j]? = some (some w) := h
      match j, h' with
      | 0, h' =>
        simp at h'
        subst h'
        exact List.mem_cons_self
      | 1, h' => simp at h'
      | k + 2, h' =>
        rw [List.getElem?_cons_succ, List.getElem?_cons_succ] at h'
        have := ih (i + 2) k w h'
        rw [show i + (k + 2) = i + 2 + k by omega]
        exact List.mem_cons_of_mem _ this
    · exact one (show (1 : Nat) ≠ 2 by decide) h
    · exact one (show (1 : Nat) ≠ 2 by decide) h
theorem mx_entry {ad tb : Nat → Nat} {As : List mx_V} {n : Nat} (h : (mx_ar As).length ≤ n) : mx_H ad tb ((lg_sl (As.map (mx_v ad tb)) ++ List.replicate (n - (lg_sl (As.map (mx_v ad tb))).length) Slot.unset).toArray) n (mx_en As n) := by
  have hl := lv_entry (As.map (mx_v ad tb)) (n := n) (by rw [mx_ar_len]; exact h)
  refine ⟨by simp [mx_en]; omega, hl.1, hl.2.1, fun q hq => hl.2.2 q ?_⟩
  obtain ⟨w, h1, h2⟩ := mx_ls_mem.mp hq
  obtain ⟨j, x⟩ := q
  dsimp only at h1 h2
  unfold mx_en at h1
  rw [List.getElem?_append] at h1
  split at h1
  · have := mx_ar_mem ad tb As 0 j w h1
    rw [Nat.zero_add] at this
    rw [h2]
    exact this
  · rw [List.getElem?_replicate] at h1
    split at h1 <;> simp at h1
/-- a method's contract out of the walk of its body -/
theorem mx_enter {l : Launch} {y : MethodName} {ws ws' : List Cond} {rm : Room} {cc : ByteArray} {maxL : Nat} {ret : Option FieldType} (hy : plainName y.cls = true) (hw : ws = Cond.code y cc maxL ret :: ws') (D : va_G) (tc : Nat → ClassId) (tb ad : Nat → Nat) (As : List mx_V) (F : mx_F) (P : Option mx_V → mx_F → Prop) (sz : Nat) (hn : (mx_ar As).length ≤ maxL)
    (body : ∀ (p : Program) (e : Env) (s : State) (m : MethodId) (args : Array Value) (below : List Frame) (meth : Method) (c : Code), mx_C p s m args c cc y.cls ws D tc tb (mx_A ad F sz) maxL (mx_Ok0 ad F) → meth.sig.returnType = ret → meth.locks = false →
      mx_W p l e rm s m args below meth c (MQ below (mx_Q D tc tb ad F sz P) args s 0 0 (mx_A ad F sz)) D tc tb (mx_A ad F sz) maxL (mx_Ok0 ad F) 0 (mx_en As maxL) [] F 0 0) :
    Met l y ws rm (va_Pc (As.map (mx_v ad tb)) (mx_B D tc tb ad F sz)) (mx_Q D tc tb ad F sz P) 0 0 (mx_A ad F sz) := by
  refine Met.ofW (cc := cc) (maxL := maxL) (ret := ret) hy hw ?_
  intro p e s m args below meth c s₁ B hml hv
  obtain ⟨rfl, hsz, hP, hK, hD0, hZ⟩ := hv
  subst hsz
  have hD : mx_D (mx_A ad F s.heap.size) ad F := ⟨hD0.1, fun k x hx => Or.inl ⟨k, x, hx, rfl⟩⟩
  have hW := body p e s m _ below meth c ⟨B.exec, B.bytes, hml, findClass_of_methodNamed B.named, atoms_spec (ws := ws) B.pre, hK, fun q hq => Or.inr hq, hZ, fun a2 G G' h1 h2 => ⟨h2.1, mx_in_tr h2.2 h1⟩⟩ B.returns B.notSynchronized
  rw [lg_entry_eq]
  exact hW ad s.heap [] _ ⟨rfl, mx_in_rf F⟩ hP hD va_S.rf (mx_entry hn)
section MXR
variable {p : Program} {l : Launch} {e : Env} {R : Room} {s : State} {m : MethodId} {args : Array Value} {below : List Frame} {meth : Method} {c : Code} {cc : ByteArray} {own : String} {Ts : List Cond} {D : va_G} {tc : Nat → ClassId} {tb : Nat → Nat} {nL pc sz : Nat} {a0 : Nat → Nat} {G : mx_F} {P : Option mx_V → mx_F → Prop}
theorem mx_s_ret (C : mx_C p s m args c cc own Ts D tc tb (mx_A a0 G sz) nL (mx_Ok0 a0 G)) (hr : meth.sig.returnType = none) (hlk : meth.locks = false) (hd : decode cc pc = .ok (.return_, 1)) : mx_So (mx_W p l e R s m args below meth c (MQ below (mx_Q D tc tb a0 G sz P) args s 0 0 (mx_A a0 G sz)) D tc tb (mx_A a0 G sz) nL (mx_Ok0 a0 G)) pc (mx_ret P) := by
  obtain ⟨hx, hb, hml, hown, hts, hK, hA, hZ, hOk⟩ := C
  intro lv st F ca sl h
  obtain ⟨rfl, rfl, rfl, h⟩ := h
  intro ad H locs ls h1 hP hD hS hl
  obtain ⟨rfl, hin⟩ := h1
  exact W.vret hx hb hr (fun t ht hW => ⟨⟨none, F, rfl, h, hin, by rw [ht]; exact hP, hD⟩, hS.F ht⟩) hS.2.2 hd hlk
theorem mx_s_iret (C : mx_C p s m args c cc own Ts D tc tb (mx_A a0 G sz) nL (mx_Ok0 a0 G)) (hr : meth.sig.returnType = some .int) (hlk : meth.locks = false) (hd : decode cc pc = .ok (.ireturn, 1)) : mx_So (mx_W p l e R s m args below meth c (MQ below (mx_Q D tc tb a0 G sz P) args s 0 0 (mx_A a0 G sz)) D tc tb (mx_A a0 G sz) nL (mx_Ok0 a0 G)) pc (mx_iret P) := by
  obtain ⟨hx, hb, hml, hown, hts, hK, hA, hZ, hOk⟩ := C
  intro lv st F ca sl h
  obtain ⟨x, rfl, rfl, rfl, h⟩ := h
  intro ad H locs ls h1 hP hD hS hl
  obtain ⟨rfl, hin⟩ := h1
  exact W.iret (v := x) hx hb hr (fun t ht hW => ⟨⟨some (.inl x), F, rfl, h, hin, by rw [ht]; exact hP, hD⟩, hS.F ht⟩) hS.2.2 hd hlk
theorem mx_s_zret (C : mx_C p s m args c cc own Ts D tc tb (mx_A a0 G sz) nL (mx_Ok0 a0 G)) (hr : meth.sig.returnType = some .boolean) (hlk : meth.locks = false) (hd : decode cc pc = .ok (.ireturn, 1)) : mx_So (mx_W p l e R s m args below meth c (MQ below (mx_Q D tc tb a0 G sz P) args s 0 0 (mx_A a0 G sz)) D tc tb (mx_A a0 G sz) nL (mx_Ok0 a0 G)) pc (mx_zret P) := by
  obtain ⟨hx, hb, hml, hown, hts, hK, hA, hZ, hOk⟩ := C
  intro lv st F ca sl h
  obtain ⟨x, rfl, rfl, rfl, hx01, h⟩ := h
  intro ad H locs ls h1 hP hD hS hl
  obtain ⟨rfl, hin⟩ := h1
  have hn : narrow .boolean (.int x) = .int x := by
    rcases hx01 with rfl | rfl <;> rfl
  exact W.zret (v := x) hx hb hr hn (fun t ht hW => ⟨⟨some (.inl x), F, rfl, h, hin, by rw [ht]; exact hP, hD⟩, hS.F ht⟩) hS.2.2 hd hlk
theorem mx_s_lret (C : mx_C p s m args c cc own Ts D tc tb (mx_A a0 G sz) nL (mx_Ok0 a0 G)) (hr : meth.sig.returnType = some .long) (hlk : meth.locks = false) (hd : decode cc pc = .ok (.lreturn, 1)) : mx_So (mx_W p l e R s m args below meth c (MQ below (mx_Q D tc tb a0 G sz P) args s 0 0 (mx_A a0 G sz)) D tc tb (mx_A a0 G sz) nL (mx_Ok0 a0 G)) pc (mx_lret P) := by
  obtain ⟨hx, hb, hml, hown, hts, hK, hA, hZ, hOk⟩ := C
  intro lv st F ca sl h
  obtain ⟨x, rfl, rfl, rfl, h⟩ := h
  intro ad H locs ls h1 hP hD hS hl
  obtain ⟨rfl, hin⟩ := h1
  exact W.lret (v := x) hx hb hr (fun t ht hW => ⟨⟨some (.inr (.inl x)), F, rfl, h, hin, by rw [ht]; exact hP, hD⟩, hS.F ht⟩) hS.2.2 hd hlk
end MXR
section MXG
variable {p : Program} {l : Launch} {e : Env} {R : Room} {s : State} {m : MethodId} {args : Array Value} {below : List Frame} {meth : Method} {c : Code} {Q : State → Prop} {cc : ByteArray} {own : String} {Ts : List Cond} {D : va_G} {tc : Nat → ClassId} {tb : Nat → Nat} {A : Nat → Prop} {nL : Nat} {Ok : (Nat → Nat) → mx_F → Prop} {pc : Nat}
theorem mx_after (C : mx_C p s m args c cc own Ts D tc tb A nL Ok) {ad : Nat → Nat} {F : mx_F} {H : Heap} {locs : List Loc} {ls : Array Slot} {lv : mx_L} {r : mx_S} {st0 : List Value} {a : Array Value} {ca sl : Nat}
    (hr : va_Run p l e R s m args below meth c H locs ca sl 0 0 (F0 m pc ls st0) (r.map (mx_v ad tb)) (mx_Q D tc tb ad F H.size (mx_k (pc + 3) lv r ca sl (mx_W p l e R s m args below meth c Q D tc tb A nL Ok)) a) (mx_A ad F H.size))
    (h1 : Ok ad F) (hD : mx_D A ad F) (hS : va_S A s.heap H locs) (hl : mx_H ad tb ls nL lv) : W p l e R s m args below meth c H locs ca sl Q (F0 m pc ls st0) := by
  obtain ⟨hx, hb, hml, hown, hts, hK, hA, hZ, hOk⟩ := C
  intro T hT X
  obtain ⟨v, st₀, t, T', L, h0, X', hL, e1, e2, ⟨⟨rv, F', hv, hk, hin, hP', hD'⟩, hz, hkp⟩, st⟩ := hr T hT X
  have hv2 : v = rv.map (mx_v ad tb) := by cases hv; rfl
  subst hv2
  rw [h0] at hz hkp
  have hF : ∀ q, mx_A ad F H.size q → A q := by
    intro q hq
    rcases hq with ⟨k, x, hx2, rfl⟩ | hq
    · exact hD.2 k x hx2
    · exact hA q (Nat.le_trans hS.1 hq)
  have hD2 : mx_D A ad F' := ⟨hD'.1, fun k x hx2 => hF _ (hD'.2 k x hx2)⟩
  have hS2 : va_S A s.heap T'.heap (locs ++ L) := ⟨Nat.le_trans hS.1 (by rw [e1]; exact hz), fun q g1 g2 => by rw [e1, hkp q (Nat.lt_of_lt_of_le g1 hS.1) (fun z => g2 (hF q z))]; exact hS.2.1 q g1 g2, fun q hq => by
      rcases List.mem_append.mp hq with h | h
      · exact hS.2.2 q h
      · exact hF _ (hL q h)⟩
  cases rv with
  | none =>
    obtain ⟨t2, a1, b1⟩ := hk ad T'.heap (locs ++ L) ls (hOk ad F F' hin h1) (by rw [e1]; exact hP') hD2 hS2 hl T' rfl X'
    exact ⟨t2, st t2 a1, b1⟩
  | some x =>
    obtain ⟨t2, a1, b1⟩ := hk ad T'.heap (locs ++ L) ls (hOk ad F F' hin h1) (by rw [e1]; exact hP') hD2 hS2 hl T' rfl X'
    exact ⟨t2, st t2 a1, b1⟩
theorem mx_pre (C : mx_C p s m args c cc own Ts D tc tb A nL Ok) {ad : Nat → Nat} {F : mx_F} {H : Heap} {locs : List Loc} {As : List mx_V} (hP : mx_P D tc ad tb F H) (hD : mx_D A ad F) (hS : va_S A s.heap H locs) (U : State) (hU : U.heap = H) (hW : s.WarmedH U.vm) : va_Pc (As.map (mx_v ad tb)) (mx_B D tc tb ad F H.size) (As.map (mx_v ad tb)).toArray U := by
  obtain ⟨hx, hb, hml, hown, hts, hK, hA, hZ, hOk⟩ := C
  subst hU
  refine ⟨rfl, rfl, hP, va_K.moved hW.alike hK, ⟨hD.1, fun _ _ _ => trivial⟩, hZ.to hW.alike (mx_nw_warm hW) hS.2.1 ?_⟩
  intro q hq
  rcases hq with ⟨k, x, hx2, rfl⟩ | hq
  · exact hD.2 k x hx2
  · exact hA q (Nat.le_trans hS.1 hq)
theorem mx_recv (C : mx_C p s m args c cc own Ts D tc tb A nL Ok) {ad : Nat → Nat} {F : mx_F} {H : Heap} {q ci N : Nat} {Cn : String} {T : u_T} {fs : List mx_V} (hc : vwCl[ci]? = some (Cn, T, N)) (hP : mx_P D tc ad tb F H) (hq : F q = some (.inr (.inr (.inr (ci, fs))))) : ∃ cell : Cell, H[ad q]? = some cell ∧ cell.vm.isStatics = false ∧ s.vm.findClass Cn = some cell.cls := by
  obtain ⟨hx, hb, hml, hown, hts, hK, hA, hZ, hOk⟩ := C
  obtain ⟨r, h1, cell, g1, g2, g3, -⟩ := hP q _ hq
  exact ⟨cell, g1, by rw [g3]; rfl, by rw [g2]; exact (hK.1 ci _ hc).2.1⟩
theorem mx_room {r : mx_S} {ad : Nat → Nat} {ls : Array Slot} {st : List Value} (h : mx_cs r ≤ 8) : 2 * (F0 m pc ls st).monitorRoom + ((r.map (mx_v ad tb)).map fun v => v.category).sum ≤ 8 := by
  exact lv_room (by rw [mx_cs_map]; exact h)
variable {y : MethodName} {ws : List Cond} {rm : Room} {sp : mx_Sp} {bytes : ByteArray} {maxL n i : Nat} {ret : Option FieldType} {Cn : String}
/-- a virtual call -/
theorem mx_cvW (C : mx_C p s m args c cc own Ts D tc tb A nL Ok) (hM : mx_M l y ws rm sp) {T : u_T} {N ci : Nat} (hc : vwCl[ci]? = some (Cn, T, N)) (cw : CallW R s args own Cn i y bytes maxL ret ws rm 0 0 n) (hd : decode cc pc = .ok (.invokevirtual i, 3)) {q : Nat} {fs : List mx_V} {As : List mx_V} {r : mx_S} {lv : mx_L} {F : mx_F} (hq : F q = some (.inr (.inr (.inr (ci, fs))))) (hn : As.length = n) (h8 : mx_cs r ≤ 8) {ca sl : Nat} (hf : ca ≤ R.cells ∧ sl ≤ R.slots)
    (h : sp (mx_r q :: As) F (mx_k (pc + 3) lv r ca sl (mx_W p l e R s m args below meth c Q D tc tb A nL Ok))) : mx_W p l e R s m args below meth c Q D tc tb A nL Ok pc lv (As.reverse ++ mx_r q :: r) F ca sl := by
  intro ad H locs ls h1 hP hD hS hl
  refine mx_after (r := r) (lv := lv) C (va_runV (As := As.map (mx_v ad tb)) (rest := r.map (mx_v ad tb)) (b := ad q) ⟨C.1, C.2.1, C.2.2.1, C.2.2.2.1, C.2.2.2.2.1⟩ (hM D tc tb ad (mx_r q :: As) F _ H.size h) cw ⟨mx_blind, mx_recv C hc hP hq, fun U hU hW => mx_pre (As := mx_r q :: As) C hP hD hS U hU hW⟩ rfl (by rw [List.length_map]; exact hn) hl.2.1 ?_ (mx_room h8) hd hf) h1 hD hS hl
  show (As.reverse ++ mx_r q :: r).map (mx_v ad tb) = _
  rw [List.map_append, List.map_reverse]
  rfl
/-- a static call -/
theorem mx_csW (C : mx_C p s m args c cc own Ts D tc tb A nL Ok) (hM : mx_M l y ws rm sp) (cw : CallB R s args own i y bytes maxL ret ws rm 0 0 n ∧ (Cond.static y).before args s = true) (hd : decode cc pc = .ok (.invokestatic i, 3)) {As : List mx_V} {r : mx_S} {lv : mx_L} {F : mx_F} (hn : As.length = n) (h8 : mx_cs r ≤ 8) {ca sl : Nat} (hf : ca ≤ R.cells ∧ sl ≤ R.slots)
    (h : sp As F (mx_k (pc + 3) lv r ca sl (mx_W p l e R s m args below meth c Q D tc tb A nL Ok))) : mx_W p l e R s m args below meth c Q D tc tb A nL Ok pc lv (As.reverse ++ r) F ca sl := by
  intro ad H locs ls h1 hP hD hS hl
  refine mx_after (r := r) (lv := lv) C (va_runS (As := As.map (mx_v ad tb)) (rest := r.map (mx_v ad tb)) ⟨C.1, C.2.1, C.2.2.1, C.2.2.2.1, C.2.2.2.2.1⟩ (hM D tc tb ad As F _ H.size h) cw ⟨mx_blind, fun U hU hW => mx_pre (As := As) C hP hD hS U hU hW⟩ rfl (by rw [List.length_map]; exact hn) hl.2.1 ?_ (mx_room h8) hd hf) h1 hD hS hl
  show (As.reverse ++ r).map (mx_v ad tb) = _
  rw [List.map_append, List.map_reverse]
theorem mx_s_cv0 (C : mx_C p s m args c cc own Ts D tc tb A nL Ok) (hM : mx_M l y ws rm sp) {T : u_T} {N ci : Nat} (hc : vwCl[ci]? = some (Cn, T, N)) (cw : CallW R s args own Cn i y bytes maxL ret ws rm 0 0 0) (hd : decode cc pc = .ok (.invokevirtual i, 3)) {mc ms : Nat} (hR : mc ≤ R.cells ∧ ms ≤ R.slots) : mx_So (mx_W p l e R s m args below meth c Q D tc tb A nL Ok) pc (mx_cv0 ci sp mc ms (pc + 3)) := by
  intro lv st F ca sl h
  obtain ⟨q, r, fs, rfl, hq, h8, g1, g2, h⟩ := h
  exact mx_cvW (As := []) C hM hc cw hd hq rfl (Nat.le_of_ble_eq_true h8) ⟨Nat.le_trans (Nat.le_of_ble_eq_true g1) hR.1, Nat.le_trans (Nat.le_of_ble_eq_true g2) hR.2⟩ h
theorem mx_s_cv1 (C : mx_C p s m args c cc own Ts D tc tb A nL Ok) (hM : mx_M l y ws rm sp) {T : u_T} {N ci : Nat} (hc : vwCl[ci]? = some (Cn, T, N)) (cw : CallW R s args own Cn i y bytes maxL ret ws rm 0 0 1) (hd : decode cc pc = .ok (.invokevirtual i, 3)) {mc ms : Nat} (hR : mc ≤ R.cells ∧ ms ≤ R.slots) : mx_So (mx_W p l e R s m args below meth c Q D tc tb A nL Ok) pc (mx_cv1 ci sp mc ms (pc + 3)) := by
  intro lv st F ca sl h
  obtain ⟨q, a1, r, fs, rfl, hq, h8, g1, g2, h⟩ := h
  exact mx_cvW (As := [a1]) C hM hc cw hd hq rfl (Nat.le_of_ble_eq_true h8) ⟨Nat.le_trans (Nat.le_of_ble_eq_true g1) hR.1, Nat.le_trans (Nat.le_of_ble_eq_true g2) hR.2⟩ h
theorem mx_s_cv2 (C : mx_C p s m args c cc own Ts D tc tb A nL Ok) (hM : mx_M l y ws rm sp) {T : u_T} {N ci : Nat} (hc : vwCl[ci]? = some (Cn, T, N)) (cw : CallW R s args own Cn i y bytes maxL ret ws rm 0 0 2) (hd : decode cc pc = .ok (.invokevirtual i, 3)) {mc ms : Nat} (hR : mc ≤ R.cells ∧ ms ≤ R.slots) : mx_So (mx_W p l e R s m args below meth c Q D tc tb A nL Ok) pc (mx_cv2 ci sp mc ms (pc + 3)) := by
  intro lv st F ca sl h
  obtain ⟨q, a1, a2, r, fs, rfl, hq, h8, g1, g2, h⟩ := h
  exact mx_cvW (As := [a1, a2]) C hM hc cw hd hq rfl (Nat.le_of_ble_eq_true h8) ⟨Nat.le_trans (Nat.le_of_ble_eq_true g1) hR.1, Nat.le_trans (Nat.le_of_ble_eq_true g2) hR.2⟩ h
theorem mx_s_cv3 (C : mx_C p s m args c cc own Ts D tc tb A nL Ok) (hM : mx_M l y ws rm sp) {T : u_T} {N ci : Nat} (hc : vwCl[ci]? = some (Cn, T, N)) (cw : CallW R s args own Cn i y bytes maxL ret ws rm 0 0 3) (hd : decode cc pc = .ok (.invokevirtual i, 3)) {mc ms : Nat} (hR : mc ≤ R.cells ∧ ms ≤ R.slots) : mx_So (mx_W p l e R s m args below meth c Q D tc tb A nL Ok) pc (mx_cv3 ci sp mc ms (pc + 3)) := by
  intro lv st F ca sl h
  obtain ⟨q, a1, a2, a3, r, fs, rfl, hq, h8, g1, g2, h⟩ := h
  exact mx_cvW (As := [a1, a2, a3]) C hM hc cw hd hq rfl (Nat.le_of_ble_eq_true h8) ⟨Nat.le_trans (Nat.le_of_ble_eq_true g1) hR.1, Nat.le_trans (Nat.le_of_ble_eq_true g2) hR.2⟩ h
theorem mx_s_cv4 (C : mx_C p s m args c cc own Ts D tc tb A nL Ok) (hM : mx_M l y ws rm sp) {T : u_T} {N ci : Nat} (hc : vwCl[ci]? = some (Cn, T, N)) (cw : CallW R s args own Cn i y bytes maxL ret ws rm 0 0 4) (hd : decode cc pc = .ok (.invokevirtual i, 3)) {mc ms : Nat} (hR : mc ≤ R.cells ∧ ms ≤ R.slots) : mx_So (mx_W p l e R s m args below meth c Q D tc tb A nL Ok) pc (mx_cv4 ci sp mc ms (pc + 3)) := by
  intro lv st F ca sl h
  obtain ⟨q, a1, a2, a3, a4, r, fs, rfl, hq, h8, g1, g2, h⟩ := h
  exact mx_cvW (As := [a1, a2, a3, a4]) C hM hc cw hd hq rfl (Nat.le_of_ble_eq_true h8) ⟨Nat.le_trans (Nat.le_of_ble_eq_true g1) hR.1, Nat.le_trans (Nat.le_of_ble_eq_true g2) hR.2⟩ h
theorem mx_s_cv5 (C : mx_C p s m args c cc own Ts D tc tb A nL Ok) (hM : mx_M l y ws rm sp) {T : u_T} {N ci : Nat} (hc : vwCl[ci]? = some (Cn, T, N)) (cw : CallW R s args own Cn i y bytes maxL ret ws rm 0 0 5) (hd : decode cc pc = .ok (.invokevirtual i, 3)) {mc ms : Nat} (hR : mc ≤ R.cells ∧ ms ≤ R.slots) : mx_So (mx_W p l e R s m args below meth c Q D tc tb A nL Ok) pc (mx_cv5 ci sp mc ms (pc + 3)) := by
  intro lv st F ca sl h
  obtain ⟨q, a1, a2, a3, a4, a5, r, fs, rfl, hq, h8, g1, g2, h⟩ := h
  exact mx_cvW (As := [a1, a2, a3, a4, a5]) C hM hc cw hd hq rfl (Nat.le_of_ble_eq_true h8) ⟨Nat.le_trans (Nat.le_of_ble_eq_true g1) hR.1, Nat.le_trans (Nat.le_of_ble_eq_true g2) hR.2⟩ h
theorem mx_s_cs1 (C : mx_C p s m args c cc own Ts D tc tb A nL Ok) (hM : mx_M l y ws rm sp) (cw : CallB R s args own i y bytes maxL ret ws rm 0 0 1 ∧ (Cond.static y).before args s = true) (hd : decode cc pc = .ok (.invokestatic i, 3)) {mc ms : Nat} (hR : mc ≤ R.cells ∧ ms ≤ R.slots) : mx_So (mx_W p l e R s m args below meth c Q D tc tb A nL Ok) pc (mx_cs1 sp mc ms (pc + 3)) := by
  intro lv st F ca sl h
  obtain ⟨a0, r, rfl, h8, g1, g2, h⟩ := h
  exact mx_csW (As := [a0]) C hM cw hd rfl (Nat.le_of_ble_eq_true h8) ⟨Nat.le_trans (Nat.le_of_ble_eq_true g1) hR.1, Nat.le_trans (Nat.le_of_ble_eq_true g2) hR.2⟩ h
theorem mx_s_cs2 (C : mx_C p s m args c cc own Ts D tc tb A nL Ok) (hM : mx_M l y ws rm sp) (cw : CallB R s args own i y bytes maxL ret ws rm 0 0 2 ∧ (Cond.static y).before args s = true) (hd : decode cc pc = .ok (.invokestatic i, 3)) {mc ms : Nat} (hR : mc ≤ R.cells ∧ ms ≤ R.slots) : mx_So (mx_W p l e R s m args below meth c Q D tc tb A nL Ok) pc (mx_cs2 sp mc ms (pc + 3)) := by
  intro lv st F ca sl h
  obtain ⟨a0, a1, r, rfl, h8, g1, g2, h⟩ := h
  exact mx_csW (As := [a0, a1]) C hM cw hd rfl (Nat.le_of_ble_eq_true h8) ⟨Nat.le_trans (Nat.le_of_ble_eq_true g1) hR.1, Nat.le_trans (Nat.le_of_ble_eq_true g2) hR.2⟩ h
theorem mx_s_cs3 (C : mx_C p s m args c cc own Ts D tc tb A nL Ok) (hM : mx_M l y ws rm sp) (cw : CallB R s args own i y bytes maxL ret ws rm 0 0 3 ∧ (Cond.static y).before args s = true) (hd : decode cc pc = .ok (.invokestatic i, 3)) {mc ms : Nat} (hR : mc ≤ R.cells ∧ ms ≤ R.slots) : mx_So (mx_W p l e R s m args below meth c Q D tc tb A nL Ok) pc (mx_cs3 sp mc ms (pc + 3)) := by
  intro lv st F ca sl h
  obtain ⟨a0, a1, a2, r, rfl, h8, g1, g2, h⟩ := h
  exact mx_csW (As := [a0, a1, a2]) C hM cw hd rfl (Nat.le_of_ble_eq_true h8) ⟨Nat.le_trans (Nat.le_of_ble_eq_true g1) hR.1, Nat.le_trans (Nat.le_of_ble_eq_true g2) hR.2⟩ h
theorem mx_s_cs4 (C : mx_C p s m args c cc own Ts D tc tb A nL Ok) (hM : mx_M l y ws rm sp) (cw : CallB R s args own i y bytes maxL ret ws rm 0 0 4 ∧ (Cond.static y).before args s = true) (hd : decode cc pc = .ok (.invokestatic i, 3)) {mc ms : Nat} (hR : mc ≤ R.cells ∧ ms ≤ R.slots) : mx_So (mx_W p l e R s m args below meth c Q D tc tb A nL Ok) pc (mx_cs4 sp mc ms (pc + 3)) := by
  intro lv st F ca sl h
  obtain ⟨a0, a1, a2, a3, r, rfl, h8, g1, g2, h⟩ := h
  exact mx_csW (As := [a0, a1, a2, a3]) C hM cw hd rfl (Nat.le_of_ble_eq_true h8) ⟨Nat.le_trans (Nat.le_of_ble_eq_true g1) hR.1, Nat.le_trans (Nat.le_of_ble_eq_true g2) hR.2⟩ h
end MXG
end
section
/-! METHODS THAT MAKE CELLS: constructors, the law -/
def mx_noE (k : Nat) : mx_E → Prop
  | .inr (.inr (.inl (_, _, f))) => ∀ i, f i ≠ some k
  | .inr (.inr (.inr (_, fs))) => ∀ v ∈ fs, v ≠ mx_r k
  | _ => True
/-- nothing in the world points to k -/
def mx_no (k : Nat) (F : mx_F) : Prop := ∀ (j : Nat) (x : mx_E), F j = some x → mx_noE k x
theorem mx_no_put {k j : Nat} {F : mx_F} {e : mx_E} (h : mx_no k F) (he : mx_noE k e) : mx_no k (mx_put F j e) := by
  intro i x hx
  rcases mx_put_or hx with ⟨rfl, rfl⟩ | ⟨_, hx⟩
  · exact he
  · exact h i x hx
theorem mx_v_up {k q : Nat} {ad tb : Nat → Nat} {v : mx_V} (h : v ≠ mx_r k) : mx_v (va_up ad k q) tb v = mx_v ad tb v := by
  rcases v with x | x | (_ | x) | x
  · rfl
  · rfl
  · rfl
  · have hx : x ≠ k := fun z => h (by rw [z])
    show Value.ref (va_up ad k q x) = Value.ref (ad x)
    rw [va_up_ne _ _ hx]
  · rfl
theorem mx_e_up {k q : Nat} {tc : Nat → ClassId} {ad tb : Nat → Nat} {x : mx_E} (h : mx_noE k x) : mx_e tc (va_up ad k q) tb x = mx_e tc ad tb x := by
  rcases x with ⟨t, n, f⟩ | ⟨t, n, f⟩ | ⟨t, n, f⟩ | ⟨ci, fs⟩
  · rfl
  · rfl
  · have h2 : (fun j => (f j).map (va_up ad k q)) = (fun j => (f j).map ad) := by
      funext j
      cases hj : f j with
      | none => rfl
      | some z =>
        have hz : z ≠ k := fun w => h j (by rw [hj, w])
        show some (va_up ad k q z) = some (ad z)
        rw [va_up_ne _ _ hz]
    show (Sum.inl (tc t, n, Sum.inr (Sum.inr (Sum.inr (Sum.inr (fun j => (f j).map (va_up ad k q)))))) : va_E) = _
    rw [h2]
    rfl
  · have h2 : fs.map (mx_v (va_up ad k q) tb) = fs.map (mx_v ad tb) := List.map_congr_left fun v hv => mx_v_up (h v hv)
    show (Sum.inr (ci, fs.map (mx_v (va_up ad k q) tb)) : va_E) = _
    rw [h2]
    rfl
theorem mx_fresh {D : va_G} {tc : Nat → ClassId} {tb ad : Nat → Nat} {F : mx_F} {H H1 : Heap} {A : Nat → Prop} {k : Nat} {x : mx_E} (hP : mx_P D tc ad tb F H) (hD : mx_D A ad F) (hno : mx_no k F) (hne : mx_noE k x) (hA : A H.size) (hkept : ∀ z : Nat, z < H.size → H1[z]? = H[z]?) (hat : va_at D vwCl (H.size, mx_e tc ad tb x) H1) : mx_P D tc (va_up ad k H.size) tb (mx_put F k x) H1 ∧ mx_D A (va_up ad k H.size) (mx_put F k x) := by
  have hlt : ∀ (j : Nat) (y : mx_E), F j = some y → ad j < H.size := fun j y hy => (hP j y hy).lt
  refine ⟨fun j y hy => ?_, fun i j y z hy hz hij => ?_, fun j y hy => ?_⟩
  · rcases mx_put_or hy with ⟨rfl, rfl⟩ | ⟨hj, hy⟩
    · rw [va_up_self, mx_e_up hne]
      exact hat
    · rw [va_up_ne _ _ hj, mx_e_up (hno j y hy)]
      exact (hP j y hy).kept (hkept _ (hlt j y hy))
  · rcases mx_put_or hy with ⟨e1, e2⟩ | ⟨hi, hy2⟩
    · rcases mx_put_or hz with ⟨e3, e4⟩ | ⟨hj, hz2⟩
      · rw [e1, e3]
      · rw [e1, va_up_self, va_up_ne _ _ hj] at hij
        have := hlt j z hz2
        omega
    · rcases mx_put_or hz with ⟨e3, e4⟩ | ⟨hj, hz2⟩
      · rw [e3, va_up_self, va_up_ne _ _ hi] at hij
        have := hlt i y hy2
        omega
      · rw [va_up_ne _ _ hi, va_up_ne _ _ hj] at hij
        exact hD.1 i j y z hy2 hz2 hij
  · rcases mx_put_or hy with ⟨rfl, rfl⟩ | ⟨hj, hy⟩
    · rw [va_up_self]
      exact hA
    · rw [va_up_ne _ _ hj]
      exact hD.2 j y hy
/-- no local, nothing on the stack points to k -/
def mx_nrL (k : Nat) : mx_L → Bool
  | [] => true
  | some (.inr (.inr (.inl (some q)))) :: r => (Nat.beq q k).not && mx_nrL k r
  | _ :: r => mx_nrL k r
def mx_nrS (k : Nat) : mx_S → Bool
  | [] => true
  | .inr (.inr (.inl (some q))) :: r => (Nat.beq q k).not && mx_nrS k r
  | _ :: r => mx_nrS k r
theorem mx_nrS_ok {k : Nat} : ∀ {st : mx_S}, mx_nrS k st = true → ∀ v ∈ st, v ≠ mx_r k
  | [], _, _, hv => by cases hv
  | w :: r, h, v, hv => by
    have hr : mx_nrS k r = true := by
      rcases w with x | x | (_ | x) | x
      · exact h
      · exact h
      · exact h
      · exact (Bool.and_eq_true_iff.mp h).2
      · exact h
    rcases List.mem_cons.mp hv with rfl | hv
    · intro z
      subst z
      have := (Bool.and_eq_true_iff.mp h).1
      rw [Nat.beq_refl] at this
      cases this
    · exact mx_nrS_ok hr v hv
theorem mx_nrL_ok {k : Nat} : ∀ {lv : mx_L}, mx_nrL k lv = true → ∀ v : mx_V, some v ∈ lv → v ≠ mx_r k
  | [], _, _, hv => by cases hv
  | w :: r, h, v, hv => by
    have hr : mx_nrL k r = true := by
      rcases w with _ | (x | x | (_ | x) | x)
      · exact h
      · exact h
      · exact h
      · exact h
      · exact (Bool.and_eq_true_iff.mp h).2
      · exact h
    rcases List.mem_cons.mp hv with hw | hv
    · intro z
      subst z
      subst hw
      have := (Bool.and_eq_true_iff.mp h).1
      rw [Nat.beq_refl] at this
      cases this
    · exact mx_nrL_ok hr v hv
theorem mx_st_same {tb ad ad' : Nat → Nat} {st : mx_S} (h : ∀ v ∈ st, mx_v ad' tb v = mx_v ad tb v) : st.map (mx_v ad' tb) = st.map (mx_v ad tb) := List.map_congr_left h
theorem mx_H_same {tb ad ad' : Nat → Nat} {ls : Array Slot} {nL : Nat} {lv : mx_L} (h : ∀ v : mx_V, some v ∈ lv → mx_v ad' tb v = mx_v ad tb v) (hl : mx_H ad tb ls nL lv) : mx_H ad' tb ls nL lv := by
  refine ⟨hl.1, hl.2.1, hl.2.2.1, fun q hq => ?_⟩
  obtain ⟨v, h1, h2⟩ := mx_ls_mem.mp hq
  rw [h2, h v (List.mem_of_getElem? h1)]
  exact hl.at h1
/-- a method that makes cells: old addresses stay -/
def mx_Ok1 (a0 : Nat → Nat) (G : mx_F) : (Nat → Nat) → mx_F → Prop := fun ad F => (∀ (k : Nat) (x : mx_E), G k = some x → ad k = a0 k) ∧ mx_in G F
theorem mx_Ok1_up {a0 ad : Nat → Nat} {G F : mx_F} {k q : Nat} {x : mx_E} (hk : F k = none) (h : mx_Ok1 a0 G ad F) : mx_Ok1 a0 G (va_up ad k q) (mx_put F k x) := by
  refine ⟨fun j y hy => ?_, mx_in_tr h.2 (mx_in_put F k x)⟩
  have hj : j ≠ k := by
    intro z
    subst z
    obtain ⟨w, hw⟩ := h.2 j y hy
    rw [hk] at hw
    cases hw
  rw [va_up_ne _ _ hj]
  exact h.1 j y hy
def mx_Q1 (D : va_G) (tc : Nat → ClassId) (tb ad : Nat → Nat) (F : mx_F) (sz : Nat) (P : Option mx_V → mx_F → Prop) : Array Value → State → Outcome → State → Prop := fun _ st oc t =>
  (∃ (r : Option mx_V) (F' : mx_F) (ad' : Nat → Nat), oc = .returned (r.map (mx_v ad' tb)) ∧ P r F' ∧ mx_Ok1 ad F ad' F' ∧ mx_P D tc ad' tb F' t.heap ∧ mx_D (mx_A ad F sz) ad' F') ∧ va_F (mx_A ad F sz) st t
def mx_M1 (l : Launch) (y : MethodName) (ws : List Cond) (rm : Room) (sp : mx_Sp) : Prop := ∀ (D : va_G) (tc : Nat → ClassId) (tb ad : Nat → Nat) (As : List mx_V) (F : mx_F) (P : Option mx_V → mx_F → Prop) (sz : Nat), sp As F P →
  Met l y ws rm (va_Pc (As.map (mx_v ad tb)) (mx_B D tc tb ad F sz)) (mx_Q1 D tc tb ad F sz P) rm.cells rm.slots (mx_A ad F sz)
theorem mx_enter1 {l : Launch} {y : MethodName} {ws ws' : List Cond} {rm : Room} {cc : ByteArray} {maxL : Nat} {ret : Option FieldType} (hy : plainName y.cls = true) (hw : ws = Cond.code y cc maxL ret :: ws') (D : va_G) (tc : Nat → ClassId) (tb ad : Nat → Nat) (As : List mx_V) (F : mx_F) (P : Option mx_V → mx_F → Prop) (sz : Nat) (hn : (mx_ar As).length ≤ maxL)
    (body : ∀ (p : Program) (e : Env) (s : State) (m : MethodId) (args : Array Value) (below : List Frame) (meth : Method) (c : Code), mx_C p s m args c cc y.cls ws D tc tb (mx_A ad F sz) maxL (mx_Ok1 ad F) → meth.sig.returnType = ret → meth.locks = false → meth.name = y.name →
      mx_W p l e rm s m args below meth c (MQ below (mx_Q1 D tc tb ad F sz P) args s rm.cells rm.slots (mx_A ad F sz)) D tc tb (mx_A ad F sz) maxL (mx_Ok1 ad F) 0 (mx_en As maxL) [] F 0 0) :
    Met l y ws rm (va_Pc (As.map (mx_v ad tb)) (mx_B D tc tb ad F sz)) (mx_Q1 D tc tb ad F sz P) rm.cells rm.slots (mx_A ad F sz) := by
  refine Met.ofW (cc := cc) (maxL := maxL) (ret := ret) hy hw ?_
  intro p e s m args below meth c s₁ B hml hv
  obtain ⟨rfl, hsz, hP, hK, hD0, hZ⟩ := hv
  subst hsz
  have hD : mx_D (mx_A ad F s.heap.size) ad F := ⟨hD0.1, fun k x hx => Or.inl ⟨k, x, hx, rfl⟩⟩
  have hW := body p e s m _ below meth c ⟨B.exec, B.bytes, hml, findClass_of_methodNamed B.named, atoms_spec (ws := ws) B.pre, hK, fun q hq => Or.inr hq, hZ, fun a2 G G' h1 h2 => ⟨h2.1, mx_in_tr h2.2 h1⟩⟩ B.returns B.notSynchronized (name_of_methodNamed B.named B.method).1
  rw [lg_entry_eq]
  exact hW ad s.heap [] _ ⟨fun _ _ _ => rfl, mx_in_rf F⟩ hP hD va_S.rf (mx_entry hn)
def mx_new (ci k N : Nat) (fs : List mx_V) (mc ms nx : Nat) : mx_O := fun lv st F ca sl K => F k = none ∧ mx_no k F ∧ mx_nrL k lv = true ∧ mx_nrS k st = true ∧ Nat.ble (ca + 1) mc = true ∧ Nat.ble (sl + N) ms = true ∧ K nx lv (mx_r k :: st) (mx_put F k (.inr (.inr (.inr (ci, fs))))) (ca + 1) (sl + N)
def mx_newi (k mc ms nx : Nat) : mx_O := fun lv st F ca sl K => ∃ (n : Nat) (r : mx_S), st = .inl (nI n) :: r ∧ Nat.ble n 1000000 = true ∧ F k = none ∧ mx_no k F ∧ mx_nrL k lv = true ∧ mx_nrS k r = true ∧ Nat.ble (ca + 1) mc = true ∧ Nat.ble (sl + n) ms = true ∧ K nx lv (mx_r k :: r) (mx_put F k (.inl (0, n, fun _ => 0))) (ca + 1) (sl + n)
def mx_newl (k mc ms nx : Nat) : mx_O := fun lv st F ca sl K => ∃ (n : Nat) (r : mx_S), st = .inl (nI n) :: r ∧ Nat.ble n 1000000 = true ∧ F k = none ∧ mx_no k F ∧ mx_nrL k lv = true ∧ mx_nrS k r = true ∧ Nat.ble (ca + 1) mc = true ∧ Nat.ble (sl + n) ms = true ∧ K nx lv (mx_r k :: r) (mx_put F k (.inr (.inl (1, n, fun _ => 0)))) (ca + 1) (sl + n)
def mx_putrF (ci k nx : Nat) : mx_O := fun lv st F ca sl K => ∃ (u q : Nat) (r : mx_S) (fs : List mx_V), st = mx_r u :: mx_r q :: r ∧ F q = some (.inr (.inr (.inr (ci, fs)))) ∧ k < fs.length ∧ K nx lv r (mx_put F q (.inr (.inr (.inr (ci, fs.set k (mx_r u)))))) ca sl
def mx_oi (nx : Nat) : mx_O := fun lv st F ca sl K => ∃ (q : Nat) (r : mx_S), st = mx_r q :: r ∧ Nat.ble (mx_cs r) 8 = true ∧ K nx lv r F ca sl
def mx_ret1 (P : Option mx_V → mx_F → Prop) (mc ms : Nat) : mx_O := fun _ st F ca sl _ => st = [] ∧ Nat.ble ca mc = true ∧ Nat.ble sl ms = true ∧ P none F
/-- all that is pointed to stands in the world -/
def mx_okS (F : mx_F) : mx_S → Bool
  | [] => true
  | .inr (.inr (.inl (some q))) :: r => (F q).isSome && mx_okS F r
  | _ :: r => mx_okS F r
def mx_okL (F : mx_F) : mx_L → Bool
  | [] => true
  | some (.inr (.inr (.inl (some q)))) :: r => (F q).isSome && mx_okL F r
  | _ :: r => mx_okL F r
theorem mx_okV {F : mx_F} {ad ad' tb : Nat → Nat} (ha : ∀ (k : Nat) (x : mx_E), F k = some x → ad' k = ad k) {q : Nat} (h : (F q).isSome = true) : mx_v ad' tb (mx_r q) = mx_v ad tb (mx_r q) := by
  obtain ⟨x, hx⟩ := Option.isSome_iff_exists.mp h
  show Value.ref (ad' q) = Value.ref (ad q)
  rw [ha q x hx]
theorem mx_okS_v {F : mx_F} {ad ad' tb : Nat → Nat} (ha : ∀ (k : Nat) (x : mx_E), F k = some x → ad' k = ad k) : ∀ {st : mx_S}, mx_okS F st = true → ∀ v ∈ st, mx_v ad' tb v = mx_v ad tb v
  | [], _, _, hv => by cases hv
  | w :: r, h, v, hv => by
    have ih := fun hr : mx_okS F r = true => mx_okS_v (tb := tb) ha hr v
    rcases List.mem_cons.mp hv with rfl | hv2
    · rcases v with x | x | (_ | x) | x
      · rfl
      · rfl
      · rfl
      · exact mx_okV ha (Bool.and_eq_true_iff.mp h).1
      · rfl
    · rcases w with x | x | (_ | x) | x
      · exact ih h hv2
      · exact ih h hv2
      · exact ih h hv2
      · exact ih (Bool.and_eq_true_iff.mp h).2 hv2
      · exact ih h hv2
theorem mx_okL_v {F : mx_F} {ad ad' tb : Nat → Nat} (ha : ∀ (k : Nat) (x : mx_E), F k = some x → ad' k = ad k) : ∀ {lv : mx_L}, mx_okL F lv = true → ∀ v : mx_V, some v ∈ lv → mx_v ad' tb v = mx_v ad tb v
  | [], _, _, hv => by cases hv
  | w :: r, h, v, hv => by
    have ih := fun hr : mx_okL F r = true => mx_okL_v (tb := tb) ha hr v
    rcases List.mem_cons.mp hv with hw | hv2
    · subst hw
      rcases v with x | x | (_ | x) | x
      · rfl
      · rfl
      · rfl
      · exact mx_okV ha (Bool.and_eq_true_iff.mp h).1
      · rfl
    · rcases w with _ | (x | x | (_ | x) | x)
      · exact ih h hv2
      · exact ih h hv2
      · exact ih h hv2
      · exact ih h hv2
      · exact ih (Bool.and_eq_true_iff.mp h).2 hv2
      · exact ih h hv2
section MXN
variable {p : Program} {l : Launch} {e : Env} {R : Room} {s : State} {m : MethodId} {args : Array Value} {below : List Frame} {meth : Method} {c : Code} {Q : State → Prop} {cc : ByteArray} {own : String} {Ts : List Cond} {D : va_G} {tc : Nat → ClassId} {tb : Nat → Nat} {A : Nat → Prop} {nL : Nat} {Ok : (Nat → Nat) → mx_F → Prop} {pc : Nat}
theorem mx_s_new (C : mx_C p s m args c cc own Ts D tc tb A nL Ok) (hUp : ∀ (ad : Nat → Nat) (F : mx_F) (k q : Nat) (x : mx_E), F k = none → Ok ad F → Ok (va_up ad k q) (mx_put F k x)) {Cn : String} {T : u_T} {N ci i k mc ms : Nat} {fs : List mx_V} (hin : ∀ w ∈ u_ws Cn T N, w ∈ Ts) (ty : Nat → FieldType) (hty : ∀ k, k < N → parseFieldDescriptor (T k).2.2.1 = some (ty k)) (hc : vwCl[ci]? = some (Cn, T, N)) (hcl : Jvm.Cond.classLink own i Cn ∈ Ts) (hinst : Jvm.Cond.instantiable Cn N ∈ Ts) (hini : Jvm.Cond.initialized Cn ∈ Ts) (hfs : ∀ (ad : Nat → Nat) (j : Nat), j < N → defaultValue (ty j) = vp_V (fs.map (mx_v ad tb)) j) (hfk : ∀ v ∈ fs, v ≠ mx_r k) (hd : decode cc pc = .ok (.new i, 3)) (hR : mc ≤ R.cells ∧ ms ≤ R.slots) : mx_So (mx_W p l e R s m args below meth c Q D tc tb A nL Ok) pc (mx_new ci k N fs mc ms (pc + 3)) := by
  obtain ⟨hx, hb, hml, hown, hts, hK, hA, hZ, hOk⟩ := C
  intro lv st F ca sl h
  obtain ⟨hk, hno, n1, n2, g1, g2, h⟩ := h
  intro ad H locs ls h1 hP hD hS hl
  have hKn := hK.1 ci _ hc
  refine W.newcK hx hb hown (hts _ hcl) (hts _ hinst) (hts _ hini) rfl hd (Nat.le_trans (Nat.le_of_ble_eq_true g1) hR.1) (Nat.le_trans (Nat.le_of_ble_eq_true g2) hR.2) hKn.2.1 rfl fun H1 kC hkC e1 z1 o1 => ?_
  obtain ⟨hP1, hD1⟩ := mx_fresh (k := k) (x := .inr (.inr (.inr (ci, fs)))) hP hD hno hfk (hA _ hS.1) o1 ⟨_, hc, (u_born ty hts hin hKn hkC e1 hty).to (hfs ad)⟩
  have h2 := h (va_up ad k H.size) H1 locs ls (hUp ad F k H.size _ hk h1) hP1 hD1 ⟨Nat.le_trans hS.1 (by omega), fun x q1 q2 => (o1 x (Nat.lt_of_lt_of_le q1 hS.1)).trans (hS.2.1 x q1 q2), hS.2.2⟩ (mx_H_same (fun v hv => mx_v_up (mx_nrL_ok n1 v hv)) hl)
  rw [List.map_cons, mx_st_same (ad := ad) (fun v hv => mx_v_up (mx_nrS_ok n2 v hv))] at h2
  have e5 : mx_v (va_up ad k H.size) tb (mx_r k) = .ref H.size := by
    show Value.ref (va_up ad k H.size k) = _
    rw [va_up_self]
  rw [e5] at h2
  exact h2
theorem mx_s_newi (C : mx_C p s m args c cc own Ts D tc tb A nL Ok) (hUp : ∀ (ad : Nat → Nat) (F : mx_F) (k q : Nat) (x : mx_E), F k = none → Ok ad F → Ok (va_up ad k q) (mx_put F k x)) {k mc ms : Nat} (harr : Jvm.Cond.arrayClass .int ∈ Ts) (hd : decode cc pc = .ok (.newarray .int, 2)) (hR : mc ≤ R.cells ∧ ms ≤ R.slots) : mx_So (mx_W p l e R s m args below meth c Q D tc tb A nL Ok) pc (mx_newi k mc ms (pc + 2)) := by
  obtain ⟨hx, hb, hml, hown, hts, hK, hA, hZ, hOk⟩ := C
  intro lv st F ca sl h
  obtain ⟨n, r, rfl, hn, hk, hno, n1, n2, g1, g2, h⟩ := h
  have hn := Nat.le_of_ble_eq_true hn
  intro ad H locs ls h1 hP hD hS hl
  refine va_newaK (atype := .int) (n := nI n) (N := n) hx hb (hts _ harr) rfl hd rfl (nI_pos (by omega)) (nI_clamp (by omega)) (by have e4 : componentBytes (newarray.typeOf .int) = 4 := rfl; rw [e4]; omega) (Nat.le_trans (Nat.le_of_ble_eq_true g1) hR.1) (Nat.le_trans (Nat.le_of_ble_eq_true g2) hR.2) rfl fun H1 cA e1 z1 o1 hAr hNm => ?_
  have hcA : cA = tc 0 := Option.some.inj (hNm.symm.trans (hK.2 0 _ (mx_t_get rfl)).2)
  subst hcA
  obtain ⟨hP1, hD1⟩ := mx_fresh (k := k) (x := .inl (0, n, fun _ => 0)) hP hD hno trivial (hA _ hS.1) o1 e1
  have h2 := h (va_up ad k H.size) H1 locs ls (hUp ad F k H.size _ hk h1) hP1 hD1 ⟨Nat.le_trans hS.1 (by omega), fun x q1 q2 => (o1 x (Nat.lt_of_lt_of_le q1 hS.1)).trans (hS.2.1 x q1 q2), hS.2.2⟩ (mx_H_same (fun v hv => mx_v_up (mx_nrL_ok n1 v hv)) hl)
  rw [List.map_cons, mx_st_same (ad := ad) (fun v hv => mx_v_up (mx_nrS_ok n2 v hv))] at h2
  have e5 : mx_v (va_up ad k H.size) tb (mx_r k) = .ref H.size := by
    show Value.ref (va_up ad k H.size k) = _
    rw [va_up_self]
  rw [e5] at h2
  exact h2
theorem mx_s_newl (C : mx_C p s m args c cc own Ts D tc tb A nL Ok) (hUp : ∀ (ad : Nat → Nat) (F : mx_F) (k q : Nat) (x : mx_E), F k = none → Ok ad F → Ok (va_up ad k q) (mx_put F k x)) {k mc ms : Nat} (harr : Jvm.Cond.arrayClass .long ∈ Ts) (hd : decode cc pc = .ok (.newarray .long, 2)) (hR : mc ≤ R.cells ∧ ms ≤ R.slots) : mx_So (mx_W p l e R s m args below meth c Q D tc tb A nL Ok) pc (mx_newl k mc ms (pc + 2)) := by
  obtain ⟨hx, hb, hml, hown, hts, hK, hA, hZ, hOk⟩ := C
  intro lv st F ca sl h
  obtain ⟨n, r, rfl, hn, hk, hno, n1, n2, g1, g2, h⟩ := h
  have hn := Nat.le_of_ble_eq_true hn
  intro ad H locs ls h1 hP hD hS hl
  refine va_newaK (atype := .long) (n := nI n) (N := n) hx hb (hts _ harr) rfl hd rfl (nI_pos (by omega)) (nI_clamp (by omega)) (by have e4 : componentBytes (newarray.typeOf .long) = 8 := rfl; rw [e4]; omega) (Nat.le_trans (Nat.le_of_ble_eq_true g1) hR.1) (Nat.le_trans (Nat.le_of_ble_eq_true g2) hR.2) rfl fun H1 cA e1 z1 o1 hAr hNm => ?_
  have hcA : cA = tc 1 := Option.some.inj (hNm.symm.trans (hK.2 1 _ (mx_t_get rfl)).2)
  subst hcA
  obtain ⟨hP1, hD1⟩ := mx_fresh (k := k) (x := .inr (.inl (1, n, fun _ => 0))) hP hD hno trivial (hA _ hS.1) o1 e1
  have h2 := h (va_up ad k H.size) H1 locs ls (hUp ad F k H.size _ hk h1) hP1 hD1 ⟨Nat.le_trans hS.1 (by omega), fun x q1 q2 => (o1 x (Nat.lt_of_lt_of_le q1 hS.1)).trans (hS.2.1 x q1 q2), hS.2.2⟩ (mx_H_same (fun v hv => mx_v_up (mx_nrL_ok n1 v hv)) hl)
  rw [List.map_cons, mx_st_same (ad := ad) (fun v hv => mx_v_up (mx_nrS_ok n2 v hv))] at h2
  have e5 : mx_v (va_up ad k H.size) tb (mx_r k) = .ref H.size := by
    show Value.ref (va_up ad k H.size k) = _
    rw [va_up_self]
  rw [e5] at h2
  exact h2
theorem mx_s_oi (C : mx_C p s m args c cc own Ts D tc tb A nL Ok) {i : Nat} (hl0 : Jvm.Cond.methodLink own i objectInit ∈ Ts) (hi0 : Jvm.Cond.instanceMethod objectInit ∈ Ts) (hc0 : Jvm.Cond.code objectInit ⟨#[0xb1]⟩ 1 none ∈ Ts) (hd : decode cc pc = .ok (.invokespecial i, 3)) (hR : 1 ≤ R.frames ∧ 20 ≤ R.locals) : mx_So (mx_W p l e R s m args below meth c Q D tc tb A nL Ok) pc (mx_oi (pc + 3)) := by
  obtain ⟨hx, hb, hml, hown, hts, hK, hA, hZ, hOk⟩ := C
  intro lv st F ca sl h
  obtain ⟨q, r, rfl, h8, h⟩ := h
  intro ad H locs ls h1 hP hD hS hl
  refine W.objInit (rest := r.map (mx_v ad tb)) hx hb hown (hts _ hl0) (hts _ hi0) (hts _ hc0) rfl (by rw [hml]; exact hl.2.1) rfl hd hR.1 ?_ ?_
  · have := mx_room (m := m) (pc := pc) (tb := tb) (ad := ad) (ls := ls) (st := ((mx_r q :: r).map (mx_v ad tb))) (Nat.le_of_ble_eq_true h8)
    omega
  · exact h ad H locs ls h1 hP hD hS hl
theorem mx_s_putrF (C : mx_C p s m args c cc own Ts D tc tb A nL Ok) (hin2 : meth.name = "<init>") {T : u_T} {N ci i k : Nat} {ty : FieldType} (hin : ∀ w ∈ u_ws own T N, w ∈ Ts) (hc : vwCl[ci]? = some (own, T, N)) (ty0 : Nat → FieldType) (hty : ∀ k, k < N → parseFieldDescriptor (T k).2.2.1 = some (ty0 k)) (hnm : ∀ a, a < N → ∀ b, b < N → a ≠ b → (T a).2.1 ≠ (T b).2.1) (hk : k < N) (hl0 : Jvm.Cond.fieldLink own i own (T k).2.1 (T k).2.2.1 ∈ Ts) (hr : (T k).1 = own) (hfin : (T k).2.2.2 = true) (hdd : parseFieldDescriptor (T k).2.2.1 = some ty) (hn : ∀ a, narrow ty (.ref a) = .ref a) (hfit : ∀ a, fits ty (.ref a) = true) (hd : decode cc pc = .ok (.putfield i, 3)) : mx_So (mx_W p l e R s m args below meth c Q D tc tb A nL Ok) pc (mx_putrF ci k (pc + 3)) := by
  obtain ⟨hx, hb, hml, hown, hts, hK, hA, hZ, hOk⟩ := C
  intro lv st F ca sl h
  obtain ⟨u, q, r, fs, rfl, hq, hlen, h⟩ := h
  intro ad H locs ls h1 hP hD hS hl
  have hap := va_apart (own := own) hts hin ty0 hty hnm hK hc
  obtain ⟨r2, h11, cell, q1, q2, q3, q4⟩ := hP q _ hq
  have hr2 : r2 = (own, T, N) := Option.some.inj (h11.symm.trans hc)
  subst hr2
  obtain ⟨hS9, hfc, kC, hkC, hkind⟩ := hK.1 ci _ hc
  obtain ⟨cf, kf, fi, f, hi, hsl⟩ := hS9 k hk
  have hlay := hts _ (hin _ (u_in_lay hk))
  unfold u_lay at hlay
  rw [if_pos hfin] at hlay
  have hst := (u_facts hfc hkC (u_lays hts hin hk) hi).1
  have hcf : m.cls = cf := by
    obtain ⟨_, _, c', _, _, _, -, -, hf', -, -, -, hown2, -⟩ := Cond.laysFinal_spec hlay
    have e1 : c' = cf := by have := hi.symm.trans hf'; simp at this; exact this.1.symm
    rw [hr] at hown2
    rw [← e1]; exact Option.some.inj (hown.symm.trans hown2)
  have h6 := u_fits hfc hkC hkind (Or.inr hlay) hi hdd (hn (ad u)) (hfit (ad u))
  refine W.putFinK hx hb hown (hts _ hl0) (by rw [← hr]; exact hi) hst hcf hin2 (by rw [q2]; exact h6) q1 q3 (by rw [hsl]; exact k2_hasslot (q4 k hk)) rfl rfl hd fun H' e1 e2 e3 => ?_
  rw [hsl] at e1 ⊢
  refine h ad H' _ ls (hOk ad F _ (mx_in_put F q _) h1) (hP.set hD hq ⟨_, hc, t_OB.to (V := updV (vp_V (fs.map (mx_v ad tb))) k (.ref (ad u))) ⟨_, e1, q2, q3, t_set q4 hap hk _⟩ (fun j _ => ?_)⟩ e3) (hD.set hq) (hS.put e2 e3 (hD.2 q _ hq)) hl
  show _ = vp_V ((fs.set k (mx_r u)).map (mx_v ad tb)) j
  rw [List.map_set]
  exact vp_updV_set (by rw [List.length_map]; exact hlen) _ j
end MXN
end
section
def mx_ci0 (sp : mx_Sp) (cm sm mc ms nx : Nat) : mx_O := fun lv st F ca sl K => ∃ (q : Nat) (r : mx_S), st = mx_r q :: r ∧ Nat.ble (mx_cs r) 8 = true ∧ mx_okS F r = true ∧ mx_okL F lv = true ∧ Nat.ble (ca + cm) mc = true ∧ Nat.ble (sl + sm) ms = true ∧ sp [mx_r q] F (mx_k nx lv r (ca + cm) (sl + sm) K)
def mx_ci1 (sp : mx_Sp) (cm sm mc ms nx : Nat) : mx_O := fun lv st F ca sl K => ∃ (q : Nat) (a1 : mx_V) (r : mx_S), st = a1 :: mx_r q :: r ∧ Nat.ble (mx_cs r) 8 = true ∧ mx_okS F r = true ∧ mx_okL F lv = true ∧ Nat.ble (ca + cm) mc = true ∧ Nat.ble (sl + sm) ms = true ∧ sp [mx_r q, a1] F (mx_k nx lv r (ca + cm) (sl + sm) K)
def mx_ci2 (sp : mx_Sp) (cm sm mc ms nx : Nat) : mx_O := fun lv st F ca sl K => ∃ (q : Nat) (a1 a2 : mx_V) (r : mx_S), st = a2 :: a1 :: mx_r q :: r ∧ Nat.ble (mx_cs r) 8 = true ∧ mx_okS F r = true ∧ mx_okL F lv = true ∧ Nat.ble (ca + cm) mc = true ∧ Nat.ble (sl + sm) ms = true ∧ sp [mx_r q, a1, a2] F (mx_k nx lv r (ca + cm) (sl + sm) K)
section MXI
variable {p : Program} {l : Launch} {e : Env} {R : Room} {s : State} {m : MethodId} {args : Array Value} {below : List Frame} {meth : Method} {c : Code} {Q : State → Prop} {cc : ByteArray} {own : String} {Ts : List Cond} {D : va_G} {tc : Nat → ClassId} {tb : Nat → Nat} {A : Nat → Prop} {nL : Nat} {Ok : (Nat → Nat) → mx_F → Prop} {pc : Nat}
theorem mx_after1 (C : mx_C p s m args c cc own Ts D tc tb A nL Ok) (hUp : ∀ (ad ad' : Nat → Nat) (F F' : mx_F), mx_Ok1 ad F ad' F' → Ok ad F → Ok ad' F') {ad : Nat → Nat} {F : mx_F} {H : Heap} {locs : List Loc} {ls : Array Slot} {lv : mx_L} {r : mx_S} {st0 : List Value} {a : Array Value} {ca sl cm sm : Nat}
    (hr : va_Run p l e R s m args below meth c H locs ca sl cm sm (F0 m pc ls st0) (r.map (mx_v ad tb)) (mx_Q1 D tc tb ad F H.size (mx_k (pc + 3) lv r (ca + cm) (sl + sm) (mx_W p l e R s m args below meth c Q D tc tb A nL Ok)) a) (mx_A ad F H.size))
    (hrS : mx_okS F r = true) (hrL : mx_okL F lv = true) (h1 : Ok ad F) (hD : mx_D A ad F) (hS : va_S A s.heap H locs) (hl : mx_H ad tb ls nL lv) : W p l e R s m args below meth c H locs ca sl Q (F0 m pc ls st0) := by
  obtain ⟨hx, hb, hml, hown, hts, hK, hA, hZ, hOk⟩ := C
  intro T hT X
  obtain ⟨v, st₀, t, T', L, h0, X', hL, e1, e2, ⟨⟨rv, F', ad', hv, hk, ho, hP', hD'⟩, hz, hkp⟩, st⟩ := hr T hT X
  have hv2 : v = rv.map (mx_v ad' tb) := by cases hv; rfl
  subst hv2
  rw [h0] at hz hkp
  have hF : ∀ q, mx_A ad F H.size q → A q := by
    intro q hq
    rcases hq with ⟨k, x, hx2, rfl⟩ | hq
    · exact hD.2 k x hx2
    · exact hA q (Nat.le_trans hS.1 hq)
  have hD2 : mx_D A ad' F' := ⟨hD'.1, fun k x hx2 => hF _ (hD'.2 k x hx2)⟩
  have hS2 : va_S A s.heap T'.heap (locs ++ L) := ⟨Nat.le_trans hS.1 (by rw [e1]; exact hz), fun q g1 g2 => by rw [e1, hkp q (Nat.lt_of_lt_of_le g1 hS.1) (fun z => g2 (hF q z))]; exact hS.2.1 q g1 g2, fun q hq => by
      rcases List.mem_append.mp hq with h | h
      · exact hS.2.2 q h
      · exact hF _ (hL q h)⟩
  have hst := mx_st_same (tb := tb) (ad := ad) (ad' := ad') (st := r) (mx_okS_v ho.1 hrS)
  have hl2 := mx_H_same (tb := tb) (ad := ad) (ad' := ad') (mx_okL_v ho.1 hrL) hl
  rw [← hst] at st
  cases rv with
  | none =>
    obtain ⟨t2, a1, b1⟩ := hk ad' T'.heap (locs ++ L) ls (hUp ad ad' F F' ho h1) (by rw [e1]; exact hP') hD2 hS2 hl2 T' rfl X'
    exact ⟨t2, st t2 a1, b1⟩
  | some x =>
    obtain ⟨t2, a1, b1⟩ := hk ad' T'.heap (locs ++ L) ls (hUp ad ad' F F' ho h1) (by rw [e1]; exact hP') hD2 hS2 hl2 T' rfl X'
    exact ⟨t2, st t2 a1, b1⟩
theorem mx_Ok1_tr {a0 ad ad' : Nat → Nat} {G F F' : mx_F} (h : mx_Ok1 ad F ad' F') (h0 : mx_Ok1 a0 G ad F) : mx_Ok1 a0 G ad' F' := by
  refine ⟨fun k x hx => ?_, mx_in_tr h0.2 h.2⟩
  obtain ⟨y, hy⟩ := h0.2 k x hx
  rw [h.1 k y hy, h0.1 k x hx]
variable {y : MethodName} {ws : List Cond} {rm : Room} {sp : mx_Sp} {bytes : ByteArray} {maxL n i : Nat}
theorem mx_ciW (C : mx_C p s m args c cc own Ts D tc tb A nL Ok) (hUp : ∀ (ad ad' : Nat → Nat) (F F' : mx_F), mx_Ok1 ad F ad' F' → Ok ad F → Ok ad' F') (hM : mx_M1 l y ws rm sp) {cm sm : Nat} (hcm : rm.cells = cm) (hsm : rm.slots = sm) (cw : CallB R s args own i y bytes maxL none ws rm cm sm n ∧ y.name = "<init>" ∧ (Cond.instanceMethod y).before args s = true) (hd : decode cc pc = .ok (.invokespecial i, 3)) {q : Nat} {As : List mx_V} {r : mx_S} {lv : mx_L} {F : mx_F} (hn : As.length = n) (h8 : mx_cs r ≤ 8) (hrS : mx_okS F r = true) (hrL : mx_okL F lv = true) {ca sl : Nat} (hf : ca + cm ≤ R.cells ∧ sl + sm ≤ R.slots)
    (h : sp (mx_r q :: As) F (mx_k (pc + 3) lv r (ca + cm) (sl + sm) (mx_W p l e R s m args below meth c Q D tc tb A nL Ok))) : mx_W p l e R s m args below meth c Q D tc tb A nL Ok pc lv (As.reverse ++ mx_r q :: r) F ca sl := by
  subst hcm
  subst hsm
  intro ad H locs ls h1 hP hD hS hl
  refine mx_after1 (r := r) (lv := lv) C hUp (va_runI (As := As.map (mx_v ad tb)) (rest := r.map (mx_v ad tb)) (b := ad q) ⟨C.1, C.2.1, C.2.2.1, C.2.2.2.1, C.2.2.2.2.1⟩ (hM D tc tb ad (mx_r q :: As) F _ H.size h) cw ⟨mx_blind, fun U hU hW => mx_pre (As := mx_r q :: As) C hP hD hS U hU hW⟩ rfl (by rw [List.length_map]; exact hn) hl.2.1 ?_ (mx_room h8) hd hf) hrS hrL h1 hD hS hl
  show (As.reverse ++ mx_r q :: r).map (mx_v ad tb) = _
  rw [List.map_append, List.map_reverse]
  rfl
theorem mx_ciNW (C : mx_C p s m args c cc own Ts D tc tb A nL Ok) (hUp : ∀ (ad ad' : Nat → Nat) (F F' : mx_F), mx_Ok1 ad F ad' F' → Ok ad F → Ok ad' F') (hM : mx_M1 l y ws rm sp) {cm sm : Nat} (hcm : rm.cells = cm) (hsm : rm.slots = sm) {host : String} (cw : va_CN R s args own i y host bytes maxL none ws rm cm sm n ∧ y.name = "<init>" ∧ (Cond.instanceMethod y).before args s = true) (hd : decode cc pc = .ok (.invokespecial i, 3)) {q : Nat} {As : List mx_V} {r : mx_S} {lv : mx_L} {F : mx_F} (hn : As.length = n) (h8 : mx_cs r ≤ 8) (hrS : mx_okS F r = true) (hrL : mx_okL F lv = true) {ca sl : Nat} (hf : ca + cm ≤ R.cells ∧ sl + sm ≤ R.slots)
    (h : sp (mx_r q :: As) F (mx_k (pc + 3) lv r (ca + cm) (sl + sm) (mx_W p l e R s m args below meth c Q D tc tb A nL Ok))) : mx_W p l e R s m args below meth c Q D tc tb A nL Ok pc lv (As.reverse ++ mx_r q :: r) F ca sl := by
  subst hcm
  subst hsm
  intro ad H locs ls h1 hP hD hS hl
  refine mx_after1 (r := r) (lv := lv) C hUp (va_runIN (As := As.map (mx_v ad tb)) (rest := r.map (mx_v ad tb)) (b := ad q) ⟨C.1, C.2.1, C.2.2.1, C.2.2.2.1, C.2.2.2.2.1⟩ (hM D tc tb ad (mx_r q :: As) F _ H.size h) cw ⟨mx_blind, fun U hU hW => mx_pre (As := mx_r q :: As) C hP hD hS U hU hW⟩ rfl (by rw [List.length_map]; exact hn) hl.2.1 ?_ (mx_room h8) hd hf) hrS hrL h1 hD hS hl
  show (As.reverse ++ mx_r q :: r).map (mx_v ad tb) = _
  rw [List.map_append, List.map_reverse]
  rfl
theorem mx_s_ci0 (C : mx_C p s m args c cc own Ts D tc tb A nL Ok) (hUp : ∀ (ad ad' : Nat → Nat) (F F' : mx_F), mx_Ok1 ad F ad' F' → Ok ad F → Ok ad' F') (hM : mx_M1 l y ws rm sp) {cm sm mc ms : Nat} (hcm : rm.cells = cm) (hsm : rm.slots = sm) (cw : CallB R s args own i y bytes maxL none ws rm cm sm 0 ∧ y.name = "<init>" ∧ (Cond.instanceMethod y).before args s = true) (hd : decode cc pc = .ok (.invokespecial i, 3)) (hR : mc ≤ R.cells ∧ ms ≤ R.slots) : mx_So (mx_W p l e R s m args below meth c Q D tc tb A nL Ok) pc (mx_ci0 sp cm sm mc ms (pc + 3)) := by
  intro lv st F ca sl h
  obtain ⟨q, r, rfl, h8, hrS, hrL, g1, g2, h⟩ := h
  exact mx_ciW (As := []) C hUp hM hcm hsm cw hd rfl (Nat.le_of_ble_eq_true h8) hrS hrL ⟨Nat.le_trans (Nat.le_of_ble_eq_true g1) hR.1, Nat.le_trans (Nat.le_of_ble_eq_true g2) hR.2⟩ h
theorem mx_s_ciN0 (C : mx_C p s m args c cc own Ts D tc tb A nL Ok) (hUp : ∀ (ad ad' : Nat → Nat) (F F' : mx_F), mx_Ok1 ad F ad' F' → Ok ad F → Ok ad' F') (hM : mx_M1 l y ws rm sp) {cm sm mc ms : Nat} (hcm : rm.cells = cm) (hsm : rm.slots = sm) {host : String} (cw : va_CN R s args own i y host bytes maxL none ws rm cm sm 0 ∧ y.name = "<init>" ∧ (Cond.instanceMethod y).before args s = true) (hd : decode cc pc = .ok (.invokespecial i, 3)) (hR : mc ≤ R.cells ∧ ms ≤ R.slots) : mx_So (mx_W p l e R s m args below meth c Q D tc tb A nL Ok) pc (mx_ci0 sp cm sm mc ms (pc + 3)) := by
  intro lv st F ca sl h
  obtain ⟨q, r, rfl, h8, hrS, hrL, g1, g2, h⟩ := h
  exact mx_ciNW (As := []) C hUp hM hcm hsm cw hd rfl (Nat.le_of_ble_eq_true h8) hrS hrL ⟨Nat.le_trans (Nat.le_of_ble_eq_true g1) hR.1, Nat.le_trans (Nat.le_of_ble_eq_true g2) hR.2⟩ h
theorem mx_s_ci1 (C : mx_C p s m args c cc own Ts D tc tb A nL Ok) (hUp : ∀ (ad ad' : Nat → Nat) (F F' : mx_F), mx_Ok1 ad F ad' F' → Ok ad F → Ok ad' F') (hM : mx_M1 l y ws rm sp) {cm sm mc ms : Nat} (hcm : rm.cells = cm) (hsm : rm.slots = sm) (cw : CallB R s args own i y bytes maxL none ws rm cm sm 1 ∧ y.name = "<init>" ∧ (Cond.instanceMethod y).before args s = true) (hd : decode cc pc = .ok (.invokespecial i, 3)) (hR : mc ≤ R.cells ∧ ms ≤ R.slots) : mx_So (mx_W p l e R s m args below meth c Q D tc tb A nL Ok) pc (mx_ci1 sp cm sm mc ms (pc + 3)) := by
  intro lv st F ca sl h
  obtain ⟨q, a1, r, rfl, h8, hrS, hrL, g1, g2, h⟩ := h
  exact mx_ciW (As := [a1]) C hUp hM hcm hsm cw hd rfl (Nat.le_of_ble_eq_true h8) hrS hrL ⟨Nat.le_trans (Nat.le_of_ble_eq_true g1) hR.1, Nat.le_trans (Nat.le_of_ble_eq_true g2) hR.2⟩ h
theorem mx_s_ciN1 (C : mx_C p s m args c cc own Ts D tc tb A nL Ok) (hUp : ∀ (ad ad' : Nat → Nat) (F F' : mx_F), mx_Ok1 ad F ad' F' → Ok ad F → Ok ad' F') (hM : mx_M1 l y ws rm sp) {cm sm mc ms : Nat} (hcm : rm.cells = cm) (hsm : rm.slots = sm) {host : String} (cw : va_CN R s args own i y host bytes maxL none ws rm cm sm 1 ∧ y.name = "<init>" ∧ (Cond.instanceMethod y).before args s = true) (hd : decode cc pc = .ok (.invokespecial i, 3)) (hR : mc ≤ R.cells ∧ ms ≤ R.slots) : mx_So (mx_W p l e R s m args below meth c Q D tc tb A nL Ok) pc (mx_ci1 sp cm sm mc ms (pc + 3)) := by
  intro lv st F ca sl h
  obtain ⟨q, a1, r, rfl, h8, hrS, hrL, g1, g2, h⟩ := h
  exact mx_ciNW (As := [a1]) C hUp hM hcm hsm cw hd rfl (Nat.le_of_ble_eq_true h8) hrS hrL ⟨Nat.le_trans (Nat.le_of_ble_eq_true g1) hR.1, Nat.le_trans (Nat.le_of_ble_eq_true g2) hR.2⟩ h
theorem mx_s_ci2 (C : mx_C p s m args c cc own Ts D tc tb A nL Ok) (hUp : ∀ (ad ad' : Nat → Nat) (F F' : mx_F), mx_Ok1 ad F ad' F' → Ok ad F → Ok ad' F') (hM : mx_M1 l y ws rm sp) {cm sm mc ms : Nat} (hcm : rm.cells = cm) (hsm : rm.slots = sm) (cw : CallB R s args own i y bytes maxL none ws rm cm sm 2 ∧ y.name = "<init>" ∧ (Cond.instanceMethod y).before args s = true) (hd : decode cc pc = .ok (.invokespecial i, 3)) (hR : mc ≤ R.cells ∧ ms ≤ R.slots) : mx_So (mx_W p l e R s m args below meth c Q D tc tb A nL Ok) pc (mx_ci2 sp cm sm mc ms (pc + 3)) := by
  intro lv st F ca sl h
  obtain ⟨q, a1, a2, r, rfl, h8, hrS, hrL, g1, g2, h⟩ := h
  exact mx_ciW (As := [a1, a2]) C hUp hM hcm hsm cw hd rfl (Nat.le_of_ble_eq_true h8) hrS hrL ⟨Nat.le_trans (Nat.le_of_ble_eq_true g1) hR.1, Nat.le_trans (Nat.le_of_ble_eq_true g2) hR.2⟩ h
theorem mx_s_ciN2 (C : mx_C p s m args c cc own Ts D tc tb A nL Ok) (hUp : ∀ (ad ad' : Nat → Nat) (F F' : mx_F), mx_Ok1 ad F ad' F' → Ok ad F → Ok ad' F') (hM : mx_M1 l y ws rm sp) {cm sm mc ms : Nat} (hcm : rm.cells = cm) (hsm : rm.slots = sm) {host : String} (cw : va_CN R s args own i y host bytes maxL none ws rm cm sm 2 ∧ y.name = "<init>" ∧ (Cond.instanceMethod y).before args s = true) (hd : decode cc pc = .ok (.invokespecial i, 3)) (hR : mc ≤ R.cells ∧ ms ≤ R.slots) : mx_So (mx_W p l e R s m args below meth c Q D tc tb A nL Ok) pc (mx_ci2 sp cm sm mc ms (pc + 3)) := by
  intro lv st F ca sl h
  obtain ⟨q, a1, a2, r, rfl, h8, hrS, hrL, g1, g2, h⟩ := h
  exact mx_ciNW (As := [a1, a2]) C hUp hM hcm hsm cw hd rfl (Nat.le_of_ble_eq_true h8) hrS hrL ⟨Nat.le_trans (Nat.le_of_ble_eq_true g1) hR.1, Nat.le_trans (Nat.le_of_ble_eq_true g2) hR.2⟩ h
end MXI
theorem mx_s_ret1 {p : Program} {l : Launch} {e : Env} {R : Room} {s : State} {m : MethodId} {args : Array Value} {below : List Frame} {meth : Method} {c : Code} {cc : ByteArray} {own : String} {Ts : List Cond} {D : va_G} {tc : Nat → ClassId} {tb : Nat → Nat} {nL pc sz mc ms : Nat} {a0 : Nat → Nat} {G : mx_F} {P : Option mx_V → mx_F → Prop} (C : mx_C p s m args c cc own Ts D tc tb (mx_A a0 G sz) nL (mx_Ok1 a0 G)) (hr : meth.sig.returnType = none) (hlk : meth.locks = false) (hd : decode cc pc = .ok (.return_, 1)) : mx_So (mx_W p l e R s m args below meth c (MQ below (mx_Q1 D tc tb a0 G sz P) args s mc ms (mx_A a0 G sz)) D tc tb (mx_A a0 G sz) nL (mx_Ok1 a0 G)) pc (mx_ret1 P mc ms) := by
  obtain ⟨hx, hb, hml, hown, hts, hK, hA, hZ, hOk⟩ := C
  intro lv st F ca sl h
  obtain ⟨rfl, g1, g2, h⟩ := h
  intro ad H locs ls h1 hP hD hS hl
  refine W.widen (k := mc) (n := ms) (Nat.le_of_ble_eq_true g1) (Nat.le_of_ble_eq_true g2) ?_
  exact W.vret hx hb hr (fun t ht hW => ⟨⟨none, F, ad, rfl, h, h1, by rw [ht]; exact hP, hD⟩, hS.F ht⟩) hS.2.2 hd hlk
end
section
/-! A METHOD'S CONTRACT OUT OF A TABLE OF STEPS AND A WALK -/
theorem mx_run {l : Launch} {y : MethodName} {ws ws' : List Cond} {rm : Room} {cc : ByteArray} {maxL : Nat} {ret : Option FieldType} {tab : List (Nat × mx_O)} (hy : plainName y.cls = true) (hw : ws = Cond.code y cc maxL ret :: ws') (D : va_G) (tc : Nat → ClassId) (tb ad : Nat → Nat) (As : List mx_V) (F : mx_F) (P : Option mx_V → mx_F → Prop) (sz : Nat) (hn : (mx_ar As).length ≤ maxL)
    (hall : ∀ (p : Program) (e : Env) (s : State) (m : MethodId) (args : Array Value) (below : List Frame) (meth : Method) (c : Code), mx_C p s m args c cc y.cls ws D tc tb (mx_A ad F sz) maxL (mx_Ok0 ad F) → meth.sig.returnType = ret → meth.locks = false →
      mx_all (mx_W p l e rm s m args below meth c (MQ below (mx_Q D tc tb ad F sz P) args s 0 0 (mx_A ad F sz)) D tc tb (mx_A ad F sz) maxL (mx_Ok0 ad F)) tab)
    (body : ∀ Rr : mx_K, (∀ {pc : Nat} {o : mx_O} {lv : mx_L} {st : mx_S} {F : mx_F} {ca sl : Nat}, mx_at tab pc = some o → o lv st F ca sl Rr → Rr pc lv st F ca sl) → Rr 0 (mx_en As maxL) [] F 0 0) :
    Met l y ws rm (va_Pc (As.map (mx_v ad tb)) (mx_B D tc tb ad F sz)) (mx_Q D tc tb ad F sz P) 0 0 (mx_A ad F sz) :=
  mx_enter hy hw D tc tb ad As F P sz hn (fun p e s m args below meth c C hr hlk => body _ (fun h1 h2 => mx_go (hall p e s m args below meth c C hr hlk) h1 h2))
theorem mx_run1 {l : Launch} {y : MethodName} {ws ws' : List Cond} {rm : Room} {cc : ByteArray} {maxL : Nat} {ret : Option FieldType} {tab : List (Nat × mx_O)} (hy : plainName y.cls = true) (hw : ws = Cond.code y cc maxL ret :: ws') (D : va_G) (tc : Nat → ClassId) (tb ad : Nat → Nat) (As : List mx_V) (F : mx_F) (P : Option mx_V → mx_F → Prop) (sz : Nat) (hn : (mx_ar As).length ≤ maxL)
    (hall : ∀ (p : Program) (e : Env) (s : State) (m : MethodId) (args : Array Value) (below : List Frame) (meth : Method) (c : Code), mx_C p s m args c cc y.cls ws D tc tb (mx_A ad F sz) maxL (mx_Ok1 ad F) → meth.sig.returnType = ret → meth.locks = false → meth.name = y.name →
      mx_all (mx_W p l e rm s m args below meth c (MQ below (mx_Q1 D tc tb ad F sz P) args s rm.cells rm.slots (mx_A ad F sz)) D tc tb (mx_A ad F sz) maxL (mx_Ok1 ad F)) tab)
    (body : ∀ Rr : mx_K, (∀ {pc : Nat} {o : mx_O} {lv : mx_L} {st : mx_S} {F : mx_F} {ca sl : Nat}, mx_at tab pc = some o → o lv st F ca sl Rr → Rr pc lv st F ca sl) → Rr 0 (mx_en As maxL) [] F 0 0) :
    Met l y ws rm (va_Pc (As.map (mx_v ad tb)) (mx_B D tc tb ad F sz)) (mx_Q1 D tc tb ad F sz P) rm.cells rm.slots (mx_A ad F sz) :=
  mx_enter1 hy hw D tc tb ad As F P sz hn (fun p e s m args below meth c C hr hlk hnm => body _ (fun h1 h2 => mx_go (hall p e s m args below meth c C hr hlk hnm) h1 h2))
theorem mx_as1 {F : mx_F} {k : Nat} {e : mx_E} (h : F k = some e) : F = mx_put F k e := (mx_self h).symm
theorem mx_as2 {F : mx_F} {k1 k2 : Nat} {e1 e2 : mx_E} (h1 : F k1 = some e1) (h2 : F k2 = some e2) : F = mx_put (mx_put F k1 e1) k2 e2 := by
  rw [mx_self h1, mx_self h2]
theorem mx_as3 {F : mx_F} {k1 k2 k3 : Nat} {e1 e2 e3 : mx_E} (h1 : F k1 = some e1) (h2 : F k2 = some e2) (h3 : F k3 = some e3) : F = mx_put (mx_put (mx_put F k1 e1) k2 e2) k3 e3 := by
  rw [mx_self h1, mx_self h2, mx_self h3]
theorem mx_as4 {F : mx_F} {k1 k2 k3 k4 : Nat} {e1 e2 e3 e4 : mx_E} (h1 : F k1 = some e1) (h2 : F k2 = some e2) (h3 : F k3 = some e3) (h4 : F k4 = some e4) : F = mx_put (mx_put (mx_put (mx_put F k1 e1) k2 e2) k3 e3) k4 e4 := by
  rw [mx_self h1, mx_self h2, mx_self h3, mx_self h4]
theorem mx_as5 {F : mx_F} {k1 k2 k3 k4 k5 : Nat} {e1 e2 e3 e4 e5 : mx_E} (h1 : F k1 = some e1) (h2 : F k2 = some e2) (h3 : F k3 = some e3) (h4 : F k4 = some e4) (h5 : F k5 = some e5) : F = mx_put (mx_put (mx_put (mx_put (mx_put F k1 e1) k2 e2) k3 e3) k4 e4) k5 e5 := by
  rw [mx_self h1, mx_self h2, mx_self h3, mx_self h4, mx_self h5]
-- the cells of the class, by their places
abbrev e_L : mx_E := mx_ob 6 [mx_r 1, mx_r 3, mx_r 6, mx_r 10, mx_r 15, mx_r 29]
abbrev e_R (n : Nat) : mx_E := mx_ob 3 [mx_r 2, mx_i (nI n)]
abbrev e_W (n : Nat) : mx_E := mx_ob 5 [mx_r 4, mx_r 5, mx_i (nI n)]
abbrev e_D (rc : Int32) (sh : Int64) (wt : Int32) : mx_E := mx_ob 2 [mx_r 3, mx_r 7, mx_r 8, mx_r 9, mx_i rc, mx_l sh, mx_i wt]
abbrev e_G (fc kc tot wt : Int32) : mx_E := mx_ob 0 [mx_r 3, mx_r 11, mx_r 12, mx_i fc, mx_r 13, mx_r 14, mx_i kc, mx_i tot, mx_i wt]
abbrev e_Q (sz wt : Int32) : mx_E := mx_ob 4 [mx_r 3, mx_r 16, mx_r 17, mx_r 18, mx_i sz, mx_i wt]
abbrev e_C : mx_E := mx_ob 1 [mx_r 3, mx_r 30]
-- the reference: thrown, size, many, steps, ways, kept, side
abbrev e_M (th sz mn sp : Int32) (wy : Int64) (kp sd : Int32) : mx_E := mx_ob 7 [mx_i th, mx_i sz, mx_r 41, mx_i mn, mx_r 42, mx_r 43, mx_i sp, mx_r 44, mx_l wy, mx_r 45, mx_r 46, mx_i kp, mx_r 47, mx_r 48, mx_r 49, mx_i sd, mx_r 50, mx_r 51]
end
section
/-! an array of arrays: 5 rows of longs -/
section MG
variable {E : CtlPost} {e : Env} {d : Bool} {acts : List Action} {s : State}
theorem mg_new {cls comp : ClassId} {k : Class} {ty : FieldType} {N : Nat} {v : Value} {Q : Addr → Pre} (hk : s.vm.classes[cls]? = some k) (hkind : k.kind = .array comp ty) (hv : fits ty v = true) (h1 : N ≤ e.platform.arrayLengthLimit) (h2 : N * componentBytes ty ≤ e.platform.maxHeapBytes) (h3 : s.heap.size < e.platform.maxCells) (h4 : s.slotsUsed + N ≤ e.platform.maxSlots)
    (hq : ∀ acts', Q s.heap.size d acts' (s.pushCell { cls := cls, slots := Array.replicate N v, vm := .none })) : wp (Jvm.newArray cls N v) Q E e d acts s := by
  have hfit : ∀ (i : Nat) (w : Value), (Array.replicate N v)[i]? = some w → s.fitsSlot cls .none i w = true := by
    intro i w hw
    simp only [Array.getElem?_replicate] at hw
    split at hw
    · cases hw
      simp [State.fitsSlot, State.slotType?, hk, hkind, hv]
    · cases hw
  simp only [Jvm.newArray, Jvm.arrayFits, wp_bind', W.ask, W.ite, W.theClass, W.alloc, W.stop, wp_pure', W.mark]
  rw [if_neg (by omega)]
  refine ⟨k, hk, ?_⟩
  rw [hkind]
  simp only [wp_bind', W.ask, W.ite, W.stop, wp_pure', W.mark]
  rw [if_neg (by omega), if_neg (by omega)]
  exact ⟨h3, by rw [Array.size_replicate]; exact h4, hfit, hq _⟩
end MG
section MG3
variable {p : Program} {l : Launch} {e : Env} {R : Room} {s : State} {m : MethodId} {args : Array Value} {below : List Frame} {meth : Method} {c : Code} {H : Heap} {locs : List Loc} {cells slots : Nat}
/-- the outer array with j rows in it -/
def mg_o (cQ : ClassId) (h j : Nat) : Cell := arrV cQ 5 (fun i => if i < j then .ref (h + 1 + i) else .null)
/-- behind j rows of N longs -/
def mg_I (p : Program) (l : Launch) (e : Env) (R : Room) (s : State) (m : MethodId) (args : Array Value) (below : List Frame) (meth : Method) (c : Code) (H : Heap) (locs : List Loc) (cells slots : Nat) (cQ cJ : ClassId) (N : Nat) (g : JFrame) (j : Nat) (U : State) : Prop :=
  ∃ (S : State) (L : List Loc), U = S.setTop g ∧ Stand p l e R s m args below meth c S (locs ++ L) (cells + 1 + j) (slots + 5 + j * N) ∧ (∀ q ∈ L, q.base = H.size) ∧ S.heap.size = H.size + 1 + j ∧ (∀ q : Nat, q < H.size → S.heap[q]? = H[q]?) ∧ S.heap[H.size]? = some (mg_o cQ H.size j) ∧ ∀ i : Nat, i < j → S.heap[H.size + 1 + i]? = some (arrV cJ N (fun _ => .long 0))
theorem mg_row {cQ cJ pJ : ClassId} {kQ kJ : Class} {n : Int32} {N j : Nat} {g : JFrame} {U : State} {d : Bool} {acts : List Action} {E : CtlPost} (hkQ : s.vm.classes[cQ]? = some kQ) (hQ : kQ.kind = .array cJ (.array .long)) (hkJ : s.vm.classes[cJ]? = some kJ) (hJ : kJ.kind = .array pJ .long) (hn : ¬ n < 0) (hN : n.toNatClampNeg = N) (hNl : N ≤ 1000000) (hj : j < 5) (hc : cells + 6 ≤ R.cells) (hs : slots + 5 + 5 * N ≤ R.slots)
    (hI : mg_I p l e R s m args below meth c H locs cells slots cQ cJ N g j U) {Q' : ForInStep PUnit → Pre} (hq : ∀ U' d' acts', mg_I p l e R s m args below meth c H locs cells slots cQ cJ N g (j + 1) U' → Q' (ForInStep.yield PUnit.unit) d' acts' U') :
    wp (do
      let a ← Op.multianewarray.make cJ [n]
      writeLoc H.size j (Value.ref a)
      Pure.pure (ForInStep.yield PUnit.unit)) Q' E e d acts U := by
  obtain ⟨S, L, rfl, X, hL, hsz, hold, hout, hin⟩ := hI
  have hal : s.vm.Alike S.vm := X.warmed.alike
  obtain ⟨kQ₁, hkQ₁, heQ⟩ := hal.2.2 _ _ hkQ
  obtain ⟨kJ₁, hkJ₁, heJ⟩ := hal.2.2 _ _ hkJ
  have hQ₁ : kQ₁.kind = .array cJ (.array .long) := by rw [heQ]; exact hQ
  have hJ₁ : kJ₁.kind = .array pJ .long := by rw [heJ]; exact hJ
  have hNj : j * N + N ≤ 5 * N := by
    have : (j + 1) * N ≤ 5 * N := Nat.mul_le_mul_right N (by omega)
    rw [Nat.add_mul, Nat.one_mul] at this
    exact this
  obtain ⟨r1, r2⟩ := X.roomAbove (a := 1) (b := N) (by omega) (by omega)
  simp only [wp_bind']
  unfold Op.multianewarray.make
  simp only [wp_bind', W.ite, W.theClass, wp_pure']
  rw [if_neg hn]
  refine ⟨kJ₁, hkJ₁, ?_⟩
  rw [hJ₁]
  simp only
  rw [hN]
  refine mg_new (s := S.setTop g) hkJ₁ hJ₁ rfl (by rw [Launch.admits_arrayLengthLimit X.admits]; omega) (by rw [Launch.admits_maxHeapBytes X.admits]; show N * 8 ≤ _; omega) (by show S.heap.size < _; omega) (by show S.slotsUsed + N ≤ _; exact r2) (fun acts' => ?_)
  have hinner : ({ cls := cJ, slots := Array.replicate N (defaultValue .long), vm := .none } : Cell) = arrV cJ N (fun _ => .long 0) := arrV_new cJ N (.long 0)
  rw [hinner]
  have hlt : H.size < S.heap.size := by omega
  have hcell : (S.pushCell (arrV cJ N (fun _ => .long 0))).heap[H.size]? = some (mg_o cQ H.size j) := by
    show (S.heap.push _)[H.size]? = _
    rw [Array.getElem?_push, if_neg (Nat.ne_of_lt hlt)]
    exact hout
  have X1 := (X.pushed (arrV cJ N (fun _ => .long 0))).stored hcell j (.ref S.heap.size)
  simp only [wp_bind']
  refine (W.writeLoc _ _ _ _).mpr ?_
  refine ⟨mg_o cQ H.size j, hcell, fun z => (by cases z), (by show j < (arrV _ _ _).slots.size; rw [arrV_size]; exact hj), ?_, hq _ _ _ ?_⟩
  · show S.fitsSlot cQ .none j (.ref _) = true
    simp [State.fitsSlot, State.slotType?, hkQ₁, hQ₁, fits]
  · have hset : (mg_o cQ H.size j).setSlot j (.ref S.heap.size) = mg_o cQ H.size (j + 1) := by
      unfold mg_o
      rw [arrV_store]
      congr 1
      funext i
      by_cases hi : i = j
      · subst hi
        simp [updV, hsz]
      · simp only [updV, if_neg hi]
        by_cases h2 : i < j
        · rw [if_pos h2, if_pos (by omega)]
        · rw [if_neg h2, if_neg (by omega)]
    rw [hset] at X1
    refine ⟨(S.pushCell (arrV cJ N (fun _ => .long 0))).setCell H.size (mg_o cQ H.size (j + 1)), L ++ [⟨H.size, j⟩], by rw [← hset]; rfl, ?_, ?_, ?_, ?_, ?_, ?_⟩
    · rw [← List.append_assoc]
      have e1 : slots + 5 + (j + 1) * N = slots + 5 + j * N + (arrV cJ N (fun _ => Value.long 0)).slots.size := by rw [arrV_size, Nat.add_mul, Nat.one_mul]; omega
      rw [e1]
      exact X1
    · intro q hq2
      rcases List.mem_append.mp hq2 with h | h
      · exact hL q h
      · rw [List.mem_singleton.mp h]
    · show ((S.heap.push _).setIfInBounds _ _).size = _
      simp
      omega
    · intro q hq2
      show ((S.heap.push _).setIfInBounds _ _)[q]? = _
      rw [Array.getElem?_setIfInBounds, if_neg (by omega), Array.getElem?_push, if_neg (by omega)]
      exact hold q hq2
    · show ((S.heap.push _).setIfInBounds _ _)[H.size]? = _
      rw [Array.getElem?_setIfInBounds, if_pos rfl, if_pos (by simp; omega)]
    · intro i hi
      show ((S.heap.push _).setIfInBounds _ _)[_]? = _
      rw [Array.getElem?_setIfInBounds, if_neg (by omega), Array.getElem?_push]
      by_cases h2 : i = j
      · subst h2
        rw [if_pos (by omega)]
      · rw [if_neg (by omega)]
        exact hin i (by omega)
theorem mg_W {cc : ByteArray} {Q : State → Prop} (hexec : p.tables.exec = Jvm.exec) (hb : c.code = cc) {own : String} {index : Nat} (hown : s.vm.findClass own = some m.cls) (hclink : (Cond.classLink own index "[[J").before args s = true) {cQ cJ pJ : ClassId} {kQ kJ : Class} (hfQ : s.vm.findClass "[[J" = some cQ) (hkQ : s.vm.classes[cQ]? = some kQ) (hQ : kQ.kind = .array cJ (.array .long)) (hkJ : s.vm.classes[cJ]? = some kJ) (hJ : kJ.kind = .array pJ .long) {n : Int32} {N : Nat} (hn : ¬ n < 0) (hN : n.toNatClampNeg = N) (hNl : N ≤ 1000000) (hc : cells + 6 ≤ R.cells) (hs : slots + 5 + 5 * N ≤ R.slots)
    {g : JFrame} (hg : g.method = m) {rest : List Value} (hstack : g.stack = .int n :: .int (nI 5) :: rest) (hdg : decode cc g.pc = .ok (.multianewarray index 2, 4))
    (kk : ∀ (H1 : Heap) (L : List Loc), (∀ q ∈ L, q.base = H.size) → H1.size = H.size + 6 → (∀ q : Nat, q < H.size → H1[q]? = H[q]?) → H1[H.size]? = some (arrV cQ 5 (fun i => if i < 5 then .ref (H.size + 1 + i) else .null)) → (∀ i : Nat, i < 5 → H1[H.size + 1 + i]? = some (arrV cJ N (fun _ => .long 0))) →
      W p l e R s m args below meth c H1 (locs ++ L) (cells + 6) (slots + 5 + 5 * N) Q { g with pc := g.pc + 4, stack := .ref H.size :: rest }) : W p l e R s m args below meth c H locs cells slots Q g := by
  intro T hT X
  subst hT; subst hb; subst hg
  have hpl : e.platform.magicAccessors = ({} : Platform).magicAccessors := by rw [X.admits.platform]
  obtain ⟨cc', hfcc, hcl⟩ := Cond.classLink_spec hown hclink e.platform hpl
  cases hfQ.symm.trans hfcc
  obtain ⟨hg₁, hwarm₁, hready₁⟩ := State.classEntry (e := e) X.warmed hcl
  generalize T.vm.noted g.method.cls index (.cls cQ) = vm₁ at hg₁ hwarm₁ hready₁
  have X₁ := X.noted hwarm₁
  have hal : s.vm.Alike vm₁ := hwarm₁.alike
  obtain ⟨kQ₁, hkQ₁, heQ⟩ := hal.2.2 _ _ hkQ
  have hQ₁ : kQ₁.kind = .array cJ (.array .long) := by rw [heQ]; exact hQ
  obtain ⟨r1, r2⟩ := X.roomAbove (a := 6) (b := 5 + 5 * N) hc (by omega)
  have hs₁ : (T.setVm vm₁).topJava?.isSome := X₁.here.top
  have hs0 : T.topJava?.isSome := X.here.top
  -- what the whole instruction comes to
  have key : wp (Op.multianewarray.sem index 2) (fun _ _ _ U => ∃ (S : State) (L : List Loc), U = S.setTop { g with stack := .ref T.heap.size :: rest } ∧ Stand p l e R s g.method args below meth c S (locs ++ L) (cells + 6) (slots + 5 + 5 * N) ∧ (∀ q ∈ L, q.base = T.heap.size) ∧ S.heap.size = T.heap.size + 6 ∧ (∀ q : Nat, q < T.heap.size → S.heap[q]? = T.heap[q]?) ∧ S.heap[T.heap.size]? = some (mg_o cQ T.heap.size 5) ∧ ∀ i : Nat, i < 5 → S.heap[T.heap.size + 1 + i]? = some (arrV cJ N (fun _ => .long 0))) (fun _ _ _ => False) e false [] ((T.setVm vm₁).setTop g) := by
    simp only [Op.multianewarray.sem, wp_bind']
    rw [W.resolveClassAt_ready (s := (T.setVm vm₁).setTop g) (State.method?_setTop g hs₁) hready₁]
    simp only [wp_bind']
    rw [W.popN, if_neg (by decide)]
    refine ⟨g, State.topJava?_setTop' _ hs₁, [.int (nI 5), .int n], rest, rfl, by rw [hstack]; rfl, ?_⟩
    simp only [List.mapM_cons, List.mapM_nil, wp_bind', wp_pure', State.setTop_setTop]
    unfold Op.multianewarray.make
    simp only [wp_bind', W.ite, W.theClass, wp_pure']
    rw [if_neg (by decide)]
    refine ⟨kQ₁, hkQ₁, ?_⟩
    rw [hQ₁]
    simp only [wp_bind']
    have e5 : (nI 5).toNatClampNeg = 5 := by decide
    rw [e5]
    refine mg_new (s := (T.setVm vm₁).setTop { g with stack := rest }) hkQ₁ hQ₁ rfl (by rw [Launch.admits_arrayLengthLimit X.admits]; decide) (by rw [Launch.admits_maxHeapBytes X.admits]; decide) (by show T.heap.size < _; omega) (by show T.slotsUsed + 5 ≤ _; omega) (fun acts' => ?_)
    rw [if_neg (by decide)]
    simp only [wp_bind', Std.Legacy.Range.forIn_eq_forIn_range']
    refine wp_forIn_inv (fun rs U => ∃ j, j ≤ 5 ∧ rs = List.range' j (5 - j) ∧ mg_I p l e R s g.method args below meth c T.heap locs cells slots cQ cJ N { g with stack := rest } j U) _ _ ⟨0, by decide, rfl, ?_⟩ ?_ ?_
    · have X2 := X₁.pushed (arrV cQ 5 (fun _ => .null))
      refine ⟨(T.setVm vm₁).pushCell (arrV cQ 5 (fun _ => .null)), [], ?_, ?_, fun q h => (by cases h), ?_, ?_, ?_, fun i hi => absurd hi (Nat.not_lt_zero i)⟩
      · rw [← arrV_new]
        rfl
      · rw [List.append_nil]
        rw [arrV_size] at X2
        simpa using X2
      · show (T.heap.push _).size = _
        simp
      · intro q hq
        show (T.heap.push _)[q]? = _
        rw [Array.getElem?_push, if_neg (Nat.ne_of_lt hq)]
      · show (T.heap.push _)[T.heap.size]? = _
        rw [Array.getElem?_push, if_pos rfl]
        rfl
    · intro x rs U d' acts2 Q' hI hq
      obtain ⟨j, hj, hrs, hI⟩ := hI
      have hj5 : j < 5 := by
        rcases Nat.lt_or_ge j 5 with q | q
        · exact q
        · have : j = 5 := by omega
          subst this
          cases hrs
      obtain ⟨r, hr⟩ : ∃ r, 5 - j = r + 1 := ⟨4 - j, by omega⟩
      rw [hr, List.range'_succ] at hrs
      cases hrs
      exact mg_row hkQ hQ hkJ hJ hn hN hNl hj5 hc hs hI (fun U' d2 acts3 h => hq U' d2 acts3 ⟨x + 1, by omega, by rw [show 5 - (x + 1) = r by omega], h⟩)
    · intro U d' acts2 hI
      obtain ⟨j, hj, hrs, S, L, rfl, X5, hL, hsz, hold, hout, hin⟩ := hI
      have hj5 : j = 5 := by
        have h0 := congrArg List.length hrs
        simp at h0
        omega
      subst hj5
      simp only [wp_bind', wp_pure', W.mark, W.pushRef]
      refine ⟨_, State.topJava?_setTop' _ X5.here.top, S, L, by rw [State.setTop_setTop]; rfl, X5, hL, hsz, hold, hout, hin⟩
  have hw : wpRun (Op.multianewarray.sem index 2) (fun _ U _ => ∃ (S : State) (L : List Loc), U = S.setTop { g with stack := .ref T.heap.size :: rest } ∧ Stand p l e R s g.method args below meth c S (locs ++ L) (cells + 6) (slots + 5 + 5 * N) ∧ (∀ q ∈ L, q.base = T.heap.size) ∧ S.heap.size = T.heap.size + 6 ∧ (∀ q : Nat, q < T.heap.size → S.heap[q]? = T.heap[q]?) ∧ S.heap[T.heap.size]? = some (mg_o cQ T.heap.size 5) ∧ ∀ i : Nat, i < 5 → S.heap[T.heap.size + 1 + i]? = some (arrV cJ N (fun _ => .long 0))) (fun _ _ _ => False) e (T.setTop g) := by
    unfold wpRun
    have tr : ∀ {Q2 : Unit → Pre} {E2 : CtlPost}, wp (Op.multianewarray.sem index 2) Q2 E2 e false [] (T.setTop g) ↔ wp (Op.multianewarray.sem index 2) Q2 E2 e false [] ((T.setVm vm₁).setTop g) := by
      intro Q2 E2
      simp only [Op.multianewarray.sem, wp_bind']
      exact W.resolveClassAt_transfer (s := T.setTop g) (State.method?_setTop g hs0) hg₁ hready₁
    exact tr.mpr key
  have hrun := (wpRun_iff_run _ _ _ _ _).mp hw
  cases hr : (Op.multianewarray.sem index 2).run e (T.setTop g) with
  | ok a s₁ acts =>
    rw [hr] at hrun
    obtain ⟨S, L, rfl, X5, hL, hsz, hold, hout, hin⟩ := hrun
    obtain ⟨t', a1, b1⟩ := kk S.heap L hL hsz hold hout hin S rfl X5
    refine ⟨t', ?_, b1⟩
    refine Steps.instr (c := c) (by simpa using X.here) ?_
    rw [hdg]
    show wpRun (p.tables.exec (.multianewarray index 2)) _ _ e (T.setTop g)
    rw [hexec]
    refine (wpRun_iff_run _ _ _ _ _).mpr ?_
    rw [show Jvm.exec (.multianewarray index 2) = Op.multianewarray.sem index 2 from rfl, hr]
    intro acts2
    rw [afterInstr_ok]
    exact a1
  | ctl x s₁ acts =>
    rw [hr] at hrun
    cases x <;> exact hrun.elim
end MG3
/-- five rows of n longs at the places a, a + 1 .. a + 4, the array of them at k -/
def mx_g5 (a : Nat) : Nat → Option Nat := fun j => if j < 5 then some (a + j) else none
def mx_rows (F : mx_F) (a n : Nat) : mx_F := mx_put (mx_put (mx_put (mx_put (mx_put F a (mx_la n (fun _ => 0))) (a + 1) (mx_la n (fun _ => 0))) (a + 2) (mx_la n (fun _ => 0))) (a + 3) (mx_la n (fun _ => 0))) (a + 4) (mx_la n (fun _ => 0))
def mx_newg (k a mc ms nx : Nat) : mx_O := fun lv st F ca sl K => ∃ (n : Nat) (r : mx_S), st = .inl (nI n) :: .inl (nI 5) :: r ∧ Nat.ble n 1000000 = true ∧ (∀ q, (q = k ∨ (a ≤ q ∧ q < a + 5)) → F q = none ∧ mx_no q F ∧ mx_nrL q lv = true ∧ mx_nrS q r = true) ∧ (k < a ∨ a + 5 ≤ k) ∧ Nat.ble (ca + 6) mc = true ∧ Nat.ble (sl + 5 + 5 * n) ms = true ∧ K nx lv (mx_r k :: r) (mx_put (mx_rows F a n) k (mx_qa 2 5 (mx_g5 a))) (ca + 6) (sl + 5 + 5 * n)
/-- the addresses behind it -/
def mg_ad (ad : Nat → Nat) (k a h : Nat) : Nat → Nat := fun q => if q = k then h else if a ≤ q ∧ q < a + 5 then h + 1 + (q - a) else ad q
theorem mx_rows_or {F : mx_F} {a n j : Nat} {x : mx_E} (h : mx_rows F a n j = some x) : ((a ≤ j ∧ j < a + 5) ∧ x = mx_la n (fun _ => 0)) ∨ (¬ (a ≤ j ∧ j < a + 5) ∧ F j = some x) := by
  unfold mx_rows at h
  rcases mx_put_or h with ⟨e1, e2⟩ | ⟨n1, h⟩
  · exact Or.inl ⟨by omega, e2⟩
  rcases mx_put_or h with ⟨e1, e2⟩ | ⟨n2, h⟩
  · exact Or.inl ⟨by omega, e2⟩
  rcases mx_put_or h with ⟨e1, e2⟩ | ⟨n3, h⟩
  · exact Or.inl ⟨by omega, e2⟩
  rcases mx_put_or h with ⟨e1, e2⟩ | ⟨n4, h⟩
  · exact Or.inl ⟨by omega, e2⟩
  rcases mx_put_or h with ⟨e1, e2⟩ | ⟨n5, h⟩
  · exact Or.inl ⟨by omega, e2⟩
  exact Or.inr ⟨by omega, h⟩
theorem mg_v {ad tb : Nat → Nat} {k a h : Nat} {v : mx_V} (hk : v ≠ mx_r k) (ha : ∀ q, a ≤ q → q < a + 5 → v ≠ mx_r q) : mx_v (mg_ad ad k a h) tb v = mx_v ad tb v := by
  rcases v with x | x | (_ | x) | x
  · rfl
  · rfl
  · rfl
  · have h1 : x ≠ k := fun z => hk (by rw [z])
    have h2 : ¬ (a ≤ x ∧ x < a + 5) := fun z => ha x z.1 z.2 rfl
    show Value.ref (mg_ad ad k a h x) = Value.ref (ad x)
    unfold mg_ad
    rw [if_neg h1, if_neg h2]
  · rfl
theorem mg_e {tc : Nat → ClassId} {ad tb : Nat → Nat} {k a h : Nat} {x : mx_E} (hk : mx_noE k x) (ha : ∀ q, a ≤ q → q < a + 5 → mx_noE q x) : mx_e tc (mg_ad ad k a h) tb x = mx_e tc ad tb x := by
  rcases x with ⟨t, n, f⟩ | ⟨t, n, f⟩ | ⟨t, n, f⟩ | ⟨ci, fs⟩
  · rfl
  · rfl
  · have h2 : (fun j => (f j).map (mg_ad ad k a h)) = (fun j => (f j).map ad) := by
      funext j
      cases hj : f j with
      | none => rfl
      | some z =>
        have h1 : z ≠ k := fun w => hk j (by rw [hj, w])
        have h3 : ¬ (a ≤ z ∧ z < a + 5) := fun w => ha z w.1 w.2 j hj
        show some (mg_ad ad k a h z) = some (ad z)
        unfold mg_ad
        rw [if_neg h1, if_neg h3]
    show (Sum.inl (tc t, n, Sum.inr (Sum.inr (Sum.inr (Sum.inr (fun j => (f j).map (mg_ad ad k a h)))))) : va_E) = _
    rw [h2]
    rfl
  · have h2 : fs.map (mx_v (mg_ad ad k a h) tb) = fs.map (mx_v ad tb) := List.map_congr_left fun v hv => mg_v (hk v hv) (fun q q1 q2 => ha q q1 q2 v hv)
    show (Sum.inr (ci, fs.map (mx_v (mg_ad ad k a h) tb)) : va_E) = _
    rw [h2]
    rfl
section MG4
variable {p : Program} {l : Launch} {e : Env} {R : Room} {s : State} {m : MethodId} {args : Array Value} {below : List Frame} {meth : Method} {c : Code} {Q : State → Prop} {cc : ByteArray} {own : String} {Ts : List Cond} {D : va_G} {tc : Nat → ClassId} {tb : Nat → Nat} {A : Nat → Prop} {nL : Nat} {Ok : (Nat → Nat) → mx_F → Prop} {pc : Nat}
theorem mx_s_newg (C : mx_C p s m args c cc own Ts D tc tb A nL Ok) (hUp : ∀ (ad ad' : Nat → Nat) (F F' : mx_F), mx_Ok1 ad F ad' F' → Ok ad F → Ok ad' F') {k a i mc ms : Nat} (hcl : Jvm.Cond.classLink own i "[[J" ∈ Ts) (hd : decode cc pc = .ok (.multianewarray i 2, 4)) (hR : mc ≤ R.cells ∧ ms ≤ R.slots) : mx_So (mx_W p l e R s m args below meth c Q D tc tb A nL Ok) pc (mx_newg k a mc ms (pc + 4)) := by
  obtain ⟨hx, hb, hml, hown, hts, hK, hA, hZ, hOk⟩ := C
  intro lv st F ca sl h
  obtain ⟨n, r, rfl, hn, hfr, hka, g1, g2, h⟩ := h
  have hn := Nat.le_of_ble_eq_true hn
  have g1 := Nat.le_of_ble_eq_true g1
  have g2 := Nat.le_of_ble_eq_true g2
  intro ad H locs ls h1 hP hD hS hl
  obtain ⟨hAQ, hFQ⟩ := hK.2 2 _ (mx_t_get rfl)
  obtain ⟨hAJ, hFJ⟩ := hK.2 1 _ (mx_t_get rfl)
  obtain ⟨-, kJ, hkJ, pJ, hJ⟩ := hAJ 0 (fun _ => .null)
  obtain ⟨cQ, cJ, kQ, f1, f2, hkQ, hQ⟩ := hZ.2.2.2
  have eQ : cQ = tc 2 := Option.some.inj (f1.symm.trans hFQ)
  have eJ : cJ = tc 1 := Option.some.inj (f2.symm.trans hFJ)
  subst eQ
  subst eJ
  have hfk := hfr k (Or.inl rfl)
  have hfa : ∀ q, a ≤ q → q < a + 5 → F q = none ∧ mx_no q F ∧ mx_nrL q lv = true ∧ mx_nrS q r = true := fun q q1 q2 => hfr q (Or.inr ⟨q1, q2⟩)
  refine mg_W (cQ := tc 2) (cJ := tc 1) (n := nI n) (N := n) hx hb hown (hts _ hcl) f1 hkQ hQ hkJ hJ (nI_pos (by omega)) (nI_clamp (by omega)) hn (by omega) (by omega) rfl rfl hd (fun H1 L hL z1 o1 e1 er => ?_)
  have adk : mg_ad ad k a H.size k = H.size := if_pos rfl
  have ada : ∀ q, a ≤ q → q < a + 5 → mg_ad ad k a H.size q = H.size + 1 + (q - a) := by
    intro q q1 q2
    unfold mg_ad
    rw [if_neg (by omega), if_pos ⟨q1, q2⟩]
  have ado : ∀ q, q ≠ k → ¬ (a ≤ q ∧ q < a + 5) → mg_ad ad k a H.size q = ad q := by
    intro q q1 q2
    unfold mg_ad
    rw [if_neg q1, if_neg q2]
  have hold : ∀ (j : Nat) (x : mx_E), F j = some x → j ≠ k ∧ ¬ (a ≤ j ∧ j < a + 5) ∧ ad j < H.size := by
    intro j x hj
    refine ⟨fun z => ?_, fun z => ?_, (hP j x hj).lt⟩
    · rw [z, hfk.1] at hj
      cases hj
    · rw [(hfa j z.1 z.2).1] at hj
      cases hj
  have hP1 : mx_P D tc (mg_ad ad k a H.size) tb (mx_put (mx_rows F a n) k (mx_qa 2 5 (mx_g5 a))) H1 := by
    intro j x hx2
    rcases mx_put_or hx2 with ⟨ej, ex⟩ | ⟨hjk, hx2⟩
    · subst ej
      subst ex
      rw [adk]
      show H1[H.size]? = some (vp_cell _ _)
      rw [e1]
      congr 1
      show arrV _ _ _ = arrV (tc 2) 5 (fun i => va_rf ((mx_g5 a i).map (mg_ad ad j a H.size)))
      congr 1
      funext i
      by_cases hi : i < 5
      · rw [if_pos hi]
        unfold mx_g5
        rw [if_pos hi]
        show _ = Value.ref (mg_ad ad j a H.size (a + i))
        rw [ada (a + i) (by omega) (by omega), show a + i - a = i by omega]
      · rw [if_neg hi]
        unfold mx_g5
        rw [if_neg hi]
        rfl
    · rcases mx_rows_or hx2 with ⟨⟨q1, q2⟩, ex⟩ | ⟨hno2, hx2⟩
      · subst ex
        rw [ada j q1 q2]
        exact er (j - a) (by omega)
      · rw [ado j hjk hno2, mg_e (hfk.2.1 j x hx2) (fun q q1 q2 => (hfa q q1 q2).2.1 j x hx2)]
        exact (hP j x hx2).kept (o1 _ (hold j x hx2).2.2)
  have cls : ∀ (j : Nat) (x : mx_E), mx_put (mx_rows F a n) k (mx_qa 2 5 (mx_g5 a)) j = some x → (j = k ∧ mg_ad ad k a H.size j = H.size) ∨ ((a ≤ j ∧ j < a + 5) ∧ mg_ad ad k a H.size j = H.size + 1 + (j - a)) ∨ (∃ y, F j = some y ∧ mg_ad ad k a H.size j = ad j ∧ ad j < H.size) := by
    intro j x hx2
    rcases mx_put_or hx2 with ⟨ej, ex⟩ | ⟨hjk, hx2⟩
    · exact Or.inl ⟨ej, by rw [ej]; exact adk⟩
    · rcases mx_rows_or hx2 with ⟨⟨q1, q2⟩, ex⟩ | ⟨hno2, hx2⟩
      · exact Or.inr (Or.inl ⟨⟨q1, q2⟩, ada j q1 q2⟩)
      · exact Or.inr (Or.inr ⟨x, hx2, ado j hjk hno2, (hold j x hx2).2.2⟩)
  have hD1 : mx_D A (mg_ad ad k a H.size) (mx_put (mx_rows F a n) k (mx_qa 2 5 (mx_g5 a))) := by
    refine ⟨fun i j x y hx2 hy2 hij => ?_, fun j x hx2 => ?_⟩
    · rcases cls i x hx2 with ⟨a1, a2⟩ | ⟨a1, a2⟩ | ⟨x', a1, a2, a3⟩ <;> rcases cls j y hy2 with ⟨b1, b2⟩ | ⟨b1, b2⟩ | ⟨y', b1, b2, b3⟩ <;> rw [a2, b2] at hij
      · omega
      · omega
      · omega
      · omega
      · omega
      · omega
      · omega
      · omega
      · exact hD.1 i j x' y' a1 b1 hij
    · rcases cls j x hx2 with ⟨a1, a2⟩ | ⟨a1, a2⟩ | ⟨x', a1, a2, a3⟩ <;> rw [a2]
      · exact hA _ hS.1
      · exact hA _ (by have := hS.1; omega)
      · exact hD.2 j x' a1
  have hin : mx_in F (mx_put (mx_rows F a n) k (mx_qa 2 5 (mx_g5 a))) := by
    unfold mx_rows
    exact mx_in_tr (mx_in_tr (mx_in_tr (mx_in_tr (mx_in_tr (mx_in_put F a _) (mx_in_put _ _ _)) (mx_in_put _ _ _)) (mx_in_put _ _ _)) (mx_in_put _ _ _)) (mx_in_put _ _ _)
  have h2 := h (mg_ad ad k a H.size) H1 (locs ++ L) ls (hUp ad _ F _ ⟨fun q y hy => ado q (hold q y hy).1 (hold q y hy).2.1, hin⟩ h1) hP1 hD1 ⟨Nat.le_trans hS.1 (by omega), fun x q1 q2 => (o1 x (Nat.lt_of_lt_of_le q1 hS.1)).trans (hS.2.1 x q1 q2), fun q hq => by
      rcases List.mem_append.mp hq with w | w
      · exact hS.2.2 q w
      · rw [hL q w]
        exact hA _ hS.1⟩ (mx_H_same (fun v hv => mg_v (mx_nrL_ok hfk.2.2.1 v hv) (fun q q1 q2 => mx_nrL_ok (hfa q q1 q2).2.2.1 v hv)) hl)
  rw [List.map_cons, mx_st_same (ad := ad) (fun v hv => mg_v (mx_nrS_ok hfk.2.2.2 v hv) (fun q q1 q2 => mx_nrS_ok (hfa q q1 q2).2.2.2 v hv))] at h2
  have e5 : mx_v (mg_ad ad k a H.size) tb (mx_r k) = .ref H.size := by
    show Value.ref (mg_ad ad k a H.size k) = _
    rw [adk]
  rw [e5] at h2
  exact h2
end MG4
end
section
-- LadderWords$Row.add(I)Z
/-- a letter that comes: refused, or kept -/
abbrev uc (n : Nat) (u : Int32) : Prop := u < nI 97 ∨ nI 122 < u ∨ nI 12 ≤ nI n
def sp_R_add : mx_Sp := fun As F P => ∃ (n : Nat) (f : Nat → Int32) (u : Int32), As = [mx_r 1, mx_i u] ∧ F 1 = some (e_R n) ∧ F 2 = some (mx_ia 12 f) ∧ n ≤ 12 ∧ (uc n u → P (some (mx_i (nI 0))) F) ∧ (¬ uc n u → P (some (mx_i (nI 1))) (mx_put (mx_put F 2 (mx_ia 12 (upd f n u))) 1 (e_R (n + 1))))
theorem d_R_add_0 : decode c_R_add 0 = .ok (.iload_n 1, 1) := by decide +kernel
theorem d_R_add_1 : decode c_R_add 1 = .ok (.bipush 97, 2) := by decide +kernel
theorem d_R_add_3 : decode c_R_add 3 = .ok (.if_icmp .lt 21, 3) := by decide +kernel
theorem d_R_add_6 : decode c_R_add 6 = .ok (.iload_n 1, 1) := by decide +kernel
theorem d_R_add_7 : decode c_R_add 7 = .ok (.bipush 122, 2) := by decide +kernel
theorem d_R_add_9 : decode c_R_add 9 = .ok (.if_icmp .gt 15, 3) := by decide +kernel
theorem d_R_add_12 : decode c_R_add 12 = .ok (.aload_n 0, 1) := by decide +kernel
theorem d_R_add_13 : decode c_R_add 13 = .ok (.getfield 15, 3) := by decide +kernel
theorem d_R_add_16 : decode c_R_add 16 = .ok (.aload_n 0, 1) := by decide +kernel
theorem d_R_add_17 : decode c_R_add 17 = .ok (.getfield 9, 3) := by decide +kernel
theorem d_R_add_20 : decode c_R_add 20 = .ok (.arraylength, 1) := by decide +kernel
theorem d_R_add_21 : decode c_R_add 21 = .ok (.if_icmp .lt 5, 3) := by decide +kernel
theorem d_R_add_24 : decode c_R_add 24 = .ok (.iconst 0, 1) := by decide +kernel
theorem d_R_add_25 : decode c_R_add 25 = .ok (.ireturn, 1) := by decide +kernel
theorem d_R_add_26 : decode c_R_add 26 = .ok (.aload_n 0, 1) := by decide +kernel
theorem d_R_add_27 : decode c_R_add 27 = .ok (.getfield 9, 3) := by decide +kernel
theorem d_R_add_30 : decode c_R_add 30 = .ok (.aload_n 0, 1) := by decide +kernel
theorem d_R_add_31 : decode c_R_add 31 = .ok (.getfield 15, 3) := by decide +kernel
theorem d_R_add_34 : decode c_R_add 34 = .ok (.iload_n 1, 1) := by decide +kernel
theorem d_R_add_35 : decode c_R_add 35 = .ok (.iastore, 1) := by decide +kernel
theorem d_R_add_36 : decode c_R_add 36 = .ok (.aload_n 0, 1) := by decide +kernel
theorem d_R_add_37 : decode c_R_add 37 = .ok (.dup, 1) := by decide +kernel
theorem d_R_add_38 : decode c_R_add 38 = .ok (.getfield 15, 3) := by decide +kernel
theorem d_R_add_41 : decode c_R_add 41 = .ok (.iconst 1, 1) := by decide +kernel
theorem d_R_add_42 : decode c_R_add 42 = .ok (.iadd, 1) := by decide +kernel
theorem d_R_add_43 : decode c_R_add 43 = .ok (.putfield 15, 3) := by decide +kernel
theorem d_R_add_46 : decode c_R_add 46 = .ok (.iconst 1, 1) := by decide +kernel
theorem d_R_add_47 : decode c_R_add 47 = .ok (.ireturn, 1) := by decide +kernel
abbrev w_R_add : List Cond := mx_ws y_R_add c_R_add 2 (some .boolean)
abbrev rm_R_add : Room := { frames := 10, cells := 0, slots := 0, locals := 200 }
def t_R_add  (P : Option mx_V → mx_F → Prop) : List (Nat × mx_O) := [
  (0, mx_iload 1 1),
  (1, mx_push (.inl (nI 97)) 3),
  (3, mx_ic_lt 24 6),
  (6, mx_iload 1 7),
  (7, mx_push (.inl (nI 122)) 9),
  (9, mx_ic_gt 24 12),
  (12, mx_aload 0 13),
  (13, mx_get 3 1 16),
  (16, mx_aload 0 17),
  (17, mx_get 3 0 20),
  (20, mx_alen 21),
  (21, mx_ic_lt 26 24),
  (24, mx_push (.inl (nI 0)) 25),
  (25, mx_zret P),
  (26, mx_aload 0 27),
  (27, mx_get 3 0 30),
  (30, mx_aload 0 31),
  (31, mx_get 3 1 34),
  (34, mx_iload 1 35),
  (35, mx_iast 36),
  (36, mx_aload 0 37),
  (37, mx_dup 38),
  (38, mx_get 3 1 41),
  (41, mx_push (.inl (nI 1)) 42),
  (42, mx_iadd 43),
  (43, mx_puti 3 1 46),
  (46, mx_push (.inl (nI 1)) 47),
  (47, mx_zret P)]
set_option maxRecDepth 20000 in
theorem a_R_add  {p : Program} {l : Launch} {e : Env} {s : State} {m : MethodId} {args : Array Value} {below : List Frame} {meth : Method} {c : Code} {D : va_G} {tc : Nat → ClassId} {tb : Nat → Nat} {sz : Nat} {a0 : Nat → Nat} {G : mx_F} {P : Option mx_V → mx_F → Prop}  (C : mx_C p s m args c c_R_add y_R_add.cls w_R_add D tc tb (mx_A a0 G sz) 2 (mx_Ok0 a0 G)) (hr : meth.sig.returnType = (some .boolean)) (hlk : meth.locks = false) : mx_all (mx_W p l e rm_R_add s m args below meth c (MQ below (mx_Q D tc tb a0 G sz P) args s 0 0 (mx_A a0 G sz)) D tc tb (mx_A a0 G sz) 2 (mx_Ok0 a0 G)) (t_R_add  P) :=
  ⟨mx_s_iload_n C d_R_add_0 rfl,
  mx_s_bipush C d_R_add_1 (by decide),
  mx_s_ic_lt C d_R_add_3 (by decide),
  mx_s_iload_n C d_R_add_6 rfl,
  mx_s_bipush C d_R_add_7 (by decide),
  mx_s_ic_gt C d_R_add_9 (by decide),
  mx_s_aload_n C d_R_add_12 rfl,
  mx_s_get (T := T_R) (N := 2) (k := 1) C (fun w h => List.mem_cons_of_mem _ (in_R w h)) rfl (by decide) (List.mem_cons_of_mem _ (mx_in0 (by decide +kernel) rfl)) rfl d_R_add_13,
  mx_s_aload_n C d_R_add_16 rfl,
  mx_s_get (T := T_R) (N := 2) (k := 0) C (fun w h => List.mem_cons_of_mem _ (in_R w h)) rfl (by decide) (List.mem_cons_of_mem _ (mx_in0 (by decide +kernel) rfl)) rfl d_R_add_17,
  mx_s_alen C d_R_add_20,
  mx_s_ic_lt C d_R_add_21 (by decide),
  mx_s_iconst C d_R_add_24 (by decide),
  mx_s_zret C hr hlk d_R_add_25,
  mx_s_aload_n C d_R_add_26 rfl,
  mx_s_get (T := T_R) (N := 2) (k := 0) C (fun w h => List.mem_cons_of_mem _ (in_R w h)) rfl (by decide) (List.mem_cons_of_mem _ (mx_in0 (by decide +kernel) rfl)) rfl d_R_add_27,
  mx_s_aload_n C d_R_add_30 rfl,
  mx_s_get (T := T_R) (N := 2) (k := 1) C (fun w h => List.mem_cons_of_mem _ (in_R w h)) rfl (by decide) (List.mem_cons_of_mem _ (mx_in0 (by decide +kernel) rfl)) rfl d_R_add_31,
  mx_s_iload_n C d_R_add_34 rfl,
  mx_s_iast C d_R_add_35,
  mx_s_aload_n C d_R_add_36 rfl,
  mx_s_dup C d_R_add_37,
  mx_s_get (T := T_R) (N := 2) (k := 1) C (fun w h => List.mem_cons_of_mem _ (in_R w h)) rfl (by decide) (List.mem_cons_of_mem _ (mx_in0 (by decide +kernel) rfl)) rfl d_R_add_38,
  mx_s_iconst C d_R_add_41 (by decide),
  mx_s_iadd C d_R_add_42,
  mx_s_puti (T := T_R) (N := 2) (k := 1) C (fun w h => List.mem_cons_of_mem _ (in_R w h)) rfl ty_R ok_R nm_R (by decide) (List.mem_cons_of_mem _ (mx_in0 (by decide +kernel) rfl)) rfl rfl (ok_R 1 (by decide)) d_R_add_43,
  mx_s_iconst C d_R_add_46 (by decide),
  mx_s_zret C hr hlk d_R_add_47,
  trivial⟩
set_option maxRecDepth 20000 in
set_option maxHeartbeats 2000000 in
theorem m_R_add (l : Launch) : mx_M l y_R_add w_R_add rm_R_add sp_R_add := by
  intro D tc tb ad As F P sz0 h
  obtain ⟨n, f, u, rfl, h1, h2, hn, hz, ho⟩ := h
  refine mx_run (cc := c_R_add) (maxL := 2) (ret := (some .boolean)) (tab := t_R_add  P) (by decide) rfl D tc tb ad _ F P sz0 (Nat.le_of_ble_eq_true rfl) (fun p e s m args below meth c C hr hlk => a_R_add  C hr hlk) ?_
  intro Rr go
  have hF := mx_as2 h1 h2
  rw [hF]
  have z : uc n u → Rr 24 [some (mx_r 1), some (mx_i u)] [] (mx_put (mx_put F 1 (e_R n)) 2 (mx_ia 12 f)) 0 0 := by
    intro hc
    refine go rfl ?_
    refine go rfl ⟨_, rfl, rfl, rfl, (Or.inl rfl), ?_⟩
    rw [← hF]
    exact hz hc
  refine go rfl ⟨_, rfl, ?_⟩
  refine go rfl ?_
  refine go rfl ⟨_, _, _, rfl, fun c1 => ?_, fun c1 => ?_⟩
  · exact z (Or.inl c1)
  refine go rfl ⟨_, rfl, ?_⟩
  refine go rfl ?_
  refine go rfl ⟨_, _, _, rfl, fun c2 => ?_, fun c2 => ?_⟩
  · exact z (Or.inr (Or.inl c2))
  refine go rfl ⟨_, rfl, ?_⟩
  refine go rfl ⟨_, _, _, _, rfl, rfl, rfl, ?_⟩
  refine go rfl ⟨_, rfl, ?_⟩
  refine go rfl ⟨_, _, _, _, rfl, rfl, rfl, ?_⟩
  refine go rfl ⟨_, _, _, _, rfl, rfl, ?_⟩
  refine go rfl ⟨_, _, _, rfl, fun c3 => ?_, fun c3 => ?_⟩
  · have hlt : n < 12 := (nI_ltI (by omega) (by omega)).mp c3
    refine go rfl ⟨_, rfl, ?_⟩
    refine go rfl ⟨_, _, _, _, rfl, rfl, rfl, ?_⟩
    refine go rfl ⟨_, rfl, ?_⟩
    refine go rfl ⟨_, _, _, _, rfl, rfl, rfl, ?_⟩
    refine go rfl ⟨_, rfl, ?_⟩
    refine go rfl ⟨_, _, _, _, _, _, rfl, rfl, (vp_in_nI hlt (by omega)), ?_⟩
    rw [nI_clamp (by omega)]
    refine go rfl ⟨_, rfl, ?_⟩
    refine go rfl ⟨_, _, rfl, rfl, ?_⟩
    refine go rfl ⟨_, _, _, _, rfl, rfl, rfl, ?_⟩
    refine go rfl ?_
    refine go rfl ⟨_, _, _, rfl, ?_⟩
    rw [nI_add]
    refine go rfl ⟨_, _, _, _, rfl, rfl, (Nat.le_of_ble_eq_true rfl), ?_⟩
    refine go rfl ?_
    refine go rfl ⟨_, rfl, rfl, rfl, (Or.inr rfl), ?_⟩
    rw [← hF]
    refine ho (fun hc => ?_)
    rcases hc with hc | hc | hc
    · exact c1 hc
    · exact c2 hc
    · exact absurd ((nI_leI (by omega) (by omega)).mp hc) (by omega)
  · exact z (Or.inr (Or.inr (Int32.not_lt.mp c3)))
-- LadderWords$Row.clear()V
def sp_R_clear : mx_Sp := fun As F P => ∃ n : Nat, As = [mx_r 1] ∧ F 1 = some (e_R n) ∧ P none (mx_put F 1 (e_R 0))
theorem d_R_clear_0 : decode c_R_clear 0 = .ok (.aload_n 0, 1) := by decide +kernel
theorem d_R_clear_1 : decode c_R_clear 1 = .ok (.iconst 0, 1) := by decide +kernel
theorem d_R_clear_2 : decode c_R_clear 2 = .ok (.putfield 15, 3) := by decide +kernel
theorem d_R_clear_5 : decode c_R_clear 5 = .ok (.return_, 1) := by decide +kernel
abbrev w_R_clear : List Cond := mx_ws y_R_clear c_R_clear 1 none
abbrev rm_R_clear : Room := { frames := 10, cells := 0, slots := 0, locals := 200 }
def t_R_clear  (P : Option mx_V → mx_F → Prop) : List (Nat × mx_O) := [
  (0, mx_aload 0 1),
  (1, mx_push (.inl (nI 0)) 2),
  (2, mx_puti 3 1 5),
  (5, mx_ret P)]
set_option maxRecDepth 20000 in
theorem a_R_clear  {p : Program} {l : Launch} {e : Env} {s : State} {m : MethodId} {args : Array Value} {below : List Frame} {meth : Method} {c : Code} {D : va_G} {tc : Nat → ClassId} {tb : Nat → Nat} {sz : Nat} {a0 : Nat → Nat} {G : mx_F} {P : Option mx_V → mx_F → Prop}  (C : mx_C p s m args c c_R_clear y_R_clear.cls w_R_clear D tc tb (mx_A a0 G sz) 1 (mx_Ok0 a0 G)) (hr : meth.sig.returnType = none) (hlk : meth.locks = false) : mx_all (mx_W p l e rm_R_clear s m args below meth c (MQ below (mx_Q D tc tb a0 G sz P) args s 0 0 (mx_A a0 G sz)) D tc tb (mx_A a0 G sz) 1 (mx_Ok0 a0 G)) (t_R_clear  P) :=
  ⟨mx_s_aload_n C d_R_clear_0 rfl,
  mx_s_iconst C d_R_clear_1 (by decide),
  mx_s_puti (T := T_R) (N := 2) (k := 1) C (fun w h => List.mem_cons_of_mem _ (in_R w h)) rfl ty_R ok_R nm_R (by decide) (List.mem_cons_of_mem _ (mx_in0 (by decide +kernel) rfl)) rfl rfl (ok_R 1 (by decide)) d_R_clear_2,
  mx_s_ret C hr hlk d_R_clear_5,
  trivial⟩
set_option maxRecDepth 20000 in
set_option maxHeartbeats 2000000 in
theorem m_R_clear (l : Launch) : mx_M l y_R_clear w_R_clear rm_R_clear sp_R_clear := by
  intro D tc tb ad As F P sz0 h
  obtain ⟨n, rfl, h1, hp⟩ := h
  refine mx_run (cc := c_R_clear) (maxL := 1) (ret := none) (tab := t_R_clear  P) (by decide) rfl D tc tb ad _ F P sz0 (Nat.le_of_ble_eq_true rfl) (fun p e s m args below meth c C hr hlk => a_R_clear  C hr hlk) ?_
  intro Rr go
  have hF := mx_as1 h1
  rw [hF]
  refine go rfl ⟨_, rfl, ?_⟩
  refine go rfl ?_
  refine go rfl ⟨_, _, _, _, rfl, rfl, (Nat.le_of_ble_eq_true rfl), ?_⟩
  refine go rfl ⟨rfl, rfl, rfl, ?_⟩
  rw [← hF]
  exact hp
-- LadderWords$Row.length()I
def sp_R_length : mx_Sp := fun As F P => ∃ n : Nat, As = [mx_r 1] ∧ F 1 = some (e_R n) ∧ P (some (mx_i (nI n))) F
theorem d_R_length_0 : decode c_R_length 0 = .ok (.aload_n 0, 1) := by decide +kernel
theorem d_R_length_1 : decode c_R_length 1 = .ok (.getfield 15, 3) := by decide +kernel
theorem d_R_length_4 : decode c_R_length 4 = .ok (.ireturn, 1) := by decide +kernel
abbrev w_R_length : List Cond := mx_ws y_R_length c_R_length 1 (some .int)
abbrev rm_R_length : Room := { frames := 10, cells := 0, slots := 0, locals := 200 }
def t_R_length  (P : Option mx_V → mx_F → Prop) : List (Nat × mx_O) := [
  (0, mx_aload 0 1),
  (1, mx_get 3 1 4),
  (4, mx_iret P)]
set_option maxRecDepth 20000 in
theorem a_R_length  {p : Program} {l : Launch} {e : Env} {s : State} {m : MethodId} {args : Array Value} {below : List Frame} {meth : Method} {c : Code} {D : va_G} {tc : Nat → ClassId} {tb : Nat → Nat} {sz : Nat} {a0 : Nat → Nat} {G : mx_F} {P : Option mx_V → mx_F → Prop}  (C : mx_C p s m args c c_R_length y_R_length.cls w_R_length D tc tb (mx_A a0 G sz) 1 (mx_Ok0 a0 G)) (hr : meth.sig.returnType = (some .int)) (hlk : meth.locks = false) : mx_all (mx_W p l e rm_R_length s m args below meth c (MQ below (mx_Q D tc tb a0 G sz P) args s 0 0 (mx_A a0 G sz)) D tc tb (mx_A a0 G sz) 1 (mx_Ok0 a0 G)) (t_R_length  P) :=
  ⟨mx_s_aload_n C d_R_length_0 rfl,
  mx_s_get (T := T_R) (N := 2) (k := 1) C (fun w h => List.mem_cons_of_mem _ (in_R w h)) rfl (by decide) (List.mem_cons_of_mem _ (mx_in0 (by decide +kernel) rfl)) rfl d_R_length_1,
  mx_s_iret C hr hlk d_R_length_4,
  trivial⟩
set_option maxRecDepth 20000 in
set_option maxHeartbeats 2000000 in
theorem m_R_length (l : Launch) : mx_M l y_R_length w_R_length rm_R_length sp_R_length := by
  intro D tc tb ad As F P sz0 h
  obtain ⟨n, rfl, h1, hp⟩ := h
  refine mx_run (cc := c_R_length) (maxL := 1) (ret := (some .int)) (tab := t_R_length  P) (by decide) rfl D tc tb ad _ F P sz0 (Nat.le_of_ble_eq_true rfl) (fun p e s m args below meth c C hr hlk => a_R_length  C hr hlk) ?_
  intro Rr go
  have hF := mx_as1 h1
  rw [hF]
  refine go rfl ⟨_, rfl, ?_⟩
  refine go rfl ⟨_, _, _, _, rfl, rfl, rfl, ?_⟩
  refine go rfl ⟨_, rfl, rfl, rfl, ?_⟩
  rw [← hF]
  exact hp
-- LadderWords$Row.letterAt(I)I
def sp_R_letterAt : mx_Sp := fun As F P => ∃ (n : Nat) (f : Nat → Int32) (i : Int32), As = [mx_r 1, mx_i i] ∧ F 1 = some (e_R n) ∧ F 2 = some (mx_ia 12 f) ∧ n ≤ 12 ∧ (∀ k : Nat, k < n → i = nI k → P (some (mx_i (f k))) F) ∧ ((i < 0 ∨ nI n ≤ i) → P (some (mx_i (-1))) F)
theorem d_R_letterAt_0 : decode c_R_letterAt 0 = .ok (.iload_n 1, 1) := by decide +kernel
theorem d_R_letterAt_1 : decode c_R_letterAt 1 = .ok (.ifCond .lt 20, 3) := by decide +kernel
theorem d_R_letterAt_4 : decode c_R_letterAt 4 = .ok (.iload_n 1, 1) := by decide +kernel
theorem d_R_letterAt_5 : decode c_R_letterAt 5 = .ok (.aload_n 0, 1) := by decide +kernel
theorem d_R_letterAt_6 : decode c_R_letterAt 6 = .ok (.getfield 15, 3) := by decide +kernel
theorem d_R_letterAt_9 : decode c_R_letterAt 9 = .ok (.if_icmp .ge 12, 3) := by decide +kernel
theorem d_R_letterAt_12 : decode c_R_letterAt 12 = .ok (.aload_n 0, 1) := by decide +kernel
theorem d_R_letterAt_13 : decode c_R_letterAt 13 = .ok (.getfield 9, 3) := by decide +kernel
theorem d_R_letterAt_16 : decode c_R_letterAt 16 = .ok (.iload_n 1, 1) := by decide +kernel
theorem d_R_letterAt_17 : decode c_R_letterAt 17 = .ok (.iaload, 1) := by decide +kernel
theorem d_R_letterAt_18 : decode c_R_letterAt 18 = .ok (.goto 4, 3) := by decide +kernel
theorem d_R_letterAt_21 : decode c_R_letterAt 21 = .ok (.iconst (-1), 1) := by decide +kernel
theorem d_R_letterAt_22 : decode c_R_letterAt 22 = .ok (.ireturn, 1) := by decide +kernel
abbrev w_R_letterAt : List Cond := mx_ws y_R_letterAt c_R_letterAt 2 (some .int)
abbrev rm_R_letterAt : Room := { frames := 10, cells := 0, slots := 0, locals := 200 }
def t_R_letterAt  (P : Option mx_V → mx_F → Prop) : List (Nat × mx_O) := [
  (0, mx_iload 1 1),
  (1, mx_if_lt 21 4),
  (4, mx_iload 1 5),
  (5, mx_aload 0 6),
  (6, mx_get 3 1 9),
  (9, mx_ic_ge 21 12),
  (12, mx_aload 0 13),
  (13, mx_get 3 0 16),
  (16, mx_iload 1 17),
  (17, mx_iald 18),
  (18, mx_goto 22),
  (21, mx_push (.inl (-1)) 22),
  (22, mx_iret P)]
set_option maxRecDepth 20000 in
theorem a_R_letterAt  {p : Program} {l : Launch} {e : Env} {s : State} {m : MethodId} {args : Array Value} {below : List Frame} {meth : Method} {c : Code} {D : va_G} {tc : Nat → ClassId} {tb : Nat → Nat} {sz : Nat} {a0 : Nat → Nat} {G : mx_F} {P : Option mx_V → mx_F → Prop}  (C : mx_C p s m args c c_R_letterAt y_R_letterAt.cls w_R_letterAt D tc tb (mx_A a0 G sz) 2 (mx_Ok0 a0 G)) (hr : meth.sig.returnType = (some .int)) (hlk : meth.locks = false) : mx_all (mx_W p l e rm_R_letterAt s m args below meth c (MQ below (mx_Q D tc tb a0 G sz P) args s 0 0 (mx_A a0 G sz)) D tc tb (mx_A a0 G sz) 2 (mx_Ok0 a0 G)) (t_R_letterAt  P) :=
  ⟨mx_s_iload_n C d_R_letterAt_0 rfl,
  mx_s_if_lt C d_R_letterAt_1 (by decide),
  mx_s_iload_n C d_R_letterAt_4 rfl,
  mx_s_aload_n C d_R_letterAt_5 rfl,
  mx_s_get (T := T_R) (N := 2) (k := 1) C (fun w h => List.mem_cons_of_mem _ (in_R w h)) rfl (by decide) (List.mem_cons_of_mem _ (mx_in0 (by decide +kernel) rfl)) rfl d_R_letterAt_6,
  mx_s_ic_ge C d_R_letterAt_9 (by decide),
  mx_s_aload_n C d_R_letterAt_12 rfl,
  mx_s_get (T := T_R) (N := 2) (k := 0) C (fun w h => List.mem_cons_of_mem _ (in_R w h)) rfl (by decide) (List.mem_cons_of_mem _ (mx_in0 (by decide +kernel) rfl)) rfl d_R_letterAt_13,
  mx_s_iload_n C d_R_letterAt_16 rfl,
  mx_s_iald C d_R_letterAt_17,
  mx_s_goto C d_R_letterAt_18 (by decide),
  mx_s_iconst C d_R_letterAt_21 (by decide),
  mx_s_iret C hr hlk d_R_letterAt_22,
  trivial⟩
set_option maxRecDepth 20000 in
set_option maxHeartbeats 2000000 in
theorem m_R_letterAt (l : Launch) : mx_M l y_R_letterAt w_R_letterAt rm_R_letterAt sp_R_letterAt := by
  intro D tc tb ad As F P sz0 h
  obtain ⟨n, f, i, rfl, h1, h2, hn, ho, hz⟩ := h
  refine mx_run (cc := c_R_letterAt) (maxL := 2) (ret := (some .int)) (tab := t_R_letterAt  P) (by decide) rfl D tc tb ad _ F P sz0 (Nat.le_of_ble_eq_true rfl) (fun p e s m args below meth c C hr hlk => a_R_letterAt  C hr hlk) ?_
  intro Rr go
  have hF := mx_as2 h1 h2
  rw [hF]
  refine go rfl ⟨_, rfl, ?_⟩
  refine go rfl ⟨_, _, rfl, fun c1 => ?_, fun c1 => ?_⟩
  · refine go rfl ?_
    refine go rfl ⟨_, rfl, rfl, rfl, ?_⟩
    rw [← hF]
    exact hz (Or.inl c1)
  refine go rfl ⟨_, rfl, ?_⟩
  refine go rfl ⟨_, rfl, ?_⟩
  refine go rfl ⟨_, _, _, _, rfl, rfl, rfl, ?_⟩
  refine go rfl ⟨_, _, _, rfl, fun c2 => ?_, fun c2 => ?_⟩
  · refine go rfl ?_
    refine go rfl ⟨_, rfl, rfl, rfl, ?_⟩
    rw [← hF]
    exact hz (Or.inr c2)
  rcases pk_ix i (n := n) (by omega) with q | q | ⟨k, hk, rfl⟩
  · exact absurd q c1
  · exact absurd q c2
  refine go rfl ⟨_, rfl, ?_⟩
  refine go rfl ⟨_, _, _, _, rfl, rfl, rfl, ?_⟩
  refine go rfl ⟨_, rfl, ?_⟩
  refine go rfl ⟨_, _, _, _, _, rfl, rfl, (vp_in_nI (by omega) (by omega)), ?_⟩
  rw [nI_clamp (by omega)]
  refine go rfl ?_
  refine go rfl ⟨_, rfl, rfl, rfl, ?_⟩
  rw [← hF]
  exact ho k hk rfl
-- LadderWords$Row.firstPlaceOf(I)I
def sp_R_firstPlaceOf : mx_Sp := fun As F P => ∃ (n : Nat) (f : Nat → Int32) (u : Int32), As = [mx_r 1, mx_i u] ∧ F 1 = some (e_R n) ∧ F 2 = some (mx_ia 12 f) ∧ n ≤ 12 ∧ (∀ k : Nat, k < n → f k = u → (∀ j, j < k → f j ≠ u) → P (some (mx_i (nI k))) F) ∧ ((∀ j, j < n → f j ≠ u) → P (some (mx_i (-1))) F)
theorem d_R_firstPlaceOf_0 : decode c_R_firstPlaceOf 0 = .ok (.iconst 0, 1) := by decide +kernel
theorem d_R_firstPlaceOf_1 : decode c_R_firstPlaceOf 1 = .ok (.istore_n 2, 1) := by decide +kernel
theorem d_R_firstPlaceOf_2 : decode c_R_firstPlaceOf 2 = .ok (.iload_n 2, 1) := by decide +kernel
theorem d_R_firstPlaceOf_3 : decode c_R_firstPlaceOf 3 = .ok (.aload_n 0, 1) := by decide +kernel
theorem d_R_firstPlaceOf_4 : decode c_R_firstPlaceOf 4 = .ok (.getfield 15, 3) := by decide +kernel
theorem d_R_firstPlaceOf_7 : decode c_R_firstPlaceOf 7 = .ok (.if_icmp .ge 21, 3) := by decide +kernel
theorem d_R_firstPlaceOf_10 : decode c_R_firstPlaceOf 10 = .ok (.aload_n 0, 1) := by decide +kernel
theorem d_R_firstPlaceOf_11 : decode c_R_firstPlaceOf 11 = .ok (.getfield 9, 3) := by decide +kernel
theorem d_R_firstPlaceOf_14 : decode c_R_firstPlaceOf 14 = .ok (.iload_n 2, 1) := by decide +kernel
theorem d_R_firstPlaceOf_15 : decode c_R_firstPlaceOf 15 = .ok (.iaload, 1) := by decide +kernel
theorem d_R_firstPlaceOf_16 : decode c_R_firstPlaceOf 16 = .ok (.iload_n 1, 1) := by decide +kernel
theorem d_R_firstPlaceOf_17 : decode c_R_firstPlaceOf 17 = .ok (.if_icmp .ne 5, 3) := by decide +kernel
theorem d_R_firstPlaceOf_20 : decode c_R_firstPlaceOf 20 = .ok (.iload_n 2, 1) := by decide +kernel
theorem d_R_firstPlaceOf_21 : decode c_R_firstPlaceOf 21 = .ok (.ireturn, 1) := by decide +kernel
theorem d_R_firstPlaceOf_22 : decode c_R_firstPlaceOf 22 = .ok (.iinc 2 1, 3) := by decide +kernel
theorem d_R_firstPlaceOf_25 : decode c_R_firstPlaceOf 25 = .ok (.goto (-23), 3) := by decide +kernel
theorem d_R_firstPlaceOf_28 : decode c_R_firstPlaceOf 28 = .ok (.iconst (-1), 1) := by decide +kernel
theorem d_R_firstPlaceOf_29 : decode c_R_firstPlaceOf 29 = .ok (.ireturn, 1) := by decide +kernel
abbrev w_R_firstPlaceOf : List Cond := mx_ws y_R_firstPlaceOf c_R_firstPlaceOf 3 (some .int)
abbrev rm_R_firstPlaceOf : Room := { frames := 10, cells := 0, slots := 0, locals := 200 }
def t_R_firstPlaceOf  (P : Option mx_V → mx_F → Prop) : List (Nat × mx_O) := [
  (0, mx_push (.inl (nI 0)) 1),
  (1, mx_istore 2 2),
  (2, mx_iload 2 3),
  (3, mx_aload 0 4),
  (4, mx_get 3 1 7),
  (7, mx_ic_ge 28 10),
  (10, mx_aload 0 11),
  (11, mx_get 3 0 14),
  (14, mx_iload 2 15),
  (15, mx_iald 16),
  (16, mx_iload 1 17),
  (17, mx_ic_ne 22 20),
  (20, mx_iload 2 21),
  (21, mx_iret P),
  (22, mx_iinc 2 (nI 1) 25),
  (25, mx_goto 2),
  (28, mx_push (.inl (-1)) 29),
  (29, mx_iret P)]
set_option maxRecDepth 20000 in
theorem a_R_firstPlaceOf  {p : Program} {l : Launch} {e : Env} {s : State} {m : MethodId} {args : Array Value} {below : List Frame} {meth : Method} {c : Code} {D : va_G} {tc : Nat → ClassId} {tb : Nat → Nat} {sz : Nat} {a0 : Nat → Nat} {G : mx_F} {P : Option mx_V → mx_F → Prop}  (C : mx_C p s m args c c_R_firstPlaceOf y_R_firstPlaceOf.cls w_R_firstPlaceOf D tc tb (mx_A a0 G sz) 3 (mx_Ok0 a0 G)) (hr : meth.sig.returnType = (some .int)) (hlk : meth.locks = false) : mx_all (mx_W p l e rm_R_firstPlaceOf s m args below meth c (MQ below (mx_Q D tc tb a0 G sz P) args s 0 0 (mx_A a0 G sz)) D tc tb (mx_A a0 G sz) 3 (mx_Ok0 a0 G)) (t_R_firstPlaceOf  P) :=
  ⟨mx_s_iconst C d_R_firstPlaceOf_0 (by decide),
  mx_s_istore_n C d_R_firstPlaceOf_1 rfl (by decide),
  mx_s_iload_n C d_R_firstPlaceOf_2 rfl,
  mx_s_aload_n C d_R_firstPlaceOf_3 rfl,
  mx_s_get (T := T_R) (N := 2) (k := 1) C (fun w h => List.mem_cons_of_mem _ (in_R w h)) rfl (by decide) (List.mem_cons_of_mem _ (mx_in0 (by decide +kernel) rfl)) rfl d_R_firstPlaceOf_4,
  mx_s_ic_ge C d_R_firstPlaceOf_7 (by decide),
  mx_s_aload_n C d_R_firstPlaceOf_10 rfl,
  mx_s_get (T := T_R) (N := 2) (k := 0) C (fun w h => List.mem_cons_of_mem _ (in_R w h)) rfl (by decide) (List.mem_cons_of_mem _ (mx_in0 (by decide +kernel) rfl)) rfl d_R_firstPlaceOf_11,
  mx_s_iload_n C d_R_firstPlaceOf_14 rfl,
  mx_s_iald C d_R_firstPlaceOf_15,
  mx_s_iload_n C d_R_firstPlaceOf_16 rfl,
  mx_s_ic_ne C d_R_firstPlaceOf_17 (by decide),
  mx_s_iload_n C d_R_firstPlaceOf_20 rfl,
  mx_s_iret C hr hlk d_R_firstPlaceOf_21,
  mx_s_iinc C d_R_firstPlaceOf_22 (by decide) (by decide),
  mx_s_goto C d_R_firstPlaceOf_25 (by decide),
  mx_s_iconst C d_R_firstPlaceOf_28 (by decide),
  mx_s_iret C hr hlk d_R_firstPlaceOf_29,
  trivial⟩
set_option maxRecDepth 20000 in
set_option maxHeartbeats 2000000 in
theorem m_R_firstPlaceOf (l : Launch) : mx_M l y_R_firstPlaceOf w_R_firstPlaceOf rm_R_firstPlaceOf sp_R_firstPlaceOf := by
  intro D tc tb ad As F P sz0 h
  obtain ⟨n, f, u, rfl, h1, h2, hn, ho, hz⟩ := h
  refine mx_run (cc := c_R_firstPlaceOf) (maxL := 3) (ret := (some .int)) (tab := t_R_firstPlaceOf  P) (by decide) rfl D tc tb ad _ F P sz0 (Nat.le_of_ble_eq_true rfl) (fun p e s m args below meth c C hr hlk => a_R_firstPlaceOf  C hr hlk) ?_
  intro Rr go
  have hF := mx_as2 h1 h2
  rw [hF]
  have loop : ∀ (k i : Nat), i + k = n → (∀ j, j < i → f j ≠ u) → Rr 2 [some (mx_r 1), some (mx_i u), some (mx_i (nI i))] [] (mx_put (mx_put F 1 (e_R n)) 2 (mx_ia 12 f)) 0 0 := by
    intro k
    induction k with
    | zero =>
      intro i hi hno
      refine go rfl ⟨_, rfl, ?_⟩
      refine go rfl ⟨_, rfl, ?_⟩
      refine go rfl ⟨_, _, _, _, rfl, rfl, rfl, ?_⟩
      refine go rfl ⟨_, _, _, rfl, fun c => ?_, fun c => ?_⟩
      · refine go rfl ?_
        refine go rfl ⟨_, rfl, rfl, rfl, ?_⟩
        rw [← hF]
        exact hz (fun j hj => hno j (by omega))
      · exact absurd (nI_le (by omega) (by omega)) c
    | succ k ih =>
      intro i hi hno
      refine go rfl ⟨_, rfl, ?_⟩
      refine go rfl ⟨_, rfl, ?_⟩
      refine go rfl ⟨_, _, _, _, rfl, rfl, rfl, ?_⟩
      refine go rfl ⟨_, _, _, rfl, fun c => ?_, fun c => ?_⟩
      · exact absurd ((nI_leI (by omega) (by omega)).mp c) (by omega)
      · refine go rfl ⟨_, rfl, ?_⟩
        refine go rfl ⟨_, _, _, _, rfl, rfl, rfl, ?_⟩
        refine go rfl ⟨_, rfl, ?_⟩
        refine go rfl ⟨_, _, _, _, _, rfl, rfl, (vp_in_nI (by omega) (by omega)), ?_⟩
        refine go rfl ⟨_, rfl, ?_⟩
        rw [nI_clamp (by omega)]
        refine go rfl ⟨_, _, _, rfl, fun d => ?_, fun d => ?_⟩
        · refine go rfl ⟨_, rfl, ?_⟩
          refine go rfl ?_
          rw [nI_add]
          refine ih (i + 1) (by omega) (fun j hj => ?_)
          rcases Nat.lt_or_ge j i with q | q
          · exact hno j q
          · rw [show j = i by omega]
            exact d
        · refine go rfl ⟨_, rfl, ?_⟩
          refine go rfl ⟨_, rfl, rfl, rfl, ?_⟩
          rw [← hF]
          exact ho i (by omega) d hno
  refine go rfl ?_
  refine go rfl ⟨_, _, rfl, ?_⟩
  exact loop n 0 (by omega) (fun j hj => absurd hj (Nat.not_lt_zero j))
end
section
/-- the words: n of them, the k-th one's letters from S k on -/
def wok (n : Nat) (S : Nat → Nat) (st : Nat → Int32) : Prop := n ≤ 60 ∧ S 0 = 0 ∧ (∀ k, k < n → S k + 1 ≤ S (k + 1) ∧ S (k + 1) ≤ S k + 6) ∧ ∀ k, k ≤ n → st k = nI (S k)
theorem wok_le {n : Nat} {S : Nat → Nat} {st : Nat → Int32} (h : wok n S st) : ∀ k, k ≤ n → S k ≤ 6 * k := by
  intro k
  induction k with
  | zero => intro _; rw [h.2.1]; exact Nat.zero_le _
  | succ k ih =>
    intro hk
    have h1 := ih (by omega)
    have h2 := (h.2.2.1 k (by omega)).2
    omega
theorem wok_lt {n : Nat} {S : Nat → Nat} {st : Nat → Int32} (h : wok n S st) {k : Nat} (hk : k ≤ n) : S k ≤ 360 := by
  have h1 := wok_le h k hk
  have h2 := h.1
  omega
-- LadderWords$Words.count()I
def sp_W_count : mx_Sp := fun As F P => ∃ n : Nat, As = [mx_r 3] ∧ F 3 = some (e_W n) ∧ P (some (mx_i (nI n))) F
theorem d_W_count_0 : decode c_W_count 0 = .ok (.aload_n 0, 1) := by decide +kernel
theorem d_W_count_1 : decode c_W_count 1 = .ok (.getfield 18, 3) := by decide +kernel
theorem d_W_count_4 : decode c_W_count 4 = .ok (.ireturn, 1) := by decide +kernel
abbrev w_W_count : List Cond := mx_ws y_W_count c_W_count 1 (some .int)
abbrev rm_W_count : Room := { frames := 10, cells := 0, slots := 0, locals := 200 }
def t_W_count  (P : Option mx_V → mx_F → Prop) : List (Nat × mx_O) := [
  (0, mx_aload 0 1),
  (1, mx_get 5 2 4),
  (4, mx_iret P)]
set_option maxRecDepth 20000 in
theorem a_W_count  {p : Program} {l : Launch} {e : Env} {s : State} {m : MethodId} {args : Array Value} {below : List Frame} {meth : Method} {c : Code} {D : va_G} {tc : Nat → ClassId} {tb : Nat → Nat} {sz : Nat} {a0 : Nat → Nat} {G : mx_F} {P : Option mx_V → mx_F → Prop}  (C : mx_C p s m args c c_W_count y_W_count.cls w_W_count D tc tb (mx_A a0 G sz) 1 (mx_Ok0 a0 G)) (hr : meth.sig.returnType = (some .int)) (hlk : meth.locks = false) : mx_all (mx_W p l e rm_W_count s m args below meth c (MQ below (mx_Q D tc tb a0 G sz P) args s 0 0 (mx_A a0 G sz)) D tc tb (mx_A a0 G sz) 1 (mx_Ok0 a0 G)) (t_W_count  P) :=
  ⟨mx_s_aload_n C d_W_count_0 rfl,
  mx_s_get (T := T_W) (N := 3) (k := 2) C (fun w h => List.mem_cons_of_mem _ (in_W w h)) rfl (by decide) (List.mem_cons_of_mem _ (mx_in0 (by decide +kernel) rfl)) rfl d_W_count_1,
  mx_s_iret C hr hlk d_W_count_4,
  trivial⟩
set_option maxRecDepth 20000 in
set_option maxHeartbeats 2000000 in
theorem m_W_count (l : Launch) : mx_M l y_W_count w_W_count rm_W_count sp_W_count := by
  intro D tc tb ad As F P sz0 h
  obtain ⟨n, rfl, h1, hp⟩ := h
  refine mx_run (cc := c_W_count) (maxL := 1) (ret := (some .int)) (tab := t_W_count  P) (by decide) rfl D tc tb ad _ F P sz0 (Nat.le_of_ble_eq_true rfl) (fun p e s m args below meth c C hr hlk => a_W_count  C hr hlk) ?_
  intro Rr go
  have hF := mx_as1 h1
  rw [hF]
  refine go rfl ⟨_, rfl, ?_⟩
  refine go rfl ⟨_, _, _, _, rfl, rfl, rfl, ?_⟩
  refine go rfl ⟨_, rfl, rfl, rfl, ?_⟩
  rw [← hF]
  exact hp
-- LadderWords$Words.has(I)Z
def sp_W_has : mx_Sp := fun As F P => ∃ (n : Nat) (w : Int32), As = [mx_r 3, mx_i w] ∧ F 3 = some (e_W n) ∧ ((w < 0 ∨ nI n ≤ w) → P (some (mx_i (nI 0))) F) ∧ (¬ (w < 0 ∨ nI n ≤ w) → P (some (mx_i (nI 1))) F)
theorem d_W_has_0 : decode c_W_has 0 = .ok (.iload_n 1, 1) := by decide +kernel
theorem d_W_has_1 : decode c_W_has 1 = .ok (.ifCond .lt 15, 3) := by decide +kernel
theorem d_W_has_4 : decode c_W_has 4 = .ok (.iload_n 1, 1) := by decide +kernel
theorem d_W_has_5 : decode c_W_has 5 = .ok (.aload_n 0, 1) := by decide +kernel
theorem d_W_has_6 : decode c_W_has 6 = .ok (.getfield 18, 3) := by decide +kernel
theorem d_W_has_9 : decode c_W_has 9 = .ok (.if_icmp .ge 7, 3) := by decide +kernel
theorem d_W_has_12 : decode c_W_has 12 = .ok (.iconst 1, 1) := by decide +kernel
theorem d_W_has_13 : decode c_W_has 13 = .ok (.goto 4, 3) := by decide +kernel
theorem d_W_has_16 : decode c_W_has 16 = .ok (.iconst 0, 1) := by decide +kernel
theorem d_W_has_17 : decode c_W_has 17 = .ok (.ireturn, 1) := by decide +kernel
abbrev w_W_has : List Cond := mx_ws y_W_has c_W_has 2 (some .boolean)
abbrev rm_W_has : Room := { frames := 10, cells := 0, slots := 0, locals := 200 }
def t_W_has  (P : Option mx_V → mx_F → Prop) : List (Nat × mx_O) := [
  (0, mx_iload 1 1),
  (1, mx_if_lt 16 4),
  (4, mx_iload 1 5),
  (5, mx_aload 0 6),
  (6, mx_get 5 2 9),
  (9, mx_ic_ge 16 12),
  (12, mx_push (.inl (nI 1)) 13),
  (13, mx_goto 17),
  (16, mx_push (.inl (nI 0)) 17),
  (17, mx_zret P)]
set_option maxRecDepth 20000 in
theorem a_W_has  {p : Program} {l : Launch} {e : Env} {s : State} {m : MethodId} {args : Array Value} {below : List Frame} {meth : Method} {c : Code} {D : va_G} {tc : Nat → ClassId} {tb : Nat → Nat} {sz : Nat} {a0 : Nat → Nat} {G : mx_F} {P : Option mx_V → mx_F → Prop}  (C : mx_C p s m args c c_W_has y_W_has.cls w_W_has D tc tb (mx_A a0 G sz) 2 (mx_Ok0 a0 G)) (hr : meth.sig.returnType = (some .boolean)) (hlk : meth.locks = false) : mx_all (mx_W p l e rm_W_has s m args below meth c (MQ below (mx_Q D tc tb a0 G sz P) args s 0 0 (mx_A a0 G sz)) D tc tb (mx_A a0 G sz) 2 (mx_Ok0 a0 G)) (t_W_has  P) :=
  ⟨mx_s_iload_n C d_W_has_0 rfl,
  mx_s_if_lt C d_W_has_1 (by decide),
  mx_s_iload_n C d_W_has_4 rfl,
  mx_s_aload_n C d_W_has_5 rfl,
  mx_s_get (T := T_W) (N := 3) (k := 2) C (fun w h => List.mem_cons_of_mem _ (in_W w h)) rfl (by decide) (List.mem_cons_of_mem _ (mx_in0 (by decide +kernel) rfl)) rfl d_W_has_6,
  mx_s_ic_ge C d_W_has_9 (by decide),
  mx_s_iconst C d_W_has_12 (by decide),
  mx_s_goto C d_W_has_13 (by decide),
  mx_s_iconst C d_W_has_16 (by decide),
  mx_s_zret C hr hlk d_W_has_17,
  trivial⟩
set_option maxRecDepth 20000 in
set_option maxHeartbeats 2000000 in
theorem m_W_has (l : Launch) : mx_M l y_W_has w_W_has rm_W_has sp_W_has := by
  intro D tc tb ad As F P sz0 h
  obtain ⟨n, w, rfl, h1, hz, ho⟩ := h
  refine mx_run (cc := c_W_has) (maxL := 2) (ret := (some .boolean)) (tab := t_W_has  P) (by decide) rfl D tc tb ad _ F P sz0 (Nat.le_of_ble_eq_true rfl) (fun p e s m args below meth c C hr hlk => a_W_has  C hr hlk) ?_
  intro Rr go
  have hF := mx_as1 h1
  rw [hF]
  refine go rfl ⟨_, rfl, ?_⟩
  refine go rfl ⟨_, _, rfl, fun c1 => ?_, fun c1 => ?_⟩
  · refine go rfl ?_
    refine go rfl ⟨_, rfl, rfl, rfl, (Or.inl rfl), ?_⟩
    rw [← hF]
    exact hz (Or.inl c1)
  refine go rfl ⟨_, rfl, ?_⟩
  refine go rfl ⟨_, rfl, ?_⟩
  refine go rfl ⟨_, _, _, _, rfl, rfl, rfl, ?_⟩
  refine go rfl ⟨_, _, _, rfl, fun c2 => ?_, fun c2 => ?_⟩
  · refine go rfl ?_
    refine go rfl ⟨_, rfl, rfl, rfl, (Or.inl rfl), ?_⟩
    rw [← hF]
    exact hz (Or.inr c2)
  refine go rfl ?_
  refine go rfl ?_
  refine go rfl ⟨_, rfl, rfl, rfl, (Or.inr rfl), ?_⟩
  rw [← hF]
  exact ho (fun h => h.elim c1 c2)
-- LadderWords$Words.lengthOf(I)I
def sp_W_lengthOf : mx_Sp := fun As F P => ∃ (n : Nat) (S : Nat → Nat) (st : Nat → Int32) (w : Int32), As = [mx_r 3, mx_i w] ∧ F 3 = some (e_W n) ∧ F 5 = some (mx_ia 61 st) ∧ wok n S st ∧ (∀ j, j < n → w = nI j → P (some (mx_i (nI (S (j + 1) - S j)))) F) ∧ ((w < 0 ∨ nI n ≤ w) → P (some (mx_i (nI 0))) F)
theorem d_W_lengthOf_0 : decode c_W_lengthOf 0 = .ok (.iload_n 1, 1) := by decide +kernel
theorem d_W_lengthOf_1 : decode c_W_lengthOf 1 = .ok (.ifCond .lt 29, 3) := by decide +kernel
theorem d_W_lengthOf_4 : decode c_W_lengthOf 4 = .ok (.iload_n 1, 1) := by decide +kernel
theorem d_W_lengthOf_5 : decode c_W_lengthOf 5 = .ok (.aload_n 0, 1) := by decide +kernel
theorem d_W_lengthOf_6 : decode c_W_lengthOf 6 = .ok (.getfield 18, 3) := by decide +kernel
theorem d_W_lengthOf_9 : decode c_W_lengthOf 9 = .ok (.if_icmp .ge 21, 3) := by decide +kernel
theorem d_W_lengthOf_12 : decode c_W_lengthOf 12 = .ok (.aload_n 0, 1) := by decide +kernel
theorem d_W_lengthOf_13 : decode c_W_lengthOf 13 = .ok (.getfield 15, 3) := by decide +kernel
theorem d_W_lengthOf_16 : decode c_W_lengthOf 16 = .ok (.iload_n 1, 1) := by decide +kernel
theorem d_W_lengthOf_17 : decode c_W_lengthOf 17 = .ok (.iconst 1, 1) := by decide +kernel
theorem d_W_lengthOf_18 : decode c_W_lengthOf 18 = .ok (.iadd, 1) := by decide +kernel
theorem d_W_lengthOf_19 : decode c_W_lengthOf 19 = .ok (.iaload, 1) := by decide +kernel
theorem d_W_lengthOf_20 : decode c_W_lengthOf 20 = .ok (.aload_n 0, 1) := by decide +kernel
theorem d_W_lengthOf_21 : decode c_W_lengthOf 21 = .ok (.getfield 15, 3) := by decide +kernel
theorem d_W_lengthOf_24 : decode c_W_lengthOf 24 = .ok (.iload_n 1, 1) := by decide +kernel
theorem d_W_lengthOf_25 : decode c_W_lengthOf 25 = .ok (.iaload, 1) := by decide +kernel
theorem d_W_lengthOf_26 : decode c_W_lengthOf 26 = .ok (.isub, 1) := by decide +kernel
theorem d_W_lengthOf_27 : decode c_W_lengthOf 27 = .ok (.goto 4, 3) := by decide +kernel
theorem d_W_lengthOf_30 : decode c_W_lengthOf 30 = .ok (.iconst 0, 1) := by decide +kernel
theorem d_W_lengthOf_31 : decode c_W_lengthOf 31 = .ok (.ireturn, 1) := by decide +kernel
abbrev w_W_lengthOf : List Cond := mx_ws y_W_lengthOf c_W_lengthOf 2 (some .int)
abbrev rm_W_lengthOf : Room := { frames := 10, cells := 0, slots := 0, locals := 200 }
def t_W_lengthOf  (P : Option mx_V → mx_F → Prop) : List (Nat × mx_O) := [
  (0, mx_iload 1 1),
  (1, mx_if_lt 30 4),
  (4, mx_iload 1 5),
  (5, mx_aload 0 6),
  (6, mx_get 5 2 9),
  (9, mx_ic_ge 30 12),
  (12, mx_aload 0 13),
  (13, mx_get 5 1 16),
  (16, mx_iload 1 17),
  (17, mx_push (.inl (nI 1)) 18),
  (18, mx_iadd 19),
  (19, mx_iald 20),
  (20, mx_aload 0 21),
  (21, mx_get 5 1 24),
  (24, mx_iload 1 25),
  (25, mx_iald 26),
  (26, mx_isub 27),
  (27, mx_goto 31),
  (30, mx_push (.inl (nI 0)) 31),
  (31, mx_iret P)]
set_option maxRecDepth 20000 in
theorem a_W_lengthOf  {p : Program} {l : Launch} {e : Env} {s : State} {m : MethodId} {args : Array Value} {below : List Frame} {meth : Method} {c : Code} {D : va_G} {tc : Nat → ClassId} {tb : Nat → Nat} {sz : Nat} {a0 : Nat → Nat} {G : mx_F} {P : Option mx_V → mx_F → Prop}  (C : mx_C p s m args c c_W_lengthOf y_W_lengthOf.cls w_W_lengthOf D tc tb (mx_A a0 G sz) 2 (mx_Ok0 a0 G)) (hr : meth.sig.returnType = (some .int)) (hlk : meth.locks = false) : mx_all (mx_W p l e rm_W_lengthOf s m args below meth c (MQ below (mx_Q D tc tb a0 G sz P) args s 0 0 (mx_A a0 G sz)) D tc tb (mx_A a0 G sz) 2 (mx_Ok0 a0 G)) (t_W_lengthOf  P) :=
  ⟨mx_s_iload_n C d_W_lengthOf_0 rfl,
  mx_s_if_lt C d_W_lengthOf_1 (by decide),
  mx_s_iload_n C d_W_lengthOf_4 rfl,
  mx_s_aload_n C d_W_lengthOf_5 rfl,
  mx_s_get (T := T_W) (N := 3) (k := 2) C (fun w h => List.mem_cons_of_mem _ (in_W w h)) rfl (by decide) (List.mem_cons_of_mem _ (mx_in0 (by decide +kernel) rfl)) rfl d_W_lengthOf_6,
  mx_s_ic_ge C d_W_lengthOf_9 (by decide),
  mx_s_aload_n C d_W_lengthOf_12 rfl,
  mx_s_get (T := T_W) (N := 3) (k := 1) C (fun w h => List.mem_cons_of_mem _ (in_W w h)) rfl (by decide) (List.mem_cons_of_mem _ (mx_in0 (by decide +kernel) rfl)) rfl d_W_lengthOf_13,
  mx_s_iload_n C d_W_lengthOf_16 rfl,
  mx_s_iconst C d_W_lengthOf_17 (by decide),
  mx_s_iadd C d_W_lengthOf_18,
  mx_s_iald C d_W_lengthOf_19,
  mx_s_aload_n C d_W_lengthOf_20 rfl,
  mx_s_get (T := T_W) (N := 3) (k := 1) C (fun w h => List.mem_cons_of_mem _ (in_W w h)) rfl (by decide) (List.mem_cons_of_mem _ (mx_in0 (by decide +kernel) rfl)) rfl d_W_lengthOf_21,
  mx_s_iload_n C d_W_lengthOf_24 rfl,
  mx_s_iald C d_W_lengthOf_25,
  mx_s_isub C d_W_lengthOf_26,
  mx_s_goto C d_W_lengthOf_27 (by decide),
  mx_s_iconst C d_W_lengthOf_30 (by decide),
  mx_s_iret C hr hlk d_W_lengthOf_31,
  trivial⟩
set_option maxRecDepth 20000 in
set_option maxHeartbeats 2000000 in
theorem m_W_lengthOf (l : Launch) : mx_M l y_W_lengthOf w_W_lengthOf rm_W_lengthOf sp_W_lengthOf := by
  intro D tc tb ad As F P sz0 h
  obtain ⟨n, S, st, w, rfl, h1, h2, hw, ho, hz⟩ := h
  refine mx_run (cc := c_W_lengthOf) (maxL := 2) (ret := (some .int)) (tab := t_W_lengthOf  P) (by decide) rfl D tc tb ad _ F P sz0 (Nat.le_of_ble_eq_true rfl) (fun p e s m args below meth c C hr hlk => a_W_lengthOf  C hr hlk) ?_
  intro Rr go
  have hF := mx_as2 h1 h2
  rw [hF]
  have hn := hw.1
  refine go rfl ⟨_, rfl, ?_⟩
  refine go rfl ⟨_, _, rfl, fun c1 => ?_, fun c1 => ?_⟩
  · refine go rfl ?_
    refine go rfl ⟨_, rfl, rfl, rfl, ?_⟩
    rw [← hF]
    exact hz (Or.inl c1)
  refine go rfl ⟨_, rfl, ?_⟩
  refine go rfl ⟨_, rfl, ?_⟩
  refine go rfl ⟨_, _, _, _, rfl, rfl, rfl, ?_⟩
  refine go rfl ⟨_, _, _, rfl, fun c2 => ?_, fun c2 => ?_⟩
  · refine go rfl ?_
    refine go rfl ⟨_, rfl, rfl, rfl, ?_⟩
    rw [← hF]
    exact hz (Or.inr c2)
  rcases pk_ix w (n := n) (by omega) with q | q | ⟨j, hj, rfl⟩
  · exact absurd q c1
  · exact absurd q c2
  refine go rfl ⟨_, rfl, ?_⟩
  refine go rfl ⟨_, _, _, _, rfl, rfl, rfl, ?_⟩
  refine go rfl ⟨_, rfl, ?_⟩
  refine go rfl ?_
  refine go rfl ⟨_, _, _, rfl, ?_⟩
  rw [nI_add]
  refine go rfl ⟨_, _, _, _, _, rfl, rfl, (vp_in_nI (show j + 1 < 61 by omega) (by omega)), ?_⟩
  refine go rfl ⟨_, rfl, ?_⟩
  refine go rfl ⟨_, _, _, _, rfl, rfl, rfl, ?_⟩
  refine go rfl ⟨_, rfl, ?_⟩
  refine go rfl ⟨_, _, _, _, _, rfl, rfl, (vp_in_nI (by omega) (by omega)), ?_⟩
  rw [nI_clamp (by omega), nI_clamp (by omega), hw.2.2.2 (j + 1) (by omega), hw.2.2.2 j (by omega)]
  refine go rfl ⟨_, _, _, rfl, ?_⟩
  rw [pk_sub (by have := (hw.2.2.1 j hj).1; omega)]
  refine go rfl ?_
  refine go rfl ⟨_, rfl, rfl, rfl, ?_⟩
  rw [← hF]
  exact ho j hj rfl
-- LadderWords$Words.letterOf(II)I
def sp_W_letterOf : mx_Sp := fun As F P => ∃ (n : Nat) (S : Nat → Nat) (st lt : Nat → Int32) (w i : Int32), As = [mx_r 3, mx_i w, mx_i i] ∧ F 3 = some (e_W n) ∧ F 4 = some (mx_ia 360 lt) ∧ F 5 = some (mx_ia 61 st) ∧ wok n S st ∧ (∀ j k, j < n → k < S (j + 1) - S j → w = nI j → i = nI k → P (some (mx_i (lt (S j + k)))) F) ∧ ((¬ ∃ j k, j < n ∧ k < S (j + 1) - S j ∧ w = nI j ∧ i = nI k) → P (some (mx_i (-1))) F)
theorem d_W_letterOf_0 : decode c_W_letterOf 0 = .ok (.iload_n 1, 1) := by decide +kernel
theorem d_W_letterOf_1 : decode c_W_letterOf 1 = .ok (.ifCond .lt 34, 3) := by decide +kernel
theorem d_W_letterOf_4 : decode c_W_letterOf 4 = .ok (.iload_n 1, 1) := by decide +kernel
theorem d_W_letterOf_5 : decode c_W_letterOf 5 = .ok (.aload_n 0, 1) := by decide +kernel
theorem d_W_letterOf_6 : decode c_W_letterOf 6 = .ok (.getfield 18, 3) := by decide +kernel
theorem d_W_letterOf_9 : decode c_W_letterOf 9 = .ok (.if_icmp .ge 26, 3) := by decide +kernel
theorem d_W_letterOf_12 : decode c_W_letterOf 12 = .ok (.iload_n 2, 1) := by decide +kernel
theorem d_W_letterOf_13 : decode c_W_letterOf 13 = .ok (.ifCond .lt 22, 3) := by decide +kernel
theorem d_W_letterOf_16 : decode c_W_letterOf 16 = .ok (.iload_n 2, 1) := by decide +kernel
theorem d_W_letterOf_17 : decode c_W_letterOf 17 = .ok (.aload_n 0, 1) := by decide +kernel
theorem d_W_letterOf_18 : decode c_W_letterOf 18 = .ok (.getfield 15, 3) := by decide +kernel
theorem d_W_letterOf_21 : decode c_W_letterOf 21 = .ok (.iload_n 1, 1) := by decide +kernel
theorem d_W_letterOf_22 : decode c_W_letterOf 22 = .ok (.iconst 1, 1) := by decide +kernel
theorem d_W_letterOf_23 : decode c_W_letterOf 23 = .ok (.iadd, 1) := by decide +kernel
theorem d_W_letterOf_24 : decode c_W_letterOf 24 = .ok (.iaload, 1) := by decide +kernel
theorem d_W_letterOf_25 : decode c_W_letterOf 25 = .ok (.aload_n 0, 1) := by decide +kernel
theorem d_W_letterOf_26 : decode c_W_letterOf 26 = .ok (.getfield 15, 3) := by decide +kernel
theorem d_W_letterOf_29 : decode c_W_letterOf 29 = .ok (.iload_n 1, 1) := by decide +kernel
theorem d_W_letterOf_30 : decode c_W_letterOf 30 = .ok (.iaload, 1) := by decide +kernel
theorem d_W_letterOf_31 : decode c_W_letterOf 31 = .ok (.isub, 1) := by decide +kernel
theorem d_W_letterOf_32 : decode c_W_letterOf 32 = .ok (.if_icmp .lt 5, 3) := by decide +kernel
theorem d_W_letterOf_35 : decode c_W_letterOf 35 = .ok (.iconst (-1), 1) := by decide +kernel
theorem d_W_letterOf_36 : decode c_W_letterOf 36 = .ok (.ireturn, 1) := by decide +kernel
theorem d_W_letterOf_37 : decode c_W_letterOf 37 = .ok (.aload_n 0, 1) := by decide +kernel
theorem d_W_letterOf_38 : decode c_W_letterOf 38 = .ok (.getfield 9, 3) := by decide +kernel
theorem d_W_letterOf_41 : decode c_W_letterOf 41 = .ok (.aload_n 0, 1) := by decide +kernel
theorem d_W_letterOf_42 : decode c_W_letterOf 42 = .ok (.getfield 15, 3) := by decide +kernel
theorem d_W_letterOf_45 : decode c_W_letterOf 45 = .ok (.iload_n 1, 1) := by decide +kernel
theorem d_W_letterOf_46 : decode c_W_letterOf 46 = .ok (.iaload, 1) := by decide +kernel
theorem d_W_letterOf_47 : decode c_W_letterOf 47 = .ok (.iload_n 2, 1) := by decide +kernel
theorem d_W_letterOf_48 : decode c_W_letterOf 48 = .ok (.iadd, 1) := by decide +kernel
theorem d_W_letterOf_49 : decode c_W_letterOf 49 = .ok (.iaload, 1) := by decide +kernel
theorem d_W_letterOf_50 : decode c_W_letterOf 50 = .ok (.ireturn, 1) := by decide +kernel
abbrev w_W_letterOf : List Cond := mx_ws y_W_letterOf c_W_letterOf 3 (some .int)
abbrev rm_W_letterOf : Room := { frames := 10, cells := 0, slots := 0, locals := 200 }
def t_W_letterOf  (P : Option mx_V → mx_F → Prop) : List (Nat × mx_O) := [
  (0, mx_iload 1 1),
  (1, mx_if_lt 35 4),
  (4, mx_iload 1 5),
  (5, mx_aload 0 6),
  (6, mx_get 5 2 9),
  (9, mx_ic_ge 35 12),
  (12, mx_iload 2 13),
  (13, mx_if_lt 35 16),
  (16, mx_iload 2 17),
  (17, mx_aload 0 18),
  (18, mx_get 5 1 21),
  (21, mx_iload 1 22),
  (22, mx_push (.inl (nI 1)) 23),
  (23, mx_iadd 24),
  (24, mx_iald 25),
  (25, mx_aload 0 26),
  (26, mx_get 5 1 29),
  (29, mx_iload 1 30),
  (30, mx_iald 31),
  (31, mx_isub 32),
  (32, mx_ic_lt 37 35),
  (35, mx_push (.inl (-1)) 36),
  (36, mx_iret P),
  (37, mx_aload 0 38),
  (38, mx_get 5 0 41),
  (41, mx_aload 0 42),
  (42, mx_get 5 1 45),
  (45, mx_iload 1 46),
  (46, mx_iald 47),
  (47, mx_iload 2 48),
  (48, mx_iadd 49),
  (49, mx_iald 50),
  (50, mx_iret P)]
set_option maxRecDepth 20000 in
theorem a_W_letterOf  {p : Program} {l : Launch} {e : Env} {s : State} {m : MethodId} {args : Array Value} {below : List Frame} {meth : Method} {c : Code} {D : va_G} {tc : Nat → ClassId} {tb : Nat → Nat} {sz : Nat} {a0 : Nat → Nat} {G : mx_F} {P : Option mx_V → mx_F → Prop}  (C : mx_C p s m args c c_W_letterOf y_W_letterOf.cls w_W_letterOf D tc tb (mx_A a0 G sz) 3 (mx_Ok0 a0 G)) (hr : meth.sig.returnType = (some .int)) (hlk : meth.locks = false) : mx_all (mx_W p l e rm_W_letterOf s m args below meth c (MQ below (mx_Q D tc tb a0 G sz P) args s 0 0 (mx_A a0 G sz)) D tc tb (mx_A a0 G sz) 3 (mx_Ok0 a0 G)) (t_W_letterOf  P) :=
  ⟨mx_s_iload_n C d_W_letterOf_0 rfl,
  mx_s_if_lt C d_W_letterOf_1 (by decide),
  mx_s_iload_n C d_W_letterOf_4 rfl,
  mx_s_aload_n C d_W_letterOf_5 rfl,
  mx_s_get (T := T_W) (N := 3) (k := 2) C (fun w h => List.mem_cons_of_mem _ (in_W w h)) rfl (by decide) (List.mem_cons_of_mem _ (mx_in0 (by decide +kernel) rfl)) rfl d_W_letterOf_6,
  mx_s_ic_ge C d_W_letterOf_9 (by decide),
  mx_s_iload_n C d_W_letterOf_12 rfl,
  mx_s_if_lt C d_W_letterOf_13 (by decide),
  mx_s_iload_n C d_W_letterOf_16 rfl,
  mx_s_aload_n C d_W_letterOf_17 rfl,
  mx_s_get (T := T_W) (N := 3) (k := 1) C (fun w h => List.mem_cons_of_mem _ (in_W w h)) rfl (by decide) (List.mem_cons_of_mem _ (mx_in0 (by decide +kernel) rfl)) rfl d_W_letterOf_18,
  mx_s_iload_n C d_W_letterOf_21 rfl,
  mx_s_iconst C d_W_letterOf_22 (by decide),
  mx_s_iadd C d_W_letterOf_23,
  mx_s_iald C d_W_letterOf_24,
  mx_s_aload_n C d_W_letterOf_25 rfl,
  mx_s_get (T := T_W) (N := 3) (k := 1) C (fun w h => List.mem_cons_of_mem _ (in_W w h)) rfl (by decide) (List.mem_cons_of_mem _ (mx_in0 (by decide +kernel) rfl)) rfl d_W_letterOf_26,
  mx_s_iload_n C d_W_letterOf_29 rfl,
  mx_s_iald C d_W_letterOf_30,
  mx_s_isub C d_W_letterOf_31,
  mx_s_ic_lt C d_W_letterOf_32 (by decide),
  mx_s_iconst C d_W_letterOf_35 (by decide),
  mx_s_iret C hr hlk d_W_letterOf_36,
  mx_s_aload_n C d_W_letterOf_37 rfl,
  mx_s_get (T := T_W) (N := 3) (k := 0) C (fun w h => List.mem_cons_of_mem _ (in_W w h)) rfl (by decide) (List.mem_cons_of_mem _ (mx_in0 (by decide +kernel) rfl)) rfl d_W_letterOf_38,
  mx_s_aload_n C d_W_letterOf_41 rfl,
  mx_s_get (T := T_W) (N := 3) (k := 1) C (fun w h => List.mem_cons_of_mem _ (in_W w h)) rfl (by decide) (List.mem_cons_of_mem _ (mx_in0 (by decide +kernel) rfl)) rfl d_W_letterOf_42,
  mx_s_iload_n C d_W_letterOf_45 rfl,
  mx_s_iald C d_W_letterOf_46,
  mx_s_iload_n C d_W_letterOf_47 rfl,
  mx_s_iadd C d_W_letterOf_48,
  mx_s_iald C d_W_letterOf_49,
  mx_s_iret C hr hlk d_W_letterOf_50,
  trivial⟩
set_option maxRecDepth 20000 in
set_option maxHeartbeats 2000000 in
theorem m_W_letterOf (l : Launch) : mx_M l y_W_letterOf w_W_letterOf rm_W_letterOf sp_W_letterOf := by
  intro D tc tb ad As F P sz0 h
  obtain ⟨n, S, st, lt, w, i, rfl, h1, h4, h2, hw, ho, hz⟩ := h
  refine mx_run (cc := c_W_letterOf) (maxL := 3) (ret := (some .int)) (tab := t_W_letterOf  P) (by decide) rfl D tc tb ad _ F P sz0 (Nat.le_of_ble_eq_true rfl) (fun p e s m args below meth c C hr hlk => a_W_letterOf  C hr hlk) ?_
  intro Rr go
  have hF := mx_as3 h1 h4 h2
  rw [hF]
  have hn := hw.1
  have z : (¬ ∃ j k, j < n ∧ k < S (j + 1) - S j ∧ w = nI j ∧ i = nI k) → Rr 35 (mx_en [mx_r 3, mx_i w, mx_i i] 3) [] (mx_put (mx_put (mx_put F 3 (e_W n)) 4 (mx_ia 360 lt)) 5 (mx_ia 61 st)) 0 0 := by
    intro hc
    refine go rfl ?_
    refine go rfl ⟨_, rfl, rfl, rfl, ?_⟩
    rw [← hF]
    exact hz hc
  refine go rfl ⟨_, rfl, ?_⟩
  refine go rfl ⟨_, _, rfl, fun c1 => ?_, fun c1 => ?_⟩
  · refine z ?_
    rintro ⟨j, k, hj, hk, rfl, rfl⟩
    exact nI_pos (by omega) c1
  refine go rfl ⟨_, rfl, ?_⟩
  refine go rfl ⟨_, rfl, ?_⟩
  refine go rfl ⟨_, _, _, _, rfl, rfl, rfl, ?_⟩
  refine go rfl ⟨_, _, _, rfl, fun c2 => ?_, fun c2 => ?_⟩
  · refine z ?_
    rintro ⟨j, k, hj, hk, rfl, rfl⟩
    exact absurd ((nI_leI (by omega) (by omega)).mp c2) (by omega)
  rcases pk_ix w (n := n) (by omega) with q | q | ⟨j, hj, rfl⟩
  · exact absurd q c1
  · exact absurd q c2
  have hS1 := wok_lt hw (show j + 1 ≤ n by omega)
  have hS2 := (hw.2.2.1 j hj).1
  refine go rfl ⟨_, rfl, ?_⟩
  refine go rfl ⟨_, _, rfl, fun c3 => ?_, fun c3 => ?_⟩
  · refine z ?_
    rintro ⟨j2, k, hj2, hk, e1, rfl⟩
    have ej := (nI_eq (by omega) (by omega)).mp e1
    subst ej
    exact nI_pos (by omega) c3
  refine go rfl ⟨_, rfl, ?_⟩
  refine go rfl ⟨_, rfl, ?_⟩
  refine go rfl ⟨_, _, _, _, rfl, rfl, rfl, ?_⟩
  refine go rfl ⟨_, rfl, ?_⟩
  refine go rfl ?_
  refine go rfl ⟨_, _, _, rfl, ?_⟩
  rw [nI_add]
  refine go rfl ⟨_, _, _, _, _, rfl, rfl, (vp_in_nI (show j + 1 < 61 by omega) (by omega)), ?_⟩
  refine go rfl ⟨_, rfl, ?_⟩
  refine go rfl ⟨_, _, _, _, rfl, rfl, rfl, ?_⟩
  refine go rfl ⟨_, rfl, ?_⟩
  refine go rfl ⟨_, _, _, _, _, rfl, rfl, (vp_in_nI (by omega) (by omega)), ?_⟩
  rw [nI_clamp (by omega), nI_clamp (by omega), hw.2.2.2 (j + 1) (by omega), hw.2.2.2 j (by omega)]
  refine go rfl ⟨_, _, _, rfl, ?_⟩
  rw [pk_sub (by omega)]
  refine go rfl ⟨_, _, _, rfl, fun c4 => ?_, fun c4 => ?_⟩
  · obtain ⟨k, hk, rfl⟩ := nI_of c3
    have hlt : k < S (j + 1) - S j := (nI_ltI hk (by omega)).mp c4
    refine go rfl ⟨_, rfl, ?_⟩
    refine go rfl ⟨_, _, _, _, rfl, rfl, rfl, ?_⟩
    refine go rfl ⟨_, rfl, ?_⟩
    refine go rfl ⟨_, _, _, _, rfl, rfl, rfl, ?_⟩
    refine go rfl ⟨_, rfl, ?_⟩
    refine go rfl ⟨_, _, _, _, _, rfl, rfl, (vp_in_nI (by omega) (by omega)), ?_⟩
    rw [nI_clamp (by omega), hw.2.2.2 j (by omega)]
    refine go rfl ⟨_, rfl, ?_⟩
    refine go rfl ⟨_, _, _, rfl, ?_⟩
    rw [nI_add]
    refine go rfl ⟨_, _, _, _, _, rfl, rfl, (vp_in_nI (by omega) (by omega)), ?_⟩
    rw [nI_clamp (by omega)]
    refine go rfl ⟨_, rfl, rfl, rfl, ?_⟩
    rw [← hF]
    exact ho j k hj hlt rfl rfl
  · refine z ?_
    rintro ⟨j2, k, hj2, hk, e1, rfl⟩
    have ej := (nI_eq (by omega) (by omega)).mp e1
    subst ej
    exact c4 (nI_lt hk (by omega))
end
section
/-- word j is the row -/
def wsame (S : Nat → Nat) (lt rl : Nat → Int32) (rn j : Nat) : Prop := S (j + 1) - S j = rn ∧ ∀ i, i < rn → lt (S j + i) = rl i
-- LadderWords$Words.isSame(ILLadderWords$Row;)Z
def sp_W_isSame : mx_Sp := fun As F P => ∃ (rn n j : Nat) (S : Nat → Nat) (rl lt st : Nat → Int32), As = [mx_r 3, mx_i (nI j), mx_r 1] ∧ F 1 = some (e_R rn) ∧ F 2 = some (mx_ia 12 rl) ∧ F 3 = some (e_W n) ∧ F 4 = some (mx_ia 360 lt) ∧ F 5 = some (mx_ia 61 st) ∧ rn ≤ 12 ∧ wok n S st ∧ j < n ∧ (wsame S lt rl rn j → P (some (mx_i (nI 1))) F) ∧ (¬ wsame S lt rl rn j → P (some (mx_i (nI 0))) F)
theorem d_W_isSame_0 : decode c_W_isSame 0 = .ok (.aload_n 0, 1) := by decide +kernel
theorem d_W_isSame_1 : decode c_W_isSame 1 = .ok (.iload_n 1, 1) := by decide +kernel
theorem d_W_isSame_2 : decode c_W_isSame 2 = .ok (.invokevirtual 43, 3) := by decide +kernel
theorem d_W_isSame_5 : decode c_W_isSame 5 = .ok (.aload_n 2, 1) := by decide +kernel
theorem d_W_isSame_6 : decode c_W_isSame 6 = .ok (.invokevirtual 26, 3) := by decide +kernel
theorem d_W_isSame_9 : decode c_W_isSame 9 = .ok (.if_icmp .eq 5, 3) := by decide +kernel
theorem d_W_isSame_12 : decode c_W_isSame 12 = .ok (.iconst 0, 1) := by decide +kernel
theorem d_W_isSame_13 : decode c_W_isSame 13 = .ok (.ireturn, 1) := by decide +kernel
theorem d_W_isSame_14 : decode c_W_isSame 14 = .ok (.iconst 0, 1) := by decide +kernel
theorem d_W_isSame_15 : decode c_W_isSame 15 = .ok (.istore_n 3, 1) := by decide +kernel
theorem d_W_isSame_16 : decode c_W_isSame 16 = .ok (.iload_n 3, 1) := by decide +kernel
theorem d_W_isSame_17 : decode c_W_isSame 17 = .ok (.aload_n 2, 1) := by decide +kernel
theorem d_W_isSame_18 : decode c_W_isSame 18 = .ok (.invokevirtual 26, 3) := by decide +kernel
theorem d_W_isSame_21 : decode c_W_isSame 21 = .ok (.if_icmp .ge 25, 3) := by decide +kernel
theorem d_W_isSame_24 : decode c_W_isSame 24 = .ok (.aload_n 0, 1) := by decide +kernel
theorem d_W_isSame_25 : decode c_W_isSame 25 = .ok (.iload_n 1, 1) := by decide +kernel
theorem d_W_isSame_26 : decode c_W_isSame 26 = .ok (.iload_n 3, 1) := by decide +kernel
theorem d_W_isSame_27 : decode c_W_isSame 27 = .ok (.invokevirtual 47, 3) := by decide +kernel
theorem d_W_isSame_30 : decode c_W_isSame 30 = .ok (.aload_n 2, 1) := by decide +kernel
theorem d_W_isSame_31 : decode c_W_isSame 31 = .ok (.iload_n 3, 1) := by decide +kernel
theorem d_W_isSame_32 : decode c_W_isSame 32 = .ok (.invokevirtual 51, 3) := by decide +kernel
theorem d_W_isSame_35 : decode c_W_isSame 35 = .ok (.if_icmp .eq 5, 3) := by decide +kernel
theorem d_W_isSame_38 : decode c_W_isSame 38 = .ok (.iconst 0, 1) := by decide +kernel
theorem d_W_isSame_39 : decode c_W_isSame 39 = .ok (.ireturn, 1) := by decide +kernel
theorem d_W_isSame_40 : decode c_W_isSame 40 = .ok (.iinc 3 1, 3) := by decide +kernel
theorem d_W_isSame_43 : decode c_W_isSame 43 = .ok (.goto (-27), 3) := by decide +kernel
theorem d_W_isSame_46 : decode c_W_isSame 46 = .ok (.iconst 1, 1) := by decide +kernel
theorem d_W_isSame_47 : decode c_W_isSame 47 = .ok (.ireturn, 1) := by decide +kernel
abbrev w_W_isSame : List Cond := mx_ws y_W_isSame c_W_isSame 4 (some .boolean)
abbrev rm_W_isSame : Room := { frames := 20, cells := 0, slots := 0, locals := 400 }
def t_W_isSame  (P : Option mx_V → mx_F → Prop) : List (Nat × mx_O) := [
  (0, mx_aload 0 1),
  (1, mx_iload 1 2),
  (2, mx_cv1 5 sp_W_lengthOf 0 0 5),
  (5, mx_aload 2 6),
  (6, mx_cv0 3 sp_R_length 0 0 9),
  (9, mx_ic_eq 14 12),
  (12, mx_push (.inl (nI 0)) 13),
  (13, mx_zret P),
  (14, mx_push (.inl (nI 0)) 15),
  (15, mx_istore 3 16),
  (16, mx_iload 3 17),
  (17, mx_aload 2 18),
  (18, mx_cv0 3 sp_R_length 0 0 21),
  (21, mx_ic_ge 46 24),
  (24, mx_aload 0 25),
  (25, mx_iload 1 26),
  (26, mx_iload 3 27),
  (27, mx_cv2 5 sp_W_letterOf 0 0 30),
  (30, mx_aload 2 31),
  (31, mx_iload 3 32),
  (32, mx_cv1 3 sp_R_letterAt 0 0 35),
  (35, mx_ic_eq 40 38),
  (38, mx_push (.inl (nI 0)) 39),
  (39, mx_zret P),
  (40, mx_iinc 3 (nI 1) 43),
  (43, mx_goto 16),
  (46, mx_push (.inl (nI 1)) 47),
  (47, mx_zret P)]
set_option maxRecDepth 20000 in
theorem a_W_isSame  {p : Program} {l : Launch} {e : Env} {s : State} {m : MethodId} {args : Array Value} {below : List Frame} {meth : Method} {c : Code} {D : va_G} {tc : Nat → ClassId} {tb : Nat → Nat} {sz : Nat} {a0 : Nat → Nat} {G : mx_F} {P : Option mx_V → mx_F → Prop}  (C : mx_C p s m args c c_W_isSame y_W_isSame.cls w_W_isSame D tc tb (mx_A a0 G sz) 4 (mx_Ok0 a0 G)) (hr : meth.sig.returnType = (some .boolean)) (hlk : meth.locks = false) : mx_all (mx_W p l e rm_W_isSame s m args below meth c (MQ below (mx_Q D tc tb a0 G sz P) args s 0 0 (mx_A a0 G sz)) D tc tb (mx_A a0 G sz) 4 (mx_Ok0 a0 G)) (t_W_isSame  P) :=
  ⟨mx_s_aload_n C d_W_isSame_0 rfl,
  mx_s_iload_n C d_W_isSame_1 rfl,
  mx_s_cv1 C (m_W_lengthOf l) rfl (cwV 1 C.2.2.2.2.1 (mx_gV (fun w h => List.mem_cons_of_mem _ h) (mx_in0 (by decide +kernel) rfl) (mx_in0 (by decide +kernel) rfl) (mx_in0 (by decide +kernel) rfl) (mx_in0 (by decide +kernel) rfl) (mx_in0 (by decide +kernel) rfl)) rfl rfl rfl (by decide +kernel) ⟨by decide, by decide⟩) d_W_isSame_2 ⟨Nat.zero_le _, Nat.zero_le _⟩,
  mx_s_aload_n C d_W_isSame_5 rfl,
  mx_s_cv0 C (m_R_length l) rfl (cwV 0 C.2.2.2.2.1 (mx_gV (fun w h => List.mem_cons_of_mem _ h) (mx_in0 (by decide +kernel) rfl) (mx_in0 (by decide +kernel) rfl) (mx_in0 (by decide +kernel) rfl) (mx_in0 (by decide +kernel) rfl) (mx_in0 (by decide +kernel) rfl)) rfl rfl rfl (by decide +kernel) ⟨by decide, by decide⟩) d_W_isSame_6 ⟨Nat.zero_le _, Nat.zero_le _⟩,
  mx_s_ic_eq C d_W_isSame_9 (by decide),
  mx_s_iconst C d_W_isSame_12 (by decide),
  mx_s_zret C hr hlk d_W_isSame_13,
  mx_s_iconst C d_W_isSame_14 (by decide),
  mx_s_istore_n C d_W_isSame_15 rfl (by decide),
  mx_s_iload_n C d_W_isSame_16 rfl,
  mx_s_aload_n C d_W_isSame_17 rfl,
  mx_s_cv0 C (m_R_length l) rfl (cwV 0 C.2.2.2.2.1 (mx_gV (fun w h => List.mem_cons_of_mem _ h) (mx_in0 (by decide +kernel) rfl) (mx_in0 (by decide +kernel) rfl) (mx_in0 (by decide +kernel) rfl) (mx_in0 (by decide +kernel) rfl) (mx_in0 (by decide +kernel) rfl)) rfl rfl rfl (by decide +kernel) ⟨by decide, by decide⟩) d_W_isSame_18 ⟨Nat.zero_le _, Nat.zero_le _⟩,
  mx_s_ic_ge C d_W_isSame_21 (by decide),
  mx_s_aload_n C d_W_isSame_24 rfl,
  mx_s_iload_n C d_W_isSame_25 rfl,
  mx_s_iload_n C d_W_isSame_26 rfl,
  mx_s_cv2 C (m_W_letterOf l) rfl (cwV 2 C.2.2.2.2.1 (mx_gV (fun w h => List.mem_cons_of_mem _ h) (mx_in0 (by decide +kernel) rfl) (mx_in0 (by decide +kernel) rfl) (mx_in0 (by decide +kernel) rfl) (mx_in0 (by decide +kernel) rfl) (mx_in0 (by decide +kernel) rfl)) rfl rfl rfl (by decide +kernel) ⟨by decide, by decide⟩) d_W_isSame_27 ⟨Nat.zero_le _, Nat.zero_le _⟩,
  mx_s_aload_n C d_W_isSame_30 rfl,
  mx_s_iload_n C d_W_isSame_31 rfl,
  mx_s_cv1 C (m_R_letterAt l) rfl (cwV 1 C.2.2.2.2.1 (mx_gV (fun w h => List.mem_cons_of_mem _ h) (mx_in0 (by decide +kernel) rfl) (mx_in0 (by decide +kernel) rfl) (mx_in0 (by decide +kernel) rfl) (mx_in0 (by decide +kernel) rfl) (mx_in0 (by decide +kernel) rfl)) rfl rfl rfl (by decide +kernel) ⟨by decide, by decide⟩) d_W_isSame_32 ⟨Nat.zero_le _, Nat.zero_le _⟩,
  mx_s_ic_eq C d_W_isSame_35 (by decide),
  mx_s_iconst C d_W_isSame_38 (by decide),
  mx_s_zret C hr hlk d_W_isSame_39,
  mx_s_iinc C d_W_isSame_40 (by decide) (by decide),
  mx_s_goto C d_W_isSame_43 (by decide),
  mx_s_iconst C d_W_isSame_46 (by decide),
  mx_s_zret C hr hlk d_W_isSame_47,
  trivial⟩
set_option maxRecDepth 20000 in
set_option maxHeartbeats 2000000 in
theorem m_W_isSame (l : Launch) : mx_M l y_W_isSame w_W_isSame rm_W_isSame sp_W_isSame := by
  intro D tc tb ad As F P sz0 h
  obtain ⟨rn, n, j, S, rl, lt, st, rfl, h1, h2, h3, h4, h5, hr, hw, hj, ho, hz⟩ := h
  refine mx_run (cc := c_W_isSame) (maxL := 4) (ret := (some .boolean)) (tab := t_W_isSame  P) (by decide) rfl D tc tb ad _ F P sz0 (Nat.le_of_ble_eq_true rfl) (fun p e s m args below meth c C hr hlk => a_W_isSame  C hr hlk) ?_
  intro Rr go
  have hF := mx_as5 h1 h2 h3 h4 h5
  rw [hF]
  have hn := hw.1
  have hS1 := wok_lt hw (show j + 1 ≤ n by omega)
  refine go rfl ⟨_, rfl, ?_⟩
  refine go rfl ⟨_, rfl, ?_⟩
  refine go rfl ⟨_, _, _, _, rfl, rfl, rfl, rfl, rfl, ⟨n, S, st, _, rfl, rfl, rfl, hw, fun j' hj' e => ?_, fun hc => ?_⟩⟩
  rotate_left
  · exfalso
    rcases hc with hc | hc
    · exact nI_pos (by omega) hc
    · exact absurd ((nI_leI (by omega) (by omega)).mp hc) (by omega)
  have ej := (nI_eq (by omega) (by omega)).mp e
  subst ej
  refine go rfl ⟨_, rfl, ?_⟩
  refine go rfl ⟨_, _, _, rfl, rfl, rfl, rfl, rfl, ⟨rn, rfl, rfl, ?_⟩⟩
  refine go rfl ⟨_, _, _, rfl, fun c1 => ?_, fun c1 => ?_⟩
  rotate_left
  · refine go rfl ?_
    refine go rfl ⟨_, rfl, rfl, rfl, (Or.inl rfl), ?_⟩
    rw [← hF]
    exact hz (fun h => c1 (by rw [h.1]))
  have hlen : S (j + 1) - S j = rn := (nI_eq (by omega) (by omega)).mp c1
  have loop : ∀ (k i : Nat), i + k = rn → (∀ q, q < i → lt (S j + q) = rl q) → Rr 16 [some (mx_r 3), some (mx_i (nI j)), some (mx_r 1), some (mx_i (nI i))] [] (mx_put (mx_put (mx_put (mx_put (mx_put F 1 (e_R rn)) 2 (mx_ia 12 rl)) 3 (e_W n)) 4 (mx_ia 360 lt)) 5 (mx_ia 61 st)) 0 0 := by
    intro k
    induction k with
    | zero =>
      intro i hi hq
      refine go rfl ⟨_, rfl, ?_⟩
      refine go rfl ⟨_, rfl, ?_⟩
      refine go rfl ⟨_, _, _, rfl, rfl, rfl, rfl, rfl, ⟨rn, rfl, rfl, ?_⟩⟩
      refine go rfl ⟨_, _, _, rfl, fun c => ?_, fun c => ?_⟩
      · refine go rfl ?_
        refine go rfl ⟨_, rfl, rfl, rfl, (Or.inr rfl), ?_⟩
        rw [← hF]
        exact ho ⟨hlen, fun q hq2 => hq q (by omega)⟩
      · exact absurd (nI_le (by omega) (by omega)) c
    | succ k ih =>
      intro i hi hq
      refine go rfl ⟨_, rfl, ?_⟩
      refine go rfl ⟨_, rfl, ?_⟩
      refine go rfl ⟨_, _, _, rfl, rfl, rfl, rfl, rfl, ⟨rn, rfl, rfl, ?_⟩⟩
      refine go rfl ⟨_, _, _, rfl, fun c => ?_, fun c => ?_⟩
      · exact absurd ((nI_leI (by omega) (by omega)).mp c) (by omega)
      refine go rfl ⟨_, rfl, ?_⟩
      refine go rfl ⟨_, rfl, ?_⟩
      refine go rfl ⟨_, rfl, ?_⟩
      refine go rfl ⟨_, _, _, _, _, rfl, rfl, rfl, rfl, rfl, ⟨n, S, st, lt, _, _, rfl, rfl, rfl, rfl, hw, fun j2 k2 hj2 hk2 e1 e2 => ?_, fun hc => absurd ⟨j, i, hj, by omega, rfl, rfl⟩ hc⟩⟩
      have e1 := (nI_eq (by omega) (by omega)).mp e1
      have hS3 := wok_lt hw (show j2 + 1 ≤ n by omega)
      have e2 := (nI_eq (by omega) (by omega)).mp e2
      subst e1
      subst e2
      refine go rfl ⟨_, rfl, ?_⟩
      refine go rfl ⟨_, rfl, ?_⟩
      refine go rfl ⟨_, _, _, _, rfl, rfl, rfl, rfl, rfl, ⟨rn, rl, _, rfl, rfl, rfl, hr, fun k2 hk2 e2 => ?_, fun hc => ?_⟩⟩
      rotate_left
      · exfalso
        rcases hc with hc | hc
        · exact nI_pos (by omega) hc
        · exact absurd ((nI_leI (by omega) (by omega)).mp hc) (by omega)
      have e2 := (nI_eq (by omega) (by omega)).mp e2
      subst e2
      refine go rfl ⟨_, _, _, rfl, fun d => ?_, fun d => ?_⟩
      · refine go rfl ⟨_, rfl, ?_⟩
        refine go rfl ?_
        rw [nI_add]
        refine ih (i + 1) (by omega) (fun q hq2 => ?_)
        rcases Nat.lt_or_ge q i with w | w
        · exact hq q w
        · rw [show q = i by omega]
          exact d
      · refine go rfl ?_
        refine go rfl ⟨_, rfl, rfl, rfl, (Or.inl rfl), ?_⟩
        rw [← hF]
        exact hz (fun h => d (h.2 i (by omega)))
  refine go rfl ?_
  refine go rfl ⟨_, _, rfl, ?_⟩
  exact loop rn 0 (by omega) (fun q hq => absurd hq (Nat.not_lt_zero q))
-- LadderWords$Words.knownNumberOf(LLadderWords$Row;)I
def sp_W_knownNumberOf : mx_Sp := fun As F P => ∃ (rn n : Nat) (S : Nat → Nat) (rl lt st : Nat → Int32), As = [mx_r 3, mx_r 1] ∧ F 1 = some (e_R rn) ∧ F 2 = some (mx_ia 12 rl) ∧ F 3 = some (e_W n) ∧ F 4 = some (mx_ia 360 lt) ∧ F 5 = some (mx_ia 61 st) ∧ rn ≤ 12 ∧ wok n S st ∧ (∀ j, j < n → wsame S lt rl rn j → (∀ k, k < j → ¬ wsame S lt rl rn k) → P (some (mx_i (nI j))) F) ∧ ((∀ j, j < n → ¬ wsame S lt rl rn j) → P (some (mx_i (-1))) F)
theorem d_W_knownNumberOf_0 : decode c_W_knownNumberOf 0 = .ok (.iconst 0, 1) := by decide +kernel
theorem d_W_knownNumberOf_1 : decode c_W_knownNumberOf 1 = .ok (.istore_n 2, 1) := by decide +kernel
theorem d_W_knownNumberOf_2 : decode c_W_knownNumberOf 2 = .ok (.iload_n 2, 1) := by decide +kernel
theorem d_W_knownNumberOf_3 : decode c_W_knownNumberOf 3 = .ok (.aload_n 0, 1) := by decide +kernel
theorem d_W_knownNumberOf_4 : decode c_W_knownNumberOf 4 = .ok (.getfield 18, 3) := by decide +kernel
theorem d_W_knownNumberOf_7 : decode c_W_knownNumberOf 7 = .ok (.if_icmp .ge 20, 3) := by decide +kernel
theorem d_W_knownNumberOf_10 : decode c_W_knownNumberOf 10 = .ok (.aload_n 0, 1) := by decide +kernel
theorem d_W_knownNumberOf_11 : decode c_W_knownNumberOf 11 = .ok (.iload_n 2, 1) := by decide +kernel
theorem d_W_knownNumberOf_12 : decode c_W_knownNumberOf 12 = .ok (.aload_n 1, 1) := by decide +kernel
theorem d_W_knownNumberOf_13 : decode c_W_knownNumberOf 13 = .ok (.invokevirtual 39, 3) := by decide +kernel
theorem d_W_knownNumberOf_16 : decode c_W_knownNumberOf 16 = .ok (.ifCond .eq 5, 3) := by decide +kernel
theorem d_W_knownNumberOf_19 : decode c_W_knownNumberOf 19 = .ok (.iload_n 2, 1) := by decide +kernel
theorem d_W_knownNumberOf_20 : decode c_W_knownNumberOf 20 = .ok (.ireturn, 1) := by decide +kernel
theorem d_W_knownNumberOf_21 : decode c_W_knownNumberOf 21 = .ok (.iinc 2 1, 3) := by decide +kernel
theorem d_W_knownNumberOf_24 : decode c_W_knownNumberOf 24 = .ok (.goto (-22), 3) := by decide +kernel
theorem d_W_knownNumberOf_27 : decode c_W_knownNumberOf 27 = .ok (.iconst (-1), 1) := by decide +kernel
theorem d_W_knownNumberOf_28 : decode c_W_knownNumberOf 28 = .ok (.ireturn, 1) := by decide +kernel
abbrev w_W_knownNumberOf : List Cond := mx_ws y_W_knownNumberOf c_W_knownNumberOf 3 (some .int)
abbrev rm_W_knownNumberOf : Room := { frames := 30, cells := 0, slots := 0, locals := 600 }
def t_W_knownNumberOf  (P : Option mx_V → mx_F → Prop) : List (Nat × mx_O) := [
  (0, mx_push (.inl (nI 0)) 1),
  (1, mx_istore 2 2),
  (2, mx_iload 2 3),
  (3, mx_aload 0 4),
  (4, mx_get 5 2 7),
  (7, mx_ic_ge 27 10),
  (10, mx_aload 0 11),
  (11, mx_iload 2 12),
  (12, mx_aload 1 13),
  (13, mx_cv2 5 sp_W_isSame 0 0 16),
  (16, mx_if_eq 21 19),
  (19, mx_iload 2 20),
  (20, mx_iret P),
  (21, mx_iinc 2 (nI 1) 24),
  (24, mx_goto 2),
  (27, mx_push (.inl (-1)) 28),
  (28, mx_iret P)]
set_option maxRecDepth 20000 in
theorem a_W_knownNumberOf  {p : Program} {l : Launch} {e : Env} {s : State} {m : MethodId} {args : Array Value} {below : List Frame} {meth : Method} {c : Code} {D : va_G} {tc : Nat → ClassId} {tb : Nat → Nat} {sz : Nat} {a0 : Nat → Nat} {G : mx_F} {P : Option mx_V → mx_F → Prop}  (C : mx_C p s m args c c_W_knownNumberOf y_W_knownNumberOf.cls w_W_knownNumberOf D tc tb (mx_A a0 G sz) 3 (mx_Ok0 a0 G)) (hr : meth.sig.returnType = (some .int)) (hlk : meth.locks = false) : mx_all (mx_W p l e rm_W_knownNumberOf s m args below meth c (MQ below (mx_Q D tc tb a0 G sz P) args s 0 0 (mx_A a0 G sz)) D tc tb (mx_A a0 G sz) 3 (mx_Ok0 a0 G)) (t_W_knownNumberOf  P) :=
  ⟨mx_s_iconst C d_W_knownNumberOf_0 (by decide),
  mx_s_istore_n C d_W_knownNumberOf_1 rfl (by decide),
  mx_s_iload_n C d_W_knownNumberOf_2 rfl,
  mx_s_aload_n C d_W_knownNumberOf_3 rfl,
  mx_s_get (T := T_W) (N := 3) (k := 2) C (fun w h => List.mem_cons_of_mem _ (in_W w h)) rfl (by decide) (List.mem_cons_of_mem _ (mx_in0 (by decide +kernel) rfl)) rfl d_W_knownNumberOf_4,
  mx_s_ic_ge C d_W_knownNumberOf_7 (by decide),
  mx_s_aload_n C d_W_knownNumberOf_10 rfl,
  mx_s_iload_n C d_W_knownNumberOf_11 rfl,
  mx_s_aload_n C d_W_knownNumberOf_12 rfl,
  mx_s_cv2 C (m_W_isSame l) rfl (cwV 2 C.2.2.2.2.1 (mx_gV (fun w h => List.mem_cons_of_mem _ h) (mx_in0 (by decide +kernel) rfl) (mx_in0 (by decide +kernel) rfl) (mx_in0 (by decide +kernel) rfl) (mx_in0 (by decide +kernel) rfl) (mx_in0 (by decide +kernel) rfl)) rfl rfl rfl (by decide +kernel) ⟨by decide, by decide⟩) d_W_knownNumberOf_13 ⟨Nat.zero_le _, Nat.zero_le _⟩,
  mx_s_if_eq C d_W_knownNumberOf_16 (by decide),
  mx_s_iload_n C d_W_knownNumberOf_19 rfl,
  mx_s_iret C hr hlk d_W_knownNumberOf_20,
  mx_s_iinc C d_W_knownNumberOf_21 (by decide) (by decide),
  mx_s_goto C d_W_knownNumberOf_24 (by decide),
  mx_s_iconst C d_W_knownNumberOf_27 (by decide),
  mx_s_iret C hr hlk d_W_knownNumberOf_28,
  trivial⟩
set_option maxRecDepth 20000 in
set_option maxHeartbeats 2000000 in
theorem m_W_knownNumberOf (l : Launch) : mx_M l y_W_knownNumberOf w_W_knownNumberOf rm_W_knownNumberOf sp_W_knownNumberOf := by
  intro D tc tb ad As F P sz0 h
  obtain ⟨rn, n, S, rl, lt, st, rfl, h1, h2, h3, h4, h5, hr, hw, ho, hz⟩ := h
  refine mx_run (cc := c_W_knownNumberOf) (maxL := 3) (ret := (some .int)) (tab := t_W_knownNumberOf  P) (by decide) rfl D tc tb ad _ F P sz0 (Nat.le_of_ble_eq_true rfl) (fun p e s m args below meth c C hr hlk => a_W_knownNumberOf  C hr hlk) ?_
  intro Rr go
  have hF := mx_as5 h1 h2 h3 h4 h5
  rw [hF]
  have hn := hw.1
  have loop : ∀ (k i : Nat), i + k = n → (∀ q, q < i → ¬ wsame S lt rl rn q) → Rr 2 [some (mx_r 3), some (mx_r 1), some (mx_i (nI i))] [] (mx_put (mx_put (mx_put (mx_put (mx_put F 1 (e_R rn)) 2 (mx_ia 12 rl)) 3 (e_W n)) 4 (mx_ia 360 lt)) 5 (mx_ia 61 st)) 0 0 := by
    intro k
    induction k with
    | zero =>
      intro i hi hq
      refine go rfl ⟨_, rfl, ?_⟩
      refine go rfl ⟨_, rfl, ?_⟩
      refine go rfl ⟨_, _, _, _, rfl, rfl, rfl, ?_⟩
      refine go rfl ⟨_, _, _, rfl, fun c => ?_, fun c => ?_⟩
      · refine go rfl ?_
        refine go rfl ⟨_, rfl, rfl, rfl, ?_⟩
        rw [← hF]
        exact hz (fun q hq2 => hq q (by omega))
      · exact absurd (nI_le (by omega) (by omega)) c
    | succ k ih =>
      intro i hi hq
      refine go rfl ⟨_, rfl, ?_⟩
      refine go rfl ⟨_, rfl, ?_⟩
      refine go rfl ⟨_, _, _, _, rfl, rfl, rfl, ?_⟩
      refine go rfl ⟨_, _, _, rfl, fun c => ?_, fun c => ?_⟩
      · exact absurd ((nI_leI (by omega) (by omega)).mp c) (by omega)
      refine go rfl ⟨_, rfl, ?_⟩
      refine go rfl ⟨_, rfl, ?_⟩
      refine go rfl ⟨_, rfl, ?_⟩
      refine go rfl ⟨_, _, _, _, _, rfl, rfl, rfl, rfl, rfl, ⟨rn, n, i, S, rl, lt, st, rfl, rfl, rfl, rfl, rfl, rfl, hr, hw, by omega, fun hs => ?_, fun hs => ?_⟩⟩
      · refine go rfl ⟨_, _, rfl, fun d => ?_, fun d => ?_⟩
        · exact absurd d (by decide)
        refine go rfl ⟨_, rfl, ?_⟩
        refine go rfl ⟨_, rfl, rfl, rfl, ?_⟩
        rw [← hF]
        exact ho i (by omega) hs hq
      · refine go rfl ⟨_, _, rfl, fun d => ?_, fun d => ?_⟩
        · refine go rfl ⟨_, rfl, ?_⟩
          refine go rfl ?_
          rw [nI_add]
          refine ih (i + 1) (by omega) (fun q hq2 => ?_)
          rcases Nat.lt_or_ge q i with w | w
          · exact hq q w
          · rw [show q = i by omega]
            exact hs
        · exact absurd rfl d
  refine go rfl ?_
  refine go rfl ⟨_, _, rfl, ?_⟩
  exact loop n 0 (by omega) (fun q hq => absurd hq (Nat.not_lt_zero q))
end
section
-- LadderWords$Words.append(LLadderWords$Row;)V
def sp_W_append : mx_Sp := fun As F P => ∃ (rn n : Nat) (S : Nat → Nat) (rl lt st : Nat → Int32), As = [mx_r 3, mx_r 1] ∧ F 1 = some (e_R rn) ∧ F 2 = some (mx_ia 12 rl) ∧ F 3 = some (e_W n) ∧ F 4 = some (mx_ia 360 lt) ∧ F 5 = some (mx_ia 61 st) ∧ rn ≤ 12 ∧ wok n S st ∧ n < 60 ∧ rn ≤ 6 ∧ ∀ lt', (∀ q, q < S n → lt' q = lt q) → (∀ i, i < rn → lt' (S n + i) = rl i) → P none (mx_put (mx_put (mx_put F 4 (mx_ia 360 lt')) 3 (e_W (n + 1))) 5 (mx_ia 61 (upd st (n + 1) (nI (S n + rn)))))
theorem d_W_append_0 : decode c_W_append 0 = .ok (.aload_n 0, 1) := by decide +kernel
theorem d_W_append_1 : decode c_W_append 1 = .ok (.getfield 15, 3) := by decide +kernel
theorem d_W_append_4 : decode c_W_append 4 = .ok (.aload_n 0, 1) := by decide +kernel
theorem d_W_append_5 : decode c_W_append 5 = .ok (.getfield 18, 3) := by decide +kernel
theorem d_W_append_8 : decode c_W_append 8 = .ok (.iaload, 1) := by decide +kernel
theorem d_W_append_9 : decode c_W_append 9 = .ok (.istore_n 2, 1) := by decide +kernel
theorem d_W_append_10 : decode c_W_append 10 = .ok (.iconst 0, 1) := by decide +kernel
theorem d_W_append_11 : decode c_W_append 11 = .ok (.istore_n 3, 1) := by decide +kernel
theorem d_W_append_12 : decode c_W_append 12 = .ok (.iload_n 3, 1) := by decide +kernel
theorem d_W_append_13 : decode c_W_append 13 = .ok (.aload_n 1, 1) := by decide +kernel
theorem d_W_append_14 : decode c_W_append 14 = .ok (.invokevirtual 26, 3) := by decide +kernel
theorem d_W_append_17 : decode c_W_append 17 = .ok (.if_icmp .ge 22, 3) := by decide +kernel
theorem d_W_append_20 : decode c_W_append 20 = .ok (.aload_n 0, 1) := by decide +kernel
theorem d_W_append_21 : decode c_W_append 21 = .ok (.getfield 9, 3) := by decide +kernel
theorem d_W_append_24 : decode c_W_append 24 = .ok (.iload_n 2, 1) := by decide +kernel
theorem d_W_append_25 : decode c_W_append 25 = .ok (.iload_n 3, 1) := by decide +kernel
theorem d_W_append_26 : decode c_W_append 26 = .ok (.iadd, 1) := by decide +kernel
theorem d_W_append_27 : decode c_W_append 27 = .ok (.aload_n 1, 1) := by decide +kernel
theorem d_W_append_28 : decode c_W_append 28 = .ok (.iload_n 3, 1) := by decide +kernel
theorem d_W_append_29 : decode c_W_append 29 = .ok (.invokevirtual 51, 3) := by decide +kernel
theorem d_W_append_32 : decode c_W_append 32 = .ok (.iastore, 1) := by decide +kernel
theorem d_W_append_33 : decode c_W_append 33 = .ok (.iinc 3 1, 3) := by decide +kernel
theorem d_W_append_36 : decode c_W_append 36 = .ok (.goto (-24), 3) := by decide +kernel
theorem d_W_append_39 : decode c_W_append 39 = .ok (.aload_n 0, 1) := by decide +kernel
theorem d_W_append_40 : decode c_W_append 40 = .ok (.dup, 1) := by decide +kernel
theorem d_W_append_41 : decode c_W_append 41 = .ok (.getfield 18, 3) := by decide +kernel
theorem d_W_append_44 : decode c_W_append 44 = .ok (.iconst 1, 1) := by decide +kernel
theorem d_W_append_45 : decode c_W_append 45 = .ok (.iadd, 1) := by decide +kernel
theorem d_W_append_46 : decode c_W_append 46 = .ok (.putfield 18, 3) := by decide +kernel
theorem d_W_append_49 : decode c_W_append 49 = .ok (.aload_n 0, 1) := by decide +kernel
theorem d_W_append_50 : decode c_W_append 50 = .ok (.getfield 15, 3) := by decide +kernel
theorem d_W_append_53 : decode c_W_append 53 = .ok (.aload_n 0, 1) := by decide +kernel
theorem d_W_append_54 : decode c_W_append 54 = .ok (.getfield 18, 3) := by decide +kernel
theorem d_W_append_57 : decode c_W_append 57 = .ok (.iload_n 2, 1) := by decide +kernel
theorem d_W_append_58 : decode c_W_append 58 = .ok (.aload_n 1, 1) := by decide +kernel
theorem d_W_append_59 : decode c_W_append 59 = .ok (.invokevirtual 26, 3) := by decide +kernel
theorem d_W_append_62 : decode c_W_append 62 = .ok (.iadd, 1) := by decide +kernel
theorem d_W_append_63 : decode c_W_append 63 = .ok (.iastore, 1) := by decide +kernel
theorem d_W_append_64 : decode c_W_append 64 = .ok (.return_, 1) := by decide +kernel
abbrev w_W_append : List Cond := mx_ws y_W_append c_W_append 4 none
abbrev rm_W_append : Room := { frames := 20, cells := 0, slots := 0, locals := 400 }
def t_W_append  (P : Option mx_V → mx_F → Prop) : List (Nat × mx_O) := [
  (0, mx_aload 0 1),
  (1, mx_get 5 1 4),
  (4, mx_aload 0 5),
  (5, mx_get 5 2 8),
  (8, mx_iald 9),
  (9, mx_istore 2 10),
  (10, mx_push (.inl (nI 0)) 11),
  (11, mx_istore 3 12),
  (12, mx_iload 3 13),
  (13, mx_aload 1 14),
  (14, mx_cv0 3 sp_R_length 0 0 17),
  (17, mx_ic_ge 39 20),
  (20, mx_aload 0 21),
  (21, mx_get 5 0 24),
  (24, mx_iload 2 25),
  (25, mx_iload 3 26),
  (26, mx_iadd 27),
  (27, mx_aload 1 28),
  (28, mx_iload 3 29),
  (29, mx_cv1 3 sp_R_letterAt 0 0 32),
  (32, mx_iast 33),
  (33, mx_iinc 3 (nI 1) 36),
  (36, mx_goto 12),
  (39, mx_aload 0 40),
  (40, mx_dup 41),
  (41, mx_get 5 2 44),
  (44, mx_push (.inl (nI 1)) 45),
  (45, mx_iadd 46),
  (46, mx_puti 5 2 49),
  (49, mx_aload 0 50),
  (50, mx_get 5 1 53),
  (53, mx_aload 0 54),
  (54, mx_get 5 2 57),
  (57, mx_iload 2 58),
  (58, mx_aload 1 59),
  (59, mx_cv0 3 sp_R_length 0 0 62),
  (62, mx_iadd 63),
  (63, mx_iast 64),
  (64, mx_ret P)]
set_option maxRecDepth 20000 in
theorem a_W_append  {p : Program} {l : Launch} {e : Env} {s : State} {m : MethodId} {args : Array Value} {below : List Frame} {meth : Method} {c : Code} {D : va_G} {tc : Nat → ClassId} {tb : Nat → Nat} {sz : Nat} {a0 : Nat → Nat} {G : mx_F} {P : Option mx_V → mx_F → Prop}  (C : mx_C p s m args c c_W_append y_W_append.cls w_W_append D tc tb (mx_A a0 G sz) 4 (mx_Ok0 a0 G)) (hr : meth.sig.returnType = none) (hlk : meth.locks = false) : mx_all (mx_W p l e rm_W_append s m args below meth c (MQ below (mx_Q D tc tb a0 G sz P) args s 0 0 (mx_A a0 G sz)) D tc tb (mx_A a0 G sz) 4 (mx_Ok0 a0 G)) (t_W_append  P) :=
  ⟨mx_s_aload_n C d_W_append_0 rfl,
  mx_s_get (T := T_W) (N := 3) (k := 1) C (fun w h => List.mem_cons_of_mem _ (in_W w h)) rfl (by decide) (List.mem_cons_of_mem _ (mx_in0 (by decide +kernel) rfl)) rfl d_W_append_1,
  mx_s_aload_n C d_W_append_4 rfl,
  mx_s_get (T := T_W) (N := 3) (k := 2) C (fun w h => List.mem_cons_of_mem _ (in_W w h)) rfl (by decide) (List.mem_cons_of_mem _ (mx_in0 (by decide +kernel) rfl)) rfl d_W_append_5,
  mx_s_iald C d_W_append_8,
  mx_s_istore_n C d_W_append_9 rfl (by decide),
  mx_s_iconst C d_W_append_10 (by decide),
  mx_s_istore_n C d_W_append_11 rfl (by decide),
  mx_s_iload_n C d_W_append_12 rfl,
  mx_s_aload_n C d_W_append_13 rfl,
  mx_s_cv0 C (m_R_length l) rfl (cwV 0 C.2.2.2.2.1 (mx_gV (fun w h => List.mem_cons_of_mem _ h) (mx_in0 (by decide +kernel) rfl) (mx_in0 (by decide +kernel) rfl) (mx_in0 (by decide +kernel) rfl) (mx_in0 (by decide +kernel) rfl) (mx_in0 (by decide +kernel) rfl)) rfl rfl rfl (by decide +kernel) ⟨by decide, by decide⟩) d_W_append_14 ⟨Nat.zero_le _, Nat.zero_le _⟩,
  mx_s_ic_ge C d_W_append_17 (by decide),
  mx_s_aload_n C d_W_append_20 rfl,
  mx_s_get (T := T_W) (N := 3) (k := 0) C (fun w h => List.mem_cons_of_mem _ (in_W w h)) rfl (by decide) (List.mem_cons_of_mem _ (mx_in0 (by decide +kernel) rfl)) rfl d_W_append_21,
  mx_s_iload_n C d_W_append_24 rfl,
  mx_s_iload_n C d_W_append_25 rfl,
  mx_s_iadd C d_W_append_26,
  mx_s_aload_n C d_W_append_27 rfl,
  mx_s_iload_n C d_W_append_28 rfl,
  mx_s_cv1 C (m_R_letterAt l) rfl (cwV 1 C.2.2.2.2.1 (mx_gV (fun w h => List.mem_cons_of_mem _ h) (mx_in0 (by decide +kernel) rfl) (mx_in0 (by decide +kernel) rfl) (mx_in0 (by decide +kernel) rfl) (mx_in0 (by decide +kernel) rfl) (mx_in0 (by decide +kernel) rfl)) rfl rfl rfl (by decide +kernel) ⟨by decide, by decide⟩) d_W_append_29 ⟨Nat.zero_le _, Nat.zero_le _⟩,
  mx_s_iast C d_W_append_32,
  mx_s_iinc C d_W_append_33 (by decide) (by decide),
  mx_s_goto C d_W_append_36 (by decide),
  mx_s_aload_n C d_W_append_39 rfl,
  mx_s_dup C d_W_append_40,
  mx_s_get (T := T_W) (N := 3) (k := 2) C (fun w h => List.mem_cons_of_mem _ (in_W w h)) rfl (by decide) (List.mem_cons_of_mem _ (mx_in0 (by decide +kernel) rfl)) rfl d_W_append_41,
  mx_s_iconst C d_W_append_44 (by decide),
  mx_s_iadd C d_W_append_45,
  mx_s_puti (T := T_W) (N := 3) (k := 2) C (fun w h => List.mem_cons_of_mem _ (in_W w h)) rfl ty_W ok_W nm_W (by decide) (List.mem_cons_of_mem _ (mx_in0 (by decide +kernel) rfl)) rfl rfl (ok_W 2 (by decide)) d_W_append_46,
  mx_s_aload_n C d_W_append_49 rfl,
  mx_s_get (T := T_W) (N := 3) (k := 1) C (fun w h => List.mem_cons_of_mem _ (in_W w h)) rfl (by decide) (List.mem_cons_of_mem _ (mx_in0 (by decide +kernel) rfl)) rfl d_W_append_50,
  mx_s_aload_n C d_W_append_53 rfl,
  mx_s_get (T := T_W) (N := 3) (k := 2) C (fun w h => List.mem_cons_of_mem _ (in_W w h)) rfl (by decide) (List.mem_cons_of_mem _ (mx_in0 (by decide +kernel) rfl)) rfl d_W_append_54,
  mx_s_iload_n C d_W_append_57 rfl,
  mx_s_aload_n C d_W_append_58 rfl,
  mx_s_cv0 C (m_R_length l) rfl (cwV 0 C.2.2.2.2.1 (mx_gV (fun w h => List.mem_cons_of_mem _ h) (mx_in0 (by decide +kernel) rfl) (mx_in0 (by decide +kernel) rfl) (mx_in0 (by decide +kernel) rfl) (mx_in0 (by decide +kernel) rfl) (mx_in0 (by decide +kernel) rfl)) rfl rfl rfl (by decide +kernel) ⟨by decide, by decide⟩) d_W_append_59 ⟨Nat.zero_le _, Nat.zero_le _⟩,
  mx_s_iadd C d_W_append_62,
  mx_s_iast C d_W_append_63,
  mx_s_ret C hr hlk d_W_append_64,
  trivial⟩
set_option maxRecDepth 20000 in
set_option maxHeartbeats 2000000 in
theorem m_W_append (l : Launch) : mx_M l y_W_append w_W_append rm_W_append sp_W_append := by
  intro D tc tb ad As F P sz0 h
  obtain ⟨rn, n, S, rl, lt, st, rfl, h1, h2, h3, h4, h5, hr, hw, hn, hr6, hp⟩ := h
  refine mx_run (cc := c_W_append) (maxL := 4) (ret := none) (tab := t_W_append  P) (by decide) rfl D tc tb ad _ F P sz0 (Nat.le_of_ble_eq_true rfl) (fun p e s m args below meth c C hr hlk => a_W_append  C hr hlk) ?_
  intro Rr go
  have hF := mx_as5 h1 h2 h3 h5 h4
  have hX := mx_as4 h1 h2 h3 h5
  rw [hF]
  have hS := wok_le hw n (Nat.le_refl n)
  have loop : ∀ (k i : Nat) (lt' : Nat → Int32), i + k = rn → (∀ q, q < S n → lt' q = lt q) → (∀ q, q < i → lt' (S n + q) = rl q) → Rr 12 [some (mx_r 3), some (mx_r 1), some (mx_i (nI (S n))), some (mx_i (nI i))] [] (mx_put (mx_put (mx_put (mx_put (mx_put F 1 (e_R rn)) 2 (mx_ia 12 rl)) 3 (e_W n)) 5 (mx_ia 61 st)) 4 (mx_ia 360 lt')) 0 0 := by
    intro k
    induction k with
    | zero =>
      intro i lt' hi ha hb
      refine go rfl ⟨_, rfl, ?_⟩
      refine go rfl ⟨_, rfl, ?_⟩
      refine go rfl ⟨_, _, _, rfl, rfl, rfl, rfl, rfl, ⟨rn, rfl, rfl, ?_⟩⟩
      refine go rfl ⟨_, _, _, rfl, fun c => ?_, fun c => ?_⟩
      · refine go rfl ⟨_, rfl, ?_⟩
        refine go rfl ⟨_, _, rfl, rfl, ?_⟩
        refine go rfl ⟨_, _, _, _, rfl, rfl, rfl, ?_⟩
        refine go rfl ?_
        refine go rfl ⟨_, _, _, rfl, ?_⟩
        rw [nI_add]
        refine go rfl ⟨_, _, _, _, rfl, rfl, (Nat.le_of_ble_eq_true rfl), ?_⟩
        refine go rfl ⟨_, rfl, ?_⟩
        refine go rfl ⟨_, _, _, _, rfl, rfl, rfl, ?_⟩
        refine go rfl ⟨_, rfl, ?_⟩
        refine go rfl ⟨_, _, _, _, rfl, rfl, rfl, ?_⟩
        refine go rfl ⟨_, rfl, ?_⟩
        refine go rfl ⟨_, rfl, ?_⟩
        refine go rfl ⟨_, _, _, rfl, rfl, rfl, rfl, rfl, ⟨rn, rfl, rfl, ?_⟩⟩
        refine go rfl ⟨_, _, _, rfl, ?_⟩
        rw [nI_add]
        refine go rfl ⟨_, _, _, _, _, _, rfl, rfl, (vp_in_nI (show n + 1 < 61 by omega) (by omega)), ?_⟩
        rw [nI_clamp (by omega)]
        refine go rfl ⟨rfl, rfl, rfl, ?_⟩
        rw [← hX]
        exact hp lt' ha (fun q hq => hb q (by omega))
      · exact absurd (nI_le (by omega) (by omega)) c
    | succ k ih =>
      intro i lt' hi ha hb
      refine go rfl ⟨_, rfl, ?_⟩
      refine go rfl ⟨_, rfl, ?_⟩
      refine go rfl ⟨_, _, _, rfl, rfl, rfl, rfl, rfl, ⟨rn, rfl, rfl, ?_⟩⟩
      refine go rfl ⟨_, _, _, rfl, fun c => ?_, fun c => ?_⟩
      · exact absurd ((nI_leI (by omega) (by omega)).mp c) (by omega)
      refine go rfl ⟨_, rfl, ?_⟩
      refine go rfl ⟨_, _, _, _, rfl, rfl, rfl, ?_⟩
      refine go rfl ⟨_, rfl, ?_⟩
      refine go rfl ⟨_, rfl, ?_⟩
      refine go rfl ⟨_, _, _, rfl, ?_⟩
      rw [nI_add]
      refine go rfl ⟨_, rfl, ?_⟩
      refine go rfl ⟨_, rfl, ?_⟩
      refine go rfl ⟨_, _, _, _, rfl, rfl, rfl, rfl, rfl, ⟨rn, rl, _, rfl, rfl, rfl, hr, fun k2 hk2 e2 => ?_, fun hc => ?_⟩⟩
      rotate_left
      · exfalso
        rcases hc with hc | hc
        · exact nI_pos (by omega) hc
        · exact absurd ((nI_leI (by omega) (by omega)).mp hc) (by omega)
      have e2 := (nI_eq (by omega) (by omega)).mp e2
      subst e2
      refine go rfl ⟨_, _, _, _, _, _, rfl, rfl, (vp_in_nI (show S n + i < 360 by omega) (by omega)), ?_⟩
      rw [nI_clamp (by omega), mx_pp]
      refine go rfl ⟨_, rfl, ?_⟩
      refine go rfl ?_
      rw [nI_add]
      refine ih (i + 1) _ (by omega) (fun q hq => ?_) (fun q hq => ?_)
      · rw [pk_un (by omega)]
        exact ha q hq
      · by_cases hqi : q = i
        · rw [hqi, pk_us]
        · rw [pk_un (by omega)]
          exact hb q (by omega)
  refine go rfl ⟨_, rfl, ?_⟩
  refine go rfl ⟨_, _, _, _, rfl, rfl, rfl, ?_⟩
  refine go rfl ⟨_, rfl, ?_⟩
  refine go rfl ⟨_, _, _, _, rfl, rfl, rfl, ?_⟩
  refine go rfl ⟨_, _, _, _, _, rfl, rfl, (vp_in_nI (show n < 61 by omega) (by omega)), ?_⟩
  rw [nI_clamp (by omega), hw.2.2.2 n (Nat.le_refl n)]
  refine go rfl ⟨_, _, rfl, ?_⟩
  refine go rfl ?_
  refine go rfl ⟨_, _, rfl, ?_⟩
  exact loop rn 0 lt (by omega) (fun _ _ => rfl) (fun q hq => absurd hq (Nat.not_lt_zero q))
-- LadderWords$Words.numberFor(LLadderWords$Row;)I
def sp_W_numberFor : mx_Sp := fun As F P => ∃ (rn n : Nat) (S : Nat → Nat) (rl lt st : Nat → Int32), As = [mx_r 3, mx_r 1] ∧ F 1 = some (e_R rn) ∧ F 2 = some (mx_ia 12 rl) ∧ F 3 = some (e_W n) ∧ F 4 = some (mx_ia 360 lt) ∧ F 5 = some (mx_ia 61 st) ∧ rn ≤ 12 ∧ wok n S st ∧ ((rn = 0 ∨ 6 < rn) → P (some (mx_i (-1))) F) ∧ (∀ j, 1 ≤ rn → rn ≤ 6 → j < n → wsame S lt rl rn j → (∀ k, k < j → ¬ wsame S lt rl rn k) → P (some (mx_i (nI j))) F) ∧ (1 ≤ rn → rn ≤ 6 → (∀ j, j < n → ¬ wsame S lt rl rn j) → 60 ≤ n → P (some (mx_i (-1))) F) ∧ (1 ≤ rn → rn ≤ 6 → (∀ j, j < n → ¬ wsame S lt rl rn j) → n < 60 → ∀ lt', (∀ q, q < S n → lt' q = lt q) → (∀ i, i < rn → lt' (S n + i) = rl i) → P (some (mx_i (nI n))) (mx_put (mx_put (mx_put F 4 (mx_ia 360 lt')) 3 (e_W (n + 1))) 5 (mx_ia 61 (upd st (n + 1) (nI (S n + rn))))))
theorem d_W_numberFor_0 : decode c_W_numberFor 0 = .ok (.aload_n 1, 1) := by decide +kernel
theorem d_W_numberFor_1 : decode c_W_numberFor 1 = .ok (.invokevirtual 26, 3) := by decide +kernel
theorem d_W_numberFor_4 : decode c_W_numberFor 4 = .ok (.ifCond .eq 12, 3) := by decide +kernel
theorem d_W_numberFor_7 : decode c_W_numberFor 7 = .ok (.aload_n 1, 1) := by decide +kernel
theorem d_W_numberFor_8 : decode c_W_numberFor 8 = .ok (.invokevirtual 26, 3) := by decide +kernel
theorem d_W_numberFor_11 : decode c_W_numberFor 11 = .ok (.bipush 6, 2) := by decide +kernel
theorem d_W_numberFor_13 : decode c_W_numberFor 13 = .ok (.if_icmp .le 5, 3) := by decide +kernel
theorem d_W_numberFor_16 : decode c_W_numberFor 16 = .ok (.iconst (-1), 1) := by decide +kernel
theorem d_W_numberFor_17 : decode c_W_numberFor 17 = .ok (.ireturn, 1) := by decide +kernel
theorem d_W_numberFor_18 : decode c_W_numberFor 18 = .ok (.aload_n 0, 1) := by decide +kernel
theorem d_W_numberFor_19 : decode c_W_numberFor 19 = .ok (.aload_n 1, 1) := by decide +kernel
theorem d_W_numberFor_20 : decode c_W_numberFor 20 = .ok (.invokevirtual 31, 3) := by decide +kernel
theorem d_W_numberFor_23 : decode c_W_numberFor 23 = .ok (.istore_n 2, 1) := by decide +kernel
theorem d_W_numberFor_24 : decode c_W_numberFor 24 = .ok (.iload_n 2, 1) := by decide +kernel
theorem d_W_numberFor_25 : decode c_W_numberFor 25 = .ok (.iconst (-1), 1) := by decide +kernel
theorem d_W_numberFor_26 : decode c_W_numberFor 26 = .ok (.if_icmp .ne 12, 3) := by decide +kernel
theorem d_W_numberFor_29 : decode c_W_numberFor 29 = .ok (.aload_n 0, 1) := by decide +kernel
theorem d_W_numberFor_30 : decode c_W_numberFor 30 = .ok (.getfield 18, 3) := by decide +kernel
theorem d_W_numberFor_33 : decode c_W_numberFor 33 = .ok (.bipush 60, 2) := by decide +kernel
theorem d_W_numberFor_35 : decode c_W_numberFor 35 = .ok (.if_icmp .lt 5, 3) := by decide +kernel
theorem d_W_numberFor_38 : decode c_W_numberFor 38 = .ok (.iload_n 2, 1) := by decide +kernel
theorem d_W_numberFor_39 : decode c_W_numberFor 39 = .ok (.ireturn, 1) := by decide +kernel
theorem d_W_numberFor_40 : decode c_W_numberFor 40 = .ok (.aload_n 0, 1) := by decide +kernel
theorem d_W_numberFor_41 : decode c_W_numberFor 41 = .ok (.aload_n 1, 1) := by decide +kernel
theorem d_W_numberFor_42 : decode c_W_numberFor 42 = .ok (.invokevirtual 35, 3) := by decide +kernel
theorem d_W_numberFor_45 : decode c_W_numberFor 45 = .ok (.aload_n 0, 1) := by decide +kernel
theorem d_W_numberFor_46 : decode c_W_numberFor 46 = .ok (.getfield 18, 3) := by decide +kernel
theorem d_W_numberFor_49 : decode c_W_numberFor 49 = .ok (.iconst 1, 1) := by decide +kernel
theorem d_W_numberFor_50 : decode c_W_numberFor 50 = .ok (.isub, 1) := by decide +kernel
theorem d_W_numberFor_51 : decode c_W_numberFor 51 = .ok (.ireturn, 1) := by decide +kernel
abbrev w_W_numberFor : List Cond := mx_ws y_W_numberFor c_W_numberFor 3 (some .int)
abbrev rm_W_numberFor : Room := { frames := 40, cells := 0, slots := 0, locals := 800 }
def t_W_numberFor  (P : Option mx_V → mx_F → Prop) : List (Nat × mx_O) := [
  (0, mx_aload 1 1),
  (1, mx_cv0 3 sp_R_length 0 0 4),
  (4, mx_if_eq 16 7),
  (7, mx_aload 1 8),
  (8, mx_cv0 3 sp_R_length 0 0 11),
  (11, mx_push (.inl (nI 6)) 13),
  (13, mx_ic_le 18 16),
  (16, mx_push (.inl (-1)) 17),
  (17, mx_iret P),
  (18, mx_aload 0 19),
  (19, mx_aload 1 20),
  (20, mx_cv1 5 sp_W_knownNumberOf 0 0 23),
  (23, mx_istore 2 24),
  (24, mx_iload 2 25),
  (25, mx_push (.inl (-1)) 26),
  (26, mx_ic_ne 38 29),
  (29, mx_aload 0 30),
  (30, mx_get 5 2 33),
  (33, mx_push (.inl (nI 60)) 35),
  (35, mx_ic_lt 40 38),
  (38, mx_iload 2 39),
  (39, mx_iret P),
  (40, mx_aload 0 41),
  (41, mx_aload 1 42),
  (42, mx_cv1 5 sp_W_append 0 0 45),
  (45, mx_aload 0 46),
  (46, mx_get 5 2 49),
  (49, mx_push (.inl (nI 1)) 50),
  (50, mx_isub 51),
  (51, mx_iret P)]
set_option maxRecDepth 20000 in
theorem a_W_numberFor  {p : Program} {l : Launch} {e : Env} {s : State} {m : MethodId} {args : Array Value} {below : List Frame} {meth : Method} {c : Code} {D : va_G} {tc : Nat → ClassId} {tb : Nat → Nat} {sz : Nat} {a0 : Nat → Nat} {G : mx_F} {P : Option mx_V → mx_F → Prop}  (C : mx_C p s m args c c_W_numberFor y_W_numberFor.cls w_W_numberFor D tc tb (mx_A a0 G sz) 3 (mx_Ok0 a0 G)) (hr : meth.sig.returnType = (some .int)) (hlk : meth.locks = false) : mx_all (mx_W p l e rm_W_numberFor s m args below meth c (MQ below (mx_Q D tc tb a0 G sz P) args s 0 0 (mx_A a0 G sz)) D tc tb (mx_A a0 G sz) 3 (mx_Ok0 a0 G)) (t_W_numberFor  P) :=
  ⟨mx_s_aload_n C d_W_numberFor_0 rfl,
  mx_s_cv0 C (m_R_length l) rfl (cwV 0 C.2.2.2.2.1 (mx_gV (fun w h => List.mem_cons_of_mem _ h) (mx_in0 (by decide +kernel) rfl) (mx_in0 (by decide +kernel) rfl) (mx_in0 (by decide +kernel) rfl) (mx_in0 (by decide +kernel) rfl) (mx_in0 (by decide +kernel) rfl)) rfl rfl rfl (by decide +kernel) ⟨by decide, by decide⟩) d_W_numberFor_1 ⟨Nat.zero_le _, Nat.zero_le _⟩,
  mx_s_if_eq C d_W_numberFor_4 (by decide),
  mx_s_aload_n C d_W_numberFor_7 rfl,
  mx_s_cv0 C (m_R_length l) rfl (cwV 0 C.2.2.2.2.1 (mx_gV (fun w h => List.mem_cons_of_mem _ h) (mx_in0 (by decide +kernel) rfl) (mx_in0 (by decide +kernel) rfl) (mx_in0 (by decide +kernel) rfl) (mx_in0 (by decide +kernel) rfl) (mx_in0 (by decide +kernel) rfl)) rfl rfl rfl (by decide +kernel) ⟨by decide, by decide⟩) d_W_numberFor_8 ⟨Nat.zero_le _, Nat.zero_le _⟩,
  mx_s_bipush C d_W_numberFor_11 (by decide),
  mx_s_ic_le C d_W_numberFor_13 (by decide),
  mx_s_iconst C d_W_numberFor_16 (by decide),
  mx_s_iret C hr hlk d_W_numberFor_17,
  mx_s_aload_n C d_W_numberFor_18 rfl,
  mx_s_aload_n C d_W_numberFor_19 rfl,
  mx_s_cv1 C (m_W_knownNumberOf l) rfl (cwV 1 C.2.2.2.2.1 (mx_gV (fun w h => List.mem_cons_of_mem _ h) (mx_in0 (by decide +kernel) rfl) (mx_in0 (by decide +kernel) rfl) (mx_in0 (by decide +kernel) rfl) (mx_in0 (by decide +kernel) rfl) (mx_in0 (by decide +kernel) rfl)) rfl rfl rfl (by decide +kernel) ⟨by decide, by decide⟩) d_W_numberFor_20 ⟨Nat.zero_le _, Nat.zero_le _⟩,
  mx_s_istore_n C d_W_numberFor_23 rfl (by decide),
  mx_s_iload_n C d_W_numberFor_24 rfl,
  mx_s_iconst C d_W_numberFor_25 (by decide),
  mx_s_ic_ne C d_W_numberFor_26 (by decide),
  mx_s_aload_n C d_W_numberFor_29 rfl,
  mx_s_get (T := T_W) (N := 3) (k := 2) C (fun w h => List.mem_cons_of_mem _ (in_W w h)) rfl (by decide) (List.mem_cons_of_mem _ (mx_in0 (by decide +kernel) rfl)) rfl d_W_numberFor_30,
  mx_s_bipush C d_W_numberFor_33 (by decide),
  mx_s_ic_lt C d_W_numberFor_35 (by decide),
  mx_s_iload_n C d_W_numberFor_38 rfl,
  mx_s_iret C hr hlk d_W_numberFor_39,
  mx_s_aload_n C d_W_numberFor_40 rfl,
  mx_s_aload_n C d_W_numberFor_41 rfl,
  mx_s_cv1 C (m_W_append l) rfl (cwV 1 C.2.2.2.2.1 (mx_gV (fun w h => List.mem_cons_of_mem _ h) (mx_in0 (by decide +kernel) rfl) (mx_in0 (by decide +kernel) rfl) (mx_in0 (by decide +kernel) rfl) (mx_in0 (by decide +kernel) rfl) (mx_in0 (by decide +kernel) rfl)) rfl rfl rfl (by decide +kernel) ⟨by decide, by decide⟩) d_W_numberFor_42 ⟨Nat.zero_le _, Nat.zero_le _⟩,
  mx_s_aload_n C d_W_numberFor_45 rfl,
  mx_s_get (T := T_W) (N := 3) (k := 2) C (fun w h => List.mem_cons_of_mem _ (in_W w h)) rfl (by decide) (List.mem_cons_of_mem _ (mx_in0 (by decide +kernel) rfl)) rfl d_W_numberFor_46,
  mx_s_iconst C d_W_numberFor_49 (by decide),
  mx_s_isub C d_W_numberFor_50,
  mx_s_iret C hr hlk d_W_numberFor_51,
  trivial⟩
set_option maxRecDepth 20000 in
set_option maxHeartbeats 2000000 in
theorem m_W_numberFor (l : Launch) : mx_M l y_W_numberFor w_W_numberFor rm_W_numberFor sp_W_numberFor := by
  intro D tc tb ad As F P sz0 h
  obtain ⟨rn, n, S, rl, lt, st, rfl, h1, h2, h3, h4, h5, hr, hw, hz, hk, hf, ha⟩ := h
  refine mx_run (cc := c_W_numberFor) (maxL := 3) (ret := (some .int)) (tab := t_W_numberFor  P) (by decide) rfl D tc tb ad _ F P sz0 (Nat.le_of_ble_eq_true rfl) (fun p e s m args below meth c C hr hlk => a_W_numberFor  C hr hlk) ?_
  intro Rr go
  have hF := mx_as5 h1 h2 h3 h4 h5
  rw [hF]
  have hn := hw.1
  refine go rfl ⟨_, rfl, ?_⟩
  refine go rfl ⟨_, _, _, rfl, rfl, rfl, rfl, rfl, ⟨rn, rfl, rfl, ?_⟩⟩
  refine go rfl ⟨_, _, rfl, fun c1 => ?_, fun c1 => ?_⟩
  · refine go rfl ?_
    refine go rfl ⟨_, rfl, rfl, rfl, ?_⟩
    rw [← hF]
    refine hz (Or.inl ?_)
    rcases Nat.eq_zero_or_pos rn with q | q
    · exact q
    · exact absurd c1 (nI_ne0 q (by omega))
  have h1r : 1 ≤ rn := by
    rcases Nat.eq_zero_or_pos rn with q | q
    · rw [q] at c1
      exact absurd rfl c1
    · exact q
  refine go rfl ⟨_, rfl, ?_⟩
  refine go rfl ⟨_, _, _, rfl, rfl, rfl, rfl, rfl, ⟨rn, rfl, rfl, ?_⟩⟩
  refine go rfl ?_
  refine go rfl ⟨_, _, _, rfl, fun c2 => ?_, fun c2 => ?_⟩
  rotate_left
  · refine go rfl ?_
    refine go rfl ⟨_, rfl, rfl, rfl, ?_⟩
    rw [← hF]
    refine hz (Or.inr ?_)
    rcases Nat.lt_or_ge 6 rn with q | q
    · exact q
    · exact absurd (nI_le q (by omega)) c2
  have h6r : rn ≤ 6 := (nI_leI (by omega) (by omega)).mp c2
  refine go rfl ⟨_, rfl, ?_⟩
  refine go rfl ⟨_, rfl, ?_⟩
  refine go rfl ⟨_, _, _, _, rfl, rfl, rfl, rfl, rfl, ⟨rn, n, S, rl, lt, st, rfl, rfl, rfl, rfl, rfl, rfl, hr, hw, fun j hj hs hno => ?_, fun hno => ?_⟩⟩
  · refine go rfl ⟨_, _, rfl, ?_⟩
    refine go rfl ⟨_, rfl, ?_⟩
    refine go rfl ?_
    refine go rfl ⟨_, _, _, rfl, fun c3 => ?_, fun c3 => ?_⟩
    · refine go rfl ⟨_, rfl, ?_⟩
      refine go rfl ⟨_, rfl, rfl, rfl, ?_⟩
      rw [← hF]
      exact hk j h1r h6r hj hs hno
    · have h9 := congrArg Int32.toInt c3
      rw [nI_toInt (by omega)] at h9
      exact absurd h9 (by have : (-1 : Int32).toInt = -1 := by decide
                          rw [this]
                          omega)
  · refine go rfl ⟨_, _, rfl, ?_⟩
    refine go rfl ⟨_, rfl, ?_⟩
    refine go rfl ?_
    refine go rfl ⟨_, _, _, rfl, fun c3 => ?_, fun c3 => ?_⟩
    · exact absurd rfl c3
    refine go rfl ⟨_, rfl, ?_⟩
    refine go rfl ⟨_, _, _, _, rfl, rfl, rfl, ?_⟩
    refine go rfl ?_
    refine go rfl ⟨_, _, _, rfl, fun c4 => ?_, fun c4 => ?_⟩
    · have hn60 : n < 60 := (nI_ltI (by omega) (by omega)).mp c4
      refine go rfl ⟨_, rfl, ?_⟩
      refine go rfl ⟨_, rfl, ?_⟩
      refine go rfl ⟨_, _, _, _, rfl, rfl, rfl, rfl, rfl, ⟨rn, n, S, rl, lt, st, rfl, rfl, rfl, rfl, rfl, rfl, hr, hw, hn60, h6r, fun lt' q1 q2 => ?_⟩⟩
      refine go rfl ⟨_, rfl, ?_⟩
      refine go rfl ⟨_, _, _, _, rfl, rfl, rfl, ?_⟩
      refine go rfl ?_
      refine go rfl ⟨_, _, _, rfl, ?_⟩
      rw [pk_sub (by omega), show n + 1 - 1 = n by omega]
      refine go rfl ⟨_, rfl, rfl, rfl, ?_⟩
      rw [← hF]
      exact ha h1r h6r hno hn60 lt' q1 q2
    · have hn60 : 60 ≤ n := by
        rcases Nat.lt_or_ge n 60 with q | q
        · exact absurd (nI_lt q (by omega)) c4
        · exact q
      refine go rfl ⟨_, rfl, ?_⟩
      refine go rfl ⟨_, rfl, rfl, rfl, ?_⟩
      rw [← hF]
      exact hf h1r h6r hno hn60
end
section
abbrev ins (x y : Int32) : Prop := ¬ (x < 0 ∨ nI 8 ≤ x ∨ y < 0 ∨ nI 8 ≤ y)
/-- the reference's words: n of them, of N w letters each -/
def mok (n : Nat) (N : Nat → Nat) (ml : Nat → Int32) : Prop := n ≤ 60 ∧ (∀ w, w < n → 1 ≤ N w ∧ N w ≤ 6) ∧ ∀ w, w < n → ml w = nI (N w)
def msame (N : Nat → Nat) (lt rl : Nat → Int32) (rn j : Nat) : Prop := N j = rn ∧ ∀ i, i < rn → lt (6 * j + i) = rl i
-- LadderWordsModel.unit(I)Z
def sp_M_unit : mx_Sp := fun As F P => ∃ (th mn sp : Int32) (wy : Int64) (kp sd : Int32) (n : Nat) (f : Nat → Int32) (u : Int32), As = [mx_r 40, mx_i u] ∧ F 40 = some (e_M th (nI n) mn sp wy kp sd) ∧ F 41 = some (mx_ia 12 f) ∧ n ≤ 12 ∧ (uc n u → P (some (mx_i (nI 0))) (mx_put F 40 (e_M (nI 0) (nI n) mn sp wy kp sd))) ∧ (¬ uc n u → P (some (mx_i (nI 1))) (mx_put (mx_put (mx_put F 40 (e_M (nI 0) (nI n) mn sp wy kp sd)) 41 (mx_ia 12 (upd f n u))) 40 (e_M (nI 0) (nI (n + 1)) mn sp wy kp sd)))
theorem d_M_unit_0 : decode c_M_unit 0 = .ok (.aload_n 0, 1) := by decide +kernel
theorem d_M_unit_1 : decode c_M_unit 1 = .ok (.iconst 0, 1) := by decide +kernel
theorem d_M_unit_2 : decode c_M_unit 2 = .ok (.putfield 48, 3) := by decide +kernel
theorem d_M_unit_5 : decode c_M_unit 5 = .ok (.iload_n 1, 1) := by decide +kernel
theorem d_M_unit_6 : decode c_M_unit 6 = .ok (.bipush 97, 2) := by decide +kernel
theorem d_M_unit_8 : decode c_M_unit 8 = .ok (.if_icmp .lt 18, 3) := by decide +kernel
theorem d_M_unit_11 : decode c_M_unit 11 = .ok (.iload_n 1, 1) := by decide +kernel
theorem d_M_unit_12 : decode c_M_unit 12 = .ok (.bipush 122, 2) := by decide +kernel
theorem d_M_unit_14 : decode c_M_unit 14 = .ok (.if_icmp .gt 12, 3) := by decide +kernel
theorem d_M_unit_17 : decode c_M_unit 17 = .ok (.aload_n 0, 1) := by decide +kernel
theorem d_M_unit_18 : decode c_M_unit 18 = .ok (.getfield 54, 3) := by decide +kernel
theorem d_M_unit_21 : decode c_M_unit 21 = .ok (.bipush 12, 2) := by decide +kernel
theorem d_M_unit_23 : decode c_M_unit 23 = .ok (.if_icmp .ne 5, 3) := by decide +kernel
theorem d_M_unit_26 : decode c_M_unit 26 = .ok (.iconst 0, 1) := by decide +kernel
theorem d_M_unit_27 : decode c_M_unit 27 = .ok (.ireturn, 1) := by decide +kernel
theorem d_M_unit_28 : decode c_M_unit 28 = .ok (.aload_n 0, 1) := by decide +kernel
theorem d_M_unit_29 : decode c_M_unit 29 = .ok (.getfield 7, 3) := by decide +kernel
theorem d_M_unit_32 : decode c_M_unit 32 = .ok (.aload_n 0, 1) := by decide +kernel
theorem d_M_unit_33 : decode c_M_unit 33 = .ok (.getfield 54, 3) := by decide +kernel
theorem d_M_unit_36 : decode c_M_unit 36 = .ok (.iload_n 1, 1) := by decide +kernel
theorem d_M_unit_37 : decode c_M_unit 37 = .ok (.iastore, 1) := by decide +kernel
theorem d_M_unit_38 : decode c_M_unit 38 = .ok (.aload_n 0, 1) := by decide +kernel
theorem d_M_unit_39 : decode c_M_unit 39 = .ok (.dup, 1) := by decide +kernel
theorem d_M_unit_40 : decode c_M_unit 40 = .ok (.getfield 54, 3) := by decide +kernel
theorem d_M_unit_43 : decode c_M_unit 43 = .ok (.iconst 1, 1) := by decide +kernel
theorem d_M_unit_44 : decode c_M_unit 44 = .ok (.iadd, 1) := by decide +kernel
theorem d_M_unit_45 : decode c_M_unit 45 = .ok (.putfield 54, 3) := by decide +kernel
theorem d_M_unit_48 : decode c_M_unit 48 = .ok (.iconst 1, 1) := by decide +kernel
theorem d_M_unit_49 : decode c_M_unit 49 = .ok (.ireturn, 1) := by decide +kernel
abbrev w_M_unit : List Cond := mx_ws y_M_unit c_M_unit 2 (some .boolean)
abbrev rm_M_unit : Room := { frames := 10, cells := 0, slots := 0, locals := 200 }
def t_M_unit  (P : Option mx_V → mx_F → Prop) : List (Nat × mx_O) := [
  (0, mx_aload 0 1),
  (1, mx_push (.inl (nI 0)) 2),
  (2, mx_puti 7 0 5),
  (5, mx_iload 1 6),
  (6, mx_push (.inl (nI 97)) 8),
  (8, mx_ic_lt 26 11),
  (11, mx_iload 1 12),
  (12, mx_push (.inl (nI 122)) 14),
  (14, mx_ic_gt 26 17),
  (17, mx_aload 0 18),
  (18, mx_get 7 1 21),
  (21, mx_push (.inl (nI 12)) 23),
  (23, mx_ic_ne 28 26),
  (26, mx_push (.inl (nI 0)) 27),
  (27, mx_zret P),
  (28, mx_aload 0 29),
  (29, mx_get 7 2 32),
  (32, mx_aload 0 33),
  (33, mx_get 7 1 36),
  (36, mx_iload 1 37),
  (37, mx_iast 38),
  (38, mx_aload 0 39),
  (39, mx_dup 40),
  (40, mx_get 7 1 43),
  (43, mx_push (.inl (nI 1)) 44),
  (44, mx_iadd 45),
  (45, mx_puti 7 1 48),
  (48, mx_push (.inl (nI 1)) 49),
  (49, mx_zret P)]
set_option maxRecDepth 20000 in
theorem a_M_unit  {p : Program} {l : Launch} {e : Env} {s : State} {m : MethodId} {args : Array Value} {below : List Frame} {meth : Method} {c : Code} {D : va_G} {tc : Nat → ClassId} {tb : Nat → Nat} {sz : Nat} {a0 : Nat → Nat} {G : mx_F} {P : Option mx_V → mx_F → Prop}  (C : mx_C p s m args c c_M_unit y_M_unit.cls w_M_unit D tc tb (mx_A a0 G sz) 2 (mx_Ok0 a0 G)) (hr : meth.sig.returnType = (some .boolean)) (hlk : meth.locks = false) : mx_all (mx_W p l e rm_M_unit s m args below meth c (MQ below (mx_Q D tc tb a0 G sz P) args s 0 0 (mx_A a0 G sz)) D tc tb (mx_A a0 G sz) 2 (mx_Ok0 a0 G)) (t_M_unit  P) :=
  ⟨mx_s_aload_n C d_M_unit_0 rfl,
  mx_s_iconst C d_M_unit_1 (by decide),
  mx_s_puti (T := T_M) (N := 18) (k := 0) C (fun w h => List.mem_cons_of_mem _ (in_M w h)) rfl ty_M ok_M nm_M (by decide) (List.mem_cons_of_mem _ (mx_in0 (by decide +kernel) rfl)) rfl rfl (ok_M 0 (by decide)) d_M_unit_2,
  mx_s_iload_n C d_M_unit_5 rfl,
  mx_s_bipush C d_M_unit_6 (by decide),
  mx_s_ic_lt C d_M_unit_8 (by decide),
  mx_s_iload_n C d_M_unit_11 rfl,
  mx_s_bipush C d_M_unit_12 (by decide),
  mx_s_ic_gt C d_M_unit_14 (by decide),
  mx_s_aload_n C d_M_unit_17 rfl,
  mx_s_get (T := T_M) (N := 18) (k := 1) C (fun w h => List.mem_cons_of_mem _ (in_M w h)) rfl (by decide) (List.mem_cons_of_mem _ (mx_in0 (by decide +kernel) rfl)) rfl d_M_unit_18,
  mx_s_bipush C d_M_unit_21 (by decide),
  mx_s_ic_ne C d_M_unit_23 (by decide),
  mx_s_iconst C d_M_unit_26 (by decide),
  mx_s_zret C hr hlk d_M_unit_27,
  mx_s_aload_n C d_M_unit_28 rfl,
  mx_s_get (T := T_M) (N := 18) (k := 2) C (fun w h => List.mem_cons_of_mem _ (in_M w h)) rfl (by decide) (List.mem_cons_of_mem _ (mx_in0 (by decide +kernel) rfl)) rfl d_M_unit_29,
  mx_s_aload_n C d_M_unit_32 rfl,
  mx_s_get (T := T_M) (N := 18) (k := 1) C (fun w h => List.mem_cons_of_mem _ (in_M w h)) rfl (by decide) (List.mem_cons_of_mem _ (mx_in0 (by decide +kernel) rfl)) rfl d_M_unit_33,
  mx_s_iload_n C d_M_unit_36 rfl,
  mx_s_iast C d_M_unit_37,
  mx_s_aload_n C d_M_unit_38 rfl,
  mx_s_dup C d_M_unit_39,
  mx_s_get (T := T_M) (N := 18) (k := 1) C (fun w h => List.mem_cons_of_mem _ (in_M w h)) rfl (by decide) (List.mem_cons_of_mem _ (mx_in0 (by decide +kernel) rfl)) rfl d_M_unit_40,
  mx_s_iconst C d_M_unit_43 (by decide),
  mx_s_iadd C d_M_unit_44,
  mx_s_puti (T := T_M) (N := 18) (k := 1) C (fun w h => List.mem_cons_of_mem _ (in_M w h)) rfl ty_M ok_M nm_M (by decide) (List.mem_cons_of_mem _ (mx_in0 (by decide +kernel) rfl)) rfl rfl (ok_M 1 (by decide)) d_M_unit_45,
  mx_s_iconst C d_M_unit_48 (by decide),
  mx_s_zret C hr hlk d_M_unit_49,
  trivial⟩
set_option maxRecDepth 20000 in
set_option maxHeartbeats 2000000 in
theorem m_M_unit (l : Launch) : mx_M l y_M_unit w_M_unit rm_M_unit sp_M_unit := by
  intro D tc tb ad As F P sz0 h
  obtain ⟨th, mn, sp, wy, kp, sd, n, f, u, rfl, h1, h2, hn, hz, ho⟩ := h
  refine mx_run (cc := c_M_unit) (maxL := 2) (ret := (some .boolean)) (tab := t_M_unit  P) (by decide) rfl D tc tb ad _ F P sz0 (Nat.le_of_ble_eq_true rfl) (fun p e s m args below meth c C hr hlk => a_M_unit  C hr hlk) ?_
  intro Rr go
  have hF := mx_as2 h1 h2
  rw [hF]
  have z : uc n u → Rr 26 [some (mx_r 40), some (mx_i u)] [] (mx_put (mx_put (mx_put F 40 (e_M th (nI n) mn sp wy kp sd)) 41 (mx_ia 12 f)) 40 (e_M (nI 0) (nI n) mn sp wy kp sd)) 0 0 := by
    intro hc
    refine go rfl ?_
    refine go rfl ⟨_, rfl, rfl, rfl, (Or.inl rfl), ?_⟩
    rw [← hF]
    exact hz hc
  refine go rfl ⟨_, rfl, ?_⟩
  refine go rfl ?_
  refine go rfl ⟨_, _, _, _, rfl, rfl, (Nat.le_of_ble_eq_true rfl), ?_⟩
  refine go rfl ⟨_, rfl, ?_⟩
  refine go rfl ?_
  refine go rfl ⟨_, _, _, rfl, fun c1 => ?_, fun c1 => ?_⟩
  · exact z (Or.inl c1)
  refine go rfl ⟨_, rfl, ?_⟩
  refine go rfl ?_
  refine go rfl ⟨_, _, _, rfl, fun c2 => ?_, fun c2 => ?_⟩
  · exact z (Or.inr (Or.inl c2))
  refine go rfl ⟨_, rfl, ?_⟩
  refine go rfl ⟨_, _, _, _, rfl, rfl, rfl, ?_⟩
  refine go rfl ?_
  refine go rfl ⟨_, _, _, rfl, fun c3 => ?_, fun c3 => ?_⟩
  · have hlt : n < 12 := by
      rcases Nat.lt_or_ge n 12 with q | q
      · exact q
      · exact absurd (by rw [show n = 12 by omega]) c3
    refine go rfl ⟨_, rfl, ?_⟩
    refine go rfl ⟨_, _, _, _, rfl, rfl, rfl, ?_⟩
    refine go rfl ⟨_, rfl, ?_⟩
    refine go rfl ⟨_, _, _, _, rfl, rfl, rfl, ?_⟩
    refine go rfl ⟨_, rfl, ?_⟩
    refine go rfl ⟨_, _, _, _, _, _, rfl, rfl, (vp_in_nI hlt (by omega)), ?_⟩
    rw [nI_clamp (by omega)]
    refine go rfl ⟨_, rfl, ?_⟩
    refine go rfl ⟨_, _, rfl, rfl, ?_⟩
    refine go rfl ⟨_, _, _, _, rfl, rfl, rfl, ?_⟩
    refine go rfl ?_
    refine go rfl ⟨_, _, _, rfl, ?_⟩
    rw [nI_add]
    refine go rfl ⟨_, _, _, _, rfl, rfl, (Nat.le_of_ble_eq_true rfl), ?_⟩
    refine go rfl ?_
    refine go rfl ⟨_, rfl, rfl, rfl, (Or.inr rfl), ?_⟩
    rw [← hF]
    refine ho (fun hc => ?_)
    rcases hc with hc | hc | hc
    · exact c1 hc
    · exact c2 hc
    · exact absurd ((nI_leI (by omega) (by omega)).mp hc) (by omega)
  · exact z (Or.inr (Or.inr (by rw [c3]; decide)))
-- LadderWordsModel.isWord(I)Z
def sp_M_isWord : mx_Sp := fun As F P => ∃ (th sz sp : Int32) (wy : Int64) (kp sd : Int32) (n : Nat) (w : Int32), As = [mx_r 40, mx_i w] ∧ F 40 = some (e_M th sz (nI n) sp wy kp sd) ∧ ((w < 0 ∨ nI n ≤ w) → P (some (mx_i (nI 0))) F) ∧ (¬ (w < 0 ∨ nI n ≤ w) → P (some (mx_i (nI 1))) F)
theorem d_M_isWord_0 : decode c_M_isWord 0 = .ok (.iload_n 1, 1) := by decide +kernel
theorem d_M_isWord_1 : decode c_M_isWord 1 = .ok (.ifCond .lt 15, 3) := by decide +kernel
theorem d_M_isWord_4 : decode c_M_isWord 4 = .ok (.iload_n 1, 1) := by decide +kernel
theorem d_M_isWord_5 : decode c_M_isWord 5 = .ok (.aload_n 0, 1) := by decide +kernel
theorem d_M_isWord_6 : decode c_M_isWord 6 = .ok (.getfield 51, 3) := by decide +kernel
theorem d_M_isWord_9 : decode c_M_isWord 9 = .ok (.if_icmp .ge 7, 3) := by decide +kernel
theorem d_M_isWord_12 : decode c_M_isWord 12 = .ok (.iconst 1, 1) := by decide +kernel
theorem d_M_isWord_13 : decode c_M_isWord 13 = .ok (.goto 4, 3) := by decide +kernel
theorem d_M_isWord_16 : decode c_M_isWord 16 = .ok (.iconst 0, 1) := by decide +kernel
theorem d_M_isWord_17 : decode c_M_isWord 17 = .ok (.ireturn, 1) := by decide +kernel
abbrev w_M_isWord : List Cond := mx_ws y_M_isWord c_M_isWord 2 (some .boolean)
abbrev rm_M_isWord : Room := { frames := 10, cells := 0, slots := 0, locals := 200 }
def t_M_isWord  (P : Option mx_V → mx_F → Prop) : List (Nat × mx_O) := [
  (0, mx_iload 1 1),
  (1, mx_if_lt 16 4),
  (4, mx_iload 1 5),
  (5, mx_aload 0 6),
  (6, mx_get 7 3 9),
  (9, mx_ic_ge 16 12),
  (12, mx_push (.inl (nI 1)) 13),
  (13, mx_goto 17),
  (16, mx_push (.inl (nI 0)) 17),
  (17, mx_zret P)]
set_option maxRecDepth 20000 in
theorem a_M_isWord  {p : Program} {l : Launch} {e : Env} {s : State} {m : MethodId} {args : Array Value} {below : List Frame} {meth : Method} {c : Code} {D : va_G} {tc : Nat → ClassId} {tb : Nat → Nat} {sz : Nat} {a0 : Nat → Nat} {G : mx_F} {P : Option mx_V → mx_F → Prop}  (C : mx_C p s m args c c_M_isWord y_M_isWord.cls w_M_isWord D tc tb (mx_A a0 G sz) 2 (mx_Ok0 a0 G)) (hr : meth.sig.returnType = (some .boolean)) (hlk : meth.locks = false) : mx_all (mx_W p l e rm_M_isWord s m args below meth c (MQ below (mx_Q D tc tb a0 G sz P) args s 0 0 (mx_A a0 G sz)) D tc tb (mx_A a0 G sz) 2 (mx_Ok0 a0 G)) (t_M_isWord  P) :=
  ⟨mx_s_iload_n C d_M_isWord_0 rfl,
  mx_s_if_lt C d_M_isWord_1 (by decide),
  mx_s_iload_n C d_M_isWord_4 rfl,
  mx_s_aload_n C d_M_isWord_5 rfl,
  mx_s_get (T := T_M) (N := 18) (k := 3) C (fun w h => List.mem_cons_of_mem _ (in_M w h)) rfl (by decide) (List.mem_cons_of_mem _ (mx_in0 (by decide +kernel) rfl)) rfl d_M_isWord_6,
  mx_s_ic_ge C d_M_isWord_9 (by decide),
  mx_s_iconst C d_M_isWord_12 (by decide),
  mx_s_goto C d_M_isWord_13 (by decide),
  mx_s_iconst C d_M_isWord_16 (by decide),
  mx_s_zret C hr hlk d_M_isWord_17,
  trivial⟩
set_option maxRecDepth 20000 in
set_option maxHeartbeats 2000000 in
theorem m_M_isWord (l : Launch) : mx_M l y_M_isWord w_M_isWord rm_M_isWord sp_M_isWord := by
  intro D tc tb ad As F P sz0 h
  obtain ⟨th, sz, sp, wy, kp, sd, n, w, rfl, h1, hz, ho⟩ := h
  refine mx_run (cc := c_M_isWord) (maxL := 2) (ret := (some .boolean)) (tab := t_M_isWord  P) (by decide) rfl D tc tb ad _ F P sz0 (Nat.le_of_ble_eq_true rfl) (fun p e s m args below meth c C hr hlk => a_M_isWord  C hr hlk) ?_
  intro Rr go
  have hF := mx_as1 h1
  rw [hF]
  refine go rfl ⟨_, rfl, ?_⟩
  refine go rfl ⟨_, _, rfl, fun c1 => ?_, fun c1 => ?_⟩
  · refine go rfl ?_
    refine go rfl ⟨_, rfl, rfl, rfl, (Or.inl rfl), ?_⟩
    rw [← hF]
    exact hz (Or.inl c1)
  refine go rfl ⟨_, rfl, ?_⟩
  refine go rfl ⟨_, rfl, ?_⟩
  refine go rfl ⟨_, _, _, _, rfl, rfl, rfl, ?_⟩
  refine go rfl ⟨_, _, _, rfl, fun c2 => ?_, fun c2 => ?_⟩
  · refine go rfl ?_
    refine go rfl ⟨_, rfl, rfl, rfl, (Or.inl rfl), ?_⟩
    rw [← hF]
    exact hz (Or.inr c2)
  refine go rfl ?_
  refine go rfl ?_
  refine go rfl ⟨_, rfl, rfl, rfl, (Or.inr rfl), ?_⟩
  rw [← hF]
  exact ho (fun h => h.elim c1 c2)
-- LadderWordsModel.isCell(II)Z
def sp_M_isCell : mx_Sp := fun As F P => ∃ x y : Int32, As = [mx_i x, mx_i y] ∧ (ins x y → P (some (mx_i (nI 1))) F) ∧ (¬ ins x y → P (some (mx_i (nI 0))) F)
theorem d_M_isCell_0 : decode c_M_isCell 0 = .ok (.iload_n 0, 1) := by decide +kernel
theorem d_M_isCell_1 : decode c_M_isCell 1 = .ok (.ifCond .lt 23, 3) := by decide +kernel
theorem d_M_isCell_4 : decode c_M_isCell 4 = .ok (.iload_n 0, 1) := by decide +kernel
theorem d_M_isCell_5 : decode c_M_isCell 5 = .ok (.bipush 8, 2) := by decide +kernel
theorem d_M_isCell_7 : decode c_M_isCell 7 = .ok (.if_icmp .ge 17, 3) := by decide +kernel
theorem d_M_isCell_10 : decode c_M_isCell 10 = .ok (.iload_n 1, 1) := by decide +kernel
theorem d_M_isCell_11 : decode c_M_isCell 11 = .ok (.ifCond .lt 13, 3) := by decide +kernel
theorem d_M_isCell_14 : decode c_M_isCell 14 = .ok (.iload_n 1, 1) := by decide +kernel
theorem d_M_isCell_15 : decode c_M_isCell 15 = .ok (.bipush 8, 2) := by decide +kernel
theorem d_M_isCell_17 : decode c_M_isCell 17 = .ok (.if_icmp .ge 7, 3) := by decide +kernel
theorem d_M_isCell_20 : decode c_M_isCell 20 = .ok (.iconst 1, 1) := by decide +kernel
theorem d_M_isCell_21 : decode c_M_isCell 21 = .ok (.goto 4, 3) := by decide +kernel
theorem d_M_isCell_24 : decode c_M_isCell 24 = .ok (.iconst 0, 1) := by decide +kernel
theorem d_M_isCell_25 : decode c_M_isCell 25 = .ok (.ireturn, 1) := by decide +kernel
abbrev w_M_isCell : List Cond := mx_ws y_M_isCell c_M_isCell 2 (some .boolean)
abbrev rm_M_isCell : Room := { frames := 10, cells := 0, slots := 0, locals := 200 }
def t_M_isCell  (P : Option mx_V → mx_F → Prop) : List (Nat × mx_O) := [
  (0, mx_iload 0 1),
  (1, mx_if_lt 24 4),
  (4, mx_iload 0 5),
  (5, mx_push (.inl (nI 8)) 7),
  (7, mx_ic_ge 24 10),
  (10, mx_iload 1 11),
  (11, mx_if_lt 24 14),
  (14, mx_iload 1 15),
  (15, mx_push (.inl (nI 8)) 17),
  (17, mx_ic_ge 24 20),
  (20, mx_push (.inl (nI 1)) 21),
  (21, mx_goto 25),
  (24, mx_push (.inl (nI 0)) 25),
  (25, mx_zret P)]
set_option maxRecDepth 20000 in
theorem a_M_isCell  {p : Program} {l : Launch} {e : Env} {s : State} {m : MethodId} {args : Array Value} {below : List Frame} {meth : Method} {c : Code} {D : va_G} {tc : Nat → ClassId} {tb : Nat → Nat} {sz : Nat} {a0 : Nat → Nat} {G : mx_F} {P : Option mx_V → mx_F → Prop}  (C : mx_C p s m args c c_M_isCell y_M_isCell.cls w_M_isCell D tc tb (mx_A a0 G sz) 2 (mx_Ok0 a0 G)) (hr : meth.sig.returnType = (some .boolean)) (hlk : meth.locks = false) : mx_all (mx_W p l e rm_M_isCell s m args below meth c (MQ below (mx_Q D tc tb a0 G sz P) args s 0 0 (mx_A a0 G sz)) D tc tb (mx_A a0 G sz) 2 (mx_Ok0 a0 G)) (t_M_isCell  P) :=
  ⟨mx_s_iload_n C d_M_isCell_0 rfl,
  mx_s_if_lt C d_M_isCell_1 (by decide),
  mx_s_iload_n C d_M_isCell_4 rfl,
  mx_s_bipush C d_M_isCell_5 (by decide),
  mx_s_ic_ge C d_M_isCell_7 (by decide),
  mx_s_iload_n C d_M_isCell_10 rfl,
  mx_s_if_lt C d_M_isCell_11 (by decide),
  mx_s_iload_n C d_M_isCell_14 rfl,
  mx_s_bipush C d_M_isCell_15 (by decide),
  mx_s_ic_ge C d_M_isCell_17 (by decide),
  mx_s_iconst C d_M_isCell_20 (by decide),
  mx_s_goto C d_M_isCell_21 (by decide),
  mx_s_iconst C d_M_isCell_24 (by decide),
  mx_s_zret C hr hlk d_M_isCell_25,
  trivial⟩
set_option maxRecDepth 20000 in
set_option maxHeartbeats 2000000 in
theorem m_M_isCell (l : Launch) : mx_M l y_M_isCell w_M_isCell rm_M_isCell sp_M_isCell := by
  intro D tc tb ad As F P sz0 h
  obtain ⟨x, y, rfl, ho, hz⟩ := h
  refine mx_run (cc := c_M_isCell) (maxL := 2) (ret := (some .boolean)) (tab := t_M_isCell  P) (by decide) rfl D tc tb ad _ F P sz0 (Nat.le_of_ble_eq_true rfl) (fun p e s m args below meth c C hr hlk => a_M_isCell  C hr hlk) ?_
  intro Rr go
  have z : ¬ ins x y → Rr 24 [some (mx_i x), some (mx_i y)] [] F 0 0 := by
    intro hc
    refine go rfl ?_
    refine go rfl ⟨_, rfl, rfl, rfl, (Or.inl rfl), ?_⟩
    exact hz hc
  refine go rfl ⟨_, rfl, ?_⟩
  refine go rfl ⟨_, _, rfl, fun c1 => ?_, fun c1 => ?_⟩
  · exact z (fun h => h (Or.inl c1))
  refine go rfl ⟨_, rfl, ?_⟩
  refine go rfl ?_
  refine go rfl ⟨_, _, _, rfl, fun c2 => ?_, fun c2 => ?_⟩
  · exact z (fun h => h (Or.inr (Or.inl c2)))
  refine go rfl ⟨_, rfl, ?_⟩
  refine go rfl ⟨_, _, rfl, fun c3 => ?_, fun c3 => ?_⟩
  · exact z (fun h => h (Or.inr (Or.inr (Or.inl c3))))
  refine go rfl ⟨_, rfl, ?_⟩
  refine go rfl ?_
  refine go rfl ⟨_, _, _, rfl, fun c4 => ?_, fun c4 => ?_⟩
  · exact z (fun h => h (Or.inr (Or.inr (Or.inr c4))))
  refine go rfl ?_
  refine go rfl ?_
  refine go rfl ⟨_, rfl, rfl, rfl, (Or.inr rfl), ?_⟩
  refine ho (fun h => ?_)
  rcases h with h | h | h | h
  · exact c1 h
  · exact c2 h
  · exact c3 h
  · exact c4 h
-- LadderWordsModel.at(II)I
def sp_M_at : mx_Sp := fun As F P => ∃ (th sz mn sp : Int32) (wy : Int64) (kp sd : Int32) (lt : Nat → Int32) (w i : Nat), As = [mx_r 40, mx_i (nI w), mx_i (nI i)] ∧ F 40 = some (e_M th sz mn sp wy kp sd) ∧ F 42 = some (mx_ia 360 lt) ∧ w < 60 ∧ i < 6 ∧ P (some (mx_i (lt (6 * w + i)))) F
theorem d_M_at_0 : decode c_M_at 0 = .ok (.aload_n 0, 1) := by decide +kernel
theorem d_M_at_1 : decode c_M_at 1 = .ok (.getfield 13, 3) := by decide +kernel
theorem d_M_at_4 : decode c_M_at 4 = .ok (.bipush 6, 2) := by decide +kernel
theorem d_M_at_6 : decode c_M_at 6 = .ok (.iload_n 1, 1) := by decide +kernel
theorem d_M_at_7 : decode c_M_at 7 = .ok (.imul, 1) := by decide +kernel
theorem d_M_at_8 : decode c_M_at 8 = .ok (.iload_n 2, 1) := by decide +kernel
theorem d_M_at_9 : decode c_M_at 9 = .ok (.iadd, 1) := by decide +kernel
theorem d_M_at_10 : decode c_M_at 10 = .ok (.iaload, 1) := by decide +kernel
theorem d_M_at_11 : decode c_M_at 11 = .ok (.ireturn, 1) := by decide +kernel
abbrev w_M_at : List Cond := mx_ws y_M_at c_M_at 3 (some .int)
abbrev rm_M_at : Room := { frames := 10, cells := 0, slots := 0, locals := 200 }
def t_M_at  (P : Option mx_V → mx_F → Prop) : List (Nat × mx_O) := [
  (0, mx_aload 0 1),
  (1, mx_get 7 4 4),
  (4, mx_push (.inl (nI 6)) 6),
  (6, mx_iload 1 7),
  (7, mx_imul 8),
  (8, mx_iload 2 9),
  (9, mx_iadd 10),
  (10, mx_iald 11),
  (11, mx_iret P)]
set_option maxRecDepth 20000 in
theorem a_M_at  {p : Program} {l : Launch} {e : Env} {s : State} {m : MethodId} {args : Array Value} {below : List Frame} {meth : Method} {c : Code} {D : va_G} {tc : Nat → ClassId} {tb : Nat → Nat} {sz : Nat} {a0 : Nat → Nat} {G : mx_F} {P : Option mx_V → mx_F → Prop}  (C : mx_C p s m args c c_M_at y_M_at.cls w_M_at D tc tb (mx_A a0 G sz) 3 (mx_Ok0 a0 G)) (hr : meth.sig.returnType = (some .int)) (hlk : meth.locks = false) : mx_all (mx_W p l e rm_M_at s m args below meth c (MQ below (mx_Q D tc tb a0 G sz P) args s 0 0 (mx_A a0 G sz)) D tc tb (mx_A a0 G sz) 3 (mx_Ok0 a0 G)) (t_M_at  P) :=
  ⟨mx_s_aload_n C d_M_at_0 rfl,
  mx_s_get (T := T_M) (N := 18) (k := 4) C (fun w h => List.mem_cons_of_mem _ (in_M w h)) rfl (by decide) (List.mem_cons_of_mem _ (mx_in0 (by decide +kernel) rfl)) rfl d_M_at_1,
  mx_s_bipush C d_M_at_4 (by decide),
  mx_s_iload_n C d_M_at_6 rfl,
  mx_s_imul C d_M_at_7,
  mx_s_iload_n C d_M_at_8 rfl,
  mx_s_iadd C d_M_at_9,
  mx_s_iald C d_M_at_10,
  mx_s_iret C hr hlk d_M_at_11,
  trivial⟩
set_option maxRecDepth 20000 in
set_option maxHeartbeats 2000000 in
theorem m_M_at (l : Launch) : mx_M l y_M_at w_M_at rm_M_at sp_M_at := by
  intro D tc tb ad As F P sz0 h
  obtain ⟨th, sz, mn, sp, wy, kp, sd, lt, w, i, rfl, h0, h1, hw, hi, hp⟩ := h
  refine mx_run (cc := c_M_at) (maxL := 3) (ret := (some .int)) (tab := t_M_at  P) (by decide) rfl D tc tb ad _ F P sz0 (Nat.le_of_ble_eq_true rfl) (fun p e s m args below meth c C hr hlk => a_M_at  C hr hlk) ?_
  intro Rr go
  have hF := mx_as2 h0 h1
  rw [hF]
  refine go rfl ⟨_, rfl, ?_⟩
  refine go rfl ⟨_, _, _, _, rfl, rfl, rfl, ?_⟩
  refine go rfl ?_
  refine go rfl ⟨_, rfl, ?_⟩
  refine go rfl ⟨_, _, _, rfl, ?_⟩
  rw [pk_mul]
  refine go rfl ⟨_, rfl, ?_⟩
  refine go rfl ⟨_, _, _, rfl, ?_⟩
  rw [nI_add]
  refine go rfl ⟨_, _, _, _, _, rfl, rfl, (vp_in_nI (show 6 * w + i < 360 by omega) (by omega)), ?_⟩
  rw [nI_clamp (by omega)]
  refine go rfl ⟨_, rfl, rfl, rfl, ?_⟩
  rw [← hF]
  exact hp
-- LadderWordsModel.isRow(I)Z
def sp_M_isRow : mx_Sp := fun As F P => ∃ (th : Int32) (sp : Int32) (wy : Int64) (kp sd : Int32) (rn n j : Nat) (N : Nat → Nat) (rl lt ml : Nat → Int32), As = [mx_r 40, mx_i (nI j)] ∧ F 40 = some (e_M th (nI rn) (nI n) sp wy kp sd) ∧ F 41 = some (mx_ia 12 rl) ∧ F 42 = some (mx_ia 360 lt) ∧ F 43 = some (mx_ia 60 ml) ∧ rn ≤ 12 ∧ mok n N ml ∧ j < n ∧ (msame N lt rl rn j → P (some (mx_i (nI 1))) F) ∧ (¬ msame N lt rl rn j → P (some (mx_i (nI 0))) F)
theorem d_M_isRow_0 : decode c_M_isRow 0 = .ok (.aload_n 0, 1) := by decide +kernel
theorem d_M_isRow_1 : decode c_M_isRow 1 = .ok (.getfield 16, 3) := by decide +kernel
theorem d_M_isRow_4 : decode c_M_isRow 4 = .ok (.iload_n 1, 1) := by decide +kernel
theorem d_M_isRow_5 : decode c_M_isRow 5 = .ok (.iaload, 1) := by decide +kernel
theorem d_M_isRow_6 : decode c_M_isRow 6 = .ok (.aload_n 0, 1) := by decide +kernel
theorem d_M_isRow_7 : decode c_M_isRow 7 = .ok (.getfield 54, 3) := by decide +kernel
theorem d_M_isRow_10 : decode c_M_isRow 10 = .ok (.if_icmp .eq 5, 3) := by decide +kernel
theorem d_M_isRow_13 : decode c_M_isRow 13 = .ok (.iconst 0, 1) := by decide +kernel
theorem d_M_isRow_14 : decode c_M_isRow 14 = .ok (.ireturn, 1) := by decide +kernel
theorem d_M_isRow_15 : decode c_M_isRow 15 = .ok (.iconst 0, 1) := by decide +kernel
theorem d_M_isRow_16 : decode c_M_isRow 16 = .ok (.istore_n 2, 1) := by decide +kernel
theorem d_M_isRow_17 : decode c_M_isRow 17 = .ok (.iload_n 2, 1) := by decide +kernel
theorem d_M_isRow_18 : decode c_M_isRow 18 = .ok (.aload_n 0, 1) := by decide +kernel
theorem d_M_isRow_19 : decode c_M_isRow 19 = .ok (.getfield 54, 3) := by decide +kernel
theorem d_M_isRow_22 : decode c_M_isRow 22 = .ok (.if_icmp .ge 26, 3) := by decide +kernel
theorem d_M_isRow_25 : decode c_M_isRow 25 = .ok (.aload_n 0, 1) := by decide +kernel
theorem d_M_isRow_26 : decode c_M_isRow 26 = .ok (.iload_n 1, 1) := by decide +kernel
theorem d_M_isRow_27 : decode c_M_isRow 27 = .ok (.iload_n 2, 1) := by decide +kernel
theorem d_M_isRow_28 : decode c_M_isRow 28 = .ok (.invokevirtual 57, 3) := by decide +kernel
theorem d_M_isRow_31 : decode c_M_isRow 31 = .ok (.aload_n 0, 1) := by decide +kernel
theorem d_M_isRow_32 : decode c_M_isRow 32 = .ok (.getfield 7, 3) := by decide +kernel
theorem d_M_isRow_35 : decode c_M_isRow 35 = .ok (.iload_n 2, 1) := by decide +kernel
theorem d_M_isRow_36 : decode c_M_isRow 36 = .ok (.iaload, 1) := by decide +kernel
theorem d_M_isRow_37 : decode c_M_isRow 37 = .ok (.if_icmp .eq 5, 3) := by decide +kernel
theorem d_M_isRow_40 : decode c_M_isRow 40 = .ok (.iconst 0, 1) := by decide +kernel
theorem d_M_isRow_41 : decode c_M_isRow 41 = .ok (.ireturn, 1) := by decide +kernel
theorem d_M_isRow_42 : decode c_M_isRow 42 = .ok (.iinc 2 1, 3) := by decide +kernel
theorem d_M_isRow_45 : decode c_M_isRow 45 = .ok (.goto (-28), 3) := by decide +kernel
theorem d_M_isRow_48 : decode c_M_isRow 48 = .ok (.iconst 1, 1) := by decide +kernel
theorem d_M_isRow_49 : decode c_M_isRow 49 = .ok (.ireturn, 1) := by decide +kernel
abbrev w_M_isRow : List Cond := mx_ws y_M_isRow c_M_isRow 3 (some .boolean)
abbrev rm_M_isRow : Room := { frames := 20, cells := 0, slots := 0, locals := 400 }
def t_M_isRow  (P : Option mx_V → mx_F → Prop) : List (Nat × mx_O) := [
  (0, mx_aload 0 1),
  (1, mx_get 7 5 4),
  (4, mx_iload 1 5),
  (5, mx_iald 6),
  (6, mx_aload 0 7),
  (7, mx_get 7 1 10),
  (10, mx_ic_eq 15 13),
  (13, mx_push (.inl (nI 0)) 14),
  (14, mx_zret P),
  (15, mx_push (.inl (nI 0)) 16),
  (16, mx_istore 2 17),
  (17, mx_iload 2 18),
  (18, mx_aload 0 19),
  (19, mx_get 7 1 22),
  (22, mx_ic_ge 48 25),
  (25, mx_aload 0 26),
  (26, mx_iload 1 27),
  (27, mx_iload 2 28),
  (28, mx_cv2 7 sp_M_at 0 0 31),
  (31, mx_aload 0 32),
  (32, mx_get 7 2 35),
  (35, mx_iload 2 36),
  (36, mx_iald 37),
  (37, mx_ic_eq 42 40),
  (40, mx_push (.inl (nI 0)) 41),
  (41, mx_zret P),
  (42, mx_iinc 2 (nI 1) 45),
  (45, mx_goto 17),
  (48, mx_push (.inl (nI 1)) 49),
  (49, mx_zret P)]
set_option maxRecDepth 20000 in
theorem a_M_isRow  {p : Program} {l : Launch} {e : Env} {s : State} {m : MethodId} {args : Array Value} {below : List Frame} {meth : Method} {c : Code} {D : va_G} {tc : Nat → ClassId} {tb : Nat → Nat} {sz : Nat} {a0 : Nat → Nat} {G : mx_F} {P : Option mx_V → mx_F → Prop}  (C : mx_C p s m args c c_M_isRow y_M_isRow.cls w_M_isRow D tc tb (mx_A a0 G sz) 3 (mx_Ok0 a0 G)) (hr : meth.sig.returnType = (some .boolean)) (hlk : meth.locks = false) : mx_all (mx_W p l e rm_M_isRow s m args below meth c (MQ below (mx_Q D tc tb a0 G sz P) args s 0 0 (mx_A a0 G sz)) D tc tb (mx_A a0 G sz) 3 (mx_Ok0 a0 G)) (t_M_isRow  P) :=
  ⟨mx_s_aload_n C d_M_isRow_0 rfl,
  mx_s_get (T := T_M) (N := 18) (k := 5) C (fun w h => List.mem_cons_of_mem _ (in_M w h)) rfl (by decide) (List.mem_cons_of_mem _ (mx_in0 (by decide +kernel) rfl)) rfl d_M_isRow_1,
  mx_s_iload_n C d_M_isRow_4 rfl,
  mx_s_iald C d_M_isRow_5,
  mx_s_aload_n C d_M_isRow_6 rfl,
  mx_s_get (T := T_M) (N := 18) (k := 1) C (fun w h => List.mem_cons_of_mem _ (in_M w h)) rfl (by decide) (List.mem_cons_of_mem _ (mx_in0 (by decide +kernel) rfl)) rfl d_M_isRow_7,
  mx_s_ic_eq C d_M_isRow_10 (by decide),
  mx_s_iconst C d_M_isRow_13 (by decide),
  mx_s_zret C hr hlk d_M_isRow_14,
  mx_s_iconst C d_M_isRow_15 (by decide),
  mx_s_istore_n C d_M_isRow_16 rfl (by decide),
  mx_s_iload_n C d_M_isRow_17 rfl,
  mx_s_aload_n C d_M_isRow_18 rfl,
  mx_s_get (T := T_M) (N := 18) (k := 1) C (fun w h => List.mem_cons_of_mem _ (in_M w h)) rfl (by decide) (List.mem_cons_of_mem _ (mx_in0 (by decide +kernel) rfl)) rfl d_M_isRow_19,
  mx_s_ic_ge C d_M_isRow_22 (by decide),
  mx_s_aload_n C d_M_isRow_25 rfl,
  mx_s_iload_n C d_M_isRow_26 rfl,
  mx_s_iload_n C d_M_isRow_27 rfl,
  mx_s_cv2 C (m_M_at l) rfl (cwV 2 C.2.2.2.2.1 (mx_gV (fun w h => List.mem_cons_of_mem _ h) (mx_in0 (by decide +kernel) rfl) (mx_in0 (by decide +kernel) rfl) (mx_in0 (by decide +kernel) rfl) (mx_in0 (by decide +kernel) rfl) (mx_in0 (by decide +kernel) rfl)) rfl rfl rfl (by decide +kernel) ⟨by decide, by decide⟩) d_M_isRow_28 ⟨Nat.zero_le _, Nat.zero_le _⟩,
  mx_s_aload_n C d_M_isRow_31 rfl,
  mx_s_get (T := T_M) (N := 18) (k := 2) C (fun w h => List.mem_cons_of_mem _ (in_M w h)) rfl (by decide) (List.mem_cons_of_mem _ (mx_in0 (by decide +kernel) rfl)) rfl d_M_isRow_32,
  mx_s_iload_n C d_M_isRow_35 rfl,
  mx_s_iald C d_M_isRow_36,
  mx_s_ic_eq C d_M_isRow_37 (by decide),
  mx_s_iconst C d_M_isRow_40 (by decide),
  mx_s_zret C hr hlk d_M_isRow_41,
  mx_s_iinc C d_M_isRow_42 (by decide) (by decide),
  mx_s_goto C d_M_isRow_45 (by decide),
  mx_s_iconst C d_M_isRow_48 (by decide),
  mx_s_zret C hr hlk d_M_isRow_49,
  trivial⟩
set_option maxRecDepth 20000 in
set_option maxHeartbeats 2000000 in
theorem m_M_isRow (l : Launch) : mx_M l y_M_isRow w_M_isRow rm_M_isRow sp_M_isRow := by
  intro D tc tb ad As F P sz0 h
  obtain ⟨th, sp, wy, kp, sd, rn, n, j, N, rl, lt, ml, rfl, h0, h1, h2, h3, hr, hw, hj, ho, hz⟩ := h
  refine mx_run (cc := c_M_isRow) (maxL := 3) (ret := (some .boolean)) (tab := t_M_isRow  P) (by decide) rfl D tc tb ad _ F P sz0 (Nat.le_of_ble_eq_true rfl) (fun p e s m args below meth c C hr hlk => a_M_isRow  C hr hlk) ?_
  intro Rr go
  have hF := mx_as4 h0 h1 h2 h3
  rw [hF]
  have hn := hw.1
  have hN := hw.2.1 j hj
  refine go rfl ⟨_, rfl, ?_⟩
  refine go rfl ⟨_, _, _, _, rfl, rfl, rfl, ?_⟩
  refine go rfl ⟨_, rfl, ?_⟩
  refine go rfl ⟨_, _, _, _, _, rfl, rfl, (vp_in_nI (show j < 60 by omega) (by omega)), ?_⟩
  rw [nI_clamp (by omega), hw.2.2 j hj]
  refine go rfl ⟨_, rfl, ?_⟩
  refine go rfl ⟨_, _, _, _, rfl, rfl, rfl, ?_⟩
  refine go rfl ⟨_, _, _, rfl, fun c1 => ?_, fun c1 => ?_⟩
  rotate_left
  · refine go rfl ?_
    refine go rfl ⟨_, rfl, rfl, rfl, (Or.inl rfl), ?_⟩
    rw [← hF]
    exact hz (fun h => c1 (by rw [h.1]))
  have hlen : N j = rn := (nI_eq (by omega) (by omega)).mp c1
  have loop : ∀ (k i : Nat), i + k = rn → (∀ q, q < i → lt (6 * j + q) = rl q) → Rr 17 [some (mx_r 40), some (mx_i (nI j)), some (mx_i (nI i))] [] (mx_put (mx_put (mx_put (mx_put F 40 (e_M th (nI rn) (nI n) sp wy kp sd)) 41 (mx_ia 12 rl)) 42 (mx_ia 360 lt)) 43 (mx_ia 60 ml)) 0 0 := by
    intro k
    induction k with
    | zero =>
      intro i hi hq
      refine go rfl ⟨_, rfl, ?_⟩
      refine go rfl ⟨_, rfl, ?_⟩
      refine go rfl ⟨_, _, _, _, rfl, rfl, rfl, ?_⟩
      refine go rfl ⟨_, _, _, rfl, fun c => ?_, fun c => ?_⟩
      · refine go rfl ?_
        refine go rfl ⟨_, rfl, rfl, rfl, (Or.inr rfl), ?_⟩
        rw [← hF]
        exact ho ⟨hlen, fun q hq2 => hq q (by omega)⟩
      · exact absurd (nI_le (by omega) (by omega)) c
    | succ k ih =>
      intro i hi hq
      refine go rfl ⟨_, rfl, ?_⟩
      refine go rfl ⟨_, rfl, ?_⟩
      refine go rfl ⟨_, _, _, _, rfl, rfl, rfl, ?_⟩
      refine go rfl ⟨_, _, _, rfl, fun c => ?_, fun c => ?_⟩
      · exact absurd ((nI_leI (by omega) (by omega)).mp c) (by omega)
      refine go rfl ⟨_, rfl, ?_⟩
      refine go rfl ⟨_, rfl, ?_⟩
      refine go rfl ⟨_, rfl, ?_⟩
      refine go rfl ⟨_, _, _, _, _, rfl, rfl, rfl, rfl, rfl, ⟨_, _, _, _, _, _, _, lt, j, i, rfl, rfl, rfl, by omega, by omega, ?_⟩⟩
      refine go rfl ⟨_, rfl, ?_⟩
      refine go rfl ⟨_, _, _, _, rfl, rfl, rfl, ?_⟩
      refine go rfl ⟨_, rfl, ?_⟩
      refine go rfl ⟨_, _, _, _, _, rfl, rfl, (vp_in_nI (show i < 12 by omega) (by omega)), ?_⟩
      rw [nI_clamp (by omega)]
      refine go rfl ⟨_, _, _, rfl, fun d => ?_, fun d => ?_⟩
      · refine go rfl ⟨_, rfl, ?_⟩
        refine go rfl ?_
        rw [nI_add]
        refine ih (i + 1) (by omega) (fun q hq2 => ?_)
        rcases Nat.lt_or_ge q i with w | w
        · exact hq q w
        · rw [show q = i by omega]
          exact d
      · refine go rfl ?_
        refine go rfl ⟨_, rfl, rfl, rfl, (Or.inl rfl), ?_⟩
        rw [← hF]
        exact hz (fun h => d (h.2 i (by omega)))
  refine go rfl ?_
  refine go rfl ⟨_, _, rfl, ?_⟩
  exact loop rn 0 (by omega) (fun q hq => absurd hq (Nat.not_lt_zero q))
-- LadderWordsModel.enter()I
def sp_M_enter : mx_Sp := fun As F P => ∃ (th : Int32) (sp : Int32) (wy : Int64) (kp sd : Int32) (rn n : Nat) (N : Nat → Nat) (rl lt ml : Nat → Int32), As = [mx_r 40] ∧ F 40 = some (e_M th (nI rn) (nI n) sp wy kp sd) ∧ F 41 = some (mx_ia 12 rl) ∧ F 42 = some (mx_ia 360 lt) ∧ F 43 = some (mx_ia 60 ml) ∧ rn ≤ 12 ∧ mok n N ml ∧ ((rn = 0 ∨ 6 < rn) → P (some (mx_i (-1))) F) ∧ (∀ j, 1 ≤ rn → rn ≤ 6 → j < n → msame N lt rl rn j → (∀ k, k < j → ¬ msame N lt rl rn k) → P (some (mx_i (nI j))) F) ∧ (1 ≤ rn → rn ≤ 6 → (∀ j, j < n → ¬ msame N lt rl rn j) → 60 ≤ n → P (some (mx_i (-1))) F) ∧ (1 ≤ rn → rn ≤ 6 → (∀ j, j < n → ¬ msame N lt rl rn j) → n < 60 → ∀ lt', (∀ q, q < 6 * n → lt' q = lt q) → (∀ i, i < rn → lt' (6 * n + i) = rl i) → P (some (mx_i (nI n))) (mx_put (mx_put (mx_put F 42 (mx_ia 360 lt')) 43 (mx_ia 60 (upd ml n (nI rn)))) 40 (e_M th (nI rn) (nI (n + 1)) (-1) wy (nI 0) (nI 0))))
theorem d_M_enter_0 : decode c_M_enter 0 = .ok (.aload_n 0, 1) := by decide +kernel
theorem d_M_enter_1 : decode c_M_enter 1 = .ok (.getfield 54, 3) := by decide +kernel
theorem d_M_enter_4 : decode c_M_enter 4 = .ok (.ifCond .eq 12, 3) := by decide +kernel
theorem d_M_enter_7 : decode c_M_enter 7 = .ok (.aload_n 0, 1) := by decide +kernel
theorem d_M_enter_8 : decode c_M_enter 8 = .ok (.getfield 54, 3) := by decide +kernel
theorem d_M_enter_11 : decode c_M_enter 11 = .ok (.bipush 6, 2) := by decide +kernel
theorem d_M_enter_13 : decode c_M_enter 13 = .ok (.if_icmp .le 5, 3) := by decide +kernel
theorem d_M_enter_16 : decode c_M_enter 16 = .ok (.iconst (-1), 1) := by decide +kernel
theorem d_M_enter_17 : decode c_M_enter 17 = .ok (.ireturn, 1) := by decide +kernel
theorem d_M_enter_18 : decode c_M_enter 18 = .ok (.iconst 0, 1) := by decide +kernel
theorem d_M_enter_19 : decode c_M_enter 19 = .ok (.istore_n 1, 1) := by decide +kernel
theorem d_M_enter_20 : decode c_M_enter 20 = .ok (.iload_n 1, 1) := by decide +kernel
theorem d_M_enter_21 : decode c_M_enter 21 = .ok (.aload_n 0, 1) := by decide +kernel
theorem d_M_enter_22 : decode c_M_enter 22 = .ok (.getfield 51, 3) := by decide +kernel
theorem d_M_enter_25 : decode c_M_enter 25 = .ok (.if_icmp .ge 19, 3) := by decide +kernel
theorem d_M_enter_28 : decode c_M_enter 28 = .ok (.aload_n 0, 1) := by decide +kernel
theorem d_M_enter_29 : decode c_M_enter 29 = .ok (.iload_n 1, 1) := by decide +kernel
theorem d_M_enter_30 : decode c_M_enter 30 = .ok (.invokevirtual 61, 3) := by decide +kernel
theorem d_M_enter_33 : decode c_M_enter 33 = .ok (.ifCond .eq 5, 3) := by decide +kernel
theorem d_M_enter_36 : decode c_M_enter 36 = .ok (.iload_n 1, 1) := by decide +kernel
theorem d_M_enter_37 : decode c_M_enter 37 = .ok (.ireturn, 1) := by decide +kernel
theorem d_M_enter_38 : decode c_M_enter 38 = .ok (.iinc 1 1, 3) := by decide +kernel
theorem d_M_enter_41 : decode c_M_enter 41 = .ok (.goto (-21), 3) := by decide +kernel
theorem d_M_enter_44 : decode c_M_enter 44 = .ok (.aload_n 0, 1) := by decide +kernel
theorem d_M_enter_45 : decode c_M_enter 45 = .ok (.getfield 51, 3) := by decide +kernel
theorem d_M_enter_48 : decode c_M_enter 48 = .ok (.bipush 60, 2) := by decide +kernel
theorem d_M_enter_50 : decode c_M_enter 50 = .ok (.if_icmp .ne 5, 3) := by decide +kernel
theorem d_M_enter_53 : decode c_M_enter 53 = .ok (.iconst (-1), 1) := by decide +kernel
theorem d_M_enter_54 : decode c_M_enter 54 = .ok (.ireturn, 1) := by decide +kernel
theorem d_M_enter_55 : decode c_M_enter 55 = .ok (.iconst 0, 1) := by decide +kernel
theorem d_M_enter_56 : decode c_M_enter 56 = .ok (.istore_n 1, 1) := by decide +kernel
theorem d_M_enter_57 : decode c_M_enter 57 = .ok (.iload_n 1, 1) := by decide +kernel
theorem d_M_enter_58 : decode c_M_enter 58 = .ok (.aload_n 0, 1) := by decide +kernel
theorem d_M_enter_59 : decode c_M_enter 59 = .ok (.getfield 54, 3) := by decide +kernel
theorem d_M_enter_62 : decode c_M_enter 62 = .ok (.if_icmp .ge 29, 3) := by decide +kernel
theorem d_M_enter_65 : decode c_M_enter 65 = .ok (.aload_n 0, 1) := by decide +kernel
theorem d_M_enter_66 : decode c_M_enter 66 = .ok (.getfield 13, 3) := by decide +kernel
theorem d_M_enter_69 : decode c_M_enter 69 = .ok (.bipush 6, 2) := by decide +kernel
theorem d_M_enter_71 : decode c_M_enter 71 = .ok (.aload_n 0, 1) := by decide +kernel
theorem d_M_enter_72 : decode c_M_enter 72 = .ok (.getfield 51, 3) := by decide +kernel
theorem d_M_enter_75 : decode c_M_enter 75 = .ok (.imul, 1) := by decide +kernel
theorem d_M_enter_76 : decode c_M_enter 76 = .ok (.iload_n 1, 1) := by decide +kernel
theorem d_M_enter_77 : decode c_M_enter 77 = .ok (.iadd, 1) := by decide +kernel
theorem d_M_enter_78 : decode c_M_enter 78 = .ok (.aload_n 0, 1) := by decide +kernel
theorem d_M_enter_79 : decode c_M_enter 79 = .ok (.getfield 7, 3) := by decide +kernel
theorem d_M_enter_82 : decode c_M_enter 82 = .ok (.iload_n 1, 1) := by decide +kernel
theorem d_M_enter_83 : decode c_M_enter 83 = .ok (.iaload, 1) := by decide +kernel
theorem d_M_enter_84 : decode c_M_enter 84 = .ok (.iastore, 1) := by decide +kernel
theorem d_M_enter_85 : decode c_M_enter 85 = .ok (.iinc 1 1, 3) := by decide +kernel
theorem d_M_enter_88 : decode c_M_enter 88 = .ok (.goto (-31), 3) := by decide +kernel
theorem d_M_enter_91 : decode c_M_enter 91 = .ok (.aload_n 0, 1) := by decide +kernel
theorem d_M_enter_92 : decode c_M_enter 92 = .ok (.getfield 16, 3) := by decide +kernel
theorem d_M_enter_95 : decode c_M_enter 95 = .ok (.aload_n 0, 1) := by decide +kernel
theorem d_M_enter_96 : decode c_M_enter 96 = .ok (.getfield 51, 3) := by decide +kernel
theorem d_M_enter_99 : decode c_M_enter 99 = .ok (.aload_n 0, 1) := by decide +kernel
theorem d_M_enter_100 : decode c_M_enter 100 = .ok (.getfield 54, 3) := by decide +kernel
theorem d_M_enter_103 : decode c_M_enter 103 = .ok (.iastore, 1) := by decide +kernel
theorem d_M_enter_104 : decode c_M_enter 104 = .ok (.aload_n 0, 1) := by decide +kernel
theorem d_M_enter_105 : decode c_M_enter 105 = .ok (.dup, 1) := by decide +kernel
theorem d_M_enter_106 : decode c_M_enter 106 = .ok (.getfield 51, 3) := by decide +kernel
theorem d_M_enter_109 : decode c_M_enter 109 = .ok (.iconst 1, 1) := by decide +kernel
theorem d_M_enter_110 : decode c_M_enter 110 = .ok (.iadd, 1) := by decide +kernel
theorem d_M_enter_111 : decode c_M_enter 111 = .ok (.putfield 51, 3) := by decide +kernel
theorem d_M_enter_114 : decode c_M_enter 114 = .ok (.aload_n 0, 1) := by decide +kernel
theorem d_M_enter_115 : decode c_M_enter 115 = .ok (.iconst (-1), 1) := by decide +kernel
theorem d_M_enter_116 : decode c_M_enter 116 = .ok (.putfield 19, 3) := by decide +kernel
theorem d_M_enter_119 : decode c_M_enter 119 = .ok (.aload_n 0, 1) := by decide +kernel
theorem d_M_enter_120 : decode c_M_enter 120 = .ok (.iconst 0, 1) := by decide +kernel
theorem d_M_enter_121 : decode c_M_enter 121 = .ok (.putfield 65, 3) := by decide +kernel
theorem d_M_enter_124 : decode c_M_enter 124 = .ok (.aload_n 0, 1) := by decide +kernel
theorem d_M_enter_125 : decode c_M_enter 125 = .ok (.iconst 0, 1) := by decide +kernel
theorem d_M_enter_126 : decode c_M_enter 126 = .ok (.putfield 68, 3) := by decide +kernel
theorem d_M_enter_129 : decode c_M_enter 129 = .ok (.aload_n 0, 1) := by decide +kernel
theorem d_M_enter_130 : decode c_M_enter 130 = .ok (.getfield 51, 3) := by decide +kernel
theorem d_M_enter_133 : decode c_M_enter 133 = .ok (.iconst 1, 1) := by decide +kernel
theorem d_M_enter_134 : decode c_M_enter 134 = .ok (.isub, 1) := by decide +kernel
theorem d_M_enter_135 : decode c_M_enter 135 = .ok (.ireturn, 1) := by decide +kernel
abbrev w_M_enter : List Cond := mx_ws y_M_enter c_M_enter 2 (some .int)
abbrev rm_M_enter : Room := { frames := 30, cells := 0, slots := 0, locals := 600 }
def t_M_enter  (P : Option mx_V → mx_F → Prop) : List (Nat × mx_O) := [
  (0, mx_aload 0 1),
  (1, mx_get 7 1 4),
  (4, mx_if_eq 16 7),
  (7, mx_aload 0 8),
  (8, mx_get 7 1 11),
  (11, mx_push (.inl (nI 6)) 13),
  (13, mx_ic_le 18 16),
  (16, mx_push (.inl (-1)) 17),
  (17, mx_iret P),
  (18, mx_push (.inl (nI 0)) 19),
  (19, mx_istore 1 20),
  (20, mx_iload 1 21),
  (21, mx_aload 0 22),
  (22, mx_get 7 3 25),
  (25, mx_ic_ge 44 28),
  (28, mx_aload 0 29),
  (29, mx_iload 1 30),
  (30, mx_cv1 7 sp_M_isRow 0 0 33),
  (33, mx_if_eq 38 36),
  (36, mx_iload 1 37),
  (37, mx_iret P),
  (38, mx_iinc 1 (nI 1) 41),
  (41, mx_goto 20),
  (44, mx_aload 0 45),
  (45, mx_get 7 3 48),
  (48, mx_push (.inl (nI 60)) 50),
  (50, mx_ic_ne 55 53),
  (53, mx_push (.inl (-1)) 54),
  (54, mx_iret P),
  (55, mx_push (.inl (nI 0)) 56),
  (56, mx_istore 1 57),
  (57, mx_iload 1 58),
  (58, mx_aload 0 59),
  (59, mx_get 7 1 62),
  (62, mx_ic_ge 91 65),
  (65, mx_aload 0 66),
  (66, mx_get 7 4 69),
  (69, mx_push (.inl (nI 6)) 71),
  (71, mx_aload 0 72),
  (72, mx_get 7 3 75),
  (75, mx_imul 76),
  (76, mx_iload 1 77),
  (77, mx_iadd 78),
  (78, mx_aload 0 79),
  (79, mx_get 7 2 82),
  (82, mx_iload 1 83),
  (83, mx_iald 84),
  (84, mx_iast 85),
  (85, mx_iinc 1 (nI 1) 88),
  (88, mx_goto 57),
  (91, mx_aload 0 92),
  (92, mx_get 7 5 95),
  (95, mx_aload 0 96),
  (96, mx_get 7 3 99),
  (99, mx_aload 0 100),
  (100, mx_get 7 1 103),
  (103, mx_iast 104),
  (104, mx_aload 0 105),
  (105, mx_dup 106),
  (106, mx_get 7 3 109),
  (109, mx_push (.inl (nI 1)) 110),
  (110, mx_iadd 111),
  (111, mx_puti 7 3 114),
  (114, mx_aload 0 115),
  (115, mx_push (.inl (-1)) 116),
  (116, mx_puti 7 6 119),
  (119, mx_aload 0 120),
  (120, mx_push (.inl (nI 0)) 121),
  (121, mx_puti 7 11 124),
  (124, mx_aload 0 125),
  (125, mx_push (.inl (nI 0)) 126),
  (126, mx_puti 7 15 129),
  (129, mx_aload 0 130),
  (130, mx_get 7 3 133),
  (133, mx_push (.inl (nI 1)) 134),
  (134, mx_isub 135),
  (135, mx_iret P)]
set_option maxRecDepth 20000 in
theorem a_M_enter  {p : Program} {l : Launch} {e : Env} {s : State} {m : MethodId} {args : Array Value} {below : List Frame} {meth : Method} {c : Code} {D : va_G} {tc : Nat → ClassId} {tb : Nat → Nat} {sz : Nat} {a0 : Nat → Nat} {G : mx_F} {P : Option mx_V → mx_F → Prop}  (C : mx_C p s m args c c_M_enter y_M_enter.cls w_M_enter D tc tb (mx_A a0 G sz) 2 (mx_Ok0 a0 G)) (hr : meth.sig.returnType = (some .int)) (hlk : meth.locks = false) : mx_all (mx_W p l e rm_M_enter s m args below meth c (MQ below (mx_Q D tc tb a0 G sz P) args s 0 0 (mx_A a0 G sz)) D tc tb (mx_A a0 G sz) 2 (mx_Ok0 a0 G)) (t_M_enter  P) :=
  ⟨mx_s_aload_n C d_M_enter_0 rfl,
  mx_s_get (T := T_M) (N := 18) (k := 1) C (fun w h => List.mem_cons_of_mem _ (in_M w h)) rfl (by decide) (List.mem_cons_of_mem _ (mx_in0 (by decide +kernel) rfl)) rfl d_M_enter_1,
  mx_s_if_eq C d_M_enter_4 (by decide),
  mx_s_aload_n C d_M_enter_7 rfl,
  mx_s_get (T := T_M) (N := 18) (k := 1) C (fun w h => List.mem_cons_of_mem _ (in_M w h)) rfl (by decide) (List.mem_cons_of_mem _ (mx_in0 (by decide +kernel) rfl)) rfl d_M_enter_8,
  mx_s_bipush C d_M_enter_11 (by decide),
  mx_s_ic_le C d_M_enter_13 (by decide),
  mx_s_iconst C d_M_enter_16 (by decide),
  mx_s_iret C hr hlk d_M_enter_17,
  mx_s_iconst C d_M_enter_18 (by decide),
  mx_s_istore_n C d_M_enter_19 rfl (by decide),
  mx_s_iload_n C d_M_enter_20 rfl,
  mx_s_aload_n C d_M_enter_21 rfl,
  mx_s_get (T := T_M) (N := 18) (k := 3) C (fun w h => List.mem_cons_of_mem _ (in_M w h)) rfl (by decide) (List.mem_cons_of_mem _ (mx_in0 (by decide +kernel) rfl)) rfl d_M_enter_22,
  mx_s_ic_ge C d_M_enter_25 (by decide),
  mx_s_aload_n C d_M_enter_28 rfl,
  mx_s_iload_n C d_M_enter_29 rfl,
  mx_s_cv1 C (m_M_isRow l) rfl (cwV 1 C.2.2.2.2.1 (mx_gV (fun w h => List.mem_cons_of_mem _ h) (mx_in0 (by decide +kernel) rfl) (mx_in0 (by decide +kernel) rfl) (mx_in0 (by decide +kernel) rfl) (mx_in0 (by decide +kernel) rfl) (mx_in0 (by decide +kernel) rfl)) rfl rfl rfl (by decide +kernel) ⟨by decide, by decide⟩) d_M_enter_30 ⟨Nat.zero_le _, Nat.zero_le _⟩,
  mx_s_if_eq C d_M_enter_33 (by decide),
  mx_s_iload_n C d_M_enter_36 rfl,
  mx_s_iret C hr hlk d_M_enter_37,
  mx_s_iinc C d_M_enter_38 (by decide) (by decide),
  mx_s_goto C d_M_enter_41 (by decide),
  mx_s_aload_n C d_M_enter_44 rfl,
  mx_s_get (T := T_M) (N := 18) (k := 3) C (fun w h => List.mem_cons_of_mem _ (in_M w h)) rfl (by decide) (List.mem_cons_of_mem _ (mx_in0 (by decide +kernel) rfl)) rfl d_M_enter_45,
  mx_s_bipush C d_M_enter_48 (by decide),
  mx_s_ic_ne C d_M_enter_50 (by decide),
  mx_s_iconst C d_M_enter_53 (by decide),
  mx_s_iret C hr hlk d_M_enter_54,
  mx_s_iconst C d_M_enter_55 (by decide),
  mx_s_istore_n C d_M_enter_56 rfl (by decide),
  mx_s_iload_n C d_M_enter_57 rfl,
  mx_s_aload_n C d_M_enter_58 rfl,
  mx_s_get (T := T_M) (N := 18) (k := 1) C (fun w h => List.mem_cons_of_mem _ (in_M w h)) rfl (by decide) (List.mem_cons_of_mem _ (mx_in0 (by decide +kernel) rfl)) rfl d_M_enter_59,
  mx_s_ic_ge C d_M_enter_62 (by decide),
  mx_s_aload_n C d_M_enter_65 rfl,
  mx_s_get (T := T_M) (N := 18) (k := 4) C (fun w h => List.mem_cons_of_mem _ (in_M w h)) rfl (by decide) (List.mem_cons_of_mem _ (mx_in0 (by decide +kernel) rfl)) rfl d_M_enter_66,
  mx_s_bipush C d_M_enter_69 (by decide),
  mx_s_aload_n C d_M_enter_71 rfl,
  mx_s_get (T := T_M) (N := 18) (k := 3) C (fun w h => List.mem_cons_of_mem _ (in_M w h)) rfl (by decide) (List.mem_cons_of_mem _ (mx_in0 (by decide +kernel) rfl)) rfl d_M_enter_72,
  mx_s_imul C d_M_enter_75,
  mx_s_iload_n C d_M_enter_76 rfl,
  mx_s_iadd C d_M_enter_77,
  mx_s_aload_n C d_M_enter_78 rfl,
  mx_s_get (T := T_M) (N := 18) (k := 2) C (fun w h => List.mem_cons_of_mem _ (in_M w h)) rfl (by decide) (List.mem_cons_of_mem _ (mx_in0 (by decide +kernel) rfl)) rfl d_M_enter_79,
  mx_s_iload_n C d_M_enter_82 rfl,
  mx_s_iald C d_M_enter_83,
  mx_s_iast C d_M_enter_84,
  mx_s_iinc C d_M_enter_85 (by decide) (by decide),
  mx_s_goto C d_M_enter_88 (by decide),
  mx_s_aload_n C d_M_enter_91 rfl,
  mx_s_get (T := T_M) (N := 18) (k := 5) C (fun w h => List.mem_cons_of_mem _ (in_M w h)) rfl (by decide) (List.mem_cons_of_mem _ (mx_in0 (by decide +kernel) rfl)) rfl d_M_enter_92,
  mx_s_aload_n C d_M_enter_95 rfl,
  mx_s_get (T := T_M) (N := 18) (k := 3) C (fun w h => List.mem_cons_of_mem _ (in_M w h)) rfl (by decide) (List.mem_cons_of_mem _ (mx_in0 (by decide +kernel) rfl)) rfl d_M_enter_96,
  mx_s_aload_n C d_M_enter_99 rfl,
  mx_s_get (T := T_M) (N := 18) (k := 1) C (fun w h => List.mem_cons_of_mem _ (in_M w h)) rfl (by decide) (List.mem_cons_of_mem _ (mx_in0 (by decide +kernel) rfl)) rfl d_M_enter_100,
  mx_s_iast C d_M_enter_103,
  mx_s_aload_n C d_M_enter_104 rfl,
  mx_s_dup C d_M_enter_105,
  mx_s_get (T := T_M) (N := 18) (k := 3) C (fun w h => List.mem_cons_of_mem _ (in_M w h)) rfl (by decide) (List.mem_cons_of_mem _ (mx_in0 (by decide +kernel) rfl)) rfl d_M_enter_106,
  mx_s_iconst C d_M_enter_109 (by decide),
  mx_s_iadd C d_M_enter_110,
  mx_s_puti (T := T_M) (N := 18) (k := 3) C (fun w h => List.mem_cons_of_mem _ (in_M w h)) rfl ty_M ok_M nm_M (by decide) (List.mem_cons_of_mem _ (mx_in0 (by decide +kernel) rfl)) rfl rfl (ok_M 3 (by decide)) d_M_enter_111,
  mx_s_aload_n C d_M_enter_114 rfl,
  mx_s_iconst C d_M_enter_115 (by decide),
  mx_s_puti (T := T_M) (N := 18) (k := 6) C (fun w h => List.mem_cons_of_mem _ (in_M w h)) rfl ty_M ok_M nm_M (by decide) (List.mem_cons_of_mem _ (mx_in0 (by decide +kernel) rfl)) rfl rfl (ok_M 6 (by decide)) d_M_enter_116,
  mx_s_aload_n C d_M_enter_119 rfl,
  mx_s_iconst C d_M_enter_120 (by decide),
  mx_s_puti (T := T_M) (N := 18) (k := 11) C (fun w h => List.mem_cons_of_mem _ (in_M w h)) rfl ty_M ok_M nm_M (by decide) (List.mem_cons_of_mem _ (mx_in0 (by decide +kernel) rfl)) rfl rfl (ok_M 11 (by decide)) d_M_enter_121,
  mx_s_aload_n C d_M_enter_124 rfl,
  mx_s_iconst C d_M_enter_125 (by decide),
  mx_s_puti (T := T_M) (N := 18) (k := 15) C (fun w h => List.mem_cons_of_mem _ (in_M w h)) rfl ty_M ok_M nm_M (by decide) (List.mem_cons_of_mem _ (mx_in0 (by decide +kernel) rfl)) rfl rfl (ok_M 15 (by decide)) d_M_enter_126,
  mx_s_aload_n C d_M_enter_129 rfl,
  mx_s_get (T := T_M) (N := 18) (k := 3) C (fun w h => List.mem_cons_of_mem _ (in_M w h)) rfl (by decide) (List.mem_cons_of_mem _ (mx_in0 (by decide +kernel) rfl)) rfl d_M_enter_130,
  mx_s_iconst C d_M_enter_133 (by decide),
  mx_s_isub C d_M_enter_134,
  mx_s_iret C hr hlk d_M_enter_135,
  trivial⟩
set_option maxRecDepth 20000 in
set_option maxHeartbeats 2000000 in
theorem m_M_enter (l : Launch) : mx_M l y_M_enter w_M_enter rm_M_enter sp_M_enter := by
  intro D tc tb ad As F P sz0 h
  obtain ⟨th, sp, wy, kp, sd, rn, n, N, rl, lt, ml, rfl, h0, h1, h2, h3, hr, hw, hz, hk, hf, ha⟩ := h
  refine mx_run (cc := c_M_enter) (maxL := 2) (ret := (some .int)) (tab := t_M_enter  P) (by decide) rfl D tc tb ad _ F P sz0 (Nat.le_of_ble_eq_true rfl) (fun p e s m args below meth c C hr hlk => a_M_enter  C hr hlk) ?_
  intro Rr go
  have hF := mx_as4 h0 h1 h3 h2
  have hX := mx_as3 h0 h1 h3
  rw [hF]
  have hn := hw.1
  refine go rfl ⟨_, rfl, ?_⟩
  refine go rfl ⟨_, _, _, _, rfl, rfl, rfl, ?_⟩
  refine go rfl ⟨_, _, rfl, fun c1 => ?_, fun c1 => ?_⟩
  · refine go rfl ?_
    refine go rfl ⟨_, rfl, rfl, rfl, ?_⟩
    rw [← hF]
    refine hz (Or.inl ?_)
    rcases Nat.eq_zero_or_pos rn with q | q
    · exact q
    · exact absurd c1 (nI_ne0 q (by omega))
  have h1r : 1 ≤ rn := by
    rcases Nat.eq_zero_or_pos rn with q | q
    · rw [q] at c1
      exact absurd rfl c1
    · exact q
  refine go rfl ⟨_, rfl, ?_⟩
  refine go rfl ⟨_, _, _, _, rfl, rfl, rfl, ?_⟩
  refine go rfl ?_
  refine go rfl ⟨_, _, _, rfl, fun c2 => ?_, fun c2 => ?_⟩
  rotate_left
  · refine go rfl ?_
    refine go rfl ⟨_, rfl, rfl, rfl, ?_⟩
    rw [← hF]
    refine hz (Or.inr ?_)
    rcases Nat.lt_or_ge 6 rn with q | q
    · exact q
    · exact absurd (nI_le q (by omega)) c2
  have h6r : rn ≤ 6 := (nI_leI (by omega) (by omega)).mp c2
  have app : n < 60 → (∀ j, j < n → ¬ msame N lt rl rn j) → ∀ (k i : Nat) (lt' : Nat → Int32), i + k = rn → (∀ q, q < 6 * n → lt' q = lt q) → (∀ q, q < i → lt' (6 * n + q) = rl q) → Rr 57 [some (mx_r 40), some (mx_i (nI i))] [] (mx_put (mx_put (mx_put (mx_put F 40 (e_M th (nI rn) (nI n) sp wy kp sd)) 41 (mx_ia 12 rl)) 43 (mx_ia 60 ml)) 42 (mx_ia 360 lt')) 0 0 := by
    intro hn60 hno k
    induction k with
    | zero =>
      intro i lt' hi qa qb
      refine go rfl ⟨_, rfl, ?_⟩
      refine go rfl ⟨_, rfl, ?_⟩
      refine go rfl ⟨_, _, _, _, rfl, rfl, rfl, ?_⟩
      refine go rfl ⟨_, _, _, rfl, fun c => ?_, fun c => ?_⟩
      · refine go rfl ⟨_, rfl, ?_⟩
        refine go rfl ⟨_, _, _, _, rfl, rfl, rfl, ?_⟩
        refine go rfl ⟨_, rfl, ?_⟩
        refine go rfl ⟨_, _, _, _, rfl, rfl, rfl, ?_⟩
        refine go rfl ⟨_, rfl, ?_⟩
        refine go rfl ⟨_, _, _, _, rfl, rfl, rfl, ?_⟩
        refine go rfl ⟨_, _, _, _, _, _, rfl, rfl, (vp_in_nI (show n < 60 by omega) (by omega)), ?_⟩
        rw [nI_clamp (by omega)]
        refine go rfl ⟨_, rfl, ?_⟩
        refine go rfl ⟨_, _, rfl, rfl, ?_⟩
        refine go rfl ⟨_, _, _, _, rfl, rfl, rfl, ?_⟩
        refine go rfl ?_
        refine go rfl ⟨_, _, _, rfl, ?_⟩
        rw [nI_add]
        refine go rfl ⟨_, _, _, _, rfl, rfl, (Nat.le_of_ble_eq_true rfl), ?_⟩
        refine go rfl ⟨_, rfl, ?_⟩
        refine go rfl ?_
        refine go rfl ⟨_, _, _, _, rfl, rfl, (Nat.le_of_ble_eq_true rfl), ?_⟩
        refine go rfl ⟨_, rfl, ?_⟩
        refine go rfl ?_
        refine go rfl ⟨_, _, _, _, rfl, rfl, (Nat.le_of_ble_eq_true rfl), ?_⟩
        refine go rfl ⟨_, rfl, ?_⟩
        refine go rfl ?_
        refine go rfl ⟨_, _, _, _, rfl, rfl, (Nat.le_of_ble_eq_true rfl), ?_⟩
        refine go rfl ⟨_, rfl, ?_⟩
        refine go rfl ⟨_, _, _, _, rfl, rfl, rfl, ?_⟩
        refine go rfl ?_
        refine go rfl ⟨_, _, _, rfl, ?_⟩
        rw [pk_sub (by omega), show n + 1 - 1 = n by omega]
        refine go rfl ⟨_, rfl, rfl, rfl, ?_⟩
        simp only [mx_pp]
        rw [← hX]
        exact ha h1r h6r hno hn60 lt' qa (fun q hq => qb q (by omega))
      · exact absurd (nI_le (by omega) (by omega)) c
    | succ k ih =>
      intro i lt' hi qa qb
      refine go rfl ⟨_, rfl, ?_⟩
      refine go rfl ⟨_, rfl, ?_⟩
      refine go rfl ⟨_, _, _, _, rfl, rfl, rfl, ?_⟩
      refine go rfl ⟨_, _, _, rfl, fun c => ?_, fun c => ?_⟩
      · exact absurd ((nI_leI (by omega) (by omega)).mp c) (by omega)
      refine go rfl ⟨_, rfl, ?_⟩
      refine go rfl ⟨_, _, _, _, rfl, rfl, rfl, ?_⟩
      refine go rfl ?_
      refine go rfl ⟨_, rfl, ?_⟩
      refine go rfl ⟨_, _, _, _, rfl, rfl, rfl, ?_⟩
      refine go rfl ⟨_, _, _, rfl, ?_⟩
      rw [pk_mul]
      refine go rfl ⟨_, rfl, ?_⟩
      refine go rfl ⟨_, _, _, rfl, ?_⟩
      rw [nI_add]
      refine go rfl ⟨_, rfl, ?_⟩
      refine go rfl ⟨_, _, _, _, rfl, rfl, rfl, ?_⟩
      refine go rfl ⟨_, rfl, ?_⟩
      refine go rfl ⟨_, _, _, _, _, rfl, rfl, (vp_in_nI (show i < 12 by omega) (by omega)), ?_⟩
      refine go rfl ⟨_, _, _, _, _, _, rfl, rfl, (vp_in_nI (show 6 * n + i < 360 by omega) (by omega)), ?_⟩
      rw [nI_clamp (by omega), nI_clamp (by omega), mx_pp]
      refine go rfl ⟨_, rfl, ?_⟩
      refine go rfl ?_
      rw [nI_add]
      refine ih (i + 1) _ (by omega) (fun q hq => ?_) (fun q hq => ?_)
      · rw [pk_un (by omega)]
        exact qa q hq
      · by_cases hqi : q = i
        · rw [hqi, pk_us]
        · rw [pk_un (by omega)]
          exact qb q (by omega)
  have loop : ∀ (k i : Nat), i + k = n → (∀ q, q < i → ¬ msame N lt rl rn q) → Rr 20 [some (mx_r 40), some (mx_i (nI i))] [] (mx_put (mx_put (mx_put (mx_put F 40 (e_M th (nI rn) (nI n) sp wy kp sd)) 41 (mx_ia 12 rl)) 43 (mx_ia 60 ml)) 42 (mx_ia 360 lt)) 0 0 := by
    intro k
    induction k with
    | zero =>
      intro i hi hq
      refine go rfl ⟨_, rfl, ?_⟩
      refine go rfl ⟨_, rfl, ?_⟩
      refine go rfl ⟨_, _, _, _, rfl, rfl, rfl, ?_⟩
      refine go rfl ⟨_, _, _, rfl, fun c => ?_, fun c => ?_⟩
      · refine go rfl ⟨_, rfl, ?_⟩
        refine go rfl ⟨_, _, _, _, rfl, rfl, rfl, ?_⟩
        refine go rfl ?_
        refine go rfl ⟨_, _, _, rfl, fun c5 => ?_, fun c5 => ?_⟩
        · have hn60 : n < 60 := by
            rcases Nat.lt_or_ge n 60 with q | q
            · exact q
            · exact absurd (by rw [show n = 60 by omega]) c5
          refine go rfl ?_
          refine go rfl ⟨_, _, rfl, ?_⟩
          exact app hn60 (fun j hj => hq j (by omega)) rn 0 lt (by omega) (fun _ _ => rfl) (fun q hq2 => absurd hq2 (Nat.not_lt_zero q))
        · refine go rfl ?_
          refine go rfl ⟨_, rfl, rfl, rfl, ?_⟩
          rw [← hF]
          exact hf h1r h6r (fun j hj => hq j (by omega)) (Nat.le_of_eq ((nI_eq (by omega) (by omega)).mp c5).symm)
      · exact absurd (nI_le (by omega) (by omega)) c
    | succ k ih =>
      intro i hi hq
      refine go rfl ⟨_, rfl, ?_⟩
      refine go rfl ⟨_, rfl, ?_⟩
      refine go rfl ⟨_, _, _, _, rfl, rfl, rfl, ?_⟩
      refine go rfl ⟨_, _, _, rfl, fun c => ?_, fun c => ?_⟩
      · exact absurd ((nI_leI (by omega) (by omega)).mp c) (by omega)
      refine go rfl ⟨_, rfl, ?_⟩
      refine go rfl ⟨_, rfl, ?_⟩
      refine go rfl ⟨_, _, _, _, rfl, rfl, rfl, rfl, rfl, ⟨_, _, _, _, _, rn, n, i, N, rl, lt, ml, rfl, rfl, rfl, rfl, rfl, hr, hw, by omega, fun hs => ?_, fun hs => ?_⟩⟩
      · refine go rfl ⟨_, _, rfl, fun d => ?_, fun d => ?_⟩
        · exact absurd d (by decide)
        refine go rfl ⟨_, rfl, ?_⟩
        refine go rfl ⟨_, rfl, rfl, rfl, ?_⟩
        rw [← hF]
        exact hk i h1r h6r (by omega) hs hq
      · refine go rfl ⟨_, _, rfl, fun d => ?_, fun d => ?_⟩
        · refine go rfl ⟨_, rfl, ?_⟩
          refine go rfl ?_
          rw [nI_add]
          refine ih (i + 1) (by omega) (fun q hq2 => ?_)
          rcases Nat.lt_or_ge q i with w | w
          · exact hq q w
          · rw [show q = i by omega]
            exact hs
        · exact absurd rfl d
  refine go rfl ?_
  refine go rfl ⟨_, _, rfl, ?_⟩
  exact loop n 0 (by omega) (fun q hq => absurd hq (Nat.not_lt_zero q))
end
