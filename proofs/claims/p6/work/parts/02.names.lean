-- NAMES, by program: classes, fields, methods
/-- the words that a callee may rest on -/
def mx_T0 : List Cond := lw_tbl.filter goodWord
def R_G : String := "LadderWords$Gatherings"
def T_G : u_T := fun k => match k with
  | 0 => ("LadderWords$Gatherings", "words", "LLadderWords$Words;", true)
  | 1 => ("LadderWords$Gatherings", "fitting", "[I", true)
  | 2 => ("LadderWords$Gatherings", "heaps", "[J", true)
  | 3 => ("LadderWords$Gatherings", "fittingCount", "I", false)
  | 4 => ("LadderWords$Gatherings", "chosen", "[I", true)
  | 5 => ("LadderWords$Gatherings", "kept", "[I", true)
  | 6 => ("LadderWords$Gatherings", "keptCount", "I", false)
  | 7 => ("LadderWords$Gatherings", "total", "I", false)
  | _ => ("LadderWords$Gatherings", "wordsThen", "I", false)
def ty_G : Nat → FieldType := fun k => match k with
  | 0 => .object "LadderWords$Words"
  | 1 => .array .int
  | 2 => .array .long
  | 3 => .int
  | 4 => .array .int
  | 5 => .array .int
  | 6 => .int
  | 7 => .int
  | _ => .int
theorem nm_G : ∀ a, a < 9 → ∀ b, b < 9 → a ≠ b → (T_G a).2.1 ≠ (T_G b).2.1 := by decide +kernel
theorem ok_G : ∀ k, k < 9 → parseFieldDescriptor (T_G k).2.2.1 = some (ty_G k) := by decide +kernel
theorem in_G : ∀ w ∈ u_ws R_G T_G 9, w ∈ mx_T0 := by decide +kernel
def R_C : String := "LadderWords$Grid"
def T_C : u_T := fun k => match k with
  | 0 => ("LadderWords$Grid", "words", "LLadderWords$Words;", true)
  | _ => ("LadderWords$Grid", "cells", "[I", true)
def ty_C : Nat → FieldType := fun k => match k with
  | 0 => .object "LadderWords$Words"
  | _ => .array .int
theorem nm_C : ∀ a, a < 2 → ∀ b, b < 2 → a ≠ b → (T_C a).2.1 ≠ (T_C b).2.1 := by decide +kernel
theorem ok_C : ∀ k, k < 2 → parseFieldDescriptor (T_C k).2.2.1 = some (ty_C k) := by decide +kernel
theorem in_C : ∀ w ∈ u_ws R_C T_C 2, w ∈ mx_T0 := by decide +kernel
def R_D : String := "LadderWords$Ladders"
def T_D : u_T := fun k => match k with
  | 0 => ("LadderWords$Ladders", "words", "LLadderWords$Words;", true)
  | 1 => ("LadderWords$Ladders", "distances", "[I", true)
  | 2 => ("LadderWords$Ladders", "counts", "[J", true)
  | 3 => ("LadderWords$Ladders", "rungs", "[I", true)
  | 4 => ("LadderWords$Ladders", "rungCount", "I", false)
  | 5 => ("LadderWords$Ladders", "shortest", "J", false)
  | _ => ("LadderWords$Ladders", "wordsThen", "I", false)
def ty_D : Nat → FieldType := fun k => match k with
  | 0 => .object "LadderWords$Words"
  | 1 => .array .int
  | 2 => .array .long
  | 3 => .array .int
  | 4 => .int
  | 5 => .long
  | _ => .int
theorem nm_D : ∀ a, a < 7 → ∀ b, b < 7 → a ≠ b → (T_D a).2.1 ≠ (T_D b).2.1 := by decide +kernel
theorem ok_D : ∀ k, k < 7 → parseFieldDescriptor (T_D k).2.2.1 = some (ty_D k) := by decide +kernel
theorem in_D : ∀ w ∈ u_ws R_D T_D 7, w ∈ mx_T0 := by decide +kernel
def R_R : String := "LadderWords$Row"
def T_R : u_T := fun k => match k with
  | 0 => ("LadderWords$Row", "letters", "[I", true)
  | _ => ("LadderWords$Row", "length", "I", false)
def ty_R : Nat → FieldType := fun k => match k with
  | 0 => .array .int
  | _ => .int
theorem nm_R : ∀ a, a < 2 → ∀ b, b < 2 → a ≠ b → (T_R a).2.1 ≠ (T_R b).2.1 := by decide +kernel
theorem ok_R : ∀ k, k < 2 → parseFieldDescriptor (T_R k).2.2.1 = some (ty_R k) := by decide +kernel
theorem in_R : ∀ w ∈ u_ws R_R T_R 2, w ∈ mx_T0 := by decide +kernel
def R_Q : String := "LadderWords$Squares"
def T_Q : u_T := fun k => match k with
  | 0 => ("LadderWords$Squares", "words", "LLadderWords$Words;", true)
  | 1 => ("LadderWords$Squares", "having", "[[J", true)
  | 2 => ("LadderWords$Squares", "open", "[[J", true)
  | 3 => ("LadderWords$Squares", "lines", "[I", true)
  | 4 => ("LadderWords$Squares", "size", "I", false)
  | _ => ("LadderWords$Squares", "wordsThen", "I", false)
def ty_Q : Nat → FieldType := fun k => match k with
  | 0 => .object "LadderWords$Words"
  | 1 => .array (.array .long)
  | 2 => .array (.array .long)
  | 3 => .array .int
  | 4 => .int
  | _ => .int
theorem nm_Q : ∀ a, a < 6 → ∀ b, b < 6 → a ≠ b → (T_Q a).2.1 ≠ (T_Q b).2.1 := by decide +kernel
theorem ok_Q : ∀ k, k < 6 → parseFieldDescriptor (T_Q k).2.2.1 = some (ty_Q k) := by decide +kernel
theorem in_Q : ∀ w ∈ u_ws R_Q T_Q 6, w ∈ mx_T0 := by decide +kernel
def R_W : String := "LadderWords$Words"
def T_W : u_T := fun k => match k with
  | 0 => ("LadderWords$Words", "letters", "[I", true)
  | 1 => ("LadderWords$Words", "starts", "[I", true)
  | _ => ("LadderWords$Words", "count", "I", false)
def ty_W : Nat → FieldType := fun k => match k with
  | 0 => .array .int
  | 1 => .array .int
  | _ => .int
theorem nm_W : ∀ a, a < 3 → ∀ b, b < 3 → a ≠ b → (T_W a).2.1 ≠ (T_W b).2.1 := by decide +kernel
theorem ok_W : ∀ k, k < 3 → parseFieldDescriptor (T_W k).2.2.1 = some (ty_W k) := by decide +kernel
theorem in_W : ∀ w ∈ u_ws R_W T_W 3, w ∈ mx_T0 := by decide +kernel
def R_L : String := "LadderWords"
def T_L : u_T := fun k => match k with
  | 0 => ("LadderWords", "row", "LLadderWords$Row;", true)
  | 1 => ("LadderWords", "words", "LLadderWords$Words;", true)
  | 2 => ("LadderWords", "ladders", "LLadderWords$Ladders;", true)
  | 3 => ("LadderWords", "gatherings", "LLadderWords$Gatherings;", true)
  | 4 => ("LadderWords", "squares", "LLadderWords$Squares;", true)
  | _ => ("LadderWords", "grid", "LLadderWords$Grid;", true)
def ty_L : Nat → FieldType := fun k => match k with
  | 0 => .object "LadderWords$Row"
  | 1 => .object "LadderWords$Words"
  | 2 => .object "LadderWords$Ladders"
  | 3 => .object "LadderWords$Gatherings"
  | 4 => .object "LadderWords$Squares"
  | _ => .object "LadderWords$Grid"
theorem nm_L : ∀ a, a < 6 → ∀ b, b < 6 → a ≠ b → (T_L a).2.1 ≠ (T_L b).2.1 := by decide +kernel
theorem ok_L : ∀ k, k < 6 → parseFieldDescriptor (T_L k).2.2.1 = some (ty_L k) := by decide +kernel
theorem in_L : ∀ w ∈ u_ws R_L T_L 6, w ∈ mx_T0 := by decide +kernel
def R_M : String := "LadderWordsModel"
def T_M : u_T := fun k => match k with
  | 0 => ("LadderWordsModel", "thrown", "I", false)
  | 1 => ("LadderWordsModel", "size", "I", false)
  | 2 => ("LadderWordsModel", "row", "[I", true)
  | 3 => ("LadderWordsModel", "many", "I", false)
  | 4 => ("LadderWordsModel", "letters", "[I", true)
  | 5 => ("LadderWordsModel", "lengths", "[I", true)
  | 6 => ("LadderWordsModel", "steps", "I", false)
  | 7 => ("LadderWordsModel", "ladder", "[I", true)
  | 8 => ("LadderWordsModel", "ways", "J", false)
  | 9 => ("LadderWordsModel", "far", "[I", true)
  | 10 => ("LadderWordsModel", "counts", "[J", true)
  | 11 => ("LadderWordsModel", "kept", "I", false)
  | 12 => ("LadderWordsModel", "gatherings", "[I", true)
  | 13 => ("LadderWordsModel", "chosen", "[I", true)
  | 14 => ("LadderWordsModel", "left", "[I", true)
  | 15 => ("LadderWordsModel", "side", "I", false)
  | 16 => ("LadderWordsModel", "lines", "[I", true)
  | _ => ("LadderWordsModel", "grid", "[I", true)
def ty_M : Nat → FieldType := fun k => match k with
  | 0 => .int
  | 1 => .int
  | 2 => .array .int
  | 3 => .int
  | 4 => .array .int
  | 5 => .array .int
  | 6 => .int
  | 7 => .array .int
  | 8 => .long
  | 9 => .array .int
  | 10 => .array .long
  | 11 => .int
  | 12 => .array .int
  | 13 => .array .int
  | 14 => .array .int
  | 15 => .int
  | 16 => .array .int
  | _ => .array .int
theorem nm_M : ∀ a, a < 18 → ∀ b, b < 18 → a ≠ b → (T_M a).2.1 ≠ (T_M b).2.1 := by decide +kernel
theorem ok_M : ∀ k, k < 18 → parseFieldDescriptor (T_M k).2.2.1 = some (ty_M k) := by decide +kernel
theorem in_M : ∀ w ∈ u_ws R_M T_M 18, w ∈ mx_T0 := by decide +kernel
abbrev vwCl : List vw_C := [(R_G, T_G, 9), (R_C, T_C, 2), (R_D, T_D, 7), (R_R, T_R, 2), (R_Q, T_Q, 6), (R_W, T_W, 3), (R_L, T_L, 6), (R_M, T_M, 18)]
/-- the kinds of arrays -/
abbrev mx_ft : List FieldType := [.int, .long, .array .long]
/-- static fields that hold tables, and the tables -/
abbrev mx_zs : List (String × String × String × Nat) := [("LadderWords$Grid", "RIGHT", "[I", 0), ("LadderWords$Grid", "DOWN", "[I", 1)]
/-- links that a private constructor needs -/
abbrev mx_nw : List Cond := [Cond.methodLinkNest "LadderWords" 9 ⟨"LadderWords$Row", "<init>", "()V"⟩ "LadderWords", Cond.methodLinkNest "LadderWords" 18 ⟨"LadderWords$Words", "<init>", "()V"⟩ "LadderWords"]
def mx_t0 : Nat → Int32 := fun j => match j with
  | 0 => 1 | 1 => 1 | 2 => 0 | 3 => -1 | 4 => -1 | 5 => -1 | 6 => 0 | _ => 1
def mx_t1 : Nat → Int32 := fun j => match j with
  | 0 => 0 | 1 => 1 | 2 => 1 | 3 => 1 | 4 => 0 | 5 => -1 | 6 => -1 | _ => -1
abbrev mx_tt : Nat → Option (Nat × (Nat → Int32)) := fun t => match t with
  | 0 => some (8, mx_t0) | 1 => some (8, mx_t1) | _ => none
theorem mx_T0_in {w : Cond} (h : w ∈ mx_T0) : w ∈ lw_tbl := (List.mem_filter.mp h).1
theorem mx_in0 {w : Cond} (h : w ∈ lw_tbl) (h2 : goodWord w = true) : w ∈ mx_T0 := List.mem_filter.mpr ⟨h, h2⟩
theorem mx_good {w : Cond} (h : w ∈ mx_T0) : (w.onTables && w.keeps) = true ∨ ∃ ty, w = .arrayClass ty := good_of_word (List.mem_filter.mp h).2
/-- the words of a method: its code, and all words of the tables -/
abbrev mx_ws (y : MethodName) (cc : ByteArray) (n : Nat) (r : Option FieldType) : List Cond := Cond.code y cc n r :: mx_T0
theorem mx_gI {Ts : List Cond} {y : MethodName} {cc : ByteArray} {n : Nat} {r : Option FieldType} (hT : ∀ w ∈ mx_T0, w ∈ Ts) (h5 : Cond.code y cc n r ∈ mx_T0) : GoodIn Ts (mx_ws y cc n r) := by
  intro w hw
  rcases List.mem_cons.mp hw with rfl | hw
  · exact ⟨hT _ h5, mx_good h5⟩
  · exact ⟨hT _ hw, mx_good hw⟩
theorem mx_gV {Ts : List Cond} {own C : String} {i : Nat} {y : MethodName} {cc : ByteArray} {n : Nat} {r : Option FieldType} (hT : ∀ w ∈ mx_T0, w ∈ Ts) (h1 : Cond.methodLink own i y ∈ mx_T0) (h2 : Cond.instanceMethod y ∈ mx_T0) (h3 : Cond.selects C y y ∈ mx_T0) (h4 : Cond.initialized C ∈ mx_T0) (h5 : Cond.code y cc n r ∈ mx_T0) : GoodIn Ts (wsV own i C y (mx_ws y cc n r)) := by
  intro w hw
  rcases List.mem_append.mp hw with hw | hw
  · have hm : w ∈ mx_T0 := by
      simp only [List.mem_cons, List.not_mem_nil, or_false] at hw
      rcases hw with rfl | rfl | rfl | rfl <;> assumption
    exact ⟨hT _ hm, mx_good hm⟩
  · exact mx_gI hT h5 w hw
theorem mx_gS {Ts : List Cond} {own : String} {i : Nat} {y : MethodName} {cc : ByteArray} {n : Nat} {r : Option FieldType} (hT : ∀ w ∈ mx_T0, w ∈ Ts) (h1 : Cond.methodLink own i y ∈ mx_T0) (h2 : Cond.static y ∈ mx_T0) (h4 : Cond.initialized own ∈ mx_T0) (h5 : Cond.code y cc n r ∈ mx_T0) : GoodIn Ts (wsS own i y (mx_ws y cc n r)) := by
  intro w hw
  rcases List.mem_append.mp hw with hw | hw
  · have hm : w ∈ mx_T0 := by
      simp only [List.mem_cons, List.not_mem_nil, or_false] at hw
      rcases hw with rfl | rfl | rfl <;> assumption
    exact ⟨hT _ hm, mx_good hm⟩
  · exact mx_gI hT h5 w hw
abbrev c_L_init : ByteArray := prog_1_method_1_code
def y_L_init : MethodName := ⟨R_L, "<init>", "()V"⟩
abbrev c_R_init : ByteArray := prog_5_method_1_code
def y_R_init : MethodName := ⟨R_R, "<init>", "()V"⟩
abbrev c_W_init : ByteArray := prog_7_method_1_code
def y_W_init : MethodName := ⟨R_W, "<init>", "()V"⟩
abbrev c_D_init : ByteArray := prog_4_method_1_code
def y_D_init : MethodName := ⟨R_D, "<init>", "(LLadderWords$Words;)V"⟩
abbrev c_G_init : ByteArray := prog_2_method_1_code
def y_G_init : MethodName := ⟨R_G, "<init>", "(LLadderWords$Words;)V"⟩
abbrev c_Q_init : ByteArray := prog_6_method_1_code
def y_Q_init : MethodName := ⟨R_Q, "<init>", "(LLadderWords$Words;)V"⟩
abbrev c_C_init : ByteArray := prog_3_method_1_code
def y_C_init : MethodName := ⟨R_C, "<init>", "(LLadderWords$Words;)V"⟩
abbrev c_L_unit : ByteArray := prog_1_method_2_code
def y_L_unit : MethodName := ⟨R_L, "unit", "(I)Z"⟩
abbrev c_R_add : ByteArray := prog_5_method_2_code
def y_R_add : MethodName := ⟨R_R, "add", "(I)Z"⟩
abbrev c_L_word : ByteArray := prog_1_method_3_code
def y_L_word : MethodName := ⟨R_L, "word", "()I"⟩
abbrev c_W_numberFor : ByteArray := prog_7_method_8_code
def y_W_numberFor : MethodName := ⟨R_W, "numberFor", "(LLadderWords$Row;)I"⟩
abbrev c_R_length : ByteArray := prog_5_method_4_code
def y_R_length : MethodName := ⟨R_R, "length", "()I"⟩
abbrev c_W_knownNumberOf : ByteArray := prog_7_method_9_code
def y_W_knownNumberOf : MethodName := ⟨R_W, "knownNumberOf", "(LLadderWords$Row;)I"⟩
abbrev c_W_isSame : ByteArray := prog_7_method_10_code
def y_W_isSame : MethodName := ⟨R_W, "isSame", "(ILLadderWords$Row;)Z"⟩
abbrev c_W_lengthOf : ByteArray := prog_7_method_4_code
def y_W_lengthOf : MethodName := ⟨R_W, "lengthOf", "(I)I"⟩
abbrev c_W_letterOf : ByteArray := prog_7_method_5_code
def y_W_letterOf : MethodName := ⟨R_W, "letterOf", "(II)I"⟩
abbrev c_R_letterAt : ByteArray := prog_5_method_5_code
def y_R_letterAt : MethodName := ⟨R_R, "letterAt", "(I)I"⟩
abbrev c_W_append : ByteArray := prog_7_method_11_code
def y_W_append : MethodName := ⟨R_W, "append", "(LLadderWords$Row;)V"⟩
abbrev c_R_clear : ByteArray := prog_5_method_3_code
def y_R_clear : MethodName := ⟨R_R, "clear", "()V"⟩
abbrev c_L_letter : ByteArray := prog_1_method_4_code
def y_L_letter : MethodName := ⟨R_L, "letter", "(II)I"⟩
abbrev c_L_ladder : ByteArray := prog_1_method_5_code
def y_L_ladder : MethodName := ⟨R_L, "ladder", "(III)I"⟩
abbrev c_D_find : ByteArray := prog_4_method_2_code
def y_D_find : MethodName := ⟨R_D, "find", "(III)I"⟩
abbrev c_W_has : ByteArray := prog_7_method_3_code
def y_W_has : MethodName := ⟨R_W, "has", "(I)Z"⟩
abbrev c_D_measure : ByteArray := prog_4_method_5_code
def y_D_measure : MethodName := ⟨R_D, "measure", "(III)V"⟩
abbrev c_W_count : ByteArray := prog_7_method_2_code
def y_W_count : MethodName := ⟨R_W, "count", "()I"⟩
abbrev c_D_spread : ByteArray := prog_4_method_6_code
def y_D_spread : MethodName := ⟨R_D, "spread", "(II)V"⟩
abbrev c_W_isStep : ByteArray := prog_7_method_12_code
def y_W_isStep : MethodName := ⟨R_W, "isStep", "(III)Z"⟩
abbrev c_W_differences : ByteArray := prog_7_method_13_code
def y_W_differences : MethodName := ⟨R_W, "differences", "(II)I"⟩
abbrev c_W_isOneMore : ByteArray := prog_7_method_14_code
def y_W_isOneMore : MethodName := ⟨R_W, "isOneMore", "(II)Z"⟩
abbrev c_D_climb : ByteArray := prog_4_method_7_code
def y_D_climb : MethodName := ⟨R_D, "climb", "(II)V"⟩
abbrev c_D_leastNext : ByteArray := prog_4_method_8_code
def y_D_leastNext : MethodName := ⟨R_D, "leastNext", "(III)I"⟩
abbrev c_L_step : ByteArray := prog_1_method_6_code
def y_L_step : MethodName := ⟨R_L, "step", "(I)I"⟩
abbrev c_D_rungAt : ByteArray := prog_4_method_3_code
def y_D_rungAt : MethodName := ⟨R_D, "rungAt", "(I)I"⟩
abbrev c_L_ways : ByteArray := prog_1_method_7_code
def y_L_ways : MethodName := ⟨R_L, "ways", "()J"⟩
abbrev c_D_shortestCount : ByteArray := prog_4_method_4_code
def y_D_shortestCount : MethodName := ⟨R_D, "shortestCount", "()J"⟩
abbrev c_L_gather : ByteArray := prog_1_method_8_code
def y_L_gather : MethodName := ⟨R_L, "gather", "(I)I"⟩
abbrev c_G_find : ByteArray := prog_2_method_2_code
def y_G_find : MethodName := ⟨R_G, "find", "(LLadderWords$Row;I)I"⟩
abbrev c_G_heapOfRow : ByteArray := prog_2_method_4_code
def y_G_heapOfRow : MethodName := ⟨R_G, "heapOfRow", "(LLadderWords$Row;)J"⟩
abbrev c_R_firstPlaceOf : ByteArray := prog_5_method_6_code
def y_R_firstPlaceOf : MethodName := ⟨R_R, "firstPlaceOf", "(I)I"⟩
abbrev c_G_oneAt : ByteArray := prog_2_method_5_code
def y_G_oneAt : MethodName := ⟨R_G, "oneAt", "(I)J"⟩
abbrev c_G_listFitting : ByteArray := prog_2_method_7_code
def y_G_listFitting : MethodName := ⟨R_G, "listFitting", "(LLadderWords$Row;J)V"⟩
abbrev c_G_heapOfWord : ByteArray := prog_2_method_8_code
def y_G_heapOfWord : MethodName := ⟨R_G, "heapOfWord", "(ILLadderWords$Row;)J"⟩
abbrev c_G_isWithin : ByteArray := prog_2_method_6_code
def y_G_isWithin : MethodName := ⟨R_G, "isWithin", "(JJ)Z"⟩
abbrev c_G_choose : ByteArray := prog_2_method_9_code
def y_G_choose : MethodName := ⟨R_G, "choose", "(IIIJ)V"⟩
abbrev c_G_take : ByteArray := prog_2_method_10_code
def y_G_take : MethodName := ⟨R_G, "take", "(IIIJ)V"⟩
abbrev c_G_keep : ByteArray := prog_2_method_11_code
def y_G_keep : MethodName := ⟨R_G, "keep", "(I)V"⟩
abbrev c_L_gathered : ByteArray := prog_1_method_9_code
def y_L_gathered : MethodName := ⟨R_L, "gathered", "(II)I"⟩
abbrev c_G_wordAt : ByteArray := prog_2_method_3_code
def y_G_wordAt : MethodName := ⟨R_G, "wordAt", "(II)I"⟩
abbrev c_L_square : ByteArray := prog_1_method_10_code
def y_L_square : MethodName := ⟨R_L, "square", "(I)Z"⟩
abbrev c_Q_find : ByteArray := prog_6_method_2_code
def y_Q_find : MethodName := ⟨R_Q, "find", "(I)Z"⟩
abbrev c_Q_openAll : ByteArray := prog_6_method_4_code
def y_Q_openAll : MethodName := ⟨R_Q, "openAll", "(I)V"⟩
abbrev c_Q_noteLetters : ByteArray := prog_6_method_5_code
def y_Q_noteLetters : MethodName := ⟨R_Q, "noteLetters", "(II)V"⟩
abbrev c_Q_complete : ByteArray := prog_6_method_6_code
def y_Q_complete : MethodName := ⟨R_Q, "complete", "(II)Z"⟩
abbrev c_Q_completeWith : ByteArray := prog_6_method_7_code
def y_Q_completeWith : MethodName := ⟨R_Q, "completeWith", "(III)Z"⟩
abbrev c_Q_wordsWith : ByteArray := prog_6_method_8_code
def y_Q_wordsWith : MethodName := ⟨R_Q, "wordsWith", "(II)J"⟩
abbrev c_L_line : ByteArray := prog_1_method_11_code
def y_L_line : MethodName := ⟨R_L, "line", "(I)I"⟩
abbrev c_Q_wordAt : ByteArray := prog_6_method_3_code
def y_Q_wordAt : MethodName := ⟨R_Q, "wordAt", "(I)I"⟩
abbrev c_L_hide : ByteArray := prog_1_method_12_code
def y_L_hide : MethodName := ⟨R_L, "hide", "(IIII)Z"⟩
abbrev c_C_put : ByteArray := prog_3_method_4_code
def y_C_put : MethodName := ⟨R_C, "put", "(IIII)Z"⟩
abbrev c_C_isInside : ByteArray := prog_3_method_8_code
def y_C_isInside : MethodName := ⟨R_C, "isInside", "(II)Z"⟩
abbrev c_C_hasRoom : ByteArray := prog_3_method_10_code
def y_C_hasRoom : MethodName := ⟨R_C, "hasRoom", "(IIII)Z"⟩
abbrev c_C_letterAt : ByteArray := prog_3_method_3_code
def y_C_letterAt : MethodName := ⟨R_C, "letterAt", "(II)I"⟩
abbrev c_C_set : ByteArray := prog_3_method_9_code
def y_C_set : MethodName := ⟨R_C, "set", "(III)V"⟩
abbrev c_L_fill : ByteArray := prog_1_method_13_code
def y_L_fill : MethodName := ⟨R_L, "fill", "(J)I"⟩
abbrev c_C_fillEmpty : ByteArray := prog_3_method_5_code
def y_C_fillEmpty : MethodName := ⟨R_C, "fillEmpty", "(J)I"⟩
abbrev c_W_lengthOfAll : ByteArray := prog_7_method_6_code
def y_W_lengthOfAll : MethodName := ⟨R_W, "lengthOfAll", "()I"⟩
abbrev c_W_letterOfAll : ByteArray := prog_7_method_7_code
def y_W_letterOfAll : MethodName := ⟨R_W, "letterOfAll", "(I)I"⟩
abbrev c_L_cell : ByteArray := prog_1_method_14_code
def y_L_cell : MethodName := ⟨R_L, "cell", "(II)I"⟩
abbrev c_L_found : ByteArray := prog_1_method_15_code
def y_L_found : MethodName := ⟨R_L, "found", "(I)I"⟩
abbrev c_C_countOf : ByteArray := prog_3_method_6_code
def y_C_countOf : MethodName := ⟨R_C, "countOf", "(I)I"⟩
abbrev c_C_stands : ByteArray := prog_3_method_11_code
def y_C_stands : MethodName := ⟨R_C, "stands", "(II)Z"⟩
abbrev c_L_where : ByteArray := prog_1_method_16_code
def y_L_where : MethodName := ⟨R_L, "where", "(II)I"⟩
abbrev c_C_placeOf : ByteArray := prog_3_method_7_code
def y_C_placeOf : MethodName := ⟨R_C, "placeOf", "(II)I"⟩
abbrev c_L_wipe : ByteArray := prog_1_method_17_code
def y_L_wipe : MethodName := ⟨R_L, "wipe", "()V"⟩
abbrev c_C_clear : ByteArray := prog_3_method_2_code
def y_C_clear : MethodName := ⟨R_C, "clear", "()V"⟩
abbrev c_M_init : ByteArray := prog_9_method_1_code
def y_M_init : MethodName := ⟨R_M, "<init>", "()V"⟩
abbrev c_M_unit : ByteArray := prog_9_method_5_code
def y_M_unit : MethodName := ⟨R_M, "unit", "(I)Z"⟩
abbrev c_M_word : ByteArray := prog_9_method_8_code
def y_M_word : MethodName := ⟨R_M, "word", "()I"⟩
abbrev c_M_enter : ByteArray := prog_9_method_7_code
def y_M_enter : MethodName := ⟨R_M, "enter", "()I"⟩
abbrev c_M_isRow : ByteArray := prog_9_method_6_code
def y_M_isRow : MethodName := ⟨R_M, "isRow", "(I)Z"⟩
abbrev c_M_at : ByteArray := prog_9_method_4_code
def y_M_at : MethodName := ⟨R_M, "at", "(II)I"⟩
abbrev c_M_letter : ByteArray := prog_9_method_9_code
def y_M_letter : MethodName := ⟨R_M, "letter", "(II)I"⟩
abbrev c_M_isWord : ByteArray := prog_9_method_3_code
def y_M_isWord : MethodName := ⟨R_M, "isWord", "(I)Z"⟩
abbrev c_M_ladder : ByteArray := prog_9_method_13_code
def y_M_ladder : MethodName := ⟨R_M, "ladder", "(III)I"⟩
abbrev c_M_isStep : ByteArray := prog_9_method_12_code
def y_M_isStep : MethodName := ⟨R_M, "isStep", "(III)Z"⟩
abbrev c_M_differsOnce : ByteArray := prog_9_method_10_code
def y_M_differsOnce : MethodName := ⟨R_M, "differsOnce", "(II)Z"⟩
abbrev c_M_isLessOne : ByteArray := prog_9_method_11_code
def y_M_isLessOne : MethodName := ⟨R_M, "isLessOne", "(II)Z"⟩
abbrev c_M_step : ByteArray := prog_9_method_14_code
def y_M_step : MethodName := ⟨R_M, "step", "(I)I"⟩
abbrev c_M_ways : ByteArray := prog_9_method_15_code
def y_M_ways : MethodName := ⟨R_M, "ways", "()J"⟩
abbrev c_M_gather : ByteArray := prog_9_method_19_code
def y_M_gather : MethodName := ⟨R_M, "gather", "(I)I"⟩
abbrev c_M_take : ByteArray := prog_9_method_16_code
def y_M_take : MethodName := ⟨R_M, "take", "(II)Z"⟩
abbrev c_M_isEmpty : ByteArray := prog_9_method_17_code
def y_M_isEmpty : MethodName := ⟨R_M, "isEmpty", "()Z"⟩
abbrev c_M_keep : ByteArray := prog_9_method_18_code
def y_M_keep : MethodName := ⟨R_M, "keep", "(I)V"⟩
abbrev c_M_gathered : ByteArray := prog_9_method_20_code
def y_M_gathered : MethodName := ⟨R_M, "gathered", "(II)I"⟩
abbrev c_M_square : ByteArray := prog_9_method_22_code
def y_M_square : MethodName := ⟨R_M, "square", "(I)Z"⟩
abbrev c_M_mayBe : ByteArray := prog_9_method_21_code
def y_M_mayBe : MethodName := ⟨R_M, "mayBe", "(III)Z"⟩
abbrev c_M_line : ByteArray := prog_9_method_23_code
def y_M_line : MethodName := ⟨R_M, "line", "(I)I"⟩
abbrev c_M_hide : ByteArray := prog_9_method_28_code
def y_M_hide : MethodName := ⟨R_M, "hide", "(IIII)Z"⟩
abbrev c_M_isCell : ByteArray := prog_9_method_26_code
def y_M_isCell : MethodName := ⟨R_M, "isCell", "(II)Z"⟩
abbrev c_M_stands : ByteArray := prog_9_method_27_code
def y_M_stands : MethodName := ⟨R_M, "stands", "(IIIIZ)Z"⟩
abbrev c_M_across : ByteArray := prog_9_method_24_code
def y_M_across : MethodName := ⟨R_M, "across", "(I)I"⟩
abbrev c_M_down : ByteArray := prog_9_method_25_code
def y_M_down : MethodName := ⟨R_M, "down", "(I)I"⟩
abbrev c_M_fill : ByteArray := prog_9_method_30_code
def y_M_fill : MethodName := ⟨R_M, "fill", "(J)I"⟩
abbrev c_M_letterOfAll : ByteArray := prog_9_method_29_code
def y_M_letterOfAll : MethodName := ⟨R_M, "letterOfAll", "(I)I"⟩
abbrev c_M_cell : ByteArray := prog_9_method_31_code
def y_M_cell : MethodName := ⟨R_M, "cell", "(II)I"⟩
abbrev c_M_found : ByteArray := prog_9_method_33_code
def y_M_found : MethodName := ⟨R_M, "found", "(I)I"⟩
abbrev c_M_place : ByteArray := prog_9_method_32_code
def y_M_place : MethodName := ⟨R_M, "place", "(II)I"⟩
abbrev c_M_where : ByteArray := prog_9_method_34_code
def y_M_where : MethodName := ⟨R_M, "where", "(II)I"⟩
abbrev c_M_wipe : ByteArray := prog_9_method_35_code
def y_M_wipe : MethodName := ⟨R_M, "wipe", "()V"⟩
