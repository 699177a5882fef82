/-! ===== BEGIN words of one list among another's, by their places ===== -/
theorem goodIn_r {big : List Cond} (ws : List Cond) (ps : List Nat) (hp : ws = ps.filterMap (fun i => big[i]?)) (h : ws.all goodWord = true) : GoodIn big ws := by
  intro w hw
  have h1 := List.all_eq_true.mp h w hw
  rw [hp] at hw
  obtain ⟨i, -, hi⟩ := List.mem_filterMap.mp hw
  have hm : w ∈ big := by first | exact List.mem_of_getElem? hi | exact List.getElem?_mem hi
  exact ⟨hm, good_of_word h1⟩
theorem goodIn_app {big a b : List Cond} (ha : GoodIn big a) (hb : GoodIn big b) : GoodIn big (a ++ b) := fun w h => (List.mem_append.mp h).elim (ha w) (hb w)
theorem goodIn_ca {big a b : List Cond} {c : Cond} (ha : GoodIn big (c :: a)) (hb : GoodIn big b) : GoodIn big (c :: (a ++ b)) := fun w h => (List.mem_cons.mp h).elim (fun e => ha w (List.mem_cons.mpr (Or.inl e))) (fun h => (List.mem_append.mp h).elim (fun h => ha w (List.mem_cons.mpr (Or.inr h))) (hb w))
theorem goodIn_sub {big ws : List Cond} (hm : ∀ w ∈ ws, w ∈ big) (h : ws.all goodWord = true) : GoodIn big ws := fun w hw => ⟨hm w hw, good_of_word (List.all_eq_true.mp h w hw)⟩
def RX0 : String := "SuggestSpell$Choice"
def TX0 : u_T := fun k => match k with
  | 0 => ("SuggestSpell$Choice", "distances", "[[I", true)
  | 1 => ("SuggestSpell$Choice", "costs", "[[I", true)
  | 2 => ("SuggestSpell$Choice", "next", "[[I", true)
  | _ => ("SuggestSpell$Choice", "row", "[I", true)
def tyX0 : Nat → FieldType := fun k => match k with
  | 0 => .array (.array .int)
  | 1 => .array (.array .int)
  | 2 => .array (.array .int)
  | _ => .array .int
abbrev wsX00 : List Cond := u_ws RX0 TX0 4
theorem nmX0 : ∀ a, a < 4 → ∀ b, b < 4 → a ≠ b → (TX0 a).2.1 ≠ (TX0 b).2.1 := by decide +kernel
theorem tyX0_ok : ∀ k, k < 4 → parseFieldDescriptor (TX0 k).2.2.1 = some (tyX0 k) := by decide +kernel
abbrev cX0_init : ByteArray := prog_2_method_1_code
def yX0_init : MethodName := ⟨RX0, "<init>", "()V"⟩
abbrev cX0_measure : ByteArray := prog_2_method_2_code
def yX0_measure : MethodName := ⟨RX0, "measure", "(LSuggestSpell$Line;LSuggestSpell$Words;LSuggestSpell$Table;I)V"⟩
abbrev cX0_choose : ByteArray := prog_2_method_3_code
def yX0_choose : MethodName := ⟨RX0, "choose", "(ILSuggestSpell$Words;I)I"⟩
abbrev cX0_goOn : ByteArray := prog_2_method_4_code
def yX0_goOn : MethodName := ⟨RX0, "goOn", "(IILSuggestSpell$Words;I)V"⟩
abbrev cX0_cheapestFirst : ByteArray := prog_2_method_5_code
def yX0_cheapestFirst : MethodName := ⟨RX0, "cheapestFirst", "(I)I"⟩
abbrev cX0_keepRow : ByteArray := prog_2_method_6_code
def yX0_keepRow : MethodName := ⟨RX0, "keepRow", "(IILSuggestSpell$Words;)V"⟩
def RX1 : String := "SuggestSpell$Line"
def TX1 : u_T := fun k => match k with
  | 0 => ("SuggestSpell$Line", "rows", "[LSuggestSpell$Row;", true)
  | _ => ("SuggestSpell$Line", "size", "I", false)
def tyX1 : Nat → FieldType := fun k => match k with
  | 0 => .array (.object "SuggestSpell$Row")
  | _ => .int
abbrev wsX10 : List Cond := u_ws RX1 TX1 2
theorem nmX1 : ∀ a, a < 2 → ∀ b, b < 2 → a ≠ b → (TX1 a).2.1 ≠ (TX1 b).2.1 := by decide +kernel
theorem tyX1_ok : ∀ k, k < 2 → parseFieldDescriptor (TX1 k).2.2.1 = some (tyX1 k) := by decide +kernel
abbrev cX1_init : ByteArray := prog_3_method_1_code
def yX1_init : MethodName := ⟨RX1, "<init>", "()V"⟩
abbrev cX1_add : ByteArray := prog_3_method_2_code
def yX1_add : MethodName := ⟨RX1, "add", "(LSuggestSpell$Row;)Z"⟩
def RX2 : String := "SuggestSpell$Parting"
def TX2 : u_T := fun k => match k with
  | 0 => ("SuggestSpell$Parting", "left", "LSuggestSpell$Side;", true)
  | 1 => ("SuggestSpell$Parting", "right", "LSuggestSpell$Side;", true)
  | 2 => ("SuggestSpell$Parting", "cost", "I", false)
  | 3 => ("SuggestSpell$Parting", "cut", "I", false)
  | 4 => ("SuggestSpell$Parting", "leftWord", "I", false)
  | _ => ("SuggestSpell$Parting", "rightWord", "I", false)
def tyX2 : Nat → FieldType := fun k => match k with
  | 0 => .object "SuggestSpell$Side"
  | 1 => .object "SuggestSpell$Side"
  | 2 => .int
  | 3 => .int
  | 4 => .int
  | _ => .int
abbrev wsX20 : List Cond := u_ws RX2 TX2 6
theorem nmX2 : ∀ a, a < 6 → ∀ b, b < 6 → a ≠ b → (TX2 a).2.1 ≠ (TX2 b).2.1 := by decide +kernel
theorem tyX2_ok : ∀ k, k < 6 → parseFieldDescriptor (TX2 k).2.2.1 = some (tyX2 k) := by decide +kernel
abbrev cX2_init : ByteArray := prog_4_method_1_code
def yX2_init : MethodName := ⟨RX2, "<init>", "()V"⟩
abbrev cX2_find : ByteArray := prog_4_method_2_code
def yX2_find : MethodName := ⟨RX2, "find", "(LSuggestSpell$Row;LSuggestSpell$Words;LSuggestSpell$Table;I)V"⟩
abbrev cX2_fillSides : ByteArray := prog_4_method_3_code
def yX2_fillSides : MethodName := ⟨RX2, "fillSides", "(LSuggestSpell$Row;LSuggestSpell$Words;LSuggestSpell$Table;)V"⟩
def RX3 : String := "SuggestSpell$Prices"
def TX3 : u_T := fun k => match k with
  | 0 => ("SuggestSpell$Prices", "ofKind", "[I", true)
  | _ => ("SuggestSpell$Prices", "own", "[[I", true)
def tyX3 : Nat → FieldType := fun k => match k with
  | 0 => .array .int
  | _ => .array (.array .int)
abbrev wsX30 : List Cond := u_ws RX3 TX3 2
theorem nmX3 : ∀ a, a < 2 → ∀ b, b < 2 → a ≠ b → (TX3 a).2.1 ≠ (TX3 b).2.1 := by decide +kernel
theorem tyX3_ok : ∀ k, k < 2 → parseFieldDescriptor (TX3 k).2.2.1 = some (tyX3 k) := by decide +kernel
abbrev cX3_init : ByteArray := prog_5_method_1_code
def yX3_init : MethodName := ⟨RX3, "<init>", "()V"⟩
abbrev cX3_ofBecoming : ByteArray := prog_5_method_2_code
def yX3_ofBecoming : MethodName := ⟨RX3, "ofBecoming", "(II)I"⟩
def RX4 : String := "SuggestSpell$Ranking"
def TX4 : u_T := fun k => match k with
  | 0 => ("SuggestSpell$Ranking", "numbers", "[I", true)
  | 1 => ("SuggestSpell$Ranking", "costs", "[I", true)
  | 2 => ("SuggestSpell$Ranking", "counts", "[I", true)
  | _ => ("SuggestSpell$Ranking", "size", "I", false)
def tyX4 : Nat → FieldType := fun k => match k with
  | 0 => .array .int
  | 1 => .array .int
  | 2 => .array .int
  | _ => .int
abbrev wsX40 : List Cond := u_ws RX4 TX4 4
theorem nmX4 : ∀ a, a < 4 → ∀ b, b < 4 → a ≠ b → (TX4 a).2.1 ≠ (TX4 b).2.1 := by decide +kernel
theorem tyX4_ok : ∀ k, k < 4 → parseFieldDescriptor (TX4 k).2.2.1 = some (tyX4 k) := by decide +kernel
abbrev cX4_init : ByteArray := prog_6_method_1_code
def yX4_init : MethodName := ⟨RX4, "<init>", "()V"⟩
abbrev cX4_add : ByteArray := prog_6_method_2_code
def yX4_add : MethodName := ⟨RX4, "add", "(III)V"⟩
abbrev cX4_isBehind : ByteArray := prog_6_method_3_code
def yX4_isBehind : MethodName := ⟨RX4, "isBehind", "(III)Z"⟩
def RX5 : String := "SuggestSpell$Row"
def TX5 : u_T := fun k => match k with
  | 0 => ("SuggestSpell$Row", "letters", "[I", true)
  | _ => ("SuggestSpell$Row", "length", "I", false)
def tyX5 : Nat → FieldType := fun k => match k with
  | 0 => .array .int
  | _ => .int
abbrev wsX50 : List Cond := u_ws RX5 TX5 2
theorem nmX5 : ∀ a, a < 2 → ∀ b, b < 2 → a ≠ b → (TX5 a).2.1 ≠ (TX5 b).2.1 := by decide +kernel
theorem tyX5_ok : ∀ k, k < 2 → parseFieldDescriptor (TX5 k).2.2.1 = some (tyX5 k) := by decide +kernel
abbrev cX5_init : ByteArray := prog_7_method_1_code
def yX5_init : MethodName := ⟨RX5, "<init>", "()V"⟩
abbrev cX5_add : ByteArray := prog_7_method_2_code
def yX5_add : MethodName := ⟨RX5, "add", "(I)Z"⟩
abbrev cX5_copyOf : ByteArray := prog_7_method_3_code
def yX5_copyOf : MethodName := ⟨RX5, "copyOf", "(LSuggestSpell$Row;)V"⟩
abbrev cX5_mirrorOf : ByteArray := prog_7_method_4_code
def yX5_mirrorOf : MethodName := ⟨RX5, "mirrorOf", "(LSuggestSpell$Row;)V"⟩
abbrev cX5_compareWith : ByteArray := prog_7_method_5_code
def yX5_compareWith : MethodName := ⟨RX5, "compareWith", "(LSuggestSpell$Row;)I"⟩
def RX6 : String := "SuggestSpell$Side"
def TX6 : u_T := fun k => match k with
  | 0 => ("SuggestSpell$Side", "numbers", "[I", true)
  | _ => ("SuggestSpell$Side", "costs", "[I", true)
def tyX6 : Nat → FieldType := fun k => match k with
  | 0 => .array .int
  | _ => .array .int
abbrev wsX60 : List Cond := u_ws RX6 TX6 2
theorem nmX6 : ∀ a, a < 2 → ∀ b, b < 2 → a ≠ b → (TX6 a).2.1 ≠ (TX6 b).2.1 := by decide +kernel
theorem tyX6_ok : ∀ k, k < 2 → parseFieldDescriptor (TX6 k).2.2.1 = some (tyX6 k) := by decide +kernel
abbrev cX6_init : ByteArray := prog_8_method_1_code
def yX6_init : MethodName := ⟨RX6, "<init>", "()V"⟩
abbrev cX6_empty : ByteArray := prog_8_method_2_code
def yX6_empty : MethodName := ⟨RX6, "empty", "()V"⟩
abbrev cX6_offer : ByteArray := prog_8_method_3_code
def yX6_offer : MethodName := ⟨RX6, "offer", "(ILSuggestSpell$Table;I)V"⟩
def RX7 : String := "SuggestSpell$Table"
def TX7 : u_T := fun k => match k with
  | 0 => ("SuggestSpell$Table", "prices", "LSuggestSpell$Prices;", true)
  | 1 => ("SuggestSpell$Table", "typed", "LSuggestSpell$Row;", true)
  | 2 => ("SuggestSpell$Table", "word", "LSuggestSpell$Row;", true)
  | 3 => ("SuggestSpell$Table", "least", "[[I", true)
  | 4 => ("SuggestSpell$Table", "kinds", "[I", true)
  | 5 => ("SuggestSpell$Table", "places", "[I", true)
  | _ => ("SuggestSpell$Table", "edits", "I", false)
def tyX7 : Nat → FieldType := fun k => match k with
  | 0 => .object "SuggestSpell$Prices"
  | 1 => .object "SuggestSpell$Row"
  | 2 => .object "SuggestSpell$Row"
  | 3 => .array (.array .int)
  | 4 => .array .int
  | 5 => .array .int
  | _ => .int
abbrev wsX70 : List Cond := u_ws RX7 TX7 7
theorem nmX7 : ∀ a, a < 7 → ∀ b, b < 7 → a ≠ b → (TX7 a).2.1 ≠ (TX7 b).2.1 := by decide +kernel
theorem tyX7_ok : ∀ k, k < 7 → parseFieldDescriptor (TX7 k).2.2.1 = some (tyX7 k) := by decide +kernel
abbrev cX7_init : ByteArray := prog_9_method_1_code
def yX7_init : MethodName := ⟨RX7, "<init>", "(LSuggestSpell$Prices;)V"⟩
abbrev cX7_measure : ByteArray := prog_9_method_2_code
def yX7_measure : MethodName := ⟨RX7, "measure", "(LSuggestSpell$Row;LSuggestSpell$Row;)I"⟩
abbrev cX7_measureMirrored : ByteArray := prog_9_method_3_code
def yX7_measureMirrored : MethodName := ⟨RX7, "measureMirrored", "(LSuggestSpell$Row;LSuggestSpell$Row;)V"⟩
abbrev cX7_priceOfFirst : ByteArray := prog_9_method_4_code
def yX7_priceOfFirst : MethodName := ⟨RX7, "priceOfFirst", "(I)I"⟩
abbrev cX7_leastOfBeginnings : ByteArray := prog_9_method_5_code
def yX7_leastOfBeginnings : MethodName := ⟨RX7, "leastOfBeginnings", "()I"⟩
abbrev cX7_trace : ByteArray := prog_9_method_6_code
def yX7_trace : MethodName := ⟨RX7, "trace", "()V"⟩
abbrev cX7_kindOfEdit : ByteArray := prog_9_method_7_code
def yX7_kindOfEdit : MethodName := ⟨RX7, "kindOfEdit", "(I)I"⟩
abbrev cX7_placeOfEdit : ByteArray := prog_9_method_8_code
def yX7_placeOfEdit : MethodName := ⟨RX7, "placeOfEdit", "(I)I"⟩
abbrev cX7_note : ByteArray := prog_9_method_9_code
def yX7_note : MethodName := ⟨RX7, "note", "(II)V"⟩
abbrev cX7_fill : ByteArray := prog_9_method_10_code
def yX7_fill : MethodName := ⟨RX7, "fill", "()V"⟩
abbrev cX7_cheapest : ByteArray := prog_9_method_11_code
def yX7_cheapest : MethodName := ⟨RX7, "cheapest", "(II)I"⟩
abbrev cX7_byLast : ByteArray := prog_9_method_12_code
def yX7_byLast : MethodName := ⟨RX7, "byLast", "(II)I"⟩
abbrev cX7_mayChange : ByteArray := prog_9_method_13_code
def yX7_mayChange : MethodName := ⟨RX7, "mayChange", "(II)Z"⟩
abbrev cX7_byChange : ByteArray := prog_9_method_14_code
def yX7_byChange : MethodName := ⟨RX7, "byChange", "(II)I"⟩
def RX8 : String := "SuggestSpell$Words"
def TX8 : u_T := fun k => match k with
  | 0 => ("SuggestSpell$Words", "rows", "[LSuggestSpell$Row;", true)
  | 1 => ("SuggestSpell$Words", "counts", "[I", true)
  | 2 => ("SuggestSpell$Words", "inOrder", "[I", true)
  | 3 => ("SuggestSpell$Words", "pairs", "[Z", true)
  | _ => ("SuggestSpell$Words", "size", "I", false)
def tyX8 : Nat → FieldType := fun k => match k with
  | 0 => .array (.object "SuggestSpell$Row")
  | 1 => .array .int
  | 2 => .array .int
  | 3 => .array .boolean
  | _ => .int
abbrev wsX80 : List Cond := u_ws RX8 TX8 5
theorem nmX8 : ∀ a, a < 5 → ∀ b, b < 5 → a ≠ b → (TX8 a).2.1 ≠ (TX8 b).2.1 := by decide +kernel
theorem tyX8_ok : ∀ k, k < 5 → parseFieldDescriptor (TX8 k).2.2.1 = some (tyX8 k) := by decide +kernel
abbrev cX8_init : ByteArray := prog_10_method_1_code
def yX8_init : MethodName := ⟨RX8, "<init>", "()V"⟩
abbrev cX8_has : ByteArray := prog_10_method_2_code
def yX8_has : MethodName := ⟨RX8, "has", "(I)Z"⟩
abbrev cX8_hasRow : ByteArray := prog_10_method_3_code
def yX8_hasRow : MethodName := ⟨RX8, "hasRow", "(LSuggestSpell$Row;)Z"⟩
abbrev cX8_add : ByteArray := prog_10_method_4_code
def yX8_add : MethodName := ⟨RX8, "add", "(LSuggestSpell$Row;I)I"⟩
abbrev cX8_rankOf : ByteArray := prog_10_method_5_code
def yX8_rankOf : MethodName := ⟨RX8, "rankOf", "(I)I"⟩
abbrev cX8_isPair : ByteArray := prog_10_method_6_code
def yX8_isPair : MethodName := ⟨RX8, "isPair", "(II)Z"⟩
abbrev cX8_setPair : ByteArray := prog_10_method_7_code
def yX8_setPair : MethodName := ⟨RX8, "setPair", "(IIZ)Z"⟩
def RX9 : String := "SuggestSpell"
def TX9 : u_T := fun k => match k with
  | 0 => ("SuggestSpell", "typed", "LSuggestSpell$Row;", true)
  | 1 => ("SuggestSpell", "prices", "LSuggestSpell$Prices;", true)
  | 2 => ("SuggestSpell", "words", "LSuggestSpell$Words;", true)
  | 3 => ("SuggestSpell", "tokens", "LSuggestSpell$Line;", true)
  | 4 => ("SuggestSpell", "table", "LSuggestSpell$Table;", true)
  | 5 => ("SuggestSpell", "ranking", "LSuggestSpell$Ranking;", true)
  | 6 => ("SuggestSpell", "best", "LSuggestSpell$Parting;", true)
  | _ => ("SuggestSpell", "choice", "LSuggestSpell$Choice;", true)
def tyX9 : Nat → FieldType := fun k => match k with
  | 0 => .object "SuggestSpell$Row"
  | 1 => .object "SuggestSpell$Prices"
  | 2 => .object "SuggestSpell$Words"
  | 3 => .object "SuggestSpell$Line"
  | 4 => .object "SuggestSpell$Table"
  | 5 => .object "SuggestSpell$Ranking"
  | 6 => .object "SuggestSpell$Parting"
  | _ => .object "SuggestSpell$Choice"
abbrev wsX90 : List Cond := u_ws RX9 TX9 8
theorem nmX9 : ∀ a, a < 8 → ∀ b, b < 8 → a ≠ b → (TX9 a).2.1 ≠ (TX9 b).2.1 := by decide +kernel
theorem tyX9_ok : ∀ k, k < 8 → parseFieldDescriptor (TX9 k).2.2.1 = some (tyX9 k) := by decide +kernel
abbrev cX9_init : ByteArray := prog_1_method_1_code
def yX9_init : MethodName := ⟨RX9, "<init>", "()V"⟩
abbrev cX9_letter : ByteArray := prog_1_method_2_code
def yX9_letter : MethodName := ⟨RX9, "letter", "(I)I"⟩
abbrev cX9_clear : ByteArray := prog_1_method_3_code
def yX9_clear : MethodName := ⟨RX9, "clear", "()I"⟩
abbrev cX9_word : ByteArray := prog_1_method_4_code
def yX9_word : MethodName := ⟨RX9, "word", "(I)I"⟩
abbrev cX9_count : ByteArray := prog_1_method_5_code
def yX9_count : MethodName := ⟨RX9, "count", "(II)I"⟩
abbrev cX9_at : ByteArray := prog_1_method_6_code
def yX9_at : MethodName := ⟨RX9, "at", "(II)I"⟩
abbrev cX9_price : ByteArray := prog_1_method_7_code
def yX9_price : MethodName := ⟨RX9, "price", "(II)I"⟩
abbrev cX9_near : ByteArray := prog_1_method_8_code
def yX9_near : MethodName := ⟨RX9, "near", "(III)I"⟩
abbrev cX9_distance : ByteArray := prog_1_method_9_code
def yX9_distance : MethodName := ⟨RX9, "distance", "(I)I"⟩
abbrev cX9_begins : ByteArray := prog_1_method_10_code
def yX9_begins : MethodName := ⟨RX9, "begins", "(I)I"⟩
abbrev cX9_edit : ByteArray := prog_1_method_11_code
def yX9_edit : MethodName := ⟨RX9, "edit", "(II)I"⟩
abbrev cX9_place : ByteArray := prog_1_method_12_code
def yX9_place : MethodName := ⟨RX9, "place", "(II)I"⟩
abbrev cX9_suggest : ByteArray := prog_1_method_13_code
def yX9_suggest : MethodName := ⟨RX9, "suggest", "(I)I"⟩
abbrev cX9_suggestion : ByteArray := prog_1_method_14_code
def yX9_suggestion : MethodName := ⟨RX9, "suggestion", "(II)I"⟩
abbrev cX9_endings : ByteArray := prog_1_method_15_code
def yX9_endings : MethodName := ⟨RX9, "endings", "(I)I"⟩
abbrev cX9_ending : ByteArray := prog_1_method_16_code
def yX9_ending : MethodName := ⟨RX9, "ending", "(II)I"⟩
abbrev cX9_parting : ByteArray := prog_1_method_17_code
def yX9_parting : MethodName := ⟨RX9, "parting", "(I)I"⟩
abbrev cX9_token : ByteArray := prog_1_method_18_code
def yX9_token : MethodName := ⟨RX9, "token", "()I"⟩
abbrev cX9_line : ByteArray := prog_1_method_19_code
def yX9_line : MethodName := ⟨RX9, "line", "()I"⟩
abbrev cX9_pair : ByteArray := prog_1_method_20_code
def yX9_pair : MethodName := ⟨RX9, "pair", "(IIZ)I"⟩
abbrev cX9_chosen : ByteArray := prog_1_method_21_code
def yX9_chosen : MethodName := ⟨RX9, "chosen", "(II)I"⟩
abbrev cX9_share : ByteArray := prog_1_method_22_code
def yX9_share : MethodName := ⟨RX9, "share", "(I)I"⟩
abbrev cX9_isLetter : ByteArray := prog_1_method_23_code
def yX9_isLetter : MethodName := ⟨RX9, "isLetter", "(I)Z"⟩
abbrev cX9_isCount : ByteArray := prog_1_method_24_code
def yX9_isCount : MethodName := ⟨RX9, "isCount", "(I)Z"⟩
abbrev cX9_isLimit : ByteArray := prog_1_method_25_code
def yX9_isLimit : MethodName := ⟨RX9, "isLimit", "(I)Z"⟩
abbrev cX9_priceOfWord : ByteArray := prog_1_method_26_code
def yX9_priceOfWord : MethodName := ⟨RX9, "priceOfWord", "(I)I"⟩
abbrev cX9_findEdits : ByteArray := prog_1_method_27_code
def yX9_findEdits : MethodName := ⟨RX9, "findEdits", "(I)V"⟩
abbrev cX9_howMany : ByteArray := prog_1_method_28_code
def yX9_howMany : MethodName := ⟨RX9, "howMany", "(IZ)I"⟩
abbrev cX9_rankedWord : ByteArray := prog_1_method_29_code
def yX9_rankedWord : MethodName := ⟨RX9, "rankedWord", "(IIZ)I"⟩
abbrev cX9_rankWords : ByteArray := prog_1_method_30_code
def yX9_rankWords : MethodName := ⟨RX9, "rankWords", "(IZ)V"⟩
def RX10 : String := "SuggestSpellModel"
def TX10 : u_T := fun k => match k with
  | 0 => ("SuggestSpellModel", "thrown", "I", false)
  | 1 => ("SuggestSpellModel", "typed", "I", false)
  | 2 => ("SuggestSpellModel", "letters", "[I", true)
  | 3 => ("SuggestSpellModel", "words", "I", false)
  | 4 => ("SuggestSpellModel", "sizes", "[I", true)
  | 5 => ("SuggestSpellModel", "text", "[I", true)
  | 6 => ("SuggestSpellModel", "counts", "[I", true)
  | 7 => ("SuggestSpellModel", "prices", "[I", true)
  | 8 => ("SuggestSpellModel", "own", "[I", true)
  | 9 => ("SuggestSpellModel", "tokens", "I", false)
  | 10 => ("SuggestSpellModel", "tokenSize", "[I", true)
  | 11 => ("SuggestSpellModel", "tokenText", "[I", true)
  | 12 => ("SuggestSpellModel", "pairs", "[Z", true)
  | 13 => ("SuggestSpellModel", "table", "[I", true)
  | 14 => ("SuggestSpellModel", "row", "[I", true)
  | 15 => ("SuggestSpellModel", "rowSize", "I", false)
  | 16 => ("SuggestSpellModel", "edits", "I", false)
  | 17 => ("SuggestSpellModel", "kind", "[I", true)
  | 18 => ("SuggestSpellModel", "where", "[I", true)
  | 19 => ("SuggestSpellModel", "many", "I", false)
  | 20 => ("SuggestSpellModel", "found", "[I", true)
  | 21 => ("SuggestSpellModel", "far", "[I", true)
  | 22 => ("SuggestSpellModel", "sideWord", "I", false)
  | 23 => ("SuggestSpellModel", "cost", "[I", true)
  | _ => ("SuggestSpellModel", "rest", "[I", true)
def tyX10 : Nat → FieldType := fun k => match k with
  | 0 => .int
  | 1 => .int
  | 2 => .array .int
  | 3 => .int
  | 4 => .array .int
  | 5 => .array .int
  | 6 => .array .int
  | 7 => .array .int
  | 8 => .array .int
  | 9 => .int
  | 10 => .array .int
  | 11 => .array .int
  | 12 => .array .boolean
  | 13 => .array .int
  | 14 => .array .int
  | 15 => .int
  | 16 => .int
  | 17 => .array .int
  | 18 => .array .int
  | 19 => .int
  | 20 => .array .int
  | 21 => .array .int
  | 22 => .int
  | 23 => .array .int
  | _ => .array .int
abbrev wsX100 : List Cond := u_ws RX10 TX10 25
theorem nmX10 : ∀ a, a < 25 → ∀ b, b < 25 → a ≠ b → (TX10 a).2.1 ≠ (TX10 b).2.1 := by decide +kernel
theorem tyX10_ok : ∀ k, k < 25 → parseFieldDescriptor (TX10 k).2.2.1 = some (tyX10 k) := by decide +kernel
abbrev cX10_init : ByteArray := prog_12_method_1_code
def yX10_init : MethodName := ⟨RX10, "<init>", "()V"⟩
abbrev cX10_thrown : ByteArray := prog_12_method_2_code
def yX10_thrown : MethodName := ⟨RX10, "thrown", "()I"⟩
abbrev cX10_in : ByteArray := prog_12_method_3_code
def yX10_in : MethodName := ⟨RX10, "in", "(III)Z"⟩
abbrev cX10_isWord : ByteArray := prog_12_method_4_code
def yX10_isWord : MethodName := ⟨RX10, "isWord", "(I)Z"⟩
abbrev cX10_letter : ByteArray := prog_12_method_5_code
def yX10_letter : MethodName := ⟨RX10, "letter", "(I)I"⟩
abbrev cX10_clear : ByteArray := prog_12_method_6_code
def yX10_clear : MethodName := ⟨RX10, "clear", "()I"⟩
abbrev cX10_word : ByteArray := prog_12_method_7_code
def yX10_word : MethodName := ⟨RX10, "word", "(I)I"⟩
abbrev cX10_count : ByteArray := prog_12_method_8_code
def yX10_count : MethodName := ⟨RX10, "count", "(II)I"⟩
abbrev cX10_isAhead : ByteArray := prog_12_method_9_code
def yX10_isAhead : MethodName := ⟨RX10, "isAhead", "(II)Z"⟩
abbrev cX10_rank : ByteArray := prog_12_method_10_code
def yX10_rank : MethodName := ⟨RX10, "rank", "(I)I"⟩
abbrev cX10_at : ByteArray := prog_12_method_11_code
def yX10_at : MethodName := ⟨RX10, "at", "(II)I"⟩
abbrev cX10_price : ByteArray := prog_12_method_12_code
def yX10_price : MethodName := ⟨RX10, "price", "(II)I"⟩
abbrev cX10_near : ByteArray := prog_12_method_13_code
def yX10_near : MethodName := ⟨RX10, "near", "(III)I"⟩
abbrev cX10_takeTyped : ByteArray := prog_12_method_14_code
def yX10_takeTyped : MethodName := ⟨RX10, "takeTyped", "(II)V"⟩
abbrev cX10_becomes : ByteArray := prog_12_method_15_code
def yX10_becomes : MethodName := ⟨RX10, "becomes", "(II)I"⟩
abbrev cX10_isTurned : ByteArray := prog_12_method_16_code
def yX10_isTurned : MethodName := ⟨RX10, "isTurned", "(III)Z"⟩
abbrev cX10_fill : ByteArray := prog_12_method_17_code
def yX10_fill : MethodName := ⟨RX10, "fill", "(I)I"⟩
abbrev cX10_beginsBy : ByteArray := prog_12_method_18_code
def yX10_beginsBy : MethodName := ⟨RX10, "beginsBy", "(I)I"⟩
abbrev cX10_distance : ByteArray := prog_12_method_19_code
def yX10_distance : MethodName := ⟨RX10, "distance", "(I)I"⟩
abbrev cX10_begins : ByteArray := prog_12_method_20_code
def yX10_begins : MethodName := ⟨RX10, "begins", "(I)I"⟩
abbrev cX10_note : ByteArray := prog_12_method_21_code
def yX10_note : MethodName := ⟨RX10, "note", "(II)V"⟩
abbrev cX10_find : ByteArray := prog_12_method_22_code
def yX10_find : MethodName := ⟨RX10, "find", "(I)V"⟩
abbrev cX10_edit : ByteArray := prog_12_method_23_code
def yX10_edit : MethodName := ⟨RX10, "edit", "(II)I"⟩
abbrev cX10_place : ByteArray := prog_12_method_24_code
def yX10_place : MethodName := ⟨RX10, "place", "(II)I"⟩
abbrev cX10_look : ByteArray := prog_12_method_25_code
def yX10_look : MethodName := ⟨RX10, "look", "(IZ)V"⟩
abbrev cX10_isBefore : ByteArray := prog_12_method_26_code
def yX10_isBefore : MethodName := ⟨RX10, "isBefore", "(IIII)Z"⟩
abbrev cX10_suggest : ByteArray := prog_12_method_27_code
def yX10_suggest : MethodName := ⟨RX10, "suggest", "(I)I"⟩
abbrev cX10_suggestion : ByteArray := prog_12_method_28_code
def yX10_suggestion : MethodName := ⟨RX10, "suggestion", "(II)I"⟩
abbrev cX10_endings : ByteArray := prog_12_method_29_code
def yX10_endings : MethodName := ⟨RX10, "endings", "(I)I"⟩
abbrev cX10_ending : ByteArray := prog_12_method_30_code
def yX10_ending : MethodName := ⟨RX10, "ending", "(II)I"⟩
abbrev cX10_side : ByteArray := prog_12_method_31_code
def yX10_side : MethodName := ⟨RX10, "side", "(II)I"⟩
abbrev cX10_parting : ByteArray := prog_12_method_32_code
def yX10_parting : MethodName := ⟨RX10, "parting", "(I)I"⟩
abbrev cX10_token : ByteArray := prog_12_method_33_code
def yX10_token : MethodName := ⟨RX10, "token", "()I"⟩
abbrev cX10_line : ByteArray := prog_12_method_34_code
def yX10_line : MethodName := ⟨RX10, "line", "()I"⟩
abbrev cX10_pair : ByteArray := prog_12_method_35_code
def yX10_pair : MethodName := ⟨RX10, "pair", "(IIZ)I"⟩
abbrev cX10_nextTo : ByteArray := prog_12_method_36_code
def yX10_nextTo : MethodName := ⟨RX10, "nextTo", "(II)I"⟩
abbrev cX10_chosen : ByteArray := prog_12_method_37_code
def yX10_chosen : MethodName := ⟨RX10, "chosen", "(II)I"⟩
abbrev cX10_share : ByteArray := prog_12_method_38_code
def yX10_share : MethodName := ⟨RX10, "share", "(I)I"⟩
def RJ9 : String := "java/lang/Math"
def TJ9 : u_T := fun k => match k with
  | _ => ("", "", "", false)
def tyJ9 : Nat → FieldType := fun k => match k with
  | _ => .int
abbrev wsJ90 : List Cond := u_ws RJ9 TJ9 0
theorem nmJ9 : ∀ a, a < 0 → ∀ b, b < 0 → a ≠ b → (TJ9 a).2.1 ≠ (TJ9 b).2.1 := by decide +kernel
theorem tyJ9_ok : ∀ k, k < 0 → parseFieldDescriptor (TJ9 k).2.2.1 = some (tyJ9 k) := by decide +kernel
abbrev cJ9_min_7cf53 : ByteArray := prog_15_method_69_code
def yJ9_min_7cf53 : MethodName := ⟨RJ9, "min", "(II)I"⟩
def RJ0 : String := "java/lang/String"
def TJ0 : u_T := fun k => match k with
  | _ => ("", "", "", false)
def tyJ0 : Nat → FieldType := fun k => match k with
  | _ => .int
abbrev wsJ00 : List Cond := u_ws RJ0 TJ0 0
theorem nmJ0 : ∀ a, a < 0 → ∀ b, b < 0 → a ≠ b → (TJ0 a).2.1 ≠ (TJ0 b).2.1 := by decide +kernel
theorem tyJ0_ok : ∀ k, k < 0 → parseFieldDescriptor (TJ0 k).2.2.1 = some (tyJ0 k) := by decide +kernel
def RJ7 : String := "java/util/Arrays"
def TJ7 : u_T := fun k => match k with
  | _ => ("", "", "", false)
def tyJ7 : Nat → FieldType := fun k => match k with
  | _ => .int
abbrev wsJ70 : List Cond := u_ws RJ7 TJ7 0
theorem nmJ7 : ∀ a, a < 0 → ∀ b, b < 0 → a ≠ b → (TJ7 a).2.1 ≠ (TJ7 b).2.1 := by decide +kernel
theorem tyJ7_ok : ∀ k, k < 0 → parseFieldDescriptor (TJ7 k).2.2.1 = some (tyJ7 k) := by decide +kernel
abbrev cJ7_fill_53178 : ByteArray := prog_19_method_103_code
def yJ7_fill_53178 : MethodName := ⟨RJ7, "fill", "([II)V"⟩
def RL : String := "SuggestSpellLaw"
abbrev cL_share : ByteArray := method_3_code
def yL_share : MethodName := ⟨RL, "share", "(LSuggestSpell;I[J)I"⟩
abbrev cL_law : ByteArray := code
def yL_law : MethodName := ⟨RL, "law", "([I)Z"⟩
abbrev vwCl : List vw_C := [(RX0, TX0, 4), (RX1, TX1, 2), (RX2, TX2, 6), (RX3, TX3, 2), (RX4, TX4, 4), (RX5, TX5, 2), (RX6, TX6, 2), (RX7, TX7, 7), (RX8, TX8, 5), (RX9, TX9, 8), (RX10, TX10, 25)]
