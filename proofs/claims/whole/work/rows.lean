section
-- ===== PART A: goes FIRST, ahead of the names: the tables' words, and 'selects' of the private methods out of them =====
/-- a private method of a class that the tables say can be made, by its rows of tables_1 -/
def lw_okq (q : MethodName × Nat) : Prop := (q.1.cls ≠ "java/lang/invoke/MethodHandle" ∧ q.1.cls ≠ "java/lang/invoke/VarHandle") ∧ Cond.instantiable q.1.cls q.2 ∈ tables_1 ∧ Cond.privateMethod q.1 ∈ tables_1 ∧ Cond.instanceMethod q.1 ∈ tables_1
theorem lw_p0 : lw_okq (⟨"SuggestSpell", "priceOfWord", "(I)I"⟩, 8) := ⟨⟨by decide +kernel, by decide +kernel⟩, List.mem_of_getElem? (i := 19) (by decide +kernel), List.mem_of_getElem? (i := 335) (by decide +kernel), List.mem_of_getElem? (i := 336) (by decide +kernel)⟩
theorem lw_p1 : lw_okq (⟨"SuggestSpell$Table", "fill", "()V"⟩, 7) := ⟨⟨by decide +kernel, by decide +kernel⟩, List.mem_of_getElem? (i := 121) (by decide +kernel), List.mem_of_getElem? (i := 344) (by decide +kernel), List.mem_of_getElem? (i := 345) (by decide +kernel)⟩
theorem lw_p2 : lw_okq (⟨"SuggestSpell$Table", "cheapest", "(II)I"⟩, 7) := ⟨⟨by decide +kernel, by decide +kernel⟩, List.mem_of_getElem? (i := 121) (by decide +kernel), List.mem_of_getElem? (i := 348) (by decide +kernel), List.mem_of_getElem? (i := 349) (by decide +kernel)⟩
theorem lw_p3 : lw_okq (⟨"SuggestSpell$Table", "byLast", "(II)I"⟩, 7) := ⟨⟨by decide +kernel, by decide +kernel⟩, List.mem_of_getElem? (i := 121) (by decide +kernel), List.mem_of_getElem? (i := 352) (by decide +kernel), List.mem_of_getElem? (i := 353) (by decide +kernel)⟩
theorem lw_p4 : lw_okq (⟨"SuggestSpell$Table", "mayChange", "(II)Z"⟩, 7) := ⟨⟨by decide +kernel, by decide +kernel⟩, List.mem_of_getElem? (i := 121) (by decide +kernel), List.mem_of_getElem? (i := 361) (by decide +kernel), List.mem_of_getElem? (i := 362) (by decide +kernel)⟩
theorem lw_p5 : lw_okq (⟨"SuggestSpell$Table", "byChange", "(II)I"⟩, 7) := ⟨⟨by decide +kernel, by decide +kernel⟩, List.mem_of_getElem? (i := 121) (by decide +kernel), List.mem_of_getElem? (i := 365) (by decide +kernel), List.mem_of_getElem? (i := 366) (by decide +kernel)⟩
theorem lw_p6 : lw_okq (⟨"SuggestSpell", "priceOfBeginning", "(I)I"⟩, 8) := ⟨⟨by decide +kernel, by decide +kernel⟩, List.mem_of_getElem? (i := 19) (by decide +kernel), List.mem_of_getElem? (i := 378) (by decide +kernel), List.mem_of_getElem? (i := 379) (by decide +kernel)⟩
theorem lw_p7 : lw_okq (⟨"SuggestSpell", "findEdits", "(I)V"⟩, 8) := ⟨⟨by decide +kernel, by decide +kernel⟩, List.mem_of_getElem? (i := 19) (by decide +kernel), List.mem_of_getElem? (i := 390) (by decide +kernel), List.mem_of_getElem? (i := 391) (by decide +kernel)⟩
theorem lw_p8 : lw_okq (⟨"SuggestSpell$Table", "note", "(II)V"⟩, 7) := ⟨⟨by decide +kernel, by decide +kernel⟩, List.mem_of_getElem? (i := 121) (by decide +kernel), List.mem_of_getElem? (i := 398) (by decide +kernel), List.mem_of_getElem? (i := 399) (by decide +kernel)⟩
theorem lw_p9 : lw_okq (⟨"SuggestSpell", "howMany", "(IZ)I"⟩, 8) := ⟨⟨by decide +kernel, by decide +kernel⟩, List.mem_of_getElem? (i := 19) (by decide +kernel), List.mem_of_getElem? (i := 418) (by decide +kernel), List.mem_of_getElem? (i := 419) (by decide +kernel)⟩
theorem lw_p10 : lw_okq (⟨"SuggestSpell", "rankWords", "(IZ)V"⟩, 8) := ⟨⟨by decide +kernel, by decide +kernel⟩, List.mem_of_getElem? (i := 19) (by decide +kernel), List.mem_of_getElem? (i := 425) (by decide +kernel), List.mem_of_getElem? (i := 426) (by decide +kernel)⟩
theorem lw_p11 : lw_okq (⟨"SuggestSpell$Ranking", "isBehind", "(III)Z"⟩, 4) := ⟨⟨by decide +kernel, by decide +kernel⟩, List.mem_of_getElem? (i := 153) (by decide +kernel), List.mem_of_getElem? (i := 433) (by decide +kernel), List.mem_of_getElem? (i := 434) (by decide +kernel)⟩
theorem lw_p12 : lw_okq (⟨"SuggestSpell", "rankedWord", "(IIZ)I"⟩, 8) := ⟨⟨by decide +kernel, by decide +kernel⟩, List.mem_of_getElem? (i := 19) (by decide +kernel), List.mem_of_getElem? (i := 441) (by decide +kernel), List.mem_of_getElem? (i := 442) (by decide +kernel)⟩
theorem lw_p13 : lw_okq (⟨"SuggestSpell$Parting", "fillSides", "(LSuggestSpell$Row;LSuggestSpell$Words;LSuggestSpell$Table;)V"⟩, 6) := ⟨⟨by decide +kernel, by decide +kernel⟩, List.mem_of_getElem? (i := 174) (by decide +kernel), List.mem_of_getElem? (i := 461) (by decide +kernel), List.mem_of_getElem? (i := 462) (by decide +kernel)⟩
theorem lw_p14 : lw_okq (⟨"SuggestSpell$Choice", "goOn", "(IILSuggestSpell$Words;I)V"⟩, 4) := ⟨⟨by decide +kernel, by decide +kernel⟩, List.mem_of_getElem? (i := 219) (by decide +kernel), List.mem_of_getElem? (i := 524) (by decide +kernel), List.mem_of_getElem? (i := 525) (by decide +kernel)⟩
theorem lw_p15 : lw_okq (⟨"SuggestSpell$Choice", "cheapestFirst", "(I)I"⟩, 4) := ⟨⟨by decide +kernel, by decide +kernel⟩, List.mem_of_getElem? (i := 219) (by decide +kernel), List.mem_of_getElem? (i := 530) (by decide +kernel), List.mem_of_getElem? (i := 531) (by decide +kernel)⟩
def lw_privs_1 : List (MethodName × Nat) := [(⟨"SuggestSpell", "priceOfWord", "(I)I"⟩, 8), (⟨"SuggestSpell$Table", "fill", "()V"⟩, 7), (⟨"SuggestSpell$Table", "cheapest", "(II)I"⟩, 7), (⟨"SuggestSpell$Table", "byLast", "(II)I"⟩, 7), (⟨"SuggestSpell$Table", "mayChange", "(II)Z"⟩, 7), (⟨"SuggestSpell$Table", "byChange", "(II)I"⟩, 7), (⟨"SuggestSpell", "priceOfBeginning", "(I)I"⟩, 8), (⟨"SuggestSpell", "findEdits", "(I)V"⟩, 8), (⟨"SuggestSpell$Table", "note", "(II)V"⟩, 7), (⟨"SuggestSpell", "howMany", "(IZ)I"⟩, 8), (⟨"SuggestSpell", "rankWords", "(IZ)V"⟩, 8), (⟨"SuggestSpell$Ranking", "isBehind", "(III)Z"⟩, 4), (⟨"SuggestSpell", "rankedWord", "(IIZ)I"⟩, 8), (⟨"SuggestSpell$Parting", "fillSides", "(LSuggestSpell$Row;LSuggestSpell$Words;LSuggestSpell$Table;)V"⟩, 6), (⟨"SuggestSpell$Choice", "goOn", "(IILSuggestSpell$Words;I)V"⟩, 4), (⟨"SuggestSpell$Choice", "cheapestFirst", "(I)I"⟩, 4)]
theorem lw_r1 : ∀ q ∈ lw_privs_1, lw_okq q := List.forall_mem_cons.mpr ⟨lw_p0, List.forall_mem_cons.mpr ⟨lw_p1, List.forall_mem_cons.mpr ⟨lw_p2, List.forall_mem_cons.mpr ⟨lw_p3, List.forall_mem_cons.mpr ⟨lw_p4, List.forall_mem_cons.mpr ⟨lw_p5, List.forall_mem_cons.mpr ⟨lw_p6, List.forall_mem_cons.mpr ⟨lw_p7, List.forall_mem_cons.mpr ⟨lw_p8, List.forall_mem_cons.mpr ⟨lw_p9, List.forall_mem_cons.mpr ⟨lw_p10, List.forall_mem_cons.mpr ⟨lw_p11, List.forall_mem_cons.mpr ⟨lw_p12, List.forall_mem_cons.mpr ⟨lw_p13, List.forall_mem_cons.mpr ⟨lw_p14, List.forall_mem_cons.mpr ⟨lw_p15, fun _ h => absurd h List.not_mem_nil⟩⟩⟩⟩⟩⟩⟩⟩⟩⟩⟩⟩⟩⟩⟩⟩
theorem lw_p16 : lw_okq (⟨"SuggestSpell$Choice", "keepRow", "(IILSuggestSpell$Words;)V"⟩, 4) := ⟨⟨by decide +kernel, by decide +kernel⟩, List.mem_of_getElem? (i := 219) (by decide +kernel), List.mem_of_getElem? (i := 534) (by decide +kernel), List.mem_of_getElem? (i := 535) (by decide +kernel)⟩
theorem lw_p17 : lw_okq (⟨"java/lang/Throwable", "fillInStackTrace", "(I)Ljava/lang/Throwable;"⟩, 6) := ⟨⟨by decide +kernel, by decide +kernel⟩, List.mem_of_getElem? (i := 583) (by decide +kernel), List.mem_of_getElem? (i := 581) (by decide +kernel), List.mem_of_getElem? (i := 582) (by decide +kernel)⟩
theorem lw_p18 : lw_okq (⟨"SuggestSpellModel", "isWord", "(I)Z"⟩, 25) := ⟨⟨by decide +kernel, by decide +kernel⟩, List.mem_of_getElem? (i := 613) (by decide +kernel), List.mem_of_getElem? (i := 718) (by decide +kernel), List.mem_of_getElem? (i := 719) (by decide +kernel)⟩
theorem lw_p19 : lw_okq (⟨"SuggestSpellModel", "rank", "(I)I"⟩, 25) := ⟨⟨by decide +kernel, by decide +kernel⟩, List.mem_of_getElem? (i := 613) (by decide +kernel), List.mem_of_getElem? (i := 726) (by decide +kernel), List.mem_of_getElem? (i := 727) (by decide +kernel)⟩
theorem lw_p20 : lw_okq (⟨"SuggestSpellModel", "isAhead", "(II)Z"⟩, 25) := ⟨⟨by decide +kernel, by decide +kernel⟩, List.mem_of_getElem? (i := 613) (by decide +kernel), List.mem_of_getElem? (i := 730) (by decide +kernel), List.mem_of_getElem? (i := 731) (by decide +kernel)⟩
theorem lw_p21 : lw_okq (⟨"SuggestSpellModel", "takeTyped", "(II)V"⟩, 25) := ⟨⟨by decide +kernel, by decide +kernel⟩, List.mem_of_getElem? (i := 613) (by decide +kernel), List.mem_of_getElem? (i := 746) (by decide +kernel), List.mem_of_getElem? (i := 747) (by decide +kernel)⟩
theorem lw_p22 : lw_okq (⟨"SuggestSpellModel", "fill", "(I)I"⟩, 25) := ⟨⟨by decide +kernel, by decide +kernel⟩, List.mem_of_getElem? (i := 613) (by decide +kernel), List.mem_of_getElem? (i := 750) (by decide +kernel), List.mem_of_getElem? (i := 751) (by decide +kernel)⟩
theorem lw_p23 : lw_okq (⟨"SuggestSpellModel", "becomes", "(II)I"⟩, 25) := ⟨⟨by decide +kernel, by decide +kernel⟩, List.mem_of_getElem? (i := 613) (by decide +kernel), List.mem_of_getElem? (i := 755) (by decide +kernel), List.mem_of_getElem? (i := 756) (by decide +kernel)⟩
theorem lw_p24 : lw_okq (⟨"SuggestSpellModel", "isTurned", "(III)Z"⟩, 25) := ⟨⟨by decide +kernel, by decide +kernel⟩, List.mem_of_getElem? (i := 613) (by decide +kernel), List.mem_of_getElem? (i := 759) (by decide +kernel), List.mem_of_getElem? (i := 760) (by decide +kernel)⟩
theorem lw_p25 : lw_okq (⟨"SuggestSpellModel", "beginsBy", "(I)I"⟩, 25) := ⟨⟨by decide +kernel, by decide +kernel⟩, List.mem_of_getElem? (i := 613) (by decide +kernel), List.mem_of_getElem? (i := 767) (by decide +kernel), List.mem_of_getElem? (i := 768) (by decide +kernel)⟩
theorem lw_p26 : lw_okq (⟨"SuggestSpellModel", "find", "(I)V"⟩, 25) := ⟨⟨by decide +kernel, by decide +kernel⟩, List.mem_of_getElem? (i := 613) (by decide +kernel), List.mem_of_getElem? (i := 775) (by decide +kernel), List.mem_of_getElem? (i := 776) (by decide +kernel)⟩
theorem lw_p27 : lw_okq (⟨"SuggestSpellModel", "note", "(II)V"⟩, 25) := ⟨⟨by decide +kernel, by decide +kernel⟩, List.mem_of_getElem? (i := 613) (by decide +kernel), List.mem_of_getElem? (i := 779) (by decide +kernel), List.mem_of_getElem? (i := 780) (by decide +kernel)⟩
theorem lw_p28 : lw_okq (⟨"SuggestSpellModel", "look", "(IZ)V"⟩, 25) := ⟨⟨by decide +kernel, by decide +kernel⟩, List.mem_of_getElem? (i := 613) (by decide +kernel), List.mem_of_getElem? (i := 791) (by decide +kernel), List.mem_of_getElem? (i := 792) (by decide +kernel)⟩
theorem lw_p29 : lw_okq (⟨"SuggestSpellModel", "isBefore", "(IIII)Z"⟩, 25) := ⟨⟨by decide +kernel, by decide +kernel⟩, List.mem_of_getElem? (i := 613) (by decide +kernel), List.mem_of_getElem? (i := 795) (by decide +kernel), List.mem_of_getElem? (i := 796) (by decide +kernel)⟩
theorem lw_p30 : lw_okq (⟨"SuggestSpellModel", "side", "(II)I"⟩, 25) := ⟨⟨by decide +kernel, by decide +kernel⟩, List.mem_of_getElem? (i := 613) (by decide +kernel), List.mem_of_getElem? (i := 815) (by decide +kernel), List.mem_of_getElem? (i := 816) (by decide +kernel)⟩
theorem lw_p31 : lw_okq (⟨"SuggestSpellModel", "nextTo", "(II)I"⟩, 25) := ⟨⟨by decide +kernel, by decide +kernel⟩, List.mem_of_getElem? (i := 613) (by decide +kernel), List.mem_of_getElem? (i := 835) (by decide +kernel), List.mem_of_getElem? (i := 836) (by decide +kernel)⟩
def lw_privs_2 : List (MethodName × Nat) := [(⟨"SuggestSpell$Choice", "keepRow", "(IILSuggestSpell$Words;)V"⟩, 4), (⟨"java/lang/Throwable", "fillInStackTrace", "(I)Ljava/lang/Throwable;"⟩, 6), (⟨"SuggestSpellModel", "isWord", "(I)Z"⟩, 25), (⟨"SuggestSpellModel", "rank", "(I)I"⟩, 25), (⟨"SuggestSpellModel", "isAhead", "(II)Z"⟩, 25), (⟨"SuggestSpellModel", "takeTyped", "(II)V"⟩, 25), (⟨"SuggestSpellModel", "fill", "(I)I"⟩, 25), (⟨"SuggestSpellModel", "becomes", "(II)I"⟩, 25), (⟨"SuggestSpellModel", "isTurned", "(III)Z"⟩, 25), (⟨"SuggestSpellModel", "beginsBy", "(I)I"⟩, 25), (⟨"SuggestSpellModel", "find", "(I)V"⟩, 25), (⟨"SuggestSpellModel", "note", "(II)V"⟩, 25), (⟨"SuggestSpellModel", "look", "(IZ)V"⟩, 25), (⟨"SuggestSpellModel", "isBefore", "(IIII)Z"⟩, 25), (⟨"SuggestSpellModel", "side", "(II)I"⟩, 25), (⟨"SuggestSpellModel", "nextTo", "(II)I"⟩, 25)]
theorem lw_r2 : ∀ q ∈ lw_privs_2, lw_okq q := List.forall_mem_cons.mpr ⟨lw_p16, List.forall_mem_cons.mpr ⟨lw_p17, List.forall_mem_cons.mpr ⟨lw_p18, List.forall_mem_cons.mpr ⟨lw_p19, List.forall_mem_cons.mpr ⟨lw_p20, List.forall_mem_cons.mpr ⟨lw_p21, List.forall_mem_cons.mpr ⟨lw_p22, List.forall_mem_cons.mpr ⟨lw_p23, List.forall_mem_cons.mpr ⟨lw_p24, List.forall_mem_cons.mpr ⟨lw_p25, List.forall_mem_cons.mpr ⟨lw_p26, List.forall_mem_cons.mpr ⟨lw_p27, List.forall_mem_cons.mpr ⟨lw_p28, List.forall_mem_cons.mpr ⟨lw_p29, List.forall_mem_cons.mpr ⟨lw_p30, List.forall_mem_cons.mpr ⟨lw_p31, fun _ h => absurd h List.not_mem_nil⟩⟩⟩⟩⟩⟩⟩⟩⟩⟩⟩⟩⟩⟩⟩⟩
def lw_privs : List (MethodName × Nat) := lw_privs_1 ++ (lw_privs_2)
def lw_tbl : List Cond := k2_sels lw_privs ++ tables_1
theorem lw_privs_ok : ∀ q ∈ lw_privs, lw_okq q := by
  show ∀ q ∈ lw_privs_1 ++ (lw_privs_2), lw_okq q
  exact List.forall_mem_append.mpr ⟨lw_r1, lw_r2⟩
-- ===== end of PART A
end
section
/-! ===== BEGIN words of one list among another's, by their places ===== -/
theorem goodIn_r {big : List Cond} (ws : List Cond) (ps : List Nat) (hp : ws = ps.filterMap (fun i => big[i]?)) (h : ws.all goodWord = true) : GoodIn big ws := by
  intro w hw
  have h1 := List.all_eq_true.mp h w hw
  rw [hp] at hw
  obtain ⟨i, -, hi⟩ := List.mem_filterMap.mp hw
  have hm : w ∈ big := by first | exact List.mem_of_getElem? hi | exact List.getElem?_mem hi
  exact ⟨hm, good_of_word h1⟩
theorem goodIn_app {big a b : List Cond} (ha : GoodIn big a) (hb : GoodIn big b) : GoodIn big (a ++ b) := fun w h => (List.mem_append.mp h).elim (ha w) (hb w)
theorem goodIn_ca {big a b : List Cond} {c : Cond} (ha : GoodIn big (c :: a)) (hb : GoodIn big b) : GoodIn big (c :: (a ++ b)) := fun w h => (List.mem_cons.mp h).elim (fun e => ha w (List.mem_cons.mpr (Or.inl e))) (fun h => (List.mem_append.mp h).elim (fun h => ha w (List.mem_cons.mpr (Or.inr h))) (hb w))
theorem goodIn_sub {big ws : List Cond} (hm : ∀ w ∈ ws, w ∈ big) (h : ws.all goodWord = true) : GoodIn big ws := fun w hw => ⟨hm w hw, good_of_word (List.all_eq_true.mp h w hw)⟩
def RX0 : String := "SuggestSpell$Choice"
def TX0 : u_T := fun k => match k with
  | 0 => ("SuggestSpell$Choice", "distances", "[[I", true)
  | 1 => ("SuggestSpell$Choice", "costs", "[[I", true)
  | 2 => ("SuggestSpell$Choice", "next", "[[I", true)
  | _ => ("SuggestSpell$Choice", "row", "[I", true)
def tyX0 : Nat → FieldType := fun k => match k with
  | 0 => .array (.array .int)
  | 1 => .array (.array .int)
  | 2 => .array (.array .int)
  | _ => .array .int
abbrev wsX00 : List Cond := u_ws RX0 TX0 4
theorem nmX0 : ∀ a, a < 4 → ∀ b, b < 4 → a ≠ b → (TX0 a).2.1 ≠ (TX0 b).2.1 := by decide +kernel
theorem tyX0_ok : ∀ k, k < 4 → parseFieldDescriptor (TX0 k).2.2.1 = some (tyX0 k) := by decide +kernel
abbrev cX0_init : ByteArray := prog_2_method_1_code
def yX0_init : MethodName := ⟨RX0, "<init>", "()V"⟩
abbrev cX0_measure : ByteArray := prog_2_method_2_code
def yX0_measure : MethodName := ⟨RX0, "measure", "(LSuggestSpell$Line;LSuggestSpell$Words;LSuggestSpell$Table;I)V"⟩
abbrev cX0_choose : ByteArray := prog_2_method_3_code
def yX0_choose : MethodName := ⟨RX0, "choose", "(ILSuggestSpell$Words;I)I"⟩
abbrev cX0_goOn : ByteArray := prog_2_method_4_code
def yX0_goOn : MethodName := ⟨RX0, "goOn", "(IILSuggestSpell$Words;I)V"⟩
abbrev cX0_cheapestFirst : ByteArray := prog_2_method_5_code
def yX0_cheapestFirst : MethodName := ⟨RX0, "cheapestFirst", "(I)I"⟩
abbrev cX0_keepRow : ByteArray := prog_2_method_6_code
def yX0_keepRow : MethodName := ⟨RX0, "keepRow", "(IILSuggestSpell$Words;)V"⟩
def RX1 : String := "SuggestSpell$Line"
def TX1 : u_T := fun k => match k with
  | 0 => ("SuggestSpell$Line", "rows", "[LSuggestSpell$Row;", true)
  | _ => ("SuggestSpell$Line", "size", "I", false)
def tyX1 : Nat → FieldType := fun k => match k with
  | 0 => .array (.object "SuggestSpell$Row")
  | _ => .int
abbrev wsX10 : List Cond := u_ws RX1 TX1 2
theorem nmX1 : ∀ a, a < 2 → ∀ b, b < 2 → a ≠ b → (TX1 a).2.1 ≠ (TX1 b).2.1 := by decide +kernel
theorem tyX1_ok : ∀ k, k < 2 → parseFieldDescriptor (TX1 k).2.2.1 = some (tyX1 k) := by decide +kernel
abbrev cX1_init : ByteArray := prog_3_method_1_code
def yX1_init : MethodName := ⟨RX1, "<init>", "()V"⟩
abbrev cX1_add : ByteArray := prog_3_method_2_code
def yX1_add : MethodName := ⟨RX1, "add", "(LSuggestSpell$Row;)Z"⟩
def RX2 : String := "SuggestSpell$Parting"
def TX2 : u_T := fun k => match k with
  | 0 => ("SuggestSpell$Parting", "left", "LSuggestSpell$Side;", true)
  | 1 => ("SuggestSpell$Parting", "right", "LSuggestSpell$Side;", true)
  | 2 => ("SuggestSpell$Parting", "cost", "I", false)
  | 3 => ("SuggestSpell$Parting", "cut", "I", false)
  | 4 => ("SuggestSpell$Parting", "leftWord", "I", false)
  | _ => ("SuggestSpell$Parting", "rightWord", "I", false)
def tyX2 : Nat → FieldType := fun k => match k with
  | 0 => .object "SuggestSpell$Side"
  | 1 => .object "SuggestSpell$Side"
  | 2 => .int
  | 3 => .int
  | 4 => .int
  | _ => .int
abbrev wsX20 : List Cond := u_ws RX2 TX2 6
theorem nmX2 : ∀ a, a < 6 → ∀ b, b < 6 → a ≠ b → (TX2 a).2.1 ≠ (TX2 b).2.1 := by decide +kernel
theorem tyX2_ok : ∀ k, k < 6 → parseFieldDescriptor (TX2 k).2.2.1 = some (tyX2 k) := by decide +kernel
abbrev cX2_init : ByteArray := prog_4_method_1_code
def yX2_init : MethodName := ⟨RX2, "<init>", "()V"⟩
abbrev cX2_find : ByteArray := prog_4_method_2_code
def yX2_find : MethodName := ⟨RX2, "find", "(LSuggestSpell$Row;LSuggestSpell$Words;LSuggestSpell$Table;I)V"⟩
abbrev cX2_fillSides : ByteArray := prog_4_method_3_code
def yX2_fillSides : MethodName := ⟨RX2, "fillSides", "(LSuggestSpell$Row;LSuggestSpell$Words;LSuggestSpell$Table;)V"⟩
def RX3 : String := "SuggestSpell$Prices"
def TX3 : u_T := fun k => match k with
  | 0 => ("SuggestSpell$Prices", "ofKind", "[I", true)
  | _ => ("SuggestSpell$Prices", "own", "[[I", true)
def tyX3 : Nat → FieldType := fun k => match k with
  | 0 => .array .int
  | _ => .array (.array .int)
abbrev wsX30 : List Cond := u_ws RX3 TX3 2
theorem nmX3 : ∀ a, a < 2 → ∀ b, b < 2 → a ≠ b → (TX3 a).2.1 ≠ (TX3 b).2.1 := by decide +kernel
theorem tyX3_ok : ∀ k, k < 2 → parseFieldDescriptor (TX3 k).2.2.1 = some (tyX3 k) := by decide +kernel
abbrev cX3_init : ByteArray := prog_5_method_1_code
def yX3_init : MethodName := ⟨RX3, "<init>", "()V"⟩
abbrev cX3_ofBecoming : ByteArray := prog_5_method_2_code
def yX3_ofBecoming : MethodName := ⟨RX3, "ofBecoming", "(II)I"⟩
def RX4 : String := "SuggestSpell$Ranking"
def TX4 : u_T := fun k => match k with
  | 0 => ("SuggestSpell$Ranking", "numbers", "[I", true)
  | 1 => ("SuggestSpell$Ranking", "costs", "[I", true)
  | 2 => ("SuggestSpell$Ranking", "counts", "[I", true)
  | _ => ("SuggestSpell$Ranking", "size", "I", false)
def tyX4 : Nat → FieldType := fun k => match k with
  | 0 => .array .int
  | 1 => .array .int
  | 2 => .array .int
  | _ => .int
abbrev wsX40 : List Cond := u_ws RX4 TX4 4
theorem nmX4 : ∀ a, a < 4 → ∀ b, b < 4 → a ≠ b → (TX4 a).2.1 ≠ (TX4 b).2.1 := by decide +kernel
theorem tyX4_ok : ∀ k, k < 4 → parseFieldDescriptor (TX4 k).2.2.1 = some (tyX4 k) := by decide +kernel
abbrev cX4_init : ByteArray := prog_6_method_1_code
def yX4_init : MethodName := ⟨RX4, "<init>", "()V"⟩
abbrev cX4_add : ByteArray := prog_6_method_2_code
def yX4_add : MethodName := ⟨RX4, "add", "(III)V"⟩
abbrev cX4_isBehind : ByteArray := prog_6_method_3_code
def yX4_isBehind : MethodName := ⟨RX4, "isBehind", "(III)Z"⟩
def RX5 : String := "SuggestSpell$Row"
def TX5 : u_T := fun k => match k with
  | 0 => ("SuggestSpell$Row", "letters", "[I", true)
  | _ => ("SuggestSpell$Row", "length", "I", false)
def tyX5 : Nat → FieldType := fun k => match k with
  | 0 => .array .int
  | _ => .int
abbrev wsX50 : List Cond := u_ws RX5 TX5 2
theorem nmX5 : ∀ a, a < 2 → ∀ b, b < 2 → a ≠ b → (TX5 a).2.1 ≠ (TX5 b).2.1 := by decide +kernel
theorem tyX5_ok : ∀ k, k < 2 → parseFieldDescriptor (TX5 k).2.2.1 = some (tyX5 k) := by decide +kernel
abbrev cX5_init : ByteArray := prog_7_method_1_code
def yX5_init : MethodName := ⟨RX5, "<init>", "()V"⟩
abbrev cX5_add : ByteArray := prog_7_method_2_code
def yX5_add : MethodName := ⟨RX5, "add", "(I)Z"⟩
abbrev cX5_copyOf : ByteArray := prog_7_method_3_code
def yX5_copyOf : MethodName := ⟨RX5, "copyOf", "(LSuggestSpell$Row;)V"⟩
abbrev cX5_mirrorOf : ByteArray := prog_7_method_4_code
def yX5_mirrorOf : MethodName := ⟨RX5, "mirrorOf", "(LSuggestSpell$Row;)V"⟩
abbrev cX5_compareWith : ByteArray := prog_7_method_5_code
def yX5_compareWith : MethodName := ⟨RX5, "compareWith", "(LSuggestSpell$Row;)I"⟩
def RX6 : String := "SuggestSpell$Side"
def TX6 : u_T := fun k => match k with
  | 0 => ("SuggestSpell$Side", "numbers", "[I", true)
  | _ => ("SuggestSpell$Side", "costs", "[I", true)
def tyX6 : Nat → FieldType := fun k => match k with
  | 0 => .array .int
  | _ => .array .int
abbrev wsX60 : List Cond := u_ws RX6 TX6 2
theorem nmX6 : ∀ a, a < 2 → ∀ b, b < 2 → a ≠ b → (TX6 a).2.1 ≠ (TX6 b).2.1 := by decide +kernel
theorem tyX6_ok : ∀ k, k < 2 → parseFieldDescriptor (TX6 k).2.2.1 = some (tyX6 k) := by decide +kernel
abbrev cX6_init : ByteArray := prog_8_method_1_code
def yX6_init : MethodName := ⟨RX6, "<init>", "()V"⟩
abbrev cX6_empty : ByteArray := prog_8_method_2_code
def yX6_empty : MethodName := ⟨RX6, "empty", "()V"⟩
abbrev cX6_offer : ByteArray := prog_8_method_3_code
def yX6_offer : MethodName := ⟨RX6, "offer", "(ILSuggestSpell$Table;I)V"⟩
def RX7 : String := "SuggestSpell$Table"
def TX7 : u_T := fun k => match k with
  | 0 => ("SuggestSpell$Table", "prices", "LSuggestSpell$Prices;", true)
  | 1 => ("SuggestSpell$Table", "typed", "LSuggestSpell$Row;", true)
  | 2 => ("SuggestSpell$Table", "word", "LSuggestSpell$Row;", true)
  | 3 => ("SuggestSpell$Table", "least", "[[I", true)
  | 4 => ("SuggestSpell$Table", "kinds", "[I", true)
  | 5 => ("SuggestSpell$Table", "places", "[I", true)
  | _ => ("SuggestSpell$Table", "edits", "I", false)
def tyX7 : Nat → FieldType := fun k => match k with
  | 0 => .object "SuggestSpell$Prices"
  | 1 => .object "SuggestSpell$Row"
  | 2 => .object "SuggestSpell$Row"
  | 3 => .array (.array .int)
  | 4 => .array .int
  | 5 => .array .int
  | _ => .int
abbrev wsX70 : List Cond := u_ws RX7 TX7 7
theorem nmX7 : ∀ a, a < 7 → ∀ b, b < 7 → a ≠ b → (TX7 a).2.1 ≠ (TX7 b).2.1 := by decide +kernel
theorem tyX7_ok : ∀ k, k < 7 → parseFieldDescriptor (TX7 k).2.2.1 = some (tyX7 k) := by decide +kernel
abbrev cX7_init : ByteArray := prog_9_method_1_code
def yX7_init : MethodName := ⟨RX7, "<init>", "(LSuggestSpell$Prices;)V"⟩
abbrev cX7_measure : ByteArray := prog_9_method_2_code
def yX7_measure : MethodName := ⟨RX7, "measure", "(LSuggestSpell$Row;LSuggestSpell$Row;)I"⟩
abbrev cX7_measureMirrored : ByteArray := prog_9_method_3_code
def yX7_measureMirrored : MethodName := ⟨RX7, "measureMirrored", "(LSuggestSpell$Row;LSuggestSpell$Row;)V"⟩
abbrev cX7_priceOfFirst : ByteArray := prog_9_method_4_code
def yX7_priceOfFirst : MethodName := ⟨RX7, "priceOfFirst", "(I)I"⟩
abbrev cX7_leastOfBeginnings : ByteArray := prog_9_method_5_code
def yX7_leastOfBeginnings : MethodName := ⟨RX7, "leastOfBeginnings", "()I"⟩
abbrev cX7_trace : ByteArray := prog_9_method_6_code
def yX7_trace : MethodName := ⟨RX7, "trace", "()V"⟩
abbrev cX7_kindOfEdit : ByteArray := prog_9_method_7_code
def yX7_kindOfEdit : MethodName := ⟨RX7, "kindOfEdit", "(I)I"⟩
abbrev cX7_placeOfEdit : ByteArray := prog_9_method_8_code
def yX7_placeOfEdit : MethodName := ⟨RX7, "placeOfEdit", "(I)I"⟩
abbrev cX7_note : ByteArray := prog_9_method_9_code
def yX7_note : MethodName := ⟨RX7, "note", "(II)V"⟩
abbrev cX7_fill : ByteArray := prog_9_method_10_code
def yX7_fill : MethodName := ⟨RX7, "fill", "()V"⟩
abbrev cX7_cheapest : ByteArray := prog_9_method_11_code
def yX7_cheapest : MethodName := ⟨RX7, "cheapest", "(II)I"⟩
abbrev cX7_byLast : ByteArray := prog_9_method_12_code
def yX7_byLast : MethodName := ⟨RX7, "byLast", "(II)I"⟩
abbrev cX7_mayChange : ByteArray := prog_9_method_13_code
def yX7_mayChange : MethodName := ⟨RX7, "mayChange", "(II)Z"⟩
abbrev cX7_byChange : ByteArray := prog_9_method_14_code
def yX7_byChange : MethodName := ⟨RX7, "byChange", "(II)I"⟩
def RX8 : String := "SuggestSpell$Words"
def TX8 : u_T := fun k => match k with
  | 0 => ("SuggestSpell$Words", "rows", "[LSuggestSpell$Row;", true)
  | 1 => ("SuggestSpell$Words", "counts", "[I", true)
  | 2 => ("SuggestSpell$Words", "inOrder", "[I", true)
  | 3 => ("SuggestSpell$Words", "pairs", "[Z", true)
  | _ => ("SuggestSpell$Words", "size", "I", false)
def tyX8 : Nat → FieldType := fun k => match k with
  | 0 => .array (.object "SuggestSpell$Row")
  | 1 => .array .int
  | 2 => .array .int
  | 3 => .array .boolean
  | _ => .int
abbrev wsX80 : List Cond := u_ws RX8 TX8 5
theorem nmX8 : ∀ a, a < 5 → ∀ b, b < 5 → a ≠ b → (TX8 a).2.1 ≠ (TX8 b).2.1 := by decide +kernel
theorem tyX8_ok : ∀ k, k < 5 → parseFieldDescriptor (TX8 k).2.2.1 = some (tyX8 k) := by decide +kernel
abbrev cX8_init : ByteArray := prog_10_method_1_code
def yX8_init : MethodName := ⟨RX8, "<init>", "()V"⟩
abbrev cX8_has : ByteArray := prog_10_method_2_code
def yX8_has : MethodName := ⟨RX8, "has", "(I)Z"⟩
abbrev cX8_hasRow : ByteArray := prog_10_method_3_code
def yX8_hasRow : MethodName := ⟨RX8, "hasRow", "(LSuggestSpell$Row;)Z"⟩
abbrev cX8_add : ByteArray := prog_10_method_4_code
def yX8_add : MethodName := ⟨RX8, "add", "(LSuggestSpell$Row;I)I"⟩
abbrev cX8_rankOf : ByteArray := prog_10_method_5_code
def yX8_rankOf : MethodName := ⟨RX8, "rankOf", "(I)I"⟩
abbrev cX8_isPair : ByteArray := prog_10_method_6_code
def yX8_isPair : MethodName := ⟨RX8, "isPair", "(II)Z"⟩
abbrev cX8_setPair : ByteArray := prog_10_method_7_code
def yX8_setPair : MethodName := ⟨RX8, "setPair", "(IIZ)Z"⟩
def RX9 : String := "SuggestSpell"
def TX9 : u_T := fun k => match k with
  | 0 => ("SuggestSpell", "typed", "LSuggestSpell$Row;", true)
  | 1 => ("SuggestSpell", "prices", "LSuggestSpell$Prices;", true)
  | 2 => ("SuggestSpell", "words", "LSuggestSpell$Words;", true)
  | 3 => ("SuggestSpell", "tokens", "LSuggestSpell$Line;", true)
  | 4 => ("SuggestSpell", "table", "LSuggestSpell$Table;", true)
  | 5 => ("SuggestSpell", "ranking", "LSuggestSpell$Ranking;", true)
  | 6 => ("SuggestSpell", "best", "LSuggestSpell$Parting;", true)
  | _ => ("SuggestSpell", "choice", "LSuggestSpell$Choice;", true)
def tyX9 : Nat → FieldType := fun k => match k with
  | 0 => .object "SuggestSpell$Row"
  | 1 => .object "SuggestSpell$Prices"
  | 2 => .object "SuggestSpell$Words"
  | 3 => .object "SuggestSpell$Line"
  | 4 => .object "SuggestSpell$Table"
  | 5 => .object "SuggestSpell$Ranking"
  | 6 => .object "SuggestSpell$Parting"
  | _ => .object "SuggestSpell$Choice"
abbrev wsX90 : List Cond := u_ws RX9 TX9 8
theorem nmX9 : ∀ a, a < 8 → ∀ b, b < 8 → a ≠ b → (TX9 a).2.1 ≠ (TX9 b).2.1 := by decide +kernel
theorem tyX9_ok : ∀ k, k < 8 → parseFieldDescriptor (TX9 k).2.2.1 = some (tyX9 k) := by decide +kernel
abbrev cX9_init : ByteArray := prog_1_method_1_code
def yX9_init : MethodName := ⟨RX9, "<init>", "()V"⟩
abbrev cX9_letter : ByteArray := prog_1_method_2_code
def yX9_letter : MethodName := ⟨RX9, "letter", "(I)I"⟩
abbrev cX9_clear : ByteArray := prog_1_method_3_code
def yX9_clear : MethodName := ⟨RX9, "clear", "()I"⟩
abbrev cX9_word : ByteArray := prog_1_method_4_code
def yX9_word : MethodName := ⟨RX9, "word", "(I)I"⟩
abbrev cX9_count : ByteArray := prog_1_method_5_code
def yX9_count : MethodName := ⟨RX9, "count", "(II)I"⟩
abbrev cX9_at : ByteArray := prog_1_method_6_code
def yX9_at : MethodName := ⟨RX9, "at", "(II)I"⟩
abbrev cX9_price : ByteArray := prog_1_method_7_code
def yX9_price : MethodName := ⟨RX9, "price", "(II)I"⟩
abbrev cX9_near : ByteArray := prog_1_method_8_code
def yX9_near : MethodName := ⟨RX9, "near", "(III)I"⟩
abbrev cX9_distance : ByteArray := prog_1_method_9_code
def yX9_distance : MethodName := ⟨RX9, "distance", "(I)I"⟩
abbrev cX9_begins : ByteArray := prog_1_method_10_code
def yX9_begins : MethodName := ⟨RX9, "begins", "(I)I"⟩
abbrev cX9_edit : ByteArray := prog_1_method_11_code
def yX9_edit : MethodName := ⟨RX9, "edit", "(II)I"⟩
abbrev cX9_place : ByteArray := prog_1_method_12_code
def yX9_place : MethodName := ⟨RX9, "place", "(II)I"⟩
abbrev cX9_suggest : ByteArray := prog_1_method_13_code
def yX9_suggest : MethodName := ⟨RX9, "suggest", "(I)I"⟩
abbrev cX9_suggestion : ByteArray := prog_1_method_14_code
def yX9_suggestion : MethodName := ⟨RX9, "suggestion", "(II)I"⟩
abbrev cX9_endings : ByteArray := prog_1_method_15_code
def yX9_endings : MethodName := ⟨RX9, "endings", "(I)I"⟩
abbrev cX9_ending : ByteArray := prog_1_method_16_code
def yX9_ending : MethodName := ⟨RX9, "ending", "(II)I"⟩
abbrev cX9_parting : ByteArray := prog_1_method_17_code
def yX9_parting : MethodName := ⟨RX9, "parting", "(I)I"⟩
abbrev cX9_token : ByteArray := prog_1_method_18_code
def yX9_token : MethodName := ⟨RX9, "token", "()I"⟩
abbrev cX9_line : ByteArray := prog_1_method_19_code
def yX9_line : MethodName := ⟨RX9, "line", "()I"⟩
abbrev cX9_pair : ByteArray := prog_1_method_20_code
def yX9_pair : MethodName := ⟨RX9, "pair", "(IIZ)I"⟩
abbrev cX9_chosen : ByteArray := prog_1_method_21_code
def yX9_chosen : MethodName := ⟨RX9, "chosen", "(II)I"⟩
abbrev cX9_share : ByteArray := prog_1_method_22_code
def yX9_share : MethodName := ⟨RX9, "share", "(I)I"⟩
abbrev cX9_isLetter : ByteArray := prog_1_method_23_code
def yX9_isLetter : MethodName := ⟨RX9, "isLetter", "(I)Z"⟩
abbrev cX9_isCount : ByteArray := prog_1_method_24_code
def yX9_isCount : MethodName := ⟨RX9, "isCount", "(I)Z"⟩
abbrev cX9_isLimit : ByteArray := prog_1_method_25_code
def yX9_isLimit : MethodName := ⟨RX9, "isLimit", "(I)Z"⟩
abbrev cX9_priceOfWord : ByteArray := prog_1_method_26_code
def yX9_priceOfWord : MethodName := ⟨RX9, "priceOfWord", "(I)I"⟩
abbrev cX9_priceOfBeginning : ByteArray := prog_1_method_27_code
def yX9_priceOfBeginning : MethodName := ⟨RX9, "priceOfBeginning", "(I)I"⟩
abbrev cX9_findEdits : ByteArray := prog_1_method_28_code
def yX9_findEdits : MethodName := ⟨RX9, "findEdits", "(I)V"⟩
abbrev cX9_howMany : ByteArray := prog_1_method_29_code
def yX9_howMany : MethodName := ⟨RX9, "howMany", "(IZ)I"⟩
abbrev cX9_rankedWord : ByteArray := prog_1_method_30_code
def yX9_rankedWord : MethodName := ⟨RX9, "rankedWord", "(IIZ)I"⟩
abbrev cX9_rankWords : ByteArray := prog_1_method_31_code
def yX9_rankWords : MethodName := ⟨RX9, "rankWords", "(IZ)V"⟩
def RX10 : String := "SuggestSpellModel"
def TX10 : u_T := fun k => match k with
  | 0 => ("SuggestSpellModel", "thrown", "I", false)
  | 1 => ("SuggestSpellModel", "typed", "I", false)
  | 2 => ("SuggestSpellModel", "letters", "[I", true)
  | 3 => ("SuggestSpellModel", "words", "I", false)
  | 4 => ("SuggestSpellModel", "sizes", "[I", true)
  | 5 => ("SuggestSpellModel", "text", "[I", true)
  | 6 => ("SuggestSpellModel", "counts", "[I", true)
  | 7 => ("SuggestSpellModel", "prices", "[I", true)
  | 8 => ("SuggestSpellModel", "own", "[I", true)
  | 9 => ("SuggestSpellModel", "tokens", "I", false)
  | 10 => ("SuggestSpellModel", "tokenSize", "[I", true)
  | 11 => ("SuggestSpellModel", "tokenText", "[I", true)
  | 12 => ("SuggestSpellModel", "pairs", "[Z", true)
  | 13 => ("SuggestSpellModel", "table", "[I", true)
  | 14 => ("SuggestSpellModel", "row", "[I", true)
  | 15 => ("SuggestSpellModel", "rowSize", "I", false)
  | 16 => ("SuggestSpellModel", "edits", "I", false)
  | 17 => ("SuggestSpellModel", "kind", "[I", true)
  | 18 => ("SuggestSpellModel", "where", "[I", true)
  | 19 => ("SuggestSpellModel", "many", "I", false)
  | 20 => ("SuggestSpellModel", "found", "[I", true)
  | 21 => ("SuggestSpellModel", "far", "[I", true)
  | 22 => ("SuggestSpellModel", "sideWord", "I", false)
  | 23 => ("SuggestSpellModel", "cost", "[I", true)
  | _ => ("SuggestSpellModel", "rest", "[I", true)
def tyX10 : Nat → FieldType := fun k => match k with
  | 0 => .int
  | 1 => .int
  | 2 => .array .int
  | 3 => .int
  | 4 => .array .int
  | 5 => .array .int
  | 6 => .array .int
  | 7 => .array .int
  | 8 => .array .int
  | 9 => .int
  | 10 => .array .int
  | 11 => .array .int
  | 12 => .array .boolean
  | 13 => .array .int
  | 14 => .array .int
  | 15 => .int
  | 16 => .int
  | 17 => .array .int
  | 18 => .array .int
  | 19 => .int
  | 20 => .array .int
  | 21 => .array .int
  | 22 => .int
  | 23 => .array .int
  | _ => .array .int
abbrev wsX100 : List Cond := u_ws RX10 TX10 25
theorem nmX10 : ∀ a, a < 25 → ∀ b, b < 25 → a ≠ b → (TX10 a).2.1 ≠ (TX10 b).2.1 := by decide +kernel
theorem tyX10_ok : ∀ k, k < 25 → parseFieldDescriptor (TX10 k).2.2.1 = some (tyX10 k) := by decide +kernel
abbrev cX10_init : ByteArray := prog_12_method_1_code
def yX10_init : MethodName := ⟨RX10, "<init>", "()V"⟩
abbrev cX10_thrown : ByteArray := prog_12_method_2_code
def yX10_thrown : MethodName := ⟨RX10, "thrown", "()I"⟩
abbrev cX10_in : ByteArray := prog_12_method_3_code
def yX10_in : MethodName := ⟨RX10, "in", "(III)Z"⟩
abbrev cX10_isWord : ByteArray := prog_12_method_4_code
def yX10_isWord : MethodName := ⟨RX10, "isWord", "(I)Z"⟩
abbrev cX10_letter : ByteArray := prog_12_method_5_code
def yX10_letter : MethodName := ⟨RX10, "letter", "(I)I"⟩
abbrev cX10_clear : ByteArray := prog_12_method_6_code
def yX10_clear : MethodName := ⟨RX10, "clear", "()I"⟩
abbrev cX10_word : ByteArray := prog_12_method_7_code
def yX10_word : MethodName := ⟨RX10, "word", "(I)I"⟩
abbrev cX10_count : ByteArray := prog_12_method_8_code
def yX10_count : MethodName := ⟨RX10, "count", "(II)I"⟩
abbrev cX10_isAhead : ByteArray := prog_12_method_9_code
def yX10_isAhead : MethodName := ⟨RX10, "isAhead", "(II)Z"⟩
abbrev cX10_rank : ByteArray := prog_12_method_10_code
def yX10_rank : MethodName := ⟨RX10, "rank", "(I)I"⟩
abbrev cX10_at : ByteArray := prog_12_method_11_code
def yX10_at : MethodName := ⟨RX10, "at", "(II)I"⟩
abbrev cX10_price : ByteArray := prog_12_method_12_code
def yX10_price : MethodName := ⟨RX10, "price", "(II)I"⟩
abbrev cX10_near : ByteArray := prog_12_method_13_code
def yX10_near : MethodName := ⟨RX10, "near", "(III)I"⟩
abbrev cX10_takeTyped : ByteArray := prog_12_method_14_code
def yX10_takeTyped : MethodName := ⟨RX10, "takeTyped", "(II)V"⟩
abbrev cX10_becomes : ByteArray := prog_12_method_15_code
def yX10_becomes : MethodName := ⟨RX10, "becomes", "(II)I"⟩
abbrev cX10_isTurned : ByteArray := prog_12_method_16_code
def yX10_isTurned : MethodName := ⟨RX10, "isTurned", "(III)Z"⟩
abbrev cX10_fill : ByteArray := prog_12_method_17_code
def yX10_fill : MethodName := ⟨RX10, "fill", "(I)I"⟩
abbrev cX10_beginsBy : ByteArray := prog_12_method_18_code
def yX10_beginsBy : MethodName := ⟨RX10, "beginsBy", "(I)I"⟩
abbrev cX10_distance : ByteArray := prog_12_method_19_code
def yX10_distance : MethodName := ⟨RX10, "distance", "(I)I"⟩
abbrev cX10_begins : ByteArray := prog_12_method_20_code
def yX10_begins : MethodName := ⟨RX10, "begins", "(I)I"⟩
abbrev cX10_note : ByteArray := prog_12_method_21_code
def yX10_note : MethodName := ⟨RX10, "note", "(II)V"⟩
abbrev cX10_find : ByteArray := prog_12_method_22_code
def yX10_find : MethodName := ⟨RX10, "find", "(I)V"⟩
abbrev cX10_edit : ByteArray := prog_12_method_23_code
def yX10_edit : MethodName := ⟨RX10, "edit", "(II)I"⟩
abbrev cX10_place : ByteArray := prog_12_method_24_code
def yX10_place : MethodName := ⟨RX10, "place", "(II)I"⟩
abbrev cX10_look : ByteArray := prog_12_method_25_code
def yX10_look : MethodName := ⟨RX10, "look", "(IZ)V"⟩
abbrev cX10_isBefore : ByteArray := prog_12_method_26_code
def yX10_isBefore : MethodName := ⟨RX10, "isBefore", "(IIII)Z"⟩
abbrev cX10_suggest : ByteArray := prog_12_method_27_code
def yX10_suggest : MethodName := ⟨RX10, "suggest", "(I)I"⟩
abbrev cX10_suggestion : ByteArray := prog_12_method_28_code
def yX10_suggestion : MethodName := ⟨RX10, "suggestion", "(II)I"⟩
abbrev cX10_endings : ByteArray := prog_12_method_29_code
def yX10_endings : MethodName := ⟨RX10, "endings", "(I)I"⟩
abbrev cX10_ending : ByteArray := prog_12_method_30_code
def yX10_ending : MethodName := ⟨RX10, "ending", "(II)I"⟩
abbrev cX10_side : ByteArray := prog_12_method_31_code
def yX10_side : MethodName := ⟨RX10, "side", "(II)I"⟩
abbrev cX10_parting : ByteArray := prog_12_method_32_code
def yX10_parting : MethodName := ⟨RX10, "parting", "(I)I"⟩
abbrev cX10_token : ByteArray := prog_12_method_33_code
def yX10_token : MethodName := ⟨RX10, "token", "()I"⟩
abbrev cX10_line : ByteArray := prog_12_method_34_code
def yX10_line : MethodName := ⟨RX10, "line", "()I"⟩
abbrev cX10_pair : ByteArray := prog_12_method_35_code
def yX10_pair : MethodName := ⟨RX10, "pair", "(IIZ)I"⟩
abbrev cX10_nextTo : ByteArray := prog_12_method_36_code
def yX10_nextTo : MethodName := ⟨RX10, "nextTo", "(II)I"⟩
abbrev cX10_chosen : ByteArray := prog_12_method_37_code
def yX10_chosen : MethodName := ⟨RX10, "chosen", "(II)I"⟩
abbrev cX10_share : ByteArray := prog_12_method_38_code
def yX10_share : MethodName := ⟨RX10, "share", "(I)I"⟩
def RJ9 : String := "java/lang/Math"
def TJ9 : u_T := fun k => match k with
  | _ => ("", "", "", false)
def tyJ9 : Nat → FieldType := fun k => match k with
  | _ => .int
abbrev wsJ90 : List Cond := u_ws RJ9 TJ9 0
theorem nmJ9 : ∀ a, a < 0 → ∀ b, b < 0 → a ≠ b → (TJ9 a).2.1 ≠ (TJ9 b).2.1 := by decide +kernel
theorem tyJ9_ok : ∀ k, k < 0 → parseFieldDescriptor (TJ9 k).2.2.1 = some (tyJ9 k) := by decide +kernel
abbrev cJ9_min_7cf53 : ByteArray := prog_15_method_69_code
def yJ9_min_7cf53 : MethodName := ⟨RJ9, "min", "(II)I"⟩
def RJ0 : String := "java/lang/String"
def TJ0 : u_T := fun k => match k with
  | _ => ("", "", "", false)
def tyJ0 : Nat → FieldType := fun k => match k with
  | _ => .int
abbrev wsJ00 : List Cond := u_ws RJ0 TJ0 0
theorem nmJ0 : ∀ a, a < 0 → ∀ b, b < 0 → a ≠ b → (TJ0 a).2.1 ≠ (TJ0 b).2.1 := by decide +kernel
theorem tyJ0_ok : ∀ k, k < 0 → parseFieldDescriptor (TJ0 k).2.2.1 = some (tyJ0 k) := by decide +kernel
def RJ7 : String := "java/util/Arrays"
def TJ7 : u_T := fun k => match k with
  | _ => ("", "", "", false)
def tyJ7 : Nat → FieldType := fun k => match k with
  | _ => .int
abbrev wsJ70 : List Cond := u_ws RJ7 TJ7 0
theorem nmJ7 : ∀ a, a < 0 → ∀ b, b < 0 → a ≠ b → (TJ7 a).2.1 ≠ (TJ7 b).2.1 := by decide +kernel
theorem tyJ7_ok : ∀ k, k < 0 → parseFieldDescriptor (TJ7 k).2.2.1 = some (tyJ7 k) := by decide +kernel
abbrev cJ7_fill_53178 : ByteArray := prog_19_method_103_code
def yJ7_fill_53178 : MethodName := ⟨RJ7, "fill", "([II)V"⟩
def RL : String := "SuggestSpellLaw"
abbrev cL_share : ByteArray := method_3_code
def yL_share : MethodName := ⟨RL, "share", "(LSuggestSpell;I[J)I"⟩
abbrev cL_law : ByteArray := code
def yL_law : MethodName := ⟨RL, "law", "([I)Z"⟩
abbrev vwCl : List vw_C := [(RX0, TX0, 4), (RX1, TX1, 2), (RX2, TX2, 6), (RX3, TX3, 2), (RX4, TX4, 4), (RX5, TX5, 2), (RX6, TX6, 2), (RX7, TX7, 7), (RX8, TX8, 5), (RX9, TX9, 8), (RX10, TX10, 25)]
end
section
theorem dX0_init_0 : decode cX0_init 0 = .ok (.aload_n 0, 1) := by decide +kernel
theorem dX0_init_1 : decode cX0_init 1 = .ok (.invokespecial 3, 3) := by decide +kernel
theorem dX0_init_4 : decode cX0_init 4 = .ok (.aload_n 0, 1) := by decide +kernel
theorem dX0_init_5 : decode cX0_init 5 = .ok (.bipush 6, 2) := by decide +kernel
theorem dX0_init_7 : decode cX0_init 7 = .ok (.bipush 60, 2) := by decide +kernel
theorem dX0_init_9 : decode cX0_init 9 = .ok (.multianewarray 9 2, 4) := by decide +kernel
theorem dX0_init_13 : decode cX0_init 13 = .ok (.putfield 11, 3) := by decide +kernel
theorem dX0_init_16 : decode cX0_init 16 = .ok (.aload_n 0, 1) := by decide +kernel
theorem dX0_init_17 : decode cX0_init 17 = .ok (.bipush 6, 2) := by decide +kernel
theorem dX0_init_19 : decode cX0_init 19 = .ok (.bipush 60, 2) := by decide +kernel
theorem dX0_init_21 : decode cX0_init 21 = .ok (.multianewarray 9 2, 4) := by decide +kernel
theorem dX0_init_25 : decode cX0_init 25 = .ok (.putfield 16, 3) := by decide +kernel
theorem dX0_init_28 : decode cX0_init 28 = .ok (.aload_n 0, 1) := by decide +kernel
theorem dX0_init_29 : decode cX0_init 29 = .ok (.bipush 6, 2) := by decide +kernel
theorem dX0_init_31 : decode cX0_init 31 = .ok (.bipush 60, 2) := by decide +kernel
theorem dX0_init_33 : decode cX0_init 33 = .ok (.multianewarray 9 2, 4) := by decide +kernel
theorem dX0_init_37 : decode cX0_init 37 = .ok (.putfield 19, 3) := by decide +kernel
theorem dX0_init_40 : decode cX0_init 40 = .ok (.aload_n 0, 1) := by decide +kernel
theorem dX0_init_41 : decode cX0_init 41 = .ok (.bipush 6, 2) := by decide +kernel
theorem dX0_init_43 : decode cX0_init 43 = .ok (.newarray .int, 2) := by decide +kernel
theorem dX0_init_45 : decode cX0_init 45 = .ok (.putfield 22, 3) := by decide +kernel
theorem dX0_init_48 : decode cX0_init 48 = .ok (.return_, 1) := by decide +kernel
theorem dX0_measure_0 : decode cX0_measure 0 = .ok (.iconst 0, 1) := by decide +kernel
theorem dX0_measure_1 : decode cX0_measure 1 = .ok (.istore 5, 2) := by decide +kernel
theorem dX0_measure_3 : decode cX0_measure 3 = .ok (.iload 5, 2) := by decide +kernel
theorem dX0_measure_5 : decode cX0_measure 5 = .ok (.aload_n 1, 1) := by decide +kernel
theorem dX0_measure_6 : decode cX0_measure 6 = .ok (.getfield 26, 3) := by decide +kernel
theorem dX0_measure_9 : decode cX0_measure 9 = .ok (.if_icmp .ge 76, 3) := by decide +kernel
theorem dX0_measure_12 : decode cX0_measure 12 = .ok (.iconst 0, 1) := by decide +kernel
theorem dX0_measure_13 : decode cX0_measure 13 = .ok (.istore 6, 2) := by decide +kernel
theorem dX0_measure_15 : decode cX0_measure 15 = .ok (.iload 6, 2) := by decide +kernel
theorem dX0_measure_17 : decode cX0_measure 17 = .ok (.aload_n 2, 1) := by decide +kernel
theorem dX0_measure_18 : decode cX0_measure 18 = .ok (.getfield 32, 3) := by decide +kernel
theorem dX0_measure_21 : decode cX0_measure 21 = .ok (.if_icmp .ge 58, 3) := by decide +kernel
theorem dX0_measure_24 : decode cX0_measure 24 = .ok (.aload_n 3, 1) := by decide +kernel
theorem dX0_measure_25 : decode cX0_measure 25 = .ok (.aload_n 1, 1) := by decide +kernel
theorem dX0_measure_26 : decode cX0_measure 26 = .ok (.getfield 35, 3) := by decide +kernel
theorem dX0_measure_29 : decode cX0_measure 29 = .ok (.iload 5, 2) := by decide +kernel
theorem dX0_measure_31 : decode cX0_measure 31 = .ok (.aaload, 1) := by decide +kernel
theorem dX0_measure_32 : decode cX0_measure 32 = .ok (.aload_n 2, 1) := by decide +kernel
theorem dX0_measure_33 : decode cX0_measure 33 = .ok (.getfield 39, 3) := by decide +kernel
theorem dX0_measure_36 : decode cX0_measure 36 = .ok (.aload_n 2, 1) := by decide +kernel
theorem dX0_measure_37 : decode cX0_measure 37 = .ok (.getfield 40, 3) := by decide +kernel
theorem dX0_measure_40 : decode cX0_measure 40 = .ok (.iload 6, 2) := by decide +kernel
theorem dX0_measure_42 : decode cX0_measure 42 = .ok (.iaload, 1) := by decide +kernel
theorem dX0_measure_43 : decode cX0_measure 43 = .ok (.aaload, 1) := by decide +kernel
theorem dX0_measure_44 : decode cX0_measure 44 = .ok (.invokevirtual 43, 3) := by decide +kernel
theorem dX0_measure_47 : decode cX0_measure 47 = .ok (.istore 7, 2) := by decide +kernel
theorem dX0_measure_49 : decode cX0_measure 49 = .ok (.aload_n 0, 1) := by decide +kernel
theorem dX0_measure_50 : decode cX0_measure 50 = .ok (.getfield 11, 3) := by decide +kernel
theorem dX0_measure_53 : decode cX0_measure 53 = .ok (.iload 5, 2) := by decide +kernel
theorem dX0_measure_55 : decode cX0_measure 55 = .ok (.aaload, 1) := by decide +kernel
theorem dX0_measure_56 : decode cX0_measure 56 = .ok (.iload 6, 2) := by decide +kernel
theorem dX0_measure_58 : decode cX0_measure 58 = .ok (.iload 7, 2) := by decide +kernel
theorem dX0_measure_60 : decode cX0_measure 60 = .ok (.iload 4, 2) := by decide +kernel
theorem dX0_measure_62 : decode cX0_measure 62 = .ok (.if_icmp .gt 8, 3) := by decide +kernel
theorem dX0_measure_65 : decode cX0_measure 65 = .ok (.iload 7, 2) := by decide +kernel
theorem dX0_measure_67 : decode cX0_measure 67 = .ok (.goto 5, 3) := by decide +kernel
theorem dX0_measure_70 : decode cX0_measure 70 = .ok (.ldc 49, 2) := by decide +kernel
theorem dX0_measure_72 : decode cX0_measure 72 = .ok (.iastore, 1) := by decide +kernel
theorem dX0_measure_73 : decode cX0_measure 73 = .ok (.iinc 6 1, 3) := by decide +kernel
theorem dX0_measure_76 : decode cX0_measure 76 = .ok (.goto (-61), 3) := by decide +kernel
theorem dX0_measure_79 : decode cX0_measure 79 = .ok (.iinc 5 1, 3) := by decide +kernel
theorem dX0_measure_82 : decode cX0_measure 82 = .ok (.goto (-79), 3) := by decide +kernel
theorem dX0_measure_85 : decode cX0_measure 85 = .ok (.return_, 1) := by decide +kernel
theorem dX0_choose_0 : decode cX0_choose 0 = .ok (.iload_n 1, 1) := by decide +kernel
theorem dX0_choose_1 : decode cX0_choose 1 = .ok (.iconst 1, 1) := by decide +kernel
theorem dX0_choose_2 : decode cX0_choose 2 = .ok (.if_icmp .lt 11, 3) := by decide +kernel
theorem dX0_choose_5 : decode cX0_choose 5 = .ok (.aload_n 2, 1) := by decide +kernel
theorem dX0_choose_6 : decode cX0_choose 6 = .ok (.getfield 32, 3) := by decide +kernel
theorem dX0_choose_9 : decode cX0_choose 9 = .ok (.iconst 1, 1) := by decide +kernel
theorem dX0_choose_10 : decode cX0_choose 10 = .ok (.if_icmp .ge 6, 3) := by decide +kernel
theorem dX0_choose_13 : decode cX0_choose 13 = .ok (.ldc 49, 2) := by decide +kernel
theorem dX0_choose_15 : decode cX0_choose 15 = .ok (.ireturn, 1) := by decide +kernel
theorem dX0_choose_16 : decode cX0_choose 16 = .ok (.iload_n 1, 1) := by decide +kernel
theorem dX0_choose_17 : decode cX0_choose 17 = .ok (.iconst 1, 1) := by decide +kernel
theorem dX0_choose_18 : decode cX0_choose 18 = .ok (.isub, 1) := by decide +kernel
theorem dX0_choose_19 : decode cX0_choose 19 = .ok (.istore 4, 2) := by decide +kernel
theorem dX0_choose_21 : decode cX0_choose 21 = .ok (.iload 4, 2) := by decide +kernel
theorem dX0_choose_23 : decode cX0_choose 23 = .ok (.ifCond .lt 80, 3) := by decide +kernel
theorem dX0_choose_26 : decode cX0_choose 26 = .ok (.iconst 0, 1) := by decide +kernel
theorem dX0_choose_27 : decode cX0_choose 27 = .ok (.istore 5, 2) := by decide +kernel
theorem dX0_choose_29 : decode cX0_choose 29 = .ok (.iload 5, 2) := by decide +kernel
theorem dX0_choose_31 : decode cX0_choose 31 = .ok (.aload_n 2, 1) := by decide +kernel
theorem dX0_choose_32 : decode cX0_choose 32 = .ok (.getfield 32, 3) := by decide +kernel
theorem dX0_choose_35 : decode cX0_choose 35 = .ok (.if_icmp .ge 62, 3) := by decide +kernel
theorem dX0_choose_38 : decode cX0_choose 38 = .ok (.aload_n 0, 1) := by decide +kernel
theorem dX0_choose_39 : decode cX0_choose 39 = .ok (.getfield 16, 3) := by decide +kernel
theorem dX0_choose_42 : decode cX0_choose 42 = .ok (.iload 4, 2) := by decide +kernel
theorem dX0_choose_44 : decode cX0_choose 44 = .ok (.aaload, 1) := by decide +kernel
theorem dX0_choose_45 : decode cX0_choose 45 = .ok (.iload 5, 2) := by decide +kernel
theorem dX0_choose_47 : decode cX0_choose 47 = .ok (.aload_n 0, 1) := by decide +kernel
theorem dX0_choose_48 : decode cX0_choose 48 = .ok (.getfield 11, 3) := by decide +kernel
theorem dX0_choose_51 : decode cX0_choose 51 = .ok (.iload 4, 2) := by decide +kernel
theorem dX0_choose_53 : decode cX0_choose 53 = .ok (.aaload, 1) := by decide +kernel
theorem dX0_choose_54 : decode cX0_choose 54 = .ok (.iload 5, 2) := by decide +kernel
theorem dX0_choose_56 : decode cX0_choose 56 = .ok (.iaload, 1) := by decide +kernel
theorem dX0_choose_57 : decode cX0_choose 57 = .ok (.iastore, 1) := by decide +kernel
theorem dX0_choose_58 : decode cX0_choose 58 = .ok (.aload_n 0, 1) := by decide +kernel
theorem dX0_choose_59 : decode cX0_choose 59 = .ok (.getfield 16, 3) := by decide +kernel
theorem dX0_choose_62 : decode cX0_choose 62 = .ok (.iload 4, 2) := by decide +kernel
theorem dX0_choose_64 : decode cX0_choose 64 = .ok (.aaload, 1) := by decide +kernel
theorem dX0_choose_65 : decode cX0_choose 65 = .ok (.iload 5, 2) := by decide +kernel
theorem dX0_choose_67 : decode cX0_choose 67 = .ok (.iaload, 1) := by decide +kernel
theorem dX0_choose_68 : decode cX0_choose 68 = .ok (.ldc 49, 2) := by decide +kernel
theorem dX0_choose_70 : decode cX0_choose 70 = .ok (.if_icmp .ge 21, 3) := by decide +kernel
theorem dX0_choose_73 : decode cX0_choose 73 = .ok (.iload 4, 2) := by decide +kernel
theorem dX0_choose_75 : decode cX0_choose 75 = .ok (.iconst 1, 1) := by decide +kernel
theorem dX0_choose_76 : decode cX0_choose 76 = .ok (.iadd, 1) := by decide +kernel
theorem dX0_choose_77 : decode cX0_choose 77 = .ok (.iload_n 1, 1) := by decide +kernel
theorem dX0_choose_78 : decode cX0_choose 78 = .ok (.if_icmp .ge 13, 3) := by decide +kernel
theorem dX0_choose_81 : decode cX0_choose 81 = .ok (.aload_n 0, 1) := by decide +kernel
theorem dX0_choose_82 : decode cX0_choose 82 = .ok (.iload 4, 2) := by decide +kernel
theorem dX0_choose_84 : decode cX0_choose 84 = .ok (.iload 5, 2) := by decide +kernel
theorem dX0_choose_86 : decode cX0_choose 86 = .ok (.aload_n 2, 1) := by decide +kernel
theorem dX0_choose_87 : decode cX0_choose 87 = .ok (.iload_n 3, 1) := by decide +kernel
theorem dX0_choose_88 : decode cX0_choose 88 = .ok (.invokevirtual 50, 3) := by decide +kernel
theorem dX0_choose_91 : decode cX0_choose 91 = .ok (.iinc 5 1, 3) := by decide +kernel
theorem dX0_choose_94 : decode cX0_choose 94 = .ok (.goto (-65), 3) := by decide +kernel
theorem dX0_choose_97 : decode cX0_choose 97 = .ok (.iinc 4 (-1), 3) := by decide +kernel
theorem dX0_choose_100 : decode cX0_choose 100 = .ok (.goto (-79), 3) := by decide +kernel
theorem dX0_choose_103 : decode cX0_choose 103 = .ok (.aload_n 0, 1) := by decide +kernel
theorem dX0_choose_104 : decode cX0_choose 104 = .ok (.aload_n 2, 1) := by decide +kernel
theorem dX0_choose_105 : decode cX0_choose 105 = .ok (.getfield 32, 3) := by decide +kernel
theorem dX0_choose_108 : decode cX0_choose 108 = .ok (.invokevirtual 54, 3) := by decide +kernel
theorem dX0_choose_111 : decode cX0_choose 111 = .ok (.istore 4, 2) := by decide +kernel
theorem dX0_choose_113 : decode cX0_choose 113 = .ok (.aload_n 0, 1) := by decide +kernel
theorem dX0_choose_114 : decode cX0_choose 114 = .ok (.getfield 16, 3) := by decide +kernel
theorem dX0_choose_117 : decode cX0_choose 117 = .ok (.iconst 0, 1) := by decide +kernel
theorem dX0_choose_118 : decode cX0_choose 118 = .ok (.aaload, 1) := by decide +kernel
theorem dX0_choose_119 : decode cX0_choose 119 = .ok (.iload 4, 2) := by decide +kernel
theorem dX0_choose_121 : decode cX0_choose 121 = .ok (.iaload, 1) := by decide +kernel
theorem dX0_choose_122 : decode cX0_choose 122 = .ok (.ldc 49, 2) := by decide +kernel
theorem dX0_choose_124 : decode cX0_choose 124 = .ok (.if_icmp .ge 11, 3) := by decide +kernel
theorem dX0_choose_127 : decode cX0_choose 127 = .ok (.aload_n 0, 1) := by decide +kernel
theorem dX0_choose_128 : decode cX0_choose 128 = .ok (.iload 4, 2) := by decide +kernel
theorem dX0_choose_130 : decode cX0_choose 130 = .ok (.iload_n 1, 1) := by decide +kernel
theorem dX0_choose_131 : decode cX0_choose 131 = .ok (.aload_n 2, 1) := by decide +kernel
theorem dX0_choose_132 : decode cX0_choose 132 = .ok (.invokevirtual 58, 3) := by decide +kernel
theorem dX0_choose_135 : decode cX0_choose 135 = .ok (.aload_n 0, 1) := by decide +kernel
theorem dX0_choose_136 : decode cX0_choose 136 = .ok (.getfield 16, 3) := by decide +kernel
theorem dX0_choose_139 : decode cX0_choose 139 = .ok (.iconst 0, 1) := by decide +kernel
theorem dX0_choose_140 : decode cX0_choose 140 = .ok (.aaload, 1) := by decide +kernel
theorem dX0_choose_141 : decode cX0_choose 141 = .ok (.iload 4, 2) := by decide +kernel
theorem dX0_choose_143 : decode cX0_choose 143 = .ok (.iaload, 1) := by decide +kernel
theorem dX0_choose_144 : decode cX0_choose 144 = .ok (.ireturn, 1) := by decide +kernel
theorem dX0_goOn_0 : decode cX0_goOn 0 = .ok (.ldc 64, 2) := by decide +kernel
theorem dX0_goOn_2 : decode cX0_goOn 2 = .ok (.istore 5, 2) := by decide +kernel
theorem dX0_goOn_4 : decode cX0_goOn 4 = .ok (.iconst 0, 1) := by decide +kernel
theorem dX0_goOn_5 : decode cX0_goOn 5 = .ok (.istore 6, 2) := by decide +kernel
theorem dX0_goOn_7 : decode cX0_goOn 7 = .ok (.iload 6, 2) := by decide +kernel
theorem dX0_goOn_9 : decode cX0_goOn 9 = .ok (.aload_n 3, 1) := by decide +kernel
theorem dX0_goOn_10 : decode cX0_goOn 10 = .ok (.getfield 32, 3) := by decide +kernel
theorem dX0_goOn_13 : decode cX0_goOn 13 = .ok (.if_icmp .ge 74, 3) := by decide +kernel
theorem dX0_goOn_16 : decode cX0_goOn 16 = .ok (.aload_n 3, 1) := by decide +kernel
theorem dX0_goOn_17 : decode cX0_goOn 17 = .ok (.aload_n 3, 1) := by decide +kernel
theorem dX0_goOn_18 : decode cX0_goOn 18 = .ok (.getfield 40, 3) := by decide +kernel
theorem dX0_goOn_21 : decode cX0_goOn 21 = .ok (.iload_n 2, 1) := by decide +kernel
theorem dX0_goOn_22 : decode cX0_goOn 22 = .ok (.iaload, 1) := by decide +kernel
theorem dX0_goOn_23 : decode cX0_goOn 23 = .ok (.aload_n 3, 1) := by decide +kernel
theorem dX0_goOn_24 : decode cX0_goOn 24 = .ok (.getfield 40, 3) := by decide +kernel
theorem dX0_goOn_27 : decode cX0_goOn 27 = .ok (.iload 6, 2) := by decide +kernel
theorem dX0_goOn_29 : decode cX0_goOn 29 = .ok (.iaload, 1) := by decide +kernel
theorem dX0_goOn_30 : decode cX0_goOn 30 = .ok (.invokevirtual 65, 3) := by decide +kernel
theorem dX0_goOn_33 : decode cX0_goOn 33 = .ok (.istore 7, 2) := by decide +kernel
theorem dX0_goOn_35 : decode cX0_goOn 35 = .ok (.aload_n 0, 1) := by decide +kernel
theorem dX0_goOn_36 : decode cX0_goOn 36 = .ok (.getfield 16, 3) := by decide +kernel
theorem dX0_goOn_39 : decode cX0_goOn 39 = .ok (.iload_n 1, 1) := by decide +kernel
theorem dX0_goOn_40 : decode cX0_goOn 40 = .ok (.iconst 1, 1) := by decide +kernel
theorem dX0_goOn_41 : decode cX0_goOn 41 = .ok (.iadd, 1) := by decide +kernel
theorem dX0_goOn_42 : decode cX0_goOn 42 = .ok (.aaload, 1) := by decide +kernel
theorem dX0_goOn_43 : decode cX0_goOn 43 = .ok (.iload 6, 2) := by decide +kernel
theorem dX0_goOn_45 : decode cX0_goOn 45 = .ok (.iaload, 1) := by decide +kernel
theorem dX0_goOn_46 : decode cX0_goOn 46 = .ok (.iload 7, 2) := by decide +kernel
theorem dX0_goOn_48 : decode cX0_goOn 48 = .ok (.ifCond .eq 7, 3) := by decide +kernel
theorem dX0_goOn_51 : decode cX0_goOn 51 = .ok (.iconst 0, 1) := by decide +kernel
theorem dX0_goOn_52 : decode cX0_goOn 52 = .ok (.goto 5, 3) := by decide +kernel
theorem dX0_goOn_55 : decode cX0_goOn 55 = .ok (.iload 4, 2) := by decide +kernel
theorem dX0_goOn_57 : decode cX0_goOn 57 = .ok (.iadd, 1) := by decide +kernel
theorem dX0_goOn_58 : decode cX0_goOn 58 = .ok (.istore 8, 2) := by decide +kernel
theorem dX0_goOn_60 : decode cX0_goOn 60 = .ok (.iload 8, 2) := by decide +kernel
theorem dX0_goOn_62 : decode cX0_goOn 62 = .ok (.iload 5, 2) := by decide +kernel
theorem dX0_goOn_64 : decode cX0_goOn 64 = .ok (.if_icmp .ge 17, 3) := by decide +kernel
theorem dX0_goOn_67 : decode cX0_goOn 67 = .ok (.iload 8, 2) := by decide +kernel
theorem dX0_goOn_69 : decode cX0_goOn 69 = .ok (.istore 5, 2) := by decide +kernel
theorem dX0_goOn_71 : decode cX0_goOn 71 = .ok (.aload_n 0, 1) := by decide +kernel
theorem dX0_goOn_72 : decode cX0_goOn 72 = .ok (.getfield 19, 3) := by decide +kernel
theorem dX0_goOn_75 : decode cX0_goOn 75 = .ok (.iload_n 1, 1) := by decide +kernel
theorem dX0_goOn_76 : decode cX0_goOn 76 = .ok (.aaload, 1) := by decide +kernel
theorem dX0_goOn_77 : decode cX0_goOn 77 = .ok (.iload_n 2, 1) := by decide +kernel
theorem dX0_goOn_78 : decode cX0_goOn 78 = .ok (.iload 6, 2) := by decide +kernel
theorem dX0_goOn_80 : decode cX0_goOn 80 = .ok (.iastore, 1) := by decide +kernel
theorem dX0_goOn_81 : decode cX0_goOn 81 = .ok (.iinc 6 1, 3) := by decide +kernel
theorem dX0_goOn_84 : decode cX0_goOn 84 = .ok (.goto (-77), 3) := by decide +kernel
theorem dX0_goOn_87 : decode cX0_goOn 87 = .ok (.aload_n 0, 1) := by decide +kernel
theorem dX0_goOn_88 : decode cX0_goOn 88 = .ok (.getfield 16, 3) := by decide +kernel
theorem dX0_goOn_91 : decode cX0_goOn 91 = .ok (.iload_n 1, 1) := by decide +kernel
theorem dX0_goOn_92 : decode cX0_goOn 92 = .ok (.aaload, 1) := by decide +kernel
theorem dX0_goOn_93 : decode cX0_goOn 93 = .ok (.iload_n 2, 1) := by decide +kernel
theorem dX0_goOn_94 : decode cX0_goOn 94 = .ok (.dup2, 1) := by decide +kernel
theorem dX0_goOn_95 : decode cX0_goOn 95 = .ok (.iaload, 1) := by decide +kernel
theorem dX0_goOn_96 : decode cX0_goOn 96 = .ok (.iload 5, 2) := by decide +kernel
theorem dX0_goOn_98 : decode cX0_goOn 98 = .ok (.iadd, 1) := by decide +kernel
theorem dX0_goOn_99 : decode cX0_goOn 99 = .ok (.iastore, 1) := by decide +kernel
theorem dX0_goOn_100 : decode cX0_goOn 100 = .ok (.return_, 1) := by decide +kernel
theorem dX0_cheapestFirst_0 : decode cX0_cheapestFirst 0 = .ok (.iconst 0, 1) := by decide +kernel
theorem dX0_cheapestFirst_1 : decode cX0_cheapestFirst 1 = .ok (.istore_n 2, 1) := by decide +kernel
theorem dX0_cheapestFirst_2 : decode cX0_cheapestFirst 2 = .ok (.iconst 1, 1) := by decide +kernel
theorem dX0_cheapestFirst_3 : decode cX0_cheapestFirst 3 = .ok (.istore_n 3, 1) := by decide +kernel
theorem dX0_cheapestFirst_4 : decode cX0_cheapestFirst 4 = .ok (.iload_n 3, 1) := by decide +kernel
theorem dX0_cheapestFirst_5 : decode cX0_cheapestFirst 5 = .ok (.iload_n 1, 1) := by decide +kernel
theorem dX0_cheapestFirst_6 : decode cX0_cheapestFirst 6 = .ok (.if_icmp .ge 30, 3) := by decide +kernel
theorem dX0_cheapestFirst_9 : decode cX0_cheapestFirst 9 = .ok (.aload_n 0, 1) := by decide +kernel
theorem dX0_cheapestFirst_10 : decode cX0_cheapestFirst 10 = .ok (.getfield 16, 3) := by decide +kernel
theorem dX0_cheapestFirst_13 : decode cX0_cheapestFirst 13 = .ok (.iconst 0, 1) := by decide +kernel
theorem dX0_cheapestFirst_14 : decode cX0_cheapestFirst 14 = .ok (.aaload, 1) := by decide +kernel
theorem dX0_cheapestFirst_15 : decode cX0_cheapestFirst 15 = .ok (.iload_n 3, 1) := by decide +kernel
theorem dX0_cheapestFirst_16 : decode cX0_cheapestFirst 16 = .ok (.iaload, 1) := by decide +kernel
theorem dX0_cheapestFirst_17 : decode cX0_cheapestFirst 17 = .ok (.aload_n 0, 1) := by decide +kernel
theorem dX0_cheapestFirst_18 : decode cX0_cheapestFirst 18 = .ok (.getfield 16, 3) := by decide +kernel
theorem dX0_cheapestFirst_21 : decode cX0_cheapestFirst 21 = .ok (.iconst 0, 1) := by decide +kernel
theorem dX0_cheapestFirst_22 : decode cX0_cheapestFirst 22 = .ok (.aaload, 1) := by decide +kernel
theorem dX0_cheapestFirst_23 : decode cX0_cheapestFirst 23 = .ok (.iload_n 2, 1) := by decide +kernel
theorem dX0_cheapestFirst_24 : decode cX0_cheapestFirst 24 = .ok (.iaload, 1) := by decide +kernel
theorem dX0_cheapestFirst_25 : decode cX0_cheapestFirst 25 = .ok (.if_icmp .ge 5, 3) := by decide +kernel
theorem dX0_cheapestFirst_28 : decode cX0_cheapestFirst 28 = .ok (.iload_n 3, 1) := by decide +kernel
theorem dX0_cheapestFirst_29 : decode cX0_cheapestFirst 29 = .ok (.istore_n 2, 1) := by decide +kernel
theorem dX0_cheapestFirst_30 : decode cX0_cheapestFirst 30 = .ok (.iinc 3 1, 3) := by decide +kernel
theorem dX0_cheapestFirst_33 : decode cX0_cheapestFirst 33 = .ok (.goto (-29), 3) := by decide +kernel
theorem dX0_cheapestFirst_36 : decode cX0_cheapestFirst 36 = .ok (.iload_n 2, 1) := by decide +kernel
theorem dX0_cheapestFirst_37 : decode cX0_cheapestFirst 37 = .ok (.ireturn, 1) := by decide +kernel
theorem dX0_keepRow_0 : decode cX0_keepRow 0 = .ok (.iload_n 1, 1) := by decide +kernel
theorem dX0_keepRow_1 : decode cX0_keepRow 1 = .ok (.istore 4, 2) := by decide +kernel
theorem dX0_keepRow_3 : decode cX0_keepRow 3 = .ok (.aload_n 0, 1) := by decide +kernel
theorem dX0_keepRow_4 : decode cX0_keepRow 4 = .ok (.getfield 22, 3) := by decide +kernel
theorem dX0_keepRow_7 : decode cX0_keepRow 7 = .ok (.iconst 0, 1) := by decide +kernel
theorem dX0_keepRow_8 : decode cX0_keepRow 8 = .ok (.aload_n 3, 1) := by decide +kernel
theorem dX0_keepRow_9 : decode cX0_keepRow 9 = .ok (.getfield 40, 3) := by decide +kernel
theorem dX0_keepRow_12 : decode cX0_keepRow 12 = .ok (.iload 4, 2) := by decide +kernel
theorem dX0_keepRow_14 : decode cX0_keepRow 14 = .ok (.iaload, 1) := by decide +kernel
theorem dX0_keepRow_15 : decode cX0_keepRow 15 = .ok (.iastore, 1) := by decide +kernel
theorem dX0_keepRow_16 : decode cX0_keepRow 16 = .ok (.iconst 1, 1) := by decide +kernel
theorem dX0_keepRow_17 : decode cX0_keepRow 17 = .ok (.istore 5, 2) := by decide +kernel
theorem dX0_keepRow_19 : decode cX0_keepRow 19 = .ok (.iload 5, 2) := by decide +kernel
theorem dX0_keepRow_21 : decode cX0_keepRow 21 = .ok (.iload_n 2, 1) := by decide +kernel
theorem dX0_keepRow_22 : decode cX0_keepRow 22 = .ok (.if_icmp .ge 37, 3) := by decide +kernel
theorem dX0_keepRow_25 : decode cX0_keepRow 25 = .ok (.aload_n 0, 1) := by decide +kernel
theorem dX0_keepRow_26 : decode cX0_keepRow 26 = .ok (.getfield 19, 3) := by decide +kernel
theorem dX0_keepRow_29 : decode cX0_keepRow 29 = .ok (.iload 5, 2) := by decide +kernel
theorem dX0_keepRow_31 : decode cX0_keepRow 31 = .ok (.iconst 1, 1) := by decide +kernel
theorem dX0_keepRow_32 : decode cX0_keepRow 32 = .ok (.isub, 1) := by decide +kernel
theorem dX0_keepRow_33 : decode cX0_keepRow 33 = .ok (.aaload, 1) := by decide +kernel
theorem dX0_keepRow_34 : decode cX0_keepRow 34 = .ok (.iload 4, 2) := by decide +kernel
theorem dX0_keepRow_36 : decode cX0_keepRow 36 = .ok (.iaload, 1) := by decide +kernel
theorem dX0_keepRow_37 : decode cX0_keepRow 37 = .ok (.istore 4, 2) := by decide +kernel
theorem dX0_keepRow_39 : decode cX0_keepRow 39 = .ok (.aload_n 0, 1) := by decide +kernel
theorem dX0_keepRow_40 : decode cX0_keepRow 40 = .ok (.getfield 22, 3) := by decide +kernel
theorem dX0_keepRow_43 : decode cX0_keepRow 43 = .ok (.iload 5, 2) := by decide +kernel
theorem dX0_keepRow_45 : decode cX0_keepRow 45 = .ok (.aload_n 3, 1) := by decide +kernel
theorem dX0_keepRow_46 : decode cX0_keepRow 46 = .ok (.getfield 40, 3) := by decide +kernel
theorem dX0_keepRow_49 : decode cX0_keepRow 49 = .ok (.iload 4, 2) := by decide +kernel
theorem dX0_keepRow_51 : decode cX0_keepRow 51 = .ok (.iaload, 1) := by decide +kernel
theorem dX0_keepRow_52 : decode cX0_keepRow 52 = .ok (.iastore, 1) := by decide +kernel
theorem dX0_keepRow_53 : decode cX0_keepRow 53 = .ok (.iinc 5 1, 3) := by decide +kernel
theorem dX0_keepRow_56 : decode cX0_keepRow 56 = .ok (.goto (-37), 3) := by decide +kernel
theorem dX0_keepRow_59 : decode cX0_keepRow 59 = .ok (.return_, 1) := by decide +kernel
theorem dX1_init_0 : decode cX1_init 0 = .ok (.aload_n 0, 1) := by decide +kernel
theorem dX1_init_1 : decode cX1_init 1 = .ok (.invokespecial 3, 3) := by decide +kernel
theorem dX1_init_4 : decode cX1_init 4 = .ok (.aload_n 0, 1) := by decide +kernel
theorem dX1_init_5 : decode cX1_init 5 = .ok (.bipush 6, 2) := by decide +kernel
theorem dX1_init_7 : decode cX1_init 7 = .ok (.anewarray 9, 3) := by decide +kernel
theorem dX1_init_10 : decode cX1_init 10 = .ok (.putfield 11, 3) := by decide +kernel
theorem dX1_init_13 : decode cX1_init 13 = .ok (.aload_n 0, 1) := by decide +kernel
theorem dX1_init_14 : decode cX1_init 14 = .ok (.iconst 0, 1) := by decide +kernel
theorem dX1_init_15 : decode cX1_init 15 = .ok (.putfield 17, 3) := by decide +kernel
theorem dX1_init_18 : decode cX1_init 18 = .ok (.iconst 0, 1) := by decide +kernel
theorem dX1_init_19 : decode cX1_init 19 = .ok (.istore_n 1, 1) := by decide +kernel
theorem dX1_init_20 : decode cX1_init 20 = .ok (.iload_n 1, 1) := by decide +kernel
theorem dX1_init_21 : decode cX1_init 21 = .ok (.bipush 6, 2) := by decide +kernel
theorem dX1_init_23 : decode cX1_init 23 = .ok (.if_icmp .ge 22, 3) := by decide +kernel
theorem dX1_init_26 : decode cX1_init 26 = .ok (.aload_n 0, 1) := by decide +kernel
theorem dX1_init_27 : decode cX1_init 27 = .ok (.getfield 11, 3) := by decide +kernel
theorem dX1_init_30 : decode cX1_init 30 = .ok (.iload_n 1, 1) := by decide +kernel
theorem dX1_init_31 : decode cX1_init 31 = .ok (.new 9, 3) := by decide +kernel
theorem dX1_init_34 : decode cX1_init 34 = .ok (.dup, 1) := by decide +kernel
theorem dX1_init_35 : decode cX1_init 35 = .ok (.invokespecial 21, 3) := by decide +kernel
theorem dX1_init_38 : decode cX1_init 38 = .ok (.aastore, 1) := by decide +kernel
theorem dX1_init_39 : decode cX1_init 39 = .ok (.iinc 1 1, 3) := by decide +kernel
theorem dX1_init_42 : decode cX1_init 42 = .ok (.goto (-22), 3) := by decide +kernel
theorem dX1_init_45 : decode cX1_init 45 = .ok (.return_, 1) := by decide +kernel
theorem dX1_add_0 : decode cX1_add 0 = .ok (.aload_n 0, 1) := by decide +kernel
theorem dX1_add_1 : decode cX1_add 1 = .ok (.getfield 17, 3) := by decide +kernel
theorem dX1_add_4 : decode cX1_add 4 = .ok (.bipush 6, 2) := by decide +kernel
theorem dX1_add_6 : decode cX1_add 6 = .ok (.if_icmp .lt 5, 3) := by decide +kernel
theorem dX1_add_9 : decode cX1_add 9 = .ok (.iconst 0, 1) := by decide +kernel
theorem dX1_add_10 : decode cX1_add 10 = .ok (.ireturn, 1) := by decide +kernel
theorem dX1_add_11 : decode cX1_add 11 = .ok (.aload_n 0, 1) := by decide +kernel
theorem dX1_add_12 : decode cX1_add 12 = .ok (.getfield 11, 3) := by decide +kernel
theorem dX1_add_15 : decode cX1_add 15 = .ok (.aload_n 0, 1) := by decide +kernel
theorem dX1_add_16 : decode cX1_add 16 = .ok (.getfield 17, 3) := by decide +kernel
theorem dX1_add_19 : decode cX1_add 19 = .ok (.aaload, 1) := by decide +kernel
theorem dX1_add_20 : decode cX1_add 20 = .ok (.aload_n 1, 1) := by decide +kernel
theorem dX1_add_21 : decode cX1_add 21 = .ok (.invokevirtual 22, 3) := by decide +kernel
theorem dX1_add_24 : decode cX1_add 24 = .ok (.aload_n 0, 1) := by decide +kernel
theorem dX1_add_25 : decode cX1_add 25 = .ok (.dup, 1) := by decide +kernel
theorem dX1_add_26 : decode cX1_add 26 = .ok (.getfield 17, 3) := by decide +kernel
theorem dX1_add_29 : decode cX1_add 29 = .ok (.iconst 1, 1) := by decide +kernel
theorem dX1_add_30 : decode cX1_add 30 = .ok (.iadd, 1) := by decide +kernel
theorem dX1_add_31 : decode cX1_add 31 = .ok (.putfield 17, 3) := by decide +kernel
theorem dX1_add_34 : decode cX1_add 34 = .ok (.iconst 1, 1) := by decide +kernel
theorem dX1_add_35 : decode cX1_add 35 = .ok (.ireturn, 1) := by decide +kernel
theorem dX2_init_0 : decode cX2_init 0 = .ok (.aload_n 0, 1) := by decide +kernel
theorem dX2_init_1 : decode cX2_init 1 = .ok (.invokespecial 3, 3) := by decide +kernel
theorem dX2_init_4 : decode cX2_init 4 = .ok (.aload_n 0, 1) := by decide +kernel
theorem dX2_init_5 : decode cX2_init 5 = .ok (.new 9, 3) := by decide +kernel
theorem dX2_init_8 : decode cX2_init 8 = .ok (.dup, 1) := by decide +kernel
theorem dX2_init_9 : decode cX2_init 9 = .ok (.invokespecial 11, 3) := by decide +kernel
theorem dX2_init_12 : decode cX2_init 12 = .ok (.putfield 12, 3) := by decide +kernel
theorem dX2_init_15 : decode cX2_init 15 = .ok (.aload_n 0, 1) := by decide +kernel
theorem dX2_init_16 : decode cX2_init 16 = .ok (.new 9, 3) := by decide +kernel
theorem dX2_init_19 : decode cX2_init 19 = .ok (.dup, 1) := by decide +kernel
theorem dX2_init_20 : decode cX2_init 20 = .ok (.invokespecial 11, 3) := by decide +kernel
theorem dX2_init_23 : decode cX2_init 23 = .ok (.putfield 18, 3) := by decide +kernel
theorem dX2_init_26 : decode cX2_init 26 = .ok (.aload_n 0, 1) := by decide +kernel
theorem dX2_init_27 : decode cX2_init 27 = .ok (.ldc 21, 2) := by decide +kernel
theorem dX2_init_29 : decode cX2_init 29 = .ok (.putfield 22, 3) := by decide +kernel
theorem dX2_init_32 : decode cX2_init 32 = .ok (.aload_n 0, 1) := by decide +kernel
theorem dX2_init_33 : decode cX2_init 33 = .ok (.iconst 0, 1) := by decide +kernel
theorem dX2_init_34 : decode cX2_init 34 = .ok (.putfield 26, 3) := by decide +kernel
theorem dX2_init_37 : decode cX2_init 37 = .ok (.aload_n 0, 1) := by decide +kernel
theorem dX2_init_38 : decode cX2_init 38 = .ok (.iconst 0, 1) := by decide +kernel
theorem dX2_init_39 : decode cX2_init 39 = .ok (.putfield 29, 3) := by decide +kernel
theorem dX2_init_42 : decode cX2_init 42 = .ok (.aload_n 0, 1) := by decide +kernel
theorem dX2_init_43 : decode cX2_init 43 = .ok (.iconst 0, 1) := by decide +kernel
theorem dX2_init_44 : decode cX2_init 44 = .ok (.putfield 32, 3) := by decide +kernel
theorem dX2_init_47 : decode cX2_init 47 = .ok (.return_, 1) := by decide +kernel
theorem dX2_find_0 : decode cX2_find 0 = .ok (.aload_n 0, 1) := by decide +kernel
theorem dX2_find_1 : decode cX2_find 1 = .ok (.aload_n 1, 1) := by decide +kernel
theorem dX2_find_2 : decode cX2_find 2 = .ok (.aload_n 2, 1) := by decide +kernel
theorem dX2_find_3 : decode cX2_find 3 = .ok (.aload_n 3, 1) := by decide +kernel
theorem dX2_find_4 : decode cX2_find 4 = .ok (.invokevirtual 35, 3) := by decide +kernel
theorem dX2_find_7 : decode cX2_find 7 = .ok (.aload_n 0, 1) := by decide +kernel
theorem dX2_find_8 : decode cX2_find 8 = .ok (.ldc 21, 2) := by decide +kernel
theorem dX2_find_10 : decode cX2_find 10 = .ok (.putfield 22, 3) := by decide +kernel
theorem dX2_find_13 : decode cX2_find 13 = .ok (.iconst 1, 1) := by decide +kernel
theorem dX2_find_14 : decode cX2_find 14 = .ok (.istore 5, 2) := by decide +kernel
theorem dX2_find_16 : decode cX2_find 16 = .ok (.iload 5, 2) := by decide +kernel
theorem dX2_find_18 : decode cX2_find 18 = .ok (.aload_n 1, 1) := by decide +kernel
theorem dX2_find_19 : decode cX2_find 19 = .ok (.getfield 39, 3) := by decide +kernel
theorem dX2_find_22 : decode cX2_find 22 = .ok (.if_icmp .ge 93, 3) := by decide +kernel
theorem dX2_find_25 : decode cX2_find 25 = .ok (.aload_n 1, 1) := by decide +kernel
theorem dX2_find_26 : decode cX2_find 26 = .ok (.getfield 39, 3) := by decide +kernel
theorem dX2_find_29 : decode cX2_find 29 = .ok (.iload 5, 2) := by decide +kernel
theorem dX2_find_31 : decode cX2_find 31 = .ok (.isub, 1) := by decide +kernel
theorem dX2_find_32 : decode cX2_find 32 = .ok (.istore 6, 2) := by decide +kernel
theorem dX2_find_34 : decode cX2_find 34 = .ok (.aload_n 0, 1) := by decide +kernel
theorem dX2_find_35 : decode cX2_find 35 = .ok (.getfield 12, 3) := by decide +kernel
theorem dX2_find_38 : decode cX2_find 38 = .ok (.getfield 44, 3) := by decide +kernel
theorem dX2_find_41 : decode cX2_find 41 = .ok (.iload 5, 2) := by decide +kernel
theorem dX2_find_43 : decode cX2_find 43 = .ok (.iaload, 1) := by decide +kernel
theorem dX2_find_44 : decode cX2_find 44 = .ok (.aload_n 0, 1) := by decide +kernel
theorem dX2_find_45 : decode cX2_find 45 = .ok (.getfield 18, 3) := by decide +kernel
theorem dX2_find_48 : decode cX2_find 48 = .ok (.getfield 44, 3) := by decide +kernel
theorem dX2_find_51 : decode cX2_find 51 = .ok (.iload 6, 2) := by decide +kernel
theorem dX2_find_53 : decode cX2_find 53 = .ok (.iaload, 1) := by decide +kernel
theorem dX2_find_54 : decode cX2_find 54 = .ok (.iadd, 1) := by decide +kernel
theorem dX2_find_55 : decode cX2_find 55 = .ok (.iload 4, 2) := by decide +kernel
theorem dX2_find_57 : decode cX2_find 57 = .ok (.iadd, 1) := by decide +kernel
theorem dX2_find_58 : decode cX2_find 58 = .ok (.istore 7, 2) := by decide +kernel
theorem dX2_find_60 : decode cX2_find 60 = .ok (.iload 7, 2) := by decide +kernel
theorem dX2_find_62 : decode cX2_find 62 = .ok (.aload_n 0, 1) := by decide +kernel
theorem dX2_find_63 : decode cX2_find 63 = .ok (.getfield 22, 3) := by decide +kernel
theorem dX2_find_66 : decode cX2_find 66 = .ok (.if_icmp .ge 43, 3) := by decide +kernel
theorem dX2_find_69 : decode cX2_find 69 = .ok (.aload_n 0, 1) := by decide +kernel
theorem dX2_find_70 : decode cX2_find 70 = .ok (.iload 7, 2) := by decide +kernel
theorem dX2_find_72 : decode cX2_find 72 = .ok (.putfield 22, 3) := by decide +kernel
theorem dX2_find_75 : decode cX2_find 75 = .ok (.aload_n 0, 1) := by decide +kernel
theorem dX2_find_76 : decode cX2_find 76 = .ok (.iload 5, 2) := by decide +kernel
theorem dX2_find_78 : decode cX2_find 78 = .ok (.putfield 26, 3) := by decide +kernel
theorem dX2_find_81 : decode cX2_find 81 = .ok (.aload_n 0, 1) := by decide +kernel
theorem dX2_find_82 : decode cX2_find 82 = .ok (.aload_n 0, 1) := by decide +kernel
theorem dX2_find_83 : decode cX2_find 83 = .ok (.getfield 12, 3) := by decide +kernel
theorem dX2_find_86 : decode cX2_find 86 = .ok (.getfield 48, 3) := by decide +kernel
theorem dX2_find_89 : decode cX2_find 89 = .ok (.iload 5, 2) := by decide +kernel
theorem dX2_find_91 : decode cX2_find 91 = .ok (.iaload, 1) := by decide +kernel
theorem dX2_find_92 : decode cX2_find 92 = .ok (.putfield 29, 3) := by decide +kernel
theorem dX2_find_95 : decode cX2_find 95 = .ok (.aload_n 0, 1) := by decide +kernel
theorem dX2_find_96 : decode cX2_find 96 = .ok (.aload_n 0, 1) := by decide +kernel
theorem dX2_find_97 : decode cX2_find 97 = .ok (.getfield 18, 3) := by decide +kernel
theorem dX2_find_100 : decode cX2_find 100 = .ok (.getfield 48, 3) := by decide +kernel
theorem dX2_find_103 : decode cX2_find 103 = .ok (.iload 6, 2) := by decide +kernel
theorem dX2_find_105 : decode cX2_find 105 = .ok (.iaload, 1) := by decide +kernel
theorem dX2_find_106 : decode cX2_find 106 = .ok (.putfield 32, 3) := by decide +kernel
theorem dX2_find_109 : decode cX2_find 109 = .ok (.iinc 5 1, 3) := by decide +kernel
theorem dX2_find_112 : decode cX2_find 112 = .ok (.goto (-96), 3) := by decide +kernel
theorem dX2_find_115 : decode cX2_find 115 = .ok (.return_, 1) := by decide +kernel
theorem dX2_fillSides_0 : decode cX2_fillSides 0 = .ok (.aload_n 0, 1) := by decide +kernel
theorem dX2_fillSides_1 : decode cX2_fillSides 1 = .ok (.getfield 12, 3) := by decide +kernel
theorem dX2_fillSides_4 : decode cX2_fillSides 4 = .ok (.invokevirtual 51, 3) := by decide +kernel
theorem dX2_fillSides_7 : decode cX2_fillSides 7 = .ok (.aload_n 0, 1) := by decide +kernel
theorem dX2_fillSides_8 : decode cX2_fillSides 8 = .ok (.getfield 18, 3) := by decide +kernel
theorem dX2_fillSides_11 : decode cX2_fillSides 11 = .ok (.invokevirtual 51, 3) := by decide +kernel
theorem dX2_fillSides_14 : decode cX2_fillSides 14 = .ok (.iconst 0, 1) := by decide +kernel
theorem dX2_fillSides_15 : decode cX2_fillSides 15 = .ok (.istore 4, 2) := by decide +kernel
theorem dX2_fillSides_17 : decode cX2_fillSides 17 = .ok (.iload 4, 2) := by decide +kernel
theorem dX2_fillSides_19 : decode cX2_fillSides 19 = .ok (.aload_n 2, 1) := by decide +kernel
theorem dX2_fillSides_20 : decode cX2_fillSides 20 = .ok (.getfield 54, 3) := by decide +kernel
theorem dX2_fillSides_23 : decode cX2_fillSides 23 = .ok (.if_icmp .ge 75, 3) := by decide +kernel
theorem dX2_fillSides_26 : decode cX2_fillSides 26 = .ok (.aload_n 2, 1) := by decide +kernel
theorem dX2_fillSides_27 : decode cX2_fillSides 27 = .ok (.getfield 59, 3) := by decide +kernel
theorem dX2_fillSides_30 : decode cX2_fillSides 30 = .ok (.iload 4, 2) := by decide +kernel
theorem dX2_fillSides_32 : decode cX2_fillSides 32 = .ok (.iaload, 1) := by decide +kernel
theorem dX2_fillSides_33 : decode cX2_fillSides 33 = .ok (.istore 5, 2) := by decide +kernel
theorem dX2_fillSides_35 : decode cX2_fillSides 35 = .ok (.aload_n 3, 1) := by decide +kernel
theorem dX2_fillSides_36 : decode cX2_fillSides 36 = .ok (.aload_n 1, 1) := by decide +kernel
theorem dX2_fillSides_37 : decode cX2_fillSides 37 = .ok (.aload_n 2, 1) := by decide +kernel
theorem dX2_fillSides_38 : decode cX2_fillSides 38 = .ok (.getfield 62, 3) := by decide +kernel
theorem dX2_fillSides_41 : decode cX2_fillSides 41 = .ok (.iload 5, 2) := by decide +kernel
theorem dX2_fillSides_43 : decode cX2_fillSides 43 = .ok (.aaload, 1) := by decide +kernel
theorem dX2_fillSides_44 : decode cX2_fillSides 44 = .ok (.invokevirtual 66, 3) := by decide +kernel
theorem dX2_fillSides_47 : decode cX2_fillSides 47 = .ok (.pop, 1) := by decide +kernel
theorem dX2_fillSides_48 : decode cX2_fillSides 48 = .ok (.aload_n 0, 1) := by decide +kernel
theorem dX2_fillSides_49 : decode cX2_fillSides 49 = .ok (.getfield 12, 3) := by decide +kernel
theorem dX2_fillSides_52 : decode cX2_fillSides 52 = .ok (.iload 5, 2) := by decide +kernel
theorem dX2_fillSides_54 : decode cX2_fillSides 54 = .ok (.aload_n 3, 1) := by decide +kernel
theorem dX2_fillSides_55 : decode cX2_fillSides 55 = .ok (.aload_n 1, 1) := by decide +kernel
theorem dX2_fillSides_56 : decode cX2_fillSides 56 = .ok (.getfield 39, 3) := by decide +kernel
theorem dX2_fillSides_59 : decode cX2_fillSides 59 = .ok (.iconst 1, 1) := by decide +kernel
theorem dX2_fillSides_60 : decode cX2_fillSides 60 = .ok (.isub, 1) := by decide +kernel
theorem dX2_fillSides_61 : decode cX2_fillSides 61 = .ok (.invokevirtual 72, 3) := by decide +kernel
theorem dX2_fillSides_64 : decode cX2_fillSides 64 = .ok (.aload_n 3, 1) := by decide +kernel
theorem dX2_fillSides_65 : decode cX2_fillSides 65 = .ok (.aload_n 1, 1) := by decide +kernel
theorem dX2_fillSides_66 : decode cX2_fillSides 66 = .ok (.aload_n 2, 1) := by decide +kernel
theorem dX2_fillSides_67 : decode cX2_fillSides 67 = .ok (.getfield 62, 3) := by decide +kernel
theorem dX2_fillSides_70 : decode cX2_fillSides 70 = .ok (.iload 5, 2) := by decide +kernel
theorem dX2_fillSides_72 : decode cX2_fillSides 72 = .ok (.aaload, 1) := by decide +kernel
theorem dX2_fillSides_73 : decode cX2_fillSides 73 = .ok (.invokevirtual 76, 3) := by decide +kernel
theorem dX2_fillSides_76 : decode cX2_fillSides 76 = .ok (.aload_n 0, 1) := by decide +kernel
theorem dX2_fillSides_77 : decode cX2_fillSides 77 = .ok (.getfield 18, 3) := by decide +kernel
theorem dX2_fillSides_80 : decode cX2_fillSides 80 = .ok (.iload 5, 2) := by decide +kernel
theorem dX2_fillSides_82 : decode cX2_fillSides 82 = .ok (.aload_n 3, 1) := by decide +kernel
theorem dX2_fillSides_83 : decode cX2_fillSides 83 = .ok (.aload_n 1, 1) := by decide +kernel
theorem dX2_fillSides_84 : decode cX2_fillSides 84 = .ok (.getfield 39, 3) := by decide +kernel
theorem dX2_fillSides_87 : decode cX2_fillSides 87 = .ok (.iconst 1, 1) := by decide +kernel
theorem dX2_fillSides_88 : decode cX2_fillSides 88 = .ok (.isub, 1) := by decide +kernel
theorem dX2_fillSides_89 : decode cX2_fillSides 89 = .ok (.invokevirtual 72, 3) := by decide +kernel
theorem dX2_fillSides_92 : decode cX2_fillSides 92 = .ok (.iinc 4 1, 3) := by decide +kernel
theorem dX2_fillSides_95 : decode cX2_fillSides 95 = .ok (.goto (-78), 3) := by decide +kernel
theorem dX2_fillSides_98 : decode cX2_fillSides 98 = .ok (.return_, 1) := by decide +kernel
theorem dX3_init_0 : decode cX3_init 0 = .ok (.aload_n 0, 1) := by decide +kernel
theorem dX3_init_1 : decode cX3_init 1 = .ok (.invokespecial 3, 3) := by decide +kernel
theorem dX3_init_4 : decode cX3_init 4 = .ok (.aload_n 0, 1) := by decide +kernel
theorem dX3_init_5 : decode cX3_init 5 = .ok (.bipush 6, 2) := by decide +kernel
theorem dX3_init_7 : decode cX3_init 7 = .ok (.newarray .int, 2) := by decide +kernel
theorem dX3_init_9 : decode cX3_init 9 = .ok (.dup, 1) := by decide +kernel
theorem dX3_init_10 : decode cX3_init 10 = .ok (.iconst 0, 1) := by decide +kernel
theorem dX3_init_11 : decode cX3_init 11 = .ok (.iconst 2, 1) := by decide +kernel
theorem dX3_init_12 : decode cX3_init 12 = .ok (.iastore, 1) := by decide +kernel
theorem dX3_init_13 : decode cX3_init 13 = .ok (.dup, 1) := by decide +kernel
theorem dX3_init_14 : decode cX3_init 14 = .ok (.iconst 1, 1) := by decide +kernel
theorem dX3_init_15 : decode cX3_init 15 = .ok (.iconst 2, 1) := by decide +kernel
theorem dX3_init_16 : decode cX3_init 16 = .ok (.iastore, 1) := by decide +kernel
theorem dX3_init_17 : decode cX3_init 17 = .ok (.dup, 1) := by decide +kernel
theorem dX3_init_18 : decode cX3_init 18 = .ok (.iconst 2, 1) := by decide +kernel
theorem dX3_init_19 : decode cX3_init 19 = .ok (.iconst 3, 1) := by decide +kernel
theorem dX3_init_20 : decode cX3_init 20 = .ok (.iastore, 1) := by decide +kernel
theorem dX3_init_21 : decode cX3_init 21 = .ok (.dup, 1) := by decide +kernel
theorem dX3_init_22 : decode cX3_init 22 = .ok (.iconst 3, 1) := by decide +kernel
theorem dX3_init_23 : decode cX3_init 23 = .ok (.iconst 1, 1) := by decide +kernel
theorem dX3_init_24 : decode cX3_init 24 = .ok (.iastore, 1) := by decide +kernel
theorem dX3_init_25 : decode cX3_init 25 = .ok (.dup, 1) := by decide +kernel
theorem dX3_init_26 : decode cX3_init 26 = .ok (.iconst 4, 1) := by decide +kernel
theorem dX3_init_27 : decode cX3_init 27 = .ok (.iconst 5, 1) := by decide +kernel
theorem dX3_init_28 : decode cX3_init 28 = .ok (.iastore, 1) := by decide +kernel
theorem dX3_init_29 : decode cX3_init 29 = .ok (.dup, 1) := by decide +kernel
theorem dX3_init_30 : decode cX3_init 30 = .ok (.iconst 5, 1) := by decide +kernel
theorem dX3_init_31 : decode cX3_init 31 = .ok (.iconst 4, 1) := by decide +kernel
theorem dX3_init_32 : decode cX3_init 32 = .ok (.iastore, 1) := by decide +kernel
theorem dX3_init_33 : decode cX3_init 33 = .ok (.putfield 9, 3) := by decide +kernel
theorem dX3_init_36 : decode cX3_init 36 = .ok (.aload_n 0, 1) := by decide +kernel
theorem dX3_init_37 : decode cX3_init 37 = .ok (.bipush 26, 2) := by decide +kernel
theorem dX3_init_39 : decode cX3_init 39 = .ok (.bipush 26, 2) := by decide +kernel
theorem dX3_init_41 : decode cX3_init 41 = .ok (.multianewarray 15 2, 4) := by decide +kernel
theorem dX3_init_45 : decode cX3_init 45 = .ok (.putfield 17, 3) := by decide +kernel
theorem dX3_init_48 : decode cX3_init 48 = .ok (.iconst 0, 1) := by decide +kernel
theorem dX3_init_49 : decode cX3_init 49 = .ok (.istore_n 1, 1) := by decide +kernel
theorem dX3_init_50 : decode cX3_init 50 = .ok (.iload_n 1, 1) := by decide +kernel
theorem dX3_init_51 : decode cX3_init 51 = .ok (.bipush 26, 2) := by decide +kernel
theorem dX3_init_53 : decode cX3_init 53 = .ok (.if_icmp .ge 19, 3) := by decide +kernel
theorem dX3_init_56 : decode cX3_init 56 = .ok (.aload_n 0, 1) := by decide +kernel
theorem dX3_init_57 : decode cX3_init 57 = .ok (.getfield 17, 3) := by decide +kernel
theorem dX3_init_60 : decode cX3_init 60 = .ok (.iload_n 1, 1) := by decide +kernel
theorem dX3_init_61 : decode cX3_init 61 = .ok (.aaload, 1) := by decide +kernel
theorem dX3_init_62 : decode cX3_init 62 = .ok (.iconst (-1), 1) := by decide +kernel
theorem dX3_init_63 : decode cX3_init 63 = .ok (.invokestatic 20, 3) := by decide +kernel
theorem dX3_init_66 : decode cX3_init 66 = .ok (.iinc 1 1, 3) := by decide +kernel
theorem dX3_init_69 : decode cX3_init 69 = .ok (.goto (-19), 3) := by decide +kernel
theorem dX3_init_72 : decode cX3_init 72 = .ok (.return_, 1) := by decide +kernel
theorem dX3_ofBecoming_0 : decode cX3_ofBecoming 0 = .ok (.iload_n 1, 1) := by decide +kernel
theorem dX3_ofBecoming_1 : decode cX3_ofBecoming 1 = .ok (.iload_n 2, 1) := by decide +kernel
theorem dX3_ofBecoming_2 : decode cX3_ofBecoming 2 = .ok (.if_icmp .ne 5, 3) := by decide +kernel
theorem dX3_ofBecoming_5 : decode cX3_ofBecoming 5 = .ok (.iconst 0, 1) := by decide +kernel
theorem dX3_ofBecoming_6 : decode cX3_ofBecoming 6 = .ok (.ireturn, 1) := by decide +kernel
theorem dX3_ofBecoming_7 : decode cX3_ofBecoming 7 = .ok (.aload_n 0, 1) := by decide +kernel
theorem dX3_ofBecoming_8 : decode cX3_ofBecoming 8 = .ok (.getfield 17, 3) := by decide +kernel
theorem dX3_ofBecoming_11 : decode cX3_ofBecoming 11 = .ok (.iload_n 1, 1) := by decide +kernel
theorem dX3_ofBecoming_12 : decode cX3_ofBecoming 12 = .ok (.aaload, 1) := by decide +kernel
theorem dX3_ofBecoming_13 : decode cX3_ofBecoming 13 = .ok (.iload_n 2, 1) := by decide +kernel
theorem dX3_ofBecoming_14 : decode cX3_ofBecoming 14 = .ok (.iaload, 1) := by decide +kernel
theorem dX3_ofBecoming_15 : decode cX3_ofBecoming 15 = .ok (.istore_n 3, 1) := by decide +kernel
theorem dX3_ofBecoming_16 : decode cX3_ofBecoming 16 = .ok (.iload_n 3, 1) := by decide +kernel
theorem dX3_ofBecoming_17 : decode cX3_ofBecoming 17 = .ok (.iconst (-1), 1) := by decide +kernel
theorem dX3_ofBecoming_18 : decode cX3_ofBecoming 18 = .ok (.if_icmp .ne 12, 3) := by decide +kernel
theorem dX3_ofBecoming_21 : decode cX3_ofBecoming 21 = .ok (.aload_n 0, 1) := by decide +kernel
theorem dX3_ofBecoming_22 : decode cX3_ofBecoming 22 = .ok (.getfield 9, 3) := by decide +kernel
theorem dX3_ofBecoming_25 : decode cX3_ofBecoming 25 = .ok (.iconst 2, 1) := by decide +kernel
theorem dX3_ofBecoming_26 : decode cX3_ofBecoming 26 = .ok (.iaload, 1) := by decide +kernel
theorem dX3_ofBecoming_27 : decode cX3_ofBecoming 27 = .ok (.goto 4, 3) := by decide +kernel
theorem dX3_ofBecoming_30 : decode cX3_ofBecoming 30 = .ok (.iload_n 3, 1) := by decide +kernel
theorem dX3_ofBecoming_31 : decode cX3_ofBecoming 31 = .ok (.ireturn, 1) := by decide +kernel
theorem dX4_init_0 : decode cX4_init 0 = .ok (.aload_n 0, 1) := by decide +kernel
theorem dX4_init_1 : decode cX4_init 1 = .ok (.invokespecial 3, 3) := by decide +kernel
theorem dX4_init_4 : decode cX4_init 4 = .ok (.aload_n 0, 1) := by decide +kernel
theorem dX4_init_5 : decode cX4_init 5 = .ok (.bipush 60, 2) := by decide +kernel
theorem dX4_init_7 : decode cX4_init 7 = .ok (.newarray .int, 2) := by decide +kernel
theorem dX4_init_9 : decode cX4_init 9 = .ok (.putfield 9, 3) := by decide +kernel
theorem dX4_init_12 : decode cX4_init 12 = .ok (.aload_n 0, 1) := by decide +kernel
theorem dX4_init_13 : decode cX4_init 13 = .ok (.bipush 60, 2) := by decide +kernel
theorem dX4_init_15 : decode cX4_init 15 = .ok (.newarray .int, 2) := by decide +kernel
theorem dX4_init_17 : decode cX4_init 17 = .ok (.putfield 15, 3) := by decide +kernel
theorem dX4_init_20 : decode cX4_init 20 = .ok (.aload_n 0, 1) := by decide +kernel
theorem dX4_init_21 : decode cX4_init 21 = .ok (.bipush 60, 2) := by decide +kernel
theorem dX4_init_23 : decode cX4_init 23 = .ok (.newarray .int, 2) := by decide +kernel
theorem dX4_init_25 : decode cX4_init 25 = .ok (.putfield 18, 3) := by decide +kernel
theorem dX4_init_28 : decode cX4_init 28 = .ok (.aload_n 0, 1) := by decide +kernel
theorem dX4_init_29 : decode cX4_init 29 = .ok (.iconst 0, 1) := by decide +kernel
theorem dX4_init_30 : decode cX4_init 30 = .ok (.putfield 21, 3) := by decide +kernel
theorem dX4_init_33 : decode cX4_init 33 = .ok (.return_, 1) := by decide +kernel
theorem dX4_add_0 : decode cX4_add 0 = .ok (.aload_n 0, 1) := by decide +kernel
theorem dX4_add_1 : decode cX4_add 1 = .ok (.getfield 21, 3) := by decide +kernel
theorem dX4_add_4 : decode cX4_add 4 = .ok (.bipush 60, 2) := by decide +kernel
theorem dX4_add_6 : decode cX4_add 6 = .ok (.if_icmp .lt 4, 3) := by decide +kernel
theorem dX4_add_9 : decode cX4_add 9 = .ok (.return_, 1) := by decide +kernel
theorem dX4_add_10 : decode cX4_add 10 = .ok (.aload_n 0, 1) := by decide +kernel
theorem dX4_add_11 : decode cX4_add 11 = .ok (.getfield 21, 3) := by decide +kernel
theorem dX4_add_14 : decode cX4_add 14 = .ok (.istore 4, 2) := by decide +kernel
theorem dX4_add_16 : decode cX4_add 16 = .ok (.iload 4, 2) := by decide +kernel
theorem dX4_add_18 : decode cX4_add 18 = .ok (.ifCond .le 70, 3) := by decide +kernel
theorem dX4_add_21 : decode cX4_add 21 = .ok (.aload_n 0, 1) := by decide +kernel
theorem dX4_add_22 : decode cX4_add 22 = .ok (.iload 4, 2) := by decide +kernel
theorem dX4_add_24 : decode cX4_add 24 = .ok (.iconst 1, 1) := by decide +kernel
theorem dX4_add_25 : decode cX4_add 25 = .ok (.isub, 1) := by decide +kernel
theorem dX4_add_26 : decode cX4_add 26 = .ok (.iload_n 2, 1) := by decide +kernel
theorem dX4_add_27 : decode cX4_add 27 = .ok (.iload_n 3, 1) := by decide +kernel
theorem dX4_add_28 : decode cX4_add 28 = .ok (.invokevirtual 25, 3) := by decide +kernel
theorem dX4_add_31 : decode cX4_add 31 = .ok (.ifCond .eq 57, 3) := by decide +kernel
theorem dX4_add_34 : decode cX4_add 34 = .ok (.aload_n 0, 1) := by decide +kernel
theorem dX4_add_35 : decode cX4_add 35 = .ok (.getfield 9, 3) := by decide +kernel
theorem dX4_add_38 : decode cX4_add 38 = .ok (.iload 4, 2) := by decide +kernel
theorem dX4_add_40 : decode cX4_add 40 = .ok (.aload_n 0, 1) := by decide +kernel
theorem dX4_add_41 : decode cX4_add 41 = .ok (.getfield 9, 3) := by decide +kernel
theorem dX4_add_44 : decode cX4_add 44 = .ok (.iload 4, 2) := by decide +kernel
theorem dX4_add_46 : decode cX4_add 46 = .ok (.iconst 1, 1) := by decide +kernel
theorem dX4_add_47 : decode cX4_add 47 = .ok (.isub, 1) := by decide +kernel
theorem dX4_add_48 : decode cX4_add 48 = .ok (.iaload, 1) := by decide +kernel
theorem dX4_add_49 : decode cX4_add 49 = .ok (.iastore, 1) := by decide +kernel
theorem dX4_add_50 : decode cX4_add 50 = .ok (.aload_n 0, 1) := by decide +kernel
theorem dX4_add_51 : decode cX4_add 51 = .ok (.getfield 15, 3) := by decide +kernel
theorem dX4_add_54 : decode cX4_add 54 = .ok (.iload 4, 2) := by decide +kernel
theorem dX4_add_56 : decode cX4_add 56 = .ok (.aload_n 0, 1) := by decide +kernel
theorem dX4_add_57 : decode cX4_add 57 = .ok (.getfield 15, 3) := by decide +kernel
theorem dX4_add_60 : decode cX4_add 60 = .ok (.iload 4, 2) := by decide +kernel
theorem dX4_add_62 : decode cX4_add 62 = .ok (.iconst 1, 1) := by decide +kernel
theorem dX4_add_63 : decode cX4_add 63 = .ok (.isub, 1) := by decide +kernel
theorem dX4_add_64 : decode cX4_add 64 = .ok (.iaload, 1) := by decide +kernel
theorem dX4_add_65 : decode cX4_add 65 = .ok (.iastore, 1) := by decide +kernel
theorem dX4_add_66 : decode cX4_add 66 = .ok (.aload_n 0, 1) := by decide +kernel
theorem dX4_add_67 : decode cX4_add 67 = .ok (.getfield 18, 3) := by decide +kernel
theorem dX4_add_70 : decode cX4_add 70 = .ok (.iload 4, 2) := by decide +kernel
theorem dX4_add_72 : decode cX4_add 72 = .ok (.aload_n 0, 1) := by decide +kernel
theorem dX4_add_73 : decode cX4_add 73 = .ok (.getfield 18, 3) := by decide +kernel
theorem dX4_add_76 : decode cX4_add 76 = .ok (.iload 4, 2) := by decide +kernel
theorem dX4_add_78 : decode cX4_add 78 = .ok (.iconst 1, 1) := by decide +kernel
theorem dX4_add_79 : decode cX4_add 79 = .ok (.isub, 1) := by decide +kernel
theorem dX4_add_80 : decode cX4_add 80 = .ok (.iaload, 1) := by decide +kernel
theorem dX4_add_81 : decode cX4_add 81 = .ok (.iastore, 1) := by decide +kernel
theorem dX4_add_82 : decode cX4_add 82 = .ok (.iinc 4 (-1), 3) := by decide +kernel
theorem dX4_add_85 : decode cX4_add 85 = .ok (.goto (-69), 3) := by decide +kernel
theorem dX4_add_88 : decode cX4_add 88 = .ok (.aload_n 0, 1) := by decide +kernel
theorem dX4_add_89 : decode cX4_add 89 = .ok (.getfield 9, 3) := by decide +kernel
theorem dX4_add_92 : decode cX4_add 92 = .ok (.iload 4, 2) := by decide +kernel
theorem dX4_add_94 : decode cX4_add 94 = .ok (.iload_n 1, 1) := by decide +kernel
theorem dX4_add_95 : decode cX4_add 95 = .ok (.iastore, 1) := by decide +kernel
theorem dX4_add_96 : decode cX4_add 96 = .ok (.aload_n 0, 1) := by decide +kernel
theorem dX4_add_97 : decode cX4_add 97 = .ok (.getfield 15, 3) := by decide +kernel
theorem dX4_add_100 : decode cX4_add 100 = .ok (.iload 4, 2) := by decide +kernel
theorem dX4_add_102 : decode cX4_add 102 = .ok (.iload_n 2, 1) := by decide +kernel
theorem dX4_add_103 : decode cX4_add 103 = .ok (.iastore, 1) := by decide +kernel
theorem dX4_add_104 : decode cX4_add 104 = .ok (.aload_n 0, 1) := by decide +kernel
theorem dX4_add_105 : decode cX4_add 105 = .ok (.getfield 18, 3) := by decide +kernel
theorem dX4_add_108 : decode cX4_add 108 = .ok (.iload 4, 2) := by decide +kernel
theorem dX4_add_110 : decode cX4_add 110 = .ok (.iload_n 3, 1) := by decide +kernel
theorem dX4_add_111 : decode cX4_add 111 = .ok (.iastore, 1) := by decide +kernel
theorem dX4_add_112 : decode cX4_add 112 = .ok (.aload_n 0, 1) := by decide +kernel
theorem dX4_add_113 : decode cX4_add 113 = .ok (.dup, 1) := by decide +kernel
theorem dX4_add_114 : decode cX4_add 114 = .ok (.getfield 21, 3) := by decide +kernel
theorem dX4_add_117 : decode cX4_add 117 = .ok (.iconst 1, 1) := by decide +kernel
theorem dX4_add_118 : decode cX4_add 118 = .ok (.iadd, 1) := by decide +kernel
theorem dX4_add_119 : decode cX4_add 119 = .ok (.putfield 21, 3) := by decide +kernel
theorem dX4_add_122 : decode cX4_add 122 = .ok (.return_, 1) := by decide +kernel
theorem dX4_isBehind_0 : decode cX4_isBehind 0 = .ok (.aload_n 0, 1) := by decide +kernel
theorem dX4_isBehind_1 : decode cX4_isBehind 1 = .ok (.getfield 15, 3) := by decide +kernel
theorem dX4_isBehind_4 : decode cX4_isBehind 4 = .ok (.iload_n 1, 1) := by decide +kernel
theorem dX4_isBehind_5 : decode cX4_isBehind 5 = .ok (.iaload, 1) := by decide +kernel
theorem dX4_isBehind_6 : decode cX4_isBehind 6 = .ok (.iload_n 2, 1) := by decide +kernel
theorem dX4_isBehind_7 : decode cX4_isBehind 7 = .ok (.if_icmp .gt 23, 3) := by decide +kernel
theorem dX4_isBehind_10 : decode cX4_isBehind 10 = .ok (.aload_n 0, 1) := by decide +kernel
theorem dX4_isBehind_11 : decode cX4_isBehind 11 = .ok (.getfield 15, 3) := by decide +kernel
theorem dX4_isBehind_14 : decode cX4_isBehind 14 = .ok (.iload_n 1, 1) := by decide +kernel
theorem dX4_isBehind_15 : decode cX4_isBehind 15 = .ok (.iaload, 1) := by decide +kernel
theorem dX4_isBehind_16 : decode cX4_isBehind 16 = .ok (.iload_n 2, 1) := by decide +kernel
theorem dX4_isBehind_17 : decode cX4_isBehind 17 = .ok (.if_icmp .ne 17, 3) := by decide +kernel
theorem dX4_isBehind_20 : decode cX4_isBehind 20 = .ok (.aload_n 0, 1) := by decide +kernel
theorem dX4_isBehind_21 : decode cX4_isBehind 21 = .ok (.getfield 18, 3) := by decide +kernel
theorem dX4_isBehind_24 : decode cX4_isBehind 24 = .ok (.iload_n 1, 1) := by decide +kernel
theorem dX4_isBehind_25 : decode cX4_isBehind 25 = .ok (.iaload, 1) := by decide +kernel
theorem dX4_isBehind_26 : decode cX4_isBehind 26 = .ok (.iload_n 3, 1) := by decide +kernel
theorem dX4_isBehind_27 : decode cX4_isBehind 27 = .ok (.if_icmp .ge 7, 3) := by decide +kernel
theorem dX4_isBehind_30 : decode cX4_isBehind 30 = .ok (.iconst 1, 1) := by decide +kernel
theorem dX4_isBehind_31 : decode cX4_isBehind 31 = .ok (.goto 4, 3) := by decide +kernel
theorem dX4_isBehind_34 : decode cX4_isBehind 34 = .ok (.iconst 0, 1) := by decide +kernel
theorem dX4_isBehind_35 : decode cX4_isBehind 35 = .ok (.ireturn, 1) := by decide +kernel
theorem dX5_init_0 : decode cX5_init 0 = .ok (.aload_n 0, 1) := by decide +kernel
theorem dX5_init_1 : decode cX5_init 1 = .ok (.invokespecial 3, 3) := by decide +kernel
theorem dX5_init_4 : decode cX5_init 4 = .ok (.aload_n 0, 1) := by decide +kernel
theorem dX5_init_5 : decode cX5_init 5 = .ok (.bipush 12, 2) := by decide +kernel
theorem dX5_init_7 : decode cX5_init 7 = .ok (.newarray .int, 2) := by decide +kernel
theorem dX5_init_9 : decode cX5_init 9 = .ok (.putfield 9, 3) := by decide +kernel
theorem dX5_init_12 : decode cX5_init 12 = .ok (.aload_n 0, 1) := by decide +kernel
theorem dX5_init_13 : decode cX5_init 13 = .ok (.iconst 0, 1) := by decide +kernel
theorem dX5_init_14 : decode cX5_init 14 = .ok (.putfield 15, 3) := by decide +kernel
theorem dX5_init_17 : decode cX5_init 17 = .ok (.return_, 1) := by decide +kernel
theorem dX5_add_0 : decode cX5_add 0 = .ok (.aload_n 0, 1) := by decide +kernel
theorem dX5_add_1 : decode cX5_add 1 = .ok (.getfield 15, 3) := by decide +kernel
theorem dX5_add_4 : decode cX5_add 4 = .ok (.bipush 12, 2) := by decide +kernel
theorem dX5_add_6 : decode cX5_add 6 = .ok (.if_icmp .lt 5, 3) := by decide +kernel
theorem dX5_add_9 : decode cX5_add 9 = .ok (.iconst 0, 1) := by decide +kernel
theorem dX5_add_10 : decode cX5_add 10 = .ok (.ireturn, 1) := by decide +kernel
theorem dX5_add_11 : decode cX5_add 11 = .ok (.aload_n 0, 1) := by decide +kernel
theorem dX5_add_12 : decode cX5_add 12 = .ok (.getfield 9, 3) := by decide +kernel
theorem dX5_add_15 : decode cX5_add 15 = .ok (.aload_n 0, 1) := by decide +kernel
theorem dX5_add_16 : decode cX5_add 16 = .ok (.getfield 15, 3) := by decide +kernel
theorem dX5_add_19 : decode cX5_add 19 = .ok (.iload_n 1, 1) := by decide +kernel
theorem dX5_add_20 : decode cX5_add 20 = .ok (.iastore, 1) := by decide +kernel
theorem dX5_add_21 : decode cX5_add 21 = .ok (.aload_n 0, 1) := by decide +kernel
theorem dX5_add_22 : decode cX5_add 22 = .ok (.dup, 1) := by decide +kernel
theorem dX5_add_23 : decode cX5_add 23 = .ok (.getfield 15, 3) := by decide +kernel
theorem dX5_add_26 : decode cX5_add 26 = .ok (.iconst 1, 1) := by decide +kernel
theorem dX5_add_27 : decode cX5_add 27 = .ok (.iadd, 1) := by decide +kernel
theorem dX5_add_28 : decode cX5_add 28 = .ok (.putfield 15, 3) := by decide +kernel
theorem dX5_add_31 : decode cX5_add 31 = .ok (.iconst 1, 1) := by decide +kernel
theorem dX5_add_32 : decode cX5_add 32 = .ok (.ireturn, 1) := by decide +kernel
theorem dX5_copyOf_0 : decode cX5_copyOf 0 = .ok (.aload_n 0, 1) := by decide +kernel
theorem dX5_copyOf_1 : decode cX5_copyOf 1 = .ok (.iconst 0, 1) := by decide +kernel
theorem dX5_copyOf_2 : decode cX5_copyOf 2 = .ok (.putfield 15, 3) := by decide +kernel
theorem dX5_copyOf_5 : decode cX5_copyOf 5 = .ok (.iconst 0, 1) := by decide +kernel
theorem dX5_copyOf_6 : decode cX5_copyOf 6 = .ok (.istore_n 2, 1) := by decide +kernel
theorem dX5_copyOf_7 : decode cX5_copyOf 7 = .ok (.iload_n 2, 1) := by decide +kernel
theorem dX5_copyOf_8 : decode cX5_copyOf 8 = .ok (.aload_n 1, 1) := by decide +kernel
theorem dX5_copyOf_9 : decode cX5_copyOf 9 = .ok (.getfield 15, 3) := by decide +kernel
theorem dX5_copyOf_12 : decode cX5_copyOf 12 = .ok (.if_icmp .ge 20, 3) := by decide +kernel
theorem dX5_copyOf_15 : decode cX5_copyOf 15 = .ok (.aload_n 0, 1) := by decide +kernel
theorem dX5_copyOf_16 : decode cX5_copyOf 16 = .ok (.aload_n 1, 1) := by decide +kernel
theorem dX5_copyOf_17 : decode cX5_copyOf 17 = .ok (.getfield 9, 3) := by decide +kernel
theorem dX5_copyOf_20 : decode cX5_copyOf 20 = .ok (.iload_n 2, 1) := by decide +kernel
theorem dX5_copyOf_21 : decode cX5_copyOf 21 = .ok (.iaload, 1) := by decide +kernel
theorem dX5_copyOf_22 : decode cX5_copyOf 22 = .ok (.invokevirtual 19, 3) := by decide +kernel
theorem dX5_copyOf_25 : decode cX5_copyOf 25 = .ok (.pop, 1) := by decide +kernel
theorem dX5_copyOf_26 : decode cX5_copyOf 26 = .ok (.iinc 2 1, 3) := by decide +kernel
theorem dX5_copyOf_29 : decode cX5_copyOf 29 = .ok (.goto (-22), 3) := by decide +kernel
theorem dX5_copyOf_32 : decode cX5_copyOf 32 = .ok (.return_, 1) := by decide +kernel
theorem dX5_mirrorOf_0 : decode cX5_mirrorOf 0 = .ok (.aload_n 0, 1) := by decide +kernel
theorem dX5_mirrorOf_1 : decode cX5_mirrorOf 1 = .ok (.iconst 0, 1) := by decide +kernel
theorem dX5_mirrorOf_2 : decode cX5_mirrorOf 2 = .ok (.putfield 15, 3) := by decide +kernel
theorem dX5_mirrorOf_5 : decode cX5_mirrorOf 5 = .ok (.aload_n 1, 1) := by decide +kernel
theorem dX5_mirrorOf_6 : decode cX5_mirrorOf 6 = .ok (.getfield 15, 3) := by decide +kernel
theorem dX5_mirrorOf_9 : decode cX5_mirrorOf 9 = .ok (.iconst 1, 1) := by decide +kernel
theorem dX5_mirrorOf_10 : decode cX5_mirrorOf 10 = .ok (.isub, 1) := by decide +kernel
theorem dX5_mirrorOf_11 : decode cX5_mirrorOf 11 = .ok (.istore_n 2, 1) := by decide +kernel
theorem dX5_mirrorOf_12 : decode cX5_mirrorOf 12 = .ok (.iload_n 2, 1) := by decide +kernel
theorem dX5_mirrorOf_13 : decode cX5_mirrorOf 13 = .ok (.ifCond .lt 20, 3) := by decide +kernel
theorem dX5_mirrorOf_16 : decode cX5_mirrorOf 16 = .ok (.aload_n 0, 1) := by decide +kernel
theorem dX5_mirrorOf_17 : decode cX5_mirrorOf 17 = .ok (.aload_n 1, 1) := by decide +kernel
theorem dX5_mirrorOf_18 : decode cX5_mirrorOf 18 = .ok (.getfield 9, 3) := by decide +kernel
theorem dX5_mirrorOf_21 : decode cX5_mirrorOf 21 = .ok (.iload_n 2, 1) := by decide +kernel
theorem dX5_mirrorOf_22 : decode cX5_mirrorOf 22 = .ok (.iaload, 1) := by decide +kernel
theorem dX5_mirrorOf_23 : decode cX5_mirrorOf 23 = .ok (.invokevirtual 19, 3) := by decide +kernel
theorem dX5_mirrorOf_26 : decode cX5_mirrorOf 26 = .ok (.pop, 1) := by decide +kernel
theorem dX5_mirrorOf_27 : decode cX5_mirrorOf 27 = .ok (.iinc 2 (-1), 3) := by decide +kernel
theorem dX5_mirrorOf_30 : decode cX5_mirrorOf 30 = .ok (.goto (-18), 3) := by decide +kernel
theorem dX5_mirrorOf_33 : decode cX5_mirrorOf 33 = .ok (.return_, 1) := by decide +kernel
theorem dX5_compareWith_0 : decode cX5_compareWith 0 = .ok (.aload_n 0, 1) := by decide +kernel
theorem dX5_compareWith_1 : decode cX5_compareWith 1 = .ok (.getfield 15, 3) := by decide +kernel
theorem dX5_compareWith_4 : decode cX5_compareWith 4 = .ok (.aload_n 1, 1) := by decide +kernel
theorem dX5_compareWith_5 : decode cX5_compareWith 5 = .ok (.getfield 15, 3) := by decide +kernel
theorem dX5_compareWith_8 : decode cX5_compareWith 8 = .ok (.invokestatic 23, 3) := by decide +kernel
theorem dX5_compareWith_11 : decode cX5_compareWith 11 = .ok (.istore_n 2, 1) := by decide +kernel
theorem dX5_compareWith_12 : decode cX5_compareWith 12 = .ok (.iconst 0, 1) := by decide +kernel
theorem dX5_compareWith_13 : decode cX5_compareWith 13 = .ok (.istore_n 3, 1) := by decide +kernel
theorem dX5_compareWith_14 : decode cX5_compareWith 14 = .ok (.iload_n 3, 1) := by decide +kernel
theorem dX5_compareWith_15 : decode cX5_compareWith 15 = .ok (.iload_n 2, 1) := by decide +kernel
theorem dX5_compareWith_16 : decode cX5_compareWith 16 = .ok (.if_icmp .ge 38, 3) := by decide +kernel
theorem dX5_compareWith_19 : decode cX5_compareWith 19 = .ok (.aload_n 0, 1) := by decide +kernel
theorem dX5_compareWith_20 : decode cX5_compareWith 20 = .ok (.getfield 9, 3) := by decide +kernel
theorem dX5_compareWith_23 : decode cX5_compareWith 23 = .ok (.iload_n 3, 1) := by decide +kernel
theorem dX5_compareWith_24 : decode cX5_compareWith 24 = .ok (.iaload, 1) := by decide +kernel
theorem dX5_compareWith_25 : decode cX5_compareWith 25 = .ok (.aload_n 1, 1) := by decide +kernel
theorem dX5_compareWith_26 : decode cX5_compareWith 26 = .ok (.getfield 9, 3) := by decide +kernel
theorem dX5_compareWith_29 : decode cX5_compareWith 29 = .ok (.iload_n 3, 1) := by decide +kernel
theorem dX5_compareWith_30 : decode cX5_compareWith 30 = .ok (.iaload, 1) := by decide +kernel
theorem dX5_compareWith_31 : decode cX5_compareWith 31 = .ok (.if_icmp .eq 17, 3) := by decide +kernel
theorem dX5_compareWith_34 : decode cX5_compareWith 34 = .ok (.aload_n 0, 1) := by decide +kernel
theorem dX5_compareWith_35 : decode cX5_compareWith 35 = .ok (.getfield 9, 3) := by decide +kernel
theorem dX5_compareWith_38 : decode cX5_compareWith 38 = .ok (.iload_n 3, 1) := by decide +kernel
theorem dX5_compareWith_39 : decode cX5_compareWith 39 = .ok (.iaload, 1) := by decide +kernel
theorem dX5_compareWith_40 : decode cX5_compareWith 40 = .ok (.aload_n 1, 1) := by decide +kernel
theorem dX5_compareWith_41 : decode cX5_compareWith 41 = .ok (.getfield 9, 3) := by decide +kernel
theorem dX5_compareWith_44 : decode cX5_compareWith 44 = .ok (.iload_n 3, 1) := by decide +kernel
theorem dX5_compareWith_45 : decode cX5_compareWith 45 = .ok (.iaload, 1) := by decide +kernel
theorem dX5_compareWith_46 : decode cX5_compareWith 46 = .ok (.isub, 1) := by decide +kernel
theorem dX5_compareWith_47 : decode cX5_compareWith 47 = .ok (.ireturn, 1) := by decide +kernel
theorem dX5_compareWith_48 : decode cX5_compareWith 48 = .ok (.iinc 3 1, 3) := by decide +kernel
theorem dX5_compareWith_51 : decode cX5_compareWith 51 = .ok (.goto (-37), 3) := by decide +kernel
theorem dX5_compareWith_54 : decode cX5_compareWith 54 = .ok (.aload_n 0, 1) := by decide +kernel
theorem dX5_compareWith_55 : decode cX5_compareWith 55 = .ok (.getfield 15, 3) := by decide +kernel
theorem dX5_compareWith_58 : decode cX5_compareWith 58 = .ok (.aload_n 1, 1) := by decide +kernel
theorem dX5_compareWith_59 : decode cX5_compareWith 59 = .ok (.getfield 15, 3) := by decide +kernel
theorem dX5_compareWith_62 : decode cX5_compareWith 62 = .ok (.isub, 1) := by decide +kernel
theorem dX5_compareWith_63 : decode cX5_compareWith 63 = .ok (.ireturn, 1) := by decide +kernel
theorem dX6_init_0 : decode cX6_init 0 = .ok (.aload_n 0, 1) := by decide +kernel
theorem dX6_init_1 : decode cX6_init 1 = .ok (.invokespecial 3, 3) := by decide +kernel
theorem dX6_init_4 : decode cX6_init 4 = .ok (.aload_n 0, 1) := by decide +kernel
theorem dX6_init_5 : decode cX6_init 5 = .ok (.bipush 13, 2) := by decide +kernel
theorem dX6_init_7 : decode cX6_init 7 = .ok (.newarray .int, 2) := by decide +kernel
theorem dX6_init_9 : decode cX6_init 9 = .ok (.putfield 9, 3) := by decide +kernel
theorem dX6_init_12 : decode cX6_init 12 = .ok (.aload_n 0, 1) := by decide +kernel
theorem dX6_init_13 : decode cX6_init 13 = .ok (.bipush 13, 2) := by decide +kernel
theorem dX6_init_15 : decode cX6_init 15 = .ok (.newarray .int, 2) := by decide +kernel
theorem dX6_init_17 : decode cX6_init 17 = .ok (.putfield 15, 3) := by decide +kernel
theorem dX6_init_20 : decode cX6_init 20 = .ok (.return_, 1) := by decide +kernel
theorem dX6_empty_0 : decode cX6_empty 0 = .ok (.aload_n 0, 1) := by decide +kernel
theorem dX6_empty_1 : decode cX6_empty 1 = .ok (.getfield 15, 3) := by decide +kernel
theorem dX6_empty_4 : decode cX6_empty 4 = .ok (.ldc 18, 2) := by decide +kernel
theorem dX6_empty_6 : decode cX6_empty 6 = .ok (.invokestatic 19, 3) := by decide +kernel
theorem dX6_empty_9 : decode cX6_empty 9 = .ok (.return_, 1) := by decide +kernel
theorem dX6_offer_0 : decode cX6_offer 0 = .ok (.iconst 1, 1) := by decide +kernel
theorem dX6_offer_1 : decode cX6_offer 1 = .ok (.istore 4, 2) := by decide +kernel
theorem dX6_offer_3 : decode cX6_offer 3 = .ok (.iload 4, 2) := by decide +kernel
theorem dX6_offer_5 : decode cX6_offer 5 = .ok (.iload_n 3, 1) := by decide +kernel
theorem dX6_offer_6 : decode cX6_offer 6 = .ok (.if_icmp .gt 46, 3) := by decide +kernel
theorem dX6_offer_9 : decode cX6_offer 9 = .ok (.aload_n 2, 1) := by decide +kernel
theorem dX6_offer_10 : decode cX6_offer 10 = .ok (.iload 4, 2) := by decide +kernel
theorem dX6_offer_12 : decode cX6_offer 12 = .ok (.invokevirtual 25, 3) := by decide +kernel
theorem dX6_offer_15 : decode cX6_offer 15 = .ok (.istore 5, 2) := by decide +kernel
theorem dX6_offer_17 : decode cX6_offer 17 = .ok (.iload 5, 2) := by decide +kernel
theorem dX6_offer_19 : decode cX6_offer 19 = .ok (.aload_n 0, 1) := by decide +kernel
theorem dX6_offer_20 : decode cX6_offer 20 = .ok (.getfield 15, 3) := by decide +kernel
theorem dX6_offer_23 : decode cX6_offer 23 = .ok (.iload 4, 2) := by decide +kernel
theorem dX6_offer_25 : decode cX6_offer 25 = .ok (.iaload, 1) := by decide +kernel
theorem dX6_offer_26 : decode cX6_offer 26 = .ok (.if_icmp .ge 20, 3) := by decide +kernel
theorem dX6_offer_29 : decode cX6_offer 29 = .ok (.aload_n 0, 1) := by decide +kernel
theorem dX6_offer_30 : decode cX6_offer 30 = .ok (.getfield 15, 3) := by decide +kernel
theorem dX6_offer_33 : decode cX6_offer 33 = .ok (.iload 4, 2) := by decide +kernel
theorem dX6_offer_35 : decode cX6_offer 35 = .ok (.iload 5, 2) := by decide +kernel
theorem dX6_offer_37 : decode cX6_offer 37 = .ok (.iastore, 1) := by decide +kernel
theorem dX6_offer_38 : decode cX6_offer 38 = .ok (.aload_n 0, 1) := by decide +kernel
theorem dX6_offer_39 : decode cX6_offer 39 = .ok (.getfield 9, 3) := by decide +kernel
theorem dX6_offer_42 : decode cX6_offer 42 = .ok (.iload 4, 2) := by decide +kernel
theorem dX6_offer_44 : decode cX6_offer 44 = .ok (.iload_n 1, 1) := by decide +kernel
theorem dX6_offer_45 : decode cX6_offer 45 = .ok (.iastore, 1) := by decide +kernel
theorem dX6_offer_46 : decode cX6_offer 46 = .ok (.iinc 4 1, 3) := by decide +kernel
theorem dX6_offer_49 : decode cX6_offer 49 = .ok (.goto (-46), 3) := by decide +kernel
theorem dX6_offer_52 : decode cX6_offer 52 = .ok (.return_, 1) := by decide +kernel
theorem dX7_init_0 : decode cX7_init 0 = .ok (.aload_n 0, 1) := by decide +kernel
theorem dX7_init_1 : decode cX7_init 1 = .ok (.invokespecial 3, 3) := by decide +kernel
theorem dX7_init_4 : decode cX7_init 4 = .ok (.aload_n 0, 1) := by decide +kernel
theorem dX7_init_5 : decode cX7_init 5 = .ok (.new 9, 3) := by decide +kernel
theorem dX7_init_8 : decode cX7_init 8 = .ok (.dup, 1) := by decide +kernel
theorem dX7_init_9 : decode cX7_init 9 = .ok (.invokespecial 11, 3) := by decide +kernel
theorem dX7_init_12 : decode cX7_init 12 = .ok (.putfield 12, 3) := by decide +kernel
theorem dX7_init_15 : decode cX7_init 15 = .ok (.aload_n 0, 1) := by decide +kernel
theorem dX7_init_16 : decode cX7_init 16 = .ok (.new 9, 3) := by decide +kernel
theorem dX7_init_19 : decode cX7_init 19 = .ok (.dup, 1) := by decide +kernel
theorem dX7_init_20 : decode cX7_init 20 = .ok (.invokespecial 11, 3) := by decide +kernel
theorem dX7_init_23 : decode cX7_init 23 = .ok (.putfield 18, 3) := by decide +kernel
theorem dX7_init_26 : decode cX7_init 26 = .ok (.aload_n 0, 1) := by decide +kernel
theorem dX7_init_27 : decode cX7_init 27 = .ok (.bipush 13, 2) := by decide +kernel
theorem dX7_init_29 : decode cX7_init 29 = .ok (.bipush 13, 2) := by decide +kernel
theorem dX7_init_31 : decode cX7_init 31 = .ok (.multianewarray 21 2, 4) := by decide +kernel
theorem dX7_init_35 : decode cX7_init 35 = .ok (.putfield 23, 3) := by decide +kernel
theorem dX7_init_38 : decode cX7_init 38 = .ok (.aload_n 0, 1) := by decide +kernel
theorem dX7_init_39 : decode cX7_init 39 = .ok (.bipush 24, 2) := by decide +kernel
theorem dX7_init_41 : decode cX7_init 41 = .ok (.newarray .int, 2) := by decide +kernel
theorem dX7_init_43 : decode cX7_init 43 = .ok (.putfield 26, 3) := by decide +kernel
theorem dX7_init_46 : decode cX7_init 46 = .ok (.aload_n 0, 1) := by decide +kernel
theorem dX7_init_47 : decode cX7_init 47 = .ok (.bipush 24, 2) := by decide +kernel
theorem dX7_init_49 : decode cX7_init 49 = .ok (.newarray .int, 2) := by decide +kernel
theorem dX7_init_51 : decode cX7_init 51 = .ok (.putfield 30, 3) := by decide +kernel
theorem dX7_init_54 : decode cX7_init 54 = .ok (.aload_n 0, 1) := by decide +kernel
theorem dX7_init_55 : decode cX7_init 55 = .ok (.iconst 0, 1) := by decide +kernel
theorem dX7_init_56 : decode cX7_init 56 = .ok (.putfield 33, 3) := by decide +kernel
theorem dX7_init_59 : decode cX7_init 59 = .ok (.aload_n 0, 1) := by decide +kernel
theorem dX7_init_60 : decode cX7_init 60 = .ok (.aload_n 1, 1) := by decide +kernel
theorem dX7_init_61 : decode cX7_init 61 = .ok (.putfield 37, 3) := by decide +kernel
theorem dX7_init_64 : decode cX7_init 64 = .ok (.return_, 1) := by decide +kernel
theorem dX7_measure_0 : decode cX7_measure 0 = .ok (.aload_n 0, 1) := by decide +kernel
theorem dX7_measure_1 : decode cX7_measure 1 = .ok (.getfield 12, 3) := by decide +kernel
theorem dX7_measure_4 : decode cX7_measure 4 = .ok (.aload_n 1, 1) := by decide +kernel
theorem dX7_measure_5 : decode cX7_measure 5 = .ok (.invokevirtual 41, 3) := by decide +kernel
theorem dX7_measure_8 : decode cX7_measure 8 = .ok (.aload_n 0, 1) := by decide +kernel
theorem dX7_measure_9 : decode cX7_measure 9 = .ok (.getfield 18, 3) := by decide +kernel
theorem dX7_measure_12 : decode cX7_measure 12 = .ok (.aload_n 2, 1) := by decide +kernel
theorem dX7_measure_13 : decode cX7_measure 13 = .ok (.invokevirtual 41, 3) := by decide +kernel
theorem dX7_measure_16 : decode cX7_measure 16 = .ok (.aload_n 0, 1) := by decide +kernel
theorem dX7_measure_17 : decode cX7_measure 17 = .ok (.invokevirtual 45, 3) := by decide +kernel
theorem dX7_measure_20 : decode cX7_measure 20 = .ok (.aload_n 0, 1) := by decide +kernel
theorem dX7_measure_21 : decode cX7_measure 21 = .ok (.aload_n 0, 1) := by decide +kernel
theorem dX7_measure_22 : decode cX7_measure 22 = .ok (.getfield 12, 3) := by decide +kernel
theorem dX7_measure_25 : decode cX7_measure 25 = .ok (.getfield 48, 3) := by decide +kernel
theorem dX7_measure_28 : decode cX7_measure 28 = .ok (.invokevirtual 51, 3) := by decide +kernel
theorem dX7_measure_31 : decode cX7_measure 31 = .ok (.ireturn, 1) := by decide +kernel
theorem dX7_measureMirrored_0 : decode cX7_measureMirrored 0 = .ok (.aload_n 0, 1) := by decide +kernel
theorem dX7_measureMirrored_1 : decode cX7_measureMirrored 1 = .ok (.getfield 12, 3) := by decide +kernel
theorem dX7_measureMirrored_4 : decode cX7_measureMirrored 4 = .ok (.aload_n 1, 1) := by decide +kernel
theorem dX7_measureMirrored_5 : decode cX7_measureMirrored 5 = .ok (.invokevirtual 55, 3) := by decide +kernel
theorem dX7_measureMirrored_8 : decode cX7_measureMirrored 8 = .ok (.aload_n 0, 1) := by decide +kernel
theorem dX7_measureMirrored_9 : decode cX7_measureMirrored 9 = .ok (.getfield 18, 3) := by decide +kernel
theorem dX7_measureMirrored_12 : decode cX7_measureMirrored 12 = .ok (.aload_n 2, 1) := by decide +kernel
theorem dX7_measureMirrored_13 : decode cX7_measureMirrored 13 = .ok (.invokevirtual 55, 3) := by decide +kernel
theorem dX7_measureMirrored_16 : decode cX7_measureMirrored 16 = .ok (.aload_n 0, 1) := by decide +kernel
theorem dX7_measureMirrored_17 : decode cX7_measureMirrored 17 = .ok (.invokevirtual 45, 3) := by decide +kernel
theorem dX7_measureMirrored_20 : decode cX7_measureMirrored 20 = .ok (.return_, 1) := by decide +kernel
theorem dX7_priceOfFirst_0 : decode cX7_priceOfFirst 0 = .ok (.iload_n 1, 1) := by decide +kernel
theorem dX7_priceOfFirst_1 : decode cX7_priceOfFirst 1 = .ok (.ifCond .lt 14, 3) := by decide +kernel
theorem dX7_priceOfFirst_4 : decode cX7_priceOfFirst 4 = .ok (.iload_n 1, 1) := by decide +kernel
theorem dX7_priceOfFirst_5 : decode cX7_priceOfFirst 5 = .ok (.aload_n 0, 1) := by decide +kernel
theorem dX7_priceOfFirst_6 : decode cX7_priceOfFirst 6 = .ok (.getfield 12, 3) := by decide +kernel
theorem dX7_priceOfFirst_9 : decode cX7_priceOfFirst 9 = .ok (.getfield 48, 3) := by decide +kernel
theorem dX7_priceOfFirst_12 : decode cX7_priceOfFirst 12 = .ok (.if_icmp .le 8, 3) := by decide +kernel
theorem dX7_priceOfFirst_15 : decode cX7_priceOfFirst 15 = .ok (.ldc 58, 2) := by decide +kernel
theorem dX7_priceOfFirst_17 : decode cX7_priceOfFirst 17 = .ok (.goto 17, 3) := by decide +kernel
theorem dX7_priceOfFirst_20 : decode cX7_priceOfFirst 20 = .ok (.aload_n 0, 1) := by decide +kernel
theorem dX7_priceOfFirst_21 : decode cX7_priceOfFirst 21 = .ok (.getfield 23, 3) := by decide +kernel
theorem dX7_priceOfFirst_24 : decode cX7_priceOfFirst 24 = .ok (.iload_n 1, 1) := by decide +kernel
theorem dX7_priceOfFirst_25 : decode cX7_priceOfFirst 25 = .ok (.aaload, 1) := by decide +kernel
theorem dX7_priceOfFirst_26 : decode cX7_priceOfFirst 26 = .ok (.aload_n 0, 1) := by decide +kernel
theorem dX7_priceOfFirst_27 : decode cX7_priceOfFirst 27 = .ok (.getfield 18, 3) := by decide +kernel
theorem dX7_priceOfFirst_30 : decode cX7_priceOfFirst 30 = .ok (.getfield 48, 3) := by decide +kernel
theorem dX7_priceOfFirst_33 : decode cX7_priceOfFirst 33 = .ok (.iaload, 1) := by decide +kernel
theorem dX7_priceOfFirst_34 : decode cX7_priceOfFirst 34 = .ok (.ireturn, 1) := by decide +kernel
theorem dX7_leastOfBeginnings_0 : decode cX7_leastOfBeginnings 0 = .ok (.ldc 58, 2) := by decide +kernel
theorem dX7_leastOfBeginnings_2 : decode cX7_leastOfBeginnings 2 = .ok (.istore_n 1, 1) := by decide +kernel
theorem dX7_leastOfBeginnings_3 : decode cX7_leastOfBeginnings 3 = .ok (.iconst 0, 1) := by decide +kernel
theorem dX7_leastOfBeginnings_4 : decode cX7_leastOfBeginnings 4 = .ok (.istore_n 2, 1) := by decide +kernel
theorem dX7_leastOfBeginnings_5 : decode cX7_leastOfBeginnings 5 = .ok (.iload_n 2, 1) := by decide +kernel
theorem dX7_leastOfBeginnings_6 : decode cX7_leastOfBeginnings 6 = .ok (.aload_n 0, 1) := by decide +kernel
theorem dX7_leastOfBeginnings_7 : decode cX7_leastOfBeginnings 7 = .ok (.getfield 18, 3) := by decide +kernel
theorem dX7_leastOfBeginnings_10 : decode cX7_leastOfBeginnings 10 = .ok (.getfield 48, 3) := by decide +kernel
theorem dX7_leastOfBeginnings_13 : decode cX7_leastOfBeginnings 13 = .ok (.if_icmp .gt 28, 3) := by decide +kernel
theorem dX7_leastOfBeginnings_16 : decode cX7_leastOfBeginnings 16 = .ok (.iload_n 1, 1) := by decide +kernel
theorem dX7_leastOfBeginnings_17 : decode cX7_leastOfBeginnings 17 = .ok (.aload_n 0, 1) := by decide +kernel
theorem dX7_leastOfBeginnings_18 : decode cX7_leastOfBeginnings 18 = .ok (.getfield 23, 3) := by decide +kernel
theorem dX7_leastOfBeginnings_21 : decode cX7_leastOfBeginnings 21 = .ok (.aload_n 0, 1) := by decide +kernel
theorem dX7_leastOfBeginnings_22 : decode cX7_leastOfBeginnings 22 = .ok (.getfield 12, 3) := by decide +kernel
theorem dX7_leastOfBeginnings_25 : decode cX7_leastOfBeginnings 25 = .ok (.getfield 48, 3) := by decide +kernel
theorem dX7_leastOfBeginnings_28 : decode cX7_leastOfBeginnings 28 = .ok (.aaload, 1) := by decide +kernel
theorem dX7_leastOfBeginnings_29 : decode cX7_leastOfBeginnings 29 = .ok (.iload_n 2, 1) := by decide +kernel
theorem dX7_leastOfBeginnings_30 : decode cX7_leastOfBeginnings 30 = .ok (.iaload, 1) := by decide +kernel
theorem dX7_leastOfBeginnings_31 : decode cX7_leastOfBeginnings 31 = .ok (.invokestatic 59, 3) := by decide +kernel
theorem dX7_leastOfBeginnings_34 : decode cX7_leastOfBeginnings 34 = .ok (.istore_n 1, 1) := by decide +kernel
theorem dX7_leastOfBeginnings_35 : decode cX7_leastOfBeginnings 35 = .ok (.iinc 2 1, 3) := by decide +kernel
theorem dX7_leastOfBeginnings_38 : decode cX7_leastOfBeginnings 38 = .ok (.goto (-33), 3) := by decide +kernel
theorem dX7_leastOfBeginnings_41 : decode cX7_leastOfBeginnings 41 = .ok (.iload_n 1, 1) := by decide +kernel
theorem dX7_leastOfBeginnings_42 : decode cX7_leastOfBeginnings 42 = .ok (.ireturn, 1) := by decide +kernel
theorem dX7_trace_0 : decode cX7_trace 0 = .ok (.aload_n 0, 1) := by decide +kernel
theorem dX7_trace_1 : decode cX7_trace 1 = .ok (.iconst 0, 1) := by decide +kernel
theorem dX7_trace_2 : decode cX7_trace 2 = .ok (.putfield 33, 3) := by decide +kernel
theorem dX7_trace_5 : decode cX7_trace 5 = .ok (.aload_n 0, 1) := by decide +kernel
theorem dX7_trace_6 : decode cX7_trace 6 = .ok (.getfield 12, 3) := by decide +kernel
theorem dX7_trace_9 : decode cX7_trace 9 = .ok (.getfield 48, 3) := by decide +kernel
theorem dX7_trace_12 : decode cX7_trace 12 = .ok (.istore_n 1, 1) := by decide +kernel
theorem dX7_trace_13 : decode cX7_trace 13 = .ok (.aload_n 0, 1) := by decide +kernel
theorem dX7_trace_14 : decode cX7_trace 14 = .ok (.getfield 18, 3) := by decide +kernel
theorem dX7_trace_17 : decode cX7_trace 17 = .ok (.getfield 48, 3) := by decide +kernel
theorem dX7_trace_20 : decode cX7_trace 20 = .ok (.istore_n 2, 1) := by decide +kernel
theorem dX7_trace_21 : decode cX7_trace 21 = .ok (.iconst 0, 1) := by decide +kernel
theorem dX7_trace_22 : decode cX7_trace 22 = .ok (.istore_n 3, 1) := by decide +kernel
theorem dX7_trace_23 : decode cX7_trace 23 = .ok (.iload_n 3, 1) := by decide +kernel
theorem dX7_trace_24 : decode cX7_trace 24 = .ok (.bipush 24, 2) := by decide +kernel
theorem dX7_trace_26 : decode cX7_trace 26 = .ok (.if_icmp .ge 169, 3) := by decide +kernel
theorem dX7_trace_29 : decode cX7_trace 29 = .ok (.iload_n 1, 1) := by decide +kernel
theorem dX7_trace_30 : decode cX7_trace 30 = .ok (.iload_n 2, 1) := by decide +kernel
theorem dX7_trace_31 : decode cX7_trace 31 = .ok (.iadd, 1) := by decide +kernel
theorem dX7_trace_32 : decode cX7_trace 32 = .ok (.ifCond .le 163, 3) := by decide +kernel
theorem dX7_trace_35 : decode cX7_trace 35 = .ok (.aload_n 0, 1) := by decide +kernel
theorem dX7_trace_36 : decode cX7_trace 36 = .ok (.getfield 23, 3) := by decide +kernel
theorem dX7_trace_39 : decode cX7_trace 39 = .ok (.iload_n 1, 1) := by decide +kernel
theorem dX7_trace_40 : decode cX7_trace 40 = .ok (.aaload, 1) := by decide +kernel
theorem dX7_trace_41 : decode cX7_trace 41 = .ok (.iload_n 2, 1) := by decide +kernel
theorem dX7_trace_42 : decode cX7_trace 42 = .ok (.iaload, 1) := by decide +kernel
theorem dX7_trace_43 : decode cX7_trace 43 = .ok (.istore 4, 2) := by decide +kernel
theorem dX7_trace_45 : decode cX7_trace 45 = .ok (.iload_n 1, 1) := by decide +kernel
theorem dX7_trace_46 : decode cX7_trace 46 = .ok (.ifCond .le 54, 3) := by decide +kernel
theorem dX7_trace_49 : decode cX7_trace 49 = .ok (.iload_n 2, 1) := by decide +kernel
theorem dX7_trace_50 : decode cX7_trace 50 = .ok (.ifCond .le 50, 3) := by decide +kernel
theorem dX7_trace_53 : decode cX7_trace 53 = .ok (.iload 4, 2) := by decide +kernel
theorem dX7_trace_55 : decode cX7_trace 55 = .ok (.aload_n 0, 1) := by decide +kernel
theorem dX7_trace_56 : decode cX7_trace 56 = .ok (.iload_n 1, 1) := by decide +kernel
theorem dX7_trace_57 : decode cX7_trace 57 = .ok (.iload_n 2, 1) := by decide +kernel
theorem dX7_trace_58 : decode cX7_trace 58 = .ok (.invokevirtual 65, 3) := by decide +kernel
theorem dX7_trace_61 : decode cX7_trace 61 = .ok (.if_icmp .ne 39, 3) := by decide +kernel
theorem dX7_trace_64 : decode cX7_trace 64 = .ok (.iinc 1 (-1), 3) := by decide +kernel
theorem dX7_trace_67 : decode cX7_trace 67 = .ok (.iinc 2 (-1), 3) := by decide +kernel
theorem dX7_trace_70 : decode cX7_trace 70 = .ok (.aload_n 0, 1) := by decide +kernel
theorem dX7_trace_71 : decode cX7_trace 71 = .ok (.getfield 12, 3) := by decide +kernel
theorem dX7_trace_74 : decode cX7_trace 74 = .ok (.getfield 68, 3) := by decide +kernel
theorem dX7_trace_77 : decode cX7_trace 77 = .ok (.iload_n 1, 1) := by decide +kernel
theorem dX7_trace_78 : decode cX7_trace 78 = .ok (.iaload, 1) := by decide +kernel
theorem dX7_trace_79 : decode cX7_trace 79 = .ok (.aload_n 0, 1) := by decide +kernel
theorem dX7_trace_80 : decode cX7_trace 80 = .ok (.getfield 18, 3) := by decide +kernel
theorem dX7_trace_83 : decode cX7_trace 83 = .ok (.getfield 68, 3) := by decide +kernel
theorem dX7_trace_86 : decode cX7_trace 86 = .ok (.iload_n 2, 1) := by decide +kernel
theorem dX7_trace_87 : decode cX7_trace 87 = .ok (.iaload, 1) := by decide +kernel
theorem dX7_trace_88 : decode cX7_trace 88 = .ok (.if_icmp .eq 101, 3) := by decide +kernel
theorem dX7_trace_91 : decode cX7_trace 91 = .ok (.aload_n 0, 1) := by decide +kernel
theorem dX7_trace_92 : decode cX7_trace 92 = .ok (.iconst 2, 1) := by decide +kernel
theorem dX7_trace_93 : decode cX7_trace 93 = .ok (.iload_n 1, 1) := by decide +kernel
theorem dX7_trace_94 : decode cX7_trace 94 = .ok (.invokevirtual 71, 3) := by decide +kernel
theorem dX7_trace_97 : decode cX7_trace 97 = .ok (.goto 92, 3) := by decide +kernel
theorem dX7_trace_100 : decode cX7_trace 100 = .ok (.aload_n 0, 1) := by decide +kernel
theorem dX7_trace_101 : decode cX7_trace 101 = .ok (.iload_n 1, 1) := by decide +kernel
theorem dX7_trace_102 : decode cX7_trace 102 = .ok (.iload_n 2, 1) := by decide +kernel
theorem dX7_trace_103 : decode cX7_trace 103 = .ok (.invokevirtual 75, 3) := by decide +kernel
theorem dX7_trace_106 : decode cX7_trace 106 = .ok (.ifCond .eq 29, 3) := by decide +kernel
theorem dX7_trace_109 : decode cX7_trace 109 = .ok (.iload 4, 2) := by decide +kernel
theorem dX7_trace_111 : decode cX7_trace 111 = .ok (.aload_n 0, 1) := by decide +kernel
theorem dX7_trace_112 : decode cX7_trace 112 = .ok (.iload_n 1, 1) := by decide +kernel
theorem dX7_trace_113 : decode cX7_trace 113 = .ok (.iload_n 2, 1) := by decide +kernel
theorem dX7_trace_114 : decode cX7_trace 114 = .ok (.invokevirtual 79, 3) := by decide +kernel
theorem dX7_trace_117 : decode cX7_trace 117 = .ok (.if_icmp .ne 18, 3) := by decide +kernel
theorem dX7_trace_120 : decode cX7_trace 120 = .ok (.iinc 1 (-2), 3) := by decide +kernel
theorem dX7_trace_123 : decode cX7_trace 123 = .ok (.iinc 2 (-2), 3) := by decide +kernel
theorem dX7_trace_126 : decode cX7_trace 126 = .ok (.aload_n 0, 1) := by decide +kernel
theorem dX7_trace_127 : decode cX7_trace 127 = .ok (.iconst 3, 1) := by decide +kernel
theorem dX7_trace_128 : decode cX7_trace 128 = .ok (.iload_n 1, 1) := by decide +kernel
theorem dX7_trace_129 : decode cX7_trace 129 = .ok (.invokevirtual 71, 3) := by decide +kernel
theorem dX7_trace_132 : decode cX7_trace 132 = .ok (.goto 57, 3) := by decide +kernel
theorem dX7_trace_135 : decode cX7_trace 135 = .ok (.iload_n 1, 1) := by decide +kernel
theorem dX7_trace_136 : decode cX7_trace 136 = .ok (.ifCond .le 40, 3) := by decide +kernel
theorem dX7_trace_139 : decode cX7_trace 139 = .ok (.iload 4, 2) := by decide +kernel
theorem dX7_trace_141 : decode cX7_trace 141 = .ok (.aload_n 0, 1) := by decide +kernel
theorem dX7_trace_142 : decode cX7_trace 142 = .ok (.getfield 23, 3) := by decide +kernel
theorem dX7_trace_145 : decode cX7_trace 145 = .ok (.iload_n 1, 1) := by decide +kernel
theorem dX7_trace_146 : decode cX7_trace 146 = .ok (.iconst 1, 1) := by decide +kernel
theorem dX7_trace_147 : decode cX7_trace 147 = .ok (.isub, 1) := by decide +kernel
theorem dX7_trace_148 : decode cX7_trace 148 = .ok (.aaload, 1) := by decide +kernel
theorem dX7_trace_149 : decode cX7_trace 149 = .ok (.iload_n 2, 1) := by decide +kernel
theorem dX7_trace_150 : decode cX7_trace 150 = .ok (.iaload, 1) := by decide +kernel
theorem dX7_trace_151 : decode cX7_trace 151 = .ok (.aload_n 0, 1) := by decide +kernel
theorem dX7_trace_152 : decode cX7_trace 152 = .ok (.getfield 37, 3) := by decide +kernel
theorem dX7_trace_155 : decode cX7_trace 155 = .ok (.getfield 82, 3) := by decide +kernel
theorem dX7_trace_158 : decode cX7_trace 158 = .ok (.iconst 1, 1) := by decide +kernel
theorem dX7_trace_159 : decode cX7_trace 159 = .ok (.iaload, 1) := by decide +kernel
theorem dX7_trace_160 : decode cX7_trace 160 = .ok (.iadd, 1) := by decide +kernel
theorem dX7_trace_161 : decode cX7_trace 161 = .ok (.if_icmp .ne 15, 3) := by decide +kernel
theorem dX7_trace_164 : decode cX7_trace 164 = .ok (.iinc 1 (-1), 3) := by decide +kernel
theorem dX7_trace_167 : decode cX7_trace 167 = .ok (.aload_n 0, 1) := by decide +kernel
theorem dX7_trace_168 : decode cX7_trace 168 = .ok (.iconst 1, 1) := by decide +kernel
theorem dX7_trace_169 : decode cX7_trace 169 = .ok (.iload_n 1, 1) := by decide +kernel
theorem dX7_trace_170 : decode cX7_trace 170 = .ok (.invokevirtual 71, 3) := by decide +kernel
theorem dX7_trace_173 : decode cX7_trace 173 = .ok (.goto 16, 3) := by decide +kernel
theorem dX7_trace_176 : decode cX7_trace 176 = .ok (.iload_n 2, 1) := by decide +kernel
theorem dX7_trace_177 : decode cX7_trace 177 = .ok (.ifCond .le 12, 3) := by decide +kernel
theorem dX7_trace_180 : decode cX7_trace 180 = .ok (.iinc 2 (-1), 3) := by decide +kernel
theorem dX7_trace_183 : decode cX7_trace 183 = .ok (.aload_n 0, 1) := by decide +kernel
theorem dX7_trace_184 : decode cX7_trace 184 = .ok (.iconst 0, 1) := by decide +kernel
theorem dX7_trace_185 : decode cX7_trace 185 = .ok (.iload_n 1, 1) := by decide +kernel
theorem dX7_trace_186 : decode cX7_trace 186 = .ok (.invokevirtual 71, 3) := by decide +kernel
theorem dX7_trace_189 : decode cX7_trace 189 = .ok (.iinc 3 1, 3) := by decide +kernel
theorem dX7_trace_192 : decode cX7_trace 192 = .ok (.goto (-169), 3) := by decide +kernel
theorem dX7_trace_195 : decode cX7_trace 195 = .ok (.return_, 1) := by decide +kernel
theorem dX7_kindOfEdit_0 : decode cX7_kindOfEdit 0 = .ok (.aload_n 0, 1) := by decide +kernel
theorem dX7_kindOfEdit_1 : decode cX7_kindOfEdit 1 = .ok (.getfield 26, 3) := by decide +kernel
theorem dX7_kindOfEdit_4 : decode cX7_kindOfEdit 4 = .ok (.aload_n 0, 1) := by decide +kernel
theorem dX7_kindOfEdit_5 : decode cX7_kindOfEdit 5 = .ok (.getfield 33, 3) := by decide +kernel
theorem dX7_kindOfEdit_8 : decode cX7_kindOfEdit 8 = .ok (.iconst 1, 1) := by decide +kernel
theorem dX7_kindOfEdit_9 : decode cX7_kindOfEdit 9 = .ok (.isub, 1) := by decide +kernel
theorem dX7_kindOfEdit_10 : decode cX7_kindOfEdit 10 = .ok (.iload_n 1, 1) := by decide +kernel
theorem dX7_kindOfEdit_11 : decode cX7_kindOfEdit 11 = .ok (.isub, 1) := by decide +kernel
theorem dX7_kindOfEdit_12 : decode cX7_kindOfEdit 12 = .ok (.iaload, 1) := by decide +kernel
theorem dX7_kindOfEdit_13 : decode cX7_kindOfEdit 13 = .ok (.ireturn, 1) := by decide +kernel
theorem dX7_placeOfEdit_0 : decode cX7_placeOfEdit 0 = .ok (.aload_n 0, 1) := by decide +kernel
theorem dX7_placeOfEdit_1 : decode cX7_placeOfEdit 1 = .ok (.getfield 30, 3) := by decide +kernel
theorem dX7_placeOfEdit_4 : decode cX7_placeOfEdit 4 = .ok (.aload_n 0, 1) := by decide +kernel
theorem dX7_placeOfEdit_5 : decode cX7_placeOfEdit 5 = .ok (.getfield 33, 3) := by decide +kernel
theorem dX7_placeOfEdit_8 : decode cX7_placeOfEdit 8 = .ok (.iconst 1, 1) := by decide +kernel
theorem dX7_placeOfEdit_9 : decode cX7_placeOfEdit 9 = .ok (.isub, 1) := by decide +kernel
theorem dX7_placeOfEdit_10 : decode cX7_placeOfEdit 10 = .ok (.iload_n 1, 1) := by decide +kernel
theorem dX7_placeOfEdit_11 : decode cX7_placeOfEdit 11 = .ok (.isub, 1) := by decide +kernel
theorem dX7_placeOfEdit_12 : decode cX7_placeOfEdit 12 = .ok (.iaload, 1) := by decide +kernel
theorem dX7_placeOfEdit_13 : decode cX7_placeOfEdit 13 = .ok (.ireturn, 1) := by decide +kernel
theorem dX7_note_0 : decode cX7_note 0 = .ok (.aload_n 0, 1) := by decide +kernel
theorem dX7_note_1 : decode cX7_note 1 = .ok (.getfield 26, 3) := by decide +kernel
theorem dX7_note_4 : decode cX7_note 4 = .ok (.aload_n 0, 1) := by decide +kernel
theorem dX7_note_5 : decode cX7_note 5 = .ok (.getfield 33, 3) := by decide +kernel
theorem dX7_note_8 : decode cX7_note 8 = .ok (.iload_n 1, 1) := by decide +kernel
theorem dX7_note_9 : decode cX7_note 9 = .ok (.iastore, 1) := by decide +kernel
theorem dX7_note_10 : decode cX7_note 10 = .ok (.aload_n 0, 1) := by decide +kernel
theorem dX7_note_11 : decode cX7_note 11 = .ok (.getfield 30, 3) := by decide +kernel
theorem dX7_note_14 : decode cX7_note 14 = .ok (.aload_n 0, 1) := by decide +kernel
theorem dX7_note_15 : decode cX7_note 15 = .ok (.getfield 33, 3) := by decide +kernel
theorem dX7_note_18 : decode cX7_note 18 = .ok (.iload_n 2, 1) := by decide +kernel
theorem dX7_note_19 : decode cX7_note 19 = .ok (.iastore, 1) := by decide +kernel
theorem dX7_note_20 : decode cX7_note 20 = .ok (.aload_n 0, 1) := by decide +kernel
theorem dX7_note_21 : decode cX7_note 21 = .ok (.dup, 1) := by decide +kernel
theorem dX7_note_22 : decode cX7_note 22 = .ok (.getfield 33, 3) := by decide +kernel
theorem dX7_note_25 : decode cX7_note 25 = .ok (.iconst 1, 1) := by decide +kernel
theorem dX7_note_26 : decode cX7_note 26 = .ok (.iadd, 1) := by decide +kernel
theorem dX7_note_27 : decode cX7_note 27 = .ok (.putfield 33, 3) := by decide +kernel
theorem dX7_note_30 : decode cX7_note 30 = .ok (.return_, 1) := by decide +kernel
theorem dX7_fill_0 : decode cX7_fill 0 = .ok (.aload_n 0, 1) := by decide +kernel
theorem dX7_fill_1 : decode cX7_fill 1 = .ok (.getfield 23, 3) := by decide +kernel
theorem dX7_fill_4 : decode cX7_fill 4 = .ok (.iconst 0, 1) := by decide +kernel
theorem dX7_fill_5 : decode cX7_fill 5 = .ok (.aaload, 1) := by decide +kernel
theorem dX7_fill_6 : decode cX7_fill 6 = .ok (.iconst 0, 1) := by decide +kernel
theorem dX7_fill_7 : decode cX7_fill 7 = .ok (.iconst 0, 1) := by decide +kernel
theorem dX7_fill_8 : decode cX7_fill 8 = .ok (.iastore, 1) := by decide +kernel
theorem dX7_fill_9 : decode cX7_fill 9 = .ok (.iconst 1, 1) := by decide +kernel
theorem dX7_fill_10 : decode cX7_fill 10 = .ok (.istore_n 1, 1) := by decide +kernel
theorem dX7_fill_11 : decode cX7_fill 11 = .ok (.iload_n 1, 1) := by decide +kernel
theorem dX7_fill_12 : decode cX7_fill 12 = .ok (.aload_n 0, 1) := by decide +kernel
theorem dX7_fill_13 : decode cX7_fill 13 = .ok (.getfield 18, 3) := by decide +kernel
theorem dX7_fill_16 : decode cX7_fill 16 = .ok (.getfield 48, 3) := by decide +kernel
theorem dX7_fill_19 : decode cX7_fill 19 = .ok (.if_icmp .gt 37, 3) := by decide +kernel
theorem dX7_fill_22 : decode cX7_fill 22 = .ok (.aload_n 0, 1) := by decide +kernel
theorem dX7_fill_23 : decode cX7_fill 23 = .ok (.getfield 23, 3) := by decide +kernel
theorem dX7_fill_26 : decode cX7_fill 26 = .ok (.iconst 0, 1) := by decide +kernel
theorem dX7_fill_27 : decode cX7_fill 27 = .ok (.aaload, 1) := by decide +kernel
theorem dX7_fill_28 : decode cX7_fill 28 = .ok (.iload_n 1, 1) := by decide +kernel
theorem dX7_fill_29 : decode cX7_fill 29 = .ok (.aload_n 0, 1) := by decide +kernel
theorem dX7_fill_30 : decode cX7_fill 30 = .ok (.getfield 23, 3) := by decide +kernel
theorem dX7_fill_33 : decode cX7_fill 33 = .ok (.iconst 0, 1) := by decide +kernel
theorem dX7_fill_34 : decode cX7_fill 34 = .ok (.aaload, 1) := by decide +kernel
theorem dX7_fill_35 : decode cX7_fill 35 = .ok (.iload_n 1, 1) := by decide +kernel
theorem dX7_fill_36 : decode cX7_fill 36 = .ok (.iconst 1, 1) := by decide +kernel
theorem dX7_fill_37 : decode cX7_fill 37 = .ok (.isub, 1) := by decide +kernel
theorem dX7_fill_38 : decode cX7_fill 38 = .ok (.iaload, 1) := by decide +kernel
theorem dX7_fill_39 : decode cX7_fill 39 = .ok (.aload_n 0, 1) := by decide +kernel
theorem dX7_fill_40 : decode cX7_fill 40 = .ok (.getfield 37, 3) := by decide +kernel
theorem dX7_fill_43 : decode cX7_fill 43 = .ok (.getfield 82, 3) := by decide +kernel
theorem dX7_fill_46 : decode cX7_fill 46 = .ok (.iconst 0, 1) := by decide +kernel
theorem dX7_fill_47 : decode cX7_fill 47 = .ok (.iaload, 1) := by decide +kernel
theorem dX7_fill_48 : decode cX7_fill 48 = .ok (.iadd, 1) := by decide +kernel
theorem dX7_fill_49 : decode cX7_fill 49 = .ok (.iastore, 1) := by decide +kernel
theorem dX7_fill_50 : decode cX7_fill 50 = .ok (.iinc 1 1, 3) := by decide +kernel
theorem dX7_fill_53 : decode cX7_fill 53 = .ok (.goto (-42), 3) := by decide +kernel
theorem dX7_fill_56 : decode cX7_fill 56 = .ok (.iconst 1, 1) := by decide +kernel
theorem dX7_fill_57 : decode cX7_fill 57 = .ok (.istore_n 1, 1) := by decide +kernel
theorem dX7_fill_58 : decode cX7_fill 58 = .ok (.iload_n 1, 1) := by decide +kernel
theorem dX7_fill_59 : decode cX7_fill 59 = .ok (.aload_n 0, 1) := by decide +kernel
theorem dX7_fill_60 : decode cX7_fill 60 = .ok (.getfield 12, 3) := by decide +kernel
theorem dX7_fill_63 : decode cX7_fill 63 = .ok (.getfield 48, 3) := by decide +kernel
theorem dX7_fill_66 : decode cX7_fill 66 = .ok (.if_icmp .gt 70, 3) := by decide +kernel
theorem dX7_fill_69 : decode cX7_fill 69 = .ok (.aload_n 0, 1) := by decide +kernel
theorem dX7_fill_70 : decode cX7_fill 70 = .ok (.getfield 23, 3) := by decide +kernel
theorem dX7_fill_73 : decode cX7_fill 73 = .ok (.iload_n 1, 1) := by decide +kernel
theorem dX7_fill_74 : decode cX7_fill 74 = .ok (.aaload, 1) := by decide +kernel
theorem dX7_fill_75 : decode cX7_fill 75 = .ok (.iconst 0, 1) := by decide +kernel
theorem dX7_fill_76 : decode cX7_fill 76 = .ok (.aload_n 0, 1) := by decide +kernel
theorem dX7_fill_77 : decode cX7_fill 77 = .ok (.getfield 23, 3) := by decide +kernel
theorem dX7_fill_80 : decode cX7_fill 80 = .ok (.iload_n 1, 1) := by decide +kernel
theorem dX7_fill_81 : decode cX7_fill 81 = .ok (.iconst 1, 1) := by decide +kernel
theorem dX7_fill_82 : decode cX7_fill 82 = .ok (.isub, 1) := by decide +kernel
theorem dX7_fill_83 : decode cX7_fill 83 = .ok (.aaload, 1) := by decide +kernel
theorem dX7_fill_84 : decode cX7_fill 84 = .ok (.iconst 0, 1) := by decide +kernel
theorem dX7_fill_85 : decode cX7_fill 85 = .ok (.iaload, 1) := by decide +kernel
theorem dX7_fill_86 : decode cX7_fill 86 = .ok (.aload_n 0, 1) := by decide +kernel
theorem dX7_fill_87 : decode cX7_fill 87 = .ok (.getfield 37, 3) := by decide +kernel
theorem dX7_fill_90 : decode cX7_fill 90 = .ok (.getfield 82, 3) := by decide +kernel
theorem dX7_fill_93 : decode cX7_fill 93 = .ok (.iconst 1, 1) := by decide +kernel
theorem dX7_fill_94 : decode cX7_fill 94 = .ok (.iaload, 1) := by decide +kernel
theorem dX7_fill_95 : decode cX7_fill 95 = .ok (.iadd, 1) := by decide +kernel
theorem dX7_fill_96 : decode cX7_fill 96 = .ok (.iastore, 1) := by decide +kernel
theorem dX7_fill_97 : decode cX7_fill 97 = .ok (.iconst 1, 1) := by decide +kernel
theorem dX7_fill_98 : decode cX7_fill 98 = .ok (.istore_n 2, 1) := by decide +kernel
theorem dX7_fill_99 : decode cX7_fill 99 = .ok (.iload_n 2, 1) := by decide +kernel
theorem dX7_fill_100 : decode cX7_fill 100 = .ok (.aload_n 0, 1) := by decide +kernel
theorem dX7_fill_101 : decode cX7_fill 101 = .ok (.getfield 18, 3) := by decide +kernel
theorem dX7_fill_104 : decode cX7_fill 104 = .ok (.getfield 48, 3) := by decide +kernel
theorem dX7_fill_107 : decode cX7_fill 107 = .ok (.if_icmp .gt 23, 3) := by decide +kernel
theorem dX7_fill_110 : decode cX7_fill 110 = .ok (.aload_n 0, 1) := by decide +kernel
theorem dX7_fill_111 : decode cX7_fill 111 = .ok (.getfield 23, 3) := by decide +kernel
theorem dX7_fill_114 : decode cX7_fill 114 = .ok (.iload_n 1, 1) := by decide +kernel
theorem dX7_fill_115 : decode cX7_fill 115 = .ok (.aaload, 1) := by decide +kernel
theorem dX7_fill_116 : decode cX7_fill 116 = .ok (.iload_n 2, 1) := by decide +kernel
theorem dX7_fill_117 : decode cX7_fill 117 = .ok (.aload_n 0, 1) := by decide +kernel
theorem dX7_fill_118 : decode cX7_fill 118 = .ok (.iload_n 1, 1) := by decide +kernel
theorem dX7_fill_119 : decode cX7_fill 119 = .ok (.iload_n 2, 1) := by decide +kernel
theorem dX7_fill_120 : decode cX7_fill 120 = .ok (.invokevirtual 87, 3) := by decide +kernel
theorem dX7_fill_123 : decode cX7_fill 123 = .ok (.iastore, 1) := by decide +kernel
theorem dX7_fill_124 : decode cX7_fill 124 = .ok (.iinc 2 1, 3) := by decide +kernel
theorem dX7_fill_127 : decode cX7_fill 127 = .ok (.goto (-28), 3) := by decide +kernel
theorem dX7_fill_130 : decode cX7_fill 130 = .ok (.iinc 1 1, 3) := by decide +kernel
theorem dX7_fill_133 : decode cX7_fill 133 = .ok (.goto (-75), 3) := by decide +kernel
theorem dX7_fill_136 : decode cX7_fill 136 = .ok (.return_, 1) := by decide +kernel
theorem dX7_cheapest_0 : decode cX7_cheapest 0 = .ok (.aload_n 0, 1) := by decide +kernel
theorem dX7_cheapest_1 : decode cX7_cheapest 1 = .ok (.iload_n 1, 1) := by decide +kernel
theorem dX7_cheapest_2 : decode cX7_cheapest 2 = .ok (.iload_n 2, 1) := by decide +kernel
theorem dX7_cheapest_3 : decode cX7_cheapest 3 = .ok (.invokevirtual 65, 3) := by decide +kernel
theorem dX7_cheapest_6 : decode cX7_cheapest 6 = .ok (.istore_n 3, 1) := by decide +kernel
theorem dX7_cheapest_7 : decode cX7_cheapest 7 = .ok (.iload_n 3, 1) := by decide +kernel
theorem dX7_cheapest_8 : decode cX7_cheapest 8 = .ok (.aload_n 0, 1) := by decide +kernel
theorem dX7_cheapest_9 : decode cX7_cheapest 9 = .ok (.getfield 23, 3) := by decide +kernel
theorem dX7_cheapest_12 : decode cX7_cheapest 12 = .ok (.iload_n 1, 1) := by decide +kernel
theorem dX7_cheapest_13 : decode cX7_cheapest 13 = .ok (.iconst 1, 1) := by decide +kernel
theorem dX7_cheapest_14 : decode cX7_cheapest 14 = .ok (.isub, 1) := by decide +kernel
theorem dX7_cheapest_15 : decode cX7_cheapest 15 = .ok (.aaload, 1) := by decide +kernel
theorem dX7_cheapest_16 : decode cX7_cheapest 16 = .ok (.iload_n 2, 1) := by decide +kernel
theorem dX7_cheapest_17 : decode cX7_cheapest 17 = .ok (.iaload, 1) := by decide +kernel
theorem dX7_cheapest_18 : decode cX7_cheapest 18 = .ok (.aload_n 0, 1) := by decide +kernel
theorem dX7_cheapest_19 : decode cX7_cheapest 19 = .ok (.getfield 37, 3) := by decide +kernel
theorem dX7_cheapest_22 : decode cX7_cheapest 22 = .ok (.getfield 82, 3) := by decide +kernel
theorem dX7_cheapest_25 : decode cX7_cheapest 25 = .ok (.iconst 1, 1) := by decide +kernel
theorem dX7_cheapest_26 : decode cX7_cheapest 26 = .ok (.iaload, 1) := by decide +kernel
theorem dX7_cheapest_27 : decode cX7_cheapest 27 = .ok (.iadd, 1) := by decide +kernel
theorem dX7_cheapest_28 : decode cX7_cheapest 28 = .ok (.invokestatic 59, 3) := by decide +kernel
theorem dX7_cheapest_31 : decode cX7_cheapest 31 = .ok (.istore_n 3, 1) := by decide +kernel
theorem dX7_cheapest_32 : decode cX7_cheapest 32 = .ok (.iload_n 3, 1) := by decide +kernel
theorem dX7_cheapest_33 : decode cX7_cheapest 33 = .ok (.aload_n 0, 1) := by decide +kernel
theorem dX7_cheapest_34 : decode cX7_cheapest 34 = .ok (.getfield 23, 3) := by decide +kernel
theorem dX7_cheapest_37 : decode cX7_cheapest 37 = .ok (.iload_n 1, 1) := by decide +kernel
theorem dX7_cheapest_38 : decode cX7_cheapest 38 = .ok (.aaload, 1) := by decide +kernel
theorem dX7_cheapest_39 : decode cX7_cheapest 39 = .ok (.iload_n 2, 1) := by decide +kernel
theorem dX7_cheapest_40 : decode cX7_cheapest 40 = .ok (.iconst 1, 1) := by decide +kernel
theorem dX7_cheapest_41 : decode cX7_cheapest 41 = .ok (.isub, 1) := by decide +kernel
theorem dX7_cheapest_42 : decode cX7_cheapest 42 = .ok (.iaload, 1) := by decide +kernel
theorem dX7_cheapest_43 : decode cX7_cheapest 43 = .ok (.aload_n 0, 1) := by decide +kernel
theorem dX7_cheapest_44 : decode cX7_cheapest 44 = .ok (.getfield 37, 3) := by decide +kernel
theorem dX7_cheapest_47 : decode cX7_cheapest 47 = .ok (.getfield 82, 3) := by decide +kernel
theorem dX7_cheapest_50 : decode cX7_cheapest 50 = .ok (.iconst 0, 1) := by decide +kernel
theorem dX7_cheapest_51 : decode cX7_cheapest 51 = .ok (.iaload, 1) := by decide +kernel
theorem dX7_cheapest_52 : decode cX7_cheapest 52 = .ok (.iadd, 1) := by decide +kernel
theorem dX7_cheapest_53 : decode cX7_cheapest 53 = .ok (.invokestatic 59, 3) := by decide +kernel
theorem dX7_cheapest_56 : decode cX7_cheapest 56 = .ok (.istore_n 3, 1) := by decide +kernel
theorem dX7_cheapest_57 : decode cX7_cheapest 57 = .ok (.aload_n 0, 1) := by decide +kernel
theorem dX7_cheapest_58 : decode cX7_cheapest 58 = .ok (.iload_n 1, 1) := by decide +kernel
theorem dX7_cheapest_59 : decode cX7_cheapest 59 = .ok (.iload_n 2, 1) := by decide +kernel
theorem dX7_cheapest_60 : decode cX7_cheapest 60 = .ok (.invokevirtual 75, 3) := by decide +kernel
theorem dX7_cheapest_63 : decode cX7_cheapest 63 = .ok (.ifCond .eq 16, 3) := by decide +kernel
theorem dX7_cheapest_66 : decode cX7_cheapest 66 = .ok (.iload_n 3, 1) := by decide +kernel
theorem dX7_cheapest_67 : decode cX7_cheapest 67 = .ok (.aload_n 0, 1) := by decide +kernel
theorem dX7_cheapest_68 : decode cX7_cheapest 68 = .ok (.iload_n 1, 1) := by decide +kernel
theorem dX7_cheapest_69 : decode cX7_cheapest 69 = .ok (.iload_n 2, 1) := by decide +kernel
theorem dX7_cheapest_70 : decode cX7_cheapest 70 = .ok (.invokevirtual 79, 3) := by decide +kernel
theorem dX7_cheapest_73 : decode cX7_cheapest 73 = .ok (.invokestatic 59, 3) := by decide +kernel
theorem dX7_cheapest_76 : decode cX7_cheapest 76 = .ok (.goto 4, 3) := by decide +kernel
theorem dX7_cheapest_79 : decode cX7_cheapest 79 = .ok (.iload_n 3, 1) := by decide +kernel
theorem dX7_cheapest_80 : decode cX7_cheapest 80 = .ok (.ireturn, 1) := by decide +kernel
theorem dX7_byLast_0 : decode cX7_byLast 0 = .ok (.aload_n 0, 1) := by decide +kernel
theorem dX7_byLast_1 : decode cX7_byLast 1 = .ok (.getfield 23, 3) := by decide +kernel
theorem dX7_byLast_4 : decode cX7_byLast 4 = .ok (.iload_n 1, 1) := by decide +kernel
theorem dX7_byLast_5 : decode cX7_byLast 5 = .ok (.iconst 1, 1) := by decide +kernel
theorem dX7_byLast_6 : decode cX7_byLast 6 = .ok (.isub, 1) := by decide +kernel
theorem dX7_byLast_7 : decode cX7_byLast 7 = .ok (.aaload, 1) := by decide +kernel
theorem dX7_byLast_8 : decode cX7_byLast 8 = .ok (.iload_n 2, 1) := by decide +kernel
theorem dX7_byLast_9 : decode cX7_byLast 9 = .ok (.iconst 1, 1) := by decide +kernel
theorem dX7_byLast_10 : decode cX7_byLast 10 = .ok (.isub, 1) := by decide +kernel
theorem dX7_byLast_11 : decode cX7_byLast 11 = .ok (.iaload, 1) := by decide +kernel
theorem dX7_byLast_12 : decode cX7_byLast 12 = .ok (.aload_n 0, 1) := by decide +kernel
theorem dX7_byLast_13 : decode cX7_byLast 13 = .ok (.getfield 37, 3) := by decide +kernel
theorem dX7_byLast_16 : decode cX7_byLast 16 = .ok (.aload_n 0, 1) := by decide +kernel
theorem dX7_byLast_17 : decode cX7_byLast 17 = .ok (.getfield 12, 3) := by decide +kernel
theorem dX7_byLast_20 : decode cX7_byLast 20 = .ok (.getfield 68, 3) := by decide +kernel
theorem dX7_byLast_23 : decode cX7_byLast 23 = .ok (.iload_n 1, 1) := by decide +kernel
theorem dX7_byLast_24 : decode cX7_byLast 24 = .ok (.iconst 1, 1) := by decide +kernel
theorem dX7_byLast_25 : decode cX7_byLast 25 = .ok (.isub, 1) := by decide +kernel
theorem dX7_byLast_26 : decode cX7_byLast 26 = .ok (.iaload, 1) := by decide +kernel
theorem dX7_byLast_27 : decode cX7_byLast 27 = .ok (.aload_n 0, 1) := by decide +kernel
theorem dX7_byLast_28 : decode cX7_byLast 28 = .ok (.getfield 18, 3) := by decide +kernel
theorem dX7_byLast_31 : decode cX7_byLast 31 = .ok (.getfield 68, 3) := by decide +kernel
theorem dX7_byLast_34 : decode cX7_byLast 34 = .ok (.iload_n 2, 1) := by decide +kernel
theorem dX7_byLast_35 : decode cX7_byLast 35 = .ok (.iconst 1, 1) := by decide +kernel
theorem dX7_byLast_36 : decode cX7_byLast 36 = .ok (.isub, 1) := by decide +kernel
theorem dX7_byLast_37 : decode cX7_byLast 37 = .ok (.iaload, 1) := by decide +kernel
theorem dX7_byLast_38 : decode cX7_byLast 38 = .ok (.invokevirtual 90, 3) := by decide +kernel
theorem dX7_byLast_41 : decode cX7_byLast 41 = .ok (.iadd, 1) := by decide +kernel
theorem dX7_byLast_42 : decode cX7_byLast 42 = .ok (.ireturn, 1) := by decide +kernel
theorem dX7_mayChange_0 : decode cX7_mayChange 0 = .ok (.iload_n 1, 1) := by decide +kernel
theorem dX7_mayChange_1 : decode cX7_mayChange 1 = .ok (.iconst 1, 1) := by decide +kernel
theorem dX7_mayChange_2 : decode cX7_mayChange 2 = .ok (.if_icmp .le 62, 3) := by decide +kernel
theorem dX7_mayChange_5 : decode cX7_mayChange 5 = .ok (.iload_n 2, 1) := by decide +kernel
theorem dX7_mayChange_6 : decode cX7_mayChange 6 = .ok (.iconst 1, 1) := by decide +kernel
theorem dX7_mayChange_7 : decode cX7_mayChange 7 = .ok (.if_icmp .le 57, 3) := by decide +kernel
theorem dX7_mayChange_10 : decode cX7_mayChange 10 = .ok (.aload_n 0, 1) := by decide +kernel
theorem dX7_mayChange_11 : decode cX7_mayChange 11 = .ok (.getfield 12, 3) := by decide +kernel
theorem dX7_mayChange_14 : decode cX7_mayChange 14 = .ok (.getfield 68, 3) := by decide +kernel
theorem dX7_mayChange_17 : decode cX7_mayChange 17 = .ok (.iload_n 1, 1) := by decide +kernel
theorem dX7_mayChange_18 : decode cX7_mayChange 18 = .ok (.iconst 2, 1) := by decide +kernel
theorem dX7_mayChange_19 : decode cX7_mayChange 19 = .ok (.isub, 1) := by decide +kernel
theorem dX7_mayChange_20 : decode cX7_mayChange 20 = .ok (.iaload, 1) := by decide +kernel
theorem dX7_mayChange_21 : decode cX7_mayChange 21 = .ok (.aload_n 0, 1) := by decide +kernel
theorem dX7_mayChange_22 : decode cX7_mayChange 22 = .ok (.getfield 18, 3) := by decide +kernel
theorem dX7_mayChange_25 : decode cX7_mayChange 25 = .ok (.getfield 68, 3) := by decide +kernel
theorem dX7_mayChange_28 : decode cX7_mayChange 28 = .ok (.iload_n 2, 1) := by decide +kernel
theorem dX7_mayChange_29 : decode cX7_mayChange 29 = .ok (.iconst 1, 1) := by decide +kernel
theorem dX7_mayChange_30 : decode cX7_mayChange 30 = .ok (.isub, 1) := by decide +kernel
theorem dX7_mayChange_31 : decode cX7_mayChange 31 = .ok (.iaload, 1) := by decide +kernel
theorem dX7_mayChange_32 : decode cX7_mayChange 32 = .ok (.if_icmp .ne 32, 3) := by decide +kernel
theorem dX7_mayChange_35 : decode cX7_mayChange 35 = .ok (.aload_n 0, 1) := by decide +kernel
theorem dX7_mayChange_36 : decode cX7_mayChange 36 = .ok (.getfield 12, 3) := by decide +kernel
theorem dX7_mayChange_39 : decode cX7_mayChange 39 = .ok (.getfield 68, 3) := by decide +kernel
theorem dX7_mayChange_42 : decode cX7_mayChange 42 = .ok (.iload_n 1, 1) := by decide +kernel
theorem dX7_mayChange_43 : decode cX7_mayChange 43 = .ok (.iconst 1, 1) := by decide +kernel
theorem dX7_mayChange_44 : decode cX7_mayChange 44 = .ok (.isub, 1) := by decide +kernel
theorem dX7_mayChange_45 : decode cX7_mayChange 45 = .ok (.iaload, 1) := by decide +kernel
theorem dX7_mayChange_46 : decode cX7_mayChange 46 = .ok (.aload_n 0, 1) := by decide +kernel
theorem dX7_mayChange_47 : decode cX7_mayChange 47 = .ok (.getfield 18, 3) := by decide +kernel
theorem dX7_mayChange_50 : decode cX7_mayChange 50 = .ok (.getfield 68, 3) := by decide +kernel
theorem dX7_mayChange_53 : decode cX7_mayChange 53 = .ok (.iload_n 2, 1) := by decide +kernel
theorem dX7_mayChange_54 : decode cX7_mayChange 54 = .ok (.iconst 2, 1) := by decide +kernel
theorem dX7_mayChange_55 : decode cX7_mayChange 55 = .ok (.isub, 1) := by decide +kernel
theorem dX7_mayChange_56 : decode cX7_mayChange 56 = .ok (.iaload, 1) := by decide +kernel
theorem dX7_mayChange_57 : decode cX7_mayChange 57 = .ok (.if_icmp .ne 7, 3) := by decide +kernel
theorem dX7_mayChange_60 : decode cX7_mayChange 60 = .ok (.iconst 1, 1) := by decide +kernel
theorem dX7_mayChange_61 : decode cX7_mayChange 61 = .ok (.goto 4, 3) := by decide +kernel
theorem dX7_mayChange_64 : decode cX7_mayChange 64 = .ok (.iconst 0, 1) := by decide +kernel
theorem dX7_mayChange_65 : decode cX7_mayChange 65 = .ok (.ireturn, 1) := by decide +kernel
theorem dX7_byChange_0 : decode cX7_byChange 0 = .ok (.aload_n 0, 1) := by decide +kernel
theorem dX7_byChange_1 : decode cX7_byChange 1 = .ok (.getfield 23, 3) := by decide +kernel
theorem dX7_byChange_4 : decode cX7_byChange 4 = .ok (.iload_n 1, 1) := by decide +kernel
theorem dX7_byChange_5 : decode cX7_byChange 5 = .ok (.iconst 2, 1) := by decide +kernel
theorem dX7_byChange_6 : decode cX7_byChange 6 = .ok (.isub, 1) := by decide +kernel
theorem dX7_byChange_7 : decode cX7_byChange 7 = .ok (.aaload, 1) := by decide +kernel
theorem dX7_byChange_8 : decode cX7_byChange 8 = .ok (.iload_n 2, 1) := by decide +kernel
theorem dX7_byChange_9 : decode cX7_byChange 9 = .ok (.iconst 2, 1) := by decide +kernel
theorem dX7_byChange_10 : decode cX7_byChange 10 = .ok (.isub, 1) := by decide +kernel
theorem dX7_byChange_11 : decode cX7_byChange 11 = .ok (.iaload, 1) := by decide +kernel
theorem dX7_byChange_12 : decode cX7_byChange 12 = .ok (.aload_n 0, 1) := by decide +kernel
theorem dX7_byChange_13 : decode cX7_byChange 13 = .ok (.getfield 37, 3) := by decide +kernel
theorem dX7_byChange_16 : decode cX7_byChange 16 = .ok (.getfield 82, 3) := by decide +kernel
theorem dX7_byChange_19 : decode cX7_byChange 19 = .ok (.iconst 3, 1) := by decide +kernel
theorem dX7_byChange_20 : decode cX7_byChange 20 = .ok (.iaload, 1) := by decide +kernel
theorem dX7_byChange_21 : decode cX7_byChange 21 = .ok (.iadd, 1) := by decide +kernel
theorem dX7_byChange_22 : decode cX7_byChange 22 = .ok (.ireturn, 1) := by decide +kernel
theorem dX8_init_0 : decode cX8_init 0 = .ok (.aload_n 0, 1) := by decide +kernel
theorem dX8_init_1 : decode cX8_init 1 = .ok (.invokespecial 3, 3) := by decide +kernel
theorem dX8_init_4 : decode cX8_init 4 = .ok (.aload_n 0, 1) := by decide +kernel
theorem dX8_init_5 : decode cX8_init 5 = .ok (.bipush 60, 2) := by decide +kernel
theorem dX8_init_7 : decode cX8_init 7 = .ok (.anewarray 9, 3) := by decide +kernel
theorem dX8_init_10 : decode cX8_init 10 = .ok (.putfield 11, 3) := by decide +kernel
theorem dX8_init_13 : decode cX8_init 13 = .ok (.aload_n 0, 1) := by decide +kernel
theorem dX8_init_14 : decode cX8_init 14 = .ok (.bipush 60, 2) := by decide +kernel
theorem dX8_init_16 : decode cX8_init 16 = .ok (.newarray .int, 2) := by decide +kernel
theorem dX8_init_18 : decode cX8_init 18 = .ok (.putfield 17, 3) := by decide +kernel
theorem dX8_init_21 : decode cX8_init 21 = .ok (.aload_n 0, 1) := by decide +kernel
theorem dX8_init_22 : decode cX8_init 22 = .ok (.bipush 60, 2) := by decide +kernel
theorem dX8_init_24 : decode cX8_init 24 = .ok (.newarray .int, 2) := by decide +kernel
theorem dX8_init_26 : decode cX8_init 26 = .ok (.putfield 21, 3) := by decide +kernel
theorem dX8_init_29 : decode cX8_init 29 = .ok (.aload_n 0, 1) := by decide +kernel
theorem dX8_init_30 : decode cX8_init 30 = .ok (.sipush 3600, 3) := by decide +kernel
theorem dX8_init_33 : decode cX8_init 33 = .ok (.newarray .boolean, 2) := by decide +kernel
theorem dX8_init_35 : decode cX8_init 35 = .ok (.putfield 24, 3) := by decide +kernel
theorem dX8_init_38 : decode cX8_init 38 = .ok (.aload_n 0, 1) := by decide +kernel
theorem dX8_init_39 : decode cX8_init 39 = .ok (.iconst 0, 1) := by decide +kernel
theorem dX8_init_40 : decode cX8_init 40 = .ok (.putfield 28, 3) := by decide +kernel
theorem dX8_init_43 : decode cX8_init 43 = .ok (.iconst 0, 1) := by decide +kernel
theorem dX8_init_44 : decode cX8_init 44 = .ok (.istore_n 1, 1) := by decide +kernel
theorem dX8_init_45 : decode cX8_init 45 = .ok (.iload_n 1, 1) := by decide +kernel
theorem dX8_init_46 : decode cX8_init 46 = .ok (.bipush 60, 2) := by decide +kernel
theorem dX8_init_48 : decode cX8_init 48 = .ok (.if_icmp .ge 22, 3) := by decide +kernel
theorem dX8_init_51 : decode cX8_init 51 = .ok (.aload_n 0, 1) := by decide +kernel
theorem dX8_init_52 : decode cX8_init 52 = .ok (.getfield 11, 3) := by decide +kernel
theorem dX8_init_55 : decode cX8_init 55 = .ok (.iload_n 1, 1) := by decide +kernel
theorem dX8_init_56 : decode cX8_init 56 = .ok (.new 9, 3) := by decide +kernel
theorem dX8_init_59 : decode cX8_init 59 = .ok (.dup, 1) := by decide +kernel
theorem dX8_init_60 : decode cX8_init 60 = .ok (.invokespecial 32, 3) := by decide +kernel
theorem dX8_init_63 : decode cX8_init 63 = .ok (.aastore, 1) := by decide +kernel
theorem dX8_init_64 : decode cX8_init 64 = .ok (.iinc 1 1, 3) := by decide +kernel
theorem dX8_init_67 : decode cX8_init 67 = .ok (.goto (-22), 3) := by decide +kernel
theorem dX8_init_70 : decode cX8_init 70 = .ok (.return_, 1) := by decide +kernel
theorem dX8_has_0 : decode cX8_has 0 = .ok (.iload_n 1, 1) := by decide +kernel
theorem dX8_has_1 : decode cX8_has 1 = .ok (.ifCond .lt 15, 3) := by decide +kernel
theorem dX8_has_4 : decode cX8_has 4 = .ok (.iload_n 1, 1) := by decide +kernel
theorem dX8_has_5 : decode cX8_has 5 = .ok (.aload_n 0, 1) := by decide +kernel
theorem dX8_has_6 : decode cX8_has 6 = .ok (.getfield 28, 3) := by decide +kernel
theorem dX8_has_9 : decode cX8_has 9 = .ok (.if_icmp .ge 7, 3) := by decide +kernel
theorem dX8_has_12 : decode cX8_has 12 = .ok (.iconst 1, 1) := by decide +kernel
theorem dX8_has_13 : decode cX8_has 13 = .ok (.goto 4, 3) := by decide +kernel
theorem dX8_has_16 : decode cX8_has 16 = .ok (.iconst 0, 1) := by decide +kernel
theorem dX8_has_17 : decode cX8_has 17 = .ok (.ireturn, 1) := by decide +kernel
theorem dX8_hasRow_0 : decode cX8_hasRow 0 = .ok (.iconst 0, 1) := by decide +kernel
theorem dX8_hasRow_1 : decode cX8_hasRow 1 = .ok (.istore_n 2, 1) := by decide +kernel
theorem dX8_hasRow_2 : decode cX8_hasRow 2 = .ok (.iload_n 2, 1) := by decide +kernel
theorem dX8_hasRow_3 : decode cX8_hasRow 3 = .ok (.aload_n 0, 1) := by decide +kernel
theorem dX8_hasRow_4 : decode cX8_hasRow 4 = .ok (.getfield 28, 3) := by decide +kernel
theorem dX8_hasRow_7 : decode cX8_hasRow 7 = .ok (.if_icmp .ge 24, 3) := by decide +kernel
theorem dX8_hasRow_10 : decode cX8_hasRow 10 = .ok (.aload_n 0, 1) := by decide +kernel
theorem dX8_hasRow_11 : decode cX8_hasRow 11 = .ok (.getfield 11, 3) := by decide +kernel
theorem dX8_hasRow_14 : decode cX8_hasRow 14 = .ok (.iload_n 2, 1) := by decide +kernel
theorem dX8_hasRow_15 : decode cX8_hasRow 15 = .ok (.aaload, 1) := by decide +kernel
theorem dX8_hasRow_16 : decode cX8_hasRow 16 = .ok (.aload_n 1, 1) := by decide +kernel
theorem dX8_hasRow_17 : decode cX8_hasRow 17 = .ok (.invokevirtual 33, 3) := by decide +kernel
theorem dX8_hasRow_20 : decode cX8_hasRow 20 = .ok (.ifCond .ne 5, 3) := by decide +kernel
theorem dX8_hasRow_23 : decode cX8_hasRow 23 = .ok (.iconst 1, 1) := by decide +kernel
theorem dX8_hasRow_24 : decode cX8_hasRow 24 = .ok (.ireturn, 1) := by decide +kernel
theorem dX8_hasRow_25 : decode cX8_hasRow 25 = .ok (.iinc 2 1, 3) := by decide +kernel
theorem dX8_hasRow_28 : decode cX8_hasRow 28 = .ok (.goto (-26), 3) := by decide +kernel
theorem dX8_hasRow_31 : decode cX8_hasRow 31 = .ok (.iconst 0, 1) := by decide +kernel
theorem dX8_hasRow_32 : decode cX8_hasRow 32 = .ok (.ireturn, 1) := by decide +kernel
theorem dX8_add_0 : decode cX8_add 0 = .ok (.aload_n 0, 1) := by decide +kernel
theorem dX8_add_1 : decode cX8_add 1 = .ok (.getfield 28, 3) := by decide +kernel
theorem dX8_add_4 : decode cX8_add 4 = .ok (.istore_n 3, 1) := by decide +kernel
theorem dX8_add_5 : decode cX8_add 5 = .ok (.aload_n 0, 1) := by decide +kernel
theorem dX8_add_6 : decode cX8_add 6 = .ok (.getfield 11, 3) := by decide +kernel
theorem dX8_add_9 : decode cX8_add 9 = .ok (.iload_n 3, 1) := by decide +kernel
theorem dX8_add_10 : decode cX8_add 10 = .ok (.aaload, 1) := by decide +kernel
theorem dX8_add_11 : decode cX8_add 11 = .ok (.aload_n 1, 1) := by decide +kernel
theorem dX8_add_12 : decode cX8_add 12 = .ok (.invokevirtual 37, 3) := by decide +kernel
theorem dX8_add_15 : decode cX8_add 15 = .ok (.aload_n 0, 1) := by decide +kernel
theorem dX8_add_16 : decode cX8_add 16 = .ok (.getfield 17, 3) := by decide +kernel
theorem dX8_add_19 : decode cX8_add 19 = .ok (.iload_n 3, 1) := by decide +kernel
theorem dX8_add_20 : decode cX8_add 20 = .ok (.iload_n 2, 1) := by decide +kernel
theorem dX8_add_21 : decode cX8_add 21 = .ok (.iastore, 1) := by decide +kernel
theorem dX8_add_22 : decode cX8_add 22 = .ok (.aload_n 0, 1) := by decide +kernel
theorem dX8_add_23 : decode cX8_add 23 = .ok (.getfield 28, 3) := by decide +kernel
theorem dX8_add_26 : decode cX8_add 26 = .ok (.istore 4, 2) := by decide +kernel
theorem dX8_add_28 : decode cX8_add 28 = .ok (.iload 4, 2) := by decide +kernel
theorem dX8_add_30 : decode cX8_add 30 = .ok (.ifCond .le 46, 3) := by decide +kernel
theorem dX8_add_33 : decode cX8_add 33 = .ok (.aload_n 1, 1) := by decide +kernel
theorem dX8_add_34 : decode cX8_add 34 = .ok (.aload_n 0, 1) := by decide +kernel
theorem dX8_add_35 : decode cX8_add 35 = .ok (.getfield 11, 3) := by decide +kernel
theorem dX8_add_38 : decode cX8_add 38 = .ok (.aload_n 0, 1) := by decide +kernel
theorem dX8_add_39 : decode cX8_add 39 = .ok (.getfield 21, 3) := by decide +kernel
theorem dX8_add_42 : decode cX8_add 42 = .ok (.iload 4, 2) := by decide +kernel
theorem dX8_add_44 : decode cX8_add 44 = .ok (.iconst 1, 1) := by decide +kernel
theorem dX8_add_45 : decode cX8_add 45 = .ok (.isub, 1) := by decide +kernel
theorem dX8_add_46 : decode cX8_add 46 = .ok (.iaload, 1) := by decide +kernel
theorem dX8_add_47 : decode cX8_add 47 = .ok (.aaload, 1) := by decide +kernel
theorem dX8_add_48 : decode cX8_add 48 = .ok (.invokevirtual 33, 3) := by decide +kernel
theorem dX8_add_51 : decode cX8_add 51 = .ok (.ifCond .ge 25, 3) := by decide +kernel
theorem dX8_add_54 : decode cX8_add 54 = .ok (.aload_n 0, 1) := by decide +kernel
theorem dX8_add_55 : decode cX8_add 55 = .ok (.getfield 21, 3) := by decide +kernel
theorem dX8_add_58 : decode cX8_add 58 = .ok (.iload 4, 2) := by decide +kernel
theorem dX8_add_60 : decode cX8_add 60 = .ok (.aload_n 0, 1) := by decide +kernel
theorem dX8_add_61 : decode cX8_add 61 = .ok (.getfield 21, 3) := by decide +kernel
theorem dX8_add_64 : decode cX8_add 64 = .ok (.iload 4, 2) := by decide +kernel
theorem dX8_add_66 : decode cX8_add 66 = .ok (.iconst 1, 1) := by decide +kernel
theorem dX8_add_67 : decode cX8_add 67 = .ok (.isub, 1) := by decide +kernel
theorem dX8_add_68 : decode cX8_add 68 = .ok (.iaload, 1) := by decide +kernel
theorem dX8_add_69 : decode cX8_add 69 = .ok (.iastore, 1) := by decide +kernel
theorem dX8_add_70 : decode cX8_add 70 = .ok (.iinc 4 (-1), 3) := by decide +kernel
theorem dX8_add_73 : decode cX8_add 73 = .ok (.goto (-45), 3) := by decide +kernel
theorem dX8_add_76 : decode cX8_add 76 = .ok (.aload_n 0, 1) := by decide +kernel
theorem dX8_add_77 : decode cX8_add 77 = .ok (.getfield 21, 3) := by decide +kernel
theorem dX8_add_80 : decode cX8_add 80 = .ok (.iload 4, 2) := by decide +kernel
theorem dX8_add_82 : decode cX8_add 82 = .ok (.iload_n 3, 1) := by decide +kernel
theorem dX8_add_83 : decode cX8_add 83 = .ok (.iastore, 1) := by decide +kernel
theorem dX8_add_84 : decode cX8_add 84 = .ok (.aload_n 0, 1) := by decide +kernel
theorem dX8_add_85 : decode cX8_add 85 = .ok (.dup, 1) := by decide +kernel
theorem dX8_add_86 : decode cX8_add 86 = .ok (.getfield 28, 3) := by decide +kernel
theorem dX8_add_89 : decode cX8_add 89 = .ok (.iconst 1, 1) := by decide +kernel
theorem dX8_add_90 : decode cX8_add 90 = .ok (.iadd, 1) := by decide +kernel
theorem dX8_add_91 : decode cX8_add 91 = .ok (.putfield 28, 3) := by decide +kernel
theorem dX8_add_94 : decode cX8_add 94 = .ok (.iload_n 3, 1) := by decide +kernel
theorem dX8_add_95 : decode cX8_add 95 = .ok (.ireturn, 1) := by decide +kernel
theorem dX8_rankOf_0 : decode cX8_rankOf 0 = .ok (.iconst 0, 1) := by decide +kernel
theorem dX8_rankOf_1 : decode cX8_rankOf 1 = .ok (.istore_n 2, 1) := by decide +kernel
theorem dX8_rankOf_2 : decode cX8_rankOf 2 = .ok (.iconst 0, 1) := by decide +kernel
theorem dX8_rankOf_3 : decode cX8_rankOf 3 = .ok (.istore_n 3, 1) := by decide +kernel
theorem dX8_rankOf_4 : decode cX8_rankOf 4 = .ok (.iload_n 3, 1) := by decide +kernel
theorem dX8_rankOf_5 : decode cX8_rankOf 5 = .ok (.aload_n 0, 1) := by decide +kernel
theorem dX8_rankOf_6 : decode cX8_rankOf 6 = .ok (.getfield 28, 3) := by decide +kernel
theorem dX8_rankOf_9 : decode cX8_rankOf 9 = .ok (.if_icmp .ge 22, 3) := by decide +kernel
theorem dX8_rankOf_12 : decode cX8_rankOf 12 = .ok (.aload_n 0, 1) := by decide +kernel
theorem dX8_rankOf_13 : decode cX8_rankOf 13 = .ok (.getfield 21, 3) := by decide +kernel
theorem dX8_rankOf_16 : decode cX8_rankOf 16 = .ok (.iload_n 3, 1) := by decide +kernel
theorem dX8_rankOf_17 : decode cX8_rankOf 17 = .ok (.iaload, 1) := by decide +kernel
theorem dX8_rankOf_18 : decode cX8_rankOf 18 = .ok (.iload_n 1, 1) := by decide +kernel
theorem dX8_rankOf_19 : decode cX8_rankOf 19 = .ok (.if_icmp .eq 12, 3) := by decide +kernel
theorem dX8_rankOf_22 : decode cX8_rankOf 22 = .ok (.iinc 2 1, 3) := by decide +kernel
theorem dX8_rankOf_25 : decode cX8_rankOf 25 = .ok (.iinc 3 1, 3) := by decide +kernel
theorem dX8_rankOf_28 : decode cX8_rankOf 28 = .ok (.goto (-24), 3) := by decide +kernel
theorem dX8_rankOf_31 : decode cX8_rankOf 31 = .ok (.iload_n 2, 1) := by decide +kernel
theorem dX8_rankOf_32 : decode cX8_rankOf 32 = .ok (.ireturn, 1) := by decide +kernel
theorem dX8_isPair_0 : decode cX8_isPair 0 = .ok (.aload_n 0, 1) := by decide +kernel
theorem dX8_isPair_1 : decode cX8_isPair 1 = .ok (.getfield 24, 3) := by decide +kernel
theorem dX8_isPair_4 : decode cX8_isPair 4 = .ok (.iload_n 1, 1) := by decide +kernel
theorem dX8_isPair_5 : decode cX8_isPair 5 = .ok (.bipush 60, 2) := by decide +kernel
theorem dX8_isPair_7 : decode cX8_isPair 7 = .ok (.imul, 1) := by decide +kernel
theorem dX8_isPair_8 : decode cX8_isPair 8 = .ok (.iload_n 2, 1) := by decide +kernel
theorem dX8_isPair_9 : decode cX8_isPair 9 = .ok (.iadd, 1) := by decide +kernel
theorem dX8_isPair_10 : decode cX8_isPair 10 = .ok (.baload, 1) := by decide +kernel
theorem dX8_isPair_11 : decode cX8_isPair 11 = .ok (.ireturn, 1) := by decide +kernel
theorem dX8_setPair_0 : decode cX8_setPair 0 = .ok (.aload_n 0, 1) := by decide +kernel
theorem dX8_setPair_1 : decode cX8_setPair 1 = .ok (.iload_n 1, 1) := by decide +kernel
theorem dX8_setPair_2 : decode cX8_setPair 2 = .ok (.iload_n 2, 1) := by decide +kernel
theorem dX8_setPair_3 : decode cX8_setPair 3 = .ok (.invokevirtual 41, 3) := by decide +kernel
theorem dX8_setPair_6 : decode cX8_setPair 6 = .ok (.istore 4, 2) := by decide +kernel
theorem dX8_setPair_8 : decode cX8_setPair 8 = .ok (.aload_n 0, 1) := by decide +kernel
theorem dX8_setPair_9 : decode cX8_setPair 9 = .ok (.getfield 24, 3) := by decide +kernel
theorem dX8_setPair_12 : decode cX8_setPair 12 = .ok (.iload_n 1, 1) := by decide +kernel
theorem dX8_setPair_13 : decode cX8_setPair 13 = .ok (.bipush 60, 2) := by decide +kernel
theorem dX8_setPair_15 : decode cX8_setPair 15 = .ok (.imul, 1) := by decide +kernel
theorem dX8_setPair_16 : decode cX8_setPair 16 = .ok (.iload_n 2, 1) := by decide +kernel
theorem dX8_setPair_17 : decode cX8_setPair 17 = .ok (.iadd, 1) := by decide +kernel
theorem dX8_setPair_18 : decode cX8_setPair 18 = .ok (.iload_n 3, 1) := by decide +kernel
theorem dX8_setPair_19 : decode cX8_setPair 19 = .ok (.bastore, 1) := by decide +kernel
theorem dX8_setPair_20 : decode cX8_setPair 20 = .ok (.iload 4, 2) := by decide +kernel
theorem dX8_setPair_22 : decode cX8_setPair 22 = .ok (.iload_n 3, 1) := by decide +kernel
theorem dX8_setPair_23 : decode cX8_setPair 23 = .ok (.if_icmp .eq 7, 3) := by decide +kernel
theorem dX8_setPair_26 : decode cX8_setPair 26 = .ok (.iconst 1, 1) := by decide +kernel
theorem dX8_setPair_27 : decode cX8_setPair 27 = .ok (.goto 4, 3) := by decide +kernel
theorem dX8_setPair_30 : decode cX8_setPair 30 = .ok (.iconst 0, 1) := by decide +kernel
theorem dX8_setPair_31 : decode cX8_setPair 31 = .ok (.ireturn, 1) := by decide +kernel
theorem dX9_init_0 : decode cX9_init 0 = .ok (.aload_n 0, 1) := by decide +kernel
theorem dX9_init_1 : decode cX9_init 1 = .ok (.invokespecial 1, 3) := by decide +kernel
theorem dX9_init_4 : decode cX9_init 4 = .ok (.aload_n 0, 1) := by decide +kernel
theorem dX9_init_5 : decode cX9_init 5 = .ok (.new 7, 3) := by decide +kernel
theorem dX9_init_8 : decode cX9_init 8 = .ok (.dup, 1) := by decide +kernel
theorem dX9_init_9 : decode cX9_init 9 = .ok (.invokespecial 9, 3) := by decide +kernel
theorem dX9_init_12 : decode cX9_init 12 = .ok (.putfield 10, 3) := by decide +kernel
theorem dX9_init_15 : decode cX9_init 15 = .ok (.aload_n 0, 1) := by decide +kernel
theorem dX9_init_16 : decode cX9_init 16 = .ok (.new 16, 3) := by decide +kernel
theorem dX9_init_19 : decode cX9_init 19 = .ok (.dup, 1) := by decide +kernel
theorem dX9_init_20 : decode cX9_init 20 = .ok (.invokespecial 18, 3) := by decide +kernel
theorem dX9_init_23 : decode cX9_init 23 = .ok (.putfield 19, 3) := by decide +kernel
theorem dX9_init_26 : decode cX9_init 26 = .ok (.aload_n 0, 1) := by decide +kernel
theorem dX9_init_27 : decode cX9_init 27 = .ok (.new 23, 3) := by decide +kernel
theorem dX9_init_30 : decode cX9_init 30 = .ok (.dup, 1) := by decide +kernel
theorem dX9_init_31 : decode cX9_init 31 = .ok (.invokespecial 25, 3) := by decide +kernel
theorem dX9_init_34 : decode cX9_init 34 = .ok (.putfield 26, 3) := by decide +kernel
theorem dX9_init_37 : decode cX9_init 37 = .ok (.aload_n 0, 1) := by decide +kernel
theorem dX9_init_38 : decode cX9_init 38 = .ok (.new 30, 3) := by decide +kernel
theorem dX9_init_41 : decode cX9_init 41 = .ok (.dup, 1) := by decide +kernel
theorem dX9_init_42 : decode cX9_init 42 = .ok (.invokespecial 32, 3) := by decide +kernel
theorem dX9_init_45 : decode cX9_init 45 = .ok (.putfield 33, 3) := by decide +kernel
theorem dX9_init_48 : decode cX9_init 48 = .ok (.aload_n 0, 1) := by decide +kernel
theorem dX9_init_49 : decode cX9_init 49 = .ok (.new 37, 3) := by decide +kernel
theorem dX9_init_52 : decode cX9_init 52 = .ok (.dup, 1) := by decide +kernel
theorem dX9_init_53 : decode cX9_init 53 = .ok (.aload_n 0, 1) := by decide +kernel
theorem dX9_init_54 : decode cX9_init 54 = .ok (.getfield 19, 3) := by decide +kernel
theorem dX9_init_57 : decode cX9_init 57 = .ok (.invokespecial 39, 3) := by decide +kernel
theorem dX9_init_60 : decode cX9_init 60 = .ok (.putfield 42, 3) := by decide +kernel
theorem dX9_init_63 : decode cX9_init 63 = .ok (.aload_n 0, 1) := by decide +kernel
theorem dX9_init_64 : decode cX9_init 64 = .ok (.new 46, 3) := by decide +kernel
theorem dX9_init_67 : decode cX9_init 67 = .ok (.dup, 1) := by decide +kernel
theorem dX9_init_68 : decode cX9_init 68 = .ok (.invokespecial 48, 3) := by decide +kernel
theorem dX9_init_71 : decode cX9_init 71 = .ok (.putfield 49, 3) := by decide +kernel
theorem dX9_init_74 : decode cX9_init 74 = .ok (.aload_n 0, 1) := by decide +kernel
theorem dX9_init_75 : decode cX9_init 75 = .ok (.new 53, 3) := by decide +kernel
theorem dX9_init_78 : decode cX9_init 78 = .ok (.dup, 1) := by decide +kernel
theorem dX9_init_79 : decode cX9_init 79 = .ok (.invokespecial 55, 3) := by decide +kernel
theorem dX9_init_82 : decode cX9_init 82 = .ok (.putfield 56, 3) := by decide +kernel
theorem dX9_init_85 : decode cX9_init 85 = .ok (.aload_n 0, 1) := by decide +kernel
theorem dX9_init_86 : decode cX9_init 86 = .ok (.new 60, 3) := by decide +kernel
theorem dX9_init_89 : decode cX9_init 89 = .ok (.dup, 1) := by decide +kernel
theorem dX9_init_90 : decode cX9_init 90 = .ok (.invokespecial 62, 3) := by decide +kernel
theorem dX9_init_93 : decode cX9_init 93 = .ok (.putfield 63, 3) := by decide +kernel
theorem dX9_init_96 : decode cX9_init 96 = .ok (.return_, 1) := by decide +kernel
theorem dX9_letter_0 : decode cX9_letter 0 = .ok (.iload_n 1, 1) := by decide +kernel
theorem dX9_letter_1 : decode cX9_letter 1 = .ok (.invokestatic 67, 3) := by decide +kernel
theorem dX9_letter_4 : decode cX9_letter 4 = .ok (.ifCond .ne 5, 3) := by decide +kernel
theorem dX9_letter_7 : decode cX9_letter 7 = .ok (.iconst (-1), 1) := by decide +kernel
theorem dX9_letter_8 : decode cX9_letter 8 = .ok (.ireturn, 1) := by decide +kernel
theorem dX9_letter_9 : decode cX9_letter 9 = .ok (.aload_n 0, 1) := by decide +kernel
theorem dX9_letter_10 : decode cX9_letter 10 = .ok (.getfield 10, 3) := by decide +kernel
theorem dX9_letter_13 : decode cX9_letter 13 = .ok (.iload_n 1, 1) := by decide +kernel
theorem dX9_letter_14 : decode cX9_letter 14 = .ok (.invokevirtual 71, 3) := by decide +kernel
theorem dX9_letter_17 : decode cX9_letter 17 = .ok (.ifCond .ne 6, 3) := by decide +kernel
theorem dX9_letter_20 : decode cX9_letter 20 = .ok (.bipush (-4), 2) := by decide +kernel
theorem dX9_letter_22 : decode cX9_letter 22 = .ok (.ireturn, 1) := by decide +kernel
theorem dX9_letter_23 : decode cX9_letter 23 = .ok (.aload_n 0, 1) := by decide +kernel
theorem dX9_letter_24 : decode cX9_letter 24 = .ok (.getfield 10, 3) := by decide +kernel
theorem dX9_letter_27 : decode cX9_letter 27 = .ok (.getfield 74, 3) := by decide +kernel
theorem dX9_letter_30 : decode cX9_letter 30 = .ok (.ireturn, 1) := by decide +kernel
theorem dX9_clear_0 : decode cX9_clear 0 = .ok (.aload_n 0, 1) := by decide +kernel
theorem dX9_clear_1 : decode cX9_clear 1 = .ok (.getfield 10, 3) := by decide +kernel
theorem dX9_clear_4 : decode cX9_clear 4 = .ok (.getfield 74, 3) := by decide +kernel
theorem dX9_clear_7 : decode cX9_clear 7 = .ok (.istore_n 1, 1) := by decide +kernel
theorem dX9_clear_8 : decode cX9_clear 8 = .ok (.aload_n 0, 1) := by decide +kernel
theorem dX9_clear_9 : decode cX9_clear 9 = .ok (.getfield 10, 3) := by decide +kernel
theorem dX9_clear_12 : decode cX9_clear 12 = .ok (.iconst 0, 1) := by decide +kernel
theorem dX9_clear_13 : decode cX9_clear 13 = .ok (.putfield 74, 3) := by decide +kernel
theorem dX9_clear_16 : decode cX9_clear 16 = .ok (.iload_n 1, 1) := by decide +kernel
theorem dX9_clear_17 : decode cX9_clear 17 = .ok (.ireturn, 1) := by decide +kernel
theorem dX9_word_0 : decode cX9_word 0 = .ok (.iload_n 1, 1) := by decide +kernel
theorem dX9_word_1 : decode cX9_word 1 = .ok (.invokestatic 78, 3) := by decide +kernel
theorem dX9_word_4 : decode cX9_word 4 = .ok (.ifCond .eq 13, 3) := by decide +kernel
theorem dX9_word_7 : decode cX9_word 7 = .ok (.aload_n 0, 1) := by decide +kernel
theorem dX9_word_8 : decode cX9_word 8 = .ok (.getfield 10, 3) := by decide +kernel
theorem dX9_word_11 : decode cX9_word 11 = .ok (.getfield 74, 3) := by decide +kernel
theorem dX9_word_14 : decode cX9_word 14 = .ok (.ifCond .ne 6, 3) := by decide +kernel
theorem dX9_word_17 : decode cX9_word 17 = .ok (.bipush (-2), 2) := by decide +kernel
theorem dX9_word_19 : decode cX9_word 19 = .ok (.ireturn, 1) := by decide +kernel
theorem dX9_word_20 : decode cX9_word 20 = .ok (.aload_n 0, 1) := by decide +kernel
theorem dX9_word_21 : decode cX9_word 21 = .ok (.getfield 26, 3) := by decide +kernel
theorem dX9_word_24 : decode cX9_word 24 = .ok (.aload_n 0, 1) := by decide +kernel
theorem dX9_word_25 : decode cX9_word 25 = .ok (.getfield 10, 3) := by decide +kernel
theorem dX9_word_28 : decode cX9_word 28 = .ok (.invokevirtual 81, 3) := by decide +kernel
theorem dX9_word_31 : decode cX9_word 31 = .ok (.ifCond .eq 6, 3) := by decide +kernel
theorem dX9_word_34 : decode cX9_word 34 = .ok (.bipush (-3), 2) := by decide +kernel
theorem dX9_word_36 : decode cX9_word 36 = .ok (.ireturn, 1) := by decide +kernel
theorem dX9_word_37 : decode cX9_word 37 = .ok (.aload_n 0, 1) := by decide +kernel
theorem dX9_word_38 : decode cX9_word 38 = .ok (.getfield 26, 3) := by decide +kernel
theorem dX9_word_41 : decode cX9_word 41 = .ok (.getfield 85, 3) := by decide +kernel
theorem dX9_word_44 : decode cX9_word 44 = .ok (.bipush 60, 2) := by decide +kernel
theorem dX9_word_46 : decode cX9_word 46 = .ok (.if_icmp .lt 6, 3) := by decide +kernel
theorem dX9_word_49 : decode cX9_word 49 = .ok (.bipush (-4), 2) := by decide +kernel
theorem dX9_word_51 : decode cX9_word 51 = .ok (.ireturn, 1) := by decide +kernel
theorem dX9_word_52 : decode cX9_word 52 = .ok (.aload_n 0, 1) := by decide +kernel
theorem dX9_word_53 : decode cX9_word 53 = .ok (.getfield 26, 3) := by decide +kernel
theorem dX9_word_56 : decode cX9_word 56 = .ok (.aload_n 0, 1) := by decide +kernel
theorem dX9_word_57 : decode cX9_word 57 = .ok (.getfield 10, 3) := by decide +kernel
theorem dX9_word_60 : decode cX9_word 60 = .ok (.iload_n 1, 1) := by decide +kernel
theorem dX9_word_61 : decode cX9_word 61 = .ok (.invokevirtual 88, 3) := by decide +kernel
theorem dX9_word_64 : decode cX9_word 64 = .ok (.ireturn, 1) := by decide +kernel
theorem dX9_count_0 : decode cX9_count 0 = .ok (.aload_n 0, 1) := by decide +kernel
theorem dX9_count_1 : decode cX9_count 1 = .ok (.getfield 26, 3) := by decide +kernel
theorem dX9_count_4 : decode cX9_count 4 = .ok (.iload_n 1, 1) := by decide +kernel
theorem dX9_count_5 : decode cX9_count 5 = .ok (.invokevirtual 91, 3) := by decide +kernel
theorem dX9_count_8 : decode cX9_count 8 = .ok (.ifCond .ne 5, 3) := by decide +kernel
theorem dX9_count_11 : decode cX9_count 11 = .ok (.iconst (-1), 1) := by decide +kernel
theorem dX9_count_12 : decode cX9_count 12 = .ok (.ireturn, 1) := by decide +kernel
theorem dX9_count_13 : decode cX9_count 13 = .ok (.iload_n 2, 1) := by decide +kernel
theorem dX9_count_14 : decode cX9_count 14 = .ok (.invokestatic 78, 3) := by decide +kernel
theorem dX9_count_17 : decode cX9_count 17 = .ok (.ifCond .ne 6, 3) := by decide +kernel
theorem dX9_count_20 : decode cX9_count 20 = .ok (.bipush (-2), 2) := by decide +kernel
theorem dX9_count_22 : decode cX9_count 22 = .ok (.ireturn, 1) := by decide +kernel
theorem dX9_count_23 : decode cX9_count 23 = .ok (.aload_n 0, 1) := by decide +kernel
theorem dX9_count_24 : decode cX9_count 24 = .ok (.getfield 26, 3) := by decide +kernel
theorem dX9_count_27 : decode cX9_count 27 = .ok (.getfield 94, 3) := by decide +kernel
theorem dX9_count_30 : decode cX9_count 30 = .ok (.iload_n 1, 1) := by decide +kernel
theorem dX9_count_31 : decode cX9_count 31 = .ok (.iaload, 1) := by decide +kernel
theorem dX9_count_32 : decode cX9_count 32 = .ok (.istore_n 3, 1) := by decide +kernel
theorem dX9_count_33 : decode cX9_count 33 = .ok (.aload_n 0, 1) := by decide +kernel
theorem dX9_count_34 : decode cX9_count 34 = .ok (.getfield 26, 3) := by decide +kernel
theorem dX9_count_37 : decode cX9_count 37 = .ok (.getfield 94, 3) := by decide +kernel
theorem dX9_count_40 : decode cX9_count 40 = .ok (.iload_n 1, 1) := by decide +kernel
theorem dX9_count_41 : decode cX9_count 41 = .ok (.iload_n 2, 1) := by decide +kernel
theorem dX9_count_42 : decode cX9_count 42 = .ok (.iastore, 1) := by decide +kernel
theorem dX9_count_43 : decode cX9_count 43 = .ok (.iload_n 3, 1) := by decide +kernel
theorem dX9_count_44 : decode cX9_count 44 = .ok (.ireturn, 1) := by decide +kernel
theorem dX9_at_0 : decode cX9_at 0 = .ok (.aload_n 0, 1) := by decide +kernel
theorem dX9_at_1 : decode cX9_at 1 = .ok (.getfield 26, 3) := by decide +kernel
theorem dX9_at_4 : decode cX9_at 4 = .ok (.iload_n 1, 1) := by decide +kernel
theorem dX9_at_5 : decode cX9_at 5 = .ok (.invokevirtual 91, 3) := by decide +kernel
theorem dX9_at_8 : decode cX9_at 8 = .ok (.ifCond .ne 5, 3) := by decide +kernel
theorem dX9_at_11 : decode cX9_at 11 = .ok (.iconst (-1), 1) := by decide +kernel
theorem dX9_at_12 : decode cX9_at 12 = .ok (.ireturn, 1) := by decide +kernel
theorem dX9_at_13 : decode cX9_at 13 = .ok (.aload_n 0, 1) := by decide +kernel
theorem dX9_at_14 : decode cX9_at 14 = .ok (.getfield 26, 3) := by decide +kernel
theorem dX9_at_17 : decode cX9_at 17 = .ok (.getfield 98, 3) := by decide +kernel
theorem dX9_at_20 : decode cX9_at 20 = .ok (.iload_n 1, 1) := by decide +kernel
theorem dX9_at_21 : decode cX9_at 21 = .ok (.aaload, 1) := by decide +kernel
theorem dX9_at_22 : decode cX9_at 22 = .ok (.astore_n 3, 1) := by decide +kernel
theorem dX9_at_23 : decode cX9_at 23 = .ok (.iload_n 2, 1) := by decide +kernel
theorem dX9_at_24 : decode cX9_at 24 = .ok (.iconst (-1), 1) := by decide +kernel
theorem dX9_at_25 : decode cX9_at 25 = .ok (.if_icmp .ne 12, 3) := by decide +kernel
theorem dX9_at_28 : decode cX9_at 28 = .ok (.aload_n 0, 1) := by decide +kernel
theorem dX9_at_29 : decode cX9_at 29 = .ok (.getfield 26, 3) := by decide +kernel
theorem dX9_at_32 : decode cX9_at 32 = .ok (.iload_n 1, 1) := by decide +kernel
theorem dX9_at_33 : decode cX9_at 33 = .ok (.invokevirtual 102, 3) := by decide +kernel
theorem dX9_at_36 : decode cX9_at 36 = .ok (.ireturn, 1) := by decide +kernel
theorem dX9_at_37 : decode cX9_at 37 = .ok (.iload_n 2, 1) := by decide +kernel
theorem dX9_at_38 : decode cX9_at 38 = .ok (.bipush (-2), 2) := by decide +kernel
theorem dX9_at_40 : decode cX9_at 40 = .ok (.if_icmp .ne 8, 3) := by decide +kernel
theorem dX9_at_43 : decode cX9_at 43 = .ok (.aload_n 3, 1) := by decide +kernel
theorem dX9_at_44 : decode cX9_at 44 = .ok (.getfield 74, 3) := by decide +kernel
theorem dX9_at_47 : decode cX9_at 47 = .ok (.ireturn, 1) := by decide +kernel
theorem dX9_at_48 : decode cX9_at 48 = .ok (.iload_n 2, 1) := by decide +kernel
theorem dX9_at_49 : decode cX9_at 49 = .ok (.ifCond .lt 11, 3) := by decide +kernel
theorem dX9_at_52 : decode cX9_at 52 = .ok (.iload_n 2, 1) := by decide +kernel
theorem dX9_at_53 : decode cX9_at 53 = .ok (.aload_n 3, 1) := by decide +kernel
theorem dX9_at_54 : decode cX9_at 54 = .ok (.getfield 74, 3) := by decide +kernel
theorem dX9_at_57 : decode cX9_at 57 = .ok (.if_icmp .lt 5, 3) := by decide +kernel
theorem dX9_at_60 : decode cX9_at 60 = .ok (.iconst (-1), 1) := by decide +kernel
theorem dX9_at_61 : decode cX9_at 61 = .ok (.ireturn, 1) := by decide +kernel
theorem dX9_at_62 : decode cX9_at 62 = .ok (.aload_n 3, 1) := by decide +kernel
theorem dX9_at_63 : decode cX9_at 63 = .ok (.getfield 106, 3) := by decide +kernel
theorem dX9_at_66 : decode cX9_at 66 = .ok (.iload_n 2, 1) := by decide +kernel
theorem dX9_at_67 : decode cX9_at 67 = .ok (.iaload, 1) := by decide +kernel
theorem dX9_at_68 : decode cX9_at 68 = .ok (.ireturn, 1) := by decide +kernel
theorem dX9_price_0 : decode cX9_price 0 = .ok (.iload_n 1, 1) := by decide +kernel
theorem dX9_price_1 : decode cX9_price 1 = .ok (.ifCond .lt 9, 3) := by decide +kernel
theorem dX9_price_4 : decode cX9_price 4 = .ok (.iload_n 1, 1) := by decide +kernel
theorem dX9_price_5 : decode cX9_price 5 = .ok (.bipush 6, 2) := by decide +kernel
theorem dX9_price_7 : decode cX9_price 7 = .ok (.if_icmp .lt 6, 3) := by decide +kernel
theorem dX9_price_10 : decode cX9_price 10 = .ok (.bipush (-2), 2) := by decide +kernel
theorem dX9_price_12 : decode cX9_price 12 = .ok (.ireturn, 1) := by decide +kernel
theorem dX9_price_13 : decode cX9_price 13 = .ok (.iload_n 1, 1) := by decide +kernel
theorem dX9_price_14 : decode cX9_price 14 = .ok (.iconst 4, 1) := by decide +kernel
theorem dX9_price_15 : decode cX9_price 15 = .ok (.if_icmp .eq 8, 3) := by decide +kernel
theorem dX9_price_18 : decode cX9_price 18 = .ok (.iload_n 1, 1) := by decide +kernel
theorem dX9_price_19 : decode cX9_price 19 = .ok (.iconst 5, 1) := by decide +kernel
theorem dX9_price_20 : decode cX9_price 20 = .ok (.if_icmp .ne 8, 3) := by decide +kernel
theorem dX9_price_23 : decode cX9_price 23 = .ok (.bipush 50, 2) := by decide +kernel
theorem dX9_price_25 : decode cX9_price 25 = .ok (.goto 5, 3) := by decide +kernel
theorem dX9_price_28 : decode cX9_price 28 = .ok (.bipush 9, 2) := by decide +kernel
theorem dX9_price_30 : decode cX9_price 30 = .ok (.istore_n 3, 1) := by decide +kernel
theorem dX9_price_31 : decode cX9_price 31 = .ok (.iload_n 2, 1) := by decide +kernel
theorem dX9_price_32 : decode cX9_price 32 = .ok (.ifCond .lt 8, 3) := by decide +kernel
theorem dX9_price_35 : decode cX9_price 35 = .ok (.iload_n 2, 1) := by decide +kernel
theorem dX9_price_36 : decode cX9_price 36 = .ok (.iload_n 3, 1) := by decide +kernel
theorem dX9_price_37 : decode cX9_price 37 = .ok (.if_icmp .le 6, 3) := by decide +kernel
theorem dX9_price_40 : decode cX9_price 40 = .ok (.bipush (-2), 2) := by decide +kernel
theorem dX9_price_42 : decode cX9_price 42 = .ok (.ireturn, 1) := by decide +kernel
theorem dX9_price_43 : decode cX9_price 43 = .ok (.aload_n 0, 1) := by decide +kernel
theorem dX9_price_44 : decode cX9_price 44 = .ok (.getfield 19, 3) := by decide +kernel
theorem dX9_price_47 : decode cX9_price 47 = .ok (.getfield 109, 3) := by decide +kernel
theorem dX9_price_50 : decode cX9_price 50 = .ok (.iload_n 1, 1) := by decide +kernel
theorem dX9_price_51 : decode cX9_price 51 = .ok (.iaload, 1) := by decide +kernel
theorem dX9_price_52 : decode cX9_price 52 = .ok (.istore 4, 2) := by decide +kernel
theorem dX9_price_54 : decode cX9_price 54 = .ok (.aload_n 0, 1) := by decide +kernel
theorem dX9_price_55 : decode cX9_price 55 = .ok (.getfield 19, 3) := by decide +kernel
theorem dX9_price_58 : decode cX9_price 58 = .ok (.getfield 109, 3) := by decide +kernel
theorem dX9_price_61 : decode cX9_price 61 = .ok (.iload_n 1, 1) := by decide +kernel
theorem dX9_price_62 : decode cX9_price 62 = .ok (.iload_n 2, 1) := by decide +kernel
theorem dX9_price_63 : decode cX9_price 63 = .ok (.iastore, 1) := by decide +kernel
theorem dX9_price_64 : decode cX9_price 64 = .ok (.iload 4, 2) := by decide +kernel
theorem dX9_price_66 : decode cX9_price 66 = .ok (.ireturn, 1) := by decide +kernel
theorem dX9_near_0 : decode cX9_near 0 = .ok (.iload_n 1, 1) := by decide +kernel
theorem dX9_near_1 : decode cX9_near 1 = .ok (.invokestatic 67, 3) := by decide +kernel
theorem dX9_near_4 : decode cX9_near 4 = .ok (.ifCond .eq 15, 3) := by decide +kernel
theorem dX9_near_7 : decode cX9_near 7 = .ok (.iload_n 2, 1) := by decide +kernel
theorem dX9_near_8 : decode cX9_near 8 = .ok (.invokestatic 67, 3) := by decide +kernel
theorem dX9_near_11 : decode cX9_near 11 = .ok (.ifCond .eq 8, 3) := by decide +kernel
theorem dX9_near_14 : decode cX9_near 14 = .ok (.iload_n 1, 1) := by decide +kernel
theorem dX9_near_15 : decode cX9_near 15 = .ok (.iload_n 2, 1) := by decide +kernel
theorem dX9_near_16 : decode cX9_near 16 = .ok (.if_icmp .ne 5, 3) := by decide +kernel
theorem dX9_near_19 : decode cX9_near 19 = .ok (.iconst (-1), 1) := by decide +kernel
theorem dX9_near_20 : decode cX9_near 20 = .ok (.ireturn, 1) := by decide +kernel
theorem dX9_near_21 : decode cX9_near 21 = .ok (.iload_n 3, 1) := by decide +kernel
theorem dX9_near_22 : decode cX9_near 22 = .ok (.iconst (-1), 1) := by decide +kernel
theorem dX9_near_23 : decode cX9_near 23 = .ok (.if_icmp .lt 9, 3) := by decide +kernel
theorem dX9_near_26 : decode cX9_near 26 = .ok (.iload_n 3, 1) := by decide +kernel
theorem dX9_near_27 : decode cX9_near 27 = .ok (.bipush 9, 2) := by decide +kernel
theorem dX9_near_29 : decode cX9_near 29 = .ok (.if_icmp .le 6, 3) := by decide +kernel
theorem dX9_near_32 : decode cX9_near 32 = .ok (.bipush (-2), 2) := by decide +kernel
theorem dX9_near_34 : decode cX9_near 34 = .ok (.ireturn, 1) := by decide +kernel
theorem dX9_near_35 : decode cX9_near 35 = .ok (.aload_n 0, 1) := by decide +kernel
theorem dX9_near_36 : decode cX9_near 36 = .ok (.getfield 19, 3) := by decide +kernel
theorem dX9_near_39 : decode cX9_near 39 = .ok (.getfield 112, 3) := by decide +kernel
theorem dX9_near_42 : decode cX9_near 42 = .ok (.iload_n 1, 1) := by decide +kernel
theorem dX9_near_43 : decode cX9_near 43 = .ok (.aaload, 1) := by decide +kernel
theorem dX9_near_44 : decode cX9_near 44 = .ok (.iload_n 2, 1) := by decide +kernel
theorem dX9_near_45 : decode cX9_near 45 = .ok (.iaload, 1) := by decide +kernel
theorem dX9_near_46 : decode cX9_near 46 = .ok (.istore 4, 2) := by decide +kernel
theorem dX9_near_48 : decode cX9_near 48 = .ok (.aload_n 0, 1) := by decide +kernel
theorem dX9_near_49 : decode cX9_near 49 = .ok (.getfield 19, 3) := by decide +kernel
theorem dX9_near_52 : decode cX9_near 52 = .ok (.getfield 112, 3) := by decide +kernel
theorem dX9_near_55 : decode cX9_near 55 = .ok (.iload_n 1, 1) := by decide +kernel
theorem dX9_near_56 : decode cX9_near 56 = .ok (.aaload, 1) := by decide +kernel
theorem dX9_near_57 : decode cX9_near 57 = .ok (.iload_n 2, 1) := by decide +kernel
theorem dX9_near_58 : decode cX9_near 58 = .ok (.iload_n 3, 1) := by decide +kernel
theorem dX9_near_59 : decode cX9_near 59 = .ok (.iastore, 1) := by decide +kernel
theorem dX9_near_60 : decode cX9_near 60 = .ok (.iload 4, 2) := by decide +kernel
theorem dX9_near_62 : decode cX9_near 62 = .ok (.iconst (-1), 1) := by decide +kernel
theorem dX9_near_63 : decode cX9_near 63 = .ok (.if_icmp .ne 8, 3) := by decide +kernel
theorem dX9_near_66 : decode cX9_near 66 = .ok (.bipush (-3), 2) := by decide +kernel
theorem dX9_near_68 : decode cX9_near 68 = .ok (.goto 5, 3) := by decide +kernel
theorem dX9_near_71 : decode cX9_near 71 = .ok (.iload 4, 2) := by decide +kernel
theorem dX9_near_73 : decode cX9_near 73 = .ok (.ireturn, 1) := by decide +kernel
theorem dX9_distance_0 : decode cX9_distance 0 = .ok (.aload_n 0, 1) := by decide +kernel
theorem dX9_distance_1 : decode cX9_distance 1 = .ok (.getfield 26, 3) := by decide +kernel
theorem dX9_distance_4 : decode cX9_distance 4 = .ok (.iload_n 1, 1) := by decide +kernel
theorem dX9_distance_5 : decode cX9_distance 5 = .ok (.invokevirtual 91, 3) := by decide +kernel
theorem dX9_distance_8 : decode cX9_distance 8 = .ok (.ifCond .ne 5, 3) := by decide +kernel
theorem dX9_distance_11 : decode cX9_distance 11 = .ok (.iconst (-1), 1) := by decide +kernel
theorem dX9_distance_12 : decode cX9_distance 12 = .ok (.ireturn, 1) := by decide +kernel
theorem dX9_distance_13 : decode cX9_distance 13 = .ok (.aload_n 0, 1) := by decide +kernel
theorem dX9_distance_14 : decode cX9_distance 14 = .ok (.iload_n 1, 1) := by decide +kernel
theorem dX9_distance_15 : decode cX9_distance 15 = .ok (.invokevirtual 116, 3) := by decide +kernel
theorem dX9_distance_18 : decode cX9_distance 18 = .ok (.ireturn, 1) := by decide +kernel
theorem dX9_begins_0 : decode cX9_begins 0 = .ok (.aload_n 0, 1) := by decide +kernel
theorem dX9_begins_1 : decode cX9_begins 1 = .ok (.getfield 26, 3) := by decide +kernel
theorem dX9_begins_4 : decode cX9_begins 4 = .ok (.iload_n 1, 1) := by decide +kernel
theorem dX9_begins_5 : decode cX9_begins 5 = .ok (.invokevirtual 91, 3) := by decide +kernel
theorem dX9_begins_8 : decode cX9_begins 8 = .ok (.ifCond .ne 5, 3) := by decide +kernel
theorem dX9_begins_11 : decode cX9_begins 11 = .ok (.iconst (-1), 1) := by decide +kernel
theorem dX9_begins_12 : decode cX9_begins 12 = .ok (.ireturn, 1) := by decide +kernel
theorem dX9_begins_13 : decode cX9_begins 13 = .ok (.aload_n 0, 1) := by decide +kernel
theorem dX9_begins_14 : decode cX9_begins 14 = .ok (.iload_n 1, 1) := by decide +kernel
theorem dX9_begins_15 : decode cX9_begins 15 = .ok (.invokevirtual 119, 3) := by decide +kernel
theorem dX9_begins_18 : decode cX9_begins 18 = .ok (.ireturn, 1) := by decide +kernel
theorem dX9_edit_0 : decode cX9_edit 0 = .ok (.aload_n 0, 1) := by decide +kernel
theorem dX9_edit_1 : decode cX9_edit 1 = .ok (.getfield 26, 3) := by decide +kernel
theorem dX9_edit_4 : decode cX9_edit 4 = .ok (.iload_n 1, 1) := by decide +kernel
theorem dX9_edit_5 : decode cX9_edit 5 = .ok (.invokevirtual 91, 3) := by decide +kernel
theorem dX9_edit_8 : decode cX9_edit 8 = .ok (.ifCond .ne 5, 3) := by decide +kernel
theorem dX9_edit_11 : decode cX9_edit 11 = .ok (.iconst (-1), 1) := by decide +kernel
theorem dX9_edit_12 : decode cX9_edit 12 = .ok (.ireturn, 1) := by decide +kernel
theorem dX9_edit_13 : decode cX9_edit 13 = .ok (.aload_n 0, 1) := by decide +kernel
theorem dX9_edit_14 : decode cX9_edit 14 = .ok (.iload_n 1, 1) := by decide +kernel
theorem dX9_edit_15 : decode cX9_edit 15 = .ok (.invokevirtual 122, 3) := by decide +kernel
theorem dX9_edit_18 : decode cX9_edit 18 = .ok (.iload_n 2, 1) := by decide +kernel
theorem dX9_edit_19 : decode cX9_edit 19 = .ok (.iconst (-1), 1) := by decide +kernel
theorem dX9_edit_20 : decode cX9_edit 20 = .ok (.if_icmp .ne 11, 3) := by decide +kernel
theorem dX9_edit_23 : decode cX9_edit 23 = .ok (.aload_n 0, 1) := by decide +kernel
theorem dX9_edit_24 : decode cX9_edit 24 = .ok (.getfield 42, 3) := by decide +kernel
theorem dX9_edit_27 : decode cX9_edit 27 = .ok (.getfield 126, 3) := by decide +kernel
theorem dX9_edit_30 : decode cX9_edit 30 = .ok (.ireturn, 1) := by decide +kernel
theorem dX9_edit_31 : decode cX9_edit 31 = .ok (.iload_n 2, 1) := by decide +kernel
theorem dX9_edit_32 : decode cX9_edit 32 = .ok (.ifCond .lt 14, 3) := by decide +kernel
theorem dX9_edit_35 : decode cX9_edit 35 = .ok (.iload_n 2, 1) := by decide +kernel
theorem dX9_edit_36 : decode cX9_edit 36 = .ok (.aload_n 0, 1) := by decide +kernel
theorem dX9_edit_37 : decode cX9_edit 37 = .ok (.getfield 42, 3) := by decide +kernel
theorem dX9_edit_40 : decode cX9_edit 40 = .ok (.getfield 126, 3) := by decide +kernel
theorem dX9_edit_43 : decode cX9_edit 43 = .ok (.if_icmp .lt 5, 3) := by decide +kernel
theorem dX9_edit_46 : decode cX9_edit 46 = .ok (.iconst (-1), 1) := by decide +kernel
theorem dX9_edit_47 : decode cX9_edit 47 = .ok (.ireturn, 1) := by decide +kernel
theorem dX9_edit_48 : decode cX9_edit 48 = .ok (.aload_n 0, 1) := by decide +kernel
theorem dX9_edit_49 : decode cX9_edit 49 = .ok (.getfield 42, 3) := by decide +kernel
theorem dX9_edit_52 : decode cX9_edit 52 = .ok (.iload_n 2, 1) := by decide +kernel
theorem dX9_edit_53 : decode cX9_edit 53 = .ok (.invokevirtual 129, 3) := by decide +kernel
theorem dX9_edit_56 : decode cX9_edit 56 = .ok (.ireturn, 1) := by decide +kernel
theorem dX9_place_0 : decode cX9_place 0 = .ok (.aload_n 0, 1) := by decide +kernel
theorem dX9_place_1 : decode cX9_place 1 = .ok (.getfield 26, 3) := by decide +kernel
theorem dX9_place_4 : decode cX9_place 4 = .ok (.iload_n 1, 1) := by decide +kernel
theorem dX9_place_5 : decode cX9_place 5 = .ok (.invokevirtual 91, 3) := by decide +kernel
theorem dX9_place_8 : decode cX9_place 8 = .ok (.ifCond .ne 5, 3) := by decide +kernel
theorem dX9_place_11 : decode cX9_place 11 = .ok (.iconst (-1), 1) := by decide +kernel
theorem dX9_place_12 : decode cX9_place 12 = .ok (.ireturn, 1) := by decide +kernel
theorem dX9_place_13 : decode cX9_place 13 = .ok (.aload_n 0, 1) := by decide +kernel
theorem dX9_place_14 : decode cX9_place 14 = .ok (.iload_n 1, 1) := by decide +kernel
theorem dX9_place_15 : decode cX9_place 15 = .ok (.invokevirtual 122, 3) := by decide +kernel
theorem dX9_place_18 : decode cX9_place 18 = .ok (.iload_n 2, 1) := by decide +kernel
theorem dX9_place_19 : decode cX9_place 19 = .ok (.ifCond .lt 14, 3) := by decide +kernel
theorem dX9_place_22 : decode cX9_place 22 = .ok (.iload_n 2, 1) := by decide +kernel
theorem dX9_place_23 : decode cX9_place 23 = .ok (.aload_n 0, 1) := by decide +kernel
theorem dX9_place_24 : decode cX9_place 24 = .ok (.getfield 42, 3) := by decide +kernel
theorem dX9_place_27 : decode cX9_place 27 = .ok (.getfield 126, 3) := by decide +kernel
theorem dX9_place_30 : decode cX9_place 30 = .ok (.if_icmp .lt 5, 3) := by decide +kernel
theorem dX9_place_33 : decode cX9_place 33 = .ok (.iconst (-1), 1) := by decide +kernel
theorem dX9_place_34 : decode cX9_place 34 = .ok (.ireturn, 1) := by decide +kernel
theorem dX9_place_35 : decode cX9_place 35 = .ok (.aload_n 0, 1) := by decide +kernel
theorem dX9_place_36 : decode cX9_place 36 = .ok (.getfield 42, 3) := by decide +kernel
theorem dX9_place_39 : decode cX9_place 39 = .ok (.iload_n 2, 1) := by decide +kernel
theorem dX9_place_40 : decode cX9_place 40 = .ok (.invokevirtual 132, 3) := by decide +kernel
theorem dX9_place_43 : decode cX9_place 43 = .ok (.ireturn, 1) := by decide +kernel
theorem dX9_suggest_0 : decode cX9_suggest 0 = .ok (.aload_n 0, 1) := by decide +kernel
theorem dX9_suggest_1 : decode cX9_suggest 1 = .ok (.iload_n 1, 1) := by decide +kernel
theorem dX9_suggest_2 : decode cX9_suggest 2 = .ok (.iconst 0, 1) := by decide +kernel
theorem dX9_suggest_3 : decode cX9_suggest 3 = .ok (.invokevirtual 135, 3) := by decide +kernel
theorem dX9_suggest_6 : decode cX9_suggest 6 = .ok (.ireturn, 1) := by decide +kernel
theorem dX9_suggestion_0 : decode cX9_suggestion 0 = .ok (.aload_n 0, 1) := by decide +kernel
theorem dX9_suggestion_1 : decode cX9_suggestion 1 = .ok (.iload_n 1, 1) := by decide +kernel
theorem dX9_suggestion_2 : decode cX9_suggestion 2 = .ok (.iload_n 2, 1) := by decide +kernel
theorem dX9_suggestion_3 : decode cX9_suggestion 3 = .ok (.iconst 0, 1) := by decide +kernel
theorem dX9_suggestion_4 : decode cX9_suggestion 4 = .ok (.invokevirtual 139, 3) := by decide +kernel
theorem dX9_suggestion_7 : decode cX9_suggestion 7 = .ok (.ireturn, 1) := by decide +kernel
theorem dX9_endings_0 : decode cX9_endings 0 = .ok (.aload_n 0, 1) := by decide +kernel
theorem dX9_endings_1 : decode cX9_endings 1 = .ok (.iload_n 1, 1) := by decide +kernel
theorem dX9_endings_2 : decode cX9_endings 2 = .ok (.iconst 1, 1) := by decide +kernel
theorem dX9_endings_3 : decode cX9_endings 3 = .ok (.invokevirtual 135, 3) := by decide +kernel
theorem dX9_endings_6 : decode cX9_endings 6 = .ok (.ireturn, 1) := by decide +kernel
theorem dX9_ending_0 : decode cX9_ending 0 = .ok (.aload_n 0, 1) := by decide +kernel
theorem dX9_ending_1 : decode cX9_ending 1 = .ok (.iload_n 1, 1) := by decide +kernel
theorem dX9_ending_2 : decode cX9_ending 2 = .ok (.iload_n 2, 1) := by decide +kernel
theorem dX9_ending_3 : decode cX9_ending 3 = .ok (.iconst 1, 1) := by decide +kernel
theorem dX9_ending_4 : decode cX9_ending 4 = .ok (.invokevirtual 139, 3) := by decide +kernel
theorem dX9_ending_7 : decode cX9_ending 7 = .ok (.ireturn, 1) := by decide +kernel
theorem dX9_parting_0 : decode cX9_parting 0 = .ok (.iload_n 1, 1) := by decide +kernel
theorem dX9_parting_1 : decode cX9_parting 1 = .ok (.ifCond .lt 8, 3) := by decide +kernel
theorem dX9_parting_4 : decode cX9_parting 4 = .ok (.iload_n 1, 1) := by decide +kernel
theorem dX9_parting_5 : decode cX9_parting 5 = .ok (.iconst 3, 1) := by decide +kernel
theorem dX9_parting_6 : decode cX9_parting 6 = .ok (.if_icmp .le 6, 3) := by decide +kernel
theorem dX9_parting_9 : decode cX9_parting 9 = .ok (.bipush (-2), 2) := by decide +kernel
theorem dX9_parting_11 : decode cX9_parting 11 = .ok (.ireturn, 1) := by decide +kernel
theorem dX9_parting_12 : decode cX9_parting 12 = .ok (.aload_n 0, 1) := by decide +kernel
theorem dX9_parting_13 : decode cX9_parting 13 = .ok (.getfield 26, 3) := by decide +kernel
theorem dX9_parting_16 : decode cX9_parting 16 = .ok (.getfield 85, 3) := by decide +kernel
theorem dX9_parting_19 : decode cX9_parting 19 = .ok (.ifCond .eq 14, 3) := by decide +kernel
theorem dX9_parting_22 : decode cX9_parting 22 = .ok (.aload_n 0, 1) := by decide +kernel
theorem dX9_parting_23 : decode cX9_parting 23 = .ok (.getfield 10, 3) := by decide +kernel
theorem dX9_parting_26 : decode cX9_parting 26 = .ok (.getfield 74, 3) := by decide +kernel
theorem dX9_parting_29 : decode cX9_parting 29 = .ok (.iconst 2, 1) := by decide +kernel
theorem dX9_parting_30 : decode cX9_parting 30 = .ok (.if_icmp .ge 6, 3) := by decide +kernel
theorem dX9_parting_33 : decode cX9_parting 33 = .ok (.bipush (-3), 2) := by decide +kernel
theorem dX9_parting_35 : decode cX9_parting 35 = .ok (.ireturn, 1) := by decide +kernel
theorem dX9_parting_36 : decode cX9_parting 36 = .ok (.aload_n 0, 1) := by decide +kernel
theorem dX9_parting_37 : decode cX9_parting 37 = .ok (.getfield 56, 3) := by decide +kernel
theorem dX9_parting_40 : decode cX9_parting 40 = .ok (.aload_n 0, 1) := by decide +kernel
theorem dX9_parting_41 : decode cX9_parting 41 = .ok (.getfield 10, 3) := by decide +kernel
theorem dX9_parting_44 : decode cX9_parting 44 = .ok (.aload_n 0, 1) := by decide +kernel
theorem dX9_parting_45 : decode cX9_parting 45 = .ok (.getfield 26, 3) := by decide +kernel
theorem dX9_parting_48 : decode cX9_parting 48 = .ok (.aload_n 0, 1) := by decide +kernel
theorem dX9_parting_49 : decode cX9_parting 49 = .ok (.getfield 42, 3) := by decide +kernel
theorem dX9_parting_52 : decode cX9_parting 52 = .ok (.aload_n 0, 1) := by decide +kernel
theorem dX9_parting_53 : decode cX9_parting 53 = .ok (.getfield 19, 3) := by decide +kernel
theorem dX9_parting_56 : decode cX9_parting 56 = .ok (.getfield 109, 3) := by decide +kernel
theorem dX9_parting_59 : decode cX9_parting 59 = .ok (.iconst 4, 1) := by decide +kernel
theorem dX9_parting_60 : decode cX9_parting 60 = .ok (.iaload, 1) := by decide +kernel
theorem dX9_parting_61 : decode cX9_parting 61 = .ok (.invokevirtual 143, 3) := by decide +kernel
theorem dX9_parting_64 : decode cX9_parting 64 = .ok (.iload_n 1, 1) := by decide +kernel
theorem dX9_parting_65 : decode cX9_parting 65 = .ok (.tableswitch 51 0 2 #[27, 35, 43], 27) := by decide +kernel
theorem dX9_parting_92 : decode cX9_parting 92 = .ok (.aload_n 0, 1) := by decide +kernel
theorem dX9_parting_93 : decode cX9_parting 93 = .ok (.getfield 56, 3) := by decide +kernel
theorem dX9_parting_96 : decode cX9_parting 96 = .ok (.getfield 147, 3) := by decide +kernel
theorem dX9_parting_99 : decode cX9_parting 99 = .ok (.ireturn, 1) := by decide +kernel
theorem dX9_parting_100 : decode cX9_parting 100 = .ok (.aload_n 0, 1) := by decide +kernel
theorem dX9_parting_101 : decode cX9_parting 101 = .ok (.getfield 56, 3) := by decide +kernel
theorem dX9_parting_104 : decode cX9_parting 104 = .ok (.getfield 150, 3) := by decide +kernel
theorem dX9_parting_107 : decode cX9_parting 107 = .ok (.ireturn, 1) := by decide +kernel
theorem dX9_parting_108 : decode cX9_parting 108 = .ok (.aload_n 0, 1) := by decide +kernel
theorem dX9_parting_109 : decode cX9_parting 109 = .ok (.getfield 56, 3) := by decide +kernel
theorem dX9_parting_112 : decode cX9_parting 112 = .ok (.getfield 153, 3) := by decide +kernel
theorem dX9_parting_115 : decode cX9_parting 115 = .ok (.ireturn, 1) := by decide +kernel
theorem dX9_parting_116 : decode cX9_parting 116 = .ok (.aload_n 0, 1) := by decide +kernel
theorem dX9_parting_117 : decode cX9_parting 117 = .ok (.getfield 56, 3) := by decide +kernel
theorem dX9_parting_120 : decode cX9_parting 120 = .ok (.getfield 156, 3) := by decide +kernel
theorem dX9_parting_123 : decode cX9_parting 123 = .ok (.ireturn, 1) := by decide +kernel
theorem dX9_token_0 : decode cX9_token 0 = .ok (.aload_n 0, 1) := by decide +kernel
theorem dX9_token_1 : decode cX9_token 1 = .ok (.getfield 10, 3) := by decide +kernel
theorem dX9_token_4 : decode cX9_token 4 = .ok (.getfield 74, 3) := by decide +kernel
theorem dX9_token_7 : decode cX9_token 7 = .ok (.ifCond .ne 6, 3) := by decide +kernel
theorem dX9_token_10 : decode cX9_token 10 = .ok (.bipush (-2), 2) := by decide +kernel
theorem dX9_token_12 : decode cX9_token 12 = .ok (.ireturn, 1) := by decide +kernel
theorem dX9_token_13 : decode cX9_token 13 = .ok (.aload_n 0, 1) := by decide +kernel
theorem dX9_token_14 : decode cX9_token 14 = .ok (.getfield 33, 3) := by decide +kernel
theorem dX9_token_17 : decode cX9_token 17 = .ok (.aload_n 0, 1) := by decide +kernel
theorem dX9_token_18 : decode cX9_token 18 = .ok (.getfield 10, 3) := by decide +kernel
theorem dX9_token_21 : decode cX9_token 21 = .ok (.invokevirtual 159, 3) := by decide +kernel
theorem dX9_token_24 : decode cX9_token 24 = .ok (.ifCond .ne 6, 3) := by decide +kernel
theorem dX9_token_27 : decode cX9_token 27 = .ok (.bipush (-4), 2) := by decide +kernel
theorem dX9_token_29 : decode cX9_token 29 = .ok (.ireturn, 1) := by decide +kernel
theorem dX9_token_30 : decode cX9_token 30 = .ok (.aload_n 0, 1) := by decide +kernel
theorem dX9_token_31 : decode cX9_token 31 = .ok (.getfield 10, 3) := by decide +kernel
theorem dX9_token_34 : decode cX9_token 34 = .ok (.iconst 0, 1) := by decide +kernel
theorem dX9_token_35 : decode cX9_token 35 = .ok (.putfield 74, 3) := by decide +kernel
theorem dX9_token_38 : decode cX9_token 38 = .ok (.aload_n 0, 1) := by decide +kernel
theorem dX9_token_39 : decode cX9_token 39 = .ok (.getfield 33, 3) := by decide +kernel
theorem dX9_token_42 : decode cX9_token 42 = .ok (.getfield 161, 3) := by decide +kernel
theorem dX9_token_45 : decode cX9_token 45 = .ok (.ireturn, 1) := by decide +kernel
theorem dX9_line_0 : decode cX9_line 0 = .ok (.aload_n 0, 1) := by decide +kernel
theorem dX9_line_1 : decode cX9_line 1 = .ok (.getfield 33, 3) := by decide +kernel
theorem dX9_line_4 : decode cX9_line 4 = .ok (.getfield 161, 3) := by decide +kernel
theorem dX9_line_7 : decode cX9_line 7 = .ok (.istore_n 1, 1) := by decide +kernel
theorem dX9_line_8 : decode cX9_line 8 = .ok (.aload_n 0, 1) := by decide +kernel
theorem dX9_line_9 : decode cX9_line 9 = .ok (.getfield 33, 3) := by decide +kernel
theorem dX9_line_12 : decode cX9_line 12 = .ok (.iconst 0, 1) := by decide +kernel
theorem dX9_line_13 : decode cX9_line 13 = .ok (.putfield 161, 3) := by decide +kernel
theorem dX9_line_16 : decode cX9_line 16 = .ok (.iload_n 1, 1) := by decide +kernel
theorem dX9_line_17 : decode cX9_line 17 = .ok (.ireturn, 1) := by decide +kernel
theorem dX9_pair_0 : decode cX9_pair 0 = .ok (.aload_n 0, 1) := by decide +kernel
theorem dX9_pair_1 : decode cX9_pair 1 = .ok (.getfield 26, 3) := by decide +kernel
theorem dX9_pair_4 : decode cX9_pair 4 = .ok (.iload_n 1, 1) := by decide +kernel
theorem dX9_pair_5 : decode cX9_pair 5 = .ok (.invokevirtual 91, 3) := by decide +kernel
theorem dX9_pair_8 : decode cX9_pair 8 = .ok (.ifCond .eq 14, 3) := by decide +kernel
theorem dX9_pair_11 : decode cX9_pair 11 = .ok (.aload_n 0, 1) := by decide +kernel
theorem dX9_pair_12 : decode cX9_pair 12 = .ok (.getfield 26, 3) := by decide +kernel
theorem dX9_pair_15 : decode cX9_pair 15 = .ok (.iload_n 2, 1) := by decide +kernel
theorem dX9_pair_16 : decode cX9_pair 16 = .ok (.invokevirtual 91, 3) := by decide +kernel
theorem dX9_pair_19 : decode cX9_pair 19 = .ok (.ifCond .ne 5, 3) := by decide +kernel
theorem dX9_pair_22 : decode cX9_pair 22 = .ok (.iconst (-1), 1) := by decide +kernel
theorem dX9_pair_23 : decode cX9_pair 23 = .ok (.ireturn, 1) := by decide +kernel
theorem dX9_pair_24 : decode cX9_pair 24 = .ok (.aload_n 0, 1) := by decide +kernel
theorem dX9_pair_25 : decode cX9_pair 25 = .ok (.getfield 26, 3) := by decide +kernel
theorem dX9_pair_28 : decode cX9_pair 28 = .ok (.iload_n 1, 1) := by decide +kernel
theorem dX9_pair_29 : decode cX9_pair 29 = .ok (.iload_n 2, 1) := by decide +kernel
theorem dX9_pair_30 : decode cX9_pair 30 = .ok (.iload_n 3, 1) := by decide +kernel
theorem dX9_pair_31 : decode cX9_pair 31 = .ok (.invokevirtual 162, 3) := by decide +kernel
theorem dX9_pair_34 : decode cX9_pair 34 = .ok (.ifCond .eq 7, 3) := by decide +kernel
theorem dX9_pair_37 : decode cX9_pair 37 = .ok (.iconst 1, 1) := by decide +kernel
theorem dX9_pair_38 : decode cX9_pair 38 = .ok (.goto 4, 3) := by decide +kernel
theorem dX9_pair_41 : decode cX9_pair 41 = .ok (.iconst 0, 1) := by decide +kernel
theorem dX9_pair_42 : decode cX9_pair 42 = .ok (.ireturn, 1) := by decide +kernel
theorem dX9_chosen_0 : decode cX9_chosen 0 = .ok (.iload_n 1, 1) := by decide +kernel
theorem dX9_chosen_1 : decode cX9_chosen 1 = .ok (.invokestatic 166, 3) := by decide +kernel
theorem dX9_chosen_4 : decode cX9_chosen 4 = .ok (.ifCond .ne 6, 3) := by decide +kernel
theorem dX9_chosen_7 : decode cX9_chosen 7 = .ok (.bipush (-2), 2) := by decide +kernel
theorem dX9_chosen_9 : decode cX9_chosen 9 = .ok (.ireturn, 1) := by decide +kernel
theorem dX9_chosen_10 : decode cX9_chosen 10 = .ok (.iload_n 2, 1) := by decide +kernel
theorem dX9_chosen_11 : decode cX9_chosen 11 = .ok (.iconst (-1), 1) := by decide +kernel
theorem dX9_chosen_12 : decode cX9_chosen 12 = .ok (.if_icmp .lt 14, 3) := by decide +kernel
theorem dX9_chosen_15 : decode cX9_chosen 15 = .ok (.iload_n 2, 1) := by decide +kernel
theorem dX9_chosen_16 : decode cX9_chosen 16 = .ok (.aload_n 0, 1) := by decide +kernel
theorem dX9_chosen_17 : decode cX9_chosen 17 = .ok (.getfield 33, 3) := by decide +kernel
theorem dX9_chosen_20 : decode cX9_chosen 20 = .ok (.getfield 161, 3) := by decide +kernel
theorem dX9_chosen_23 : decode cX9_chosen 23 = .ok (.if_icmp .lt 5, 3) := by decide +kernel
theorem dX9_chosen_26 : decode cX9_chosen 26 = .ok (.iconst (-1), 1) := by decide +kernel
theorem dX9_chosen_27 : decode cX9_chosen 27 = .ok (.ireturn, 1) := by decide +kernel
theorem dX9_chosen_28 : decode cX9_chosen 28 = .ok (.aload_n 0, 1) := by decide +kernel
theorem dX9_chosen_29 : decode cX9_chosen 29 = .ok (.getfield 63, 3) := by decide +kernel
theorem dX9_chosen_32 : decode cX9_chosen 32 = .ok (.aload_n 0, 1) := by decide +kernel
theorem dX9_chosen_33 : decode cX9_chosen 33 = .ok (.getfield 33, 3) := by decide +kernel
theorem dX9_chosen_36 : decode cX9_chosen 36 = .ok (.aload_n 0, 1) := by decide +kernel
theorem dX9_chosen_37 : decode cX9_chosen 37 = .ok (.getfield 26, 3) := by decide +kernel
theorem dX9_chosen_40 : decode cX9_chosen 40 = .ok (.aload_n 0, 1) := by decide +kernel
theorem dX9_chosen_41 : decode cX9_chosen 41 = .ok (.getfield 42, 3) := by decide +kernel
theorem dX9_chosen_44 : decode cX9_chosen 44 = .ok (.iload_n 1, 1) := by decide +kernel
theorem dX9_chosen_45 : decode cX9_chosen 45 = .ok (.invokevirtual 169, 3) := by decide +kernel
theorem dX9_chosen_48 : decode cX9_chosen 48 = .ok (.aload_n 0, 1) := by decide +kernel
theorem dX9_chosen_49 : decode cX9_chosen 49 = .ok (.getfield 63, 3) := by decide +kernel
theorem dX9_chosen_52 : decode cX9_chosen 52 = .ok (.aload_n 0, 1) := by decide +kernel
theorem dX9_chosen_53 : decode cX9_chosen 53 = .ok (.getfield 33, 3) := by decide +kernel
theorem dX9_chosen_56 : decode cX9_chosen 56 = .ok (.getfield 161, 3) := by decide +kernel
theorem dX9_chosen_59 : decode cX9_chosen 59 = .ok (.aload_n 0, 1) := by decide +kernel
theorem dX9_chosen_60 : decode cX9_chosen 60 = .ok (.getfield 26, 3) := by decide +kernel
theorem dX9_chosen_63 : decode cX9_chosen 63 = .ok (.aload_n 0, 1) := by decide +kernel
theorem dX9_chosen_64 : decode cX9_chosen 64 = .ok (.getfield 19, 3) := by decide +kernel
theorem dX9_chosen_67 : decode cX9_chosen 67 = .ok (.getfield 109, 3) := by decide +kernel
theorem dX9_chosen_70 : decode cX9_chosen 70 = .ok (.iconst 5, 1) := by decide +kernel
theorem dX9_chosen_71 : decode cX9_chosen 71 = .ok (.iaload, 1) := by decide +kernel
theorem dX9_chosen_72 : decode cX9_chosen 72 = .ok (.invokevirtual 173, 3) := by decide +kernel
theorem dX9_chosen_75 : decode cX9_chosen 75 = .ok (.istore_n 3, 1) := by decide +kernel
theorem dX9_chosen_76 : decode cX9_chosen 76 = .ok (.iload_n 3, 1) := by decide +kernel
theorem dX9_chosen_77 : decode cX9_chosen 77 = .ok (.ldc 177, 2) := by decide +kernel
theorem dX9_chosen_79 : decode cX9_chosen 79 = .ok (.if_icmp .lt 6, 3) := by decide +kernel
theorem dX9_chosen_82 : decode cX9_chosen 82 = .ok (.bipush (-3), 2) := by decide +kernel
theorem dX9_chosen_84 : decode cX9_chosen 84 = .ok (.ireturn, 1) := by decide +kernel
theorem dX9_chosen_85 : decode cX9_chosen 85 = .ok (.iload_n 2, 1) := by decide +kernel
theorem dX9_chosen_86 : decode cX9_chosen 86 = .ok (.iconst (-1), 1) := by decide +kernel
theorem dX9_chosen_87 : decode cX9_chosen 87 = .ok (.if_icmp .ne 7, 3) := by decide +kernel
theorem dX9_chosen_90 : decode cX9_chosen 90 = .ok (.iload_n 3, 1) := by decide +kernel
theorem dX9_chosen_91 : decode cX9_chosen 91 = .ok (.goto 12, 3) := by decide +kernel
theorem dX9_chosen_94 : decode cX9_chosen 94 = .ok (.aload_n 0, 1) := by decide +kernel
theorem dX9_chosen_95 : decode cX9_chosen 95 = .ok (.getfield 63, 3) := by decide +kernel
theorem dX9_chosen_98 : decode cX9_chosen 98 = .ok (.getfield 178, 3) := by decide +kernel
theorem dX9_chosen_101 : decode cX9_chosen 101 = .ok (.iload_n 2, 1) := by decide +kernel
theorem dX9_chosen_102 : decode cX9_chosen 102 = .ok (.iaload, 1) := by decide +kernel
theorem dX9_chosen_103 : decode cX9_chosen 103 = .ok (.ireturn, 1) := by decide +kernel
theorem dX9_share_0 : decode cX9_share 0 = .ok (.aload_n 0, 1) := by decide +kernel
theorem dX9_share_1 : decode cX9_share 1 = .ok (.getfield 26, 3) := by decide +kernel
theorem dX9_share_4 : decode cX9_share 4 = .ok (.iload_n 1, 1) := by decide +kernel
theorem dX9_share_5 : decode cX9_share 5 = .ok (.invokevirtual 91, 3) := by decide +kernel
theorem dX9_share_8 : decode cX9_share 8 = .ok (.ifCond .ne 5, 3) := by decide +kernel
theorem dX9_share_11 : decode cX9_share 11 = .ok (.iconst (-1), 1) := by decide +kernel
theorem dX9_share_12 : decode cX9_share 12 = .ok (.ireturn, 1) := by decide +kernel
theorem dX9_share_13 : decode cX9_share 13 = .ok (.aload_n 0, 1) := by decide +kernel
theorem dX9_share_14 : decode cX9_share 14 = .ok (.getfield 10, 3) := by decide +kernel
theorem dX9_share_17 : decode cX9_share 17 = .ok (.getfield 74, 3) := by decide +kernel
theorem dX9_share_20 : decode cX9_share 20 = .ok (.ifCond .ne 13, 3) := by decide +kernel
theorem dX9_share_23 : decode cX9_share 23 = .ok (.new 181, 3) := by decide +kernel
theorem dX9_share_26 : decode cX9_share 26 = .ok (.dup, 1) := by decide +kernel
theorem dX9_share_27 : decode cX9_share 27 = .ok (.ldc 183, 2) := by decide +kernel
theorem dX9_share_29 : decode cX9_share 29 = .ok (.invokespecial 185, 3) := by decide +kernel
theorem dX9_share_32 : decode cX9_share 32 = .ok (.athrow, 1) := by decide +kernel
theorem dX9_share_33 : decode cX9_share 33 = .ok (.sipush 1000, 3) := by decide +kernel
theorem dX9_share_36 : decode cX9_share 36 = .ok (.aload_n 0, 1) := by decide +kernel
theorem dX9_share_37 : decode cX9_share 37 = .ok (.iload_n 1, 1) := by decide +kernel
theorem dX9_share_38 : decode cX9_share 38 = .ok (.invokevirtual 116, 3) := by decide +kernel
theorem dX9_share_41 : decode cX9_share 41 = .ok (.imul, 1) := by decide +kernel
theorem dX9_share_42 : decode cX9_share 42 = .ok (.aload_n 0, 1) := by decide +kernel
theorem dX9_share_43 : decode cX9_share 43 = .ok (.getfield 10, 3) := by decide +kernel
theorem dX9_share_46 : decode cX9_share 46 = .ok (.getfield 74, 3) := by decide +kernel
theorem dX9_share_49 : decode cX9_share 49 = .ok (.idiv, 1) := by decide +kernel
theorem dX9_share_50 : decode cX9_share 50 = .ok (.ireturn, 1) := by decide +kernel
theorem dX9_isLetter_0 : decode cX9_isLetter 0 = .ok (.iload_n 0, 1) := by decide +kernel
theorem dX9_isLetter_1 : decode cX9_isLetter 1 = .ok (.ifCond .lt 13, 3) := by decide +kernel
theorem dX9_isLetter_4 : decode cX9_isLetter 4 = .ok (.iload_n 0, 1) := by decide +kernel
theorem dX9_isLetter_5 : decode cX9_isLetter 5 = .ok (.bipush 26, 2) := by decide +kernel
theorem dX9_isLetter_7 : decode cX9_isLetter 7 = .ok (.if_icmp .ge 7, 3) := by decide +kernel
theorem dX9_isLetter_10 : decode cX9_isLetter 10 = .ok (.iconst 1, 1) := by decide +kernel
theorem dX9_isLetter_11 : decode cX9_isLetter 11 = .ok (.goto 4, 3) := by decide +kernel
theorem dX9_isLetter_14 : decode cX9_isLetter 14 = .ok (.iconst 0, 1) := by decide +kernel
theorem dX9_isLetter_15 : decode cX9_isLetter 15 = .ok (.ireturn, 1) := by decide +kernel
theorem dX9_isCount_0 : decode cX9_isCount 0 = .ok (.iload_n 0, 1) := by decide +kernel
theorem dX9_isCount_1 : decode cX9_isCount 1 = .ok (.iconst 1, 1) := by decide +kernel
theorem dX9_isCount_2 : decode cX9_isCount 2 = .ok (.if_icmp .lt 14, 3) := by decide +kernel
theorem dX9_isCount_5 : decode cX9_isCount 5 = .ok (.iload_n 0, 1) := by decide +kernel
theorem dX9_isCount_6 : decode cX9_isCount 6 = .ok (.sipush 1000, 3) := by decide +kernel
theorem dX9_isCount_9 : decode cX9_isCount 9 = .ok (.if_icmp .gt 7, 3) := by decide +kernel
theorem dX9_isCount_12 : decode cX9_isCount 12 = .ok (.iconst 1, 1) := by decide +kernel
theorem dX9_isCount_13 : decode cX9_isCount 13 = .ok (.goto 4, 3) := by decide +kernel
theorem dX9_isCount_16 : decode cX9_isCount 16 = .ok (.iconst 0, 1) := by decide +kernel
theorem dX9_isCount_17 : decode cX9_isCount 17 = .ok (.ireturn, 1) := by decide +kernel
theorem dX9_isLimit_0 : decode cX9_isLimit 0 = .ok (.iload_n 0, 1) := by decide +kernel
theorem dX9_isLimit_1 : decode cX9_isLimit 1 = .ok (.ifCond .lt 13, 3) := by decide +kernel
theorem dX9_isLimit_4 : decode cX9_isLimit 4 = .ok (.iload_n 0, 1) := by decide +kernel
theorem dX9_isLimit_5 : decode cX9_isLimit 5 = .ok (.bipush 50, 2) := by decide +kernel
theorem dX9_isLimit_7 : decode cX9_isLimit 7 = .ok (.if_icmp .gt 7, 3) := by decide +kernel
theorem dX9_isLimit_10 : decode cX9_isLimit 10 = .ok (.iconst 1, 1) := by decide +kernel
theorem dX9_isLimit_11 : decode cX9_isLimit 11 = .ok (.goto 4, 3) := by decide +kernel
theorem dX9_isLimit_14 : decode cX9_isLimit 14 = .ok (.iconst 0, 1) := by decide +kernel
theorem dX9_isLimit_15 : decode cX9_isLimit 15 = .ok (.ireturn, 1) := by decide +kernel
theorem dX9_priceOfWord_0 : decode cX9_priceOfWord 0 = .ok (.aload_n 0, 1) := by decide +kernel
theorem dX9_priceOfWord_1 : decode cX9_priceOfWord 1 = .ok (.getfield 42, 3) := by decide +kernel
theorem dX9_priceOfWord_4 : decode cX9_priceOfWord 4 = .ok (.aload_n 0, 1) := by decide +kernel
theorem dX9_priceOfWord_5 : decode cX9_priceOfWord 5 = .ok (.getfield 10, 3) := by decide +kernel
theorem dX9_priceOfWord_8 : decode cX9_priceOfWord 8 = .ok (.aload_n 0, 1) := by decide +kernel
theorem dX9_priceOfWord_9 : decode cX9_priceOfWord 9 = .ok (.getfield 26, 3) := by decide +kernel
theorem dX9_priceOfWord_12 : decode cX9_priceOfWord 12 = .ok (.getfield 98, 3) := by decide +kernel
theorem dX9_priceOfWord_15 : decode cX9_priceOfWord 15 = .ok (.iload_n 1, 1) := by decide +kernel
theorem dX9_priceOfWord_16 : decode cX9_priceOfWord 16 = .ok (.aaload, 1) := by decide +kernel
theorem dX9_priceOfWord_17 : decode cX9_priceOfWord 17 = .ok (.invokevirtual 188, 3) := by decide +kernel
theorem dX9_priceOfWord_20 : decode cX9_priceOfWord 20 = .ok (.ireturn, 1) := by decide +kernel
theorem dX9_priceOfBeginning_0 : decode cX9_priceOfBeginning 0 = .ok (.aload_n 0, 1) := by decide +kernel
theorem dX9_priceOfBeginning_1 : decode cX9_priceOfBeginning 1 = .ok (.getfield 42, 3) := by decide +kernel
theorem dX9_priceOfBeginning_4 : decode cX9_priceOfBeginning 4 = .ok (.aload_n 0, 1) := by decide +kernel
theorem dX9_priceOfBeginning_5 : decode cX9_priceOfBeginning 5 = .ok (.getfield 10, 3) := by decide +kernel
theorem dX9_priceOfBeginning_8 : decode cX9_priceOfBeginning 8 = .ok (.aload_n 0, 1) := by decide +kernel
theorem dX9_priceOfBeginning_9 : decode cX9_priceOfBeginning 9 = .ok (.getfield 26, 3) := by decide +kernel
theorem dX9_priceOfBeginning_12 : decode cX9_priceOfBeginning 12 = .ok (.getfield 98, 3) := by decide +kernel
theorem dX9_priceOfBeginning_15 : decode cX9_priceOfBeginning 15 = .ok (.iload_n 1, 1) := by decide +kernel
theorem dX9_priceOfBeginning_16 : decode cX9_priceOfBeginning 16 = .ok (.aaload, 1) := by decide +kernel
theorem dX9_priceOfBeginning_17 : decode cX9_priceOfBeginning 17 = .ok (.invokevirtual 188, 3) := by decide +kernel
theorem dX9_priceOfBeginning_20 : decode cX9_priceOfBeginning 20 = .ok (.pop, 1) := by decide +kernel
theorem dX9_priceOfBeginning_21 : decode cX9_priceOfBeginning 21 = .ok (.aload_n 0, 1) := by decide +kernel
theorem dX9_priceOfBeginning_22 : decode cX9_priceOfBeginning 22 = .ok (.getfield 42, 3) := by decide +kernel
theorem dX9_priceOfBeginning_25 : decode cX9_priceOfBeginning 25 = .ok (.invokevirtual 191, 3) := by decide +kernel
theorem dX9_priceOfBeginning_28 : decode cX9_priceOfBeginning 28 = .ok (.ireturn, 1) := by decide +kernel
theorem dX9_findEdits_0 : decode cX9_findEdits 0 = .ok (.aload_n 0, 1) := by decide +kernel
theorem dX9_findEdits_1 : decode cX9_findEdits 1 = .ok (.getfield 42, 3) := by decide +kernel
theorem dX9_findEdits_4 : decode cX9_findEdits 4 = .ok (.aload_n 0, 1) := by decide +kernel
theorem dX9_findEdits_5 : decode cX9_findEdits 5 = .ok (.getfield 10, 3) := by decide +kernel
theorem dX9_findEdits_8 : decode cX9_findEdits 8 = .ok (.aload_n 0, 1) := by decide +kernel
theorem dX9_findEdits_9 : decode cX9_findEdits 9 = .ok (.getfield 26, 3) := by decide +kernel
theorem dX9_findEdits_12 : decode cX9_findEdits 12 = .ok (.getfield 98, 3) := by decide +kernel
theorem dX9_findEdits_15 : decode cX9_findEdits 15 = .ok (.iload_n 1, 1) := by decide +kernel
theorem dX9_findEdits_16 : decode cX9_findEdits 16 = .ok (.aaload, 1) := by decide +kernel
theorem dX9_findEdits_17 : decode cX9_findEdits 17 = .ok (.invokevirtual 188, 3) := by decide +kernel
theorem dX9_findEdits_20 : decode cX9_findEdits 20 = .ok (.pop, 1) := by decide +kernel
theorem dX9_findEdits_21 : decode cX9_findEdits 21 = .ok (.aload_n 0, 1) := by decide +kernel
theorem dX9_findEdits_22 : decode cX9_findEdits 22 = .ok (.getfield 42, 3) := by decide +kernel
theorem dX9_findEdits_25 : decode cX9_findEdits 25 = .ok (.invokevirtual 195, 3) := by decide +kernel
theorem dX9_findEdits_28 : decode cX9_findEdits 28 = .ok (.return_, 1) := by decide +kernel
theorem dX9_howMany_0 : decode cX9_howMany 0 = .ok (.iload_n 1, 1) := by decide +kernel
theorem dX9_howMany_1 : decode cX9_howMany 1 = .ok (.invokestatic 166, 3) := by decide +kernel
theorem dX9_howMany_4 : decode cX9_howMany 4 = .ok (.ifCond .ne 6, 3) := by decide +kernel
theorem dX9_howMany_7 : decode cX9_howMany 7 = .ok (.bipush (-2), 2) := by decide +kernel
theorem dX9_howMany_9 : decode cX9_howMany 9 = .ok (.ireturn, 1) := by decide +kernel
theorem dX9_howMany_10 : decode cX9_howMany 10 = .ok (.aload_n 0, 1) := by decide +kernel
theorem dX9_howMany_11 : decode cX9_howMany 11 = .ok (.iload_n 1, 1) := by decide +kernel
theorem dX9_howMany_12 : decode cX9_howMany 12 = .ok (.iload_n 2, 1) := by decide +kernel
theorem dX9_howMany_13 : decode cX9_howMany 13 = .ok (.invokevirtual 198, 3) := by decide +kernel
theorem dX9_howMany_16 : decode cX9_howMany 16 = .ok (.aload_n 0, 1) := by decide +kernel
theorem dX9_howMany_17 : decode cX9_howMany 17 = .ok (.getfield 49, 3) := by decide +kernel
theorem dX9_howMany_20 : decode cX9_howMany 20 = .ok (.getfield 202, 3) := by decide +kernel
theorem dX9_howMany_23 : decode cX9_howMany 23 = .ok (.ireturn, 1) := by decide +kernel
theorem dX9_rankedWord_0 : decode cX9_rankedWord 0 = .ok (.iload_n 1, 1) := by decide +kernel
theorem dX9_rankedWord_1 : decode cX9_rankedWord 1 = .ok (.invokestatic 166, 3) := by decide +kernel
theorem dX9_rankedWord_4 : decode cX9_rankedWord 4 = .ok (.ifCond .ne 6, 3) := by decide +kernel
theorem dX9_rankedWord_7 : decode cX9_rankedWord 7 = .ok (.bipush (-2), 2) := by decide +kernel
theorem dX9_rankedWord_9 : decode cX9_rankedWord 9 = .ok (.ireturn, 1) := by decide +kernel
theorem dX9_rankedWord_10 : decode cX9_rankedWord 10 = .ok (.aload_n 0, 1) := by decide +kernel
theorem dX9_rankedWord_11 : decode cX9_rankedWord 11 = .ok (.iload_n 1, 1) := by decide +kernel
theorem dX9_rankedWord_12 : decode cX9_rankedWord 12 = .ok (.iload_n 3, 1) := by decide +kernel
theorem dX9_rankedWord_13 : decode cX9_rankedWord 13 = .ok (.invokevirtual 198, 3) := by decide +kernel
theorem dX9_rankedWord_16 : decode cX9_rankedWord 16 = .ok (.iload_n 2, 1) := by decide +kernel
theorem dX9_rankedWord_17 : decode cX9_rankedWord 17 = .ok (.ifCond .lt 14, 3) := by decide +kernel
theorem dX9_rankedWord_20 : decode cX9_rankedWord 20 = .ok (.iload_n 2, 1) := by decide +kernel
theorem dX9_rankedWord_21 : decode cX9_rankedWord 21 = .ok (.aload_n 0, 1) := by decide +kernel
theorem dX9_rankedWord_22 : decode cX9_rankedWord 22 = .ok (.getfield 49, 3) := by decide +kernel
theorem dX9_rankedWord_25 : decode cX9_rankedWord 25 = .ok (.getfield 202, 3) := by decide +kernel
theorem dX9_rankedWord_28 : decode cX9_rankedWord 28 = .ok (.if_icmp .lt 5, 3) := by decide +kernel
theorem dX9_rankedWord_31 : decode cX9_rankedWord 31 = .ok (.iconst (-1), 1) := by decide +kernel
theorem dX9_rankedWord_32 : decode cX9_rankedWord 32 = .ok (.ireturn, 1) := by decide +kernel
theorem dX9_rankedWord_33 : decode cX9_rankedWord 33 = .ok (.aload_n 0, 1) := by decide +kernel
theorem dX9_rankedWord_34 : decode cX9_rankedWord 34 = .ok (.getfield 49, 3) := by decide +kernel
theorem dX9_rankedWord_37 : decode cX9_rankedWord 37 = .ok (.getfield 203, 3) := by decide +kernel
theorem dX9_rankedWord_40 : decode cX9_rankedWord 40 = .ok (.iload_n 2, 1) := by decide +kernel
theorem dX9_rankedWord_41 : decode cX9_rankedWord 41 = .ok (.iaload, 1) := by decide +kernel
theorem dX9_rankedWord_42 : decode cX9_rankedWord 42 = .ok (.ireturn, 1) := by decide +kernel
theorem dX9_rankWords_0 : decode cX9_rankWords 0 = .ok (.aload_n 0, 1) := by decide +kernel
theorem dX9_rankWords_1 : decode cX9_rankWords 1 = .ok (.getfield 49, 3) := by decide +kernel
theorem dX9_rankWords_4 : decode cX9_rankWords 4 = .ok (.iconst 0, 1) := by decide +kernel
theorem dX9_rankWords_5 : decode cX9_rankWords 5 = .ok (.putfield 202, 3) := by decide +kernel
theorem dX9_rankWords_8 : decode cX9_rankWords 8 = .ok (.iconst 0, 1) := by decide +kernel
theorem dX9_rankWords_9 : decode cX9_rankWords 9 = .ok (.istore_n 3, 1) := by decide +kernel
theorem dX9_rankWords_10 : decode cX9_rankWords 10 = .ok (.iload_n 3, 1) := by decide +kernel
theorem dX9_rankWords_11 : decode cX9_rankWords 11 = .ok (.aload_n 0, 1) := by decide +kernel
theorem dX9_rankWords_12 : decode cX9_rankWords 12 = .ok (.getfield 26, 3) := by decide +kernel
theorem dX9_rankWords_15 : decode cX9_rankWords 15 = .ok (.getfield 85, 3) := by decide +kernel
theorem dX9_rankWords_18 : decode cX9_rankWords 18 = .ok (.if_icmp .ge 68, 3) := by decide +kernel
theorem dX9_rankWords_21 : decode cX9_rankWords 21 = .ok (.aload_n 0, 1) := by decide +kernel
theorem dX9_rankWords_22 : decode cX9_rankWords 22 = .ok (.getfield 26, 3) := by decide +kernel
theorem dX9_rankWords_25 : decode cX9_rankWords 25 = .ok (.getfield 206, 3) := by decide +kernel
theorem dX9_rankWords_28 : decode cX9_rankWords 28 = .ok (.iload_n 3, 1) := by decide +kernel
theorem dX9_rankWords_29 : decode cX9_rankWords 29 = .ok (.iaload, 1) := by decide +kernel
theorem dX9_rankWords_30 : decode cX9_rankWords 30 = .ok (.istore 4, 2) := by decide +kernel
theorem dX9_rankWords_32 : decode cX9_rankWords 32 = .ok (.iload_n 2, 1) := by decide +kernel
theorem dX9_rankWords_33 : decode cX9_rankWords 33 = .ok (.ifCond .eq 12, 3) := by decide +kernel
theorem dX9_rankWords_36 : decode cX9_rankWords 36 = .ok (.aload_n 0, 1) := by decide +kernel
theorem dX9_rankWords_37 : decode cX9_rankWords 37 = .ok (.iload 4, 2) := by decide +kernel
theorem dX9_rankWords_39 : decode cX9_rankWords 39 = .ok (.invokevirtual 119, 3) := by decide +kernel
theorem dX9_rankWords_42 : decode cX9_rankWords 42 = .ok (.goto 9, 3) := by decide +kernel
theorem dX9_rankWords_45 : decode cX9_rankWords 45 = .ok (.aload_n 0, 1) := by decide +kernel
theorem dX9_rankWords_46 : decode cX9_rankWords 46 = .ok (.iload 4, 2) := by decide +kernel
theorem dX9_rankWords_48 : decode cX9_rankWords 48 = .ok (.invokevirtual 116, 3) := by decide +kernel
theorem dX9_rankWords_51 : decode cX9_rankWords 51 = .ok (.istore 5, 2) := by decide +kernel
theorem dX9_rankWords_53 : decode cX9_rankWords 53 = .ok (.iload 5, 2) := by decide +kernel
theorem dX9_rankWords_55 : decode cX9_rankWords 55 = .ok (.iload_n 1, 1) := by decide +kernel
theorem dX9_rankWords_56 : decode cX9_rankWords 56 = .ok (.if_icmp .gt 24, 3) := by decide +kernel
theorem dX9_rankWords_59 : decode cX9_rankWords 59 = .ok (.aload_n 0, 1) := by decide +kernel
theorem dX9_rankWords_60 : decode cX9_rankWords 60 = .ok (.getfield 49, 3) := by decide +kernel
theorem dX9_rankWords_63 : decode cX9_rankWords 63 = .ok (.iload 4, 2) := by decide +kernel
theorem dX9_rankWords_65 : decode cX9_rankWords 65 = .ok (.iload 5, 2) := by decide +kernel
theorem dX9_rankWords_67 : decode cX9_rankWords 67 = .ok (.aload_n 0, 1) := by decide +kernel
theorem dX9_rankWords_68 : decode cX9_rankWords 68 = .ok (.getfield 26, 3) := by decide +kernel
theorem dX9_rankWords_71 : decode cX9_rankWords 71 = .ok (.getfield 94, 3) := by decide +kernel
theorem dX9_rankWords_74 : decode cX9_rankWords 74 = .ok (.iload 4, 2) := by decide +kernel
theorem dX9_rankWords_76 : decode cX9_rankWords 76 = .ok (.iaload, 1) := by decide +kernel
theorem dX9_rankWords_77 : decode cX9_rankWords 77 = .ok (.invokevirtual 209, 3) := by decide +kernel
theorem dX9_rankWords_80 : decode cX9_rankWords 80 = .ok (.iinc 3 1, 3) := by decide +kernel
theorem dX9_rankWords_83 : decode cX9_rankWords 83 = .ok (.goto (-73), 3) := by decide +kernel
theorem dX9_rankWords_86 : decode cX9_rankWords 86 = .ok (.return_, 1) := by decide +kernel
end
section
theorem dX10_init_0 : decode cX10_init 0 = .ok (.aload_n 0, 1) := by decide +kernel
theorem dX10_init_1 : decode cX10_init 1 = .ok (.invokespecial 1, 3) := by decide +kernel
theorem dX10_init_4 : decode cX10_init 4 = .ok (.aload_n 0, 1) := by decide +kernel
theorem dX10_init_5 : decode cX10_init 5 = .ok (.bipush 12, 2) := by decide +kernel
theorem dX10_init_7 : decode cX10_init 7 = .ok (.newarray .int, 2) := by decide +kernel
theorem dX10_init_9 : decode cX10_init 9 = .ok (.putfield 7, 3) := by decide +kernel
theorem dX10_init_12 : decode cX10_init 12 = .ok (.aload_n 0, 1) := by decide +kernel
theorem dX10_init_13 : decode cX10_init 13 = .ok (.bipush 60, 2) := by decide +kernel
theorem dX10_init_15 : decode cX10_init 15 = .ok (.newarray .int, 2) := by decide +kernel
theorem dX10_init_17 : decode cX10_init 17 = .ok (.putfield 13, 3) := by decide +kernel
theorem dX10_init_20 : decode cX10_init 20 = .ok (.aload_n 0, 1) := by decide +kernel
theorem dX10_init_21 : decode cX10_init 21 = .ok (.sipush 720, 3) := by decide +kernel
theorem dX10_init_24 : decode cX10_init 24 = .ok (.newarray .int, 2) := by decide +kernel
theorem dX10_init_26 : decode cX10_init 26 = .ok (.putfield 16, 3) := by decide +kernel
theorem dX10_init_29 : decode cX10_init 29 = .ok (.aload_n 0, 1) := by decide +kernel
theorem dX10_init_30 : decode cX10_init 30 = .ok (.bipush 60, 2) := by decide +kernel
theorem dX10_init_32 : decode cX10_init 32 = .ok (.newarray .int, 2) := by decide +kernel
theorem dX10_init_34 : decode cX10_init 34 = .ok (.putfield 19, 3) := by decide +kernel
theorem dX10_init_37 : decode cX10_init 37 = .ok (.aload_n 0, 1) := by decide +kernel
theorem dX10_init_38 : decode cX10_init 38 = .ok (.bipush 6, 2) := by decide +kernel
theorem dX10_init_40 : decode cX10_init 40 = .ok (.newarray .int, 2) := by decide +kernel
theorem dX10_init_42 : decode cX10_init 42 = .ok (.putfield 22, 3) := by decide +kernel
theorem dX10_init_45 : decode cX10_init 45 = .ok (.aload_n 0, 1) := by decide +kernel
theorem dX10_init_46 : decode cX10_init 46 = .ok (.sipush 676, 3) := by decide +kernel
theorem dX10_init_49 : decode cX10_init 49 = .ok (.newarray .int, 2) := by decide +kernel
theorem dX10_init_51 : decode cX10_init 51 = .ok (.putfield 25, 3) := by decide +kernel
theorem dX10_init_54 : decode cX10_init 54 = .ok (.aload_n 0, 1) := by decide +kernel
theorem dX10_init_55 : decode cX10_init 55 = .ok (.bipush 6, 2) := by decide +kernel
theorem dX10_init_57 : decode cX10_init 57 = .ok (.newarray .int, 2) := by decide +kernel
theorem dX10_init_59 : decode cX10_init 59 = .ok (.putfield 28, 3) := by decide +kernel
theorem dX10_init_62 : decode cX10_init 62 = .ok (.aload_n 0, 1) := by decide +kernel
theorem dX10_init_63 : decode cX10_init 63 = .ok (.bipush 72, 2) := by decide +kernel
theorem dX10_init_65 : decode cX10_init 65 = .ok (.newarray .int, 2) := by decide +kernel
theorem dX10_init_67 : decode cX10_init 67 = .ok (.putfield 31, 3) := by decide +kernel
theorem dX10_init_70 : decode cX10_init 70 = .ok (.aload_n 0, 1) := by decide +kernel
theorem dX10_init_71 : decode cX10_init 71 = .ok (.sipush 3600, 3) := by decide +kernel
theorem dX10_init_74 : decode cX10_init 74 = .ok (.newarray .boolean, 2) := by decide +kernel
theorem dX10_init_76 : decode cX10_init 76 = .ok (.putfield 34, 3) := by decide +kernel
theorem dX10_init_79 : decode cX10_init 79 = .ok (.aload_n 0, 1) := by decide +kernel
theorem dX10_init_80 : decode cX10_init 80 = .ok (.sipush 169, 3) := by decide +kernel
theorem dX10_init_83 : decode cX10_init 83 = .ok (.newarray .int, 2) := by decide +kernel
theorem dX10_init_85 : decode cX10_init 85 = .ok (.putfield 38, 3) := by decide +kernel
theorem dX10_init_88 : decode cX10_init 88 = .ok (.aload_n 0, 1) := by decide +kernel
theorem dX10_init_89 : decode cX10_init 89 = .ok (.bipush 12, 2) := by decide +kernel
theorem dX10_init_91 : decode cX10_init 91 = .ok (.newarray .int, 2) := by decide +kernel
theorem dX10_init_93 : decode cX10_init 93 = .ok (.putfield 41, 3) := by decide +kernel
theorem dX10_init_96 : decode cX10_init 96 = .ok (.aload_n 0, 1) := by decide +kernel
theorem dX10_init_97 : decode cX10_init 97 = .ok (.bipush 24, 2) := by decide +kernel
theorem dX10_init_99 : decode cX10_init 99 = .ok (.newarray .int, 2) := by decide +kernel
theorem dX10_init_101 : decode cX10_init 101 = .ok (.putfield 44, 3) := by decide +kernel
theorem dX10_init_104 : decode cX10_init 104 = .ok (.aload_n 0, 1) := by decide +kernel
theorem dX10_init_105 : decode cX10_init 105 = .ok (.bipush 24, 2) := by decide +kernel
theorem dX10_init_107 : decode cX10_init 107 = .ok (.newarray .int, 2) := by decide +kernel
theorem dX10_init_109 : decode cX10_init 109 = .ok (.putfield 47, 3) := by decide +kernel
theorem dX10_init_112 : decode cX10_init 112 = .ok (.aload_n 0, 1) := by decide +kernel
theorem dX10_init_113 : decode cX10_init 113 = .ok (.bipush 60, 2) := by decide +kernel
theorem dX10_init_115 : decode cX10_init 115 = .ok (.newarray .int, 2) := by decide +kernel
theorem dX10_init_117 : decode cX10_init 117 = .ok (.putfield 50, 3) := by decide +kernel
theorem dX10_init_120 : decode cX10_init 120 = .ok (.aload_n 0, 1) := by decide +kernel
theorem dX10_init_121 : decode cX10_init 121 = .ok (.bipush 60, 2) := by decide +kernel
theorem dX10_init_123 : decode cX10_init 123 = .ok (.newarray .int, 2) := by decide +kernel
theorem dX10_init_125 : decode cX10_init 125 = .ok (.putfield 53, 3) := by decide +kernel
theorem dX10_init_128 : decode cX10_init 128 = .ok (.aload_n 0, 1) := by decide +kernel
theorem dX10_init_129 : decode cX10_init 129 = .ok (.sipush 360, 3) := by decide +kernel
theorem dX10_init_132 : decode cX10_init 132 = .ok (.newarray .int, 2) := by decide +kernel
theorem dX10_init_134 : decode cX10_init 134 = .ok (.putfield 56, 3) := by decide +kernel
theorem dX10_init_137 : decode cX10_init 137 = .ok (.aload_n 0, 1) := by decide +kernel
theorem dX10_init_138 : decode cX10_init 138 = .ok (.sipush 360, 3) := by decide +kernel
theorem dX10_init_141 : decode cX10_init 141 = .ok (.newarray .int, 2) := by decide +kernel
theorem dX10_init_143 : decode cX10_init 143 = .ok (.putfield 59, 3) := by decide +kernel
theorem dX10_init_146 : decode cX10_init 146 = .ok (.aload_n 0, 1) := by decide +kernel
theorem dX10_init_147 : decode cX10_init 147 = .ok (.getfield 22, 3) := by decide +kernel
theorem dX10_init_150 : decode cX10_init 150 = .ok (.iconst 0, 1) := by decide +kernel
theorem dX10_init_151 : decode cX10_init 151 = .ok (.iconst 2, 1) := by decide +kernel
theorem dX10_init_152 : decode cX10_init 152 = .ok (.iastore, 1) := by decide +kernel
theorem dX10_init_153 : decode cX10_init 153 = .ok (.aload_n 0, 1) := by decide +kernel
theorem dX10_init_154 : decode cX10_init 154 = .ok (.getfield 22, 3) := by decide +kernel
theorem dX10_init_157 : decode cX10_init 157 = .ok (.iconst 1, 1) := by decide +kernel
theorem dX10_init_158 : decode cX10_init 158 = .ok (.iconst 2, 1) := by decide +kernel
theorem dX10_init_159 : decode cX10_init 159 = .ok (.iastore, 1) := by decide +kernel
theorem dX10_init_160 : decode cX10_init 160 = .ok (.aload_n 0, 1) := by decide +kernel
theorem dX10_init_161 : decode cX10_init 161 = .ok (.getfield 22, 3) := by decide +kernel
theorem dX10_init_164 : decode cX10_init 164 = .ok (.iconst 2, 1) := by decide +kernel
theorem dX10_init_165 : decode cX10_init 165 = .ok (.iconst 3, 1) := by decide +kernel
theorem dX10_init_166 : decode cX10_init 166 = .ok (.iastore, 1) := by decide +kernel
theorem dX10_init_167 : decode cX10_init 167 = .ok (.aload_n 0, 1) := by decide +kernel
theorem dX10_init_168 : decode cX10_init 168 = .ok (.getfield 22, 3) := by decide +kernel
theorem dX10_init_171 : decode cX10_init 171 = .ok (.iconst 3, 1) := by decide +kernel
theorem dX10_init_172 : decode cX10_init 172 = .ok (.iconst 1, 1) := by decide +kernel
theorem dX10_init_173 : decode cX10_init 173 = .ok (.iastore, 1) := by decide +kernel
theorem dX10_init_174 : decode cX10_init 174 = .ok (.aload_n 0, 1) := by decide +kernel
theorem dX10_init_175 : decode cX10_init 175 = .ok (.getfield 22, 3) := by decide +kernel
theorem dX10_init_178 : decode cX10_init 178 = .ok (.iconst 4, 1) := by decide +kernel
theorem dX10_init_179 : decode cX10_init 179 = .ok (.iconst 5, 1) := by decide +kernel
theorem dX10_init_180 : decode cX10_init 180 = .ok (.iastore, 1) := by decide +kernel
theorem dX10_init_181 : decode cX10_init 181 = .ok (.aload_n 0, 1) := by decide +kernel
theorem dX10_init_182 : decode cX10_init 182 = .ok (.getfield 22, 3) := by decide +kernel
theorem dX10_init_185 : decode cX10_init 185 = .ok (.iconst 5, 1) := by decide +kernel
theorem dX10_init_186 : decode cX10_init 186 = .ok (.iconst 4, 1) := by decide +kernel
theorem dX10_init_187 : decode cX10_init 187 = .ok (.iastore, 1) := by decide +kernel
theorem dX10_init_188 : decode cX10_init 188 = .ok (.return_, 1) := by decide +kernel
theorem dX10_thrown_0 : decode cX10_thrown 0 = .ok (.aload_n 0, 1) := by decide +kernel
theorem dX10_thrown_1 : decode cX10_thrown 1 = .ok (.getfield 62, 3) := by decide +kernel
theorem dX10_thrown_4 : decode cX10_thrown 4 = .ok (.ireturn, 1) := by decide +kernel
theorem dX10_in_0 : decode cX10_in 0 = .ok (.iload_n 0, 1) := by decide +kernel
theorem dX10_in_1 : decode cX10_in 1 = .ok (.iload_n 1, 1) := by decide +kernel
theorem dX10_in_2 : decode cX10_in 2 = .ok (.if_icmp .lt 12, 3) := by decide +kernel
theorem dX10_in_5 : decode cX10_in 5 = .ok (.iload_n 0, 1) := by decide +kernel
theorem dX10_in_6 : decode cX10_in 6 = .ok (.iload_n 2, 1) := by decide +kernel
theorem dX10_in_7 : decode cX10_in 7 = .ok (.if_icmp .gt 7, 3) := by decide +kernel
theorem dX10_in_10 : decode cX10_in 10 = .ok (.iconst 1, 1) := by decide +kernel
theorem dX10_in_11 : decode cX10_in 11 = .ok (.goto 4, 3) := by decide +kernel
theorem dX10_in_14 : decode cX10_in 14 = .ok (.iconst 0, 1) := by decide +kernel
theorem dX10_in_15 : decode cX10_in 15 = .ok (.ireturn, 1) := by decide +kernel
theorem dX10_isWord_0 : decode cX10_isWord 0 = .ok (.iload_n 1, 1) := by decide +kernel
theorem dX10_isWord_1 : decode cX10_isWord 1 = .ok (.iconst 0, 1) := by decide +kernel
theorem dX10_isWord_2 : decode cX10_isWord 2 = .ok (.aload_n 0, 1) := by decide +kernel
theorem dX10_isWord_3 : decode cX10_isWord 3 = .ok (.getfield 66, 3) := by decide +kernel
theorem dX10_isWord_6 : decode cX10_isWord 6 = .ok (.iconst 1, 1) := by decide +kernel
theorem dX10_isWord_7 : decode cX10_isWord 7 = .ok (.isub, 1) := by decide +kernel
theorem dX10_isWord_8 : decode cX10_isWord 8 = .ok (.invokestatic 69, 3) := by decide +kernel
theorem dX10_isWord_11 : decode cX10_isWord 11 = .ok (.ireturn, 1) := by decide +kernel
theorem dX10_letter_0 : decode cX10_letter 0 = .ok (.aload_n 0, 1) := by decide +kernel
theorem dX10_letter_1 : decode cX10_letter 1 = .ok (.iconst 0, 1) := by decide +kernel
theorem dX10_letter_2 : decode cX10_letter 2 = .ok (.putfield 62, 3) := by decide +kernel
theorem dX10_letter_5 : decode cX10_letter 5 = .ok (.iload_n 1, 1) := by decide +kernel
theorem dX10_letter_6 : decode cX10_letter 6 = .ok (.iconst 0, 1) := by decide +kernel
theorem dX10_letter_7 : decode cX10_letter 7 = .ok (.bipush 25, 2) := by decide +kernel
theorem dX10_letter_9 : decode cX10_letter 9 = .ok (.invokestatic 69, 3) := by decide +kernel
theorem dX10_letter_12 : decode cX10_letter 12 = .ok (.ifCond .ne 5, 3) := by decide +kernel
theorem dX10_letter_15 : decode cX10_letter 15 = .ok (.iconst (-1), 1) := by decide +kernel
theorem dX10_letter_16 : decode cX10_letter 16 = .ok (.ireturn, 1) := by decide +kernel
theorem dX10_letter_17 : decode cX10_letter 17 = .ok (.aload_n 0, 1) := by decide +kernel
theorem dX10_letter_18 : decode cX10_letter 18 = .ok (.getfield 73, 3) := by decide +kernel
theorem dX10_letter_21 : decode cX10_letter 21 = .ok (.bipush 12, 2) := by decide +kernel
theorem dX10_letter_23 : decode cX10_letter 23 = .ok (.if_icmp .ne 6, 3) := by decide +kernel
theorem dX10_letter_26 : decode cX10_letter 26 = .ok (.bipush (-4), 2) := by decide +kernel
theorem dX10_letter_28 : decode cX10_letter 28 = .ok (.ireturn, 1) := by decide +kernel
theorem dX10_letter_29 : decode cX10_letter 29 = .ok (.aload_n 0, 1) := by decide +kernel
theorem dX10_letter_30 : decode cX10_letter 30 = .ok (.getfield 7, 3) := by decide +kernel
theorem dX10_letter_33 : decode cX10_letter 33 = .ok (.aload_n 0, 1) := by decide +kernel
theorem dX10_letter_34 : decode cX10_letter 34 = .ok (.getfield 73, 3) := by decide +kernel
theorem dX10_letter_37 : decode cX10_letter 37 = .ok (.iload_n 1, 1) := by decide +kernel
theorem dX10_letter_38 : decode cX10_letter 38 = .ok (.iastore, 1) := by decide +kernel
theorem dX10_letter_39 : decode cX10_letter 39 = .ok (.aload_n 0, 1) := by decide +kernel
theorem dX10_letter_40 : decode cX10_letter 40 = .ok (.dup, 1) := by decide +kernel
theorem dX10_letter_41 : decode cX10_letter 41 = .ok (.getfield 73, 3) := by decide +kernel
theorem dX10_letter_44 : decode cX10_letter 44 = .ok (.iconst 1, 1) := by decide +kernel
theorem dX10_letter_45 : decode cX10_letter 45 = .ok (.iadd, 1) := by decide +kernel
theorem dX10_letter_46 : decode cX10_letter 46 = .ok (.putfield 73, 3) := by decide +kernel
theorem dX10_letter_49 : decode cX10_letter 49 = .ok (.aload_n 0, 1) := by decide +kernel
theorem dX10_letter_50 : decode cX10_letter 50 = .ok (.getfield 73, 3) := by decide +kernel
theorem dX10_letter_53 : decode cX10_letter 53 = .ok (.ireturn, 1) := by decide +kernel
theorem dX10_clear_0 : decode cX10_clear 0 = .ok (.aload_n 0, 1) := by decide +kernel
theorem dX10_clear_1 : decode cX10_clear 1 = .ok (.iconst 0, 1) := by decide +kernel
theorem dX10_clear_2 : decode cX10_clear 2 = .ok (.putfield 62, 3) := by decide +kernel
theorem dX10_clear_5 : decode cX10_clear 5 = .ok (.aload_n 0, 1) := by decide +kernel
theorem dX10_clear_6 : decode cX10_clear 6 = .ok (.getfield 73, 3) := by decide +kernel
theorem dX10_clear_9 : decode cX10_clear 9 = .ok (.istore_n 1, 1) := by decide +kernel
theorem dX10_clear_10 : decode cX10_clear 10 = .ok (.aload_n 0, 1) := by decide +kernel
theorem dX10_clear_11 : decode cX10_clear 11 = .ok (.iconst 0, 1) := by decide +kernel
theorem dX10_clear_12 : decode cX10_clear 12 = .ok (.putfield 73, 3) := by decide +kernel
theorem dX10_clear_15 : decode cX10_clear 15 = .ok (.iload_n 1, 1) := by decide +kernel
theorem dX10_clear_16 : decode cX10_clear 16 = .ok (.ireturn, 1) := by decide +kernel
theorem dX10_word_0 : decode cX10_word 0 = .ok (.aload_n 0, 1) := by decide +kernel
theorem dX10_word_1 : decode cX10_word 1 = .ok (.iconst 0, 1) := by decide +kernel
theorem dX10_word_2 : decode cX10_word 2 = .ok (.putfield 62, 3) := by decide +kernel
theorem dX10_word_5 : decode cX10_word 5 = .ok (.iload_n 1, 1) := by decide +kernel
theorem dX10_word_6 : decode cX10_word 6 = .ok (.iconst 1, 1) := by decide +kernel
theorem dX10_word_7 : decode cX10_word 7 = .ok (.sipush 1000, 3) := by decide +kernel
theorem dX10_word_10 : decode cX10_word 10 = .ok (.invokestatic 69, 3) := by decide +kernel
theorem dX10_word_13 : decode cX10_word 13 = .ok (.ifCond .eq 10, 3) := by decide +kernel
theorem dX10_word_16 : decode cX10_word 16 = .ok (.aload_n 0, 1) := by decide +kernel
theorem dX10_word_17 : decode cX10_word 17 = .ok (.getfield 73, 3) := by decide +kernel
theorem dX10_word_20 : decode cX10_word 20 = .ok (.ifCond .ne 6, 3) := by decide +kernel
theorem dX10_word_23 : decode cX10_word 23 = .ok (.bipush (-2), 2) := by decide +kernel
theorem dX10_word_25 : decode cX10_word 25 = .ok (.ireturn, 1) := by decide +kernel
theorem dX10_word_26 : decode cX10_word 26 = .ok (.iconst 0, 1) := by decide +kernel
theorem dX10_word_27 : decode cX10_word 27 = .ok (.istore_n 2, 1) := by decide +kernel
theorem dX10_word_28 : decode cX10_word 28 = .ok (.iload_n 2, 1) := by decide +kernel
theorem dX10_word_29 : decode cX10_word 29 = .ok (.aload_n 0, 1) := by decide +kernel
theorem dX10_word_30 : decode cX10_word 30 = .ok (.getfield 66, 3) := by decide +kernel
theorem dX10_word_33 : decode cX10_word 33 = .ok (.if_icmp .ge 85, 3) := by decide +kernel
theorem dX10_word_36 : decode cX10_word 36 = .ok (.aload_n 0, 1) := by decide +kernel
theorem dX10_word_37 : decode cX10_word 37 = .ok (.getfield 13, 3) := by decide +kernel
theorem dX10_word_40 : decode cX10_word 40 = .ok (.iload_n 2, 1) := by decide +kernel
theorem dX10_word_41 : decode cX10_word 41 = .ok (.iaload, 1) := by decide +kernel
theorem dX10_word_42 : decode cX10_word 42 = .ok (.aload_n 0, 1) := by decide +kernel
theorem dX10_word_43 : decode cX10_word 43 = .ok (.getfield 73, 3) := by decide +kernel
theorem dX10_word_46 : decode cX10_word 46 = .ok (.if_icmp .ne 7, 3) := by decide +kernel
theorem dX10_word_49 : decode cX10_word 49 = .ok (.iconst 1, 1) := by decide +kernel
theorem dX10_word_50 : decode cX10_word 50 = .ok (.goto 4, 3) := by decide +kernel
theorem dX10_word_53 : decode cX10_word 53 = .ok (.iconst 0, 1) := by decide +kernel
theorem dX10_word_54 : decode cX10_word 54 = .ok (.istore_n 3, 1) := by decide +kernel
theorem dX10_word_55 : decode cX10_word 55 = .ok (.iconst 0, 1) := by decide +kernel
theorem dX10_word_56 : decode cX10_word 56 = .ok (.istore 4, 2) := by decide +kernel
theorem dX10_word_58 : decode cX10_word 58 = .ok (.iload 4, 2) := by decide +kernel
theorem dX10_word_60 : decode cX10_word 60 = .ok (.aload_n 0, 1) := by decide +kernel
theorem dX10_word_61 : decode cX10_word 61 = .ok (.getfield 73, 3) := by decide +kernel
theorem dX10_word_64 : decode cX10_word 64 = .ok (.if_icmp .ge 41, 3) := by decide +kernel
theorem dX10_word_67 : decode cX10_word 67 = .ok (.iload_n 3, 1) := by decide +kernel
theorem dX10_word_68 : decode cX10_word 68 = .ok (.ifCond .eq 37, 3) := by decide +kernel
theorem dX10_word_71 : decode cX10_word 71 = .ok (.aload_n 0, 1) := by decide +kernel
theorem dX10_word_72 : decode cX10_word 72 = .ok (.getfield 16, 3) := by decide +kernel
theorem dX10_word_75 : decode cX10_word 75 = .ok (.bipush 12, 2) := by decide +kernel
theorem dX10_word_77 : decode cX10_word 77 = .ok (.iload_n 2, 1) := by decide +kernel
theorem dX10_word_78 : decode cX10_word 78 = .ok (.imul, 1) := by decide +kernel
theorem dX10_word_79 : decode cX10_word 79 = .ok (.iload 4, 2) := by decide +kernel
theorem dX10_word_81 : decode cX10_word 81 = .ok (.iadd, 1) := by decide +kernel
theorem dX10_word_82 : decode cX10_word 82 = .ok (.iaload, 1) := by decide +kernel
theorem dX10_word_83 : decode cX10_word 83 = .ok (.aload_n 0, 1) := by decide +kernel
theorem dX10_word_84 : decode cX10_word 84 = .ok (.getfield 7, 3) := by decide +kernel
theorem dX10_word_87 : decode cX10_word 87 = .ok (.iload 4, 2) := by decide +kernel
theorem dX10_word_89 : decode cX10_word 89 = .ok (.iaload, 1) := by decide +kernel
theorem dX10_word_90 : decode cX10_word 90 = .ok (.if_icmp .ne 7, 3) := by decide +kernel
theorem dX10_word_93 : decode cX10_word 93 = .ok (.iconst 1, 1) := by decide +kernel
theorem dX10_word_94 : decode cX10_word 94 = .ok (.goto 4, 3) := by decide +kernel
theorem dX10_word_97 : decode cX10_word 97 = .ok (.iconst 0, 1) := by decide +kernel
theorem dX10_word_98 : decode cX10_word 98 = .ok (.istore_n 3, 1) := by decide +kernel
theorem dX10_word_99 : decode cX10_word 99 = .ok (.iinc 4 1, 3) := by decide +kernel
theorem dX10_word_102 : decode cX10_word 102 = .ok (.goto (-44), 3) := by decide +kernel
theorem dX10_word_105 : decode cX10_word 105 = .ok (.iload_n 3, 1) := by decide +kernel
theorem dX10_word_106 : decode cX10_word 106 = .ok (.ifCond .eq 6, 3) := by decide +kernel
theorem dX10_word_109 : decode cX10_word 109 = .ok (.bipush (-3), 2) := by decide +kernel
theorem dX10_word_111 : decode cX10_word 111 = .ok (.ireturn, 1) := by decide +kernel
theorem dX10_word_112 : decode cX10_word 112 = .ok (.iinc 2 1, 3) := by decide +kernel
theorem dX10_word_115 : decode cX10_word 115 = .ok (.goto (-87), 3) := by decide +kernel
theorem dX10_word_118 : decode cX10_word 118 = .ok (.aload_n 0, 1) := by decide +kernel
theorem dX10_word_119 : decode cX10_word 119 = .ok (.getfield 66, 3) := by decide +kernel
theorem dX10_word_122 : decode cX10_word 122 = .ok (.bipush 60, 2) := by decide +kernel
theorem dX10_word_124 : decode cX10_word 124 = .ok (.if_icmp .ne 6, 3) := by decide +kernel
theorem dX10_word_127 : decode cX10_word 127 = .ok (.bipush (-4), 2) := by decide +kernel
theorem dX10_word_129 : decode cX10_word 129 = .ok (.ireturn, 1) := by decide +kernel
theorem dX10_word_130 : decode cX10_word 130 = .ok (.aload_n 0, 1) := by decide +kernel
theorem dX10_word_131 : decode cX10_word 131 = .ok (.getfield 13, 3) := by decide +kernel
theorem dX10_word_134 : decode cX10_word 134 = .ok (.aload_n 0, 1) := by decide +kernel
theorem dX10_word_135 : decode cX10_word 135 = .ok (.getfield 66, 3) := by decide +kernel
theorem dX10_word_138 : decode cX10_word 138 = .ok (.aload_n 0, 1) := by decide +kernel
theorem dX10_word_139 : decode cX10_word 139 = .ok (.getfield 73, 3) := by decide +kernel
theorem dX10_word_142 : decode cX10_word 142 = .ok (.iastore, 1) := by decide +kernel
theorem dX10_word_143 : decode cX10_word 143 = .ok (.iconst 0, 1) := by decide +kernel
theorem dX10_word_144 : decode cX10_word 144 = .ok (.istore_n 2, 1) := by decide +kernel
theorem dX10_word_145 : decode cX10_word 145 = .ok (.iload_n 2, 1) := by decide +kernel
theorem dX10_word_146 : decode cX10_word 146 = .ok (.aload_n 0, 1) := by decide +kernel
theorem dX10_word_147 : decode cX10_word 147 = .ok (.getfield 73, 3) := by decide +kernel
theorem dX10_word_150 : decode cX10_word 150 = .ok (.if_icmp .ge 29, 3) := by decide +kernel
theorem dX10_word_153 : decode cX10_word 153 = .ok (.aload_n 0, 1) := by decide +kernel
theorem dX10_word_154 : decode cX10_word 154 = .ok (.getfield 16, 3) := by decide +kernel
theorem dX10_word_157 : decode cX10_word 157 = .ok (.bipush 12, 2) := by decide +kernel
theorem dX10_word_159 : decode cX10_word 159 = .ok (.aload_n 0, 1) := by decide +kernel
theorem dX10_word_160 : decode cX10_word 160 = .ok (.getfield 66, 3) := by decide +kernel
theorem dX10_word_163 : decode cX10_word 163 = .ok (.imul, 1) := by decide +kernel
theorem dX10_word_164 : decode cX10_word 164 = .ok (.iload_n 2, 1) := by decide +kernel
theorem dX10_word_165 : decode cX10_word 165 = .ok (.iadd, 1) := by decide +kernel
theorem dX10_word_166 : decode cX10_word 166 = .ok (.aload_n 0, 1) := by decide +kernel
theorem dX10_word_167 : decode cX10_word 167 = .ok (.getfield 7, 3) := by decide +kernel
theorem dX10_word_170 : decode cX10_word 170 = .ok (.iload_n 2, 1) := by decide +kernel
theorem dX10_word_171 : decode cX10_word 171 = .ok (.iaload, 1) := by decide +kernel
theorem dX10_word_172 : decode cX10_word 172 = .ok (.iastore, 1) := by decide +kernel
theorem dX10_word_173 : decode cX10_word 173 = .ok (.iinc 2 1, 3) := by decide +kernel
theorem dX10_word_176 : decode cX10_word 176 = .ok (.goto (-31), 3) := by decide +kernel
theorem dX10_word_179 : decode cX10_word 179 = .ok (.aload_n 0, 1) := by decide +kernel
theorem dX10_word_180 : decode cX10_word 180 = .ok (.getfield 19, 3) := by decide +kernel
theorem dX10_word_183 : decode cX10_word 183 = .ok (.aload_n 0, 1) := by decide +kernel
theorem dX10_word_184 : decode cX10_word 184 = .ok (.getfield 66, 3) := by decide +kernel
theorem dX10_word_187 : decode cX10_word 187 = .ok (.iload_n 1, 1) := by decide +kernel
theorem dX10_word_188 : decode cX10_word 188 = .ok (.iastore, 1) := by decide +kernel
theorem dX10_word_189 : decode cX10_word 189 = .ok (.aload_n 0, 1) := by decide +kernel
theorem dX10_word_190 : decode cX10_word 190 = .ok (.dup, 1) := by decide +kernel
theorem dX10_word_191 : decode cX10_word 191 = .ok (.getfield 66, 3) := by decide +kernel
theorem dX10_word_194 : decode cX10_word 194 = .ok (.iconst 1, 1) := by decide +kernel
theorem dX10_word_195 : decode cX10_word 195 = .ok (.iadd, 1) := by decide +kernel
theorem dX10_word_196 : decode cX10_word 196 = .ok (.putfield 66, 3) := by decide +kernel
theorem dX10_word_199 : decode cX10_word 199 = .ok (.aload_n 0, 1) := by decide +kernel
theorem dX10_word_200 : decode cX10_word 200 = .ok (.getfield 66, 3) := by decide +kernel
theorem dX10_word_203 : decode cX10_word 203 = .ok (.iconst 1, 1) := by decide +kernel
theorem dX10_word_204 : decode cX10_word 204 = .ok (.isub, 1) := by decide +kernel
theorem dX10_word_205 : decode cX10_word 205 = .ok (.ireturn, 1) := by decide +kernel
theorem dX10_count_0 : decode cX10_count 0 = .ok (.aload_n 0, 1) := by decide +kernel
theorem dX10_count_1 : decode cX10_count 1 = .ok (.iconst 0, 1) := by decide +kernel
theorem dX10_count_2 : decode cX10_count 2 = .ok (.putfield 62, 3) := by decide +kernel
theorem dX10_count_5 : decode cX10_count 5 = .ok (.aload_n 0, 1) := by decide +kernel
theorem dX10_count_6 : decode cX10_count 6 = .ok (.iload_n 1, 1) := by decide +kernel
theorem dX10_count_7 : decode cX10_count 7 = .ok (.invokevirtual 76, 3) := by decide +kernel
theorem dX10_count_10 : decode cX10_count 10 = .ok (.ifCond .ne 5, 3) := by decide +kernel
theorem dX10_count_13 : decode cX10_count 13 = .ok (.iconst (-1), 1) := by decide +kernel
theorem dX10_count_14 : decode cX10_count 14 = .ok (.ireturn, 1) := by decide +kernel
theorem dX10_count_15 : decode cX10_count 15 = .ok (.iload_n 2, 1) := by decide +kernel
theorem dX10_count_16 : decode cX10_count 16 = .ok (.iconst 1, 1) := by decide +kernel
theorem dX10_count_17 : decode cX10_count 17 = .ok (.sipush 1000, 3) := by decide +kernel
theorem dX10_count_20 : decode cX10_count 20 = .ok (.invokestatic 69, 3) := by decide +kernel
theorem dX10_count_23 : decode cX10_count 23 = .ok (.ifCond .ne 6, 3) := by decide +kernel
theorem dX10_count_26 : decode cX10_count 26 = .ok (.bipush (-2), 2) := by decide +kernel
theorem dX10_count_28 : decode cX10_count 28 = .ok (.ireturn, 1) := by decide +kernel
theorem dX10_count_29 : decode cX10_count 29 = .ok (.aload_n 0, 1) := by decide +kernel
theorem dX10_count_30 : decode cX10_count 30 = .ok (.getfield 19, 3) := by decide +kernel
theorem dX10_count_33 : decode cX10_count 33 = .ok (.iload_n 1, 1) := by decide +kernel
theorem dX10_count_34 : decode cX10_count 34 = .ok (.iaload, 1) := by decide +kernel
theorem dX10_count_35 : decode cX10_count 35 = .ok (.istore_n 3, 1) := by decide +kernel
theorem dX10_count_36 : decode cX10_count 36 = .ok (.aload_n 0, 1) := by decide +kernel
theorem dX10_count_37 : decode cX10_count 37 = .ok (.getfield 19, 3) := by decide +kernel
theorem dX10_count_40 : decode cX10_count 40 = .ok (.iload_n 1, 1) := by decide +kernel
theorem dX10_count_41 : decode cX10_count 41 = .ok (.iload_n 2, 1) := by decide +kernel
theorem dX10_count_42 : decode cX10_count 42 = .ok (.iastore, 1) := by decide +kernel
theorem dX10_count_43 : decode cX10_count 43 = .ok (.iload_n 3, 1) := by decide +kernel
theorem dX10_count_44 : decode cX10_count 44 = .ok (.ireturn, 1) := by decide +kernel
theorem dX10_isAhead_0 : decode cX10_isAhead 0 = .ok (.iconst 0, 1) := by decide +kernel
theorem dX10_isAhead_1 : decode cX10_isAhead 1 = .ok (.istore_n 3, 1) := by decide +kernel
theorem dX10_isAhead_2 : decode cX10_isAhead 2 = .ok (.iload_n 3, 1) := by decide +kernel
theorem dX10_isAhead_3 : decode cX10_isAhead 3 = .ok (.aload_n 0, 1) := by decide +kernel
theorem dX10_isAhead_4 : decode cX10_isAhead 4 = .ok (.getfield 13, 3) := by decide +kernel
theorem dX10_isAhead_7 : decode cX10_isAhead 7 = .ok (.iload_n 1, 1) := by decide +kernel
theorem dX10_isAhead_8 : decode cX10_isAhead 8 = .ok (.iaload, 1) := by decide +kernel
theorem dX10_isAhead_9 : decode cX10_isAhead 9 = .ok (.if_icmp .ge 44, 3) := by decide +kernel
theorem dX10_isAhead_12 : decode cX10_isAhead 12 = .ok (.iload_n 3, 1) := by decide +kernel
theorem dX10_isAhead_13 : decode cX10_isAhead 13 = .ok (.aload_n 0, 1) := by decide +kernel
theorem dX10_isAhead_14 : decode cX10_isAhead 14 = .ok (.getfield 13, 3) := by decide +kernel
theorem dX10_isAhead_17 : decode cX10_isAhead 17 = .ok (.iload_n 2, 1) := by decide +kernel
theorem dX10_isAhead_18 : decode cX10_isAhead 18 = .ok (.iaload, 1) := by decide +kernel
theorem dX10_isAhead_19 : decode cX10_isAhead 19 = .ok (.if_icmp .ge 34, 3) := by decide +kernel
theorem dX10_isAhead_22 : decode cX10_isAhead 22 = .ok (.aload_n 0, 1) := by decide +kernel
theorem dX10_isAhead_23 : decode cX10_isAhead 23 = .ok (.getfield 16, 3) := by decide +kernel
theorem dX10_isAhead_26 : decode cX10_isAhead 26 = .ok (.bipush 12, 2) := by decide +kernel
theorem dX10_isAhead_28 : decode cX10_isAhead 28 = .ok (.iload_n 1, 1) := by decide +kernel
theorem dX10_isAhead_29 : decode cX10_isAhead 29 = .ok (.imul, 1) := by decide +kernel
theorem dX10_isAhead_30 : decode cX10_isAhead 30 = .ok (.iload_n 3, 1) := by decide +kernel
theorem dX10_isAhead_31 : decode cX10_isAhead 31 = .ok (.iadd, 1) := by decide +kernel
theorem dX10_isAhead_32 : decode cX10_isAhead 32 = .ok (.iaload, 1) := by decide +kernel
theorem dX10_isAhead_33 : decode cX10_isAhead 33 = .ok (.aload_n 0, 1) := by decide +kernel
theorem dX10_isAhead_34 : decode cX10_isAhead 34 = .ok (.getfield 16, 3) := by decide +kernel
theorem dX10_isAhead_37 : decode cX10_isAhead 37 = .ok (.bipush 12, 2) := by decide +kernel
theorem dX10_isAhead_39 : decode cX10_isAhead 39 = .ok (.iload_n 2, 1) := by decide +kernel
theorem dX10_isAhead_40 : decode cX10_isAhead 40 = .ok (.imul, 1) := by decide +kernel
theorem dX10_isAhead_41 : decode cX10_isAhead 41 = .ok (.iload_n 3, 1) := by decide +kernel
theorem dX10_isAhead_42 : decode cX10_isAhead 42 = .ok (.iadd, 1) := by decide +kernel
theorem dX10_isAhead_43 : decode cX10_isAhead 43 = .ok (.iaload, 1) := by decide +kernel
theorem dX10_isAhead_44 : decode cX10_isAhead 44 = .ok (.if_icmp .ne 9, 3) := by decide +kernel
theorem dX10_isAhead_47 : decode cX10_isAhead 47 = .ok (.iinc 3 1, 3) := by decide +kernel
theorem dX10_isAhead_50 : decode cX10_isAhead 50 = .ok (.goto (-48), 3) := by decide +kernel
theorem dX10_isAhead_53 : decode cX10_isAhead 53 = .ok (.iload_n 3, 1) := by decide +kernel
theorem dX10_isAhead_54 : decode cX10_isAhead 54 = .ok (.aload_n 0, 1) := by decide +kernel
theorem dX10_isAhead_55 : decode cX10_isAhead 55 = .ok (.getfield 13, 3) := by decide +kernel
theorem dX10_isAhead_58 : decode cX10_isAhead 58 = .ok (.iload_n 1, 1) := by decide +kernel
theorem dX10_isAhead_59 : decode cX10_isAhead 59 = .ok (.iaload, 1) := by decide +kernel
theorem dX10_isAhead_60 : decode cX10_isAhead 60 = .ok (.if_icmp .eq 13, 3) := by decide +kernel
theorem dX10_isAhead_63 : decode cX10_isAhead 63 = .ok (.iload_n 3, 1) := by decide +kernel
theorem dX10_isAhead_64 : decode cX10_isAhead 64 = .ok (.aload_n 0, 1) := by decide +kernel
theorem dX10_isAhead_65 : decode cX10_isAhead 65 = .ok (.getfield 13, 3) := by decide +kernel
theorem dX10_isAhead_68 : decode cX10_isAhead 68 = .ok (.iload_n 2, 1) := by decide +kernel
theorem dX10_isAhead_69 : decode cX10_isAhead 69 = .ok (.iaload, 1) := by decide +kernel
theorem dX10_isAhead_70 : decode cX10_isAhead 70 = .ok (.if_icmp .ne 29, 3) := by decide +kernel
theorem dX10_isAhead_73 : decode cX10_isAhead 73 = .ok (.iload_n 3, 1) := by decide +kernel
theorem dX10_isAhead_74 : decode cX10_isAhead 74 = .ok (.aload_n 0, 1) := by decide +kernel
theorem dX10_isAhead_75 : decode cX10_isAhead 75 = .ok (.getfield 13, 3) := by decide +kernel
theorem dX10_isAhead_78 : decode cX10_isAhead 78 = .ok (.iload_n 1, 1) := by decide +kernel
theorem dX10_isAhead_79 : decode cX10_isAhead 79 = .ok (.iaload, 1) := by decide +kernel
theorem dX10_isAhead_80 : decode cX10_isAhead 80 = .ok (.if_icmp .ne 17, 3) := by decide +kernel
theorem dX10_isAhead_83 : decode cX10_isAhead 83 = .ok (.iload_n 3, 1) := by decide +kernel
theorem dX10_isAhead_84 : decode cX10_isAhead 84 = .ok (.aload_n 0, 1) := by decide +kernel
theorem dX10_isAhead_85 : decode cX10_isAhead 85 = .ok (.getfield 13, 3) := by decide +kernel
theorem dX10_isAhead_88 : decode cX10_isAhead 88 = .ok (.iload_n 2, 1) := by decide +kernel
theorem dX10_isAhead_89 : decode cX10_isAhead 89 = .ok (.iaload, 1) := by decide +kernel
theorem dX10_isAhead_90 : decode cX10_isAhead 90 = .ok (.if_icmp .ge 7, 3) := by decide +kernel
theorem dX10_isAhead_93 : decode cX10_isAhead 93 = .ok (.iconst 1, 1) := by decide +kernel
theorem dX10_isAhead_94 : decode cX10_isAhead 94 = .ok (.goto 4, 3) := by decide +kernel
theorem dX10_isAhead_97 : decode cX10_isAhead 97 = .ok (.iconst 0, 1) := by decide +kernel
theorem dX10_isAhead_98 : decode cX10_isAhead 98 = .ok (.ireturn, 1) := by decide +kernel
theorem dX10_isAhead_99 : decode cX10_isAhead 99 = .ok (.aload_n 0, 1) := by decide +kernel
theorem dX10_isAhead_100 : decode cX10_isAhead 100 = .ok (.getfield 16, 3) := by decide +kernel
theorem dX10_isAhead_103 : decode cX10_isAhead 103 = .ok (.bipush 12, 2) := by decide +kernel
theorem dX10_isAhead_105 : decode cX10_isAhead 105 = .ok (.iload_n 1, 1) := by decide +kernel
theorem dX10_isAhead_106 : decode cX10_isAhead 106 = .ok (.imul, 1) := by decide +kernel
theorem dX10_isAhead_107 : decode cX10_isAhead 107 = .ok (.iload_n 3, 1) := by decide +kernel
theorem dX10_isAhead_108 : decode cX10_isAhead 108 = .ok (.iadd, 1) := by decide +kernel
theorem dX10_isAhead_109 : decode cX10_isAhead 109 = .ok (.iaload, 1) := by decide +kernel
theorem dX10_isAhead_110 : decode cX10_isAhead 110 = .ok (.aload_n 0, 1) := by decide +kernel
theorem dX10_isAhead_111 : decode cX10_isAhead 111 = .ok (.getfield 16, 3) := by decide +kernel
theorem dX10_isAhead_114 : decode cX10_isAhead 114 = .ok (.bipush 12, 2) := by decide +kernel
theorem dX10_isAhead_116 : decode cX10_isAhead 116 = .ok (.iload_n 2, 1) := by decide +kernel
theorem dX10_isAhead_117 : decode cX10_isAhead 117 = .ok (.imul, 1) := by decide +kernel
theorem dX10_isAhead_118 : decode cX10_isAhead 118 = .ok (.iload_n 3, 1) := by decide +kernel
theorem dX10_isAhead_119 : decode cX10_isAhead 119 = .ok (.iadd, 1) := by decide +kernel
theorem dX10_isAhead_120 : decode cX10_isAhead 120 = .ok (.iaload, 1) := by decide +kernel
theorem dX10_isAhead_121 : decode cX10_isAhead 121 = .ok (.if_icmp .ge 7, 3) := by decide +kernel
theorem dX10_isAhead_124 : decode cX10_isAhead 124 = .ok (.iconst 1, 1) := by decide +kernel
theorem dX10_isAhead_125 : decode cX10_isAhead 125 = .ok (.goto 4, 3) := by decide +kernel
theorem dX10_isAhead_128 : decode cX10_isAhead 128 = .ok (.iconst 0, 1) := by decide +kernel
theorem dX10_isAhead_129 : decode cX10_isAhead 129 = .ok (.ireturn, 1) := by decide +kernel
theorem dX10_rank_0 : decode cX10_rank 0 = .ok (.iconst 0, 1) := by decide +kernel
theorem dX10_rank_1 : decode cX10_rank 1 = .ok (.istore_n 2, 1) := by decide +kernel
theorem dX10_rank_2 : decode cX10_rank 2 = .ok (.iconst 0, 1) := by decide +kernel
theorem dX10_rank_3 : decode cX10_rank 3 = .ok (.istore_n 3, 1) := by decide +kernel
theorem dX10_rank_4 : decode cX10_rank 4 = .ok (.iload_n 3, 1) := by decide +kernel
theorem dX10_rank_5 : decode cX10_rank 5 = .ok (.aload_n 0, 1) := by decide +kernel
theorem dX10_rank_6 : decode cX10_rank 6 = .ok (.getfield 66, 3) := by decide +kernel
theorem dX10_rank_9 : decode cX10_rank 9 = .ok (.if_icmp .ge 26, 3) := by decide +kernel
theorem dX10_rank_12 : decode cX10_rank 12 = .ok (.iload_n 2, 1) := by decide +kernel
theorem dX10_rank_13 : decode cX10_rank 13 = .ok (.aload_n 0, 1) := by decide +kernel
theorem dX10_rank_14 : decode cX10_rank 14 = .ok (.iload_n 3, 1) := by decide +kernel
theorem dX10_rank_15 : decode cX10_rank 15 = .ok (.iload_n 1, 1) := by decide +kernel
theorem dX10_rank_16 : decode cX10_rank 16 = .ok (.invokevirtual 80, 3) := by decide +kernel
theorem dX10_rank_19 : decode cX10_rank 19 = .ok (.ifCond .eq 7, 3) := by decide +kernel
theorem dX10_rank_22 : decode cX10_rank 22 = .ok (.iconst 1, 1) := by decide +kernel
theorem dX10_rank_23 : decode cX10_rank 23 = .ok (.goto 4, 3) := by decide +kernel
theorem dX10_rank_26 : decode cX10_rank 26 = .ok (.iconst 0, 1) := by decide +kernel
theorem dX10_rank_27 : decode cX10_rank 27 = .ok (.iadd, 1) := by decide +kernel
theorem dX10_rank_28 : decode cX10_rank 28 = .ok (.istore_n 2, 1) := by decide +kernel
theorem dX10_rank_29 : decode cX10_rank 29 = .ok (.iinc 3 1, 3) := by decide +kernel
theorem dX10_rank_32 : decode cX10_rank 32 = .ok (.goto (-28), 3) := by decide +kernel
theorem dX10_rank_35 : decode cX10_rank 35 = .ok (.iload_n 2, 1) := by decide +kernel
theorem dX10_rank_36 : decode cX10_rank 36 = .ok (.ireturn, 1) := by decide +kernel
theorem dX10_at_0 : decode cX10_at 0 = .ok (.aload_n 0, 1) := by decide +kernel
theorem dX10_at_1 : decode cX10_at 1 = .ok (.iconst 0, 1) := by decide +kernel
theorem dX10_at_2 : decode cX10_at 2 = .ok (.putfield 62, 3) := by decide +kernel
theorem dX10_at_5 : decode cX10_at 5 = .ok (.aload_n 0, 1) := by decide +kernel
theorem dX10_at_6 : decode cX10_at 6 = .ok (.iload_n 1, 1) := by decide +kernel
theorem dX10_at_7 : decode cX10_at 7 = .ok (.invokevirtual 76, 3) := by decide +kernel
theorem dX10_at_10 : decode cX10_at 10 = .ok (.ifCond .eq 20, 3) := by decide +kernel
theorem dX10_at_13 : decode cX10_at 13 = .ok (.iload_n 2, 1) := by decide +kernel
theorem dX10_at_14 : decode cX10_at 14 = .ok (.bipush (-2), 2) := by decide +kernel
theorem dX10_at_16 : decode cX10_at 16 = .ok (.aload_n 0, 1) := by decide +kernel
theorem dX10_at_17 : decode cX10_at 17 = .ok (.getfield 13, 3) := by decide +kernel
theorem dX10_at_20 : decode cX10_at 20 = .ok (.iload_n 1, 1) := by decide +kernel
theorem dX10_at_21 : decode cX10_at 21 = .ok (.iaload, 1) := by decide +kernel
theorem dX10_at_22 : decode cX10_at 22 = .ok (.iconst 1, 1) := by decide +kernel
theorem dX10_at_23 : decode cX10_at 23 = .ok (.isub, 1) := by decide +kernel
theorem dX10_at_24 : decode cX10_at 24 = .ok (.invokestatic 69, 3) := by decide +kernel
theorem dX10_at_27 : decode cX10_at 27 = .ok (.ifCond .ne 5, 3) := by decide +kernel
theorem dX10_at_30 : decode cX10_at 30 = .ok (.iconst (-1), 1) := by decide +kernel
theorem dX10_at_31 : decode cX10_at 31 = .ok (.ireturn, 1) := by decide +kernel
theorem dX10_at_32 : decode cX10_at 32 = .ok (.iload_n 2, 1) := by decide +kernel
theorem dX10_at_33 : decode cX10_at 33 = .ok (.bipush (-2), 2) := by decide +kernel
theorem dX10_at_35 : decode cX10_at 35 = .ok (.if_icmp .ne 12, 3) := by decide +kernel
theorem dX10_at_38 : decode cX10_at 38 = .ok (.aload_n 0, 1) := by decide +kernel
theorem dX10_at_39 : decode cX10_at 39 = .ok (.getfield 13, 3) := by decide +kernel
theorem dX10_at_42 : decode cX10_at 42 = .ok (.iload_n 1, 1) := by decide +kernel
theorem dX10_at_43 : decode cX10_at 43 = .ok (.iaload, 1) := by decide +kernel
theorem dX10_at_44 : decode cX10_at 44 = .ok (.goto 27, 3) := by decide +kernel
theorem dX10_at_47 : decode cX10_at 47 = .ok (.iload_n 2, 1) := by decide +kernel
theorem dX10_at_48 : decode cX10_at 48 = .ok (.iconst (-1), 1) := by decide +kernel
theorem dX10_at_49 : decode cX10_at 49 = .ok (.if_icmp .ne 11, 3) := by decide +kernel
theorem dX10_at_52 : decode cX10_at 52 = .ok (.aload_n 0, 1) := by decide +kernel
theorem dX10_at_53 : decode cX10_at 53 = .ok (.iload_n 1, 1) := by decide +kernel
theorem dX10_at_54 : decode cX10_at 54 = .ok (.invokevirtual 84, 3) := by decide +kernel
theorem dX10_at_57 : decode cX10_at 57 = .ok (.goto 14, 3) := by decide +kernel
theorem dX10_at_60 : decode cX10_at 60 = .ok (.aload_n 0, 1) := by decide +kernel
theorem dX10_at_61 : decode cX10_at 61 = .ok (.getfield 16, 3) := by decide +kernel
theorem dX10_at_64 : decode cX10_at 64 = .ok (.bipush 12, 2) := by decide +kernel
theorem dX10_at_66 : decode cX10_at 66 = .ok (.iload_n 1, 1) := by decide +kernel
theorem dX10_at_67 : decode cX10_at 67 = .ok (.imul, 1) := by decide +kernel
theorem dX10_at_68 : decode cX10_at 68 = .ok (.iload_n 2, 1) := by decide +kernel
theorem dX10_at_69 : decode cX10_at 69 = .ok (.iadd, 1) := by decide +kernel
theorem dX10_at_70 : decode cX10_at 70 = .ok (.iaload, 1) := by decide +kernel
theorem dX10_at_71 : decode cX10_at 71 = .ok (.ireturn, 1) := by decide +kernel
theorem dX10_price_0 : decode cX10_price 0 = .ok (.aload_n 0, 1) := by decide +kernel
theorem dX10_price_1 : decode cX10_price 1 = .ok (.iconst 0, 1) := by decide +kernel
theorem dX10_price_2 : decode cX10_price 2 = .ok (.putfield 62, 3) := by decide +kernel
theorem dX10_price_5 : decode cX10_price 5 = .ok (.iload_n 1, 1) := by decide +kernel
theorem dX10_price_6 : decode cX10_price 6 = .ok (.iconst 0, 1) := by decide +kernel
theorem dX10_price_7 : decode cX10_price 7 = .ok (.iconst 5, 1) := by decide +kernel
theorem dX10_price_8 : decode cX10_price 8 = .ok (.invokestatic 69, 3) := by decide +kernel
theorem dX10_price_11 : decode cX10_price 11 = .ok (.ifCond .eq 23, 3) := by decide +kernel
theorem dX10_price_14 : decode cX10_price 14 = .ok (.iload_n 2, 1) := by decide +kernel
theorem dX10_price_15 : decode cX10_price 15 = .ok (.iconst 0, 1) := by decide +kernel
theorem dX10_price_16 : decode cX10_price 16 = .ok (.iload_n 1, 1) := by decide +kernel
theorem dX10_price_17 : decode cX10_price 17 = .ok (.iconst 4, 1) := by decide +kernel
theorem dX10_price_18 : decode cX10_price 18 = .ok (.if_icmp .ge 8, 3) := by decide +kernel
theorem dX10_price_21 : decode cX10_price 21 = .ok (.bipush 9, 2) := by decide +kernel
theorem dX10_price_23 : decode cX10_price 23 = .ok (.goto 5, 3) := by decide +kernel
theorem dX10_price_26 : decode cX10_price 26 = .ok (.bipush 50, 2) := by decide +kernel
theorem dX10_price_28 : decode cX10_price 28 = .ok (.invokestatic 69, 3) := by decide +kernel
theorem dX10_price_31 : decode cX10_price 31 = .ok (.ifCond .ne 6, 3) := by decide +kernel
theorem dX10_price_34 : decode cX10_price 34 = .ok (.bipush (-2), 2) := by decide +kernel
theorem dX10_price_36 : decode cX10_price 36 = .ok (.ireturn, 1) := by decide +kernel
theorem dX10_price_37 : decode cX10_price 37 = .ok (.aload_n 0, 1) := by decide +kernel
theorem dX10_price_38 : decode cX10_price 38 = .ok (.getfield 22, 3) := by decide +kernel
theorem dX10_price_41 : decode cX10_price 41 = .ok (.iload_n 1, 1) := by decide +kernel
theorem dX10_price_42 : decode cX10_price 42 = .ok (.iaload, 1) := by decide +kernel
theorem dX10_price_43 : decode cX10_price 43 = .ok (.istore_n 3, 1) := by decide +kernel
theorem dX10_price_44 : decode cX10_price 44 = .ok (.aload_n 0, 1) := by decide +kernel
theorem dX10_price_45 : decode cX10_price 45 = .ok (.getfield 22, 3) := by decide +kernel
theorem dX10_price_48 : decode cX10_price 48 = .ok (.iload_n 1, 1) := by decide +kernel
theorem dX10_price_49 : decode cX10_price 49 = .ok (.iload_n 2, 1) := by decide +kernel
theorem dX10_price_50 : decode cX10_price 50 = .ok (.iastore, 1) := by decide +kernel
theorem dX10_price_51 : decode cX10_price 51 = .ok (.iload_n 3, 1) := by decide +kernel
theorem dX10_price_52 : decode cX10_price 52 = .ok (.ireturn, 1) := by decide +kernel
theorem dX10_near_0 : decode cX10_near 0 = .ok (.aload_n 0, 1) := by decide +kernel
theorem dX10_near_1 : decode cX10_near 1 = .ok (.iconst 0, 1) := by decide +kernel
theorem dX10_near_2 : decode cX10_near 2 = .ok (.putfield 62, 3) := by decide +kernel
theorem dX10_near_5 : decode cX10_near 5 = .ok (.iload_n 1, 1) := by decide +kernel
theorem dX10_near_6 : decode cX10_near 6 = .ok (.iconst 0, 1) := by decide +kernel
theorem dX10_near_7 : decode cX10_near 7 = .ok (.bipush 25, 2) := by decide +kernel
theorem dX10_near_9 : decode cX10_near 9 = .ok (.invokestatic 69, 3) := by decide +kernel
theorem dX10_near_12 : decode cX10_near 12 = .ok (.ifCond .eq 18, 3) := by decide +kernel
theorem dX10_near_15 : decode cX10_near 15 = .ok (.iload_n 2, 1) := by decide +kernel
theorem dX10_near_16 : decode cX10_near 16 = .ok (.iconst 0, 1) := by decide +kernel
theorem dX10_near_17 : decode cX10_near 17 = .ok (.bipush 25, 2) := by decide +kernel
theorem dX10_near_19 : decode cX10_near 19 = .ok (.invokestatic 69, 3) := by decide +kernel
theorem dX10_near_22 : decode cX10_near 22 = .ok (.ifCond .eq 8, 3) := by decide +kernel
theorem dX10_near_25 : decode cX10_near 25 = .ok (.iload_n 1, 1) := by decide +kernel
theorem dX10_near_26 : decode cX10_near 26 = .ok (.iload_n 2, 1) := by decide +kernel
theorem dX10_near_27 : decode cX10_near 27 = .ok (.if_icmp .ne 5, 3) := by decide +kernel
theorem dX10_near_30 : decode cX10_near 30 = .ok (.iconst (-1), 1) := by decide +kernel
theorem dX10_near_31 : decode cX10_near 31 = .ok (.ireturn, 1) := by decide +kernel
theorem dX10_near_32 : decode cX10_near 32 = .ok (.iload_n 3, 1) := by decide +kernel
theorem dX10_near_33 : decode cX10_near 33 = .ok (.iconst (-1), 1) := by decide +kernel
theorem dX10_near_34 : decode cX10_near 34 = .ok (.bipush 9, 2) := by decide +kernel
theorem dX10_near_36 : decode cX10_near 36 = .ok (.invokestatic 69, 3) := by decide +kernel
theorem dX10_near_39 : decode cX10_near 39 = .ok (.ifCond .ne 6, 3) := by decide +kernel
theorem dX10_near_42 : decode cX10_near 42 = .ok (.bipush (-2), 2) := by decide +kernel
theorem dX10_near_44 : decode cX10_near 44 = .ok (.ireturn, 1) := by decide +kernel
theorem dX10_near_45 : decode cX10_near 45 = .ok (.aload_n 0, 1) := by decide +kernel
theorem dX10_near_46 : decode cX10_near 46 = .ok (.getfield 25, 3) := by decide +kernel
theorem dX10_near_49 : decode cX10_near 49 = .ok (.bipush 26, 2) := by decide +kernel
theorem dX10_near_51 : decode cX10_near 51 = .ok (.iload_n 1, 1) := by decide +kernel
theorem dX10_near_52 : decode cX10_near 52 = .ok (.imul, 1) := by decide +kernel
theorem dX10_near_53 : decode cX10_near 53 = .ok (.iload_n 2, 1) := by decide +kernel
theorem dX10_near_54 : decode cX10_near 54 = .ok (.iadd, 1) := by decide +kernel
theorem dX10_near_55 : decode cX10_near 55 = .ok (.iaload, 1) := by decide +kernel
theorem dX10_near_56 : decode cX10_near 56 = .ok (.istore 4, 2) := by decide +kernel
theorem dX10_near_58 : decode cX10_near 58 = .ok (.aload_n 0, 1) := by decide +kernel
theorem dX10_near_59 : decode cX10_near 59 = .ok (.getfield 25, 3) := by decide +kernel
theorem dX10_near_62 : decode cX10_near 62 = .ok (.bipush 26, 2) := by decide +kernel
theorem dX10_near_64 : decode cX10_near 64 = .ok (.iload_n 1, 1) := by decide +kernel
theorem dX10_near_65 : decode cX10_near 65 = .ok (.imul, 1) := by decide +kernel
theorem dX10_near_66 : decode cX10_near 66 = .ok (.iload_n 2, 1) := by decide +kernel
theorem dX10_near_67 : decode cX10_near 67 = .ok (.iadd, 1) := by decide +kernel
theorem dX10_near_68 : decode cX10_near 68 = .ok (.iload_n 3, 1) := by decide +kernel
theorem dX10_near_69 : decode cX10_near 69 = .ok (.iconst 1, 1) := by decide +kernel
theorem dX10_near_70 : decode cX10_near 70 = .ok (.iadd, 1) := by decide +kernel
theorem dX10_near_71 : decode cX10_near 71 = .ok (.iastore, 1) := by decide +kernel
theorem dX10_near_72 : decode cX10_near 72 = .ok (.iload 4, 2) := by decide +kernel
theorem dX10_near_74 : decode cX10_near 74 = .ok (.ifCond .ne 8, 3) := by decide +kernel
theorem dX10_near_77 : decode cX10_near 77 = .ok (.bipush (-3), 2) := by decide +kernel
theorem dX10_near_79 : decode cX10_near 79 = .ok (.goto 7, 3) := by decide +kernel
theorem dX10_near_82 : decode cX10_near 82 = .ok (.iload 4, 2) := by decide +kernel
theorem dX10_near_84 : decode cX10_near 84 = .ok (.iconst 1, 1) := by decide +kernel
theorem dX10_near_85 : decode cX10_near 85 = .ok (.isub, 1) := by decide +kernel
theorem dX10_near_86 : decode cX10_near 86 = .ok (.ireturn, 1) := by decide +kernel
theorem dX10_takeTyped_0 : decode cX10_takeTyped 0 = .ok (.aload_n 0, 1) := by decide +kernel
theorem dX10_takeTyped_1 : decode cX10_takeTyped 1 = .ok (.iload_n 2, 1) := by decide +kernel
theorem dX10_takeTyped_2 : decode cX10_takeTyped 2 = .ok (.iload_n 1, 1) := by decide +kernel
theorem dX10_takeTyped_3 : decode cX10_takeTyped 3 = .ok (.isub, 1) := by decide +kernel
theorem dX10_takeTyped_4 : decode cX10_takeTyped 4 = .ok (.putfield 88, 3) := by decide +kernel
theorem dX10_takeTyped_7 : decode cX10_takeTyped 7 = .ok (.iload_n 1, 1) := by decide +kernel
theorem dX10_takeTyped_8 : decode cX10_takeTyped 8 = .ok (.istore_n 3, 1) := by decide +kernel
theorem dX10_takeTyped_9 : decode cX10_takeTyped 9 = .ok (.iload_n 3, 1) := by decide +kernel
theorem dX10_takeTyped_10 : decode cX10_takeTyped 10 = .ok (.iload_n 2, 1) := by decide +kernel
theorem dX10_takeTyped_11 : decode cX10_takeTyped 11 = .ok (.if_icmp .ge 23, 3) := by decide +kernel
theorem dX10_takeTyped_14 : decode cX10_takeTyped 14 = .ok (.aload_n 0, 1) := by decide +kernel
theorem dX10_takeTyped_15 : decode cX10_takeTyped 15 = .ok (.getfield 41, 3) := by decide +kernel
theorem dX10_takeTyped_18 : decode cX10_takeTyped 18 = .ok (.iload_n 3, 1) := by decide +kernel
theorem dX10_takeTyped_19 : decode cX10_takeTyped 19 = .ok (.iload_n 1, 1) := by decide +kernel
theorem dX10_takeTyped_20 : decode cX10_takeTyped 20 = .ok (.isub, 1) := by decide +kernel
theorem dX10_takeTyped_21 : decode cX10_takeTyped 21 = .ok (.aload_n 0, 1) := by decide +kernel
theorem dX10_takeTyped_22 : decode cX10_takeTyped 22 = .ok (.getfield 7, 3) := by decide +kernel
theorem dX10_takeTyped_25 : decode cX10_takeTyped 25 = .ok (.iload_n 3, 1) := by decide +kernel
theorem dX10_takeTyped_26 : decode cX10_takeTyped 26 = .ok (.iaload, 1) := by decide +kernel
theorem dX10_takeTyped_27 : decode cX10_takeTyped 27 = .ok (.iastore, 1) := by decide +kernel
theorem dX10_takeTyped_28 : decode cX10_takeTyped 28 = .ok (.iinc 3 1, 3) := by decide +kernel
theorem dX10_takeTyped_31 : decode cX10_takeTyped 31 = .ok (.goto (-22), 3) := by decide +kernel
theorem dX10_takeTyped_34 : decode cX10_takeTyped 34 = .ok (.return_, 1) := by decide +kernel
theorem dX10_becomes_0 : decode cX10_becomes 0 = .ok (.aload_n 0, 1) := by decide +kernel
theorem dX10_becomes_1 : decode cX10_becomes 1 = .ok (.getfield 25, 3) := by decide +kernel
theorem dX10_becomes_4 : decode cX10_becomes 4 = .ok (.bipush 26, 2) := by decide +kernel
theorem dX10_becomes_6 : decode cX10_becomes 6 = .ok (.iload_n 1, 1) := by decide +kernel
theorem dX10_becomes_7 : decode cX10_becomes 7 = .ok (.imul, 1) := by decide +kernel
theorem dX10_becomes_8 : decode cX10_becomes 8 = .ok (.iload_n 2, 1) := by decide +kernel
theorem dX10_becomes_9 : decode cX10_becomes 9 = .ok (.iadd, 1) := by decide +kernel
theorem dX10_becomes_10 : decode cX10_becomes 10 = .ok (.iaload, 1) := by decide +kernel
theorem dX10_becomes_11 : decode cX10_becomes 11 = .ok (.istore_n 3, 1) := by decide +kernel
theorem dX10_becomes_12 : decode cX10_becomes 12 = .ok (.iload_n 3, 1) := by decide +kernel
theorem dX10_becomes_13 : decode cX10_becomes 13 = .ok (.ifCond .le 9, 3) := by decide +kernel
theorem dX10_becomes_16 : decode cX10_becomes 16 = .ok (.iload_n 3, 1) := by decide +kernel
theorem dX10_becomes_17 : decode cX10_becomes 17 = .ok (.iconst 1, 1) := by decide +kernel
theorem dX10_becomes_18 : decode cX10_becomes 18 = .ok (.isub, 1) := by decide +kernel
theorem dX10_becomes_19 : decode cX10_becomes 19 = .ok (.goto 9, 3) := by decide +kernel
theorem dX10_becomes_22 : decode cX10_becomes 22 = .ok (.aload_n 0, 1) := by decide +kernel
theorem dX10_becomes_23 : decode cX10_becomes 23 = .ok (.getfield 22, 3) := by decide +kernel
theorem dX10_becomes_26 : decode cX10_becomes 26 = .ok (.iconst 2, 1) := by decide +kernel
theorem dX10_becomes_27 : decode cX10_becomes 27 = .ok (.iaload, 1) := by decide +kernel
theorem dX10_becomes_28 : decode cX10_becomes 28 = .ok (.ireturn, 1) := by decide +kernel
theorem dX10_isTurned_0 : decode cX10_isTurned 0 = .ok (.iload_n 2, 1) := by decide +kernel
theorem dX10_isTurned_1 : decode cX10_isTurned 1 = .ok (.iconst 1, 1) := by decide +kernel
theorem dX10_isTurned_2 : decode cX10_isTurned 2 = .ok (.if_icmp .le 60, 3) := by decide +kernel
theorem dX10_isTurned_5 : decode cX10_isTurned 5 = .ok (.iload_n 3, 1) := by decide +kernel
theorem dX10_isTurned_6 : decode cX10_isTurned 6 = .ok (.iconst 1, 1) := by decide +kernel
theorem dX10_isTurned_7 : decode cX10_isTurned 7 = .ok (.if_icmp .le 55, 3) := by decide +kernel
theorem dX10_isTurned_10 : decode cX10_isTurned 10 = .ok (.aload_n 0, 1) := by decide +kernel
theorem dX10_isTurned_11 : decode cX10_isTurned 11 = .ok (.getfield 41, 3) := by decide +kernel
theorem dX10_isTurned_14 : decode cX10_isTurned 14 = .ok (.iload_n 2, 1) := by decide +kernel
theorem dX10_isTurned_15 : decode cX10_isTurned 15 = .ok (.iconst 2, 1) := by decide +kernel
theorem dX10_isTurned_16 : decode cX10_isTurned 16 = .ok (.isub, 1) := by decide +kernel
theorem dX10_isTurned_17 : decode cX10_isTurned 17 = .ok (.iaload, 1) := by decide +kernel
theorem dX10_isTurned_18 : decode cX10_isTurned 18 = .ok (.aload_n 0, 1) := by decide +kernel
theorem dX10_isTurned_19 : decode cX10_isTurned 19 = .ok (.getfield 16, 3) := by decide +kernel
theorem dX10_isTurned_22 : decode cX10_isTurned 22 = .ok (.bipush 12, 2) := by decide +kernel
theorem dX10_isTurned_24 : decode cX10_isTurned 24 = .ok (.iload_n 1, 1) := by decide +kernel
theorem dX10_isTurned_25 : decode cX10_isTurned 25 = .ok (.imul, 1) := by decide +kernel
theorem dX10_isTurned_26 : decode cX10_isTurned 26 = .ok (.iload_n 3, 1) := by decide +kernel
theorem dX10_isTurned_27 : decode cX10_isTurned 27 = .ok (.iadd, 1) := by decide +kernel
theorem dX10_isTurned_28 : decode cX10_isTurned 28 = .ok (.iconst 1, 1) := by decide +kernel
theorem dX10_isTurned_29 : decode cX10_isTurned 29 = .ok (.isub, 1) := by decide +kernel
theorem dX10_isTurned_30 : decode cX10_isTurned 30 = .ok (.iaload, 1) := by decide +kernel
theorem dX10_isTurned_31 : decode cX10_isTurned 31 = .ok (.if_icmp .ne 31, 3) := by decide +kernel
theorem dX10_isTurned_34 : decode cX10_isTurned 34 = .ok (.aload_n 0, 1) := by decide +kernel
theorem dX10_isTurned_35 : decode cX10_isTurned 35 = .ok (.getfield 41, 3) := by decide +kernel
theorem dX10_isTurned_38 : decode cX10_isTurned 38 = .ok (.iload_n 2, 1) := by decide +kernel
theorem dX10_isTurned_39 : decode cX10_isTurned 39 = .ok (.iconst 1, 1) := by decide +kernel
theorem dX10_isTurned_40 : decode cX10_isTurned 40 = .ok (.isub, 1) := by decide +kernel
theorem dX10_isTurned_41 : decode cX10_isTurned 41 = .ok (.iaload, 1) := by decide +kernel
theorem dX10_isTurned_42 : decode cX10_isTurned 42 = .ok (.aload_n 0, 1) := by decide +kernel
theorem dX10_isTurned_43 : decode cX10_isTurned 43 = .ok (.getfield 16, 3) := by decide +kernel
theorem dX10_isTurned_46 : decode cX10_isTurned 46 = .ok (.bipush 12, 2) := by decide +kernel
theorem dX10_isTurned_48 : decode cX10_isTurned 48 = .ok (.iload_n 1, 1) := by decide +kernel
theorem dX10_isTurned_49 : decode cX10_isTurned 49 = .ok (.imul, 1) := by decide +kernel
theorem dX10_isTurned_50 : decode cX10_isTurned 50 = .ok (.iload_n 3, 1) := by decide +kernel
theorem dX10_isTurned_51 : decode cX10_isTurned 51 = .ok (.iadd, 1) := by decide +kernel
theorem dX10_isTurned_52 : decode cX10_isTurned 52 = .ok (.iconst 2, 1) := by decide +kernel
theorem dX10_isTurned_53 : decode cX10_isTurned 53 = .ok (.isub, 1) := by decide +kernel
theorem dX10_isTurned_54 : decode cX10_isTurned 54 = .ok (.iaload, 1) := by decide +kernel
theorem dX10_isTurned_55 : decode cX10_isTurned 55 = .ok (.if_icmp .ne 7, 3) := by decide +kernel
theorem dX10_isTurned_58 : decode cX10_isTurned 58 = .ok (.iconst 1, 1) := by decide +kernel
theorem dX10_isTurned_59 : decode cX10_isTurned 59 = .ok (.goto 4, 3) := by decide +kernel
theorem dX10_isTurned_62 : decode cX10_isTurned 62 = .ok (.iconst 0, 1) := by decide +kernel
theorem dX10_isTurned_63 : decode cX10_isTurned 63 = .ok (.ireturn, 1) := by decide +kernel
theorem dX10_fill_0 : decode cX10_fill 0 = .ok (.iconst 0, 1) := by decide +kernel
theorem dX10_fill_1 : decode cX10_fill 1 = .ok (.istore_n 2, 1) := by decide +kernel
theorem dX10_fill_2 : decode cX10_fill 2 = .ok (.iload_n 2, 1) := by decide +kernel
theorem dX10_fill_3 : decode cX10_fill 3 = .ok (.aload_n 0, 1) := by decide +kernel
theorem dX10_fill_4 : decode cX10_fill 4 = .ok (.getfield 88, 3) := by decide +kernel
theorem dX10_fill_7 : decode cX10_fill 7 = .ok (.if_icmp .gt 276, 3) := by decide +kernel
theorem dX10_fill_10 : decode cX10_fill 10 = .ok (.iconst 0, 1) := by decide +kernel
theorem dX10_fill_11 : decode cX10_fill 11 = .ok (.istore_n 3, 1) := by decide +kernel
theorem dX10_fill_12 : decode cX10_fill 12 = .ok (.iload_n 3, 1) := by decide +kernel
theorem dX10_fill_13 : decode cX10_fill 13 = .ok (.aload_n 0, 1) := by decide +kernel
theorem dX10_fill_14 : decode cX10_fill 14 = .ok (.getfield 13, 3) := by decide +kernel
theorem dX10_fill_17 : decode cX10_fill 17 = .ok (.iload_n 1, 1) := by decide +kernel
theorem dX10_fill_18 : decode cX10_fill 18 = .ok (.iaload, 1) := by decide +kernel
theorem dX10_fill_19 : decode cX10_fill 19 = .ok (.if_icmp .gt 258, 3) := by decide +kernel
theorem dX10_fill_22 : decode cX10_fill 22 = .ok (.iload_n 2, 1) := by decide +kernel
theorem dX10_fill_23 : decode cX10_fill 23 = .ok (.ifCond .ne 11, 3) := by decide +kernel
theorem dX10_fill_26 : decode cX10_fill 26 = .ok (.iload_n 3, 1) := by decide +kernel
theorem dX10_fill_27 : decode cX10_fill 27 = .ok (.ifCond .ne 7, 3) := by decide +kernel
theorem dX10_fill_30 : decode cX10_fill 30 = .ok (.iconst 0, 1) := by decide +kernel
theorem dX10_fill_31 : decode cX10_fill 31 = .ok (.goto 5, 3) := by decide +kernel
theorem dX10_fill_34 : decode cX10_fill 34 = .ok (.ldc 91, 2) := by decide +kernel
theorem dX10_fill_36 : decode cX10_fill 36 = .ok (.istore 4, 2) := by decide +kernel
theorem dX10_fill_38 : decode cX10_fill 38 = .ok (.iload_n 2, 1) := by decide +kernel
theorem dX10_fill_39 : decode cX10_fill 39 = .ok (.ifCond .le 41, 3) := by decide +kernel
theorem dX10_fill_42 : decode cX10_fill 42 = .ok (.aload_n 0, 1) := by decide +kernel
theorem dX10_fill_43 : decode cX10_fill 43 = .ok (.getfield 38, 3) := by decide +kernel
theorem dX10_fill_46 : decode cX10_fill 46 = .ok (.bipush 13, 2) := by decide +kernel
theorem dX10_fill_48 : decode cX10_fill 48 = .ok (.iload_n 2, 1) := by decide +kernel
theorem dX10_fill_49 : decode cX10_fill 49 = .ok (.iconst 1, 1) := by decide +kernel
theorem dX10_fill_50 : decode cX10_fill 50 = .ok (.isub, 1) := by decide +kernel
theorem dX10_fill_51 : decode cX10_fill 51 = .ok (.imul, 1) := by decide +kernel
theorem dX10_fill_52 : decode cX10_fill 52 = .ok (.iload_n 3, 1) := by decide +kernel
theorem dX10_fill_53 : decode cX10_fill 53 = .ok (.iadd, 1) := by decide +kernel
theorem dX10_fill_54 : decode cX10_fill 54 = .ok (.iaload, 1) := by decide +kernel
theorem dX10_fill_55 : decode cX10_fill 55 = .ok (.aload_n 0, 1) := by decide +kernel
theorem dX10_fill_56 : decode cX10_fill 56 = .ok (.getfield 22, 3) := by decide +kernel
theorem dX10_fill_59 : decode cX10_fill 59 = .ok (.iconst 1, 1) := by decide +kernel
theorem dX10_fill_60 : decode cX10_fill 60 = .ok (.iaload, 1) := by decide +kernel
theorem dX10_fill_61 : decode cX10_fill 61 = .ok (.iadd, 1) := by decide +kernel
theorem dX10_fill_62 : decode cX10_fill 62 = .ok (.istore 5, 2) := by decide +kernel
theorem dX10_fill_64 : decode cX10_fill 64 = .ok (.iload 5, 2) := by decide +kernel
theorem dX10_fill_66 : decode cX10_fill 66 = .ok (.iload 4, 2) := by decide +kernel
theorem dX10_fill_68 : decode cX10_fill 68 = .ok (.if_icmp .ge 8, 3) := by decide +kernel
theorem dX10_fill_71 : decode cX10_fill 71 = .ok (.iload 5, 2) := by decide +kernel
theorem dX10_fill_73 : decode cX10_fill 73 = .ok (.goto 5, 3) := by decide +kernel
theorem dX10_fill_76 : decode cX10_fill 76 = .ok (.iload 4, 2) := by decide +kernel
theorem dX10_fill_78 : decode cX10_fill 78 = .ok (.istore 4, 2) := by decide +kernel
theorem dX10_fill_80 : decode cX10_fill 80 = .ok (.iload_n 3, 1) := by decide +kernel
theorem dX10_fill_81 : decode cX10_fill 81 = .ok (.ifCond .le 41, 3) := by decide +kernel
theorem dX10_fill_84 : decode cX10_fill 84 = .ok (.aload_n 0, 1) := by decide +kernel
theorem dX10_fill_85 : decode cX10_fill 85 = .ok (.getfield 38, 3) := by decide +kernel
theorem dX10_fill_88 : decode cX10_fill 88 = .ok (.bipush 13, 2) := by decide +kernel
theorem dX10_fill_90 : decode cX10_fill 90 = .ok (.iload_n 2, 1) := by decide +kernel
theorem dX10_fill_91 : decode cX10_fill 91 = .ok (.imul, 1) := by decide +kernel
theorem dX10_fill_92 : decode cX10_fill 92 = .ok (.iload_n 3, 1) := by decide +kernel
theorem dX10_fill_93 : decode cX10_fill 93 = .ok (.iadd, 1) := by decide +kernel
theorem dX10_fill_94 : decode cX10_fill 94 = .ok (.iconst 1, 1) := by decide +kernel
theorem dX10_fill_95 : decode cX10_fill 95 = .ok (.isub, 1) := by decide +kernel
theorem dX10_fill_96 : decode cX10_fill 96 = .ok (.iaload, 1) := by decide +kernel
theorem dX10_fill_97 : decode cX10_fill 97 = .ok (.aload_n 0, 1) := by decide +kernel
theorem dX10_fill_98 : decode cX10_fill 98 = .ok (.getfield 22, 3) := by decide +kernel
theorem dX10_fill_101 : decode cX10_fill 101 = .ok (.iconst 0, 1) := by decide +kernel
theorem dX10_fill_102 : decode cX10_fill 102 = .ok (.iaload, 1) := by decide +kernel
theorem dX10_fill_103 : decode cX10_fill 103 = .ok (.iadd, 1) := by decide +kernel
theorem dX10_fill_104 : decode cX10_fill 104 = .ok (.istore 5, 2) := by decide +kernel
theorem dX10_fill_106 : decode cX10_fill 106 = .ok (.iload 5, 2) := by decide +kernel
theorem dX10_fill_108 : decode cX10_fill 108 = .ok (.iload 4, 2) := by decide +kernel
theorem dX10_fill_110 : decode cX10_fill 110 = .ok (.if_icmp .ge 8, 3) := by decide +kernel
theorem dX10_fill_113 : decode cX10_fill 113 = .ok (.iload 5, 2) := by decide +kernel
theorem dX10_fill_115 : decode cX10_fill 115 = .ok (.goto 5, 3) := by decide +kernel
theorem dX10_fill_118 : decode cX10_fill 118 = .ok (.iload 4, 2) := by decide +kernel
theorem dX10_fill_120 : decode cX10_fill 120 = .ok (.istore 4, 2) := by decide +kernel
theorem dX10_fill_122 : decode cX10_fill 122 = .ok (.iload_n 2, 1) := by decide +kernel
theorem dX10_fill_123 : decode cX10_fill 123 = .ok (.ifCond .le 85, 3) := by decide +kernel
theorem dX10_fill_126 : decode cX10_fill 126 = .ok (.iload_n 3, 1) := by decide +kernel
theorem dX10_fill_127 : decode cX10_fill 127 = .ok (.ifCond .le 81, 3) := by decide +kernel
theorem dX10_fill_130 : decode cX10_fill 130 = .ok (.aload_n 0, 1) := by decide +kernel
theorem dX10_fill_131 : decode cX10_fill 131 = .ok (.getfield 41, 3) := by decide +kernel
theorem dX10_fill_134 : decode cX10_fill 134 = .ok (.iload_n 2, 1) := by decide +kernel
theorem dX10_fill_135 : decode cX10_fill 135 = .ok (.iconst 1, 1) := by decide +kernel
theorem dX10_fill_136 : decode cX10_fill 136 = .ok (.isub, 1) := by decide +kernel
theorem dX10_fill_137 : decode cX10_fill 137 = .ok (.iaload, 1) := by decide +kernel
theorem dX10_fill_138 : decode cX10_fill 138 = .ok (.istore 5, 2) := by decide +kernel
theorem dX10_fill_140 : decode cX10_fill 140 = .ok (.aload_n 0, 1) := by decide +kernel
theorem dX10_fill_141 : decode cX10_fill 141 = .ok (.getfield 16, 3) := by decide +kernel
theorem dX10_fill_144 : decode cX10_fill 144 = .ok (.bipush 12, 2) := by decide +kernel
theorem dX10_fill_146 : decode cX10_fill 146 = .ok (.iload_n 1, 1) := by decide +kernel
theorem dX10_fill_147 : decode cX10_fill 147 = .ok (.imul, 1) := by decide +kernel
theorem dX10_fill_148 : decode cX10_fill 148 = .ok (.iload_n 3, 1) := by decide +kernel
theorem dX10_fill_149 : decode cX10_fill 149 = .ok (.iadd, 1) := by decide +kernel
theorem dX10_fill_150 : decode cX10_fill 150 = .ok (.iconst 1, 1) := by decide +kernel
theorem dX10_fill_151 : decode cX10_fill 151 = .ok (.isub, 1) := by decide +kernel
theorem dX10_fill_152 : decode cX10_fill 152 = .ok (.iaload, 1) := by decide +kernel
theorem dX10_fill_153 : decode cX10_fill 153 = .ok (.istore 6, 2) := by decide +kernel
theorem dX10_fill_155 : decode cX10_fill 155 = .ok (.aload_n 0, 1) := by decide +kernel
theorem dX10_fill_156 : decode cX10_fill 156 = .ok (.getfield 38, 3) := by decide +kernel
theorem dX10_fill_159 : decode cX10_fill 159 = .ok (.bipush 13, 2) := by decide +kernel
theorem dX10_fill_161 : decode cX10_fill 161 = .ok (.iload_n 2, 1) := by decide +kernel
theorem dX10_fill_162 : decode cX10_fill 162 = .ok (.iconst 1, 1) := by decide +kernel
theorem dX10_fill_163 : decode cX10_fill 163 = .ok (.isub, 1) := by decide +kernel
theorem dX10_fill_164 : decode cX10_fill 164 = .ok (.imul, 1) := by decide +kernel
theorem dX10_fill_165 : decode cX10_fill 165 = .ok (.iload_n 3, 1) := by decide +kernel
theorem dX10_fill_166 : decode cX10_fill 166 = .ok (.iadd, 1) := by decide +kernel
theorem dX10_fill_167 : decode cX10_fill 167 = .ok (.iconst 1, 1) := by decide +kernel
theorem dX10_fill_168 : decode cX10_fill 168 = .ok (.isub, 1) := by decide +kernel
theorem dX10_fill_169 : decode cX10_fill 169 = .ok (.iaload, 1) := by decide +kernel
theorem dX10_fill_170 : decode cX10_fill 170 = .ok (.iload 5, 2) := by decide +kernel
theorem dX10_fill_172 : decode cX10_fill 172 = .ok (.iload 6, 2) := by decide +kernel
theorem dX10_fill_174 : decode cX10_fill 174 = .ok (.if_icmp .ne 7, 3) := by decide +kernel
theorem dX10_fill_177 : decode cX10_fill 177 = .ok (.iconst 0, 1) := by decide +kernel
theorem dX10_fill_178 : decode cX10_fill 178 = .ok (.goto 11, 3) := by decide +kernel
theorem dX10_fill_181 : decode cX10_fill 181 = .ok (.aload_n 0, 1) := by decide +kernel
theorem dX10_fill_182 : decode cX10_fill 182 = .ok (.iload 5, 2) := by decide +kernel
theorem dX10_fill_184 : decode cX10_fill 184 = .ok (.iload 6, 2) := by decide +kernel
theorem dX10_fill_186 : decode cX10_fill 186 = .ok (.invokevirtual 92, 3) := by decide +kernel
theorem dX10_fill_189 : decode cX10_fill 189 = .ok (.iadd, 1) := by decide +kernel
theorem dX10_fill_190 : decode cX10_fill 190 = .ok (.istore 7, 2) := by decide +kernel
theorem dX10_fill_192 : decode cX10_fill 192 = .ok (.iload 7, 2) := by decide +kernel
theorem dX10_fill_194 : decode cX10_fill 194 = .ok (.iload 4, 2) := by decide +kernel
theorem dX10_fill_196 : decode cX10_fill 196 = .ok (.if_icmp .ge 8, 3) := by decide +kernel
theorem dX10_fill_199 : decode cX10_fill 199 = .ok (.iload 7, 2) := by decide +kernel
theorem dX10_fill_201 : decode cX10_fill 201 = .ok (.goto 5, 3) := by decide +kernel
theorem dX10_fill_204 : decode cX10_fill 204 = .ok (.iload 4, 2) := by decide +kernel
theorem dX10_fill_206 : decode cX10_fill 206 = .ok (.istore 4, 2) := by decide +kernel
theorem dX10_fill_208 : decode cX10_fill 208 = .ok (.aload_n 0, 1) := by decide +kernel
theorem dX10_fill_209 : decode cX10_fill 209 = .ok (.iload_n 1, 1) := by decide +kernel
theorem dX10_fill_210 : decode cX10_fill 210 = .ok (.iload_n 2, 1) := by decide +kernel
theorem dX10_fill_211 : decode cX10_fill 211 = .ok (.iload_n 3, 1) := by decide +kernel
theorem dX10_fill_212 : decode cX10_fill 212 = .ok (.invokevirtual 96, 3) := by decide +kernel
theorem dX10_fill_215 : decode cX10_fill 215 = .ok (.ifCond .eq 43, 3) := by decide +kernel
theorem dX10_fill_218 : decode cX10_fill 218 = .ok (.aload_n 0, 1) := by decide +kernel
theorem dX10_fill_219 : decode cX10_fill 219 = .ok (.getfield 38, 3) := by decide +kernel
theorem dX10_fill_222 : decode cX10_fill 222 = .ok (.bipush 13, 2) := by decide +kernel
theorem dX10_fill_224 : decode cX10_fill 224 = .ok (.iload_n 2, 1) := by decide +kernel
theorem dX10_fill_225 : decode cX10_fill 225 = .ok (.iconst 2, 1) := by decide +kernel
theorem dX10_fill_226 : decode cX10_fill 226 = .ok (.isub, 1) := by decide +kernel
theorem dX10_fill_227 : decode cX10_fill 227 = .ok (.imul, 1) := by decide +kernel
theorem dX10_fill_228 : decode cX10_fill 228 = .ok (.iload_n 3, 1) := by decide +kernel
theorem dX10_fill_229 : decode cX10_fill 229 = .ok (.iadd, 1) := by decide +kernel
theorem dX10_fill_230 : decode cX10_fill 230 = .ok (.iconst 2, 1) := by decide +kernel
theorem dX10_fill_231 : decode cX10_fill 231 = .ok (.isub, 1) := by decide +kernel
theorem dX10_fill_232 : decode cX10_fill 232 = .ok (.iaload, 1) := by decide +kernel
theorem dX10_fill_233 : decode cX10_fill 233 = .ok (.aload_n 0, 1) := by decide +kernel
theorem dX10_fill_234 : decode cX10_fill 234 = .ok (.getfield 22, 3) := by decide +kernel
theorem dX10_fill_237 : decode cX10_fill 237 = .ok (.iconst 3, 1) := by decide +kernel
theorem dX10_fill_238 : decode cX10_fill 238 = .ok (.iaload, 1) := by decide +kernel
theorem dX10_fill_239 : decode cX10_fill 239 = .ok (.iadd, 1) := by decide +kernel
theorem dX10_fill_240 : decode cX10_fill 240 = .ok (.istore 5, 2) := by decide +kernel
theorem dX10_fill_242 : decode cX10_fill 242 = .ok (.iload 5, 2) := by decide +kernel
theorem dX10_fill_244 : decode cX10_fill 244 = .ok (.iload 4, 2) := by decide +kernel
theorem dX10_fill_246 : decode cX10_fill 246 = .ok (.if_icmp .ge 8, 3) := by decide +kernel
theorem dX10_fill_249 : decode cX10_fill 249 = .ok (.iload 5, 2) := by decide +kernel
theorem dX10_fill_251 : decode cX10_fill 251 = .ok (.goto 5, 3) := by decide +kernel
theorem dX10_fill_254 : decode cX10_fill 254 = .ok (.iload 4, 2) := by decide +kernel
theorem dX10_fill_256 : decode cX10_fill 256 = .ok (.istore 4, 2) := by decide +kernel
theorem dX10_fill_258 : decode cX10_fill 258 = .ok (.aload_n 0, 1) := by decide +kernel
theorem dX10_fill_259 : decode cX10_fill 259 = .ok (.getfield 38, 3) := by decide +kernel
theorem dX10_fill_262 : decode cX10_fill 262 = .ok (.bipush 13, 2) := by decide +kernel
theorem dX10_fill_264 : decode cX10_fill 264 = .ok (.iload_n 2, 1) := by decide +kernel
theorem dX10_fill_265 : decode cX10_fill 265 = .ok (.imul, 1) := by decide +kernel
theorem dX10_fill_266 : decode cX10_fill 266 = .ok (.iload_n 3, 1) := by decide +kernel
theorem dX10_fill_267 : decode cX10_fill 267 = .ok (.iadd, 1) := by decide +kernel
theorem dX10_fill_268 : decode cX10_fill 268 = .ok (.iload 4, 2) := by decide +kernel
theorem dX10_fill_270 : decode cX10_fill 270 = .ok (.iastore, 1) := by decide +kernel
theorem dX10_fill_271 : decode cX10_fill 271 = .ok (.iinc 3 1, 3) := by decide +kernel
theorem dX10_fill_274 : decode cX10_fill 274 = .ok (.goto (-262), 3) := by decide +kernel
theorem dX10_fill_277 : decode cX10_fill 277 = .ok (.iinc 2 1, 3) := by decide +kernel
theorem dX10_fill_280 : decode cX10_fill 280 = .ok (.goto (-278), 3) := by decide +kernel
theorem dX10_fill_283 : decode cX10_fill 283 = .ok (.aload_n 0, 1) := by decide +kernel
theorem dX10_fill_284 : decode cX10_fill 284 = .ok (.getfield 38, 3) := by decide +kernel
theorem dX10_fill_287 : decode cX10_fill 287 = .ok (.bipush 13, 2) := by decide +kernel
theorem dX10_fill_289 : decode cX10_fill 289 = .ok (.aload_n 0, 1) := by decide +kernel
theorem dX10_fill_290 : decode cX10_fill 290 = .ok (.getfield 88, 3) := by decide +kernel
theorem dX10_fill_293 : decode cX10_fill 293 = .ok (.imul, 1) := by decide +kernel
theorem dX10_fill_294 : decode cX10_fill 294 = .ok (.aload_n 0, 1) := by decide +kernel
theorem dX10_fill_295 : decode cX10_fill 295 = .ok (.getfield 13, 3) := by decide +kernel
theorem dX10_fill_298 : decode cX10_fill 298 = .ok (.iload_n 1, 1) := by decide +kernel
theorem dX10_fill_299 : decode cX10_fill 299 = .ok (.iaload, 1) := by decide +kernel
theorem dX10_fill_300 : decode cX10_fill 300 = .ok (.iadd, 1) := by decide +kernel
theorem dX10_fill_301 : decode cX10_fill 301 = .ok (.iaload, 1) := by decide +kernel
theorem dX10_fill_302 : decode cX10_fill 302 = .ok (.ireturn, 1) := by decide +kernel
theorem dX10_beginsBy_0 : decode cX10_beginsBy 0 = .ok (.aload_n 0, 1) := by decide +kernel
theorem dX10_beginsBy_1 : decode cX10_beginsBy 1 = .ok (.iload_n 1, 1) := by decide +kernel
theorem dX10_beginsBy_2 : decode cX10_beginsBy 2 = .ok (.invokevirtual 99, 3) := by decide +kernel
theorem dX10_beginsBy_5 : decode cX10_beginsBy 5 = .ok (.istore_n 2, 1) := by decide +kernel
theorem dX10_beginsBy_6 : decode cX10_beginsBy 6 = .ok (.iconst 0, 1) := by decide +kernel
theorem dX10_beginsBy_7 : decode cX10_beginsBy 7 = .ok (.istore_n 3, 1) := by decide +kernel
theorem dX10_beginsBy_8 : decode cX10_beginsBy 8 = .ok (.iload_n 3, 1) := by decide +kernel
theorem dX10_beginsBy_9 : decode cX10_beginsBy 9 = .ok (.aload_n 0, 1) := by decide +kernel
theorem dX10_beginsBy_10 : decode cX10_beginsBy 10 = .ok (.getfield 13, 3) := by decide +kernel
theorem dX10_beginsBy_13 : decode cX10_beginsBy 13 = .ok (.iload_n 1, 1) := by decide +kernel
theorem dX10_beginsBy_14 : decode cX10_beginsBy 14 = .ok (.iaload, 1) := by decide +kernel
theorem dX10_beginsBy_15 : decode cX10_beginsBy 15 = .ok (.if_icmp .gt 38, 3) := by decide +kernel
theorem dX10_beginsBy_18 : decode cX10_beginsBy 18 = .ok (.aload_n 0, 1) := by decide +kernel
theorem dX10_beginsBy_19 : decode cX10_beginsBy 19 = .ok (.getfield 38, 3) := by decide +kernel
theorem dX10_beginsBy_22 : decode cX10_beginsBy 22 = .ok (.bipush 13, 2) := by decide +kernel
theorem dX10_beginsBy_24 : decode cX10_beginsBy 24 = .ok (.aload_n 0, 1) := by decide +kernel
theorem dX10_beginsBy_25 : decode cX10_beginsBy 25 = .ok (.getfield 88, 3) := by decide +kernel
theorem dX10_beginsBy_28 : decode cX10_beginsBy 28 = .ok (.imul, 1) := by decide +kernel
theorem dX10_beginsBy_29 : decode cX10_beginsBy 29 = .ok (.iload_n 3, 1) := by decide +kernel
theorem dX10_beginsBy_30 : decode cX10_beginsBy 30 = .ok (.iadd, 1) := by decide +kernel
theorem dX10_beginsBy_31 : decode cX10_beginsBy 31 = .ok (.iaload, 1) := by decide +kernel
theorem dX10_beginsBy_32 : decode cX10_beginsBy 32 = .ok (.istore 4, 2) := by decide +kernel
theorem dX10_beginsBy_34 : decode cX10_beginsBy 34 = .ok (.iload 4, 2) := by decide +kernel
theorem dX10_beginsBy_36 : decode cX10_beginsBy 36 = .ok (.iload_n 2, 1) := by decide +kernel
theorem dX10_beginsBy_37 : decode cX10_beginsBy 37 = .ok (.if_icmp .ge 8, 3) := by decide +kernel
theorem dX10_beginsBy_40 : decode cX10_beginsBy 40 = .ok (.iload 4, 2) := by decide +kernel
theorem dX10_beginsBy_42 : decode cX10_beginsBy 42 = .ok (.goto 4, 3) := by decide +kernel
theorem dX10_beginsBy_45 : decode cX10_beginsBy 45 = .ok (.iload_n 2, 1) := by decide +kernel
theorem dX10_beginsBy_46 : decode cX10_beginsBy 46 = .ok (.istore_n 2, 1) := by decide +kernel
theorem dX10_beginsBy_47 : decode cX10_beginsBy 47 = .ok (.iinc 3 1, 3) := by decide +kernel
theorem dX10_beginsBy_50 : decode cX10_beginsBy 50 = .ok (.goto (-42), 3) := by decide +kernel
theorem dX10_beginsBy_53 : decode cX10_beginsBy 53 = .ok (.iload_n 2, 1) := by decide +kernel
theorem dX10_beginsBy_54 : decode cX10_beginsBy 54 = .ok (.ireturn, 1) := by decide +kernel
theorem dX10_distance_0 : decode cX10_distance 0 = .ok (.aload_n 0, 1) := by decide +kernel
theorem dX10_distance_1 : decode cX10_distance 1 = .ok (.iconst 0, 1) := by decide +kernel
theorem dX10_distance_2 : decode cX10_distance 2 = .ok (.putfield 62, 3) := by decide +kernel
theorem dX10_distance_5 : decode cX10_distance 5 = .ok (.aload_n 0, 1) := by decide +kernel
theorem dX10_distance_6 : decode cX10_distance 6 = .ok (.iload_n 1, 1) := by decide +kernel
theorem dX10_distance_7 : decode cX10_distance 7 = .ok (.invokevirtual 76, 3) := by decide +kernel
theorem dX10_distance_10 : decode cX10_distance 10 = .ok (.ifCond .ne 5, 3) := by decide +kernel
theorem dX10_distance_13 : decode cX10_distance 13 = .ok (.iconst (-1), 1) := by decide +kernel
theorem dX10_distance_14 : decode cX10_distance 14 = .ok (.ireturn, 1) := by decide +kernel
theorem dX10_distance_15 : decode cX10_distance 15 = .ok (.aload_n 0, 1) := by decide +kernel
theorem dX10_distance_16 : decode cX10_distance 16 = .ok (.iconst 0, 1) := by decide +kernel
theorem dX10_distance_17 : decode cX10_distance 17 = .ok (.aload_n 0, 1) := by decide +kernel
theorem dX10_distance_18 : decode cX10_distance 18 = .ok (.getfield 73, 3) := by decide +kernel
theorem dX10_distance_21 : decode cX10_distance 21 = .ok (.invokevirtual 102, 3) := by decide +kernel
theorem dX10_distance_24 : decode cX10_distance 24 = .ok (.aload_n 0, 1) := by decide +kernel
theorem dX10_distance_25 : decode cX10_distance 25 = .ok (.iload_n 1, 1) := by decide +kernel
theorem dX10_distance_26 : decode cX10_distance 26 = .ok (.invokevirtual 99, 3) := by decide +kernel
theorem dX10_distance_29 : decode cX10_distance 29 = .ok (.ireturn, 1) := by decide +kernel
theorem dX10_begins_0 : decode cX10_begins 0 = .ok (.aload_n 0, 1) := by decide +kernel
theorem dX10_begins_1 : decode cX10_begins 1 = .ok (.iconst 0, 1) := by decide +kernel
theorem dX10_begins_2 : decode cX10_begins 2 = .ok (.putfield 62, 3) := by decide +kernel
theorem dX10_begins_5 : decode cX10_begins 5 = .ok (.aload_n 0, 1) := by decide +kernel
theorem dX10_begins_6 : decode cX10_begins 6 = .ok (.iload_n 1, 1) := by decide +kernel
theorem dX10_begins_7 : decode cX10_begins 7 = .ok (.invokevirtual 76, 3) := by decide +kernel
theorem dX10_begins_10 : decode cX10_begins 10 = .ok (.ifCond .ne 5, 3) := by decide +kernel
theorem dX10_begins_13 : decode cX10_begins 13 = .ok (.iconst (-1), 1) := by decide +kernel
theorem dX10_begins_14 : decode cX10_begins 14 = .ok (.ireturn, 1) := by decide +kernel
theorem dX10_begins_15 : decode cX10_begins 15 = .ok (.aload_n 0, 1) := by decide +kernel
theorem dX10_begins_16 : decode cX10_begins 16 = .ok (.iconst 0, 1) := by decide +kernel
theorem dX10_begins_17 : decode cX10_begins 17 = .ok (.aload_n 0, 1) := by decide +kernel
theorem dX10_begins_18 : decode cX10_begins 18 = .ok (.getfield 73, 3) := by decide +kernel
theorem dX10_begins_21 : decode cX10_begins 21 = .ok (.invokevirtual 102, 3) := by decide +kernel
theorem dX10_begins_24 : decode cX10_begins 24 = .ok (.aload_n 0, 1) := by decide +kernel
theorem dX10_begins_25 : decode cX10_begins 25 = .ok (.iload_n 1, 1) := by decide +kernel
theorem dX10_begins_26 : decode cX10_begins 26 = .ok (.invokevirtual 106, 3) := by decide +kernel
theorem dX10_begins_29 : decode cX10_begins 29 = .ok (.ireturn, 1) := by decide +kernel
theorem dX10_note_0 : decode cX10_note 0 = .ok (.aload_n 0, 1) := by decide +kernel
theorem dX10_note_1 : decode cX10_note 1 = .ok (.getfield 44, 3) := by decide +kernel
theorem dX10_note_4 : decode cX10_note 4 = .ok (.aload_n 0, 1) := by decide +kernel
theorem dX10_note_5 : decode cX10_note 5 = .ok (.getfield 109, 3) := by decide +kernel
theorem dX10_note_8 : decode cX10_note 8 = .ok (.iload_n 1, 1) := by decide +kernel
theorem dX10_note_9 : decode cX10_note 9 = .ok (.iastore, 1) := by decide +kernel
theorem dX10_note_10 : decode cX10_note 10 = .ok (.aload_n 0, 1) := by decide +kernel
theorem dX10_note_11 : decode cX10_note 11 = .ok (.getfield 47, 3) := by decide +kernel
theorem dX10_note_14 : decode cX10_note 14 = .ok (.aload_n 0, 1) := by decide +kernel
theorem dX10_note_15 : decode cX10_note 15 = .ok (.getfield 109, 3) := by decide +kernel
theorem dX10_note_18 : decode cX10_note 18 = .ok (.iload_n 2, 1) := by decide +kernel
theorem dX10_note_19 : decode cX10_note 19 = .ok (.iastore, 1) := by decide +kernel
theorem dX10_note_20 : decode cX10_note 20 = .ok (.aload_n 0, 1) := by decide +kernel
theorem dX10_note_21 : decode cX10_note 21 = .ok (.dup, 1) := by decide +kernel
theorem dX10_note_22 : decode cX10_note 22 = .ok (.getfield 109, 3) := by decide +kernel
theorem dX10_note_25 : decode cX10_note 25 = .ok (.iconst 1, 1) := by decide +kernel
theorem dX10_note_26 : decode cX10_note 26 = .ok (.iadd, 1) := by decide +kernel
theorem dX10_note_27 : decode cX10_note 27 = .ok (.putfield 109, 3) := by decide +kernel
theorem dX10_note_30 : decode cX10_note 30 = .ok (.return_, 1) := by decide +kernel
theorem dX10_find_0 : decode cX10_find 0 = .ok (.aload_n 0, 1) := by decide +kernel
theorem dX10_find_1 : decode cX10_find 1 = .ok (.iconst 0, 1) := by decide +kernel
theorem dX10_find_2 : decode cX10_find 2 = .ok (.aload_n 0, 1) := by decide +kernel
theorem dX10_find_3 : decode cX10_find 3 = .ok (.getfield 73, 3) := by decide +kernel
theorem dX10_find_6 : decode cX10_find 6 = .ok (.invokevirtual 102, 3) := by decide +kernel
theorem dX10_find_9 : decode cX10_find 9 = .ok (.aload_n 0, 1) := by decide +kernel
theorem dX10_find_10 : decode cX10_find 10 = .ok (.iload_n 1, 1) := by decide +kernel
theorem dX10_find_11 : decode cX10_find 11 = .ok (.invokevirtual 99, 3) := by decide +kernel
theorem dX10_find_14 : decode cX10_find 14 = .ok (.istore_n 2, 1) := by decide +kernel
theorem dX10_find_15 : decode cX10_find 15 = .ok (.aload_n 0, 1) := by decide +kernel
theorem dX10_find_16 : decode cX10_find 16 = .ok (.iconst 0, 1) := by decide +kernel
theorem dX10_find_17 : decode cX10_find 17 = .ok (.putfield 109, 3) := by decide +kernel
theorem dX10_find_20 : decode cX10_find 20 = .ok (.aload_n 0, 1) := by decide +kernel
theorem dX10_find_21 : decode cX10_find 21 = .ok (.getfield 88, 3) := by decide +kernel
theorem dX10_find_24 : decode cX10_find 24 = .ok (.istore_n 3, 1) := by decide +kernel
theorem dX10_find_25 : decode cX10_find 25 = .ok (.aload_n 0, 1) := by decide +kernel
theorem dX10_find_26 : decode cX10_find 26 = .ok (.getfield 13, 3) := by decide +kernel
theorem dX10_find_29 : decode cX10_find 29 = .ok (.iload_n 1, 1) := by decide +kernel
theorem dX10_find_30 : decode cX10_find 30 = .ok (.iaload, 1) := by decide +kernel
theorem dX10_find_31 : decode cX10_find 31 = .ok (.istore 4, 2) := by decide +kernel
theorem dX10_find_33 : decode cX10_find 33 = .ok (.iload_n 3, 1) := by decide +kernel
theorem dX10_find_34 : decode cX10_find 34 = .ok (.ifCond .gt 8, 3) := by decide +kernel
theorem dX10_find_37 : decode cX10_find 37 = .ok (.iload 4, 2) := by decide +kernel
theorem dX10_find_39 : decode cX10_find 39 = .ok (.ifCond .le 272, 3) := by decide +kernel
theorem dX10_find_42 : decode cX10_find 42 = .ok (.aload_n 0, 1) := by decide +kernel
theorem dX10_find_43 : decode cX10_find 43 = .ok (.getfield 38, 3) := by decide +kernel
theorem dX10_find_46 : decode cX10_find 46 = .ok (.bipush 13, 2) := by decide +kernel
theorem dX10_find_48 : decode cX10_find 48 = .ok (.iload_n 3, 1) := by decide +kernel
theorem dX10_find_49 : decode cX10_find 49 = .ok (.imul, 1) := by decide +kernel
theorem dX10_find_50 : decode cX10_find 50 = .ok (.iload 4, 2) := by decide +kernel
theorem dX10_find_52 : decode cX10_find 52 = .ok (.iadd, 1) := by decide +kernel
theorem dX10_find_53 : decode cX10_find 53 = .ok (.iaload, 1) := by decide +kernel
theorem dX10_find_54 : decode cX10_find 54 = .ok (.istore_n 2, 1) := by decide +kernel
theorem dX10_find_55 : decode cX10_find 55 = .ok (.iload_n 3, 1) := by decide +kernel
theorem dX10_find_56 : decode cX10_find 56 = .ok (.ifCond .le 14, 3) := by decide +kernel
theorem dX10_find_59 : decode cX10_find 59 = .ok (.aload_n 0, 1) := by decide +kernel
theorem dX10_find_60 : decode cX10_find 60 = .ok (.getfield 41, 3) := by decide +kernel
theorem dX10_find_63 : decode cX10_find 63 = .ok (.iload_n 3, 1) := by decide +kernel
theorem dX10_find_64 : decode cX10_find 64 = .ok (.iconst 1, 1) := by decide +kernel
theorem dX10_find_65 : decode cX10_find 65 = .ok (.isub, 1) := by decide +kernel
theorem dX10_find_66 : decode cX10_find 66 = .ok (.iaload, 1) := by decide +kernel
theorem dX10_find_67 : decode cX10_find 67 = .ok (.goto 4, 3) := by decide +kernel
theorem dX10_find_70 : decode cX10_find 70 = .ok (.iconst (-1), 1) := by decide +kernel
theorem dX10_find_71 : decode cX10_find 71 = .ok (.istore 5, 2) := by decide +kernel
theorem dX10_find_73 : decode cX10_find 73 = .ok (.iload 4, 2) := by decide +kernel
theorem dX10_find_75 : decode cX10_find 75 = .ok (.ifCond .le 20, 3) := by decide +kernel
theorem dX10_find_78 : decode cX10_find 78 = .ok (.aload_n 0, 1) := by decide +kernel
theorem dX10_find_79 : decode cX10_find 79 = .ok (.getfield 16, 3) := by decide +kernel
theorem dX10_find_82 : decode cX10_find 82 = .ok (.bipush 12, 2) := by decide +kernel
theorem dX10_find_84 : decode cX10_find 84 = .ok (.iload_n 1, 1) := by decide +kernel
theorem dX10_find_85 : decode cX10_find 85 = .ok (.imul, 1) := by decide +kernel
theorem dX10_find_86 : decode cX10_find 86 = .ok (.iload 4, 2) := by decide +kernel
theorem dX10_find_88 : decode cX10_find 88 = .ok (.iadd, 1) := by decide +kernel
theorem dX10_find_89 : decode cX10_find 89 = .ok (.iconst 1, 1) := by decide +kernel
theorem dX10_find_90 : decode cX10_find 90 = .ok (.isub, 1) := by decide +kernel
theorem dX10_find_91 : decode cX10_find 91 = .ok (.iaload, 1) := by decide +kernel
theorem dX10_find_92 : decode cX10_find 92 = .ok (.goto 5, 3) := by decide +kernel
theorem dX10_find_95 : decode cX10_find 95 = .ok (.bipush (-2), 2) := by decide +kernel
theorem dX10_find_97 : decode cX10_find 97 = .ok (.istore 6, 2) := by decide +kernel
theorem dX10_find_99 : decode cX10_find 99 = .ok (.iload_n 3, 1) := by decide +kernel
theorem dX10_find_100 : decode cX10_find 100 = .ok (.ifCond .le 27, 3) := by decide +kernel
theorem dX10_find_103 : decode cX10_find 103 = .ok (.iload 4, 2) := by decide +kernel
theorem dX10_find_105 : decode cX10_find 105 = .ok (.ifCond .le 22, 3) := by decide +kernel
theorem dX10_find_108 : decode cX10_find 108 = .ok (.aload_n 0, 1) := by decide +kernel
theorem dX10_find_109 : decode cX10_find 109 = .ok (.getfield 38, 3) := by decide +kernel
theorem dX10_find_112 : decode cX10_find 112 = .ok (.bipush 13, 2) := by decide +kernel
theorem dX10_find_114 : decode cX10_find 114 = .ok (.iload_n 3, 1) := by decide +kernel
theorem dX10_find_115 : decode cX10_find 115 = .ok (.iconst 1, 1) := by decide +kernel
theorem dX10_find_116 : decode cX10_find 116 = .ok (.isub, 1) := by decide +kernel
theorem dX10_find_117 : decode cX10_find 117 = .ok (.imul, 1) := by decide +kernel
theorem dX10_find_118 : decode cX10_find 118 = .ok (.iload 4, 2) := by decide +kernel
theorem dX10_find_120 : decode cX10_find 120 = .ok (.iadd, 1) := by decide +kernel
theorem dX10_find_121 : decode cX10_find 121 = .ok (.iconst 1, 1) := by decide +kernel
theorem dX10_find_122 : decode cX10_find 122 = .ok (.isub, 1) := by decide +kernel
theorem dX10_find_123 : decode cX10_find 123 = .ok (.iaload, 1) := by decide +kernel
theorem dX10_find_124 : decode cX10_find 124 = .ok (.goto 5, 3) := by decide +kernel
theorem dX10_find_127 : decode cX10_find 127 = .ok (.ldc 91, 2) := by decide +kernel
theorem dX10_find_129 : decode cX10_find 129 = .ok (.istore 7, 2) := by decide +kernel
theorem dX10_find_131 : decode cX10_find 131 = .ok (.iload 5, 2) := by decide +kernel
theorem dX10_find_133 : decode cX10_find 133 = .ok (.iload 6, 2) := by decide +kernel
theorem dX10_find_135 : decode cX10_find 135 = .ok (.if_icmp .ne 18, 3) := by decide +kernel
theorem dX10_find_138 : decode cX10_find 138 = .ok (.iload 7, 2) := by decide +kernel
theorem dX10_find_140 : decode cX10_find 140 = .ok (.iload_n 2, 1) := by decide +kernel
theorem dX10_find_141 : decode cX10_find 141 = .ok (.if_icmp .ne 12, 3) := by decide +kernel
theorem dX10_find_144 : decode cX10_find 144 = .ok (.iinc 3 (-1), 3) := by decide +kernel
theorem dX10_find_147 : decode cX10_find 147 = .ok (.iinc 4 (-1), 3) := by decide +kernel
theorem dX10_find_150 : decode cX10_find 150 = .ok (.goto 158, 3) := by decide +kernel
theorem dX10_find_153 : decode cX10_find 153 = .ok (.iload_n 3, 1) := by decide +kernel
theorem dX10_find_154 : decode cX10_find 154 = .ok (.ifCond .le 47, 3) := by decide +kernel
theorem dX10_find_157 : decode cX10_find 157 = .ok (.iload 4, 2) := by decide +kernel
theorem dX10_find_159 : decode cX10_find 159 = .ok (.ifCond .le 42, 3) := by decide +kernel
theorem dX10_find_162 : decode cX10_find 162 = .ok (.iload 5, 2) := by decide +kernel
theorem dX10_find_164 : decode cX10_find 164 = .ok (.iload 6, 2) := by decide +kernel
theorem dX10_find_166 : decode cX10_find 166 = .ok (.if_icmp .eq 35, 3) := by decide +kernel
theorem dX10_find_169 : decode cX10_find 169 = .ok (.iload 7, 2) := by decide +kernel
theorem dX10_find_171 : decode cX10_find 171 = .ok (.aload_n 0, 1) := by decide +kernel
theorem dX10_find_172 : decode cX10_find 172 = .ok (.iload 5, 2) := by decide +kernel
theorem dX10_find_174 : decode cX10_find 174 = .ok (.iload 6, 2) := by decide +kernel
theorem dX10_find_176 : decode cX10_find 176 = .ok (.invokevirtual 92, 3) := by decide +kernel
theorem dX10_find_179 : decode cX10_find 179 = .ok (.iadd, 1) := by decide +kernel
theorem dX10_find_180 : decode cX10_find 180 = .ok (.iload_n 2, 1) := by decide +kernel
theorem dX10_find_181 : decode cX10_find 181 = .ok (.if_icmp .ne 20, 3) := by decide +kernel
theorem dX10_find_184 : decode cX10_find 184 = .ok (.aload_n 0, 1) := by decide +kernel
theorem dX10_find_185 : decode cX10_find 185 = .ok (.iconst 2, 1) := by decide +kernel
theorem dX10_find_186 : decode cX10_find 186 = .ok (.iload_n 3, 1) := by decide +kernel
theorem dX10_find_187 : decode cX10_find 187 = .ok (.iconst 1, 1) := by decide +kernel
theorem dX10_find_188 : decode cX10_find 188 = .ok (.isub, 1) := by decide +kernel
theorem dX10_find_189 : decode cX10_find 189 = .ok (.invokevirtual 112, 3) := by decide +kernel
theorem dX10_find_192 : decode cX10_find 192 = .ok (.iinc 3 (-1), 3) := by decide +kernel
theorem dX10_find_195 : decode cX10_find 195 = .ok (.iinc 4 (-1), 3) := by decide +kernel
theorem dX10_find_198 : decode cX10_find 198 = .ok (.goto 110, 3) := by decide +kernel
theorem dX10_find_201 : decode cX10_find 201 = .ok (.aload_n 0, 1) := by decide +kernel
theorem dX10_find_202 : decode cX10_find 202 = .ok (.iload_n 1, 1) := by decide +kernel
theorem dX10_find_203 : decode cX10_find 203 = .ok (.iload_n 3, 1) := by decide +kernel
theorem dX10_find_204 : decode cX10_find 204 = .ok (.iload 4, 2) := by decide +kernel
theorem dX10_find_206 : decode cX10_find 206 = .ok (.invokevirtual 96, 3) := by decide +kernel
theorem dX10_find_209 : decode cX10_find 209 = .ok (.ifCond .eq 47, 3) := by decide +kernel
theorem dX10_find_212 : decode cX10_find 212 = .ok (.aload_n 0, 1) := by decide +kernel
theorem dX10_find_213 : decode cX10_find 213 = .ok (.getfield 38, 3) := by decide +kernel
theorem dX10_find_216 : decode cX10_find 216 = .ok (.bipush 13, 2) := by decide +kernel
theorem dX10_find_218 : decode cX10_find 218 = .ok (.iload_n 3, 1) := by decide +kernel
theorem dX10_find_219 : decode cX10_find 219 = .ok (.iconst 2, 1) := by decide +kernel
theorem dX10_find_220 : decode cX10_find 220 = .ok (.isub, 1) := by decide +kernel
theorem dX10_find_221 : decode cX10_find 221 = .ok (.imul, 1) := by decide +kernel
theorem dX10_find_222 : decode cX10_find 222 = .ok (.iload 4, 2) := by decide +kernel
theorem dX10_find_224 : decode cX10_find 224 = .ok (.iadd, 1) := by decide +kernel
theorem dX10_find_225 : decode cX10_find 225 = .ok (.iconst 2, 1) := by decide +kernel
theorem dX10_find_226 : decode cX10_find 226 = .ok (.isub, 1) := by decide +kernel
theorem dX10_find_227 : decode cX10_find 227 = .ok (.iaload, 1) := by decide +kernel
theorem dX10_find_228 : decode cX10_find 228 = .ok (.aload_n 0, 1) := by decide +kernel
theorem dX10_find_229 : decode cX10_find 229 = .ok (.getfield 22, 3) := by decide +kernel
theorem dX10_find_232 : decode cX10_find 232 = .ok (.iconst 3, 1) := by decide +kernel
theorem dX10_find_233 : decode cX10_find 233 = .ok (.iaload, 1) := by decide +kernel
theorem dX10_find_234 : decode cX10_find 234 = .ok (.iadd, 1) := by decide +kernel
theorem dX10_find_235 : decode cX10_find 235 = .ok (.iload_n 2, 1) := by decide +kernel
theorem dX10_find_236 : decode cX10_find 236 = .ok (.if_icmp .ne 20, 3) := by decide +kernel
theorem dX10_find_239 : decode cX10_find 239 = .ok (.aload_n 0, 1) := by decide +kernel
theorem dX10_find_240 : decode cX10_find 240 = .ok (.iconst 3, 1) := by decide +kernel
theorem dX10_find_241 : decode cX10_find 241 = .ok (.iload_n 3, 1) := by decide +kernel
theorem dX10_find_242 : decode cX10_find 242 = .ok (.iconst 2, 1) := by decide +kernel
theorem dX10_find_243 : decode cX10_find 243 = .ok (.isub, 1) := by decide +kernel
theorem dX10_find_244 : decode cX10_find 244 = .ok (.invokevirtual 112, 3) := by decide +kernel
theorem dX10_find_247 : decode cX10_find 247 = .ok (.iinc 3 (-2), 3) := by decide +kernel
theorem dX10_find_250 : decode cX10_find 250 = .ok (.iinc 4 (-2), 3) := by decide +kernel
theorem dX10_find_253 : decode cX10_find 253 = .ok (.goto 55, 3) := by decide +kernel
theorem dX10_find_256 : decode cX10_find 256 = .ok (.iload_n 3, 1) := by decide +kernel
theorem dX10_find_257 : decode cX10_find 257 = .ok (.ifCond .le 42, 3) := by decide +kernel
theorem dX10_find_260 : decode cX10_find 260 = .ok (.aload_n 0, 1) := by decide +kernel
theorem dX10_find_261 : decode cX10_find 261 = .ok (.getfield 38, 3) := by decide +kernel
theorem dX10_find_264 : decode cX10_find 264 = .ok (.bipush 13, 2) := by decide +kernel
theorem dX10_find_266 : decode cX10_find 266 = .ok (.iload_n 3, 1) := by decide +kernel
theorem dX10_find_267 : decode cX10_find 267 = .ok (.iconst 1, 1) := by decide +kernel
theorem dX10_find_268 : decode cX10_find 268 = .ok (.isub, 1) := by decide +kernel
theorem dX10_find_269 : decode cX10_find 269 = .ok (.imul, 1) := by decide +kernel
theorem dX10_find_270 : decode cX10_find 270 = .ok (.iload 4, 2) := by decide +kernel
theorem dX10_find_272 : decode cX10_find 272 = .ok (.iadd, 1) := by decide +kernel
theorem dX10_find_273 : decode cX10_find 273 = .ok (.iaload, 1) := by decide +kernel
theorem dX10_find_274 : decode cX10_find 274 = .ok (.aload_n 0, 1) := by decide +kernel
theorem dX10_find_275 : decode cX10_find 275 = .ok (.getfield 22, 3) := by decide +kernel
theorem dX10_find_278 : decode cX10_find 278 = .ok (.iconst 1, 1) := by decide +kernel
theorem dX10_find_279 : decode cX10_find 279 = .ok (.iaload, 1) := by decide +kernel
theorem dX10_find_280 : decode cX10_find 280 = .ok (.iadd, 1) := by decide +kernel
theorem dX10_find_281 : decode cX10_find 281 = .ok (.iload_n 2, 1) := by decide +kernel
theorem dX10_find_282 : decode cX10_find 282 = .ok (.if_icmp .ne 17, 3) := by decide +kernel
theorem dX10_find_285 : decode cX10_find 285 = .ok (.aload_n 0, 1) := by decide +kernel
theorem dX10_find_286 : decode cX10_find 286 = .ok (.iconst 1, 1) := by decide +kernel
theorem dX10_find_287 : decode cX10_find 287 = .ok (.iload_n 3, 1) := by decide +kernel
theorem dX10_find_288 : decode cX10_find 288 = .ok (.iconst 1, 1) := by decide +kernel
theorem dX10_find_289 : decode cX10_find 289 = .ok (.isub, 1) := by decide +kernel
theorem dX10_find_290 : decode cX10_find 290 = .ok (.invokevirtual 112, 3) := by decide +kernel
theorem dX10_find_293 : decode cX10_find 293 = .ok (.iinc 3 (-1), 3) := by decide +kernel
theorem dX10_find_296 : decode cX10_find 296 = .ok (.goto 12, 3) := by decide +kernel
theorem dX10_find_299 : decode cX10_find 299 = .ok (.aload_n 0, 1) := by decide +kernel
theorem dX10_find_300 : decode cX10_find 300 = .ok (.iconst 0, 1) := by decide +kernel
theorem dX10_find_301 : decode cX10_find 301 = .ok (.iload_n 3, 1) := by decide +kernel
theorem dX10_find_302 : decode cX10_find 302 = .ok (.invokevirtual 112, 3) := by decide +kernel
theorem dX10_find_305 : decode cX10_find 305 = .ok (.iinc 4 (-1), 3) := by decide +kernel
theorem dX10_find_308 : decode cX10_find 308 = .ok (.goto (-275), 3) := by decide +kernel
theorem dX10_find_311 : decode cX10_find 311 = .ok (.return_, 1) := by decide +kernel
theorem dX10_edit_0 : decode cX10_edit 0 = .ok (.aload_n 0, 1) := by decide +kernel
theorem dX10_edit_1 : decode cX10_edit 1 = .ok (.iconst 0, 1) := by decide +kernel
theorem dX10_edit_2 : decode cX10_edit 2 = .ok (.putfield 62, 3) := by decide +kernel
theorem dX10_edit_5 : decode cX10_edit 5 = .ok (.aload_n 0, 1) := by decide +kernel
theorem dX10_edit_6 : decode cX10_edit 6 = .ok (.iload_n 1, 1) := by decide +kernel
theorem dX10_edit_7 : decode cX10_edit 7 = .ok (.invokevirtual 76, 3) := by decide +kernel
theorem dX10_edit_10 : decode cX10_edit 10 = .ok (.ifCond .ne 5, 3) := by decide +kernel
theorem dX10_edit_13 : decode cX10_edit 13 = .ok (.iconst (-1), 1) := by decide +kernel
theorem dX10_edit_14 : decode cX10_edit 14 = .ok (.ireturn, 1) := by decide +kernel
theorem dX10_edit_15 : decode cX10_edit 15 = .ok (.aload_n 0, 1) := by decide +kernel
theorem dX10_edit_16 : decode cX10_edit 16 = .ok (.iload_n 1, 1) := by decide +kernel
theorem dX10_edit_17 : decode cX10_edit 17 = .ok (.invokevirtual 115, 3) := by decide +kernel
theorem dX10_edit_20 : decode cX10_edit 20 = .ok (.iload_n 2, 1) := by decide +kernel
theorem dX10_edit_21 : decode cX10_edit 21 = .ok (.iconst (-1), 1) := by decide +kernel
theorem dX10_edit_22 : decode cX10_edit 22 = .ok (.if_icmp .ne 10, 3) := by decide +kernel
theorem dX10_edit_25 : decode cX10_edit 25 = .ok (.aload_n 0, 1) := by decide +kernel
theorem dX10_edit_26 : decode cX10_edit 26 = .ok (.getfield 109, 3) := by decide +kernel
theorem dX10_edit_29 : decode cX10_edit 29 = .ok (.goto 34, 3) := by decide +kernel
theorem dX10_edit_32 : decode cX10_edit 32 = .ok (.iload_n 2, 1) := by decide +kernel
theorem dX10_edit_33 : decode cX10_edit 33 = .ok (.iconst 0, 1) := by decide +kernel
theorem dX10_edit_34 : decode cX10_edit 34 = .ok (.aload_n 0, 1) := by decide +kernel
theorem dX10_edit_35 : decode cX10_edit 35 = .ok (.getfield 109, 3) := by decide +kernel
theorem dX10_edit_38 : decode cX10_edit 38 = .ok (.iconst 1, 1) := by decide +kernel
theorem dX10_edit_39 : decode cX10_edit 39 = .ok (.isub, 1) := by decide +kernel
theorem dX10_edit_40 : decode cX10_edit 40 = .ok (.invokestatic 69, 3) := by decide +kernel
theorem dX10_edit_43 : decode cX10_edit 43 = .ok (.ifCond .eq 19, 3) := by decide +kernel
theorem dX10_edit_46 : decode cX10_edit 46 = .ok (.aload_n 0, 1) := by decide +kernel
theorem dX10_edit_47 : decode cX10_edit 47 = .ok (.getfield 44, 3) := by decide +kernel
theorem dX10_edit_50 : decode cX10_edit 50 = .ok (.aload_n 0, 1) := by decide +kernel
theorem dX10_edit_51 : decode cX10_edit 51 = .ok (.getfield 109, 3) := by decide +kernel
theorem dX10_edit_54 : decode cX10_edit 54 = .ok (.iconst 1, 1) := by decide +kernel
theorem dX10_edit_55 : decode cX10_edit 55 = .ok (.isub, 1) := by decide +kernel
theorem dX10_edit_56 : decode cX10_edit 56 = .ok (.iload_n 2, 1) := by decide +kernel
theorem dX10_edit_57 : decode cX10_edit 57 = .ok (.isub, 1) := by decide +kernel
theorem dX10_edit_58 : decode cX10_edit 58 = .ok (.iaload, 1) := by decide +kernel
theorem dX10_edit_59 : decode cX10_edit 59 = .ok (.goto 4, 3) := by decide +kernel
theorem dX10_edit_62 : decode cX10_edit 62 = .ok (.iconst (-1), 1) := by decide +kernel
theorem dX10_edit_63 : decode cX10_edit 63 = .ok (.ireturn, 1) := by decide +kernel
theorem dX10_place_0 : decode cX10_place 0 = .ok (.aload_n 0, 1) := by decide +kernel
theorem dX10_place_1 : decode cX10_place 1 = .ok (.iconst 0, 1) := by decide +kernel
theorem dX10_place_2 : decode cX10_place 2 = .ok (.putfield 62, 3) := by decide +kernel
theorem dX10_place_5 : decode cX10_place 5 = .ok (.aload_n 0, 1) := by decide +kernel
theorem dX10_place_6 : decode cX10_place 6 = .ok (.iload_n 1, 1) := by decide +kernel
theorem dX10_place_7 : decode cX10_place 7 = .ok (.invokevirtual 76, 3) := by decide +kernel
theorem dX10_place_10 : decode cX10_place 10 = .ok (.ifCond .ne 5, 3) := by decide +kernel
theorem dX10_place_13 : decode cX10_place 13 = .ok (.iconst (-1), 1) := by decide +kernel
theorem dX10_place_14 : decode cX10_place 14 = .ok (.ireturn, 1) := by decide +kernel
theorem dX10_place_15 : decode cX10_place 15 = .ok (.aload_n 0, 1) := by decide +kernel
theorem dX10_place_16 : decode cX10_place 16 = .ok (.iload_n 1, 1) := by decide +kernel
theorem dX10_place_17 : decode cX10_place 17 = .ok (.invokevirtual 115, 3) := by decide +kernel
theorem dX10_place_20 : decode cX10_place 20 = .ok (.iload_n 2, 1) := by decide +kernel
theorem dX10_place_21 : decode cX10_place 21 = .ok (.iconst 0, 1) := by decide +kernel
theorem dX10_place_22 : decode cX10_place 22 = .ok (.aload_n 0, 1) := by decide +kernel
theorem dX10_place_23 : decode cX10_place 23 = .ok (.getfield 109, 3) := by decide +kernel
theorem dX10_place_26 : decode cX10_place 26 = .ok (.iconst 1, 1) := by decide +kernel
theorem dX10_place_27 : decode cX10_place 27 = .ok (.isub, 1) := by decide +kernel
theorem dX10_place_28 : decode cX10_place 28 = .ok (.invokestatic 69, 3) := by decide +kernel
theorem dX10_place_31 : decode cX10_place 31 = .ok (.ifCond .eq 19, 3) := by decide +kernel
theorem dX10_place_34 : decode cX10_place 34 = .ok (.aload_n 0, 1) := by decide +kernel
theorem dX10_place_35 : decode cX10_place 35 = .ok (.getfield 47, 3) := by decide +kernel
theorem dX10_place_38 : decode cX10_place 38 = .ok (.aload_n 0, 1) := by decide +kernel
theorem dX10_place_39 : decode cX10_place 39 = .ok (.getfield 109, 3) := by decide +kernel
theorem dX10_place_42 : decode cX10_place 42 = .ok (.iconst 1, 1) := by decide +kernel
theorem dX10_place_43 : decode cX10_place 43 = .ok (.isub, 1) := by decide +kernel
theorem dX10_place_44 : decode cX10_place 44 = .ok (.iload_n 2, 1) := by decide +kernel
theorem dX10_place_45 : decode cX10_place 45 = .ok (.isub, 1) := by decide +kernel
theorem dX10_place_46 : decode cX10_place 46 = .ok (.iaload, 1) := by decide +kernel
theorem dX10_place_47 : decode cX10_place 47 = .ok (.goto 4, 3) := by decide +kernel
theorem dX10_place_50 : decode cX10_place 50 = .ok (.iconst (-1), 1) := by decide +kernel
theorem dX10_place_51 : decode cX10_place 51 = .ok (.ireturn, 1) := by decide +kernel
theorem dX10_look_0 : decode cX10_look 0 = .ok (.aload_n 0, 1) := by decide +kernel
theorem dX10_look_1 : decode cX10_look 1 = .ok (.iconst 0, 1) := by decide +kernel
theorem dX10_look_2 : decode cX10_look 2 = .ok (.aload_n 0, 1) := by decide +kernel
theorem dX10_look_3 : decode cX10_look 3 = .ok (.getfield 73, 3) := by decide +kernel
theorem dX10_look_6 : decode cX10_look 6 = .ok (.invokevirtual 102, 3) := by decide +kernel
theorem dX10_look_9 : decode cX10_look 9 = .ok (.aload_n 0, 1) := by decide +kernel
theorem dX10_look_10 : decode cX10_look 10 = .ok (.iconst 0, 1) := by decide +kernel
theorem dX10_look_11 : decode cX10_look 11 = .ok (.putfield 119, 3) := by decide +kernel
theorem dX10_look_14 : decode cX10_look 14 = .ok (.iconst 0, 1) := by decide +kernel
theorem dX10_look_15 : decode cX10_look 15 = .ok (.istore_n 3, 1) := by decide +kernel
theorem dX10_look_16 : decode cX10_look 16 = .ok (.iload_n 3, 1) := by decide +kernel
theorem dX10_look_17 : decode cX10_look 17 = .ok (.aload_n 0, 1) := by decide +kernel
theorem dX10_look_18 : decode cX10_look 18 = .ok (.getfield 66, 3) := by decide +kernel
theorem dX10_look_21 : decode cX10_look 21 = .ok (.if_icmp .ge 141, 3) := by decide +kernel
theorem dX10_look_24 : decode cX10_look 24 = .ok (.iload_n 2, 1) := by decide +kernel
theorem dX10_look_25 : decode cX10_look 25 = .ok (.ifCond .eq 11, 3) := by decide +kernel
theorem dX10_look_28 : decode cX10_look 28 = .ok (.aload_n 0, 1) := by decide +kernel
theorem dX10_look_29 : decode cX10_look 29 = .ok (.iload_n 3, 1) := by decide +kernel
theorem dX10_look_30 : decode cX10_look 30 = .ok (.invokevirtual 106, 3) := by decide +kernel
theorem dX10_look_33 : decode cX10_look 33 = .ok (.goto 8, 3) := by decide +kernel
theorem dX10_look_36 : decode cX10_look 36 = .ok (.aload_n 0, 1) := by decide +kernel
theorem dX10_look_37 : decode cX10_look 37 = .ok (.iload_n 3, 1) := by decide +kernel
theorem dX10_look_38 : decode cX10_look 38 = .ok (.invokevirtual 99, 3) := by decide +kernel
theorem dX10_look_41 : decode cX10_look 41 = .ok (.istore 4, 2) := by decide +kernel
theorem dX10_look_43 : decode cX10_look 43 = .ok (.iload 4, 2) := by decide +kernel
theorem dX10_look_45 : decode cX10_look 45 = .ok (.iload_n 1, 1) := by decide +kernel
theorem dX10_look_46 : decode cX10_look 46 = .ok (.if_icmp .le 6, 3) := by decide +kernel
theorem dX10_look_49 : decode cX10_look 49 = .ok (.goto 107, 3) := by decide +kernel
theorem dX10_look_52 : decode cX10_look 52 = .ok (.aload_n 0, 1) := by decide +kernel
theorem dX10_look_53 : decode cX10_look 53 = .ok (.getfield 119, 3) := by decide +kernel
theorem dX10_look_56 : decode cX10_look 56 = .ok (.istore 5, 2) := by decide +kernel
theorem dX10_look_58 : decode cX10_look 58 = .ok (.iload 5, 2) := by decide +kernel
theorem dX10_look_60 : decode cX10_look 60 = .ok (.ifCond .le 69, 3) := by decide +kernel
theorem dX10_look_63 : decode cX10_look 63 = .ok (.aload_n 0, 1) := by decide +kernel
theorem dX10_look_64 : decode cX10_look 64 = .ok (.iload_n 3, 1) := by decide +kernel
theorem dX10_look_65 : decode cX10_look 65 = .ok (.iload 4, 2) := by decide +kernel
theorem dX10_look_67 : decode cX10_look 67 = .ok (.aload_n 0, 1) := by decide +kernel
theorem dX10_look_68 : decode cX10_look 68 = .ok (.getfield 50, 3) := by decide +kernel
theorem dX10_look_71 : decode cX10_look 71 = .ok (.iload 5, 2) := by decide +kernel
theorem dX10_look_73 : decode cX10_look 73 = .ok (.iconst 1, 1) := by decide +kernel
theorem dX10_look_74 : decode cX10_look 74 = .ok (.isub, 1) := by decide +kernel
theorem dX10_look_75 : decode cX10_look 75 = .ok (.iaload, 1) := by decide +kernel
theorem dX10_look_76 : decode cX10_look 76 = .ok (.aload_n 0, 1) := by decide +kernel
theorem dX10_look_77 : decode cX10_look 77 = .ok (.getfield 53, 3) := by decide +kernel
theorem dX10_look_80 : decode cX10_look 80 = .ok (.iload 5, 2) := by decide +kernel
theorem dX10_look_82 : decode cX10_look 82 = .ok (.iconst 1, 1) := by decide +kernel
theorem dX10_look_83 : decode cX10_look 83 = .ok (.isub, 1) := by decide +kernel
theorem dX10_look_84 : decode cX10_look 84 = .ok (.iaload, 1) := by decide +kernel
theorem dX10_look_85 : decode cX10_look 85 = .ok (.invokevirtual 122, 3) := by decide +kernel
theorem dX10_look_88 : decode cX10_look 88 = .ok (.ifCond .eq 41, 3) := by decide +kernel
theorem dX10_look_91 : decode cX10_look 91 = .ok (.aload_n 0, 1) := by decide +kernel
theorem dX10_look_92 : decode cX10_look 92 = .ok (.getfield 50, 3) := by decide +kernel
theorem dX10_look_95 : decode cX10_look 95 = .ok (.iload 5, 2) := by decide +kernel
theorem dX10_look_97 : decode cX10_look 97 = .ok (.aload_n 0, 1) := by decide +kernel
theorem dX10_look_98 : decode cX10_look 98 = .ok (.getfield 50, 3) := by decide +kernel
theorem dX10_look_101 : decode cX10_look 101 = .ok (.iload 5, 2) := by decide +kernel
theorem dX10_look_103 : decode cX10_look 103 = .ok (.iconst 1, 1) := by decide +kernel
theorem dX10_look_104 : decode cX10_look 104 = .ok (.isub, 1) := by decide +kernel
theorem dX10_look_105 : decode cX10_look 105 = .ok (.iaload, 1) := by decide +kernel
theorem dX10_look_106 : decode cX10_look 106 = .ok (.iastore, 1) := by decide +kernel
theorem dX10_look_107 : decode cX10_look 107 = .ok (.aload_n 0, 1) := by decide +kernel
theorem dX10_look_108 : decode cX10_look 108 = .ok (.getfield 53, 3) := by decide +kernel
theorem dX10_look_111 : decode cX10_look 111 = .ok (.iload 5, 2) := by decide +kernel
theorem dX10_look_113 : decode cX10_look 113 = .ok (.aload_n 0, 1) := by decide +kernel
theorem dX10_look_114 : decode cX10_look 114 = .ok (.getfield 53, 3) := by decide +kernel
theorem dX10_look_117 : decode cX10_look 117 = .ok (.iload 5, 2) := by decide +kernel
theorem dX10_look_119 : decode cX10_look 119 = .ok (.iconst 1, 1) := by decide +kernel
theorem dX10_look_120 : decode cX10_look 120 = .ok (.isub, 1) := by decide +kernel
theorem dX10_look_121 : decode cX10_look 121 = .ok (.iaload, 1) := by decide +kernel
theorem dX10_look_122 : decode cX10_look 122 = .ok (.iastore, 1) := by decide +kernel
theorem dX10_look_123 : decode cX10_look 123 = .ok (.iinc 5 (-1), 3) := by decide +kernel
theorem dX10_look_126 : decode cX10_look 126 = .ok (.goto (-68), 3) := by decide +kernel
theorem dX10_look_129 : decode cX10_look 129 = .ok (.aload_n 0, 1) := by decide +kernel
theorem dX10_look_130 : decode cX10_look 130 = .ok (.getfield 50, 3) := by decide +kernel
theorem dX10_look_133 : decode cX10_look 133 = .ok (.iload 5, 2) := by decide +kernel
theorem dX10_look_135 : decode cX10_look 135 = .ok (.iload_n 3, 1) := by decide +kernel
theorem dX10_look_136 : decode cX10_look 136 = .ok (.iastore, 1) := by decide +kernel
theorem dX10_look_137 : decode cX10_look 137 = .ok (.aload_n 0, 1) := by decide +kernel
theorem dX10_look_138 : decode cX10_look 138 = .ok (.getfield 53, 3) := by decide +kernel
theorem dX10_look_141 : decode cX10_look 141 = .ok (.iload 5, 2) := by decide +kernel
theorem dX10_look_143 : decode cX10_look 143 = .ok (.iload 4, 2) := by decide +kernel
theorem dX10_look_145 : decode cX10_look 145 = .ok (.iastore, 1) := by decide +kernel
theorem dX10_look_146 : decode cX10_look 146 = .ok (.aload_n 0, 1) := by decide +kernel
theorem dX10_look_147 : decode cX10_look 147 = .ok (.dup, 1) := by decide +kernel
theorem dX10_look_148 : decode cX10_look 148 = .ok (.getfield 119, 3) := by decide +kernel
theorem dX10_look_151 : decode cX10_look 151 = .ok (.iconst 1, 1) := by decide +kernel
theorem dX10_look_152 : decode cX10_look 152 = .ok (.iadd, 1) := by decide +kernel
theorem dX10_look_153 : decode cX10_look 153 = .ok (.putfield 119, 3) := by decide +kernel
theorem dX10_look_156 : decode cX10_look 156 = .ok (.iinc 3 1, 3) := by decide +kernel
theorem dX10_look_159 : decode cX10_look 159 = .ok (.goto (-143), 3) := by decide +kernel
theorem dX10_look_162 : decode cX10_look 162 = .ok (.return_, 1) := by decide +kernel
theorem dX10_isBefore_0 : decode cX10_isBefore 0 = .ok (.iload_n 2, 1) := by decide +kernel
theorem dX10_isBefore_1 : decode cX10_isBefore 1 = .ok (.iload 4, 2) := by decide +kernel
theorem dX10_isBefore_3 : decode cX10_isBefore 3 = .ok (.if_icmp .eq 15, 3) := by decide +kernel
theorem dX10_isBefore_6 : decode cX10_isBefore 6 = .ok (.iload_n 2, 1) := by decide +kernel
theorem dX10_isBefore_7 : decode cX10_isBefore 7 = .ok (.iload 4, 2) := by decide +kernel
theorem dX10_isBefore_9 : decode cX10_isBefore 9 = .ok (.if_icmp .ge 7, 3) := by decide +kernel
theorem dX10_isBefore_12 : decode cX10_isBefore 12 = .ok (.iconst 1, 1) := by decide +kernel
theorem dX10_isBefore_13 : decode cX10_isBefore 13 = .ok (.goto 4, 3) := by decide +kernel
theorem dX10_isBefore_16 : decode cX10_isBefore 16 = .ok (.iconst 0, 1) := by decide +kernel
theorem dX10_isBefore_17 : decode cX10_isBefore 17 = .ok (.ireturn, 1) := by decide +kernel
theorem dX10_isBefore_18 : decode cX10_isBefore 18 = .ok (.aload_n 0, 1) := by decide +kernel
theorem dX10_isBefore_19 : decode cX10_isBefore 19 = .ok (.getfield 19, 3) := by decide +kernel
theorem dX10_isBefore_22 : decode cX10_isBefore 22 = .ok (.iload_n 1, 1) := by decide +kernel
theorem dX10_isBefore_23 : decode cX10_isBefore 23 = .ok (.iaload, 1) := by decide +kernel
theorem dX10_isBefore_24 : decode cX10_isBefore 24 = .ok (.aload_n 0, 1) := by decide +kernel
theorem dX10_isBefore_25 : decode cX10_isBefore 25 = .ok (.getfield 19, 3) := by decide +kernel
theorem dX10_isBefore_28 : decode cX10_isBefore 28 = .ok (.iload_n 3, 1) := by decide +kernel
theorem dX10_isBefore_29 : decode cX10_isBefore 29 = .ok (.iaload, 1) := by decide +kernel
theorem dX10_isBefore_30 : decode cX10_isBefore 30 = .ok (.if_icmp .eq 26, 3) := by decide +kernel
theorem dX10_isBefore_33 : decode cX10_isBefore 33 = .ok (.aload_n 0, 1) := by decide +kernel
theorem dX10_isBefore_34 : decode cX10_isBefore 34 = .ok (.getfield 19, 3) := by decide +kernel
theorem dX10_isBefore_37 : decode cX10_isBefore 37 = .ok (.iload_n 1, 1) := by decide +kernel
theorem dX10_isBefore_38 : decode cX10_isBefore 38 = .ok (.iaload, 1) := by decide +kernel
theorem dX10_isBefore_39 : decode cX10_isBefore 39 = .ok (.aload_n 0, 1) := by decide +kernel
theorem dX10_isBefore_40 : decode cX10_isBefore 40 = .ok (.getfield 19, 3) := by decide +kernel
theorem dX10_isBefore_43 : decode cX10_isBefore 43 = .ok (.iload_n 3, 1) := by decide +kernel
theorem dX10_isBefore_44 : decode cX10_isBefore 44 = .ok (.iaload, 1) := by decide +kernel
theorem dX10_isBefore_45 : decode cX10_isBefore 45 = .ok (.if_icmp .le 7, 3) := by decide +kernel
theorem dX10_isBefore_48 : decode cX10_isBefore 48 = .ok (.iconst 1, 1) := by decide +kernel
theorem dX10_isBefore_49 : decode cX10_isBefore 49 = .ok (.goto 13, 3) := by decide +kernel
theorem dX10_isBefore_52 : decode cX10_isBefore 52 = .ok (.iconst 0, 1) := by decide +kernel
theorem dX10_isBefore_53 : decode cX10_isBefore 53 = .ok (.goto 9, 3) := by decide +kernel
theorem dX10_isBefore_56 : decode cX10_isBefore 56 = .ok (.aload_n 0, 1) := by decide +kernel
theorem dX10_isBefore_57 : decode cX10_isBefore 57 = .ok (.iload_n 1, 1) := by decide +kernel
theorem dX10_isBefore_58 : decode cX10_isBefore 58 = .ok (.iload_n 3, 1) := by decide +kernel
theorem dX10_isBefore_59 : decode cX10_isBefore 59 = .ok (.invokevirtual 80, 3) := by decide +kernel
theorem dX10_isBefore_62 : decode cX10_isBefore 62 = .ok (.ireturn, 1) := by decide +kernel
theorem dX10_suggest_0 : decode cX10_suggest 0 = .ok (.aload_n 0, 1) := by decide +kernel
theorem dX10_suggest_1 : decode cX10_suggest 1 = .ok (.iconst 0, 1) := by decide +kernel
theorem dX10_suggest_2 : decode cX10_suggest 2 = .ok (.putfield 62, 3) := by decide +kernel
theorem dX10_suggest_5 : decode cX10_suggest 5 = .ok (.iload_n 1, 1) := by decide +kernel
theorem dX10_suggest_6 : decode cX10_suggest 6 = .ok (.iconst 0, 1) := by decide +kernel
theorem dX10_suggest_7 : decode cX10_suggest 7 = .ok (.bipush 50, 2) := by decide +kernel
theorem dX10_suggest_9 : decode cX10_suggest 9 = .ok (.invokestatic 69, 3) := by decide +kernel
theorem dX10_suggest_12 : decode cX10_suggest 12 = .ok (.ifCond .ne 6, 3) := by decide +kernel
theorem dX10_suggest_15 : decode cX10_suggest 15 = .ok (.bipush (-2), 2) := by decide +kernel
theorem dX10_suggest_17 : decode cX10_suggest 17 = .ok (.ireturn, 1) := by decide +kernel
theorem dX10_suggest_18 : decode cX10_suggest 18 = .ok (.aload_n 0, 1) := by decide +kernel
theorem dX10_suggest_19 : decode cX10_suggest 19 = .ok (.iload_n 1, 1) := by decide +kernel
theorem dX10_suggest_20 : decode cX10_suggest 20 = .ok (.iconst 0, 1) := by decide +kernel
theorem dX10_suggest_21 : decode cX10_suggest 21 = .ok (.invokevirtual 126, 3) := by decide +kernel
theorem dX10_suggest_24 : decode cX10_suggest 24 = .ok (.aload_n 0, 1) := by decide +kernel
theorem dX10_suggest_25 : decode cX10_suggest 25 = .ok (.getfield 119, 3) := by decide +kernel
theorem dX10_suggest_28 : decode cX10_suggest 28 = .ok (.ireturn, 1) := by decide +kernel
theorem dX10_suggestion_0 : decode cX10_suggestion 0 = .ok (.aload_n 0, 1) := by decide +kernel
theorem dX10_suggestion_1 : decode cX10_suggestion 1 = .ok (.iconst 0, 1) := by decide +kernel
theorem dX10_suggestion_2 : decode cX10_suggestion 2 = .ok (.putfield 62, 3) := by decide +kernel
theorem dX10_suggestion_5 : decode cX10_suggestion 5 = .ok (.iload_n 1, 1) := by decide +kernel
theorem dX10_suggestion_6 : decode cX10_suggestion 6 = .ok (.iconst 0, 1) := by decide +kernel
theorem dX10_suggestion_7 : decode cX10_suggestion 7 = .ok (.bipush 50, 2) := by decide +kernel
theorem dX10_suggestion_9 : decode cX10_suggestion 9 = .ok (.invokestatic 69, 3) := by decide +kernel
theorem dX10_suggestion_12 : decode cX10_suggestion 12 = .ok (.ifCond .ne 6, 3) := by decide +kernel
theorem dX10_suggestion_15 : decode cX10_suggestion 15 = .ok (.bipush (-2), 2) := by decide +kernel
theorem dX10_suggestion_17 : decode cX10_suggestion 17 = .ok (.ireturn, 1) := by decide +kernel
theorem dX10_suggestion_18 : decode cX10_suggestion 18 = .ok (.aload_n 0, 1) := by decide +kernel
theorem dX10_suggestion_19 : decode cX10_suggestion 19 = .ok (.iload_n 1, 1) := by decide +kernel
theorem dX10_suggestion_20 : decode cX10_suggestion 20 = .ok (.iconst 0, 1) := by decide +kernel
theorem dX10_suggestion_21 : decode cX10_suggestion 21 = .ok (.invokevirtual 126, 3) := by decide +kernel
theorem dX10_suggestion_24 : decode cX10_suggestion 24 = .ok (.iload_n 2, 1) := by decide +kernel
theorem dX10_suggestion_25 : decode cX10_suggestion 25 = .ok (.iconst 0, 1) := by decide +kernel
theorem dX10_suggestion_26 : decode cX10_suggestion 26 = .ok (.aload_n 0, 1) := by decide +kernel
theorem dX10_suggestion_27 : decode cX10_suggestion 27 = .ok (.getfield 119, 3) := by decide +kernel
theorem dX10_suggestion_30 : decode cX10_suggestion 30 = .ok (.iconst 1, 1) := by decide +kernel
theorem dX10_suggestion_31 : decode cX10_suggestion 31 = .ok (.isub, 1) := by decide +kernel
theorem dX10_suggestion_32 : decode cX10_suggestion 32 = .ok (.invokestatic 69, 3) := by decide +kernel
theorem dX10_suggestion_35 : decode cX10_suggestion 35 = .ok (.ifCond .eq 12, 3) := by decide +kernel
theorem dX10_suggestion_38 : decode cX10_suggestion 38 = .ok (.aload_n 0, 1) := by decide +kernel
theorem dX10_suggestion_39 : decode cX10_suggestion 39 = .ok (.getfield 50, 3) := by decide +kernel
theorem dX10_suggestion_42 : decode cX10_suggestion 42 = .ok (.iload_n 2, 1) := by decide +kernel
theorem dX10_suggestion_43 : decode cX10_suggestion 43 = .ok (.iaload, 1) := by decide +kernel
theorem dX10_suggestion_44 : decode cX10_suggestion 44 = .ok (.goto 4, 3) := by decide +kernel
theorem dX10_suggestion_47 : decode cX10_suggestion 47 = .ok (.iconst (-1), 1) := by decide +kernel
theorem dX10_suggestion_48 : decode cX10_suggestion 48 = .ok (.ireturn, 1) := by decide +kernel
theorem dX10_endings_0 : decode cX10_endings 0 = .ok (.aload_n 0, 1) := by decide +kernel
theorem dX10_endings_1 : decode cX10_endings 1 = .ok (.iconst 0, 1) := by decide +kernel
theorem dX10_endings_2 : decode cX10_endings 2 = .ok (.putfield 62, 3) := by decide +kernel
theorem dX10_endings_5 : decode cX10_endings 5 = .ok (.iload_n 1, 1) := by decide +kernel
theorem dX10_endings_6 : decode cX10_endings 6 = .ok (.iconst 0, 1) := by decide +kernel
theorem dX10_endings_7 : decode cX10_endings 7 = .ok (.bipush 50, 2) := by decide +kernel
theorem dX10_endings_9 : decode cX10_endings 9 = .ok (.invokestatic 69, 3) := by decide +kernel
theorem dX10_endings_12 : decode cX10_endings 12 = .ok (.ifCond .ne 6, 3) := by decide +kernel
theorem dX10_endings_15 : decode cX10_endings 15 = .ok (.bipush (-2), 2) := by decide +kernel
theorem dX10_endings_17 : decode cX10_endings 17 = .ok (.ireturn, 1) := by decide +kernel
theorem dX10_endings_18 : decode cX10_endings 18 = .ok (.aload_n 0, 1) := by decide +kernel
theorem dX10_endings_19 : decode cX10_endings 19 = .ok (.iload_n 1, 1) := by decide +kernel
theorem dX10_endings_20 : decode cX10_endings 20 = .ok (.iconst 1, 1) := by decide +kernel
theorem dX10_endings_21 : decode cX10_endings 21 = .ok (.invokevirtual 126, 3) := by decide +kernel
theorem dX10_endings_24 : decode cX10_endings 24 = .ok (.aload_n 0, 1) := by decide +kernel
theorem dX10_endings_25 : decode cX10_endings 25 = .ok (.getfield 119, 3) := by decide +kernel
theorem dX10_endings_28 : decode cX10_endings 28 = .ok (.ireturn, 1) := by decide +kernel
theorem dX10_ending_0 : decode cX10_ending 0 = .ok (.aload_n 0, 1) := by decide +kernel
theorem dX10_ending_1 : decode cX10_ending 1 = .ok (.iconst 0, 1) := by decide +kernel
theorem dX10_ending_2 : decode cX10_ending 2 = .ok (.putfield 62, 3) := by decide +kernel
theorem dX10_ending_5 : decode cX10_ending 5 = .ok (.iload_n 1, 1) := by decide +kernel
theorem dX10_ending_6 : decode cX10_ending 6 = .ok (.iconst 0, 1) := by decide +kernel
theorem dX10_ending_7 : decode cX10_ending 7 = .ok (.bipush 50, 2) := by decide +kernel
theorem dX10_ending_9 : decode cX10_ending 9 = .ok (.invokestatic 69, 3) := by decide +kernel
theorem dX10_ending_12 : decode cX10_ending 12 = .ok (.ifCond .ne 6, 3) := by decide +kernel
theorem dX10_ending_15 : decode cX10_ending 15 = .ok (.bipush (-2), 2) := by decide +kernel
theorem dX10_ending_17 : decode cX10_ending 17 = .ok (.ireturn, 1) := by decide +kernel
theorem dX10_ending_18 : decode cX10_ending 18 = .ok (.aload_n 0, 1) := by decide +kernel
theorem dX10_ending_19 : decode cX10_ending 19 = .ok (.iload_n 1, 1) := by decide +kernel
theorem dX10_ending_20 : decode cX10_ending 20 = .ok (.iconst 1, 1) := by decide +kernel
theorem dX10_ending_21 : decode cX10_ending 21 = .ok (.invokevirtual 126, 3) := by decide +kernel
theorem dX10_ending_24 : decode cX10_ending 24 = .ok (.iload_n 2, 1) := by decide +kernel
theorem dX10_ending_25 : decode cX10_ending 25 = .ok (.iconst 0, 1) := by decide +kernel
theorem dX10_ending_26 : decode cX10_ending 26 = .ok (.aload_n 0, 1) := by decide +kernel
theorem dX10_ending_27 : decode cX10_ending 27 = .ok (.getfield 119, 3) := by decide +kernel
theorem dX10_ending_30 : decode cX10_ending 30 = .ok (.iconst 1, 1) := by decide +kernel
theorem dX10_ending_31 : decode cX10_ending 31 = .ok (.isub, 1) := by decide +kernel
theorem dX10_ending_32 : decode cX10_ending 32 = .ok (.invokestatic 69, 3) := by decide +kernel
theorem dX10_ending_35 : decode cX10_ending 35 = .ok (.ifCond .eq 12, 3) := by decide +kernel
theorem dX10_ending_38 : decode cX10_ending 38 = .ok (.aload_n 0, 1) := by decide +kernel
theorem dX10_ending_39 : decode cX10_ending 39 = .ok (.getfield 50, 3) := by decide +kernel
theorem dX10_ending_42 : decode cX10_ending 42 = .ok (.iload_n 2, 1) := by decide +kernel
theorem dX10_ending_43 : decode cX10_ending 43 = .ok (.iaload, 1) := by decide +kernel
theorem dX10_ending_44 : decode cX10_ending 44 = .ok (.goto 4, 3) := by decide +kernel
theorem dX10_ending_47 : decode cX10_ending 47 = .ok (.iconst (-1), 1) := by decide +kernel
theorem dX10_ending_48 : decode cX10_ending 48 = .ok (.ireturn, 1) := by decide +kernel
theorem dX10_side_0 : decode cX10_side 0 = .ok (.aload_n 0, 1) := by decide +kernel
theorem dX10_side_1 : decode cX10_side 1 = .ok (.iload_n 1, 1) := by decide +kernel
theorem dX10_side_2 : decode cX10_side 2 = .ok (.iload_n 2, 1) := by decide +kernel
theorem dX10_side_3 : decode cX10_side 3 = .ok (.invokevirtual 102, 3) := by decide +kernel
theorem dX10_side_6 : decode cX10_side 6 = .ok (.iconst (-1), 1) := by decide +kernel
theorem dX10_side_7 : decode cX10_side 7 = .ok (.istore_n 3, 1) := by decide +kernel
theorem dX10_side_8 : decode cX10_side 8 = .ok (.iconst 0, 1) := by decide +kernel
theorem dX10_side_9 : decode cX10_side 9 = .ok (.istore 4, 2) := by decide +kernel
theorem dX10_side_11 : decode cX10_side 11 = .ok (.iload 4, 2) := by decide +kernel
theorem dX10_side_13 : decode cX10_side 13 = .ok (.aload_n 0, 1) := by decide +kernel
theorem dX10_side_14 : decode cX10_side 14 = .ok (.getfield 66, 3) := by decide +kernel
theorem dX10_side_17 : decode cX10_side 17 = .ok (.if_icmp .ge 55, 3) := by decide +kernel
theorem dX10_side_20 : decode cX10_side 20 = .ok (.aload_n 0, 1) := by decide +kernel
theorem dX10_side_21 : decode cX10_side 21 = .ok (.iload 4, 2) := by decide +kernel
theorem dX10_side_23 : decode cX10_side 23 = .ok (.invokevirtual 99, 3) := by decide +kernel
theorem dX10_side_26 : decode cX10_side 26 = .ok (.istore 5, 2) := by decide +kernel
theorem dX10_side_28 : decode cX10_side 28 = .ok (.iload_n 3, 1) := by decide +kernel
theorem dX10_side_29 : decode cX10_side 29 = .ok (.ifCond .lt 28, 3) := by decide +kernel
theorem dX10_side_32 : decode cX10_side 32 = .ok (.iload 5, 2) := by decide +kernel
theorem dX10_side_34 : decode cX10_side 34 = .ok (.iload_n 3, 1) := by decide +kernel
theorem dX10_side_35 : decode cX10_side 35 = .ok (.if_icmp .lt 22, 3) := by decide +kernel
theorem dX10_side_38 : decode cX10_side 38 = .ok (.iload 5, 2) := by decide +kernel
theorem dX10_side_40 : decode cX10_side 40 = .ok (.iload_n 3, 1) := by decide +kernel
theorem dX10_side_41 : decode cX10_side 41 = .ok (.if_icmp .ne 25, 3) := by decide +kernel
theorem dX10_side_44 : decode cX10_side 44 = .ok (.aload_n 0, 1) := by decide +kernel
theorem dX10_side_45 : decode cX10_side 45 = .ok (.iload 4, 2) := by decide +kernel
theorem dX10_side_47 : decode cX10_side 47 = .ok (.aload_n 0, 1) := by decide +kernel
theorem dX10_side_48 : decode cX10_side 48 = .ok (.getfield 130, 3) := by decide +kernel
theorem dX10_side_51 : decode cX10_side 51 = .ok (.invokevirtual 80, 3) := by decide +kernel
theorem dX10_side_54 : decode cX10_side 54 = .ok (.ifCond .eq 12, 3) := by decide +kernel
theorem dX10_side_57 : decode cX10_side 57 = .ok (.iload 5, 2) := by decide +kernel
theorem dX10_side_59 : decode cX10_side 59 = .ok (.istore_n 3, 1) := by decide +kernel
theorem dX10_side_60 : decode cX10_side 60 = .ok (.aload_n 0, 1) := by decide +kernel
theorem dX10_side_61 : decode cX10_side 61 = .ok (.iload 4, 2) := by decide +kernel
theorem dX10_side_63 : decode cX10_side 63 = .ok (.putfield 130, 3) := by decide +kernel
theorem dX10_side_66 : decode cX10_side 66 = .ok (.iinc 4 1, 3) := by decide +kernel
theorem dX10_side_69 : decode cX10_side 69 = .ok (.goto (-58), 3) := by decide +kernel
theorem dX10_side_72 : decode cX10_side 72 = .ok (.iload_n 3, 1) := by decide +kernel
theorem dX10_side_73 : decode cX10_side 73 = .ok (.ireturn, 1) := by decide +kernel
theorem dX10_parting_0 : decode cX10_parting 0 = .ok (.aload_n 0, 1) := by decide +kernel
theorem dX10_parting_1 : decode cX10_parting 1 = .ok (.iconst 0, 1) := by decide +kernel
theorem dX10_parting_2 : decode cX10_parting 2 = .ok (.putfield 62, 3) := by decide +kernel
theorem dX10_parting_5 : decode cX10_parting 5 = .ok (.iload_n 1, 1) := by decide +kernel
theorem dX10_parting_6 : decode cX10_parting 6 = .ok (.iconst 0, 1) := by decide +kernel
theorem dX10_parting_7 : decode cX10_parting 7 = .ok (.iconst 3, 1) := by decide +kernel
theorem dX10_parting_8 : decode cX10_parting 8 = .ok (.invokestatic 69, 3) := by decide +kernel
theorem dX10_parting_11 : decode cX10_parting 11 = .ok (.ifCond .ne 6, 3) := by decide +kernel
theorem dX10_parting_14 : decode cX10_parting 14 = .ok (.bipush (-2), 2) := by decide +kernel
theorem dX10_parting_16 : decode cX10_parting 16 = .ok (.ireturn, 1) := by decide +kernel
theorem dX10_parting_17 : decode cX10_parting 17 = .ok (.aload_n 0, 1) := by decide +kernel
theorem dX10_parting_18 : decode cX10_parting 18 = .ok (.getfield 66, 3) := by decide +kernel
theorem dX10_parting_21 : decode cX10_parting 21 = .ok (.ifCond .eq 11, 3) := by decide +kernel
theorem dX10_parting_24 : decode cX10_parting 24 = .ok (.aload_n 0, 1) := by decide +kernel
theorem dX10_parting_25 : decode cX10_parting 25 = .ok (.getfield 73, 3) := by decide +kernel
theorem dX10_parting_28 : decode cX10_parting 28 = .ok (.iconst 2, 1) := by decide +kernel
theorem dX10_parting_29 : decode cX10_parting 29 = .ok (.if_icmp .ge 6, 3) := by decide +kernel
theorem dX10_parting_32 : decode cX10_parting 32 = .ok (.bipush (-3), 2) := by decide +kernel
theorem dX10_parting_34 : decode cX10_parting 34 = .ok (.ireturn, 1) := by decide +kernel
theorem dX10_parting_35 : decode cX10_parting 35 = .ok (.iconst (-1), 1) := by decide +kernel
theorem dX10_parting_36 : decode cX10_parting 36 = .ok (.istore_n 2, 1) := by decide +kernel
theorem dX10_parting_37 : decode cX10_parting 37 = .ok (.iconst 0, 1) := by decide +kernel
theorem dX10_parting_38 : decode cX10_parting 38 = .ok (.istore_n 3, 1) := by decide +kernel
theorem dX10_parting_39 : decode cX10_parting 39 = .ok (.iconst 0, 1) := by decide +kernel
theorem dX10_parting_40 : decode cX10_parting 40 = .ok (.istore 4, 2) := by decide +kernel
theorem dX10_parting_42 : decode cX10_parting 42 = .ok (.iconst 0, 1) := by decide +kernel
theorem dX10_parting_43 : decode cX10_parting 43 = .ok (.istore 5, 2) := by decide +kernel
theorem dX10_parting_45 : decode cX10_parting 45 = .ok (.iconst 1, 1) := by decide +kernel
theorem dX10_parting_46 : decode cX10_parting 46 = .ok (.istore 6, 2) := by decide +kernel
theorem dX10_parting_48 : decode cX10_parting 48 = .ok (.iload 6, 2) := by decide +kernel
theorem dX10_parting_50 : decode cX10_parting 50 = .ok (.aload_n 0, 1) := by decide +kernel
theorem dX10_parting_51 : decode cX10_parting 51 = .ok (.getfield 73, 3) := by decide +kernel
theorem dX10_parting_54 : decode cX10_parting 54 = .ok (.if_icmp .ge 82, 3) := by decide +kernel
theorem dX10_parting_57 : decode cX10_parting 57 = .ok (.aload_n 0, 1) := by decide +kernel
theorem dX10_parting_58 : decode cX10_parting 58 = .ok (.iconst 0, 1) := by decide +kernel
theorem dX10_parting_59 : decode cX10_parting 59 = .ok (.iload 6, 2) := by decide +kernel
theorem dX10_parting_61 : decode cX10_parting 61 = .ok (.invokevirtual 133, 3) := by decide +kernel
theorem dX10_parting_64 : decode cX10_parting 64 = .ok (.istore 7, 2) := by decide +kernel
theorem dX10_parting_66 : decode cX10_parting 66 = .ok (.aload_n 0, 1) := by decide +kernel
theorem dX10_parting_67 : decode cX10_parting 67 = .ok (.getfield 130, 3) := by decide +kernel
theorem dX10_parting_70 : decode cX10_parting 70 = .ok (.istore 8, 2) := by decide +kernel
theorem dX10_parting_72 : decode cX10_parting 72 = .ok (.aload_n 0, 1) := by decide +kernel
theorem dX10_parting_73 : decode cX10_parting 73 = .ok (.iload 6, 2) := by decide +kernel
theorem dX10_parting_75 : decode cX10_parting 75 = .ok (.aload_n 0, 1) := by decide +kernel
theorem dX10_parting_76 : decode cX10_parting 76 = .ok (.getfield 73, 3) := by decide +kernel
theorem dX10_parting_79 : decode cX10_parting 79 = .ok (.invokevirtual 133, 3) := by decide +kernel
theorem dX10_parting_82 : decode cX10_parting 82 = .ok (.istore 9, 2) := by decide +kernel
theorem dX10_parting_84 : decode cX10_parting 84 = .ok (.iload_n 2, 1) := by decide +kernel
theorem dX10_parting_85 : decode cX10_parting 85 = .ok (.ifCond .lt 19, 3) := by decide +kernel
theorem dX10_parting_88 : decode cX10_parting 88 = .ok (.iload 7, 2) := by decide +kernel
theorem dX10_parting_90 : decode cX10_parting 90 = .ok (.iload 9, 2) := by decide +kernel
theorem dX10_parting_92 : decode cX10_parting 92 = .ok (.iadd, 1) := by decide +kernel
theorem dX10_parting_93 : decode cX10_parting 93 = .ok (.aload_n 0, 1) := by decide +kernel
theorem dX10_parting_94 : decode cX10_parting 94 = .ok (.getfield 22, 3) := by decide +kernel
theorem dX10_parting_97 : decode cX10_parting 97 = .ok (.iconst 4, 1) := by decide +kernel
theorem dX10_parting_98 : decode cX10_parting 98 = .ok (.iaload, 1) := by decide +kernel
theorem dX10_parting_99 : decode cX10_parting 99 = .ok (.iadd, 1) := by decide +kernel
theorem dX10_parting_100 : decode cX10_parting 100 = .ok (.iload_n 2, 1) := by decide +kernel
theorem dX10_parting_101 : decode cX10_parting 101 = .ok (.if_icmp .ge 29, 3) := by decide +kernel
theorem dX10_parting_104 : decode cX10_parting 104 = .ok (.iload 7, 2) := by decide +kernel
theorem dX10_parting_106 : decode cX10_parting 106 = .ok (.iload 9, 2) := by decide +kernel
theorem dX10_parting_108 : decode cX10_parting 108 = .ok (.iadd, 1) := by decide +kernel
theorem dX10_parting_109 : decode cX10_parting 109 = .ok (.aload_n 0, 1) := by decide +kernel
theorem dX10_parting_110 : decode cX10_parting 110 = .ok (.getfield 22, 3) := by decide +kernel
theorem dX10_parting_113 : decode cX10_parting 113 = .ok (.iconst 4, 1) := by decide +kernel
theorem dX10_parting_114 : decode cX10_parting 114 = .ok (.iaload, 1) := by decide +kernel
theorem dX10_parting_115 : decode cX10_parting 115 = .ok (.iadd, 1) := by decide +kernel
theorem dX10_parting_116 : decode cX10_parting 116 = .ok (.istore_n 2, 1) := by decide +kernel
theorem dX10_parting_117 : decode cX10_parting 117 = .ok (.iload 6, 2) := by decide +kernel
theorem dX10_parting_119 : decode cX10_parting 119 = .ok (.istore_n 3, 1) := by decide +kernel
theorem dX10_parting_120 : decode cX10_parting 120 = .ok (.iload 8, 2) := by decide +kernel
theorem dX10_parting_122 : decode cX10_parting 122 = .ok (.istore 4, 2) := by decide +kernel
theorem dX10_parting_124 : decode cX10_parting 124 = .ok (.aload_n 0, 1) := by decide +kernel
theorem dX10_parting_125 : decode cX10_parting 125 = .ok (.getfield 130, 3) := by decide +kernel
theorem dX10_parting_128 : decode cX10_parting 128 = .ok (.istore 5, 2) := by decide +kernel
theorem dX10_parting_130 : decode cX10_parting 130 = .ok (.iinc 6 1, 3) := by decide +kernel
theorem dX10_parting_133 : decode cX10_parting 133 = .ok (.goto (-85), 3) := by decide +kernel
theorem dX10_parting_136 : decode cX10_parting 136 = .ok (.iload_n 1, 1) := by decide +kernel
theorem dX10_parting_137 : decode cX10_parting 137 = .ok (.ifCond .ne 7, 3) := by decide +kernel
theorem dX10_parting_140 : decode cX10_parting 140 = .ok (.iload_n 2, 1) := by decide +kernel
theorem dX10_parting_141 : decode cX10_parting 141 = .ok (.goto 24, 3) := by decide +kernel
theorem dX10_parting_144 : decode cX10_parting 144 = .ok (.iload_n 1, 1) := by decide +kernel
theorem dX10_parting_145 : decode cX10_parting 145 = .ok (.iconst 1, 1) := by decide +kernel
theorem dX10_parting_146 : decode cX10_parting 146 = .ok (.if_icmp .ne 7, 3) := by decide +kernel
theorem dX10_parting_149 : decode cX10_parting 149 = .ok (.iload_n 3, 1) := by decide +kernel
theorem dX10_parting_150 : decode cX10_parting 150 = .ok (.goto 15, 3) := by decide +kernel
theorem dX10_parting_153 : decode cX10_parting 153 = .ok (.iload_n 1, 1) := by decide +kernel
theorem dX10_parting_154 : decode cX10_parting 154 = .ok (.iconst 2, 1) := by decide +kernel
theorem dX10_parting_155 : decode cX10_parting 155 = .ok (.if_icmp .ne 8, 3) := by decide +kernel
theorem dX10_parting_158 : decode cX10_parting 158 = .ok (.iload 4, 2) := by decide +kernel
theorem dX10_parting_160 : decode cX10_parting 160 = .ok (.goto 5, 3) := by decide +kernel
theorem dX10_parting_163 : decode cX10_parting 163 = .ok (.iload 5, 2) := by decide +kernel
theorem dX10_parting_165 : decode cX10_parting 165 = .ok (.ireturn, 1) := by decide +kernel
theorem dX10_token_0 : decode cX10_token 0 = .ok (.aload_n 0, 1) := by decide +kernel
theorem dX10_token_1 : decode cX10_token 1 = .ok (.iconst 0, 1) := by decide +kernel
theorem dX10_token_2 : decode cX10_token 2 = .ok (.putfield 62, 3) := by decide +kernel
theorem dX10_token_5 : decode cX10_token 5 = .ok (.aload_n 0, 1) := by decide +kernel
theorem dX10_token_6 : decode cX10_token 6 = .ok (.getfield 73, 3) := by decide +kernel
theorem dX10_token_9 : decode cX10_token 9 = .ok (.ifCond .ne 6, 3) := by decide +kernel
theorem dX10_token_12 : decode cX10_token 12 = .ok (.bipush (-2), 2) := by decide +kernel
theorem dX10_token_14 : decode cX10_token 14 = .ok (.ireturn, 1) := by decide +kernel
theorem dX10_token_15 : decode cX10_token 15 = .ok (.aload_n 0, 1) := by decide +kernel
theorem dX10_token_16 : decode cX10_token 16 = .ok (.getfield 136, 3) := by decide +kernel
theorem dX10_token_19 : decode cX10_token 19 = .ok (.bipush 6, 2) := by decide +kernel
theorem dX10_token_21 : decode cX10_token 21 = .ok (.if_icmp .ne 6, 3) := by decide +kernel
theorem dX10_token_24 : decode cX10_token 24 = .ok (.bipush (-4), 2) := by decide +kernel
theorem dX10_token_26 : decode cX10_token 26 = .ok (.ireturn, 1) := by decide +kernel
theorem dX10_token_27 : decode cX10_token 27 = .ok (.aload_n 0, 1) := by decide +kernel
theorem dX10_token_28 : decode cX10_token 28 = .ok (.getfield 28, 3) := by decide +kernel
theorem dX10_token_31 : decode cX10_token 31 = .ok (.aload_n 0, 1) := by decide +kernel
theorem dX10_token_32 : decode cX10_token 32 = .ok (.getfield 136, 3) := by decide +kernel
theorem dX10_token_35 : decode cX10_token 35 = .ok (.aload_n 0, 1) := by decide +kernel
theorem dX10_token_36 : decode cX10_token 36 = .ok (.getfield 73, 3) := by decide +kernel
theorem dX10_token_39 : decode cX10_token 39 = .ok (.iastore, 1) := by decide +kernel
theorem dX10_token_40 : decode cX10_token 40 = .ok (.iconst 0, 1) := by decide +kernel
theorem dX10_token_41 : decode cX10_token 41 = .ok (.istore_n 1, 1) := by decide +kernel
theorem dX10_token_42 : decode cX10_token 42 = .ok (.iload_n 1, 1) := by decide +kernel
theorem dX10_token_43 : decode cX10_token 43 = .ok (.aload_n 0, 1) := by decide +kernel
theorem dX10_token_44 : decode cX10_token 44 = .ok (.getfield 73, 3) := by decide +kernel
theorem dX10_token_47 : decode cX10_token 47 = .ok (.if_icmp .ge 29, 3) := by decide +kernel
theorem dX10_token_50 : decode cX10_token 50 = .ok (.aload_n 0, 1) := by decide +kernel
theorem dX10_token_51 : decode cX10_token 51 = .ok (.getfield 31, 3) := by decide +kernel
theorem dX10_token_54 : decode cX10_token 54 = .ok (.bipush 12, 2) := by decide +kernel
theorem dX10_token_56 : decode cX10_token 56 = .ok (.aload_n 0, 1) := by decide +kernel
theorem dX10_token_57 : decode cX10_token 57 = .ok (.getfield 136, 3) := by decide +kernel
theorem dX10_token_60 : decode cX10_token 60 = .ok (.imul, 1) := by decide +kernel
theorem dX10_token_61 : decode cX10_token 61 = .ok (.iload_n 1, 1) := by decide +kernel
theorem dX10_token_62 : decode cX10_token 62 = .ok (.iadd, 1) := by decide +kernel
theorem dX10_token_63 : decode cX10_token 63 = .ok (.aload_n 0, 1) := by decide +kernel
theorem dX10_token_64 : decode cX10_token 64 = .ok (.getfield 7, 3) := by decide +kernel
theorem dX10_token_67 : decode cX10_token 67 = .ok (.iload_n 1, 1) := by decide +kernel
theorem dX10_token_68 : decode cX10_token 68 = .ok (.iaload, 1) := by decide +kernel
theorem dX10_token_69 : decode cX10_token 69 = .ok (.iastore, 1) := by decide +kernel
theorem dX10_token_70 : decode cX10_token 70 = .ok (.iinc 1 1, 3) := by decide +kernel
theorem dX10_token_73 : decode cX10_token 73 = .ok (.goto (-31), 3) := by decide +kernel
theorem dX10_token_76 : decode cX10_token 76 = .ok (.aload_n 0, 1) := by decide +kernel
theorem dX10_token_77 : decode cX10_token 77 = .ok (.dup, 1) := by decide +kernel
theorem dX10_token_78 : decode cX10_token 78 = .ok (.getfield 136, 3) := by decide +kernel
theorem dX10_token_81 : decode cX10_token 81 = .ok (.iconst 1, 1) := by decide +kernel
theorem dX10_token_82 : decode cX10_token 82 = .ok (.iadd, 1) := by decide +kernel
theorem dX10_token_83 : decode cX10_token 83 = .ok (.putfield 136, 3) := by decide +kernel
theorem dX10_token_86 : decode cX10_token 86 = .ok (.aload_n 0, 1) := by decide +kernel
theorem dX10_token_87 : decode cX10_token 87 = .ok (.iconst 0, 1) := by decide +kernel
theorem dX10_token_88 : decode cX10_token 88 = .ok (.putfield 73, 3) := by decide +kernel
theorem dX10_token_91 : decode cX10_token 91 = .ok (.aload_n 0, 1) := by decide +kernel
theorem dX10_token_92 : decode cX10_token 92 = .ok (.getfield 136, 3) := by decide +kernel
theorem dX10_token_95 : decode cX10_token 95 = .ok (.ireturn, 1) := by decide +kernel
theorem dX10_line_0 : decode cX10_line 0 = .ok (.aload_n 0, 1) := by decide +kernel
theorem dX10_line_1 : decode cX10_line 1 = .ok (.iconst 0, 1) := by decide +kernel
theorem dX10_line_2 : decode cX10_line 2 = .ok (.putfield 62, 3) := by decide +kernel
theorem dX10_line_5 : decode cX10_line 5 = .ok (.aload_n 0, 1) := by decide +kernel
theorem dX10_line_6 : decode cX10_line 6 = .ok (.getfield 136, 3) := by decide +kernel
theorem dX10_line_9 : decode cX10_line 9 = .ok (.istore_n 1, 1) := by decide +kernel
theorem dX10_line_10 : decode cX10_line 10 = .ok (.aload_n 0, 1) := by decide +kernel
theorem dX10_line_11 : decode cX10_line 11 = .ok (.iconst 0, 1) := by decide +kernel
theorem dX10_line_12 : decode cX10_line 12 = .ok (.putfield 136, 3) := by decide +kernel
theorem dX10_line_15 : decode cX10_line 15 = .ok (.iload_n 1, 1) := by decide +kernel
theorem dX10_line_16 : decode cX10_line 16 = .ok (.ireturn, 1) := by decide +kernel
theorem dX10_pair_0 : decode cX10_pair 0 = .ok (.aload_n 0, 1) := by decide +kernel
theorem dX10_pair_1 : decode cX10_pair 1 = .ok (.iconst 0, 1) := by decide +kernel
theorem dX10_pair_2 : decode cX10_pair 2 = .ok (.putfield 62, 3) := by decide +kernel
theorem dX10_pair_5 : decode cX10_pair 5 = .ok (.aload_n 0, 1) := by decide +kernel
theorem dX10_pair_6 : decode cX10_pair 6 = .ok (.iload_n 1, 1) := by decide +kernel
theorem dX10_pair_7 : decode cX10_pair 7 = .ok (.invokevirtual 76, 3) := by decide +kernel
theorem dX10_pair_10 : decode cX10_pair 10 = .ok (.ifCond .eq 11, 3) := by decide +kernel
theorem dX10_pair_13 : decode cX10_pair 13 = .ok (.aload_n 0, 1) := by decide +kernel
theorem dX10_pair_14 : decode cX10_pair 14 = .ok (.iload_n 2, 1) := by decide +kernel
theorem dX10_pair_15 : decode cX10_pair 15 = .ok (.invokevirtual 76, 3) := by decide +kernel
theorem dX10_pair_18 : decode cX10_pair 18 = .ok (.ifCond .ne 5, 3) := by decide +kernel
theorem dX10_pair_21 : decode cX10_pair 21 = .ok (.iconst (-1), 1) := by decide +kernel
theorem dX10_pair_22 : decode cX10_pair 22 = .ok (.ireturn, 1) := by decide +kernel
theorem dX10_pair_23 : decode cX10_pair 23 = .ok (.aload_n 0, 1) := by decide +kernel
theorem dX10_pair_24 : decode cX10_pair 24 = .ok (.getfield 34, 3) := by decide +kernel
theorem dX10_pair_27 : decode cX10_pair 27 = .ok (.bipush 60, 2) := by decide +kernel
theorem dX10_pair_29 : decode cX10_pair 29 = .ok (.iload_n 1, 1) := by decide +kernel
theorem dX10_pair_30 : decode cX10_pair 30 = .ok (.imul, 1) := by decide +kernel
theorem dX10_pair_31 : decode cX10_pair 31 = .ok (.iload_n 2, 1) := by decide +kernel
theorem dX10_pair_32 : decode cX10_pair 32 = .ok (.iadd, 1) := by decide +kernel
theorem dX10_pair_33 : decode cX10_pair 33 = .ok (.baload, 1) := by decide +kernel
theorem dX10_pair_34 : decode cX10_pair 34 = .ok (.istore 4, 2) := by decide +kernel
theorem dX10_pair_36 : decode cX10_pair 36 = .ok (.aload_n 0, 1) := by decide +kernel
theorem dX10_pair_37 : decode cX10_pair 37 = .ok (.getfield 34, 3) := by decide +kernel
theorem dX10_pair_40 : decode cX10_pair 40 = .ok (.bipush 60, 2) := by decide +kernel
theorem dX10_pair_42 : decode cX10_pair 42 = .ok (.iload_n 1, 1) := by decide +kernel
theorem dX10_pair_43 : decode cX10_pair 43 = .ok (.imul, 1) := by decide +kernel
theorem dX10_pair_44 : decode cX10_pair 44 = .ok (.iload_n 2, 1) := by decide +kernel
theorem dX10_pair_45 : decode cX10_pair 45 = .ok (.iadd, 1) := by decide +kernel
theorem dX10_pair_46 : decode cX10_pair 46 = .ok (.iload_n 3, 1) := by decide +kernel
theorem dX10_pair_47 : decode cX10_pair 47 = .ok (.bastore, 1) := by decide +kernel
theorem dX10_pair_48 : decode cX10_pair 48 = .ok (.iload 4, 2) := by decide +kernel
theorem dX10_pair_50 : decode cX10_pair 50 = .ok (.iload_n 3, 1) := by decide +kernel
theorem dX10_pair_51 : decode cX10_pair 51 = .ok (.if_icmp .eq 7, 3) := by decide +kernel
theorem dX10_pair_54 : decode cX10_pair 54 = .ok (.iconst 1, 1) := by decide +kernel
theorem dX10_pair_55 : decode cX10_pair 55 = .ok (.goto 4, 3) := by decide +kernel
theorem dX10_pair_58 : decode cX10_pair 58 = .ok (.iconst 0, 1) := by decide +kernel
theorem dX10_pair_59 : decode cX10_pair 59 = .ok (.ireturn, 1) := by decide +kernel
theorem dX10_nextTo_0 : decode cX10_nextTo 0 = .ok (.aload_n 0, 1) := by decide +kernel
theorem dX10_nextTo_1 : decode cX10_nextTo 1 = .ok (.getfield 34, 3) := by decide +kernel
theorem dX10_nextTo_4 : decode cX10_nextTo 4 = .ok (.bipush 60, 2) := by decide +kernel
theorem dX10_nextTo_6 : decode cX10_nextTo 6 = .ok (.iload_n 1, 1) := by decide +kernel
theorem dX10_nextTo_7 : decode cX10_nextTo 7 = .ok (.imul, 1) := by decide +kernel
theorem dX10_nextTo_8 : decode cX10_nextTo 8 = .ok (.iload_n 2, 1) := by decide +kernel
theorem dX10_nextTo_9 : decode cX10_nextTo 9 = .ok (.iadd, 1) := by decide +kernel
theorem dX10_nextTo_10 : decode cX10_nextTo 10 = .ok (.baload, 1) := by decide +kernel
theorem dX10_nextTo_11 : decode cX10_nextTo 11 = .ok (.ifCond .eq 7, 3) := by decide +kernel
theorem dX10_nextTo_14 : decode cX10_nextTo 14 = .ok (.iconst 0, 1) := by decide +kernel
theorem dX10_nextTo_15 : decode cX10_nextTo 15 = .ok (.goto 9, 3) := by decide +kernel
theorem dX10_nextTo_18 : decode cX10_nextTo 18 = .ok (.aload_n 0, 1) := by decide +kernel
theorem dX10_nextTo_19 : decode cX10_nextTo 19 = .ok (.getfield 22, 3) := by decide +kernel
theorem dX10_nextTo_22 : decode cX10_nextTo 22 = .ok (.iconst 5, 1) := by decide +kernel
theorem dX10_nextTo_23 : decode cX10_nextTo 23 = .ok (.iaload, 1) := by decide +kernel
theorem dX10_nextTo_24 : decode cX10_nextTo 24 = .ok (.ireturn, 1) := by decide +kernel
theorem dX10_chosen_0 : decode cX10_chosen 0 = .ok (.aload_n 0, 1) := by decide +kernel
theorem dX10_chosen_1 : decode cX10_chosen 1 = .ok (.iconst 0, 1) := by decide +kernel
theorem dX10_chosen_2 : decode cX10_chosen 2 = .ok (.putfield 62, 3) := by decide +kernel
theorem dX10_chosen_5 : decode cX10_chosen 5 = .ok (.iload_n 1, 1) := by decide +kernel
theorem dX10_chosen_6 : decode cX10_chosen 6 = .ok (.iconst 0, 1) := by decide +kernel
theorem dX10_chosen_7 : decode cX10_chosen 7 = .ok (.bipush 50, 2) := by decide +kernel
theorem dX10_chosen_9 : decode cX10_chosen 9 = .ok (.invokestatic 69, 3) := by decide +kernel
theorem dX10_chosen_12 : decode cX10_chosen 12 = .ok (.ifCond .ne 6, 3) := by decide +kernel
theorem dX10_chosen_15 : decode cX10_chosen 15 = .ok (.bipush (-2), 2) := by decide +kernel
theorem dX10_chosen_17 : decode cX10_chosen 17 = .ok (.ireturn, 1) := by decide +kernel
theorem dX10_chosen_18 : decode cX10_chosen 18 = .ok (.iload_n 2, 1) := by decide +kernel
theorem dX10_chosen_19 : decode cX10_chosen 19 = .ok (.iconst (-1), 1) := by decide +kernel
theorem dX10_chosen_20 : decode cX10_chosen 20 = .ok (.aload_n 0, 1) := by decide +kernel
theorem dX10_chosen_21 : decode cX10_chosen 21 = .ok (.getfield 136, 3) := by decide +kernel
theorem dX10_chosen_24 : decode cX10_chosen 24 = .ok (.iconst 1, 1) := by decide +kernel
theorem dX10_chosen_25 : decode cX10_chosen 25 = .ok (.isub, 1) := by decide +kernel
theorem dX10_chosen_26 : decode cX10_chosen 26 = .ok (.invokestatic 69, 3) := by decide +kernel
theorem dX10_chosen_29 : decode cX10_chosen 29 = .ok (.ifCond .ne 5, 3) := by decide +kernel
theorem dX10_chosen_32 : decode cX10_chosen 32 = .ok (.iconst (-1), 1) := by decide +kernel
theorem dX10_chosen_33 : decode cX10_chosen 33 = .ok (.ireturn, 1) := by decide +kernel
theorem dX10_chosen_34 : decode cX10_chosen 34 = .ok (.aload_n 0, 1) := by decide +kernel
theorem dX10_chosen_35 : decode cX10_chosen 35 = .ok (.getfield 136, 3) := by decide +kernel
theorem dX10_chosen_38 : decode cX10_chosen 38 = .ok (.ifCond .ne 6, 3) := by decide +kernel
theorem dX10_chosen_41 : decode cX10_chosen 41 = .ok (.bipush (-3), 2) := by decide +kernel
theorem dX10_chosen_43 : decode cX10_chosen 43 = .ok (.ireturn, 1) := by decide +kernel
theorem dX10_chosen_44 : decode cX10_chosen 44 = .ok (.aload_n 0, 1) := by decide +kernel
theorem dX10_chosen_45 : decode cX10_chosen 45 = .ok (.getfield 136, 3) := by decide +kernel
theorem dX10_chosen_48 : decode cX10_chosen 48 = .ok (.iconst 1, 1) := by decide +kernel
theorem dX10_chosen_49 : decode cX10_chosen 49 = .ok (.isub, 1) := by decide +kernel
theorem dX10_chosen_50 : decode cX10_chosen 50 = .ok (.istore_n 3, 1) := by decide +kernel
theorem dX10_chosen_51 : decode cX10_chosen 51 = .ok (.iload_n 3, 1) := by decide +kernel
theorem dX10_chosen_52 : decode cX10_chosen 52 = .ok (.ifCond .lt 245, 3) := by decide +kernel
theorem dX10_chosen_55 : decode cX10_chosen 55 = .ok (.aload_n 0, 1) := by decide +kernel
theorem dX10_chosen_56 : decode cX10_chosen 56 = .ok (.aload_n 0, 1) := by decide +kernel
theorem dX10_chosen_57 : decode cX10_chosen 57 = .ok (.getfield 28, 3) := by decide +kernel
theorem dX10_chosen_60 : decode cX10_chosen 60 = .ok (.iload_n 3, 1) := by decide +kernel
theorem dX10_chosen_61 : decode cX10_chosen 61 = .ok (.iaload, 1) := by decide +kernel
theorem dX10_chosen_62 : decode cX10_chosen 62 = .ok (.putfield 88, 3) := by decide +kernel
theorem dX10_chosen_65 : decode cX10_chosen 65 = .ok (.iconst 0, 1) := by decide +kernel
theorem dX10_chosen_66 : decode cX10_chosen 66 = .ok (.istore 4, 2) := by decide +kernel
theorem dX10_chosen_68 : decode cX10_chosen 68 = .ok (.iload 4, 2) := by decide +kernel
theorem dX10_chosen_70 : decode cX10_chosen 70 = .ok (.aload_n 0, 1) := by decide +kernel
theorem dX10_chosen_71 : decode cX10_chosen 71 = .ok (.getfield 88, 3) := by decide +kernel
theorem dX10_chosen_74 : decode cX10_chosen 74 = .ok (.if_icmp .ge 28, 3) := by decide +kernel
theorem dX10_chosen_77 : decode cX10_chosen 77 = .ok (.aload_n 0, 1) := by decide +kernel
theorem dX10_chosen_78 : decode cX10_chosen 78 = .ok (.getfield 41, 3) := by decide +kernel
theorem dX10_chosen_81 : decode cX10_chosen 81 = .ok (.iload 4, 2) := by decide +kernel
theorem dX10_chosen_83 : decode cX10_chosen 83 = .ok (.aload_n 0, 1) := by decide +kernel
theorem dX10_chosen_84 : decode cX10_chosen 84 = .ok (.getfield 31, 3) := by decide +kernel
theorem dX10_chosen_87 : decode cX10_chosen 87 = .ok (.bipush 12, 2) := by decide +kernel
theorem dX10_chosen_89 : decode cX10_chosen 89 = .ok (.iload_n 3, 1) := by decide +kernel
theorem dX10_chosen_90 : decode cX10_chosen 90 = .ok (.imul, 1) := by decide +kernel
theorem dX10_chosen_91 : decode cX10_chosen 91 = .ok (.iload 4, 2) := by decide +kernel
theorem dX10_chosen_93 : decode cX10_chosen 93 = .ok (.iadd, 1) := by decide +kernel
theorem dX10_chosen_94 : decode cX10_chosen 94 = .ok (.iaload, 1) := by decide +kernel
theorem dX10_chosen_95 : decode cX10_chosen 95 = .ok (.iastore, 1) := by decide +kernel
theorem dX10_chosen_96 : decode cX10_chosen 96 = .ok (.iinc 4 1, 3) := by decide +kernel
theorem dX10_chosen_99 : decode cX10_chosen 99 = .ok (.goto (-31), 3) := by decide +kernel
theorem dX10_chosen_102 : decode cX10_chosen 102 = .ok (.iconst 0, 1) := by decide +kernel
theorem dX10_chosen_103 : decode cX10_chosen 103 = .ok (.istore 4, 2) := by decide +kernel
theorem dX10_chosen_105 : decode cX10_chosen 105 = .ok (.iload 4, 2) := by decide +kernel
theorem dX10_chosen_107 : decode cX10_chosen 107 = .ok (.aload_n 0, 1) := by decide +kernel
theorem dX10_chosen_108 : decode cX10_chosen 108 = .ok (.getfield 66, 3) := by decide +kernel
theorem dX10_chosen_111 : decode cX10_chosen 111 = .ok (.if_icmp .ge 180, 3) := by decide +kernel
theorem dX10_chosen_114 : decode cX10_chosen 114 = .ok (.aload_n 0, 1) := by decide +kernel
theorem dX10_chosen_115 : decode cX10_chosen 115 = .ok (.iload 4, 2) := by decide +kernel
theorem dX10_chosen_117 : decode cX10_chosen 117 = .ok (.invokevirtual 99, 3) := by decide +kernel
theorem dX10_chosen_120 : decode cX10_chosen 120 = .ok (.istore 5, 2) := by decide +kernel
theorem dX10_chosen_122 : decode cX10_chosen 122 = .ok (.iload_n 3, 1) := by decide +kernel
theorem dX10_chosen_123 : decode cX10_chosen 123 = .ok (.aload_n 0, 1) := by decide +kernel
theorem dX10_chosen_124 : decode cX10_chosen 124 = .ok (.getfield 136, 3) := by decide +kernel
theorem dX10_chosen_127 : decode cX10_chosen 127 = .ok (.iconst 1, 1) := by decide +kernel
theorem dX10_chosen_128 : decode cX10_chosen 128 = .ok (.isub, 1) := by decide +kernel
theorem dX10_chosen_129 : decode cX10_chosen 129 = .ok (.if_icmp .ne 7, 3) := by decide +kernel
theorem dX10_chosen_132 : decode cX10_chosen 132 = .ok (.iconst 0, 1) := by decide +kernel
theorem dX10_chosen_133 : decode cX10_chosen 133 = .ok (.goto 4, 3) := by decide +kernel
theorem dX10_chosen_136 : decode cX10_chosen 136 = .ok (.iconst (-1), 1) := by decide +kernel
theorem dX10_chosen_137 : decode cX10_chosen 137 = .ok (.istore 6, 2) := by decide +kernel
theorem dX10_chosen_139 : decode cX10_chosen 139 = .ok (.iconst 0, 1) := by decide +kernel
theorem dX10_chosen_140 : decode cX10_chosen 140 = .ok (.istore 7, 2) := by decide +kernel
theorem dX10_chosen_142 : decode cX10_chosen 142 = .ok (.iload 7, 2) := by decide +kernel
theorem dX10_chosen_144 : decode cX10_chosen 144 = .ok (.aload_n 0, 1) := by decide +kernel
theorem dX10_chosen_145 : decode cX10_chosen 145 = .ok (.getfield 66, 3) := by decide +kernel
theorem dX10_chosen_148 : decode cX10_chosen 148 = .ok (.if_icmp .ge 91, 3) := by decide +kernel
theorem dX10_chosen_151 : decode cX10_chosen 151 = .ok (.iload_n 3, 1) := by decide +kernel
theorem dX10_chosen_152 : decode cX10_chosen 152 = .ok (.aload_n 0, 1) := by decide +kernel
theorem dX10_chosen_153 : decode cX10_chosen 153 = .ok (.getfield 136, 3) := by decide +kernel
theorem dX10_chosen_156 : decode cX10_chosen 156 = .ok (.iconst 1, 1) := by decide +kernel
theorem dX10_chosen_157 : decode cX10_chosen 157 = .ok (.isub, 1) := by decide +kernel
theorem dX10_chosen_158 : decode cX10_chosen 158 = .ok (.if_icmp .ge 81, 3) := by decide +kernel
theorem dX10_chosen_161 : decode cX10_chosen 161 = .ok (.aload_n 0, 1) := by decide +kernel
theorem dX10_chosen_162 : decode cX10_chosen 162 = .ok (.getfield 59, 3) := by decide +kernel
theorem dX10_chosen_165 : decode cX10_chosen 165 = .ok (.bipush 60, 2) := by decide +kernel
theorem dX10_chosen_167 : decode cX10_chosen 167 = .ok (.iload_n 3, 1) := by decide +kernel
theorem dX10_chosen_168 : decode cX10_chosen 168 = .ok (.iconst 1, 1) := by decide +kernel
theorem dX10_chosen_169 : decode cX10_chosen 169 = .ok (.iadd, 1) := by decide +kernel
theorem dX10_chosen_170 : decode cX10_chosen 170 = .ok (.imul, 1) := by decide +kernel
theorem dX10_chosen_171 : decode cX10_chosen 171 = .ok (.iload 7, 2) := by decide +kernel
theorem dX10_chosen_173 : decode cX10_chosen 173 = .ok (.iadd, 1) := by decide +kernel
theorem dX10_chosen_174 : decode cX10_chosen 174 = .ok (.iaload, 1) := by decide +kernel
theorem dX10_chosen_175 : decode cX10_chosen 175 = .ok (.ifCond .ge 7, 3) := by decide +kernel
theorem dX10_chosen_178 : decode cX10_chosen 178 = .ok (.iconst (-1), 1) := by decide +kernel
theorem dX10_chosen_179 : decode cX10_chosen 179 = .ok (.goto 26, 3) := by decide +kernel
theorem dX10_chosen_182 : decode cX10_chosen 182 = .ok (.aload_n 0, 1) := by decide +kernel
theorem dX10_chosen_183 : decode cX10_chosen 183 = .ok (.getfield 59, 3) := by decide +kernel
theorem dX10_chosen_186 : decode cX10_chosen 186 = .ok (.bipush 60, 2) := by decide +kernel
theorem dX10_chosen_188 : decode cX10_chosen 188 = .ok (.iload_n 3, 1) := by decide +kernel
theorem dX10_chosen_189 : decode cX10_chosen 189 = .ok (.iconst 1, 1) := by decide +kernel
theorem dX10_chosen_190 : decode cX10_chosen 190 = .ok (.iadd, 1) := by decide +kernel
theorem dX10_chosen_191 : decode cX10_chosen 191 = .ok (.imul, 1) := by decide +kernel
theorem dX10_chosen_192 : decode cX10_chosen 192 = .ok (.iload 7, 2) := by decide +kernel
theorem dX10_chosen_194 : decode cX10_chosen 194 = .ok (.iadd, 1) := by decide +kernel
theorem dX10_chosen_195 : decode cX10_chosen 195 = .ok (.iaload, 1) := by decide +kernel
theorem dX10_chosen_196 : decode cX10_chosen 196 = .ok (.aload_n 0, 1) := by decide +kernel
theorem dX10_chosen_197 : decode cX10_chosen 197 = .ok (.iload 4, 2) := by decide +kernel
theorem dX10_chosen_199 : decode cX10_chosen 199 = .ok (.iload 7, 2) := by decide +kernel
theorem dX10_chosen_201 : decode cX10_chosen 201 = .ok (.invokevirtual 139, 3) := by decide +kernel
theorem dX10_chosen_204 : decode cX10_chosen 204 = .ok (.iadd, 1) := by decide +kernel
theorem dX10_chosen_205 : decode cX10_chosen 205 = .ok (.istore 8, 2) := by decide +kernel
theorem dX10_chosen_207 : decode cX10_chosen 207 = .ok (.iload 8, 2) := by decide +kernel
theorem dX10_chosen_209 : decode cX10_chosen 209 = .ok (.ifCond .lt 20, 3) := by decide +kernel
theorem dX10_chosen_212 : decode cX10_chosen 212 = .ok (.iload 6, 2) := by decide +kernel
theorem dX10_chosen_214 : decode cX10_chosen 214 = .ok (.ifCond .lt 10, 3) := by decide +kernel
theorem dX10_chosen_217 : decode cX10_chosen 217 = .ok (.iload 8, 2) := by decide +kernel
theorem dX10_chosen_219 : decode cX10_chosen 219 = .ok (.iload 6, 2) := by decide +kernel
theorem dX10_chosen_221 : decode cX10_chosen 221 = .ok (.if_icmp .ge 8, 3) := by decide +kernel
theorem dX10_chosen_224 : decode cX10_chosen 224 = .ok (.iload 8, 2) := by decide +kernel
theorem dX10_chosen_226 : decode cX10_chosen 226 = .ok (.goto 5, 3) := by decide +kernel
theorem dX10_chosen_229 : decode cX10_chosen 229 = .ok (.iload 6, 2) := by decide +kernel
theorem dX10_chosen_231 : decode cX10_chosen 231 = .ok (.istore 6, 2) := by decide +kernel
theorem dX10_chosen_233 : decode cX10_chosen 233 = .ok (.iinc 7 1, 3) := by decide +kernel
theorem dX10_chosen_236 : decode cX10_chosen 236 = .ok (.goto (-94), 3) := by decide +kernel
theorem dX10_chosen_239 : decode cX10_chosen 239 = .ok (.aload_n 0, 1) := by decide +kernel
theorem dX10_chosen_240 : decode cX10_chosen 240 = .ok (.getfield 56, 3) := by decide +kernel
theorem dX10_chosen_243 : decode cX10_chosen 243 = .ok (.bipush 60, 2) := by decide +kernel
theorem dX10_chosen_245 : decode cX10_chosen 245 = .ok (.iload_n 3, 1) := by decide +kernel
theorem dX10_chosen_246 : decode cX10_chosen 246 = .ok (.imul, 1) := by decide +kernel
theorem dX10_chosen_247 : decode cX10_chosen 247 = .ok (.iload 4, 2) := by decide +kernel
theorem dX10_chosen_249 : decode cX10_chosen 249 = .ok (.iadd, 1) := by decide +kernel
theorem dX10_chosen_250 : decode cX10_chosen 250 = .ok (.iload 5, 2) := by decide +kernel
theorem dX10_chosen_252 : decode cX10_chosen 252 = .ok (.iastore, 1) := by decide +kernel
theorem dX10_chosen_253 : decode cX10_chosen 253 = .ok (.aload_n 0, 1) := by decide +kernel
theorem dX10_chosen_254 : decode cX10_chosen 254 = .ok (.getfield 59, 3) := by decide +kernel
theorem dX10_chosen_257 : decode cX10_chosen 257 = .ok (.bipush 60, 2) := by decide +kernel
theorem dX10_chosen_259 : decode cX10_chosen 259 = .ok (.iload_n 3, 1) := by decide +kernel
theorem dX10_chosen_260 : decode cX10_chosen 260 = .ok (.imul, 1) := by decide +kernel
theorem dX10_chosen_261 : decode cX10_chosen 261 = .ok (.iload 4, 2) := by decide +kernel
theorem dX10_chosen_263 : decode cX10_chosen 263 = .ok (.iadd, 1) := by decide +kernel
theorem dX10_chosen_264 : decode cX10_chosen 264 = .ok (.iload 5, 2) := by decide +kernel
theorem dX10_chosen_266 : decode cX10_chosen 266 = .ok (.iload_n 1, 1) := by decide +kernel
theorem dX10_chosen_267 : decode cX10_chosen 267 = .ok (.if_icmp .gt 8, 3) := by decide +kernel
theorem dX10_chosen_270 : decode cX10_chosen 270 = .ok (.iload 6, 2) := by decide +kernel
theorem dX10_chosen_272 : decode cX10_chosen 272 = .ok (.ifCond .ge 7, 3) := by decide +kernel
theorem dX10_chosen_275 : decode cX10_chosen 275 = .ok (.iconst (-1), 1) := by decide +kernel
theorem dX10_chosen_276 : decode cX10_chosen 276 = .ok (.goto 8, 3) := by decide +kernel
theorem dX10_chosen_279 : decode cX10_chosen 279 = .ok (.iload 5, 2) := by decide +kernel
theorem dX10_chosen_281 : decode cX10_chosen 281 = .ok (.iload 6, 2) := by decide +kernel
theorem dX10_chosen_283 : decode cX10_chosen 283 = .ok (.iadd, 1) := by decide +kernel
theorem dX10_chosen_284 : decode cX10_chosen 284 = .ok (.iastore, 1) := by decide +kernel
theorem dX10_chosen_285 : decode cX10_chosen 285 = .ok (.iinc 4 1, 3) := by decide +kernel
theorem dX10_chosen_288 : decode cX10_chosen 288 = .ok (.goto (-183), 3) := by decide +kernel
theorem dX10_chosen_291 : decode cX10_chosen 291 = .ok (.iinc 3 (-1), 3) := by decide +kernel
theorem dX10_chosen_294 : decode cX10_chosen 294 = .ok (.goto (-243), 3) := by decide +kernel
theorem dX10_chosen_297 : decode cX10_chosen 297 = .ok (.iconst (-1), 1) := by decide +kernel
theorem dX10_chosen_298 : decode cX10_chosen 298 = .ok (.istore_n 3, 1) := by decide +kernel
theorem dX10_chosen_299 : decode cX10_chosen 299 = .ok (.iconst (-1), 1) := by decide +kernel
theorem dX10_chosen_300 : decode cX10_chosen 300 = .ok (.istore 4, 2) := by decide +kernel
theorem dX10_chosen_302 : decode cX10_chosen 302 = .ok (.iconst 0, 1) := by decide +kernel
theorem dX10_chosen_303 : decode cX10_chosen 303 = .ok (.istore 5, 2) := by decide +kernel
theorem dX10_chosen_305 : decode cX10_chosen 305 = .ok (.iload 5, 2) := by decide +kernel
theorem dX10_chosen_307 : decode cX10_chosen 307 = .ok (.aload_n 0, 1) := by decide +kernel
theorem dX10_chosen_308 : decode cX10_chosen 308 = .ok (.getfield 66, 3) := by decide +kernel
theorem dX10_chosen_311 : decode cX10_chosen 311 = .ok (.if_icmp .ge 50, 3) := by decide +kernel
theorem dX10_chosen_314 : decode cX10_chosen 314 = .ok (.aload_n 0, 1) := by decide +kernel
theorem dX10_chosen_315 : decode cX10_chosen 315 = .ok (.getfield 59, 3) := by decide +kernel
theorem dX10_chosen_318 : decode cX10_chosen 318 = .ok (.iload 5, 2) := by decide +kernel
theorem dX10_chosen_320 : decode cX10_chosen 320 = .ok (.iaload, 1) := by decide +kernel
theorem dX10_chosen_321 : decode cX10_chosen 321 = .ok (.ifCond .lt 30, 3) := by decide +kernel
theorem dX10_chosen_324 : decode cX10_chosen 324 = .ok (.iload 4, 2) := by decide +kernel
theorem dX10_chosen_326 : decode cX10_chosen 326 = .ok (.ifCond .lt 15, 3) := by decide +kernel
theorem dX10_chosen_329 : decode cX10_chosen 329 = .ok (.aload_n 0, 1) := by decide +kernel
theorem dX10_chosen_330 : decode cX10_chosen 330 = .ok (.getfield 59, 3) := by decide +kernel
theorem dX10_chosen_333 : decode cX10_chosen 333 = .ok (.iload 5, 2) := by decide +kernel
theorem dX10_chosen_335 : decode cX10_chosen 335 = .ok (.iaload, 1) := by decide +kernel
theorem dX10_chosen_336 : decode cX10_chosen 336 = .ok (.iload 4, 2) := by decide +kernel
theorem dX10_chosen_338 : decode cX10_chosen 338 = .ok (.if_icmp .ge 13, 3) := by decide +kernel
theorem dX10_chosen_341 : decode cX10_chosen 341 = .ok (.aload_n 0, 1) := by decide +kernel
theorem dX10_chosen_342 : decode cX10_chosen 342 = .ok (.getfield 59, 3) := by decide +kernel
theorem dX10_chosen_345 : decode cX10_chosen 345 = .ok (.iload 5, 2) := by decide +kernel
theorem dX10_chosen_347 : decode cX10_chosen 347 = .ok (.iaload, 1) := by decide +kernel
theorem dX10_chosen_348 : decode cX10_chosen 348 = .ok (.goto 5, 3) := by decide +kernel
theorem dX10_chosen_351 : decode cX10_chosen 351 = .ok (.iload 4, 2) := by decide +kernel
theorem dX10_chosen_353 : decode cX10_chosen 353 = .ok (.istore 4, 2) := by decide +kernel
theorem dX10_chosen_355 : decode cX10_chosen 355 = .ok (.iinc 5 1, 3) := by decide +kernel
theorem dX10_chosen_358 : decode cX10_chosen 358 = .ok (.goto (-53), 3) := by decide +kernel
theorem dX10_chosen_361 : decode cX10_chosen 361 = .ok (.iload 4, 2) := by decide +kernel
theorem dX10_chosen_363 : decode cX10_chosen 363 = .ok (.ifCond .lt 7, 3) := by decide +kernel
theorem dX10_chosen_366 : decode cX10_chosen 366 = .ok (.iload_n 2, 1) := by decide +kernel
theorem dX10_chosen_367 : decode cX10_chosen 367 = .ok (.ifCond .ge 16, 3) := by decide +kernel
theorem dX10_chosen_370 : decode cX10_chosen 370 = .ok (.iload 4, 2) := by decide +kernel
theorem dX10_chosen_372 : decode cX10_chosen 372 = .ok (.ifCond .ge 8, 3) := by decide +kernel
theorem dX10_chosen_375 : decode cX10_chosen 375 = .ok (.bipush (-3), 2) := by decide +kernel
theorem dX10_chosen_377 : decode cX10_chosen 377 = .ok (.goto 5, 3) := by decide +kernel
theorem dX10_chosen_380 : decode cX10_chosen 380 = .ok (.iload 4, 2) := by decide +kernel
theorem dX10_chosen_382 : decode cX10_chosen 382 = .ok (.ireturn, 1) := by decide +kernel
theorem dX10_chosen_383 : decode cX10_chosen 383 = .ok (.iconst 0, 1) := by decide +kernel
theorem dX10_chosen_384 : decode cX10_chosen 384 = .ok (.istore 5, 2) := by decide +kernel
theorem dX10_chosen_386 : decode cX10_chosen 386 = .ok (.iload 5, 2) := by decide +kernel
theorem dX10_chosen_388 : decode cX10_chosen 388 = .ok (.iload_n 2, 1) := by decide +kernel
theorem dX10_chosen_389 : decode cX10_chosen 389 = .ok (.if_icmp .gt 143, 3) := by decide +kernel
theorem dX10_chosen_392 : decode cX10_chosen 392 = .ok (.iconst (-1), 1) := by decide +kernel
theorem dX10_chosen_393 : decode cX10_chosen 393 = .ok (.istore 6, 2) := by decide +kernel
theorem dX10_chosen_395 : decode cX10_chosen 395 = .ok (.iconst 0, 1) := by decide +kernel
theorem dX10_chosen_396 : decode cX10_chosen 396 = .ok (.istore 7, 2) := by decide +kernel
theorem dX10_chosen_398 : decode cX10_chosen 398 = .ok (.iload 7, 2) := by decide +kernel
theorem dX10_chosen_400 : decode cX10_chosen 400 = .ok (.aload_n 0, 1) := by decide +kernel
theorem dX10_chosen_401 : decode cX10_chosen 401 = .ok (.getfield 66, 3) := by decide +kernel
theorem dX10_chosen_404 : decode cX10_chosen 404 = .ok (.if_icmp .ge 84, 3) := by decide +kernel
theorem dX10_chosen_407 : decode cX10_chosen 407 = .ok (.iload 5, 2) := by decide +kernel
theorem dX10_chosen_409 : decode cX10_chosen 409 = .ok (.ifCond .ne 7, 3) := by decide +kernel
theorem dX10_chosen_412 : decode cX10_chosen 412 = .ok (.iconst 0, 1) := by decide +kernel
theorem dX10_chosen_413 : decode cX10_chosen 413 = .ok (.goto 10, 3) := by decide +kernel
theorem dX10_chosen_416 : decode cX10_chosen 416 = .ok (.aload_n 0, 1) := by decide +kernel
theorem dX10_chosen_417 : decode cX10_chosen 417 = .ok (.iload_n 3, 1) := by decide +kernel
theorem dX10_chosen_418 : decode cX10_chosen 418 = .ok (.iload 7, 2) := by decide +kernel
theorem dX10_chosen_420 : decode cX10_chosen 420 = .ok (.invokevirtual 139, 3) := by decide +kernel
theorem dX10_chosen_423 : decode cX10_chosen 423 = .ok (.istore 8, 2) := by decide +kernel
theorem dX10_chosen_425 : decode cX10_chosen 425 = .ok (.aload_n 0, 1) := by decide +kernel
theorem dX10_chosen_426 : decode cX10_chosen 426 = .ok (.getfield 59, 3) := by decide +kernel
theorem dX10_chosen_429 : decode cX10_chosen 429 = .ok (.bipush 60, 2) := by decide +kernel
theorem dX10_chosen_431 : decode cX10_chosen 431 = .ok (.iload 5, 2) := by decide +kernel
theorem dX10_chosen_433 : decode cX10_chosen 433 = .ok (.imul, 1) := by decide +kernel
theorem dX10_chosen_434 : decode cX10_chosen 434 = .ok (.iload 7, 2) := by decide +kernel
theorem dX10_chosen_436 : decode cX10_chosen 436 = .ok (.iadd, 1) := by decide +kernel
theorem dX10_chosen_437 : decode cX10_chosen 437 = .ok (.iaload, 1) := by decide +kernel
theorem dX10_chosen_438 : decode cX10_chosen 438 = .ok (.ifCond .lt 44, 3) := by decide +kernel
theorem dX10_chosen_441 : decode cX10_chosen 441 = .ok (.aload_n 0, 1) := by decide +kernel
theorem dX10_chosen_442 : decode cX10_chosen 442 = .ok (.getfield 59, 3) := by decide +kernel
theorem dX10_chosen_445 : decode cX10_chosen 445 = .ok (.bipush 60, 2) := by decide +kernel
theorem dX10_chosen_447 : decode cX10_chosen 447 = .ok (.iload 5, 2) := by decide +kernel
theorem dX10_chosen_449 : decode cX10_chosen 449 = .ok (.imul, 1) := by decide +kernel
theorem dX10_chosen_450 : decode cX10_chosen 450 = .ok (.iload 7, 2) := by decide +kernel
theorem dX10_chosen_452 : decode cX10_chosen 452 = .ok (.iadd, 1) := by decide +kernel
theorem dX10_chosen_453 : decode cX10_chosen 453 = .ok (.iaload, 1) := by decide +kernel
theorem dX10_chosen_454 : decode cX10_chosen 454 = .ok (.iload 8, 2) := by decide +kernel
theorem dX10_chosen_456 : decode cX10_chosen 456 = .ok (.iadd, 1) := by decide +kernel
theorem dX10_chosen_457 : decode cX10_chosen 457 = .ok (.iload 4, 2) := by decide +kernel
theorem dX10_chosen_459 : decode cX10_chosen 459 = .ok (.if_icmp .ne 23, 3) := by decide +kernel
theorem dX10_chosen_462 : decode cX10_chosen 462 = .ok (.iload 6, 2) := by decide +kernel
theorem dX10_chosen_464 : decode cX10_chosen 464 = .ok (.ifCond .lt 14, 3) := by decide +kernel
theorem dX10_chosen_467 : decode cX10_chosen 467 = .ok (.aload_n 0, 1) := by decide +kernel
theorem dX10_chosen_468 : decode cX10_chosen 468 = .ok (.iload 7, 2) := by decide +kernel
theorem dX10_chosen_470 : decode cX10_chosen 470 = .ok (.iload 6, 2) := by decide +kernel
theorem dX10_chosen_472 : decode cX10_chosen 472 = .ok (.invokevirtual 80, 3) := by decide +kernel
theorem dX10_chosen_475 : decode cX10_chosen 475 = .ok (.ifCond .eq 7, 3) := by decide +kernel
theorem dX10_chosen_478 : decode cX10_chosen 478 = .ok (.iload 7, 2) := by decide +kernel
theorem dX10_chosen_480 : decode cX10_chosen 480 = .ok (.istore 6, 2) := by decide +kernel
theorem dX10_chosen_482 : decode cX10_chosen 482 = .ok (.iinc 7 1, 3) := by decide +kernel
theorem dX10_chosen_485 : decode cX10_chosen 485 = .ok (.goto (-87), 3) := by decide +kernel
theorem dX10_chosen_488 : decode cX10_chosen 488 = .ok (.iload 4, 2) := by decide +kernel
theorem dX10_chosen_490 : decode cX10_chosen 490 = .ok (.iload 5, 2) := by decide +kernel
theorem dX10_chosen_492 : decode cX10_chosen 492 = .ok (.ifCond .ne 7, 3) := by decide +kernel
theorem dX10_chosen_495 : decode cX10_chosen 495 = .ok (.iconst 0, 1) := by decide +kernel
theorem dX10_chosen_496 : decode cX10_chosen 496 = .ok (.goto 10, 3) := by decide +kernel
theorem dX10_chosen_499 : decode cX10_chosen 499 = .ok (.aload_n 0, 1) := by decide +kernel
theorem dX10_chosen_500 : decode cX10_chosen 500 = .ok (.iload_n 3, 1) := by decide +kernel
theorem dX10_chosen_501 : decode cX10_chosen 501 = .ok (.iload 6, 2) := by decide +kernel
theorem dX10_chosen_503 : decode cX10_chosen 503 = .ok (.invokevirtual 139, 3) := by decide +kernel
theorem dX10_chosen_506 : decode cX10_chosen 506 = .ok (.aload_n 0, 1) := by decide +kernel
theorem dX10_chosen_507 : decode cX10_chosen 507 = .ok (.getfield 56, 3) := by decide +kernel
theorem dX10_chosen_510 : decode cX10_chosen 510 = .ok (.bipush 60, 2) := by decide +kernel
theorem dX10_chosen_512 : decode cX10_chosen 512 = .ok (.iload 5, 2) := by decide +kernel
theorem dX10_chosen_514 : decode cX10_chosen 514 = .ok (.imul, 1) := by decide +kernel
theorem dX10_chosen_515 : decode cX10_chosen 515 = .ok (.iload 6, 2) := by decide +kernel
theorem dX10_chosen_517 : decode cX10_chosen 517 = .ok (.iadd, 1) := by decide +kernel
theorem dX10_chosen_518 : decode cX10_chosen 518 = .ok (.iaload, 1) := by decide +kernel
theorem dX10_chosen_519 : decode cX10_chosen 519 = .ok (.iadd, 1) := by decide +kernel
theorem dX10_chosen_520 : decode cX10_chosen 520 = .ok (.isub, 1) := by decide +kernel
theorem dX10_chosen_521 : decode cX10_chosen 521 = .ok (.istore 4, 2) := by decide +kernel
theorem dX10_chosen_523 : decode cX10_chosen 523 = .ok (.iload 6, 2) := by decide +kernel
theorem dX10_chosen_525 : decode cX10_chosen 525 = .ok (.istore_n 3, 1) := by decide +kernel
theorem dX10_chosen_526 : decode cX10_chosen 526 = .ok (.iinc 5 1, 3) := by decide +kernel
theorem dX10_chosen_529 : decode cX10_chosen 529 = .ok (.goto (-143), 3) := by decide +kernel
theorem dX10_chosen_532 : decode cX10_chosen 532 = .ok (.iload_n 3, 1) := by decide +kernel
theorem dX10_chosen_533 : decode cX10_chosen 533 = .ok (.ireturn, 1) := by decide +kernel
theorem dX10_share_0 : decode cX10_share 0 = .ok (.aload_n 0, 1) := by decide +kernel
theorem dX10_share_1 : decode cX10_share 1 = .ok (.iconst 0, 1) := by decide +kernel
theorem dX10_share_2 : decode cX10_share 2 = .ok (.putfield 62, 3) := by decide +kernel
theorem dX10_share_5 : decode cX10_share 5 = .ok (.aload_n 0, 1) := by decide +kernel
theorem dX10_share_6 : decode cX10_share 6 = .ok (.iload_n 1, 1) := by decide +kernel
theorem dX10_share_7 : decode cX10_share 7 = .ok (.invokevirtual 76, 3) := by decide +kernel
theorem dX10_share_10 : decode cX10_share 10 = .ok (.ifCond .ne 5, 3) := by decide +kernel
theorem dX10_share_13 : decode cX10_share 13 = .ok (.iconst (-1), 1) := by decide +kernel
theorem dX10_share_14 : decode cX10_share 14 = .ok (.ireturn, 1) := by decide +kernel
theorem dX10_share_15 : decode cX10_share 15 = .ok (.aload_n 0, 1) := by decide +kernel
theorem dX10_share_16 : decode cX10_share 16 = .ok (.getfield 73, 3) := by decide +kernel
theorem dX10_share_19 : decode cX10_share 19 = .ok (.ifCond .ne 10, 3) := by decide +kernel
theorem dX10_share_22 : decode cX10_share 22 = .ok (.aload_n 0, 1) := by decide +kernel
theorem dX10_share_23 : decode cX10_share 23 = .ok (.iconst 1, 1) := by decide +kernel
theorem dX10_share_24 : decode cX10_share 24 = .ok (.putfield 62, 3) := by decide +kernel
theorem dX10_share_27 : decode cX10_share 27 = .ok (.iconst 0, 1) := by decide +kernel
theorem dX10_share_28 : decode cX10_share 28 = .ok (.ireturn, 1) := by decide +kernel
theorem dX10_share_29 : decode cX10_share 29 = .ok (.aload_n 0, 1) := by decide +kernel
theorem dX10_share_30 : decode cX10_share 30 = .ok (.iconst 0, 1) := by decide +kernel
theorem dX10_share_31 : decode cX10_share 31 = .ok (.aload_n 0, 1) := by decide +kernel
theorem dX10_share_32 : decode cX10_share 32 = .ok (.getfield 73, 3) := by decide +kernel
theorem dX10_share_35 : decode cX10_share 35 = .ok (.invokevirtual 102, 3) := by decide +kernel
theorem dX10_share_38 : decode cX10_share 38 = .ok (.sipush 1000, 3) := by decide +kernel
theorem dX10_share_41 : decode cX10_share 41 = .ok (.aload_n 0, 1) := by decide +kernel
theorem dX10_share_42 : decode cX10_share 42 = .ok (.iload_n 1, 1) := by decide +kernel
theorem dX10_share_43 : decode cX10_share 43 = .ok (.invokevirtual 99, 3) := by decide +kernel
theorem dX10_share_46 : decode cX10_share 46 = .ok (.imul, 1) := by decide +kernel
theorem dX10_share_47 : decode cX10_share 47 = .ok (.aload_n 0, 1) := by decide +kernel
theorem dX10_share_48 : decode cX10_share 48 = .ok (.getfield 73, 3) := by decide +kernel
theorem dX10_share_51 : decode cX10_share 51 = .ok (.idiv, 1) := by decide +kernel
theorem dX10_share_52 : decode cX10_share 52 = .ok (.ireturn, 1) := by decide +kernel
end
section
theorem dJ9_min_7cf53_0 : decode cJ9_min_7cf53 0 = .ok (.iload_n 0, 1) := by decide +kernel
theorem dJ9_min_7cf53_1 : decode cJ9_min_7cf53 1 = .ok (.iload_n 1, 1) := by decide +kernel
theorem dJ9_min_7cf53_2 : decode cJ9_min_7cf53 2 = .ok (.if_icmp .gt 7, 3) := by decide +kernel
theorem dJ9_min_7cf53_5 : decode cJ9_min_7cf53 5 = .ok (.iload_n 0, 1) := by decide +kernel
theorem dJ9_min_7cf53_6 : decode cJ9_min_7cf53 6 = .ok (.goto 4, 3) := by decide +kernel
theorem dJ9_min_7cf53_9 : decode cJ9_min_7cf53 9 = .ok (.iload_n 1, 1) := by decide +kernel
theorem dJ9_min_7cf53_10 : decode cJ9_min_7cf53 10 = .ok (.ireturn, 1) := by decide +kernel
theorem dJ7_fill_53178_0 : decode cJ7_fill_53178 0 = .ok (.iconst 0, 1) := by decide +kernel
theorem dJ7_fill_53178_1 : decode cJ7_fill_53178 1 = .ok (.istore_n 2, 1) := by decide +kernel
theorem dJ7_fill_53178_2 : decode cJ7_fill_53178 2 = .ok (.aload_n 0, 1) := by decide +kernel
theorem dJ7_fill_53178_3 : decode cJ7_fill_53178 3 = .ok (.arraylength, 1) := by decide +kernel
theorem dJ7_fill_53178_4 : decode cJ7_fill_53178 4 = .ok (.istore_n 3, 1) := by decide +kernel
theorem dJ7_fill_53178_5 : decode cJ7_fill_53178 5 = .ok (.iload_n 2, 1) := by decide +kernel
theorem dJ7_fill_53178_6 : decode cJ7_fill_53178 6 = .ok (.iload_n 3, 1) := by decide +kernel
theorem dJ7_fill_53178_7 : decode cJ7_fill_53178 7 = .ok (.if_icmp .ge 13, 3) := by decide +kernel
theorem dJ7_fill_53178_10 : decode cJ7_fill_53178 10 = .ok (.aload_n 0, 1) := by decide +kernel
theorem dJ7_fill_53178_11 : decode cJ7_fill_53178 11 = .ok (.iload_n 2, 1) := by decide +kernel
theorem dJ7_fill_53178_12 : decode cJ7_fill_53178 12 = .ok (.iload_n 1, 1) := by decide +kernel
theorem dJ7_fill_53178_13 : decode cJ7_fill_53178 13 = .ok (.iastore, 1) := by decide +kernel
theorem dJ7_fill_53178_14 : decode cJ7_fill_53178 14 = .ok (.iinc 2 1, 3) := by decide +kernel
theorem dJ7_fill_53178_17 : decode cJ7_fill_53178 17 = .ok (.goto (-12), 3) := by decide +kernel
theorem dJ7_fill_53178_20 : decode cJ7_fill_53178 20 = .ok (.return_, 1) := by decide +kernel
theorem dL_share_0 : decode cL_share 0 = .ok (.aload_n 2, 1) := by decide +kernel
theorem dL_share_1 : decode cL_share 1 = .ok (.iconst 0, 1) := by decide +kernel
theorem dL_share_2 : decode cL_share 2 = .ok (.aload_n 0, 1) := by decide +kernel
theorem dL_share_3 : decode cL_share 3 = .ok (.iload_n 1, 1) := by decide +kernel
theorem dL_share_4 : decode cL_share 4 = .ok (.invokevirtual 7, 3) := by decide +kernel
theorem dL_share_7 : decode cL_share 7 = .ok (.i2l, 1) := by decide +kernel
theorem dL_share_8 : decode cL_share 8 = .ok (.lastore, 1) := by decide +kernel
theorem dL_share_9 : decode cL_share 9 = .ok (.goto 6, 3) := by decide +kernel
theorem dL_share_12 : decode cL_share 12 = .ok (.astore_n 3, 1) := by decide +kernel
theorem dL_share_13 : decode cL_share 13 = .ok (.iconst 1, 1) := by decide +kernel
theorem dL_share_14 : decode cL_share 14 = .ok (.ireturn, 1) := by decide +kernel
theorem dL_share_15 : decode cL_share 15 = .ok (.iconst 0, 1) := by decide +kernel
theorem dL_share_16 : decode cL_share 16 = .ok (.ireturn, 1) := by decide +kernel
theorem dL_law_0 : decode cL_law 0 = .ok (.new 8, 3) := by decide +kernel
theorem dL_law_3 : decode cL_law 3 = .ok (.dup, 1) := by decide +kernel
theorem dL_law_4 : decode cL_law 4 = .ok (.invokespecial 15, 3) := by decide +kernel
theorem dL_law_7 : decode cL_law 7 = .ok (.astore_n 1, 1) := by decide +kernel
theorem dL_law_8 : decode cL_law 8 = .ok (.new 16, 3) := by decide +kernel
theorem dL_law_11 : decode cL_law 11 = .ok (.dup, 1) := by decide +kernel
theorem dL_law_12 : decode cL_law 12 = .ok (.invokespecial 18, 3) := by decide +kernel
theorem dL_law_15 : decode cL_law 15 = .ok (.astore_n 2, 1) := by decide +kernel
theorem dL_law_16 : decode cL_law 16 = .ok (.iconst 1, 1) := by decide +kernel
theorem dL_law_17 : decode cL_law 17 = .ok (.newarray .long, 2) := by decide +kernel
theorem dL_law_19 : decode cL_law 19 = .ok (.astore_n 3, 1) := by decide +kernel
theorem dL_law_20 : decode cL_law 20 = .ok (.iconst 0, 1) := by decide +kernel
theorem dL_law_21 : decode cL_law 21 = .ok (.istore 4, 2) := by decide +kernel
theorem dL_law_23 : decode cL_law 23 = .ok (.iload 4, 2) := by decide +kernel
theorem dL_law_25 : decode cL_law 25 = .ok (.aload_n 0, 1) := by decide +kernel
theorem dL_law_26 : decode cL_law 26 = .ok (.arraylength, 1) := by decide +kernel
theorem dL_law_27 : decode cL_law 27 = .ok (.iconst 4, 1) := by decide +kernel
theorem dL_law_28 : decode cL_law 28 = .ok (.isub, 1) := by decide +kernel
theorem dL_law_29 : decode cL_law 29 = .ok (.if_icmp .gt 793, 3) := by decide +kernel
theorem dL_law_32 : decode cL_law 32 = .ok (.aload_n 0, 1) := by decide +kernel
theorem dL_law_33 : decode cL_law 33 = .ok (.iload 4, 2) := by decide +kernel
theorem dL_law_35 : decode cL_law 35 = .ok (.iaload, 1) := by decide +kernel
theorem dL_law_36 : decode cL_law 36 = .ok (.bipush 31, 2) := by decide +kernel
theorem dL_law_38 : decode cL_law 38 = .ok (.iand, 1) := by decide +kernel
theorem dL_law_39 : decode cL_law 39 = .ok (.tableswitch 777 0 20 #[97, 122, 135, 160, 197, 234, 271, 320, 345, 370, 407, 444, 469, 506, 531, 568, 593, 606, 619, 684, 721], 97) := by decide +kernel
theorem dL_law_136 : decode cL_law 136 = .ok (.aload_n 1, 1) := by decide +kernel
theorem dL_law_137 : decode cL_law 137 = .ok (.aload_n 0, 1) := by decide +kernel
theorem dL_law_138 : decode cL_law 138 = .ok (.iload 4, 2) := by decide +kernel
theorem dL_law_140 : decode cL_law 140 = .ok (.iconst 1, 1) := by decide +kernel
theorem dL_law_141 : decode cL_law 141 = .ok (.iadd, 1) := by decide +kernel
theorem dL_law_142 : decode cL_law 142 = .ok (.iaload, 1) := by decide +kernel
theorem dL_law_143 : decode cL_law 143 = .ok (.invokevirtual 19, 3) := by decide +kernel
theorem dL_law_146 : decode cL_law 146 = .ok (.aload_n 2, 1) := by decide +kernel
theorem dL_law_147 : decode cL_law 147 = .ok (.aload_n 0, 1) := by decide +kernel
theorem dL_law_148 : decode cL_law 148 = .ok (.iload 4, 2) := by decide +kernel
theorem dL_law_150 : decode cL_law 150 = .ok (.iconst 1, 1) := by decide +kernel
theorem dL_law_151 : decode cL_law 151 = .ok (.iadd, 1) := by decide +kernel
theorem dL_law_152 : decode cL_law 152 = .ok (.iaload, 1) := by decide +kernel
theorem dL_law_153 : decode cL_law 153 = .ok (.invokevirtual 22, 3) := by decide +kernel
theorem dL_law_156 : decode cL_law 156 = .ok (.if_icmp .eq 660, 3) := by decide +kernel
theorem dL_law_159 : decode cL_law 159 = .ok (.iconst 0, 1) := by decide +kernel
theorem dL_law_160 : decode cL_law 160 = .ok (.ireturn, 1) := by decide +kernel
theorem dL_law_161 : decode cL_law 161 = .ok (.aload_n 1, 1) := by decide +kernel
theorem dL_law_162 : decode cL_law 162 = .ok (.invokevirtual 23, 3) := by decide +kernel
theorem dL_law_165 : decode cL_law 165 = .ok (.aload_n 2, 1) := by decide +kernel
theorem dL_law_166 : decode cL_law 166 = .ok (.invokevirtual 27, 3) := by decide +kernel
theorem dL_law_169 : decode cL_law 169 = .ok (.if_icmp .eq 647, 3) := by decide +kernel
theorem dL_law_172 : decode cL_law 172 = .ok (.iconst 0, 1) := by decide +kernel
theorem dL_law_173 : decode cL_law 173 = .ok (.ireturn, 1) := by decide +kernel
theorem dL_law_174 : decode cL_law 174 = .ok (.aload_n 1, 1) := by decide +kernel
theorem dL_law_175 : decode cL_law 175 = .ok (.aload_n 0, 1) := by decide +kernel
theorem dL_law_176 : decode cL_law 176 = .ok (.iload 4, 2) := by decide +kernel
theorem dL_law_178 : decode cL_law 178 = .ok (.iconst 1, 1) := by decide +kernel
theorem dL_law_179 : decode cL_law 179 = .ok (.iadd, 1) := by decide +kernel
theorem dL_law_180 : decode cL_law 180 = .ok (.iaload, 1) := by decide +kernel
theorem dL_law_181 : decode cL_law 181 = .ok (.invokevirtual 28, 3) := by decide +kernel
theorem dL_law_184 : decode cL_law 184 = .ok (.aload_n 2, 1) := by decide +kernel
theorem dL_law_185 : decode cL_law 185 = .ok (.aload_n 0, 1) := by decide +kernel
theorem dL_law_186 : decode cL_law 186 = .ok (.iload 4, 2) := by decide +kernel
theorem dL_law_188 : decode cL_law 188 = .ok (.iconst 1, 1) := by decide +kernel
theorem dL_law_189 : decode cL_law 189 = .ok (.iadd, 1) := by decide +kernel
theorem dL_law_190 : decode cL_law 190 = .ok (.iaload, 1) := by decide +kernel
theorem dL_law_191 : decode cL_law 191 = .ok (.invokevirtual 31, 3) := by decide +kernel
theorem dL_law_194 : decode cL_law 194 = .ok (.if_icmp .eq 622, 3) := by decide +kernel
theorem dL_law_197 : decode cL_law 197 = .ok (.iconst 0, 1) := by decide +kernel
theorem dL_law_198 : decode cL_law 198 = .ok (.ireturn, 1) := by decide +kernel
theorem dL_law_199 : decode cL_law 199 = .ok (.aload_n 1, 1) := by decide +kernel
theorem dL_law_200 : decode cL_law 200 = .ok (.aload_n 0, 1) := by decide +kernel
theorem dL_law_201 : decode cL_law 201 = .ok (.iload 4, 2) := by decide +kernel
theorem dL_law_203 : decode cL_law 203 = .ok (.iconst 1, 1) := by decide +kernel
theorem dL_law_204 : decode cL_law 204 = .ok (.iadd, 1) := by decide +kernel
theorem dL_law_205 : decode cL_law 205 = .ok (.iaload, 1) := by decide +kernel
theorem dL_law_206 : decode cL_law 206 = .ok (.aload_n 0, 1) := by decide +kernel
theorem dL_law_207 : decode cL_law 207 = .ok (.iload 4, 2) := by decide +kernel
theorem dL_law_209 : decode cL_law 209 = .ok (.iconst 2, 1) := by decide +kernel
theorem dL_law_210 : decode cL_law 210 = .ok (.iadd, 1) := by decide +kernel
theorem dL_law_211 : decode cL_law 211 = .ok (.iaload, 1) := by decide +kernel
theorem dL_law_212 : decode cL_law 212 = .ok (.invokevirtual 32, 3) := by decide +kernel
theorem dL_law_215 : decode cL_law 215 = .ok (.aload_n 2, 1) := by decide +kernel
theorem dL_law_216 : decode cL_law 216 = .ok (.aload_n 0, 1) := by decide +kernel
theorem dL_law_217 : decode cL_law 217 = .ok (.iload 4, 2) := by decide +kernel
theorem dL_law_219 : decode cL_law 219 = .ok (.iconst 1, 1) := by decide +kernel
theorem dL_law_220 : decode cL_law 220 = .ok (.iadd, 1) := by decide +kernel
theorem dL_law_221 : decode cL_law 221 = .ok (.iaload, 1) := by decide +kernel
theorem dL_law_222 : decode cL_law 222 = .ok (.aload_n 0, 1) := by decide +kernel
theorem dL_law_223 : decode cL_law 223 = .ok (.iload 4, 2) := by decide +kernel
theorem dL_law_225 : decode cL_law 225 = .ok (.iconst 2, 1) := by decide +kernel
theorem dL_law_226 : decode cL_law 226 = .ok (.iadd, 1) := by decide +kernel
theorem dL_law_227 : decode cL_law 227 = .ok (.iaload, 1) := by decide +kernel
theorem dL_law_228 : decode cL_law 228 = .ok (.invokevirtual 36, 3) := by decide +kernel
theorem dL_law_231 : decode cL_law 231 = .ok (.if_icmp .eq 585, 3) := by decide +kernel
theorem dL_law_234 : decode cL_law 234 = .ok (.iconst 0, 1) := by decide +kernel
theorem dL_law_235 : decode cL_law 235 = .ok (.ireturn, 1) := by decide +kernel
theorem dL_law_236 : decode cL_law 236 = .ok (.aload_n 1, 1) := by decide +kernel
theorem dL_law_237 : decode cL_law 237 = .ok (.aload_n 0, 1) := by decide +kernel
theorem dL_law_238 : decode cL_law 238 = .ok (.iload 4, 2) := by decide +kernel
theorem dL_law_240 : decode cL_law 240 = .ok (.iconst 1, 1) := by decide +kernel
theorem dL_law_241 : decode cL_law 241 = .ok (.iadd, 1) := by decide +kernel
theorem dL_law_242 : decode cL_law 242 = .ok (.iaload, 1) := by decide +kernel
theorem dL_law_243 : decode cL_law 243 = .ok (.aload_n 0, 1) := by decide +kernel
theorem dL_law_244 : decode cL_law 244 = .ok (.iload 4, 2) := by decide +kernel
theorem dL_law_246 : decode cL_law 246 = .ok (.iconst 2, 1) := by decide +kernel
theorem dL_law_247 : decode cL_law 247 = .ok (.iadd, 1) := by decide +kernel
theorem dL_law_248 : decode cL_law 248 = .ok (.iaload, 1) := by decide +kernel
theorem dL_law_249 : decode cL_law 249 = .ok (.invokevirtual 37, 3) := by decide +kernel
theorem dL_law_252 : decode cL_law 252 = .ok (.aload_n 2, 1) := by decide +kernel
theorem dL_law_253 : decode cL_law 253 = .ok (.aload_n 0, 1) := by decide +kernel
theorem dL_law_254 : decode cL_law 254 = .ok (.iload 4, 2) := by decide +kernel
theorem dL_law_256 : decode cL_law 256 = .ok (.iconst 1, 1) := by decide +kernel
theorem dL_law_257 : decode cL_law 257 = .ok (.iadd, 1) := by decide +kernel
theorem dL_law_258 : decode cL_law 258 = .ok (.iaload, 1) := by decide +kernel
theorem dL_law_259 : decode cL_law 259 = .ok (.aload_n 0, 1) := by decide +kernel
theorem dL_law_260 : decode cL_law 260 = .ok (.iload 4, 2) := by decide +kernel
theorem dL_law_262 : decode cL_law 262 = .ok (.iconst 2, 1) := by decide +kernel
theorem dL_law_263 : decode cL_law 263 = .ok (.iadd, 1) := by decide +kernel
theorem dL_law_264 : decode cL_law 264 = .ok (.iaload, 1) := by decide +kernel
theorem dL_law_265 : decode cL_law 265 = .ok (.invokevirtual 40, 3) := by decide +kernel
theorem dL_law_268 : decode cL_law 268 = .ok (.if_icmp .eq 548, 3) := by decide +kernel
theorem dL_law_271 : decode cL_law 271 = .ok (.iconst 0, 1) := by decide +kernel
theorem dL_law_272 : decode cL_law 272 = .ok (.ireturn, 1) := by decide +kernel
theorem dL_law_273 : decode cL_law 273 = .ok (.aload_n 1, 1) := by decide +kernel
theorem dL_law_274 : decode cL_law 274 = .ok (.aload_n 0, 1) := by decide +kernel
theorem dL_law_275 : decode cL_law 275 = .ok (.iload 4, 2) := by decide +kernel
theorem dL_law_277 : decode cL_law 277 = .ok (.iconst 1, 1) := by decide +kernel
theorem dL_law_278 : decode cL_law 278 = .ok (.iadd, 1) := by decide +kernel
theorem dL_law_279 : decode cL_law 279 = .ok (.iaload, 1) := by decide +kernel
theorem dL_law_280 : decode cL_law 280 = .ok (.aload_n 0, 1) := by decide +kernel
theorem dL_law_281 : decode cL_law 281 = .ok (.iload 4, 2) := by decide +kernel
theorem dL_law_283 : decode cL_law 283 = .ok (.iconst 2, 1) := by decide +kernel
theorem dL_law_284 : decode cL_law 284 = .ok (.iadd, 1) := by decide +kernel
theorem dL_law_285 : decode cL_law 285 = .ok (.iaload, 1) := by decide +kernel
theorem dL_law_286 : decode cL_law 286 = .ok (.invokevirtual 41, 3) := by decide +kernel
theorem dL_law_289 : decode cL_law 289 = .ok (.aload_n 2, 1) := by decide +kernel
theorem dL_law_290 : decode cL_law 290 = .ok (.aload_n 0, 1) := by decide +kernel
theorem dL_law_291 : decode cL_law 291 = .ok (.iload 4, 2) := by decide +kernel
theorem dL_law_293 : decode cL_law 293 = .ok (.iconst 1, 1) := by decide +kernel
theorem dL_law_294 : decode cL_law 294 = .ok (.iadd, 1) := by decide +kernel
theorem dL_law_295 : decode cL_law 295 = .ok (.iaload, 1) := by decide +kernel
theorem dL_law_296 : decode cL_law 296 = .ok (.aload_n 0, 1) := by decide +kernel
theorem dL_law_297 : decode cL_law 297 = .ok (.iload 4, 2) := by decide +kernel
theorem dL_law_299 : decode cL_law 299 = .ok (.iconst 2, 1) := by decide +kernel
theorem dL_law_300 : decode cL_law 300 = .ok (.iadd, 1) := by decide +kernel
theorem dL_law_301 : decode cL_law 301 = .ok (.iaload, 1) := by decide +kernel
theorem dL_law_302 : decode cL_law 302 = .ok (.invokevirtual 44, 3) := by decide +kernel
theorem dL_law_305 : decode cL_law 305 = .ok (.if_icmp .eq 511, 3) := by decide +kernel
theorem dL_law_308 : decode cL_law 308 = .ok (.iconst 0, 1) := by decide +kernel
theorem dL_law_309 : decode cL_law 309 = .ok (.ireturn, 1) := by decide +kernel
theorem dL_law_310 : decode cL_law 310 = .ok (.aload_n 1, 1) := by decide +kernel
theorem dL_law_311 : decode cL_law 311 = .ok (.aload_n 0, 1) := by decide +kernel
theorem dL_law_312 : decode cL_law 312 = .ok (.iload 4, 2) := by decide +kernel
theorem dL_law_314 : decode cL_law 314 = .ok (.iconst 1, 1) := by decide +kernel
theorem dL_law_315 : decode cL_law 315 = .ok (.iadd, 1) := by decide +kernel
theorem dL_law_316 : decode cL_law 316 = .ok (.iaload, 1) := by decide +kernel
theorem dL_law_317 : decode cL_law 317 = .ok (.aload_n 0, 1) := by decide +kernel
theorem dL_law_318 : decode cL_law 318 = .ok (.iload 4, 2) := by decide +kernel
theorem dL_law_320 : decode cL_law 320 = .ok (.iconst 2, 1) := by decide +kernel
theorem dL_law_321 : decode cL_law 321 = .ok (.iadd, 1) := by decide +kernel
theorem dL_law_322 : decode cL_law 322 = .ok (.iaload, 1) := by decide +kernel
theorem dL_law_323 : decode cL_law 323 = .ok (.aload_n 0, 1) := by decide +kernel
theorem dL_law_324 : decode cL_law 324 = .ok (.iload 4, 2) := by decide +kernel
theorem dL_law_326 : decode cL_law 326 = .ok (.iconst 3, 1) := by decide +kernel
theorem dL_law_327 : decode cL_law 327 = .ok (.iadd, 1) := by decide +kernel
theorem dL_law_328 : decode cL_law 328 = .ok (.iaload, 1) := by decide +kernel
theorem dL_law_329 : decode cL_law 329 = .ok (.invokevirtual 45, 3) := by decide +kernel
theorem dL_law_332 : decode cL_law 332 = .ok (.aload_n 2, 1) := by decide +kernel
theorem dL_law_333 : decode cL_law 333 = .ok (.aload_n 0, 1) := by decide +kernel
theorem dL_law_334 : decode cL_law 334 = .ok (.iload 4, 2) := by decide +kernel
theorem dL_law_336 : decode cL_law 336 = .ok (.iconst 1, 1) := by decide +kernel
theorem dL_law_337 : decode cL_law 337 = .ok (.iadd, 1) := by decide +kernel
theorem dL_law_338 : decode cL_law 338 = .ok (.iaload, 1) := by decide +kernel
theorem dL_law_339 : decode cL_law 339 = .ok (.aload_n 0, 1) := by decide +kernel
theorem dL_law_340 : decode cL_law 340 = .ok (.iload 4, 2) := by decide +kernel
theorem dL_law_342 : decode cL_law 342 = .ok (.iconst 2, 1) := by decide +kernel
theorem dL_law_343 : decode cL_law 343 = .ok (.iadd, 1) := by decide +kernel
theorem dL_law_344 : decode cL_law 344 = .ok (.iaload, 1) := by decide +kernel
theorem dL_law_345 : decode cL_law 345 = .ok (.aload_n 0, 1) := by decide +kernel
theorem dL_law_346 : decode cL_law 346 = .ok (.iload 4, 2) := by decide +kernel
theorem dL_law_348 : decode cL_law 348 = .ok (.iconst 3, 1) := by decide +kernel
theorem dL_law_349 : decode cL_law 349 = .ok (.iadd, 1) := by decide +kernel
theorem dL_law_350 : decode cL_law 350 = .ok (.iaload, 1) := by decide +kernel
theorem dL_law_351 : decode cL_law 351 = .ok (.invokevirtual 49, 3) := by decide +kernel
theorem dL_law_354 : decode cL_law 354 = .ok (.if_icmp .eq 462, 3) := by decide +kernel
theorem dL_law_357 : decode cL_law 357 = .ok (.iconst 0, 1) := by decide +kernel
theorem dL_law_358 : decode cL_law 358 = .ok (.ireturn, 1) := by decide +kernel
theorem dL_law_359 : decode cL_law 359 = .ok (.aload_n 1, 1) := by decide +kernel
theorem dL_law_360 : decode cL_law 360 = .ok (.aload_n 0, 1) := by decide +kernel
theorem dL_law_361 : decode cL_law 361 = .ok (.iload 4, 2) := by decide +kernel
theorem dL_law_363 : decode cL_law 363 = .ok (.iconst 1, 1) := by decide +kernel
theorem dL_law_364 : decode cL_law 364 = .ok (.iadd, 1) := by decide +kernel
theorem dL_law_365 : decode cL_law 365 = .ok (.iaload, 1) := by decide +kernel
theorem dL_law_366 : decode cL_law 366 = .ok (.invokevirtual 50, 3) := by decide +kernel
theorem dL_law_369 : decode cL_law 369 = .ok (.aload_n 2, 1) := by decide +kernel
theorem dL_law_370 : decode cL_law 370 = .ok (.aload_n 0, 1) := by decide +kernel
theorem dL_law_371 : decode cL_law 371 = .ok (.iload 4, 2) := by decide +kernel
theorem dL_law_373 : decode cL_law 373 = .ok (.iconst 1, 1) := by decide +kernel
theorem dL_law_374 : decode cL_law 374 = .ok (.iadd, 1) := by decide +kernel
theorem dL_law_375 : decode cL_law 375 = .ok (.iaload, 1) := by decide +kernel
theorem dL_law_376 : decode cL_law 376 = .ok (.invokevirtual 53, 3) := by decide +kernel
theorem dL_law_379 : decode cL_law 379 = .ok (.if_icmp .eq 437, 3) := by decide +kernel
theorem dL_law_382 : decode cL_law 382 = .ok (.iconst 0, 1) := by decide +kernel
theorem dL_law_383 : decode cL_law 383 = .ok (.ireturn, 1) := by decide +kernel
theorem dL_law_384 : decode cL_law 384 = .ok (.aload_n 1, 1) := by decide +kernel
theorem dL_law_385 : decode cL_law 385 = .ok (.aload_n 0, 1) := by decide +kernel
theorem dL_law_386 : decode cL_law 386 = .ok (.iload 4, 2) := by decide +kernel
theorem dL_law_388 : decode cL_law 388 = .ok (.iconst 1, 1) := by decide +kernel
theorem dL_law_389 : decode cL_law 389 = .ok (.iadd, 1) := by decide +kernel
theorem dL_law_390 : decode cL_law 390 = .ok (.iaload, 1) := by decide +kernel
theorem dL_law_391 : decode cL_law 391 = .ok (.invokevirtual 54, 3) := by decide +kernel
theorem dL_law_394 : decode cL_law 394 = .ok (.aload_n 2, 1) := by decide +kernel
theorem dL_law_395 : decode cL_law 395 = .ok (.aload_n 0, 1) := by decide +kernel
theorem dL_law_396 : decode cL_law 396 = .ok (.iload 4, 2) := by decide +kernel
theorem dL_law_398 : decode cL_law 398 = .ok (.iconst 1, 1) := by decide +kernel
theorem dL_law_399 : decode cL_law 399 = .ok (.iadd, 1) := by decide +kernel
theorem dL_law_400 : decode cL_law 400 = .ok (.iaload, 1) := by decide +kernel
theorem dL_law_401 : decode cL_law 401 = .ok (.invokevirtual 57, 3) := by decide +kernel
theorem dL_law_404 : decode cL_law 404 = .ok (.if_icmp .eq 412, 3) := by decide +kernel
theorem dL_law_407 : decode cL_law 407 = .ok (.iconst 0, 1) := by decide +kernel
theorem dL_law_408 : decode cL_law 408 = .ok (.ireturn, 1) := by decide +kernel
theorem dL_law_409 : decode cL_law 409 = .ok (.aload_n 1, 1) := by decide +kernel
theorem dL_law_410 : decode cL_law 410 = .ok (.aload_n 0, 1) := by decide +kernel
theorem dL_law_411 : decode cL_law 411 = .ok (.iload 4, 2) := by decide +kernel
theorem dL_law_413 : decode cL_law 413 = .ok (.iconst 1, 1) := by decide +kernel
theorem dL_law_414 : decode cL_law 414 = .ok (.iadd, 1) := by decide +kernel
theorem dL_law_415 : decode cL_law 415 = .ok (.iaload, 1) := by decide +kernel
theorem dL_law_416 : decode cL_law 416 = .ok (.aload_n 0, 1) := by decide +kernel
theorem dL_law_417 : decode cL_law 417 = .ok (.iload 4, 2) := by decide +kernel
theorem dL_law_419 : decode cL_law 419 = .ok (.iconst 2, 1) := by decide +kernel
theorem dL_law_420 : decode cL_law 420 = .ok (.iadd, 1) := by decide +kernel
theorem dL_law_421 : decode cL_law 421 = .ok (.iaload, 1) := by decide +kernel
theorem dL_law_422 : decode cL_law 422 = .ok (.invokevirtual 58, 3) := by decide +kernel
theorem dL_law_425 : decode cL_law 425 = .ok (.aload_n 2, 1) := by decide +kernel
theorem dL_law_426 : decode cL_law 426 = .ok (.aload_n 0, 1) := by decide +kernel
theorem dL_law_427 : decode cL_law 427 = .ok (.iload 4, 2) := by decide +kernel
theorem dL_law_429 : decode cL_law 429 = .ok (.iconst 1, 1) := by decide +kernel
theorem dL_law_430 : decode cL_law 430 = .ok (.iadd, 1) := by decide +kernel
theorem dL_law_431 : decode cL_law 431 = .ok (.iaload, 1) := by decide +kernel
theorem dL_law_432 : decode cL_law 432 = .ok (.aload_n 0, 1) := by decide +kernel
theorem dL_law_433 : decode cL_law 433 = .ok (.iload 4, 2) := by decide +kernel
theorem dL_law_435 : decode cL_law 435 = .ok (.iconst 2, 1) := by decide +kernel
theorem dL_law_436 : decode cL_law 436 = .ok (.iadd, 1) := by decide +kernel
theorem dL_law_437 : decode cL_law 437 = .ok (.iaload, 1) := by decide +kernel
theorem dL_law_438 : decode cL_law 438 = .ok (.invokevirtual 61, 3) := by decide +kernel
theorem dL_law_441 : decode cL_law 441 = .ok (.if_icmp .eq 375, 3) := by decide +kernel
theorem dL_law_444 : decode cL_law 444 = .ok (.iconst 0, 1) := by decide +kernel
theorem dL_law_445 : decode cL_law 445 = .ok (.ireturn, 1) := by decide +kernel
theorem dL_law_446 : decode cL_law 446 = .ok (.aload_n 1, 1) := by decide +kernel
theorem dL_law_447 : decode cL_law 447 = .ok (.aload_n 0, 1) := by decide +kernel
theorem dL_law_448 : decode cL_law 448 = .ok (.iload 4, 2) := by decide +kernel
theorem dL_law_450 : decode cL_law 450 = .ok (.iconst 1, 1) := by decide +kernel
theorem dL_law_451 : decode cL_law 451 = .ok (.iadd, 1) := by decide +kernel
theorem dL_law_452 : decode cL_law 452 = .ok (.iaload, 1) := by decide +kernel
theorem dL_law_453 : decode cL_law 453 = .ok (.aload_n 0, 1) := by decide +kernel
theorem dL_law_454 : decode cL_law 454 = .ok (.iload 4, 2) := by decide +kernel
theorem dL_law_456 : decode cL_law 456 = .ok (.iconst 2, 1) := by decide +kernel
theorem dL_law_457 : decode cL_law 457 = .ok (.iadd, 1) := by decide +kernel
theorem dL_law_458 : decode cL_law 458 = .ok (.iaload, 1) := by decide +kernel
theorem dL_law_459 : decode cL_law 459 = .ok (.invokevirtual 62, 3) := by decide +kernel
theorem dL_law_462 : decode cL_law 462 = .ok (.aload_n 2, 1) := by decide +kernel
theorem dL_law_463 : decode cL_law 463 = .ok (.aload_n 0, 1) := by decide +kernel
theorem dL_law_464 : decode cL_law 464 = .ok (.iload 4, 2) := by decide +kernel
theorem dL_law_466 : decode cL_law 466 = .ok (.iconst 1, 1) := by decide +kernel
theorem dL_law_467 : decode cL_law 467 = .ok (.iadd, 1) := by decide +kernel
theorem dL_law_468 : decode cL_law 468 = .ok (.iaload, 1) := by decide +kernel
theorem dL_law_469 : decode cL_law 469 = .ok (.aload_n 0, 1) := by decide +kernel
theorem dL_law_470 : decode cL_law 470 = .ok (.iload 4, 2) := by decide +kernel
theorem dL_law_472 : decode cL_law 472 = .ok (.iconst 2, 1) := by decide +kernel
theorem dL_law_473 : decode cL_law 473 = .ok (.iadd, 1) := by decide +kernel
theorem dL_law_474 : decode cL_law 474 = .ok (.iaload, 1) := by decide +kernel
theorem dL_law_475 : decode cL_law 475 = .ok (.invokevirtual 65, 3) := by decide +kernel
theorem dL_law_478 : decode cL_law 478 = .ok (.if_icmp .eq 338, 3) := by decide +kernel
theorem dL_law_481 : decode cL_law 481 = .ok (.iconst 0, 1) := by decide +kernel
theorem dL_law_482 : decode cL_law 482 = .ok (.ireturn, 1) := by decide +kernel
theorem dL_law_483 : decode cL_law 483 = .ok (.aload_n 1, 1) := by decide +kernel
theorem dL_law_484 : decode cL_law 484 = .ok (.aload_n 0, 1) := by decide +kernel
theorem dL_law_485 : decode cL_law 485 = .ok (.iload 4, 2) := by decide +kernel
theorem dL_law_487 : decode cL_law 487 = .ok (.iconst 1, 1) := by decide +kernel
theorem dL_law_488 : decode cL_law 488 = .ok (.iadd, 1) := by decide +kernel
theorem dL_law_489 : decode cL_law 489 = .ok (.iaload, 1) := by decide +kernel
theorem dL_law_490 : decode cL_law 490 = .ok (.invokevirtual 66, 3) := by decide +kernel
theorem dL_law_493 : decode cL_law 493 = .ok (.aload_n 2, 1) := by decide +kernel
theorem dL_law_494 : decode cL_law 494 = .ok (.aload_n 0, 1) := by decide +kernel
theorem dL_law_495 : decode cL_law 495 = .ok (.iload 4, 2) := by decide +kernel
theorem dL_law_497 : decode cL_law 497 = .ok (.iconst 1, 1) := by decide +kernel
theorem dL_law_498 : decode cL_law 498 = .ok (.iadd, 1) := by decide +kernel
theorem dL_law_499 : decode cL_law 499 = .ok (.iaload, 1) := by decide +kernel
theorem dL_law_500 : decode cL_law 500 = .ok (.invokevirtual 69, 3) := by decide +kernel
theorem dL_law_503 : decode cL_law 503 = .ok (.if_icmp .eq 313, 3) := by decide +kernel
theorem dL_law_506 : decode cL_law 506 = .ok (.iconst 0, 1) := by decide +kernel
theorem dL_law_507 : decode cL_law 507 = .ok (.ireturn, 1) := by decide +kernel
theorem dL_law_508 : decode cL_law 508 = .ok (.aload_n 1, 1) := by decide +kernel
theorem dL_law_509 : decode cL_law 509 = .ok (.aload_n 0, 1) := by decide +kernel
theorem dL_law_510 : decode cL_law 510 = .ok (.iload 4, 2) := by decide +kernel
theorem dL_law_512 : decode cL_law 512 = .ok (.iconst 1, 1) := by decide +kernel
theorem dL_law_513 : decode cL_law 513 = .ok (.iadd, 1) := by decide +kernel
theorem dL_law_514 : decode cL_law 514 = .ok (.iaload, 1) := by decide +kernel
theorem dL_law_515 : decode cL_law 515 = .ok (.aload_n 0, 1) := by decide +kernel
theorem dL_law_516 : decode cL_law 516 = .ok (.iload 4, 2) := by decide +kernel
theorem dL_law_518 : decode cL_law 518 = .ok (.iconst 2, 1) := by decide +kernel
theorem dL_law_519 : decode cL_law 519 = .ok (.iadd, 1) := by decide +kernel
theorem dL_law_520 : decode cL_law 520 = .ok (.iaload, 1) := by decide +kernel
theorem dL_law_521 : decode cL_law 521 = .ok (.invokevirtual 70, 3) := by decide +kernel
theorem dL_law_524 : decode cL_law 524 = .ok (.aload_n 2, 1) := by decide +kernel
theorem dL_law_525 : decode cL_law 525 = .ok (.aload_n 0, 1) := by decide +kernel
theorem dL_law_526 : decode cL_law 526 = .ok (.iload 4, 2) := by decide +kernel
theorem dL_law_528 : decode cL_law 528 = .ok (.iconst 1, 1) := by decide +kernel
theorem dL_law_529 : decode cL_law 529 = .ok (.iadd, 1) := by decide +kernel
theorem dL_law_530 : decode cL_law 530 = .ok (.iaload, 1) := by decide +kernel
theorem dL_law_531 : decode cL_law 531 = .ok (.aload_n 0, 1) := by decide +kernel
theorem dL_law_532 : decode cL_law 532 = .ok (.iload 4, 2) := by decide +kernel
theorem dL_law_534 : decode cL_law 534 = .ok (.iconst 2, 1) := by decide +kernel
theorem dL_law_535 : decode cL_law 535 = .ok (.iadd, 1) := by decide +kernel
theorem dL_law_536 : decode cL_law 536 = .ok (.iaload, 1) := by decide +kernel
theorem dL_law_537 : decode cL_law 537 = .ok (.invokevirtual 73, 3) := by decide +kernel
theorem dL_law_540 : decode cL_law 540 = .ok (.if_icmp .eq 276, 3) := by decide +kernel
theorem dL_law_543 : decode cL_law 543 = .ok (.iconst 0, 1) := by decide +kernel
theorem dL_law_544 : decode cL_law 544 = .ok (.ireturn, 1) := by decide +kernel
theorem dL_law_545 : decode cL_law 545 = .ok (.aload_n 1, 1) := by decide +kernel
theorem dL_law_546 : decode cL_law 546 = .ok (.aload_n 0, 1) := by decide +kernel
theorem dL_law_547 : decode cL_law 547 = .ok (.iload 4, 2) := by decide +kernel
theorem dL_law_549 : decode cL_law 549 = .ok (.iconst 1, 1) := by decide +kernel
theorem dL_law_550 : decode cL_law 550 = .ok (.iadd, 1) := by decide +kernel
theorem dL_law_551 : decode cL_law 551 = .ok (.iaload, 1) := by decide +kernel
theorem dL_law_552 : decode cL_law 552 = .ok (.invokevirtual 74, 3) := by decide +kernel
theorem dL_law_555 : decode cL_law 555 = .ok (.aload_n 2, 1) := by decide +kernel
theorem dL_law_556 : decode cL_law 556 = .ok (.aload_n 0, 1) := by decide +kernel
theorem dL_law_557 : decode cL_law 557 = .ok (.iload 4, 2) := by decide +kernel
theorem dL_law_559 : decode cL_law 559 = .ok (.iconst 1, 1) := by decide +kernel
theorem dL_law_560 : decode cL_law 560 = .ok (.iadd, 1) := by decide +kernel
theorem dL_law_561 : decode cL_law 561 = .ok (.iaload, 1) := by decide +kernel
theorem dL_law_562 : decode cL_law 562 = .ok (.invokevirtual 77, 3) := by decide +kernel
theorem dL_law_565 : decode cL_law 565 = .ok (.if_icmp .eq 251, 3) := by decide +kernel
theorem dL_law_568 : decode cL_law 568 = .ok (.iconst 0, 1) := by decide +kernel
theorem dL_law_569 : decode cL_law 569 = .ok (.ireturn, 1) := by decide +kernel
theorem dL_law_570 : decode cL_law 570 = .ok (.aload_n 1, 1) := by decide +kernel
theorem dL_law_571 : decode cL_law 571 = .ok (.aload_n 0, 1) := by decide +kernel
theorem dL_law_572 : decode cL_law 572 = .ok (.iload 4, 2) := by decide +kernel
theorem dL_law_574 : decode cL_law 574 = .ok (.iconst 1, 1) := by decide +kernel
theorem dL_law_575 : decode cL_law 575 = .ok (.iadd, 1) := by decide +kernel
theorem dL_law_576 : decode cL_law 576 = .ok (.iaload, 1) := by decide +kernel
theorem dL_law_577 : decode cL_law 577 = .ok (.aload_n 0, 1) := by decide +kernel
theorem dL_law_578 : decode cL_law 578 = .ok (.iload 4, 2) := by decide +kernel
theorem dL_law_580 : decode cL_law 580 = .ok (.iconst 2, 1) := by decide +kernel
theorem dL_law_581 : decode cL_law 581 = .ok (.iadd, 1) := by decide +kernel
theorem dL_law_582 : decode cL_law 582 = .ok (.iaload, 1) := by decide +kernel
theorem dL_law_583 : decode cL_law 583 = .ok (.invokevirtual 78, 3) := by decide +kernel
theorem dL_law_586 : decode cL_law 586 = .ok (.aload_n 2, 1) := by decide +kernel
theorem dL_law_587 : decode cL_law 587 = .ok (.aload_n 0, 1) := by decide +kernel
theorem dL_law_588 : decode cL_law 588 = .ok (.iload 4, 2) := by decide +kernel
theorem dL_law_590 : decode cL_law 590 = .ok (.iconst 1, 1) := by decide +kernel
theorem dL_law_591 : decode cL_law 591 = .ok (.iadd, 1) := by decide +kernel
theorem dL_law_592 : decode cL_law 592 = .ok (.iaload, 1) := by decide +kernel
theorem dL_law_593 : decode cL_law 593 = .ok (.aload_n 0, 1) := by decide +kernel
theorem dL_law_594 : decode cL_law 594 = .ok (.iload 4, 2) := by decide +kernel
theorem dL_law_596 : decode cL_law 596 = .ok (.iconst 2, 1) := by decide +kernel
theorem dL_law_597 : decode cL_law 597 = .ok (.iadd, 1) := by decide +kernel
theorem dL_law_598 : decode cL_law 598 = .ok (.iaload, 1) := by decide +kernel
theorem dL_law_599 : decode cL_law 599 = .ok (.invokevirtual 81, 3) := by decide +kernel
theorem dL_law_602 : decode cL_law 602 = .ok (.if_icmp .eq 214, 3) := by decide +kernel
theorem dL_law_605 : decode cL_law 605 = .ok (.iconst 0, 1) := by decide +kernel
theorem dL_law_606 : decode cL_law 606 = .ok (.ireturn, 1) := by decide +kernel
theorem dL_law_607 : decode cL_law 607 = .ok (.aload_n 1, 1) := by decide +kernel
theorem dL_law_608 : decode cL_law 608 = .ok (.aload_n 0, 1) := by decide +kernel
theorem dL_law_609 : decode cL_law 609 = .ok (.iload 4, 2) := by decide +kernel
theorem dL_law_611 : decode cL_law 611 = .ok (.iconst 1, 1) := by decide +kernel
theorem dL_law_612 : decode cL_law 612 = .ok (.iadd, 1) := by decide +kernel
theorem dL_law_613 : decode cL_law 613 = .ok (.iaload, 1) := by decide +kernel
theorem dL_law_614 : decode cL_law 614 = .ok (.invokevirtual 82, 3) := by decide +kernel
theorem dL_law_617 : decode cL_law 617 = .ok (.aload_n 2, 1) := by decide +kernel
theorem dL_law_618 : decode cL_law 618 = .ok (.aload_n 0, 1) := by decide +kernel
theorem dL_law_619 : decode cL_law 619 = .ok (.iload 4, 2) := by decide +kernel
theorem dL_law_621 : decode cL_law 621 = .ok (.iconst 1, 1) := by decide +kernel
theorem dL_law_622 : decode cL_law 622 = .ok (.iadd, 1) := by decide +kernel
theorem dL_law_623 : decode cL_law 623 = .ok (.iaload, 1) := by decide +kernel
theorem dL_law_624 : decode cL_law 624 = .ok (.invokevirtual 85, 3) := by decide +kernel
theorem dL_law_627 : decode cL_law 627 = .ok (.if_icmp .eq 189, 3) := by decide +kernel
theorem dL_law_630 : decode cL_law 630 = .ok (.iconst 0, 1) := by decide +kernel
theorem dL_law_631 : decode cL_law 631 = .ok (.ireturn, 1) := by decide +kernel
theorem dL_law_632 : decode cL_law 632 = .ok (.aload_n 1, 1) := by decide +kernel
theorem dL_law_633 : decode cL_law 633 = .ok (.invokevirtual 86, 3) := by decide +kernel
theorem dL_law_636 : decode cL_law 636 = .ok (.aload_n 2, 1) := by decide +kernel
theorem dL_law_637 : decode cL_law 637 = .ok (.invokevirtual 89, 3) := by decide +kernel
theorem dL_law_640 : decode cL_law 640 = .ok (.if_icmp .eq 176, 3) := by decide +kernel
theorem dL_law_643 : decode cL_law 643 = .ok (.iconst 0, 1) := by decide +kernel
theorem dL_law_644 : decode cL_law 644 = .ok (.ireturn, 1) := by decide +kernel
theorem dL_law_645 : decode cL_law 645 = .ok (.aload_n 1, 1) := by decide +kernel
theorem dL_law_646 : decode cL_law 646 = .ok (.invokevirtual 90, 3) := by decide +kernel
theorem dL_law_649 : decode cL_law 649 = .ok (.aload_n 2, 1) := by decide +kernel
theorem dL_law_650 : decode cL_law 650 = .ok (.invokevirtual 93, 3) := by decide +kernel
theorem dL_law_653 : decode cL_law 653 = .ok (.if_icmp .eq 163, 3) := by decide +kernel
theorem dL_law_656 : decode cL_law 656 = .ok (.iconst 0, 1) := by decide +kernel
theorem dL_law_657 : decode cL_law 657 = .ok (.ireturn, 1) := by decide +kernel
theorem dL_law_658 : decode cL_law 658 = .ok (.aload_n 1, 1) := by decide +kernel
theorem dL_law_659 : decode cL_law 659 = .ok (.aload_n 0, 1) := by decide +kernel
theorem dL_law_660 : decode cL_law 660 = .ok (.iload 4, 2) := by decide +kernel
theorem dL_law_662 : decode cL_law 662 = .ok (.iconst 1, 1) := by decide +kernel
theorem dL_law_663 : decode cL_law 663 = .ok (.iadd, 1) := by decide +kernel
theorem dL_law_664 : decode cL_law 664 = .ok (.iaload, 1) := by decide +kernel
theorem dL_law_665 : decode cL_law 665 = .ok (.aload_n 0, 1) := by decide +kernel
theorem dL_law_666 : decode cL_law 666 = .ok (.iload 4, 2) := by decide +kernel
theorem dL_law_668 : decode cL_law 668 = .ok (.iconst 2, 1) := by decide +kernel
theorem dL_law_669 : decode cL_law 669 = .ok (.iadd, 1) := by decide +kernel
theorem dL_law_670 : decode cL_law 670 = .ok (.iaload, 1) := by decide +kernel
theorem dL_law_671 : decode cL_law 671 = .ok (.aload_n 0, 1) := by decide +kernel
theorem dL_law_672 : decode cL_law 672 = .ok (.iload 4, 2) := by decide +kernel
theorem dL_law_674 : decode cL_law 674 = .ok (.iconst 3, 1) := by decide +kernel
theorem dL_law_675 : decode cL_law 675 = .ok (.iadd, 1) := by decide +kernel
theorem dL_law_676 : decode cL_law 676 = .ok (.iaload, 1) := by decide +kernel
theorem dL_law_677 : decode cL_law 677 = .ok (.ifCond .eq 7, 3) := by decide +kernel
theorem dL_law_680 : decode cL_law 680 = .ok (.iconst 1, 1) := by decide +kernel
theorem dL_law_681 : decode cL_law 681 = .ok (.goto 4, 3) := by decide +kernel
theorem dL_law_684 : decode cL_law 684 = .ok (.iconst 0, 1) := by decide +kernel
theorem dL_law_685 : decode cL_law 685 = .ok (.invokevirtual 94, 3) := by decide +kernel
theorem dL_law_688 : decode cL_law 688 = .ok (.aload_n 2, 1) := by decide +kernel
theorem dL_law_689 : decode cL_law 689 = .ok (.aload_n 0, 1) := by decide +kernel
theorem dL_law_690 : decode cL_law 690 = .ok (.iload 4, 2) := by decide +kernel
theorem dL_law_692 : decode cL_law 692 = .ok (.iconst 1, 1) := by decide +kernel
theorem dL_law_693 : decode cL_law 693 = .ok (.iadd, 1) := by decide +kernel
theorem dL_law_694 : decode cL_law 694 = .ok (.iaload, 1) := by decide +kernel
theorem dL_law_695 : decode cL_law 695 = .ok (.aload_n 0, 1) := by decide +kernel
theorem dL_law_696 : decode cL_law 696 = .ok (.iload 4, 2) := by decide +kernel
theorem dL_law_698 : decode cL_law 698 = .ok (.iconst 2, 1) := by decide +kernel
theorem dL_law_699 : decode cL_law 699 = .ok (.iadd, 1) := by decide +kernel
theorem dL_law_700 : decode cL_law 700 = .ok (.iaload, 1) := by decide +kernel
theorem dL_law_701 : decode cL_law 701 = .ok (.aload_n 0, 1) := by decide +kernel
theorem dL_law_702 : decode cL_law 702 = .ok (.iload 4, 2) := by decide +kernel
theorem dL_law_704 : decode cL_law 704 = .ok (.iconst 3, 1) := by decide +kernel
theorem dL_law_705 : decode cL_law 705 = .ok (.iadd, 1) := by decide +kernel
theorem dL_law_706 : decode cL_law 706 = .ok (.iaload, 1) := by decide +kernel
theorem dL_law_707 : decode cL_law 707 = .ok (.ifCond .eq 7, 3) := by decide +kernel
theorem dL_law_710 : decode cL_law 710 = .ok (.iconst 1, 1) := by decide +kernel
theorem dL_law_711 : decode cL_law 711 = .ok (.goto 4, 3) := by decide +kernel
theorem dL_law_714 : decode cL_law 714 = .ok (.iconst 0, 1) := by decide +kernel
theorem dL_law_715 : decode cL_law 715 = .ok (.invokevirtual 98, 3) := by decide +kernel
theorem dL_law_718 : decode cL_law 718 = .ok (.if_icmp .eq 98, 3) := by decide +kernel
theorem dL_law_721 : decode cL_law 721 = .ok (.iconst 0, 1) := by decide +kernel
theorem dL_law_722 : decode cL_law 722 = .ok (.ireturn, 1) := by decide +kernel
theorem dL_law_723 : decode cL_law 723 = .ok (.aload_n 1, 1) := by decide +kernel
theorem dL_law_724 : decode cL_law 724 = .ok (.aload_n 0, 1) := by decide +kernel
theorem dL_law_725 : decode cL_law 725 = .ok (.iload 4, 2) := by decide +kernel
theorem dL_law_727 : decode cL_law 727 = .ok (.iconst 1, 1) := by decide +kernel
theorem dL_law_728 : decode cL_law 728 = .ok (.iadd, 1) := by decide +kernel
theorem dL_law_729 : decode cL_law 729 = .ok (.iaload, 1) := by decide +kernel
theorem dL_law_730 : decode cL_law 730 = .ok (.aload_n 0, 1) := by decide +kernel
theorem dL_law_731 : decode cL_law 731 = .ok (.iload 4, 2) := by decide +kernel
theorem dL_law_733 : decode cL_law 733 = .ok (.iconst 2, 1) := by decide +kernel
theorem dL_law_734 : decode cL_law 734 = .ok (.iadd, 1) := by decide +kernel
theorem dL_law_735 : decode cL_law 735 = .ok (.iaload, 1) := by decide +kernel
theorem dL_law_736 : decode cL_law 736 = .ok (.invokevirtual 99, 3) := by decide +kernel
theorem dL_law_739 : decode cL_law 739 = .ok (.aload_n 2, 1) := by decide +kernel
theorem dL_law_740 : decode cL_law 740 = .ok (.aload_n 0, 1) := by decide +kernel
theorem dL_law_741 : decode cL_law 741 = .ok (.iload 4, 2) := by decide +kernel
theorem dL_law_743 : decode cL_law 743 = .ok (.iconst 1, 1) := by decide +kernel
theorem dL_law_744 : decode cL_law 744 = .ok (.iadd, 1) := by decide +kernel
theorem dL_law_745 : decode cL_law 745 = .ok (.iaload, 1) := by decide +kernel
theorem dL_law_746 : decode cL_law 746 = .ok (.aload_n 0, 1) := by decide +kernel
theorem dL_law_747 : decode cL_law 747 = .ok (.iload 4, 2) := by decide +kernel
theorem dL_law_749 : decode cL_law 749 = .ok (.iconst 2, 1) := by decide +kernel
theorem dL_law_750 : decode cL_law 750 = .ok (.iadd, 1) := by decide +kernel
theorem dL_law_751 : decode cL_law 751 = .ok (.iaload, 1) := by decide +kernel
theorem dL_law_752 : decode cL_law 752 = .ok (.invokevirtual 102, 3) := by decide +kernel
theorem dL_law_755 : decode cL_law 755 = .ok (.if_icmp .eq 61, 3) := by decide +kernel
theorem dL_law_758 : decode cL_law 758 = .ok (.iconst 0, 1) := by decide +kernel
theorem dL_law_759 : decode cL_law 759 = .ok (.ireturn, 1) := by decide +kernel
theorem dL_law_760 : decode cL_law 760 = .ok (.aload_n 1, 1) := by decide +kernel
theorem dL_law_761 : decode cL_law 761 = .ok (.aload_n 0, 1) := by decide +kernel
theorem dL_law_762 : decode cL_law 762 = .ok (.iload 4, 2) := by decide +kernel
theorem dL_law_764 : decode cL_law 764 = .ok (.iconst 1, 1) := by decide +kernel
theorem dL_law_765 : decode cL_law 765 = .ok (.iadd, 1) := by decide +kernel
theorem dL_law_766 : decode cL_law 766 = .ok (.iaload, 1) := by decide +kernel
theorem dL_law_767 : decode cL_law 767 = .ok (.aload_n 3, 1) := by decide +kernel
theorem dL_law_768 : decode cL_law 768 = .ok (.invokestatic 103, 3) := by decide +kernel
theorem dL_law_771 : decode cL_law 771 = .ok (.istore 5, 2) := by decide +kernel
theorem dL_law_773 : decode cL_law 773 = .ok (.aload_n 2, 1) := by decide +kernel
theorem dL_law_774 : decode cL_law 774 = .ok (.aload_n 0, 1) := by decide +kernel
theorem dL_law_775 : decode cL_law 775 = .ok (.iload 4, 2) := by decide +kernel
theorem dL_law_777 : decode cL_law 777 = .ok (.iconst 1, 1) := by decide +kernel
theorem dL_law_778 : decode cL_law 778 = .ok (.iadd, 1) := by decide +kernel
theorem dL_law_779 : decode cL_law 779 = .ok (.iaload, 1) := by decide +kernel
theorem dL_law_780 : decode cL_law 780 = .ok (.invokevirtual 108, 3) := by decide +kernel
theorem dL_law_783 : decode cL_law 783 = .ok (.istore 6, 2) := by decide +kernel
theorem dL_law_785 : decode cL_law 785 = .ok (.aload_n 2, 1) := by decide +kernel
theorem dL_law_786 : decode cL_law 786 = .ok (.invokevirtual 109, 3) := by decide +kernel
theorem dL_law_789 : decode cL_law 789 = .ok (.iload 5, 2) := by decide +kernel
theorem dL_law_791 : decode cL_law 791 = .ok (.if_icmp .eq 5, 3) := by decide +kernel
theorem dL_law_794 : decode cL_law 794 = .ok (.iconst 0, 1) := by decide +kernel
theorem dL_law_795 : decode cL_law 795 = .ok (.ireturn, 1) := by decide +kernel
theorem dL_law_796 : decode cL_law 796 = .ok (.iload 5, 2) := by decide +kernel
theorem dL_law_798 : decode cL_law 798 = .ok (.ifCond .ne 15, 3) := by decide +kernel
theorem dL_law_801 : decode cL_law 801 = .ok (.aload_n 3, 1) := by decide +kernel
theorem dL_law_802 : decode cL_law 802 = .ok (.iconst 0, 1) := by decide +kernel
theorem dL_law_803 : decode cL_law 803 = .ok (.laload, 1) := by decide +kernel
theorem dL_law_804 : decode cL_law 804 = .ok (.iload 6, 2) := by decide +kernel
theorem dL_law_806 : decode cL_law 806 = .ok (.i2l, 1) := by decide +kernel
theorem dL_law_807 : decode cL_law 807 = .ok (.lcmp, 1) := by decide +kernel
theorem dL_law_808 : decode cL_law 808 = .ok (.ifCond .eq 5, 3) := by decide +kernel
theorem dL_law_811 : decode cL_law 811 = .ok (.iconst 0, 1) := by decide +kernel
theorem dL_law_812 : decode cL_law 812 = .ok (.ireturn, 1) := by decide +kernel
theorem dL_law_813 : decode cL_law 813 = .ok (.goto 3, 3) := by decide +kernel
theorem dL_law_816 : decode cL_law 816 = .ok (.iinc 4 4, 3) := by decide +kernel
theorem dL_law_819 : decode cL_law 819 = .ok (.goto (-796), 3) := by decide +kernel
theorem dL_law_822 : decode cL_law 822 = .ok (.iconst 1, 1) := by decide +kernel
theorem dL_law_823 : decode cL_law 823 = .ok (.ireturn, 1) := by decide +kernel
end
section
/-- the tables' words that last -/
def ec_tb : List Cond := lw_tbl.filter goodWord
/-- the links to the private constructors -/
def ec_nest : List Cond := [(Jvm.Cond.methodLinkNest "SuggestSpell" (9 : Nat) ({ cls := "SuggestSpell$Row", name := "<init>", desc := "()V" } : Jvm.MethodName) "SuggestSpell"), (Jvm.Cond.methodLinkNest "SuggestSpell$Words" (32 : Nat) ({ cls := "SuggestSpell$Row", name := "<init>", desc := "()V" } : Jvm.MethodName) "SuggestSpell"), (Jvm.Cond.methodLinkNest "SuggestSpell$Line" (21 : Nat) ({ cls := "SuggestSpell$Row", name := "<init>", desc := "()V" } : Jvm.MethodName) "SuggestSpell"), (Jvm.Cond.methodLinkNest "SuggestSpell$Table" (11 : Nat) ({ cls := "SuggestSpell$Row", name := "<init>", desc := "()V" } : Jvm.MethodName) "SuggestSpell"), (Jvm.Cond.methodLinkNest "SuggestSpell" (48 : Nat) ({ cls := "SuggestSpell$Ranking", name := "<init>", desc := "()V" } : Jvm.MethodName) "SuggestSpell"), (Jvm.Cond.methodLinkNest "SuggestSpell" (55 : Nat) ({ cls := "SuggestSpell$Parting", name := "<init>", desc := "()V" } : Jvm.MethodName) "SuggestSpell"), (Jvm.Cond.methodLinkNest "SuggestSpell$Parting" (11 : Nat) ({ cls := "SuggestSpell$Side", name := "<init>", desc := "()V" } : Jvm.MethodName) "SuggestSpell"), (Jvm.Cond.methodLinkNest "SuggestSpell" (62 : Nat) ({ cls := "SuggestSpell$Choice", name := "<init>", desc := "()V" } : Jvm.MethodName) "SuggestSpell")]
def ec_tys : List FieldType := [.int, .boolean, .long, .object "SuggestSpell$Row", .array .int]
theorem ec_in {w : Cond} (i : Nat) (h : tables_1[i]? = some w) (hg : goodWord w = true) : w ∈ ec_tb := List.mem_filter.mpr ⟨List.mem_append_right _ (List.mem_of_getElem? h), hg⟩
theorem ec_inS {w : Cond} (i : Nat) (h : (k2_sels lw_privs)[i]? = some w) (hg : goodWord w = true) : w ∈ ec_tb := List.mem_filter.mpr ⟨List.mem_append_left _ (List.mem_of_getElem? h), hg⟩
theorem ec_good (ws : List Cond) (h : ∀ w ∈ ws, w ∈ ec_tb) : GoodIn ec_tb ws := fun w hw => ⟨h w hw, good_of_word (List.mem_filter.mp (h w hw)).2⟩
/-! THE SMALL MACHINE: a judgement over the machine in which the heap is a picture (a function from addresses to cells), the locals a list, and all that is the same for every method (tables' words, classes, room) is hidden. Every row below is a row of the kit, said in these words. -/
abbrev ec_C : Type := (FieldType × vp_A) ⊕ (Nat × List Value)
/-- a picture of the heap: its size, and the cells that are ours -/
abbrev ec_H : Type := Nat × (Nat → Option ec_C)
/-- a method: its name, its bytes, its locals, what it answers -/
abbrev ec_M : Type := MethodName × ByteArray × Nat × Option FieldType
def ec_at (D : va_G) (kA : FieldType → ClassId) (a : Nat) (c : ec_C) (H : Heap) : Prop := match c with
  | .inl x => H[a]? = some (vp_cell (kA x.1) x.2)
  | .inr o => ∃ r : vw_C, vwCl[o.1]? = some r ∧ t_OB a (D.1 o.1) r.2.2 (D.2 o.1) H (vp_V o.2)
def ec_P (D : va_G) (kA : FieldType → ClassId) (B : Nat) (h : ec_H) (H : Heap) : Prop := H.size = h.1 ∧ ∀ (a : Nat) (c : ec_C), h.2 a = some c → B ≤ a ∧ ec_at D kA a c H
/-- what the tables say of an array class: its component -/
def ec_RA (U : State) (cA : ClassId) (ty : FieldType) : Prop := ArrOfT U cA ty ∧ ∃ (kC : Class) (comp : ClassId), U.vm.classes[cA]? = some kC ∧ kC.kind = .array comp ty
def ec_K (D : va_G) (kA : FieldType → ClassId) (U : State) : Prop := va_K D vwCl [] U ∧ (∀ ty ∈ ec_tys, ec_RA U (kA ty) ty ∧ U.vm.findClass ("[" ++ ty.toString) = some (kA ty)) ∧ (∀ w ∈ ec_nest, va_Nw w U) ∧ va_AO "SuggestSpell$Row" U
def ec_lv (L : List (Option Value)) : List (Nat × Value) := L.zipIdx.filterMap (fun q => q.1.map (fun v => (q.2, v)))
def ec_W (l : Launch) (D : va_G) (kA : FieldType → ClassId) (B : Nat) (X : State → Prop) (R : Room) (Z : Array Value → State → List Frame → State → Prop) (M : ec_M) (uc us pc : Nat) (L : List (Option Value)) (st : List Value) (h : ec_H) : Prop :=
  ∀ (p : Program) (e : Env) (s : State) (m : MethodId) (args : Array Value) (below : List Frame) (meth : Method) (c : Code) (H : Heap) (locs : List Loc) (ls : Array Slot),
    p.tables.exec = Jvm.exec → c.code = M.2.1 → meth.sig.returnType = M.2.2.2 → c.maxLocals = M.2.2.1 → s.vm.findClass M.1.cls = some m.cls → (∀ w ∈ ec_tb, w.before args s = true) → meth.locks = false → meth.name = M.1.name → ec_K D kA s → X s → B ≤ s.heap.size →
    ec_P D kA B h H → va_S (fun q => B ≤ q) s.heap H locs → lv_has ls M.2.2.1 (ec_lv L) → W p l e R s m args below meth c H locs uc us (Z args s below) (F0 m pc ls st)
theorem ec_lv_mem {L : List (Option Value)} {i : Nat} {v : Value} (h : L[i]? = some (some v)) : (i, v) ∈ ec_lv L := by
  refine List.mem_filterMap.mpr ⟨(some v, i), ?_, rfl⟩
  rw [List.mem_zipIdx_iff_getElem?]
  exact h
theorem ec_lv_of {L : List (Option Value)} {q : Nat × Value} (h : q ∈ ec_lv L) : L[q.1]? = some (some q.2) := by
  obtain ⟨x, h1, h2⟩ := List.mem_filterMap.mp h
  rw [List.mem_zipIdx_iff_getElem?] at h1
  obtain ⟨o, i⟩ := x
  cases o with
  | none => cases h2
  | some v => cases h2; exact h1
theorem ec_ld {ls : Array Slot} {n : Nat} {L : List (Option Value)} (h : lv_has ls n (ec_lv L)) {i : Nat} {v : Value} (hl : L[i]? = some (some v)) : ls[i]? = some (.val v) := h.2.2 (i, v) (ec_lv_mem hl)
/-- no long stands just ahead -/
def ec_c1 (L : List (Option Value)) (i : Nat) : Bool := match i with
  | 0 => true
  | j + 1 => match L[j]? with
    | some (some v) => v.category == 1
    | _ => true
theorem ec_st {ls : Array Slot} {n : Nat} {L : List (Option Value)} {i : Nat} {v : Value} (h : lv_has ls n ((i, v) :: (ec_lv L).filter (fun q => !(q.1 == i) && !(q.1 + 1 == i && q.2.category == 2)))) (hc : ec_c1 L i = true) : lv_has ls n (ec_lv (L.set i (some v))) := by
  refine ⟨h.1, h.2.1, fun q hq => h.2.2 q ?_⟩
  have h1 := ec_lv_of hq
  rw [List.getElem?_set] at h1
  split at h1
  next e =>
    split at h1
    · obtain ⟨q1, q2⟩ := q
      simp only at e h1
      subst e
      cases h1
      exact List.mem_cons_self
    · cases h1
  next e =>
    refine List.mem_cons_of_mem _ (List.mem_filter.mpr ⟨?_, ?_⟩)
    · obtain ⟨q1, q2⟩ := q
      exact ec_lv_mem h1
    · have n1 : ¬ q.1 = i := fun z => e z.symm
      have n2 : ¬ (q.1 + 1 = i ∧ q.2.category = 2) := by
        rintro ⟨z1, z2⟩
        subst z1
        simp only [ec_c1, h1] at hc
        rw [z2] at hc
        cases hc
      simp only [Bool.and_eq_true, Bool.not_eq_true', beq_eq_false_iff_ne, ne_eq, n1, not_false_eq_true, true_and]
      rw [Bool.and_eq_false_iff]
      by_cases z1 : q.1 + 1 = i
      · exact Or.inr (by simpa using fun z2 => n2 ⟨z1, z2⟩)
      · exact Or.inl (by simpa using z1)

theorem ec_K.same {D : va_G} {kA : FieldType → ClassId} {u U : State} (h : u.vm = U.vm) (hK : ec_K D kA u) : ec_K D kA U := by
  obtain ⟨h1, h2, h3, h4⟩ := hK
  have ha : u.vm.Alike U.vm := by rw [h]; exact Vm.Alike.refl _
  refine ⟨va_K.moved ha h1, fun ty ht => ?_, fun w hw => ?_, va_AO.moved ha h4⟩
  · obtain ⟨⟨a1, kC, comp, a2, a3⟩, a4⟩ := h2 ty ht
    exact ⟨⟨arrOfT_moved ha a1, kC, comp, by rw [← h]; exact a2, a3⟩, by rw [← h]; exact a4⟩
  · refine va_Nw.same ?_ h (h3 w hw)
    revert w
    unfold ec_nest
    simp [Cond.onTables]
theorem ec_K.warm {D : va_G} {kA : FieldType → ClassId} {s U : State} (hW : s.WarmedH U.vm) (hK : ec_K D kA s) : ec_K D kA U := by
  obtain ⟨h1, h2, h3, h4⟩ := hK
  have ha : s.vm.Alike U.vm := hW.alike
  refine ⟨va_K.moved ha h1, fun ty ht => ?_, fun w hw => ?_, va_AO.moved ha h4⟩
  · obtain ⟨⟨a1, kC, comp, a2, a3⟩, a4⟩ := h2 ty ht
    obtain ⟨k', hk', he⟩ := ha.2.2 _ _ a2
    exact ⟨⟨arrOfT_moved ha a1, k', comp, hk', by rw [he]; exact a3⟩, by rw [ha.findClass]; exact a4⟩
  · have h5 := h3 w hw
    revert h5
    revert w
    unfold ec_nest
    simp only [List.mem_cons, List.not_mem_nil, or_false]
    rintro w (rfl | rfl | rfl | rfl | rfl | rfl | rfl | rfl) h5 <;> exact va_Nw.warmM hW h5
end
section
section ECR
variable {l : Launch} {D : va_G} {kA : FieldType → ClassId} {B : Nat} {X : State → Prop} {R : Room} {Z : Array Value → State → List Frame → State → Prop} {M : ec_M} {uc us pc : Nat} {L : List (Option Value)} {st : List Value} {h : ec_H}
theorem e_iconst {n : Int} {v : Int32} (hd : decode M.2.1 pc = .ok (.iconst n, 1)) (hv : Int32.ofInt n = v) (kk : ec_W l D kA B X R Z M uc us (pc + 1) L (.int v :: st) h) : ec_W l D kA B X R Z M uc us pc L st h := by
  intro p e s m args below meth c H locs ls hx hb hr hml hown hts hlk hnm hK hX hB hP hS hl
  exact lv_iconst hx hb hd hv (kk p e s m args below meth c H locs ls hx hb hr hml hown hts hlk hnm hK hX hB hP hS hl)
theorem e_bipush {n : Int} {v : Int32} (hd : decode M.2.1 pc = .ok (.bipush n, 2)) (hv : (Int8.ofInt n).toInt32 = v) (kk : ec_W l D kA B X R Z M uc us (pc + 2) L (.int v :: st) h) : ec_W l D kA B X R Z M uc us pc L st h := by
  intro p e s m args below meth c H locs ls hx hb hr hml hown hts hlk hnm hK hX hB hP hS hl
  exact lv_bipush hx hb hd hv (kk p e s m args below meth c H locs ls hx hb hr hml hown hts hlk hnm hK hX hB hP hS hl)
theorem e_sipush {n : Int} {v : Int32} (hd : decode M.2.1 pc = .ok (.sipush n, 3)) (hv : (Int16.ofInt n).toInt32 = v) (kk : ec_W l D kA B X R Z M uc us (pc + 3) L (.int v :: st) h) : ec_W l D kA B X R Z M uc us pc L st h := by
  intro p e s m args below meth c H locs ls hx hb hr hml hown hts hlk hnm hK hX hB hP hS hl
  exact lv_sipush hx hb hd hv (kk p e s m args below meth c H locs ls hx hb hr hml hown hts hlk hnm hK hX hB hP hS hl)
theorem e_lconst {n : Fin 2} {v : Int64} (hd : decode M.2.1 pc = .ok (.lconst n, 1)) (hv : Int64.ofNat (n : Nat) = v) (kk : ec_W l D kA B X R Z M uc us (pc + 1) L (.long v :: st) h) : ec_W l D kA B X R Z M uc us pc L st h := by
  intro p e s m args below meth c H locs ls hx hb hr hml hown hts hlk hnm hK hX hB hP hS hl
  exact lv_lconst hx hb hd hv (kk p e s m args below meth c H locs ls hx hb hr hml hown hts hlk hnm hK hX hB hP hS hl)
theorem e_ldc {i : Nat} {v : Int32} (hd : decode M.2.1 pc = .ok (.ldc i, 2)) (hw : Jvm.Cond.constant M.1.cls i v ∈ ec_tb) (kk : ec_W l D kA B X R Z M uc us (pc + 2) L (.int v :: st) h) : ec_W l D kA B X R Z M uc us pc L st h := by
  intro p e s m args below meth c H locs ls hx hb hr hml hown hts hlk hnm hK hX hB hP hS hl
  exact lv_ldc hx hb hown (hts _ hw) hd (kk p e s m args below meth c H locs ls hx hb hr hml hown hts hlk hnm hK hX hB hP hS hl)
theorem e_null (hd : decode M.2.1 pc = .ok (.aconst_null, 1)) (kk : ec_W l D kA B X R Z M uc us (pc + 1) L (.null :: st) h) : ec_W l D kA B X R Z M uc us pc L st h := by
  intro p e s m args below meth c H locs ls hx hb hr hml hown hts hlk hnm hK hX hB hP hS hl
  exact lv_null hx hb hd (kk p e s m args below meth c H locs ls hx hb hr hml hown hts hlk hnm hK hX hB hP hS hl)
theorem e_iload_n {k : Fin 4} {i : Nat} {x : Int32} (hd : decode M.2.1 pc = .ok (.iload_n k, 1)) (hi : (k : Nat) = i) (hv : L[i]? = some (some (.int x))) (kk : ec_W l D kA B X R Z M uc us (pc + 1) L (.int x :: st) h) : ec_W l D kA B X R Z M uc us pc L st h := by
  intro p e s m args below meth c H locs ls hx hb hr hml hown hts hlk hnm hK hX hB hP hS hl
  exact lv_iload_n hx hb hd hi (ec_ld hl hv) (kk p e s m args below meth c H locs ls hx hb hr hml hown hts hlk hnm hK hX hB hP hS hl)
theorem e_iload {i : Nat} {x : Int32} (hd : decode M.2.1 pc = .ok (.iload i, 2)) (hv : L[i]? = some (some (.int x))) (kk : ec_W l D kA B X R Z M uc us (pc + 2) L (.int x :: st) h) : ec_W l D kA B X R Z M uc us pc L st h := by
  intro p e s m args below meth c H locs ls hx hb hr hml hown hts hlk hnm hK hX hB hP hS hl
  exact lv_iload hx hb hd (ec_ld hl hv) (kk p e s m args below meth c H locs ls hx hb hr hml hown hts hlk hnm hK hX hB hP hS hl)
theorem e_istore_n {k : Fin 4} {i : Nat} {x : Int32} (hd : decode M.2.1 pc = .ok (.istore_n k, 1)) (hi : (k : Nat) = i) (hn : i < M.2.2.1) (hc : ec_c1 L i = true) (kk : ec_W l D kA B X R Z M uc us (pc + 1) (L.set i (some (.int x))) st h) : ec_W l D kA B X R Z M uc us pc L (.int x :: st) h := by
  intro p e s m args below meth c H locs ls hx hb hr hml hown hts hlk hnm hK hX hB hP hS hl
  exact lv_istore_n hx hb hd hi hl hn rfl (fun ls' hl' => kk p e s m args below meth c H locs ls' hx hb hr hml hown hts hlk hnm hK hX hB hP hS (ec_st hl' hc))
theorem e_istore {i : Nat} {x : Int32} (hd : decode M.2.1 pc = .ok (.istore i, 2)) (hn : i < M.2.2.1) (hc : ec_c1 L i = true) (kk : ec_W l D kA B X R Z M uc us (pc + 2) (L.set i (some (.int x))) st h) : ec_W l D kA B X R Z M uc us pc L (.int x :: st) h := by
  intro p e s m args below meth c H locs ls hx hb hr hml hown hts hlk hnm hK hX hB hP hS hl
  exact lv_istore hx hb hd hl hn rfl (fun ls' hl' => kk p e s m args below meth c H locs ls' hx hb hr hml hown hts hlk hnm hK hX hB hP hS (ec_st hl' hc))
theorem e_aload_n {k : Fin 4} {i : Nat} {x : Nat} (hd : decode M.2.1 pc = .ok (.aload_n k, 1)) (hi : (k : Nat) = i) (hv : L[i]? = some (some (.ref x))) (kk : ec_W l D kA B X R Z M uc us (pc + 1) L (.ref x :: st) h) : ec_W l D kA B X R Z M uc us pc L st h := by
  intro p e s m args below meth c H locs ls hx hb hr hml hown hts hlk hnm hK hX hB hP hS hl
  exact lv_aload_n hx hb hd hi (ec_ld hl hv) (kk p e s m args below meth c H locs ls hx hb hr hml hown hts hlk hnm hK hX hB hP hS hl)
theorem e_aload {i : Nat} {x : Nat} (hd : decode M.2.1 pc = .ok (.aload i, 2)) (hv : L[i]? = some (some (.ref x))) (kk : ec_W l D kA B X R Z M uc us (pc + 2) L (.ref x :: st) h) : ec_W l D kA B X R Z M uc us pc L st h := by
  intro p e s m args below meth c H locs ls hx hb hr hml hown hts hlk hnm hK hX hB hP hS hl
  exact lv_aload hx hb hd (ec_ld hl hv) (kk p e s m args below meth c H locs ls hx hb hr hml hown hts hlk hnm hK hX hB hP hS hl)
theorem e_astore_n {k : Fin 4} {i : Nat} {x : Nat} (hd : decode M.2.1 pc = .ok (.astore_n k, 1)) (hi : (k : Nat) = i) (hn : i < M.2.2.1) (hc : ec_c1 L i = true) (kk : ec_W l D kA B X R Z M uc us (pc + 1) (L.set i (some (.ref x))) st h) : ec_W l D kA B X R Z M uc us pc L (.ref x :: st) h := by
  intro p e s m args below meth c H locs ls hx hb hr hml hown hts hlk hnm hK hX hB hP hS hl
  exact lv_astore_n hx hb hd hi hl hn rfl (fun ls' hl' => kk p e s m args below meth c H locs ls' hx hb hr hml hown hts hlk hnm hK hX hB hP hS (ec_st hl' hc))
theorem e_astore {i : Nat} {x : Nat} (hd : decode M.2.1 pc = .ok (.astore i, 2)) (hn : i < M.2.2.1) (hc : ec_c1 L i = true) (kk : ec_W l D kA B X R Z M uc us (pc + 2) (L.set i (some (.ref x))) st h) : ec_W l D kA B X R Z M uc us pc L (.ref x :: st) h := by
  intro p e s m args below meth c H locs ls hx hb hr hml hown hts hlk hnm hK hX hB hP hS hl
  exact lv_astore hx hb hd hl hn rfl (fun ls' hl' => kk p e s m args below meth c H locs ls' hx hb hr hml hown hts hlk hnm hK hX hB hP hS (ec_st hl' hc))
theorem e_iinc {i : Nat} {n : Int} {x v : Int32} (hd : decode M.2.1 pc = .ok (.iinc i n, 3)) (hv : L[i]? = some (some (.int x))) (hx0 : x + Int32.ofInt n = v) (hn : i < M.2.2.1) (hc : ec_c1 L i = true) (kk : ec_W l D kA B X R Z M uc us (pc + 3) (L.set i (some (.int v))) st h) : ec_W l D kA B X R Z M uc us pc L st h := by
  intro p e s m args below meth c H locs ls hx hb hr hml hown hts hlk hnm hK hX hB hP hS hl
  obtain ⟨k, hk⟩ := List.getElem?_of_mem (ec_lv_mem hv)
  exact lv_iinc hx hb hd hl hk hx0 hn rfl (fun ls' hl' => kk p e s m args below meth c H locs ls' hx hb hr hml hown hts hlk hnm hK hX hB hP hS (ec_st hl' hc))
theorem e_iadd {x y : Int32} (hd : decode M.2.1 pc = .ok (.iadd, 1)) (kk : ec_W l D kA B X R Z M uc us (pc + 1) L (.int (x + y) :: st) h) : ec_W l D kA B X R Z M uc us pc L (.int y :: .int x :: st) h := by
  intro p e s m args below meth c H locs ls hx hb hr hml hown hts hlk hnm hK hX hB hP hS hl
  exact lv_iadd hx hb hd (kk p e s m args below meth c H locs ls hx hb hr hml hown hts hlk hnm hK hX hB hP hS hl)
theorem e_isub {x y : Int32} (hd : decode M.2.1 pc = .ok (.isub, 1)) (kk : ec_W l D kA B X R Z M uc us (pc + 1) L (.int (x - y) :: st) h) : ec_W l D kA B X R Z M uc us pc L (.int y :: .int x :: st) h := by
  intro p e s m args below meth c H locs ls hx hb hr hml hown hts hlk hnm hK hX hB hP hS hl
  exact lv_isub hx hb hd (kk p e s m args below meth c H locs ls hx hb hr hml hown hts hlk hnm hK hX hB hP hS hl)
theorem e_imul {x y : Int32} (hd : decode M.2.1 pc = .ok (.imul, 1)) (kk : ec_W l D kA B X R Z M uc us (pc + 1) L (.int (x * y) :: st) h) : ec_W l D kA B X R Z M uc us pc L (.int y :: .int x :: st) h := by
  intro p e s m args below meth c H locs ls hx hb hr hml hown hts hlk hnm hK hX hB hP hS hl
  exact lv_imul hx hb hd (kk p e s m args below meth c H locs ls hx hb hr hml hown hts hlk hnm hK hX hB hP hS hl)
theorem e_iand {x y : Int32} (hd : decode M.2.1 pc = .ok (.iand, 1)) (kk : ec_W l D kA B X R Z M uc us (pc + 1) L (.int (x &&& y) :: st) h) : ec_W l D kA B X R Z M uc us pc L (.int y :: .int x :: st) h := by
  intro p e s m args below meth c H locs ls hx hb hr hml hown hts hlk hnm hK hX hB hP hS hl
  exact lv_iand hx hb hd (kk p e s m args below meth c H locs ls hx hb hr hml hown hts hlk hnm hK hX hB hP hS hl)
theorem e_ior {x y : Int32} (hd : decode M.2.1 pc = .ok (.ior, 1)) (kk : ec_W l D kA B X R Z M uc us (pc + 1) L (.int (x ||| y) :: st) h) : ec_W l D kA B X R Z M uc us pc L (.int y :: .int x :: st) h := by
  intro p e s m args below meth c H locs ls hx hb hr hml hown hts hlk hnm hK hX hB hP hS hl
  exact lv_ior hx hb hd (kk p e s m args below meth c H locs ls hx hb hr hml hown hts hlk hnm hK hX hB hP hS hl)
theorem e_ixor {x y : Int32} (hd : decode M.2.1 pc = .ok (.ixor, 1)) (kk : ec_W l D kA B X R Z M uc us (pc + 1) L (.int (x ^^^ y) :: st) h) : ec_W l D kA B X R Z M uc us pc L (.int y :: .int x :: st) h := by
  intro p e s m args below meth c H locs ls hx hb hr hml hown hts hlk hnm hK hX hB hP hS hl
  exact lv_ixor hx hb hd (kk p e s m args below meth c H locs ls hx hb hr hml hown hts hlk hnm hK hX hB hP hS hl)
theorem e_idiv {x y : Int32} (hd : decode M.2.1 pc = .ok (.idiv, 1)) (hne : ¬ y = 0) (kk : ec_W l D kA B X R Z M uc us (pc + 1) L (.int (x / y) :: st) h) : ec_W l D kA B X R Z M uc us pc L (.int y :: .int x :: st) h := by
  intro p e s m args below meth c H locs ls hx hb hr hml hown hts hlk hnm hK hX hB hP hS hl
  exact lv_idiv hx hb hd hne (kk p e s m args below meth c H locs ls hx hb hr hml hown hts hlk hnm hK hX hB hP hS hl)
theorem e_irem {x y : Int32} (hd : decode M.2.1 pc = .ok (.irem, 1)) (hne : ¬ y = 0) (kk : ec_W l D kA B X R Z M uc us (pc + 1) L (.int (x - x / y * y) :: st) h) : ec_W l D kA B X R Z M uc us pc L (.int y :: .int x :: st) h := by
  intro p e s m args below meth c H locs ls hx hb hr hml hown hts hlk hnm hK hX hB hP hS hl
  exact lv_irem hx hb hd hne (kk p e s m args below meth c H locs ls hx hb hr hml hown hts hlk hnm hK hX hB hP hS hl)
theorem e_ineg {x : Int32} (hd : decode M.2.1 pc = .ok (.ineg, 1)) (kk : ec_W l D kA B X R Z M uc us (pc + 1) L (.int (-x) :: st) h) : ec_W l D kA B X R Z M uc us pc L (.int x :: st) h := by
  intro p e s m args below meth c H locs ls hx hb hr hml hown hts hlk hnm hK hX hB hP hS hl
  exact lv_ineg hx hb hd (kk p e s m args below meth c H locs ls hx hb hr hml hown hts hlk hnm hK hX hB hP hS hl)
theorem e_i2l {x : Int32} {v : Int64} (hd : decode M.2.1 pc = .ok (.i2l, 1)) (hv : x.toInt64 = v) (kk : ec_W l D kA B X R Z M uc us (pc + 1) L (.long v :: st) h) : ec_W l D kA B X R Z M uc us pc L (.int x :: st) h := by
  intro p e s m args below meth c H locs ls hx hb hr hml hown hts hlk hnm hK hX hB hP hS hl
  exact lv_i2l hx hb hd hv (kk p e s m args below meth c H locs ls hx hb hr hml hown hts hlk hnm hK hX hB hP hS hl)
theorem e_l2i {x : Int64} {v : Int32} (hd : decode M.2.1 pc = .ok (.l2i, 1)) (hv : x.toInt32 = v) (kk : ec_W l D kA B X R Z M uc us (pc + 1) L (.int v :: st) h) : ec_W l D kA B X R Z M uc us pc L (.long x :: st) h := by
  intro p e s m args below meth c H locs ls hx hb hr hml hown hts hlk hnm hK hX hB hP hS hl
  exact lv_l2i hx hb hd hv (kk p e s m args below meth c H locs ls hx hb hr hml hown hts hlk hnm hK hX hB hP hS hl)
theorem e_lcmp {x y : Int64} (hd : decode M.2.1 pc = .ok (.lcmp, 1)) (kk : ec_W l D kA B X R Z M uc us (pc + 1) L (.int (lg_cmp x y) :: st) h) : ec_W l D kA B X R Z M uc us pc L (.long y :: .long x :: st) h := by
  intro p e s m args below meth c H locs ls hx hb hr hml hown hts hlk hnm hK hX hB hP hS hl
  exact W.lcmp hx hb hd (kk p e s m args below meth c H locs ls hx hb hr hml hown hts hlk hnm hK hX hB hP hS hl)
theorem e_dup {v : Value} (hd : decode M.2.1 pc = .ok (.dup, 1)) (hv : v.category = 1) (kk : ec_W l D kA B X R Z M uc us (pc + 1) L (v :: v :: st) h) : ec_W l D kA B X R Z M uc us pc L (v :: st) h := by
  intro p e s m args below meth c H locs ls hx hb hr hml hown hts hlk hnm hK hX hB hP hS hl
  exact lv_dup hx hb hd hv (kk p e s m args below meth c H locs ls hx hb hr hml hown hts hlk hnm hK hX hB hP hS hl)
theorem e_pop {v : Value} (hd : decode M.2.1 pc = .ok (.pop, 1)) (hv : v.category = 1) (kk : ec_W l D kA B X R Z M uc us (pc + 1) L st h) : ec_W l D kA B X R Z M uc us pc L (v :: st) h := by
  intro p e s m args below meth c H locs ls hx hb hr hml hown hts hlk hnm hK hX hB hP hS hl
  exact lv_pop hx hb hd hv (kk p e s m args below meth c H locs ls hx hb hr hml hown hts hlk hnm hK hX hB hP hS hl)
theorem e_dup_x1 {v w : Value} (hd : decode M.2.1 pc = .ok (.dup_x1, 1)) (hv : v.category = 1) (hw : w.category = 1) (kk : ec_W l D kA B X R Z M uc us (pc + 1) L (v :: w :: v :: st) h) : ec_W l D kA B X R Z M uc us pc L (v :: w :: st) h := by
  intro p e s m args below meth c H locs ls hx hb hr hml hown hts hlk hnm hK hX hB hP hS hl
  exact lv_dup_x1 hx hb hd hv hw (kk p e s m args below meth c H locs ls hx hb hr hml hown hts hlk hnm hK hX hB hP hS hl)
theorem e_dup_x2 {v w u : Value} (hd : decode M.2.1 pc = .ok (.dup_x2, 1)) (hv : v.category = 1) (hw : w.category = 1) (hu : u.category = 1) (kk : ec_W l D kA B X R Z M uc us (pc + 1) L (v :: w :: u :: v :: st) h) : ec_W l D kA B X R Z M uc us pc L (v :: w :: u :: st) h := by
  intro p e s m args below meth c H locs ls hx hb hr hml hown hts hlk hnm hK hX hB hP hS hl
  exact lv_dup_x2 hx hb hd hv hw hu (kk p e s m args below meth c H locs ls hx hb hr hml hown hts hlk hnm hK hX hB hP hS hl)
theorem e_dup2 {v w : Value} (hd : decode M.2.1 pc = .ok (.dup2, 1)) (hv : v.category = 1) (hw : w.category = 1) (kk : ec_W l D kA B X R Z M uc us (pc + 1) L (v :: w :: v :: w :: st) h) : ec_W l D kA B X R Z M uc us pc L (v :: w :: st) h := by
  intro p e s m args below meth c H locs ls hx hb hr hml hown hts hlk hnm hK hX hB hP hS hl
  exact lv_dup2_11 hx hb hd hv hw (kk p e s m args below meth c H locs ls hx hb hr hml hown hts hlk hnm hK hX hB hP hS hl)
theorem e_if_eq {x : Int32} {off : Int} (tgt : Nat) (hd : decode M.2.1 pc = .ok (.ifCond .eq off, 3)) (ht : (pc : Int) + off = (tgt : Int)) (kt : x = 0 → ec_W l D kA B X R Z M uc us tgt L st h) (kf : ¬ x = 0 → ec_W l D kA B X R Z M uc us (pc + 3) L st h) : ec_W l D kA B X R Z M uc us pc L (.int x :: st) h := by
  intro p e s m args below meth c H locs ls hx hb hr hml hown hts hlk hnm hK hX hB hP hS hl
  exact lv_if_eq hx hb hd ht (fun hc => kt hc p e s m args below meth c H locs ls hx hb hr hml hown hts hlk hnm hK hX hB hP hS hl) (fun hc => kf hc p e s m args below meth c H locs ls hx hb hr hml hown hts hlk hnm hK hX hB hP hS hl)
theorem e_icmp_eq {x y : Int32} {off : Int} (tgt : Nat) (hd : decode M.2.1 pc = .ok (.if_icmp .eq off, 3)) (ht : (pc : Int) + off = (tgt : Int)) (kt : x = y → ec_W l D kA B X R Z M uc us tgt L st h) (kf : ¬ x = y → ec_W l D kA B X R Z M uc us (pc + 3) L st h) : ec_W l D kA B X R Z M uc us pc L (.int y :: .int x :: st) h := by
  intro p e s m args below meth c H locs ls hx hb hr hml hown hts hlk hnm hK hX hB hP hS hl
  exact lv_icmp_eq hx hb hd ht (fun hc => kt hc p e s m args below meth c H locs ls hx hb hr hml hown hts hlk hnm hK hX hB hP hS hl) (fun hc => kf hc p e s m args below meth c H locs ls hx hb hr hml hown hts hlk hnm hK hX hB hP hS hl)
theorem e_if_ne {x : Int32} {off : Int} (tgt : Nat) (hd : decode M.2.1 pc = .ok (.ifCond .ne off, 3)) (ht : (pc : Int) + off = (tgt : Int)) (kt : ¬ x = 0 → ec_W l D kA B X R Z M uc us tgt L st h) (kf : x = 0 → ec_W l D kA B X R Z M uc us (pc + 3) L st h) : ec_W l D kA B X R Z M uc us pc L (.int x :: st) h := by
  intro p e s m args below meth c H locs ls hx hb hr hml hown hts hlk hnm hK hX hB hP hS hl
  exact lv_if_ne hx hb hd ht (fun hc => kt hc p e s m args below meth c H locs ls hx hb hr hml hown hts hlk hnm hK hX hB hP hS hl) (fun hc => kf hc p e s m args below meth c H locs ls hx hb hr hml hown hts hlk hnm hK hX hB hP hS hl)
theorem e_icmp_ne {x y : Int32} {off : Int} (tgt : Nat) (hd : decode M.2.1 pc = .ok (.if_icmp .ne off, 3)) (ht : (pc : Int) + off = (tgt : Int)) (kt : ¬ x = y → ec_W l D kA B X R Z M uc us tgt L st h) (kf : x = y → ec_W l D kA B X R Z M uc us (pc + 3) L st h) : ec_W l D kA B X R Z M uc us pc L (.int y :: .int x :: st) h := by
  intro p e s m args below meth c H locs ls hx hb hr hml hown hts hlk hnm hK hX hB hP hS hl
  exact lv_icmp_ne hx hb hd ht (fun hc => kt hc p e s m args below meth c H locs ls hx hb hr hml hown hts hlk hnm hK hX hB hP hS hl) (fun hc => kf hc p e s m args below meth c H locs ls hx hb hr hml hown hts hlk hnm hK hX hB hP hS hl)
theorem e_if_lt {x : Int32} {off : Int} (tgt : Nat) (hd : decode M.2.1 pc = .ok (.ifCond .lt off, 3)) (ht : (pc : Int) + off = (tgt : Int)) (kt : x < 0 → ec_W l D kA B X R Z M uc us tgt L st h) (kf : ¬ x < 0 → ec_W l D kA B X R Z M uc us (pc + 3) L st h) : ec_W l D kA B X R Z M uc us pc L (.int x :: st) h := by
  intro p e s m args below meth c H locs ls hx hb hr hml hown hts hlk hnm hK hX hB hP hS hl
  exact lv_if_lt hx hb hd ht (fun hc => kt hc p e s m args below meth c H locs ls hx hb hr hml hown hts hlk hnm hK hX hB hP hS hl) (fun hc => kf hc p e s m args below meth c H locs ls hx hb hr hml hown hts hlk hnm hK hX hB hP hS hl)
theorem e_icmp_lt {x y : Int32} {off : Int} (tgt : Nat) (hd : decode M.2.1 pc = .ok (.if_icmp .lt off, 3)) (ht : (pc : Int) + off = (tgt : Int)) (kt : x < y → ec_W l D kA B X R Z M uc us tgt L st h) (kf : ¬ x < y → ec_W l D kA B X R Z M uc us (pc + 3) L st h) : ec_W l D kA B X R Z M uc us pc L (.int y :: .int x :: st) h := by
  intro p e s m args below meth c H locs ls hx hb hr hml hown hts hlk hnm hK hX hB hP hS hl
  exact lv_icmp_lt hx hb hd ht (fun hc => kt hc p e s m args below meth c H locs ls hx hb hr hml hown hts hlk hnm hK hX hB hP hS hl) (fun hc => kf hc p e s m args below meth c H locs ls hx hb hr hml hown hts hlk hnm hK hX hB hP hS hl)
theorem e_if_ge {x : Int32} {off : Int} (tgt : Nat) (hd : decode M.2.1 pc = .ok (.ifCond .ge off, 3)) (ht : (pc : Int) + off = (tgt : Int)) (kt : 0 ≤ x → ec_W l D kA B X R Z M uc us tgt L st h) (kf : ¬ 0 ≤ x → ec_W l D kA B X R Z M uc us (pc + 3) L st h) : ec_W l D kA B X R Z M uc us pc L (.int x :: st) h := by
  intro p e s m args below meth c H locs ls hx hb hr hml hown hts hlk hnm hK hX hB hP hS hl
  exact lv_if_ge hx hb hd ht (fun hc => kt hc p e s m args below meth c H locs ls hx hb hr hml hown hts hlk hnm hK hX hB hP hS hl) (fun hc => kf hc p e s m args below meth c H locs ls hx hb hr hml hown hts hlk hnm hK hX hB hP hS hl)
theorem e_icmp_ge {x y : Int32} {off : Int} (tgt : Nat) (hd : decode M.2.1 pc = .ok (.if_icmp .ge off, 3)) (ht : (pc : Int) + off = (tgt : Int)) (kt : y ≤ x → ec_W l D kA B X R Z M uc us tgt L st h) (kf : ¬ y ≤ x → ec_W l D kA B X R Z M uc us (pc + 3) L st h) : ec_W l D kA B X R Z M uc us pc L (.int y :: .int x :: st) h := by
  intro p e s m args below meth c H locs ls hx hb hr hml hown hts hlk hnm hK hX hB hP hS hl
  exact lv_icmp_ge hx hb hd ht (fun hc => kt hc p e s m args below meth c H locs ls hx hb hr hml hown hts hlk hnm hK hX hB hP hS hl) (fun hc => kf hc p e s m args below meth c H locs ls hx hb hr hml hown hts hlk hnm hK hX hB hP hS hl)
theorem e_if_gt {x : Int32} {off : Int} (tgt : Nat) (hd : decode M.2.1 pc = .ok (.ifCond .gt off, 3)) (ht : (pc : Int) + off = (tgt : Int)) (kt : 0 < x → ec_W l D kA B X R Z M uc us tgt L st h) (kf : ¬ 0 < x → ec_W l D kA B X R Z M uc us (pc + 3) L st h) : ec_W l D kA B X R Z M uc us pc L (.int x :: st) h := by
  intro p e s m args below meth c H locs ls hx hb hr hml hown hts hlk hnm hK hX hB hP hS hl
  exact lv_if_gt hx hb hd ht (fun hc => kt hc p e s m args below meth c H locs ls hx hb hr hml hown hts hlk hnm hK hX hB hP hS hl) (fun hc => kf hc p e s m args below meth c H locs ls hx hb hr hml hown hts hlk hnm hK hX hB hP hS hl)
theorem e_icmp_gt {x y : Int32} {off : Int} (tgt : Nat) (hd : decode M.2.1 pc = .ok (.if_icmp .gt off, 3)) (ht : (pc : Int) + off = (tgt : Int)) (kt : y < x → ec_W l D kA B X R Z M uc us tgt L st h) (kf : ¬ y < x → ec_W l D kA B X R Z M uc us (pc + 3) L st h) : ec_W l D kA B X R Z M uc us pc L (.int y :: .int x :: st) h := by
  intro p e s m args below meth c H locs ls hx hb hr hml hown hts hlk hnm hK hX hB hP hS hl
  exact lv_icmp_gt hx hb hd ht (fun hc => kt hc p e s m args below meth c H locs ls hx hb hr hml hown hts hlk hnm hK hX hB hP hS hl) (fun hc => kf hc p e s m args below meth c H locs ls hx hb hr hml hown hts hlk hnm hK hX hB hP hS hl)
theorem e_if_le {x : Int32} {off : Int} (tgt : Nat) (hd : decode M.2.1 pc = .ok (.ifCond .le off, 3)) (ht : (pc : Int) + off = (tgt : Int)) (kt : x ≤ 0 → ec_W l D kA B X R Z M uc us tgt L st h) (kf : ¬ x ≤ 0 → ec_W l D kA B X R Z M uc us (pc + 3) L st h) : ec_W l D kA B X R Z M uc us pc L (.int x :: st) h := by
  intro p e s m args below meth c H locs ls hx hb hr hml hown hts hlk hnm hK hX hB hP hS hl
  exact lv_if_le hx hb hd ht (fun hc => kt hc p e s m args below meth c H locs ls hx hb hr hml hown hts hlk hnm hK hX hB hP hS hl) (fun hc => kf hc p e s m args below meth c H locs ls hx hb hr hml hown hts hlk hnm hK hX hB hP hS hl)
theorem e_icmp_le {x y : Int32} {off : Int} (tgt : Nat) (hd : decode M.2.1 pc = .ok (.if_icmp .le off, 3)) (ht : (pc : Int) + off = (tgt : Int)) (kt : x ≤ y → ec_W l D kA B X R Z M uc us tgt L st h) (kf : ¬ x ≤ y → ec_W l D kA B X R Z M uc us (pc + 3) L st h) : ec_W l D kA B X R Z M uc us pc L (.int y :: .int x :: st) h := by
  intro p e s m args below meth c H locs ls hx hb hr hml hown hts hlk hnm hK hX hB hP hS hl
  exact lv_icmp_le hx hb hd ht (fun hc => kt hc p e s m args below meth c H locs ls hx hb hr hml hown hts hlk hnm hK hX hB hP hS hl) (fun hc => kf hc p e s m args below meth c H locs ls hx hb hr hml hown hts hlk hnm hK hX hB hP hS hl)
theorem e_goto {off : Int} (tgt : Nat) (hd : decode M.2.1 pc = .ok (.goto off, 3)) (ht : (pc : Int) + off = (tgt : Int)) (kk : ec_W l D kA B X R Z M uc us tgt L st h) : ec_W l D kA B X R Z M uc us pc L st h := by
  intro p e s m args below meth c H locs ls hx hb hr hml hown hts hlk hnm hK hX hB hP hS hl
  exact lv_goto hx hb hd ht (kk p e s m args below meth c H locs ls hx hb hr hml hown hts hlk hnm hK hX hB hP hS hl)
theorem e_tblOut {dflt lo hi : Int} {offs : Array Int} {len : Nat} {x : Int32} (tgt : Nat) (hd : decode M.2.1 pc = .ok (.tableswitch dflt lo hi offs, len)) (h0 : x.toInt < lo ∨ hi < x.toInt) (ht : (pc : Int) + dflt = (tgt : Int)) (kk : ec_W l D kA B X R Z M uc us tgt L st h) : ec_W l D kA B X R Z M uc us pc L (.int x :: st) h := by
  intro p e s m args below meth c H locs ls hx hb hr hml hown hts hlk hnm hK hX hB hP hS hl
  exact lv_tableOut hx hb hd h0 ht (kk p e s m args below meth c H locs ls hx hb hr hml hown hts hlk hnm hK hX hB hP hS hl)
theorem e_tblIn {dflt lo hi : Int} {offs : Array Int} {len : Nat} {x : Int32} {off : Int} (tgt : Nat) (hd : decode M.2.1 pc = .ok (.tableswitch dflt lo hi offs, len)) (h1 : ¬ x.toInt < lo) (h2 : ¬ hi < x.toInt) (ho : offs[(x.toInt - lo).toNat]? = some off) (ht : (pc : Int) + off = (tgt : Int)) (kk : ec_W l D kA B X R Z M uc us tgt L st h) : ec_W l D kA B X R Z M uc us pc L (.int x :: st) h := by
  intro p e s m args below meth c H locs ls hx hb hr hml hown hts hlk hnm hK hX hB hP hS hl
  exact lv_tableIn hx hb hd h1 h2 ho ht (kk p e s m args below meth c H locs ls hx hb hr hml hown hts hlk hnm hK hX hB hP hS hl)
theorem e_lookup {dflt : Int} {ps : Array (Int × Int)} {len : Nat} {x : Int32} {off : Int} (tgt : Nat) (hd : decode M.2.1 pc = .ok (.lookupswitch dflt ps, len)) (hp : (ps.toList.zip (ps.toList.drop 1)).all (fun (a, next) => a.1 < next.1) = true) (ho : Op.lookupswitch.offset ps.toList dflt x.toInt = off) (ht : (pc : Int) + off = (tgt : Int)) (kk : ec_W l D kA B X R Z M uc us tgt L st h) : ec_W l D kA B X R Z M uc us pc L (.int x :: st) h := by
  intro p e s m args below meth c H locs ls hx hb hr hml hown hts hlk hnm hK hX hB hP hS hl
  exact lv_lookup hx hb hd hp ho ht (kk p e s m args below meth c H locs ls hx hb hr hml hown hts hlk hnm hK hX hB hP hS hl)
end ECR
end
section
section ECH
variable {l : Launch} {D : va_G} {kA : FieldType → ClassId} {B : Nat} {X : State → Prop} {R : Room} {Z : Array Value → State → List Frame → State → Prop} {M : ec_M} {uc us pc : Nat} {L : List (Option Value)} {st : List Value} {h : ec_H}
/-- one cell is another one now -/
def ec_up (h : ec_H) (a : Nat) (c : ec_C) : ec_H := (h.1, fun b => if b = a then some c else h.2 b)
/-- a cell more -/
def ec_add (h : ec_H) (c : ec_C) : ec_H := (h.1 + 1, fun b => if b = h.1 then some c else h.2 b)
theorem ec_at_kept {a : Nat} {c : ec_C} {H H1 : Heap} (hc : ec_at D kA a c H) (hq : H1[a]? = H[a]?) : ec_at D kA a c H1 := by
  cases c with
  | inl x => exact hq.trans hc
  | inr o =>
    obtain ⟨r, h1, h2⟩ := hc
    exact ⟨r, h1, h2.kept hq⟩
theorem ec_at_lt {a : Nat} {c : ec_C} {H : Heap} (hc : ec_at D kA a c H) : a < H.size := by
  cases c with
  | inl x => exact (Array.getElem?_eq_some_iff.mp hc).1
  | inr o =>
    obtain ⟨r, h1, cell, h2, -⟩ := hc
    exact (Array.getElem?_eq_some_iff.mp h2).1
theorem ec_P_up {H H1 : Heap} {a : Nat} {c : ec_C} (hP : ec_P D kA B h H) (hB : B ≤ a) (hc : ec_at D kA a c H1) (z : H1.size = H.size) (o : ∀ q : Nat, q ≠ a → H1[q]? = H[q]?) : ec_P D kA B (ec_up h a c) H1 := by
  refine ⟨z.trans hP.1, fun b d hb => ?_⟩
  simp only [ec_up] at hb
  split at hb
  next e => cases hb; subst e; exact ⟨hB, hc⟩
  next e =>
    obtain ⟨h1, h2⟩ := hP.2 b d hb
    exact ⟨h1, ec_at_kept h2 (o b e)⟩
theorem ec_P_add {H H1 : Heap} {c : ec_C} (hP : ec_P D kA B h H) (hB : B ≤ h.1) (hc : ec_at D kA h.1 c H1) (z : H1.size = H.size + 1) (o : ∀ q : Nat, q < H.size → H1[q]? = H[q]?) : ec_P D kA B (ec_add h c) H1 := by
  refine ⟨by rw [z, hP.1]; rfl, fun b d hb => ?_⟩
  simp only [ec_add] at hb
  split at hb
  next e => cases hb; subst e; exact ⟨hB, hc⟩
  next e =>
    obtain ⟨h1, h2⟩ := hP.2 b d hb
    exact ⟨h1, ec_at_kept h2 (o b (ec_at_lt h2))⟩
theorem ec_S_add {H0 H H1 : Heap} {locs : List Loc} (hS : va_S (fun q => B ≤ q) H0 H locs) (z : H1.size = H.size + 1) (o : ∀ q : Nat, q < H.size → H1[q]? = H[q]?) : va_S (fun q => B ≤ q) H0 H1 locs :=
  ⟨by have := hS.1; omega, fun q h1 h2 => (o q (Nat.lt_of_lt_of_le h1 hS.1)).trans (hS.2.1 q h1 h2), hS.2.2⟩
/-- a field's link, by the class's number and the field's -/
def ec_fl (own : String) (idx ci k : Nat) : Prop := ∃ (C : String) (T : u_T) (N : Nat), vwCl[ci]? = some (C, T, N) ∧ k < N ∧ (∀ w ∈ u_ws C T N, w ∈ ec_tb) ∧ Cond.fieldLink own idx (T k).1 (T k).2.1 (T k).2.2.1 ∈ ec_tb
/-- a field that is written: its type, whether it's final (then in its own class's constructor) -/
def ec_fp (own : String) (idx ci k : Nat) (fin : Bool) (ty : FieldType) : Prop := ∃ (C : String) (T : u_T) (N : Nat) (ty0 : Nat → FieldType), vwCl[ci]? = some (C, T, N) ∧ k < N ∧ (∀ w ∈ u_ws C T N, w ∈ ec_tb) ∧ Cond.fieldLink own idx (T k).1 (T k).2.1 (T k).2.2.1 ∈ ec_tb ∧
  (∀ k, k < N → parseFieldDescriptor (T k).2.2.1 = some (ty0 k)) ∧ (∀ a, a < N → ∀ b, b < N → a ≠ b → (T a).2.1 ≠ (T b).2.1) ∧ (T k).2.2.2 = fin ∧ ty0 k = ty ∧ (fin = true → (T k).1 = own)
theorem e_get {idx a : Nat} {fs : List Value} {v : Value} (ci k : Nat) (hf : ec_fl M.1.cls idx ci k) (hd : decode M.2.1 pc = .ok (.getfield idx, 3)) (hc : h.2 a = some (.inr (ci, fs))) (hv : fs[k]? = some v) (kk : ec_W l D kA B X R Z M uc us (pc + 3) L (v :: st) h) : ec_W l D kA B X R Z M uc us pc L (.ref a :: st) h := by
  intro p e s m args below meth c H locs ls hx hb hr hml hown hts hlk hnm hK hX hB hP hS hl
  obtain ⟨C, T, N, hcl, hk, hin, hlink⟩ := hf
  obtain ⟨r, h1, cell, q1, q2, q3, q4⟩ := (hP.2 a _ hc).2
  have hr' : r = (C, T, N) := Option.some.inj (h1.symm.trans hcl)
  subst hr'
  obtain ⟨hS9, hfc, kC, hkC, hkind⟩ := hK.1.1 ci _ hcl
  obtain ⟨cf, kf, fi, f, hi, hsl⟩ := hS9 k hk
  refine W.getf hx hb hown (hts _ hlink) hi (u_facts hfc hkC (u_lays hts hin hk) hi).1 q1 (by rw [q3]; exact fun h => by cases h) (v := v) ?_ rfl rfl hd (kk p e s m args below meth c H locs ls hx hb hr hml hown hts hlk hnm hK hX hB hP hS hl)
  rw [hsl, q4 k hk]
  simp [vp_V, hv]
theorem ec_apart {s : State} {args : Array Value} {C : String} {T : u_T} {N ci : Nat} (hts : ∀ w ∈ ec_tb, w.before args s = true) (hin : ∀ w ∈ u_ws C T N, w ∈ ec_tb) (ty : Nat → FieldType) (hty : ∀ k, k < N → parseFieldDescriptor (T k).2.2.1 = some (ty k)) (hnm : ∀ a, a < N → ∀ b, b < N → a ≠ b → (T a).2.1 ≠ (T b).2.1) (hK : va_K D vwCl [] s) (hc : vwCl[ci]? = some (C, T, N)) : ∀ x y, x < N → y < N → x ≠ y → (D.2 ci) x ≠ (D.2 ci) y := va_apart (own := C) hts hin ty hty hnm hK hc
theorem e_put {idx a : Nat} {fs : List Value} {v : Value} {ty : FieldType} (ci k : Nat) (fin : Bool) (hf : ec_fp M.1.cls idx ci k fin ty) (hfi : fin = true → M.1.name = "<init>") (hd : decode M.2.1 pc = .ok (.putfield idx, 3)) (hc : h.2 a = some (.inr (ci, fs))) (hn : narrow ty v = v) (hfit : fits ty v = true) (hlt : k < fs.length) (kk : ec_W l D kA B X R Z M uc us (pc + 3) L st (ec_up h a (.inr (ci, fs.set k v)))) : ec_W l D kA B X R Z M uc us pc L (v :: .ref a :: st) h := by
  intro p e s m args below meth c H locs ls hx hb hr hml hown hts hlk hnm hK hX hB hP hS hl
  obtain ⟨C, T, N, ty0, hcl, hk, hin, hlink, hty, hnm9, hfin, hty9, hdecl⟩ := hf
  have hap := ec_apart (D := D) hts hin ty0 hty hnm9 hK.1 hcl
  obtain ⟨hBa, r, h1, cell, q1, q2, q3, q4⟩ := hP.2 a _ hc
  have hr' : r = (C, T, N) := Option.some.inj (h1.symm.trans hcl)
  subst hr'
  obtain ⟨hS9, hfc, kC, hkC, hkind⟩ := hK.1.1 ci _ hcl
  obtain ⟨cf, kf, fi, f, hi, hsl⟩ := hS9 k hk
  have hst := (u_facts hfc hkC (u_lays hts hin hk) hi).1
  have hlay := hts _ (hin _ (u_in_lay hk))
  unfold u_lay at hlay
  have fit9 := u_fits hfc hkC hkind (u_lays hts hin hk) hi (hty k hk) (by rw [hty9]; exact hn) (by rw [hty9]; exact hfit)
  have fin9 : ∀ (H1 : Heap), H1[a]? = some (cell.setSlot f.slot v) → H1.size = H.size → (∀ q, q ≠ a → H1[q]? = H[q]?) → W p l e R s m args below meth c H1 (locs ++ [⟨a, f.slot⟩]) uc us (Z args s below) (F0 m (pc + 3) ls st) := by
    intro H1 e1 e2 e3
    refine kk p e s m args below meth c H1 _ ls hx hb hr hml hown hts hlk hnm hK hX hB (ec_P_up hP hBa ?_ e2 e3) (hS.put e2 e3 hBa) hl
    rw [hsl] at e1
    exact ⟨_, hcl, t_OB.to (V := updV (vp_V fs) k v) ⟨_, e1, q2, q3, t_set q4 hap hk v⟩ (fun j _ => vp_updV_set hlt v j)⟩
  cases fin with
  | false =>
    rw [if_neg (by rw [hfin]; decide)] at hlay
    exact W.putK hx hb (f := f) ⟨hown, hts _ hlink, ⟨_, _, _, hi⟩, hst⟩ (by rw [q2]; exact u_store hfc hkC hkind hlay hi (hty k hk) (by rw [hty9]; exact hn) (by rw [hty9]; exact hfit)) q1 q3 (by rw [hsl]; exact k2_hasslot (q4 k hk)) rfl rfl hd fin9
  | true =>
    rw [if_pos hfin] at hlay
    have hcf : m.cls = cf := by
      obtain ⟨_, _, c', _, _, _, -, -, hf', -, -, -, hown2, -⟩ := Cond.laysFinal_spec hlay
      have e1 : c' = cf := by have := hi.symm.trans hf'; simp at this; exact this.1.symm
      rw [hdecl rfl] at hown2
      rw [← e1]; exact Option.some.inj (hown.symm.trans hown2)
    exact W.putFinK hx hb hown (hts _ hlink) hi hst hcf (hnm.trans (hfi rfl)) (by rw [q2]; exact fit9) q1 q3 (by rw [hsl]; exact k2_hasslot (q4 k hk)) rfl rfl hd fin9
/-! arrays -/
theorem e_iald {a n : Nat} {f : Nat → Int32} {i : Int32} {v : Int32} (hd : decode M.2.1 pc = .ok (.iaload, 1)) (hc : h.2 a = some (.inl (.int, n, .inl f))) (hin : vp_in i n) (hv : f i.toNatClampNeg = v) (kk : ec_W l D kA B X R Z M uc us (pc + 1) L (.int v :: st) h) : ec_W l D kA B X R Z M uc us pc L (.int i :: .ref a :: st) h := by
  intro p e s m args below meth c H locs ls hx hb hr hml hown hts hlk hnm hK hX hB hP hS hl
  subst hv
  have hlt : i.toNatClampNeg < n := Nat.not_le.mp fun q => hin (Or.inr q)
  exact W.iald (v := .int (f i.toNatClampNeg)) hx hb (hP.2 a _ hc).2 ((hK.2.1 .int (by decide)).1.1 n (fun j => .int (f j))) (fun q => by cases q) (by show ¬ (i < 0 ∨ (arrV _ _ _).slots.size ≤ _); rw [arrV_size]; exact hin) (by show (arrV _ _ _).slots[_]? = _; rw [arrV_read _ _ hlt]) rfl rfl hd (kk p e s m args below meth c H locs ls hx hb hr hml hown hts hlk hnm hK hX hB hP hS hl)
theorem e_zald {a n : Nat} {f : Nat → Int32} {i : Int32} {v : Int32} (hd : decode M.2.1 pc = .ok (.baload, 1)) (hc : h.2 a = some (.inl (.boolean, n, .inl f))) (hin : vp_in i n) (hv : f i.toNatClampNeg = v) (kk : ec_W l D kA B X R Z M uc us (pc + 1) L (.int v :: st) h) : ec_W l D kA B X R Z M uc us pc L (.int i :: .ref a :: st) h := by
  intro p e s m args below meth c H locs ls hx hb hr hml hown hts hlk hnm hK hX hB hP hS hl
  subst hv
  have hlt : i.toNatClampNeg < n := Nat.not_le.mp fun q => hin (Or.inr q)
  exact W.zald (v := .int (f i.toNatClampNeg)) hx hb (hP.2 a _ hc).2 ((hK.2.1 .boolean (by decide)).1.1 n (fun j => .int (f j))) (fun q => by cases q) (by show ¬ (i < 0 ∨ (arrV _ _ _).slots.size ≤ _); rw [arrV_size]; exact hin) (by show (arrV _ _ _).slots[_]? = _; rw [arrV_read _ _ hlt]) rfl rfl hd (kk p e s m args below meth c H locs ls hx hb hr hml hown hts hlk hnm hK hX hB hP hS hl)
theorem e_lald {a n : Nat} {f : Nat → Int64} {i : Int32} {v : Int64} (hd : decode M.2.1 pc = .ok (.laload, 1)) (hc : h.2 a = some (.inl (.long, n, .inr (.inl f)))) (hin : vp_in i n) (hv : f i.toNatClampNeg = v) (kk : ec_W l D kA B X R Z M uc us (pc + 1) L (.long v :: st) h) : ec_W l D kA B X R Z M uc us pc L (.int i :: .ref a :: st) h := by
  intro p e s m args below meth c H locs ls hx hb hr hml hown hts hlk hnm hK hX hB hP hS hl
  subst hv
  have hlt : i.toNatClampNeg < n := Nat.not_le.mp fun q => hin (Or.inr q)
  exact W.lald (v := .long (f i.toNatClampNeg)) hx hb (hP.2 a _ hc).2 ((hK.2.1 .long (by decide)).1.1 n (fun j => .long (f j))) (fun q => by cases q) (by show ¬ (i < 0 ∨ (arrV _ _ _).slots.size ≤ _); rw [arrV_size]; exact hin) (by show (arrV _ _ _).slots[_]? = _; rw [arrV_read _ _ hlt]) rfl rfl hd (kk p e s m args below meth c H locs ls hx hb hr hml hown hts hlk hnm hK hX hB hP hS hl)
theorem e_aald {a n : Nat} {ty : FieldType} {f : Nat → Option Nat} {i : Int32} {v : Value} (hd : decode M.2.1 pc = .ok (.aaload, 1)) (hty : ty ∈ ec_tys) (href : ty.isReference = true) (hc : h.2 a = some (.inl (ty, n, .inr (.inr (.inr (.inr f)))))) (hin : vp_in i n) (hv : va_rf (f i.toNatClampNeg) = v) (kk : ec_W l D kA B X R Z M uc us (pc + 1) L (v :: st) h) : ec_W l D kA B X R Z M uc us pc L (.int i :: .ref a :: st) h := by
  intro p e s m args below meth c H locs ls hx hb hr hml hown hts hlk hnm hK hX hB hP hS hl
  subst hv
  have hlt : i.toNatClampNeg < n := Nat.not_le.mp fun q => hin (Or.inr q)
  exact W.aald (v := va_rf (f i.toNatClampNeg)) (ty := ty) hx hb (hP.2 a _ hc).2 ((hK.2.1 ty hty).1.1 n (fun j => va_rf (f j))) href (fun q => by cases q) (by show ¬ (i < 0 ∨ (arrV _ _ _).slots.size ≤ _); rw [arrV_size]; exact hin) (by show (arrV _ _ _).slots[_]? = _; rw [arrV_read _ _ hlt]) rfl rfl hd (kk p e s m args below meth c H locs ls hx hb hr hml hown hts hlk hnm hK hX hB hP hS hl)
theorem e_iast {a n : Nat} {f : Nat → Int32} {i x : Int32} (hd : decode M.2.1 pc = .ok (.iastore, 1)) (hc : h.2 a = some (.inl (.int, n, .inl f))) (hin : vp_in i n) (kk : ec_W l D kA B X R Z M uc us (pc + 1) L st (ec_up h a (.inl (.int, n, .inl (upd f i.toNatClampNeg x))))) : ec_W l D kA B X R Z M uc us pc L (.int x :: .int i :: .ref a :: st) h := by
  intro p e s m args below meth c H locs ls hx hb hr hml hown hts hlk hnm hK hX hB hP hS hl
  obtain ⟨hBa, hat⟩ := hP.2 a _ hc
  refine W.iast hx hb hat ((hK.2.1 .int (by decide)).1.1 n (fun j => .int (f j))) (fun q => by cases q) (by show ¬ (i < 0 ∨ (arrV _ _ _).slots.size ≤ _); rw [arrV_size]; exact hin) rfl rfl hd fun H1 e1 z oq => ?_
  refine kk p e s m args below meth c H1 _ ls hx hb hr hml hown hts hlk hnm hK hX hB (ec_P_up hP hBa ?_ z oq) (hS.put z oq hBa) hl
  show H1[a]? = some (vp_cell _ _)
  rw [e1]
  rw [vp_cell_i, vp_cell_i, arrV_store]
  congr 2
  funext q
  by_cases hq : q = i.toNatClampNeg
  · subst hq
    simp [updV, upd]
  · simp [updV, upd, hq]
theorem e_zast {a n : Nat} {f : Nat → Int32} {i x y : Int32} (hd : decode M.2.1 pc = .ok (.bastore, 1)) (hc : h.2 a = some (.inl (.boolean, n, .inl f))) (hin : vp_in i n) (hy : vp_nar .boolean x = y) (kk : ec_W l D kA B X R Z M uc us (pc + 1) L st (ec_up h a (.inl (.boolean, n, .inl (upd f i.toNatClampNeg y))))) : ec_W l D kA B X R Z M uc us pc L (.int x :: .int i :: .ref a :: st) h := by
  intro p e s m args below meth c H locs ls hx hb hr hml hown hts hlk hnm hK hX hB hP hS hl
  subst hy
  obtain ⟨hBa, hat⟩ := hP.2 a _ hc
  refine W.zast hx hb hat ((hK.2.1 .boolean (by decide)).1.1 n (fun j => .int (f j))) (fun q => by cases q) (by show ¬ (i < 0 ∨ (arrV _ _ _).slots.size ≤ _); rw [arrV_size]; exact hin) rfl rfl hd fun H1 e1 z oq => ?_
  refine kk p e s m args below meth c H1 _ ls hx hb hr hml hown hts hlk hnm hK hX hB (ec_P_up hP hBa ?_ z oq) (hS.put z oq hBa) hl
  show H1[a]? = some (vp_cell _ _)
  rw [e1]
  rw [vp_cell_i, vp_cell_i, arrV_store]
  congr 2
  funext q
  by_cases hq : q = i.toNatClampNeg
  · subst hq
    simp [updV, upd, vp_nar]
    try rfl
  · simp [updV, upd, hq]
theorem e_last {a n : Nat} {f : Nat → Int64} {i : Int32} {x : Int64} (hd : decode M.2.1 pc = .ok (.lastore, 1)) (hc : h.2 a = some (.inl (.long, n, .inr (.inl f)))) (hin : vp_in i n) (kk : ec_W l D kA B X R Z M uc us (pc + 1) L st (ec_up h a (.inl (.long, n, .inr (.inl (vp_updL f i.toNatClampNeg x)))))) : ec_W l D kA B X R Z M uc us pc L (.long x :: .int i :: .ref a :: st) h := by
  intro p e s m args below meth c H locs ls hx hb hr hml hown hts hlk hnm hK hX hB hP hS hl
  obtain ⟨hBa, hat⟩ := hP.2 a _ hc
  refine W.last hx hb hat ((hK.2.1 .long (by decide)).1.1 n (fun j => .long (f j))) (fun q => by cases q) (by show ¬ (i < 0 ∨ (arrV _ _ _).slots.size ≤ _); rw [arrV_size]; exact hin) rfl rfl hd fun H1 e1 z oq => ?_
  refine kk p e s m args below meth c H1 _ ls hx hb hr hml hown hts hlk hnm hK hX hB (ec_P_up hP hBa ?_ z oq) (hS.put z oq hBa) hl
  show H1[a]? = some (vp_cell _ _)
  rw [e1]
  rw [vp_cell_l, vp_cell_l, arrV_store]
  congr 2
  funext q
  by_cases hq : q = i.toNatClampNeg
  · subst hq
    simp [updV, vp_updL]
  · simp [updV, vp_updL, hq]
theorem e_alen {a : Nat} {ty : FieldType} {x : vp_A} {v : Int32} (hd : decode M.2.1 pc = .ok (.arraylength, 1)) (hty : ty ∈ ec_tys) (hc : h.2 a = some (.inl (ty, x))) (hv : Int32.ofNat x.1 = v) (kk : ec_W l D kA B X R Z M uc us (pc + 1) L (.int v :: st) h) : ec_W l D kA B X R Z M uc us pc L (.ref a :: st) h := by
  intro p e s m args below meth c H locs ls hx hb hr hml hown hts hlk hnm hK hX hB hP hS hl
  subst hv
  have k9 := kk p e s m args below meth c H locs ls hx hb hr hml hown hts hlk hnm hK hX hB hP hS hl
  obtain ⟨n, f | f | f | f | f⟩ := x
  · exact W.alen (n := Int32.ofNat n) hx hb (hP.2 a _ hc).2 ((hK.2.1 ty hty).1.1 n (fun j => .int (f j))) (by rw [vp_cell_i, arrV_size] <;> rfl) rfl rfl hd k9
  · exact W.alen (n := Int32.ofNat n) hx hb (hP.2 a _ hc).2 ((hK.2.1 ty hty).1.1 n (fun j => .long (f j))) (by rw [vp_cell_l, arrV_size] <;> rfl) rfl rfl hd k9
  · exact W.alen (n := Int32.ofNat n) hx hb (hP.2 a _ hc).2 ((hK.2.1 ty hty).1.1 n (fun j => .float (f j))) (by rw [vp_cell_f, arrV_size] <;> rfl) rfl rfl hd k9
  · exact W.alen (n := Int32.ofNat n) hx hb (hP.2 a _ hc).2 ((hK.2.1 ty hty).1.1 n (fun j => .double (f j))) (by rw [vp_cell_d, arrV_size] <;> rfl) rfl rfl hd k9
  · exact W.alen (n := Int32.ofNat n) hx hb (hP.2 a _ hc).2 ((hK.2.1 ty hty).1.1 n (fun j => va_rf (f j))) (by rw [vp_cell_q, arrV_size] <;> rfl) rfl rfl hd k9
end ECH
end
section
section ECN
variable {l : Launch} {D : va_G} {kA : FieldType → ClassId} {B : Nat} {X : State → Prop} {R : Room} {Z : Array Value → State → List Frame → State → Prop} {M : ec_M} {uc us pc : Nat} {L : List (Option Value)} {st : List Value} {h : ec_H}
/-! new cells -/
theorem e_newa {at9 : ArrayType} {ty : FieldType} {n : Int32} {N : Nat} {a0 : vp_A} (hd : decode M.2.1 pc = .ok (.newarray at9, 2)) (hty : newarray.typeOf at9 = ty) (hw : Cond.arrayClass ty ∈ ec_tb) (ht : ty ∈ ec_tys) (ha : ∀ cA : ClassId, vp_cell cA a0 = arrV cA N (fun _ => defaultValue ty)) (hn : ¬ n < 0) (hN : n.toNatClampNeg = N) (hby : N * componentBytes ty ≤ 536870912) (hc : uc + 1 ≤ R.cells) (hs : us + N ≤ R.slots) (hB9 : B ≤ h.1)
    (kk : ec_W l D kA B X R Z M (uc + 1) (us + N) (pc + 2) L (.ref h.1 :: st) (ec_add h (.inl (ty, a0)))) : ec_W l D kA B X R Z M uc us pc L (.int n :: st) h := by
  intro p e s m args below meth c H locs ls hx hb hr hml hown hts hlk hnm hK hX hB hP hS hl
  subst hty
  refine va_newaK hx hb (hts _ hw) rfl hd rfl hn hN hby hc hs hP.1 fun H1 cA e1 z1 o1 hAr hNm => ?_
  have hcA : cA = kA (newarray.typeOf at9) := Option.some.inj (hNm.symm.trans (hK.2.1 _ ht).2)
  refine kk p e s m args below meth c H1 locs ls hx hb hr hml hown hts hlk hnm hK hX hB (ec_P_add hP hB9 ?_ (by rw [z1, hP.1]) (fun q hq => o1 q (by rw [← hP.1]; exact hq))) (ec_S_add hS (by rw [z1, hP.1]) (fun q hq => o1 q (by rw [← hP.1]; exact hq))) hl
  show H1[h.1]? = some (vp_cell _ _)
  rw [ha, ← hcA]
  exact e1
theorem e_anew {idx : Nat} {C : String} {n : Int32} {N : Nat} (hd : decode M.2.1 pc = .ok (.anewarray idx, 3)) (hC : C = "SuggestSpell$Row") (hw : Cond.classLink M.1.cls idx C ∈ ec_tb) (hn : ¬ n < 0) (hN : n.toNatClampNeg = N) (hby : N * 4 ≤ 536870912) (hc : uc + 1 ≤ R.cells) (hs : us + N ≤ R.slots) (hB9 : B ≤ h.1)
    (kk : ec_W l D kA B X R Z M (uc + 1) (us + N) (pc + 3) L (.ref h.1 :: st) (ec_add h (.inl (.object C, N, .inr (.inr (.inr (.inr (fun _ => none)))))))) : ec_W l D kA B X R Z M uc us pc L (.int n :: st) h := by
  intro p e s m args below meth c H locs ls hx hb hr hml hown hts hlk hnm hK hX hB hP hS hl
  subst hN
  subst hC
  refine W.anew hx hb hown (hts _ hw) (va_AO.use hK.2.2.2) rfl hd rfl hn hby hc hs fun cA kC comp f1 f2 f3 f4 => ?_
  have hcA : cA = kA (.object "SuggestSpell$Row") := Option.some.inj (f1.symm.trans (hK.2.1 _ (by decide)).2)
  generalize hH1 : H.push ({ cls := cA, slots := Array.replicate n.toNatClampNeg .null, vm := .none } : Cell) = H1
  have z1 : H1.size = H.size + 1 := by rw [← hH1, Array.size_push]
  have e1 : H1[H.size]? = some (arrV cA n.toNatClampNeg (fun _ => .null)) := by rw [← hH1, Array.getElem?_push_size, ← arrV_new]
  have o1 : ∀ q : Nat, q < H.size → H1[q]? = H[q]? := fun q hq => by rw [← hH1, Array.getElem?_push, if_neg (Nat.ne_of_lt hq)]
  have k9 := kk p e s m args below meth c H1 locs ls hx hb hr hml hown hts hlk hnm hK hX hB (ec_P_add hP hB9 (by
    show H1[h.1]? = some (vp_cell _ _)
    rw [vp_cell_q, ← hcA, ← hP.1]
    exact e1) z1 o1) (ec_S_add hS z1 o1) hl
  rw [← hP.1] at k9
  exact k9
/-- a class of which objects are made -/
def ec_cn (own : String) (idx ci N : Nat) (fs : List Value) : Prop := ∃ (C : String) (T : u_T) (ty : Nat → FieldType), vwCl[ci]? = some (C, T, N) ∧ (∀ w ∈ u_ws C T N, w ∈ ec_tb) ∧ (∀ k, k < N → parseFieldDescriptor (T k).2.2.1 = some (ty k)) ∧ (∀ j, j < N → defaultValue (ty j) = vp_V fs j) ∧ Cond.classLink own idx C ∈ ec_tb ∧ Cond.instantiable C N ∈ ec_tb ∧ Cond.initialized C ∈ ec_tb
theorem e_new {idx ci N : Nat} {fs : List Value} (hf : ec_cn M.1.cls idx ci N fs) (hd : decode M.2.1 pc = .ok (.new idx, 3)) (hc : uc + 1 ≤ R.cells) (hs : us + N ≤ R.slots) (hB9 : B ≤ h.1)
    (kk : ec_W l D kA B X R Z M (uc + 1) (us + N) (pc + 3) L (.ref h.1 :: st) (ec_add h (.inr (ci, fs)))) : ec_W l D kA B X R Z M uc us pc L st h := by
  intro p e s m args below meth c H locs ls hx hb hr hml hown hts hlk hnm hK hX hB hP hS hl
  obtain ⟨C, T, ty, hcl, hin, hty, hfs, w1, w2, w3⟩ := hf
  have hKn := hK.1.1 ci _ hcl
  refine W.newcK hx hb hown (hts _ w1) (hts _ w2) (hts _ w3) rfl hd hc hs hKn.2.1 hP.1 fun H1 kC hkC e1 z1 o1 => ?_
  exact kk p e s m args below meth c H1 locs ls hx hb hr hml hown hts hlk hnm hK hX hB (ec_P_add hP hB9 ⟨_, hcl, (u_born ty hts hin hKn hkC e1 hty).to hfs⟩ (by rw [z1, hP.1]) (fun q hq => o1 q (by rw [← hP.1]; exact hq))) (ec_S_add hS (by rw [z1, hP.1]) (fun q hq => o1 q (by rw [← hP.1]; exact hq))) hl
/-! ends -/
def ec_Q (D : va_G) (kA : FieldType → ClassId) (B : Nat) (Q : Option Value → ec_H → Prop) : Array Value → State → Outcome → State → Prop := fun _ st oc t => (∃ (v : Option Value) (h1 : ec_H), oc = .returned v ∧ Q v h1 ∧ ec_P D kA B h1 t.heap) ∧ va_F (fun q => B ≤ q) st t
def ec_Z (D : va_G) (kA : FieldType → ClassId) (B : Nat) (Q : Option Value → ec_H → Prop) (mc ms : Nat) : Array Value → State → List Frame → State → Prop := fun args s below => MQ below (ec_Q D kA B Q) args s mc ms (fun q => B ≤ q)
variable {Q : Option Value → ec_H → Prop} {mc ms : Nat}
theorem e_iret {v : Int32} (hd : decode M.2.1 pc = .ok (.ireturn, 1)) (hr9 : M.2.2.2 = some .int) (h1 : uc ≤ mc) (h2 : us ≤ ms) (hq : Q (some (.int v)) h) : ec_W l D kA B X R (ec_Z D kA B Q mc ms) M uc us pc L [.int v] h := by
  intro p e s m args below meth c H locs ls hx hb hr hml hown hts hlk hnm hK hX hB hP hS hl
  refine W.widen h1 h2 ?_
  exact W.iret hx hb (hr.trans hr9) (fun t ht hW => ⟨⟨_, h, rfl, hq, by rw [ht]; exact hP⟩, hS.F ht⟩) hS.2.2 hd hlk
theorem e_zret {v : Int32} (hd : decode M.2.1 pc = .ok (.ireturn, 1)) (hr9 : M.2.2.2 = some .boolean) (hn : narrow .boolean (.int v) = .int v) (h1 : uc ≤ mc) (h2 : us ≤ ms) (hq : Q (some (.int v)) h) : ec_W l D kA B X R (ec_Z D kA B Q mc ms) M uc us pc L [.int v] h := by
  intro p e s m args below meth c H locs ls hx hb hr hml hown hts hlk hnm hK hX hB hP hS hl
  refine W.widen h1 h2 ?_
  exact W.zret hx hb (hr.trans hr9) hn (fun t ht hW => ⟨⟨_, h, rfl, hq, by rw [ht]; exact hP⟩, hS.F ht⟩) hS.2.2 hd hlk
theorem e_vret (hd : decode M.2.1 pc = .ok (.return_, 1)) (hr9 : M.2.2.2 = none) (h1 : uc ≤ mc) (h2 : us ≤ ms) (hq : Q none h) : ec_W l D kA B X R (ec_Z D kA B Q mc ms) M uc us pc L [] h := by
  intro p e s m args below meth c H locs ls hx hb hr hml hown hts hlk hnm hK hX hB hP hS hl
  refine W.widen h1 h2 ?_
  exact W.vret hx hb (hr.trans hr9) (fun t ht hW => ⟨⟨_, h, rfl, hq, by rw [ht]; exact hP⟩, hS.F ht⟩) hS.2.2 hd hlk
/-! a method's contract, and its call -/
abbrev ec_room (f lo mc ms : Nat) : Room := { frames := f, cells := mc, slots := ms, locals := lo }
def ec_L0 (M : ec_M) (as : List Value) : List (Option Value) := as.map some ++ List.replicate (M.2.2.1 - as.length) none
def ec_F (l : Launch) (D : va_G) (kA : FieldType → ClassId) (B : Nat) (f lo mc ms : Nat) (M : ec_M) (as : List Value) (h : ec_H) (Q : Option Value → ec_H → Prop) : Prop := ec_W l D kA B (fun _ => True) (ec_room f lo mc ms) (ec_Z D kA B Q mc ms) M 0 0 0 (ec_L0 M as) [] h
theorem ec_args : ∀ (as : List Value) (i : Nat), (∀ v ∈ as, v.category = 1) → ∀ q : Nat × Value, (∃ k, as[k]? = some q.2 ∧ q.1 = i + k) → q ∈ lv_args i as
  | [], i, _, q, ⟨k, h1, _⟩ => by simp at h1
  | v :: vs, i, hc, q, ⟨k, h1, h2⟩ => by
    have hv : ¬ v.category = 2 := by rw [hc v List.mem_cons_self]; decide
    simp only [lv_args, if_neg hv]
    cases k with
    | zero =>
      simp only [List.getElem?_cons_zero, Option.some.injEq] at h1
      obtain ⟨q1, q2⟩ := q
      simp only at h1 h2
      subst h1
      rw [h2]
      exact List.mem_cons_self
    | succ k =>
      refine List.mem_cons_of_mem _ (ec_args vs (i + 1) (fun w hw => hc w (List.mem_cons_of_mem _ hw)) q ⟨k, by simpa using h1, by omega⟩)
theorem ec_sl : ∀ (as : List Value), (∀ v ∈ as, v.category = 1) → (lg_sl as).length = as.length
  | [], _ => rfl
  | v :: vs, hc => by
    have hv : ¬ v.category = 2 := by rw [hc v List.mem_cons_self]; decide
    have := ec_sl vs (fun w hw => hc w (List.mem_cons_of_mem _ hw))
    simp only [lg_sl, List.flatMap_cons, if_neg hv, List.length_append, List.length_cons, List.length_nil] at this ⊢
    omega
theorem ec_entry {as : List Value} {n : Nat} (hc : ∀ v ∈ as, v.category = 1) (hlen : as.length ≤ n) : lv_has ((lg_sl as ++ List.replicate (n - (lg_sl as).length) Slot.unset).toArray) n (ec_lv (as.map some ++ List.replicate (n - as.length) none)) := by
  have h1 := lv_entry as (n := n) (by rw [ec_sl as hc]; exact hlen)
  refine ⟨h1.1, h1.2.1, fun q hq => h1.2.2 q ?_⟩
  have h2 := ec_lv_of hq
  refine ec_args as 0 hc q ⟨q.1, ?_, by omega⟩
  by_cases hlt : q.1 < as.length
  · rw [List.getElem?_append_left (by simpa using hlt), List.getElem?_map] at h2
    cases h3 : as[q.1]? with
    | none => rw [h3] at h2; cases h2
    | some v => rw [h3] at h2; cases h2; rfl
  · rw [List.getElem?_append_right (by simpa using hlt)] at h2
    have := List.eq_of_mem_replicate (List.mem_of_getElem? h2)
    cases this
abbrev ec_ws (M : ec_M) : List Cond := Cond.code M.1 M.2.1 M.2.2.1 M.2.2.2 :: ec_tb
abbrev ec_Pc (D : va_G) (kA : FieldType → ClassId) (B : Nat) (as : List Value) (h : ec_H) : Array Value → State → Prop := va_Pc as (fun U => ec_P D kA B h U.heap ∧ ec_K D kA U ∧ B ≤ U.heap.size)
theorem ec_met {M : ec_M} {as : List Value} {f lo : Nat} (hM : plainName M.1.cls = true) (hc : ∀ v ∈ as, v.category = 1) (hlen : as.length ≤ M.2.2.1) (hF : ec_F l D kA B f lo mc ms M as h Q) : Met l M.1 (ec_ws M) (ec_room f lo mc ms) (ec_Pc D kA B as h) (ec_Q D kA B Q) mc ms (fun q => B ≤ q) := by
  refine Met.ofW (cc := M.2.1) (maxL := M.2.2.1) (ret := M.2.2.2) hM rfl ?_
  intro p e s m args below meth c s₁ Bd hml hv
  obtain ⟨rfl, hP, hK, hB⟩ := hv
  have hts := atoms_spec (ws := ec_ws M) Bd.pre
  rw [lg_entry_eq]
  exact hF p e s m _ below meth c s.heap [] _ Bd.exec Bd.bytes Bd.returns hml (findClass_of_methodNamed Bd.named) (fun w hw => hts w (List.mem_cons_of_mem _ hw)) Bd.notSynchronized (name_of_methodNamed Bd.named Bd.method).1 hK trivial hB hP va_S.rf (ec_entry hc hlen)
theorem ec_blind {as : List Value} : FrameBlind (ec_Pc D kA B as h) := fun a U g mk q => by
  obtain ⟨q0, q1, q2, q3⟩ := q
  exact ⟨q0, q1, ec_K.same (u := U) (U := U.calling g mk a) rfl q2, q3⟩
theorem ec_go {as rest : List Value} {st0 : List Value} {p : Program} {e : Env} {s : State} {m : MethodId} {args : Array Value} {below : List Frame} {meth : Method} {c : Code} {H : Heap} {locs : List Loc} {ls : Array Slot} {av : Array Value}
    (hr : va_Run p l e R s m args below meth c H locs uc us mc ms (F0 m pc ls st0) rest (ec_Q D kA B Q av) (fun q => B ≤ q)) (hS : va_S (fun q => B ≤ q) s.heap H locs)
    (kk : ∀ (v : Option Value) (h1 : ec_H) (H1 : Heap) (locs1 : List Loc), Q v h1 → ec_P D kA B h1 H1 → va_S (fun q => B ≤ q) s.heap H1 locs1 → W p l e R s m args below meth c H1 locs1 (uc + mc) (us + ms) (Z args s below) (F0 m (pc + 3) ls (v.toList ++ rest))) : W p l e R s m args below meth c H locs uc us (Z args s below) (F0 m pc ls st0) := by
  intro T hT X9
  obtain ⟨v, st₀, t, T', L9, h0, X', hL, e1, e2, ⟨⟨v', h1, hv, hq, hP1⟩, hz, hk⟩, stp⟩ := hr T hT X9
  cases hv
  rw [h0] at hz hk
  obtain ⟨t2, a1, b1⟩ := kk v h1 T'.heap (locs ++ L9) hq (by rw [e1]; exact hP1) ⟨Nat.le_trans hS.1 (by rw [e1]; exact hz), fun q g1 g2 => by rw [e1, hk q (Nat.lt_of_lt_of_le g1 hS.1) g2]; exact hS.2.1 q g1 g2, fun q hq => by
      rcases List.mem_append.mp hq with h | h
      · exact hS.2.2 q h
      · exact hL q h⟩ T' rfl X'
  exact ⟨t2, stp t2 a1, b1⟩
/-- the words of a call -/
def ec_cb (own : String) (idx : Nat) (M' : ec_M) (n : Nat) : Prop := Cond.methodLink own idx M'.1 ∈ ec_tb ∧ Cond.initialized M'.1.cls ∈ ec_tb ∧ Cond.code M'.1 M'.2.1 M'.2.2.1 M'.2.2.2 ∈ ec_tb ∧ plainName M'.1.cls = true ∧ (M'.1.cls ≠ "java/lang/invoke/MethodHandle" ∧ M'.1.cls ≠ "java/lang/invoke/VarHandle" ∧ (parseMethodDescriptor M'.1.desc).map (fun d => d.parameters.length) = some n)
def ec_cV (own : String) (idx : Nat) (M' : ec_M) (n ci : Nat) : Prop := ec_cb own idx M' n ∧ Cond.instanceMethod M'.1 ∈ ec_tb ∧ Cond.selects M'.1.cls M'.1 M'.1 ∈ ec_tb ∧ ∃ (T : u_T) (N : Nat), vwCl[ci]? = some (M'.1.cls, T, N)
def ec_cS (own : String) (idx : Nat) (M' : ec_M) (n : Nat) : Prop := ec_cb own idx M' n ∧ Cond.static M'.1 ∈ ec_tb
def ec_cI (own : String) (idx : Nat) (M' : ec_M) (n : Nat) : Prop := ec_cb own idx M' n ∧ Cond.instanceMethod M'.1 ∈ ec_tb ∧ M'.1.name = "<init>" ∧ M'.2.2.2 = none
theorem e_callV {idx : Nat} {M' : ec_M} {n ci b f lo mc ms : Nat} {As rest fs : List Value} (hc : ec_cV M.1.cls idx M' n ci) (hd : decode M.2.1 pc = .ok (.invokevirtual idx, 3)) (hb9 : h.2 b = some (.inr (ci, fs))) (hst : st = As.reverse ++ .ref b :: rest) (hn : As.length = n) (hca : ∀ v ∈ As, v.category = 1) (hle : As.length + 1 ≤ M'.2.2.1) (hcat : (rest.map fun v => v.category).sum ≤ 8)
    (hR : f + 1 ≤ R.frames ∧ 8 + (M'.2.2.1 + 11) + lo ≤ R.locals) (hR2 : uc + mc ≤ R.cells ∧ us + ms ≤ R.slots) {Q : Option Value → ec_H → Prop} (hF : ec_F l D kA B f lo mc ms M' (.ref b :: As) h Q)
    (kk : ∀ (v : Option Value) (h1 : ec_H), Q v h1 → ec_W l D kA B X R Z M (uc + mc) (us + ms) (pc + 3) L (v.toList ++ rest) h1) : ec_W l D kA B X R Z M uc us pc L st h := by
  intro p e s m args below meth c H locs ls hx hb hr hml hown hts hlk hnm hK hX hB hP hS hl
  subst hst
  obtain ⟨⟨w1, w2, w3, hpl, hdd⟩, w4, w5, T, N, hcl⟩ := hc
  have hM := ec_met (l := l) (D := D) (kA := kA) (B := B) (h := h) (Q := Q) hpl (fun v hv => by rcases List.mem_cons.mp hv with rfl | hv; rfl; exact hca v hv) (by simpa using hle) hF
  have hG : GoodIn ec_tb (wsV M.1.cls idx M'.1.cls M'.1 (ec_ws M')) := ec_good _ (fun w hw => by
    simp only [wsV, List.mem_append, List.mem_cons, List.not_mem_nil, or_false] at hw
    rcases hw with (rfl | rfl | rfl | rfl) | rfl | hw <;> assumption)
  obtain ⟨r, h1, cell, g1, g2, g3, -⟩ := (hP.2 b _ hb9).2
  have hr' : r = (M'.1.cls, T, N) := Option.some.inj (h1.symm.trans hcl)
  have hrun := va_runV (p := p) (e := e) (below := below) (meth := meth) (H := H) (locs := locs) (cells := uc) (slots := us) (As := As) (rest := rest) (b := b) (C := M'.1.cls) (g := F0 m pc ls (As.reverse ++ .ref b :: rest)) ⟨hx, hb, hml, hown, hts⟩ hM (cwV (R := R) n hts hG rfl rfl rfl ⟨rfl, hdd⟩ hR)
    ⟨ec_blind, ⟨cell, g1, by rw [g3]; rfl, by rw [g2]; exact (hK.1.1 ci _ hcl).2.1⟩, fun U hU hW => ⟨rfl, by rw [hU]; exact hP, ec_K.warm hW hK, by rw [hU]; exact Nat.le_trans hB hS.1⟩⟩ rfl hn hl.1 rfl (lv_room hcat) hd hR2
  exact ec_go (as := As) hrun hS (fun v h1 H1 locs1 hq hP1 hS1 => kk v h1 hq p e s m args below meth c H1 locs1 ls hx hb hr hml hown hts hlk hnm hK hX hB hP1 hS1 hl)
theorem e_callS {idx : Nat} {M' : ec_M} {n f lo mc ms : Nat} {As rest : List Value} (hc : ec_cS M.1.cls idx M' n) (hd : decode M.2.1 pc = .ok (.invokestatic idx, 3)) (hst : st = As.reverse ++ rest) (hn : As.length = n) (hca : ∀ v ∈ As, v.category = 1) (hle : As.length ≤ M'.2.2.1) (hcat : (rest.map fun v => v.category).sum ≤ 8)
    (hR : f + 1 ≤ R.frames ∧ 8 + (M'.2.2.1 + 11) + lo ≤ R.locals) (hR2 : uc + mc ≤ R.cells ∧ us + ms ≤ R.slots) {Q : Option Value → ec_H → Prop} (hF : ec_F l D kA B f lo mc ms M' As h Q)
    (kk : ∀ (v : Option Value) (h1 : ec_H), Q v h1 → ec_W l D kA B X R Z M (uc + mc) (us + ms) (pc + 3) L (v.toList ++ rest) h1) : ec_W l D kA B X R Z M uc us pc L st h := by
  intro p e s m args below meth c H locs ls hx hb hr hml hown hts hlk hnm hK hX hB hP hS hl
  subst hst
  obtain ⟨⟨w1, w2, w3, hpl, hdd⟩, w4⟩ := hc
  have hM := ec_met (l := l) (D := D) (kA := kA) (B := B) (h := h) (Q := Q) hpl hca hle hF
  have hG : GoodIn ec_tb (va_wsS M.1.cls idx M'.1 (ec_ws M')) := ec_good _ (fun w hw => by
    simp only [va_wsS, List.mem_append, List.mem_cons, List.not_mem_nil, or_false] at hw
    rcases hw with (rfl | rfl | rfl) | rfl | hw <;> assumption)
  have hrun := va_runS (p := p) (e := e) (below := below) (meth := meth) (H := H) (locs := locs) (cells := uc) (slots := us) (As := As) (rest := rest) (g := F0 m pc ls (As.reverse ++ rest)) ⟨hx, hb, hml, hown, hts⟩ hM (va_cwS (R := R) n hts hG rfl rfl rfl hdd hR)
    ⟨ec_blind, fun U hU hW => ⟨rfl, by rw [hU]; exact hP, ec_K.warm hW hK, by rw [hU]; exact Nat.le_trans hB hS.1⟩⟩ rfl hn hl.1 rfl (lv_room hcat) hd hR2
  exact ec_go (as := As) hrun hS (fun v h1 H1 locs1 hq hP1 hS1 => kk v h1 hq p e s m args below meth c H1 locs1 ls hx hb hr hml hown hts hlk hnm hK hX hB hP1 hS1 hl)
theorem e_callI {idx : Nat} {M' : ec_M} {n b f lo mc ms : Nat} {As rest : List Value} (hc : ec_cI M.1.cls idx M' n) (hd : decode M.2.1 pc = .ok (.invokespecial idx, 3)) (hst : st = As.reverse ++ .ref b :: rest) (hn : As.length = n) (hca : ∀ v ∈ As, v.category = 1) (hle : As.length + 1 ≤ M'.2.2.1) (hcat : (rest.map fun v => v.category).sum ≤ 8)
    (hR : f + 1 ≤ R.frames ∧ 8 + (M'.2.2.1 + 11) + lo ≤ R.locals) (hR2 : uc + mc ≤ R.cells ∧ us + ms ≤ R.slots) {Q : Option Value → ec_H → Prop} (hF : ec_F l D kA B f lo mc ms M' (.ref b :: As) h Q)
    (kk : ∀ (v : Option Value) (h1 : ec_H), Q v h1 → ec_W l D kA B X R Z M (uc + mc) (us + ms) (pc + 3) L (v.toList ++ rest) h1) : ec_W l D kA B X R Z M uc us pc L st h := by
  intro p e s m args below meth c H locs ls hx hb hr hml hown hts hlk hnm hK hX hB hP hS hl
  subst hst
  obtain ⟨⟨w1, w2, w3, hpl, hdd⟩, w4, hy1, hret⟩ := hc
  have hM := ec_met (l := l) (D := D) (kA := kA) (B := B) (h := h) (Q := Q) hpl (fun v hv => by rcases List.mem_cons.mp hv with rfl | hv; rfl; exact hca v hv) (by simpa using hle) hF
  have hG : GoodIn ec_tb (ec_ws M') := ec_good _ (fun w hw => by
    rcases List.mem_cons.mp hw with rfl | hw <;> assumption)
  have hrun := va_runI (p := p) (e := e) (below := below) (meth := meth) (H := H) (locs := locs) (cells := uc) (slots := us) (As := As) (rest := rest) (b := b) (g := F0 m pc ls (As.reverse ++ .ref b :: rest)) ⟨hx, hb, hml, hown, hts⟩ hM (cwI (R := R) n hts hG (by rw [← hret]) rfl rfl (hts _ w2) (hts _ w1) (hts _ w4) hy1 hdd hR)
    ⟨ec_blind, fun U hU hW => ⟨rfl, by rw [hU]; exact hP, ec_K.warm hW hK, by rw [hU]; exact Nat.le_trans hB hS.1⟩⟩ rfl hn hl.1 rfl (lv_room hcat) hd hR2
  exact ec_go (as := As) hrun hS (fun v h1 H1 locs1 hq hP1 hS1 => kk v h1 hq p e s m args below meth c H1 locs1 ls hx hb hr hml hown hts hlk hnm hK hX hB hP1 hS1 hl)
/-- a private constructor of a nest mate -/
def ec_cN (own : String) (idx : Nat) (M' : ec_M) (n : Nat) (host : String) : Prop := Cond.methodLinkNest own idx M'.1 host ∈ ec_nest ∧ Cond.initialized M'.1.cls ∈ ec_tb ∧ Cond.code M'.1 M'.2.1 M'.2.2.1 M'.2.2.2 ∈ ec_tb ∧ plainName M'.1.cls = true ∧ (M'.1.cls ≠ "java/lang/invoke/MethodHandle" ∧ M'.1.cls ≠ "java/lang/invoke/VarHandle" ∧ (parseMethodDescriptor M'.1.desc).map (fun d => d.parameters.length) = some n) ∧ Cond.instanceMethod M'.1 ∈ ec_tb ∧ M'.1.name = "<init>" ∧ M'.2.2.2 = none
theorem e_callN {idx : Nat} {M' : ec_M} {n b f lo mc ms : Nat} {As rest : List Value} (host : String) (hc : ec_cN M.1.cls idx M' n host) (hd : decode M.2.1 pc = .ok (.invokespecial idx, 3)) (hst : st = As.reverse ++ .ref b :: rest) (hn : As.length = n) (hca : ∀ v ∈ As, v.category = 1) (hle : As.length + 1 ≤ M'.2.2.1) (hcat : (rest.map fun v => v.category).sum ≤ 8)
    (hR : f + 1 ≤ R.frames ∧ 8 + (M'.2.2.1 + 11) + lo ≤ R.locals) (hR2 : uc + mc ≤ R.cells ∧ us + ms ≤ R.slots) {Q : Option Value → ec_H → Prop} (hF : ec_F l D kA B f lo mc ms M' (.ref b :: As) h Q)
    (kk : ∀ (v : Option Value) (h1 : ec_H), Q v h1 → ec_W l D kA B X R Z M (uc + mc) (us + ms) (pc + 3) L (v.toList ++ rest) h1) : ec_W l D kA B X R Z M uc us pc L st h := by
  intro p e s m args below meth c H locs ls hx hb hr hml hown hts hlk hnm hK hX hB hP hS hl
  subst hst
  obtain ⟨w1, w2, w3, hpl, hdd, w4, hy1, hret⟩ := hc
  have hM := ec_met (l := l) (D := D) (kA := kA) (B := B) (h := h) (Q := Q) hpl (fun v hv => by rcases List.mem_cons.mp hv with rfl | hv; rfl; exact hca v hv) (by simpa using hle) hF
  have hG : GoodIn ec_tb (ec_ws M') := ec_good _ (fun w hw => by
    rcases List.mem_cons.mp hw with rfl | hw <;> assumption)
  have hrun := va_runIN (p := p) (e := e) (below := below) (meth := meth) (H := H) (locs := locs) (cells := uc) (slots := us) (As := As) (rest := rest) (b := b) (g := F0 m pc ls (As.reverse ++ .ref b :: rest)) ⟨hx, hb, hml, hown, hts⟩ hM ⟨va_cnB (R := R) (args := args) n hts hG (by rw [← hret]) rfl rfl (hK.2.2.1 _ w1) (hts _ w2) hdd hR, hy1, hts _ w4⟩
    ⟨ec_blind, fun U hU hW => ⟨rfl, by rw [hU]; exact hP, ec_K.warm hW hK, by rw [hU]; exact Nat.le_trans hB hS.1⟩⟩ rfl hn hl.1 rfl (lv_room hcat) hd hR2
  exact ec_go (as := As) hrun hS (fun v h1 H1 locs1 hq hP1 hS1 => kk v h1 hq p e s m args below meth c H1 locs1 ls hx hb hr hml hown hts hlk hnm hK hX hB hP1 hS1 hl)
theorem e_obj {idx a : Nat} (hd : decode M.2.1 pc = .ok (.invokespecial idx, 3)) (w1 : Cond.methodLink M.1.cls idx objectInit ∈ ec_tb) (w2 : Cond.instanceMethod objectInit ∈ ec_tb) (w3 : Cond.code objectInit ⟨#[0xb1]⟩ 1 none ∈ ec_tb) (hf : 1 ≤ R.frames) (hlo : (st.map fun v => v.category).sum + 12 ≤ R.locals) (kk : ec_W l D kA B X R Z M uc us (pc + 3) L st h) : ec_W l D kA B X R Z M uc us pc L (.ref a :: st) h := by
  intro p e s m args below meth c H locs ls hx hb hr hml hown hts hlk hnm hK hX hB hP hS hl
  exact W.objInit hx hb hown (hts _ w1) (hts _ w2) (hts _ w3) rfl (by rw [hml]; exact hl.1) rfl hd hf (by show 2 * 0 + _ + 12 ≤ _; omega) (kk p e s m args below meth c H locs ls hx hb hr hml hown hts hlk hnm hK hX hB hP hS hl)
theorem e_min {idx : Nat} {x y v : Int32} (hd : decode M.2.1 pc = .ok (.invokestatic idx, 3)) (w1 : Cond.methodLink M.1.cls idx Lib.Math.min.name ∈ ec_tb) (w2 : Cond.static Lib.Math.min.name ∈ ec_tb) (w3 : Cond.initialized "java/lang/Math" ∈ ec_tb) (w4 : Cond.code Lib.Math.min.name Lib.Math.min.code 2 (some .int) ∈ ec_tb) (hf : 1 ≤ R.frames) (hlo : (st.map fun v => v.category).sum + 13 ≤ R.locals) (hc : uc ≤ R.cells) (hs : us ≤ R.slots) (hv : (if y < x then y else x) = v) (kk : ec_W l D kA B X R Z M uc us (pc + 3) L (.int v :: st) h) : ec_W l D kA B X R Z M uc us pc L (.int y :: .int x :: st) h := by
  intro p e s m args below meth c H locs ls hx hb hr hml hown hts hlk hnm hK hX hB hP hS hl
  subst hv
  exact va_mmin hx hb (by rw [hml]; exact hl.1.symm) hown (hts _ w1) (hts _ w2) (hts _ w3) (hts _ w4) hf hlo hc hs hd (kk p e s m args below meth c H locs ls hx hb hr hml hown hts hlk hnm hK hX hB hP hS hl)
end ECN
end
section
def ly_a (B : Nat) (m : Nat → Int32) (o : Int64) (k : Nat) : Option ec_C :=
  if k = 0 then some (.inr (9, [.ref (B + 1), .ref (B + 3), .ref (B + 32), .ref (B + 157), .ref (B + 171), .ref (B + 192), .ref (B + 196), .ref (B + 203)])) else
  if k = 1 then some (.inr (5, [.ref (B + 2), .int (m 1)])) else
  if k = 2 then some (.inl (.int, 12, .inl m)) else
  if k = 3 then some (.inr (3, [.ref (B + 4), .ref (B + 5)])) else
  if k = 4 then some (.inl (.int, 6, .inl m)) else
  if k = 5 then some (.inl (.array .int, 26, .inr (.inr (.inr (.inr (fun i => if i < 26 then some (B + (6 + i)) else none)))))) else
  if k < 32 then some (.inl (.int, 26, .inl m)) else
  if k = 32 then some (.inr (8, [.ref (B + 33), .ref (B + 34), .ref (B + 35), .ref (B + 36), .int (m 4)])) else
  if k = 33 then some (.inl (.object "SuggestSpell$Row", 60, .inr (.inr (.inr (.inr (fun i => if i < 60 then some (B + (37 + 2 * i)) else none)))))) else
  if k = 34 then some (.inl (.int, 60, .inl m)) else
  if k = 35 then some (.inl (.int, 60, .inl m)) else
  if k = 36 then some (.inl (.boolean, 3600, .inl m)) else
  none
def ly_b (B : Nat) (m : Nat → Int32) (o : Int64) (k : Nat) : Option ec_C :=
  if k < 157 then (if (k - 37) % 2 = 0 then some (.inr (5, [.ref (B + (k + 1)), .int (m 1)])) else some (.inl (.int, 12, .inl m))) else
  none
def ly_c (B : Nat) (m : Nat → Int32) (o : Int64) (k : Nat) : Option ec_C :=
  if k = 157 then some (.inr (1, [.ref (B + 158), .int (m 1)])) else
  if k = 158 then some (.inl (.object "SuggestSpell$Row", 6, .inr (.inr (.inr (.inr (fun i => if i < 6 then some (B + (159 + 2 * i)) else none)))))) else
  if k < 171 then (if (k - 159) % 2 = 0 then some (.inr (5, [.ref (B + (k + 1)), .int (m 1)])) else some (.inl (.int, 12, .inl m))) else
  none
def ly_d (B : Nat) (m : Nat → Int32) (o : Int64) (k : Nat) : Option ec_C :=
  if k = 171 then some (.inr (7, [.ref (B + 3), .ref (B + 172), .ref (B + 174), .ref (B + 176), .ref (B + 190), .ref (B + 191), .int (m 6)])) else
  if k = 172 then some (.inr (5, [.ref (B + 173), .int (m 1)])) else
  if k = 173 then some (.inl (.int, 12, .inl m)) else
  if k = 174 then some (.inr (5, [.ref (B + 175), .int (m 1)])) else
  if k = 175 then some (.inl (.int, 12, .inl m)) else
  if k = 176 then some (.inl (.array .int, 13, .inr (.inr (.inr (.inr (fun i => if i < 13 then some (B + (177 + i)) else none)))))) else
  if k < 190 then some (.inl (.int, 13, .inl m)) else
  if k = 190 then some (.inl (.int, 24, .inl m)) else
  if k = 191 then some (.inl (.int, 24, .inl m)) else
  if k = 192 then some (.inr (4, [.ref (B + 193), .ref (B + 194), .ref (B + 195), .int (m 3)])) else
  if k = 193 then some (.inl (.int, 60, .inl m)) else
  if k = 194 then some (.inl (.int, 60, .inl m)) else
  if k = 195 then some (.inl (.int, 60, .inl m)) else
  if k = 196 then some (.inr (2, [.ref (B + 197), .ref (B + 200), .int (m 2), .int (m 3), .int (m 4), .int (m 5)])) else
  if k = 197 then some (.inr (6, [.ref (B + 198), .ref (B + 199)])) else
  if k = 198 then some (.inl (.int, 13, .inl m)) else
  if k = 199 then some (.inl (.int, 13, .inl m)) else
  if k = 200 then some (.inr (6, [.ref (B + 201), .ref (B + 202)])) else
  if k = 201 then some (.inl (.int, 13, .inl m)) else
  if k = 202 then some (.inl (.int, 13, .inl m)) else
  if k = 203 then some (.inr (0, [.ref (B + 204), .ref (B + 211), .ref (B + 218), .ref (B + 225)])) else
  none
def ly_e (B : Nat) (m : Nat → Int32) (o : Int64) (k : Nat) : Option ec_C :=
  if k = 204 then some (.inl (.array .int, 6, .inr (.inr (.inr (.inr (fun i => if i < 6 then some (B + (205 + i)) else none)))))) else
  if k < 211 then some (.inl (.int, 60, .inl m)) else
  if k = 211 then some (.inl (.array .int, 6, .inr (.inr (.inr (.inr (fun i => if i < 6 then some (B + (212 + i)) else none)))))) else
  if k < 218 then some (.inl (.int, 60, .inl m)) else
  if k = 218 then some (.inl (.array .int, 6, .inr (.inr (.inr (.inr (fun i => if i < 6 then some (B + (219 + i)) else none)))))) else
  if k < 225 then some (.inl (.int, 60, .inl m)) else
  if k = 225 then some (.inl (.int, 6, .inl m)) else
  none
def ly_f (B : Nat) (m : Nat → Int32) (o : Int64) (k : Nat) : Option ec_C :=
  if k = 226 then some (.inr (10, [.int (m 0), .int (m 1), .ref (B + 227), .int (m 3), .ref (B + 228), .ref (B + 229), .ref (B + 230), .ref (B + 231), .ref (B + 232), .int (m 9), .ref (B + 233), .ref (B + 234), .ref (B + 235), .ref (B + 236), .ref (B + 237), .int (m 15), .int (m 16), .ref (B + 238), .ref (B + 239), .int (m 19), .ref (B + 240), .ref (B + 241), .int (m 22), .ref (B + 242), .ref (B + 243)])) else
  if k = 227 then some (.inl (.int, 12, .inl m)) else
  if k = 228 then some (.inl (.int, 60, .inl m)) else
  if k = 229 then some (.inl (.int, 720, .inl m)) else
  if k = 230 then some (.inl (.int, 60, .inl m)) else
  if k = 231 then some (.inl (.int, 6, .inl m)) else
  if k = 232 then some (.inl (.int, 676, .inl m)) else
  if k = 233 then some (.inl (.int, 6, .inl m)) else
  if k = 234 then some (.inl (.int, 72, .inl m)) else
  if k = 235 then some (.inl (.boolean, 3600, .inl m)) else
  if k = 236 then some (.inl (.int, 169, .inl m)) else
  if k = 237 then some (.inl (.int, 12, .inl m)) else
  if k = 238 then some (.inl (.int, 24, .inl m)) else
  if k = 239 then some (.inl (.int, 24, .inl m)) else
  if k = 240 then some (.inl (.int, 60, .inl m)) else
  if k = 241 then some (.inl (.int, 60, .inl m)) else
  if k = 242 then some (.inl (.int, 360, .inl m)) else
  if k = 243 then some (.inl (.int, 360, .inl m)) else
  if k = 244 then some (.inl (.long, 1, .inr (.inl (fun _ => o)))) else
  none
/-- the cell at an offset, with the numbers m in it -/
def ly (B : Nat) (m : Nat → Int32) (o : Int64) (k : Nat) : Option ec_C := if k < 37 then ly_a B m o k else if k < 157 then ly_b B m o k else if k < 171 then ly_c B m o k else if k < 204 then ly_d B m o k else if k < 226 then ly_e B m o k else ly_f B m o k
theorem ly_0 (B : Nat) (m : Nat → Int32) (o : Int64) : ly B m o 0 = some (.inr (9, [.ref (B + 1), .ref (B + 3), .ref (B + 32), .ref (B + 157), .ref (B + 171), .ref (B + 192), .ref (B + 196), .ref (B + 203)])) := rfl
theorem ly_1 (B : Nat) (m : Nat → Int32) (o : Int64) : ly B m o 1 = some (.inr (5, [.ref (B + 2), .int (m 1)])) := rfl
theorem ly_2 (B : Nat) (m : Nat → Int32) (o : Int64) : ly B m o 2 = some (.inl (.int, 12, .inl m)) := rfl
theorem ly_3 (B : Nat) (m : Nat → Int32) (o : Int64) : ly B m o 3 = some (.inr (3, [.ref (B + 4), .ref (B + 5)])) := rfl
theorem ly_4 (B : Nat) (m : Nat → Int32) (o : Int64) : ly B m o 4 = some (.inl (.int, 6, .inl m)) := rfl
theorem ly_5 (B : Nat) (m : Nat → Int32) (o : Int64) : ly B m o 5 = some (.inl (.array .int, 26, .inr (.inr (.inr (.inr (fun i => if i < 26 then some (B + (6 + i)) else none)))))) := rfl
theorem ly_32 (B : Nat) (m : Nat → Int32) (o : Int64) : ly B m o 32 = some (.inr (8, [.ref (B + 33), .ref (B + 34), .ref (B + 35), .ref (B + 36), .int (m 4)])) := rfl
theorem ly_33 (B : Nat) (m : Nat → Int32) (o : Int64) : ly B m o 33 = some (.inl (.object "SuggestSpell$Row", 60, .inr (.inr (.inr (.inr (fun i => if i < 60 then some (B + (37 + 2 * i)) else none)))))) := rfl
theorem ly_34 (B : Nat) (m : Nat → Int32) (o : Int64) : ly B m o 34 = some (.inl (.int, 60, .inl m)) := rfl
theorem ly_35 (B : Nat) (m : Nat → Int32) (o : Int64) : ly B m o 35 = some (.inl (.int, 60, .inl m)) := rfl
theorem ly_36 (B : Nat) (m : Nat → Int32) (o : Int64) : ly B m o 36 = some (.inl (.boolean, 3600, .inl m)) := rfl
theorem ly_157 (B : Nat) (m : Nat → Int32) (o : Int64) : ly B m o 157 = some (.inr (1, [.ref (B + 158), .int (m 1)])) := rfl
theorem ly_158 (B : Nat) (m : Nat → Int32) (o : Int64) : ly B m o 158 = some (.inl (.object "SuggestSpell$Row", 6, .inr (.inr (.inr (.inr (fun i => if i < 6 then some (B + (159 + 2 * i)) else none)))))) := rfl
theorem ly_171 (B : Nat) (m : Nat → Int32) (o : Int64) : ly B m o 171 = some (.inr (7, [.ref (B + 3), .ref (B + 172), .ref (B + 174), .ref (B + 176), .ref (B + 190), .ref (B + 191), .int (m 6)])) := rfl
theorem ly_172 (B : Nat) (m : Nat → Int32) (o : Int64) : ly B m o 172 = some (.inr (5, [.ref (B + 173), .int (m 1)])) := rfl
theorem ly_173 (B : Nat) (m : Nat → Int32) (o : Int64) : ly B m o 173 = some (.inl (.int, 12, .inl m)) := rfl
theorem ly_174 (B : Nat) (m : Nat → Int32) (o : Int64) : ly B m o 174 = some (.inr (5, [.ref (B + 175), .int (m 1)])) := rfl
theorem ly_175 (B : Nat) (m : Nat → Int32) (o : Int64) : ly B m o 175 = some (.inl (.int, 12, .inl m)) := rfl
theorem ly_176 (B : Nat) (m : Nat → Int32) (o : Int64) : ly B m o 176 = some (.inl (.array .int, 13, .inr (.inr (.inr (.inr (fun i => if i < 13 then some (B + (177 + i)) else none)))))) := rfl
theorem ly_190 (B : Nat) (m : Nat → Int32) (o : Int64) : ly B m o 190 = some (.inl (.int, 24, .inl m)) := rfl
theorem ly_191 (B : Nat) (m : Nat → Int32) (o : Int64) : ly B m o 191 = some (.inl (.int, 24, .inl m)) := rfl
theorem ly_192 (B : Nat) (m : Nat → Int32) (o : Int64) : ly B m o 192 = some (.inr (4, [.ref (B + 193), .ref (B + 194), .ref (B + 195), .int (m 3)])) := rfl
theorem ly_193 (B : Nat) (m : Nat → Int32) (o : Int64) : ly B m o 193 = some (.inl (.int, 60, .inl m)) := rfl
theorem ly_194 (B : Nat) (m : Nat → Int32) (o : Int64) : ly B m o 194 = some (.inl (.int, 60, .inl m)) := rfl
theorem ly_195 (B : Nat) (m : Nat → Int32) (o : Int64) : ly B m o 195 = some (.inl (.int, 60, .inl m)) := rfl
theorem ly_196 (B : Nat) (m : Nat → Int32) (o : Int64) : ly B m o 196 = some (.inr (2, [.ref (B + 197), .ref (B + 200), .int (m 2), .int (m 3), .int (m 4), .int (m 5)])) := rfl
theorem ly_197 (B : Nat) (m : Nat → Int32) (o : Int64) : ly B m o 197 = some (.inr (6, [.ref (B + 198), .ref (B + 199)])) := rfl
theorem ly_198 (B : Nat) (m : Nat → Int32) (o : Int64) : ly B m o 198 = some (.inl (.int, 13, .inl m)) := rfl
theorem ly_199 (B : Nat) (m : Nat → Int32) (o : Int64) : ly B m o 199 = some (.inl (.int, 13, .inl m)) := rfl
theorem ly_200 (B : Nat) (m : Nat → Int32) (o : Int64) : ly B m o 200 = some (.inr (6, [.ref (B + 201), .ref (B + 202)])) := rfl
theorem ly_201 (B : Nat) (m : Nat → Int32) (o : Int64) : ly B m o 201 = some (.inl (.int, 13, .inl m)) := rfl
theorem ly_202 (B : Nat) (m : Nat → Int32) (o : Int64) : ly B m o 202 = some (.inl (.int, 13, .inl m)) := rfl
theorem ly_203 (B : Nat) (m : Nat → Int32) (o : Int64) : ly B m o 203 = some (.inr (0, [.ref (B + 204), .ref (B + 211), .ref (B + 218), .ref (B + 225)])) := rfl
theorem ly_204 (B : Nat) (m : Nat → Int32) (o : Int64) : ly B m o 204 = some (.inl (.array .int, 6, .inr (.inr (.inr (.inr (fun i => if i < 6 then some (B + (205 + i)) else none)))))) := rfl
theorem ly_211 (B : Nat) (m : Nat → Int32) (o : Int64) : ly B m o 211 = some (.inl (.array .int, 6, .inr (.inr (.inr (.inr (fun i => if i < 6 then some (B + (212 + i)) else none)))))) := rfl
theorem ly_218 (B : Nat) (m : Nat → Int32) (o : Int64) : ly B m o 218 = some (.inl (.array .int, 6, .inr (.inr (.inr (.inr (fun i => if i < 6 then some (B + (219 + i)) else none)))))) := rfl
theorem ly_225 (B : Nat) (m : Nat → Int32) (o : Int64) : ly B m o 225 = some (.inl (.int, 6, .inl m)) := rfl
theorem ly_226 (B : Nat) (m : Nat → Int32) (o : Int64) : ly B m o 226 = some (.inr (10, [.int (m 0), .int (m 1), .ref (B + 227), .int (m 3), .ref (B + 228), .ref (B + 229), .ref (B + 230), .ref (B + 231), .ref (B + 232), .int (m 9), .ref (B + 233), .ref (B + 234), .ref (B + 235), .ref (B + 236), .ref (B + 237), .int (m 15), .int (m 16), .ref (B + 238), .ref (B + 239), .int (m 19), .ref (B + 240), .ref (B + 241), .int (m 22), .ref (B + 242), .ref (B + 243)])) := rfl
theorem ly_227 (B : Nat) (m : Nat → Int32) (o : Int64) : ly B m o 227 = some (.inl (.int, 12, .inl m)) := rfl
theorem ly_228 (B : Nat) (m : Nat → Int32) (o : Int64) : ly B m o 228 = some (.inl (.int, 60, .inl m)) := rfl
theorem ly_229 (B : Nat) (m : Nat → Int32) (o : Int64) : ly B m o 229 = some (.inl (.int, 720, .inl m)) := rfl
theorem ly_230 (B : Nat) (m : Nat → Int32) (o : Int64) : ly B m o 230 = some (.inl (.int, 60, .inl m)) := rfl
theorem ly_231 (B : Nat) (m : Nat → Int32) (o : Int64) : ly B m o 231 = some (.inl (.int, 6, .inl m)) := rfl
theorem ly_232 (B : Nat) (m : Nat → Int32) (o : Int64) : ly B m o 232 = some (.inl (.int, 676, .inl m)) := rfl
theorem ly_233 (B : Nat) (m : Nat → Int32) (o : Int64) : ly B m o 233 = some (.inl (.int, 6, .inl m)) := rfl
theorem ly_234 (B : Nat) (m : Nat → Int32) (o : Int64) : ly B m o 234 = some (.inl (.int, 72, .inl m)) := rfl
theorem ly_235 (B : Nat) (m : Nat → Int32) (o : Int64) : ly B m o 235 = some (.inl (.boolean, 3600, .inl m)) := rfl
theorem ly_236 (B : Nat) (m : Nat → Int32) (o : Int64) : ly B m o 236 = some (.inl (.int, 169, .inl m)) := rfl
theorem ly_237 (B : Nat) (m : Nat → Int32) (o : Int64) : ly B m o 237 = some (.inl (.int, 12, .inl m)) := rfl
theorem ly_238 (B : Nat) (m : Nat → Int32) (o : Int64) : ly B m o 238 = some (.inl (.int, 24, .inl m)) := rfl
theorem ly_239 (B : Nat) (m : Nat → Int32) (o : Int64) : ly B m o 239 = some (.inl (.int, 24, .inl m)) := rfl
theorem ly_240 (B : Nat) (m : Nat → Int32) (o : Int64) : ly B m o 240 = some (.inl (.int, 60, .inl m)) := rfl
theorem ly_241 (B : Nat) (m : Nat → Int32) (o : Int64) : ly B m o 241 = some (.inl (.int, 60, .inl m)) := rfl
theorem ly_242 (B : Nat) (m : Nat → Int32) (o : Int64) : ly B m o 242 = some (.inl (.int, 360, .inl m)) := rfl
theorem ly_243 (B : Nat) (m : Nat → Int32) (o : Int64) : ly B m o 243 = some (.inl (.int, 360, .inl m)) := rfl
theorem ly_244 (B : Nat) (m : Nat → Int32) (o : Int64) : ly B m o 244 = some (.inl (.long, 1, .inr (.inl (fun _ => o)))) := rfl
theorem ly_own (B : Nat) (m : Nat → Int32) (o : Int64) {i : Nat} (hi : i < 26) : ly B m o (6 + i) = some (.inl (.int, 26, .inl m)) := by
  unfold ly ly_a ly_b ly_c ly_d ly_e
  repeat (first | rw [if_neg (by omega)] | rw [if_pos (by omega)])
  all_goals first | rfl | (rw [show 6 + i + 1 = 6 + i by omega])
theorem ly_wr (B : Nat) (m : Nat → Int32) (o : Int64) {i : Nat} (hi : i < 60) : ly B m o (37 + 2 * i) = some (.inr (5, [.ref (B + (38 + 2 * i)), .int (m 1)])) := by
  unfold ly ly_a ly_b ly_c ly_d ly_e
  repeat (first | rw [if_neg (by omega)] | rw [if_pos (by omega)])
  all_goals first | rfl | (rw [show 37 + 2 * i + 1 = 38 + 2 * i by omega])
theorem ly_wl (B : Nat) (m : Nat → Int32) (o : Int64) {i : Nat} (hi : i < 60) : ly B m o (38 + 2 * i) = some (.inl (.int, 12, .inl m)) := by
  unfold ly ly_a ly_b ly_c ly_d ly_e
  repeat (first | rw [if_neg (by omega)] | rw [if_pos (by omega)])
  all_goals first | rfl | (rw [show 38 + 2 * i + 1 = 38 + 2 * i by omega])
theorem ly_tr (B : Nat) (m : Nat → Int32) (o : Int64) {i : Nat} (hi : i < 6) : ly B m o (159 + 2 * i) = some (.inr (5, [.ref (B + (160 + 2 * i)), .int (m 1)])) := by
  unfold ly ly_a ly_b ly_c ly_d ly_e
  repeat (first | rw [if_neg (by omega)] | rw [if_pos (by omega)])
  all_goals first | rfl | (rw [show 159 + 2 * i + 1 = 160 + 2 * i by omega])
theorem ly_tl (B : Nat) (m : Nat → Int32) (o : Int64) {i : Nat} (hi : i < 6) : ly B m o (160 + 2 * i) = some (.inl (.int, 12, .inl m)) := by
  unfold ly ly_a ly_b ly_c ly_d ly_e
  repeat (first | rw [if_neg (by omega)] | rw [if_pos (by omega)])
  all_goals first | rfl | (rw [show 160 + 2 * i + 1 = 160 + 2 * i by omega])
theorem ly_le (B : Nat) (m : Nat → Int32) (o : Int64) {i : Nat} (hi : i < 13) : ly B m o (177 + i) = some (.inl (.int, 13, .inl m)) := by
  unfold ly ly_a ly_b ly_c ly_d ly_e
  repeat (first | rw [if_neg (by omega)] | rw [if_pos (by omega)])
  all_goals first | rfl | (rw [show 177 + i + 1 = 177 + i by omega])
theorem ly_cd (B : Nat) (m : Nat → Int32) (o : Int64) {i : Nat} (hi : i < 6) : ly B m o (205 + i) = some (.inl (.int, 60, .inl m)) := by
  unfold ly ly_a ly_b ly_c ly_d ly_e
  repeat (first | rw [if_neg (by omega)] | rw [if_pos (by omega)])
  all_goals first | rfl | (rw [show 205 + i + 1 = 205 + i by omega])
theorem ly_cc (B : Nat) (m : Nat → Int32) (o : Int64) {i : Nat} (hi : i < 6) : ly B m o (212 + i) = some (.inl (.int, 60, .inl m)) := by
  unfold ly ly_a ly_b ly_c ly_d ly_e
  repeat (first | rw [if_neg (by omega)] | rw [if_pos (by omega)])
  all_goals first | rfl | (rw [show 212 + i + 1 = 212 + i by omega])
theorem ly_cx (B : Nat) (m : Nat → Int32) (o : Int64) {i : Nat} (hi : i < 6) : ly B m o (219 + i) = some (.inl (.int, 60, .inl m)) := by
  unfold ly ly_a ly_b ly_c ly_d ly_e
  repeat (first | rw [if_neg (by omega)] | rw [if_pos (by omega)])
  all_goals first | rfl | (rw [show 219 + i + 1 = 219 + i by omega])
/-- the numbers in the cells: an offset, a place -/
abbrev mm_M : Type := Nat → Nat → Int32
/-- the heap behind the constructors, of a size, with the numbers m, and o in the law's long array -/
def lay (B sz : Nat) (o : Int64) (m : mm_M) : ec_H := (sz, fun a => if B ≤ a then ly B (m (a - B)) o (a - B) else none)
def wr (m : mm_M) (k j : Nat) (x : Int32) : mm_M := fun a i => if a = k ∧ i = j then x else m a i
theorem wr_same (m : mm_M) (k j : Nat) (x : Int32) : wr m k j x k j = x := by simp [wr]
theorem wr_row (m : mm_M) (k j : Nat) (x : Int32) : wr m k j x k = upd (m k) j x := by funext i; simp [wr, upd]
theorem wr_off (m : mm_M) {k j a : Nat} (x : Int32) (h : a ≠ k) : wr m k j x a = m a := by funext i; simp [wr, h]
theorem wr_ne (m : mm_M) {k j a i : Nat} (x : Int32) (h : a ≠ k ∨ i ≠ j) : wr m k j x a i = m a i := by
  unfold wr
  rw [if_neg]
  rintro ⟨h1, h2⟩
  rcases h with h | h
  · exact h h1
  · exact h h2
theorem lay_at {B sz : Nat} {o : Int64} {m : mm_M} {k : Nat} : (lay B sz o m).2 (B + k) = ly B (m k) o k := by
  simp [lay]
theorem lay_up {B sz : Nat} {o : Int64} {m : mm_M} {k j : Nat} {x : Int32} {c : ec_C} (hc : ly B (upd (m k) j x) o k = some c) : ec_up (lay B sz o m) (B + k) c = lay B sz o (wr m k j x) := by
  unfold ec_up lay
  congr 1
  funext a
  by_cases h : a = B + k
  · subst h
    rw [if_pos rfl, if_pos (Nat.le_add_right _ _), Nat.add_sub_cancel_left, wr_row, hc]
  · rw [if_neg h]
    dsimp only
    by_cases hB : B ≤ a
    · rw [if_pos hB, if_pos hB, wr_off _ _ (by omega)]
    · rw [if_neg hB, if_neg hB]
section MMR
variable {l : Launch} {D : va_G} {kA : FieldType → ClassId} {B : Nat} {X : State → Prop} {R : Room} {Z : Array Value → State → List Frame → State → Prop} {M : ec_M} {uc us pc : Nat} {L : List (Option Value)} {st : List Value} {sz : Nat} {o : Int64} {m : mm_M}
theorem m_get {idx k : Nat} {fs : List Value} {v : Value} (ci j : Nat) (hf : ec_fl M.1.cls idx ci j) (hd : decode M.2.1 pc = .ok (.getfield idx, 3)) (hc : ly B (m k) o k = some (.inr (ci, fs))) (hv : fs[j]? = some v) (kk : ec_W l D kA B X R Z M uc us (pc + 3) L (v :: st) (lay B sz o m)) : ec_W l D kA B X R Z M uc us pc L (.ref (B + k) :: st) (lay B sz o m) := e_get ci j hf hd (lay_at.trans hc) hv kk
theorem m_puti {idx k : Nat} {fs fs' : List Value} {x : Int32} (ci j : Nat) (hf : ec_fp M.1.cls idx ci j false .int) (hd : decode M.2.1 pc = .ok (.putfield idx, 3)) (hc : ly B (m k) o k = some (.inr (ci, fs))) (hlt : j < fs.length) (hc' : ly B (upd (m k) j x) o k = some (.inr (ci, fs'))) (hfs : fs.set j (.int x) = fs') (kk : ec_W l D kA B X R Z M uc us (pc + 3) L st (lay B sz o (wr m k j x))) : ec_W l D kA B X R Z M uc us pc L (.int x :: .ref (B + k) :: st) (lay B sz o m) := by
  refine e_put ci j false hf (fun h => by cases h) hd (lay_at.trans hc) rfl rfl hlt ?_
  rw [lay_up (hc'.trans (by rw [hfs]))]
  exact kk
theorem m_iald {k N : Nat} {i : Int32} (n : Nat) (hd : decode M.2.1 pc = .ok (.iaload, 1)) (hc : ly B (m k) o k = some (.inl (.int, N, .inl (m k)))) (hi : i = nI n) (hn : n < N) (hN : N < 2 ^ 31) (kk : ec_W l D kA B X R Z M uc us (pc + 1) L (.int (m k n) :: st) (lay B sz o m)) : ec_W l D kA B X R Z M uc us pc L (.int i :: .ref (B + k) :: st) (lay B sz o m) := by
  subst hi
  exact e_iald hd (lay_at.trans hc) (vp_in_nI hn hN) (by rw [nI_clamp (by omega)]) kk
theorem m_zald {k N : Nat} {i : Int32} (n : Nat) (hd : decode M.2.1 pc = .ok (.baload, 1)) (hc : ly B (m k) o k = some (.inl (.boolean, N, .inl (m k)))) (hi : i = nI n) (hn : n < N) (hN : N < 2 ^ 31) (kk : ec_W l D kA B X R Z M uc us (pc + 1) L (.int (m k n) :: st) (lay B sz o m)) : ec_W l D kA B X R Z M uc us pc L (.int i :: .ref (B + k) :: st) (lay B sz o m) := by
  subst hi
  exact e_zald hd (lay_at.trans hc) (vp_in_nI hn hN) (by rw [nI_clamp (by omega)]) kk
theorem m_iast {k N : Nat} {i x : Int32} (n : Nat) (hd : decode M.2.1 pc = .ok (.iastore, 1)) (hc : ∀ m : Nat → Int32, ly B m o k = some (.inl (.int, N, .inl m))) (hi : i = nI n) (hn : n < N) (hN : N < 2 ^ 31) (kk : ec_W l D kA B X R Z M uc us (pc + 1) L st (lay B sz o (wr m k n x))) : ec_W l D kA B X R Z M uc us pc L (.int x :: .int i :: .ref (B + k) :: st) (lay B sz o m) := by
  subst hi
  refine e_iast hd (lay_at.trans (hc _)) (vp_in_nI hn hN) ?_
  rw [nI_clamp (by omega), lay_up (hc _)]
  exact kk
theorem m_zast {k N : Nat} {i x : Int32} (n : Nat) (hd : decode M.2.1 pc = .ok (.bastore, 1)) (hc : ∀ m : Nat → Int32, ly B m o k = some (.inl (.boolean, N, .inl m))) (hi : i = nI n) (hn : n < N) (hN : N < 2 ^ 31) (hx : vp_nar .boolean x = x) (kk : ec_W l D kA B X R Z M uc us (pc + 1) L st (lay B sz o (wr m k n x))) : ec_W l D kA B X R Z M uc us pc L (.int x :: .int i :: .ref (B + k) :: st) (lay B sz o m) := by
  subst hi
  refine e_zast hd (lay_at.trans (hc _)) (vp_in_nI hn hN) hx ?_
  rw [nI_clamp (by omega), lay_up (hc _)]
  exact kk
theorem m_aald {k N r : Nat} {ty : FieldType} {f : Nat → Option Nat} {i : Int32} (n : Nat) (hd : decode M.2.1 pc = .ok (.aaload, 1)) (hty : ty ∈ ec_tys) (href : ty.isReference = true) (hc : ly B (m k) o k = some (.inl (ty, N, .inr (.inr (.inr (.inr f)))))) (hi : i = nI n) (hn : n < N) (hN : N < 2 ^ 31) (hr : f n = some (B + r)) (kk : ec_W l D kA B X R Z M uc us (pc + 1) L (.ref (B + r) :: st) (lay B sz o m)) : ec_W l D kA B X R Z M uc us pc L (.int i :: .ref (B + k) :: st) (lay B sz o m) := by
  subst hi
  exact e_aald hd hty href (lay_at.trans hc) (vp_in_nI hn hN) (by rw [nI_clamp (by omega), hr]; rfl) kk
theorem e_top {v w : Int32} {h : ec_H} (hv : v = w) (kk : ec_W l D kA B X R Z M uc us pc L (.int w :: st) h) : ec_W l D kA B X R Z M uc us pc L (.int v :: st) h := hv ▸ kk
/-- what a method leaves, by the numbers -/
def mq (B sz : Nat) (o : Int64) (P : Option Value → mm_M → Prop) : Option Value → ec_H → Prop := fun v h1 => ∃ m' : mm_M, h1 = lay B sz o m' ∧ P v m'
/-- a method's contract over the numbers: no new cells -/
def mm_F (l : Launch) (D : va_G) (kA : FieldType → ClassId) (B sz : Nat) (o : Int64) (f lo : Nat) (M : ec_M) (as : List Value) (m : mm_M) (P : Option Value → mm_M → Prop) : Prop := ec_F l D kA B f lo 0 0 M as (lay B sz o m) (mq B sz o P)
theorem mm_F.imp {f lo : Nat} {M : ec_M} {as : List Value} {P P' : Option Value → mm_M → Prop} (h : mm_F l D kA B sz o f lo M as m P) (hi : ∀ v m', P v m' → P' v m') : mm_F l D kA B sz o f lo M as m P' := by
  intro p e s m9 args below meth c H locs ls hx hb hr hml hown hts hlk hnm hK hX hB hP hS hl
  intro T hT X9
  obtain ⟨t, a1, o9, b1, b2, b3, b4⟩ := h p e s m9 args below meth c H locs ls hx hb hr hml hown hts hlk hnm hK hX hB hP hS hl T hT X9
  obtain ⟨⟨v, h1, c1, ⟨m', c2, c3⟩, c4⟩, c5⟩ := b3
  exact ⟨t, a1, o9, b1, b2, ⟨⟨v, h1, c1, ⟨m', c2, hi v m' c3⟩, c4⟩, c5⟩, b4⟩
variable {P : Option Value → mm_M → Prop}
theorem m_iret {v : Int32} {uc us mc ms : Nat} (hd : decode M.2.1 pc = .ok (.ireturn, 1)) (hr9 : M.2.2.2 = some .int) (h1 : uc ≤ mc) (h2 : us ≤ ms) (hq : P (some (.int v)) m) : ec_W l D kA B X R (ec_Z D kA B (mq B sz o P) mc ms) M uc us pc L [.int v] (lay B sz o m) := e_iret hd hr9 h1 h2 ⟨m, rfl, hq⟩
theorem m_zret {v : Int32} {uc us mc ms : Nat} (hd : decode M.2.1 pc = .ok (.ireturn, 1)) (hr9 : M.2.2.2 = some .boolean) (hn : narrow .boolean (.int v) = .int v) (h1 : uc ≤ mc) (h2 : us ≤ ms) (hq : P (some (.int v)) m) : ec_W l D kA B X R (ec_Z D kA B (mq B sz o P) mc ms) M uc us pc L [.int v] (lay B sz o m) := e_zret hd hr9 hn h1 h2 ⟨m, rfl, hq⟩
theorem m_vret {uc us mc ms : Nat} (hd : decode M.2.1 pc = .ok (.return_, 1)) (hr9 : M.2.2.2 = none) (h1 : uc ≤ mc) (h2 : us ≤ ms) (hq : P none m) : ec_W l D kA B X R (ec_Z D kA B (mq B sz o P) mc ms) M uc us pc L [] (lay B sz o m) := e_vret hd hr9 h1 h2 ⟨m, rfl, hq⟩
theorem m_callV {idx k : Nat} {M' : ec_M} {n ci f lo : Nat} {As rest fs : List Value} (hc : ec_cV M.1.cls idx M' n ci) (hd : decode M.2.1 pc = .ok (.invokevirtual idx, 3)) (hb9 : ly B (m k) o k = some (.inr (ci, fs))) (hst : st = As.reverse ++ .ref (B + k) :: rest) (hn : As.length = n) (hca : ∀ v ∈ As, v.category = 1) (hle : As.length + 1 ≤ M'.2.2.1) (hcat : (rest.map fun v => v.category).sum ≤ 8)
    (hR : f + 1 ≤ R.frames ∧ 8 + (M'.2.2.1 + 11) + lo ≤ R.locals) (hR2 : uc + 0 ≤ R.cells ∧ us + 0 ≤ R.slots) (hF : mm_F l D kA B sz o f lo M' (.ref (B + k) :: As) m P)
    (kk : ∀ (v : Option Value) (m' : mm_M), P v m' → ec_W l D kA B X R Z M uc us (pc + 3) L (v.toList ++ rest) (lay B sz o m')) : ec_W l D kA B X R Z M uc us pc L st (lay B sz o m) :=
  e_callV hc hd (lay_at.trans hb9) hst hn hca hle hcat hR hR2 hF (fun v h1 ⟨m', e, hp⟩ => by subst e; exact kk v m' hp)
theorem m_callS {idx : Nat} {M' : ec_M} {n f lo : Nat} {As rest : List Value} (hc : ec_cS M.1.cls idx M' n) (hd : decode M.2.1 pc = .ok (.invokestatic idx, 3)) (hst : st = As.reverse ++ rest) (hn : As.length = n) (hca : ∀ v ∈ As, v.category = 1) (hle : As.length ≤ M'.2.2.1) (hcat : (rest.map fun v => v.category).sum ≤ 8)
    (hR : f + 1 ≤ R.frames ∧ 8 + (M'.2.2.1 + 11) + lo ≤ R.locals) (hR2 : uc + 0 ≤ R.cells ∧ us + 0 ≤ R.slots) (hF : mm_F l D kA B sz o f lo M' As m P)
    (kk : ∀ (v : Option Value) (m' : mm_M), P v m' → ec_W l D kA B X R Z M uc us (pc + 3) L (v.toList ++ rest) (lay B sz o m')) : ec_W l D kA B X R Z M uc us pc L st (lay B sz o m) :=
  e_callS hc hd hst hn hca hle hcat hR hR2 hF (fun v h1 ⟨m', e, hp⟩ => by subst e; exact kk v m' hp)
end MMR
end
section
abbrev mX9_init : ec_M := (yX9_init, cX9_init, 1, none)
set_option maxRecDepth 20000 in
theorem wc_X9_init : Cond.code mX9_init.1 mX9_init.2.1 mX9_init.2.2.1 mX9_init.2.2.2 ∈ ec_tb := (ec_in 22 rfl rfl)
abbrev mX5_init : ec_M := (yX5_init, cX5_init, 1, none)
set_option maxRecDepth 20000 in
theorem wc_X5_init : Cond.code mX5_init.1 mX5_init.2.1 mX5_init.2.2.1 mX5_init.2.2.2 ∈ ec_tb := (ec_in 30 rfl rfl)
abbrev mX3_init : ec_M := (yX3_init, cX3_init, 2, none)
set_option maxRecDepth 20000 in
theorem wc_X3_init : Cond.code mX3_init.1 mX3_init.2.1 mX3_init.2.2.1 mX3_init.2.2.2 ∈ ec_tb := (ec_in 49 rfl rfl)
abbrev mJ7_fill_53178 : ec_M := (yJ7_fill_53178, cJ7_fill_53178, 4, none)
set_option maxRecDepth 20000 in
theorem wc_J7_fill_53178 : Cond.code mJ7_fill_53178.1 mJ7_fill_53178.2.1 mJ7_fill_53178.2.2.1 mJ7_fill_53178.2.2.2 ∈ ec_tb := (ec_in 55 rfl rfl)
abbrev mX8_init : ec_M := (yX8_init, cX8_init, 2, none)
set_option maxRecDepth 20000 in
theorem wc_X8_init : Cond.code mX8_init.1 mX8_init.2.1 mX8_init.2.2.1 mX8_init.2.2.2 ∈ ec_tb := (ec_in 70 rfl rfl)
abbrev mX1_init : ec_M := (yX1_init, cX1_init, 2, none)
set_option maxRecDepth 20000 in
theorem wc_X1_init : Cond.code mX1_init.1 mX1_init.2.1 mX1_init.2.2.1 mX1_init.2.2.2 ∈ ec_tb := (ec_in 106 rfl rfl)
abbrev mX7_init : ec_M := (yX7_init, cX7_init, 2, none)
set_option maxRecDepth 20000 in
theorem wc_X7_init : Cond.code mX7_init.1 mX7_init.2.1 mX7_init.2.2.1 mX7_init.2.2.2 ∈ ec_tb := (ec_in 124 rfl rfl)
abbrev mX4_init : ec_M := (yX4_init, cX4_init, 1, none)
set_option maxRecDepth 20000 in
theorem wc_X4_init : Cond.code mX4_init.1 mX4_init.2.1 mX4_init.2.2.1 mX4_init.2.2.2 ∈ ec_tb := (ec_in 156 rfl rfl)
abbrev mX2_init : ec_M := (yX2_init, cX2_init, 1, none)
set_option maxRecDepth 20000 in
theorem wc_X2_init : Cond.code mX2_init.1 mX2_init.2.1 mX2_init.2.2.1 mX2_init.2.2.2 ∈ ec_tb := (ec_in 177 rfl rfl)
abbrev mX6_init : ec_M := (yX6_init, cX6_init, 1, none)
set_option maxRecDepth 20000 in
theorem wc_X6_init : Cond.code mX6_init.1 mX6_init.2.1 mX6_init.2.2.1 mX6_init.2.2.2 ∈ ec_tb := (ec_in 183 rfl rfl)
abbrev mX0_init : ec_M := (yX0_init, cX0_init, 1, none)
set_option maxRecDepth 20000 in
theorem wc_X0_init : Cond.code mX0_init.1 mX0_init.2.1 mX0_init.2.2.1 mX0_init.2.2.2 ∈ ec_tb := (ec_in 222 rfl rfl)
abbrev mX9_letter : ec_M := (yX9_letter, cX9_letter, 2, (some .int))
set_option maxRecDepth 20000 in
theorem wc_X9_letter : Cond.code mX9_letter.1 mX9_letter.2.1 mX9_letter.2.2.1 mX9_letter.2.2.2 ∈ ec_tb := (ec_in 267 rfl rfl)
abbrev mX9_isLetter : ec_M := (yX9_isLetter, cX9_isLetter, 1, (some .boolean))
set_option maxRecDepth 20000 in
theorem wc_X9_isLetter : Cond.code mX9_isLetter.1 mX9_isLetter.2.1 mX9_isLetter.2.2.1 mX9_isLetter.2.2.2 ∈ ec_tb := (ec_in 270 rfl rfl)
abbrev mX5_add : ec_M := (yX5_add, cX5_add, 2, (some .boolean))
set_option maxRecDepth 20000 in
theorem wc_X5_add : Cond.code mX5_add.1 mX5_add.2.1 mX5_add.2.2.1 mX5_add.2.2.2 ∈ ec_tb := (ec_in 274 rfl rfl)
abbrev mX9_clear : ec_M := (yX9_clear, cX9_clear, 2, (some .int))
set_option maxRecDepth 20000 in
theorem wc_X9_clear : Cond.code mX9_clear.1 mX9_clear.2.1 mX9_clear.2.2.1 mX9_clear.2.2.2 ∈ ec_tb := (ec_in 278 rfl rfl)
abbrev mX9_word : ec_M := (yX9_word, cX9_word, 2, (some .int))
set_option maxRecDepth 20000 in
theorem wc_X9_word : Cond.code mX9_word.1 mX9_word.2.1 mX9_word.2.2.1 mX9_word.2.2.2 ∈ ec_tb := (ec_in 282 rfl rfl)
abbrev mX9_isCount : ec_M := (yX9_isCount, cX9_isCount, 1, (some .boolean))
set_option maxRecDepth 20000 in
theorem wc_X9_isCount : Cond.code mX9_isCount.1 mX9_isCount.2.1 mX9_isCount.2.2.1 mX9_isCount.2.2.2 ∈ ec_tb := (ec_in 285 rfl rfl)
abbrev mX8_hasRow : ec_M := (yX8_hasRow, cX8_hasRow, 3, (some .boolean))
set_option maxRecDepth 20000 in
theorem wc_X8_hasRow : Cond.code mX8_hasRow.1 mX8_hasRow.2.1 mX8_hasRow.2.2.1 mX8_hasRow.2.2.2 ∈ ec_tb := (ec_in 289 rfl rfl)
abbrev mX5_compareWith : ec_M := (yX5_compareWith, cX5_compareWith, 4, (some .int))
set_option maxRecDepth 20000 in
theorem wc_X5_compareWith : Cond.code mX5_compareWith.1 mX5_compareWith.2.1 mX5_compareWith.2.2.1 mX5_compareWith.2.2.2 ∈ ec_tb := (ec_in 293 rfl rfl)
abbrev mX8_add : ec_M := (yX8_add, cX8_add, 5, (some .int))
set_option maxRecDepth 20000 in
theorem wc_X8_add : Cond.code mX8_add.1 mX8_add.2.1 mX8_add.2.2.1 mX8_add.2.2.2 ∈ ec_tb := (ec_in 300 rfl rfl)
abbrev mX5_copyOf : ec_M := (yX5_copyOf, cX5_copyOf, 3, none)
set_option maxRecDepth 20000 in
theorem wc_X5_copyOf : Cond.code mX5_copyOf.1 mX5_copyOf.2.1 mX5_copyOf.2.2.1 mX5_copyOf.2.2.2 ∈ ec_tb := (ec_in 304 rfl rfl)
abbrev mX9_count : ec_M := (yX9_count, cX9_count, 4, (some .int))
set_option maxRecDepth 20000 in
theorem wc_X9_count : Cond.code mX9_count.1 mX9_count.2.1 mX9_count.2.2.1 mX9_count.2.2.2 ∈ ec_tb := (ec_in 309 rfl rfl)
abbrev mX8_has : ec_M := (yX8_has, cX8_has, 2, (some .boolean))
set_option maxRecDepth 20000 in
theorem wc_X8_has : Cond.code mX8_has.1 mX8_has.2.1 mX8_has.2.2.1 mX8_has.2.2.2 ∈ ec_tb := (ec_in 313 rfl rfl)
abbrev mX9_at : ec_M := (yX9_at, cX9_at, 4, (some .int))
set_option maxRecDepth 20000 in
theorem wc_X9_at : Cond.code mX9_at.1 mX9_at.2.1 mX9_at.2.2.1 mX9_at.2.2.2 ∈ ec_tb := (ec_in 317 rfl rfl)
abbrev mX8_rankOf : ec_M := (yX8_rankOf, cX8_rankOf, 4, (some .int))
set_option maxRecDepth 20000 in
theorem wc_X8_rankOf : Cond.code mX8_rankOf.1 mX8_rankOf.2.1 mX8_rankOf.2.2.1 mX8_rankOf.2.2.2 ∈ ec_tb := (ec_in 321 rfl rfl)
abbrev mX9_price : ec_M := (yX9_price, cX9_price, 5, (some .int))
set_option maxRecDepth 20000 in
theorem wc_X9_price : Cond.code mX9_price.1 mX9_price.2.1 mX9_price.2.2.1 mX9_price.2.2.2 ∈ ec_tb := (ec_in 325 rfl rfl)
abbrev mX9_near : ec_M := (yX9_near, cX9_near, 5, (some .int))
set_option maxRecDepth 20000 in
theorem wc_X9_near : Cond.code mX9_near.1 mX9_near.2.1 mX9_near.2.2.1 mX9_near.2.2.2 ∈ ec_tb := (ec_in 329 rfl rfl)
abbrev mX9_distance : ec_M := (yX9_distance, cX9_distance, 2, (some .int))
set_option maxRecDepth 20000 in
theorem wc_X9_distance : Cond.code mX9_distance.1 mX9_distance.2.1 mX9_distance.2.2.1 mX9_distance.2.2.2 ∈ ec_tb := (ec_in 333 rfl rfl)
abbrev mX9_priceOfWord : ec_M := (yX9_priceOfWord, cX9_priceOfWord, 2, (some .int))
set_option maxRecDepth 20000 in
theorem wc_X9_priceOfWord : Cond.code mX9_priceOfWord.1 mX9_priceOfWord.2.1 mX9_priceOfWord.2.2.1 mX9_priceOfWord.2.2.2 ∈ ec_tb := (ec_in 337 rfl rfl)
abbrev mX7_measure : ec_M := (yX7_measure, cX7_measure, 3, (some .int))
set_option maxRecDepth 20000 in
theorem wc_X7_measure : Cond.code mX7_measure.1 mX7_measure.2.1 mX7_measure.2.2.1 mX7_measure.2.2.2 ∈ ec_tb := (ec_in 341 rfl rfl)
abbrev mX7_fill : ec_M := (yX7_fill, cX7_fill, 3, none)
set_option maxRecDepth 20000 in
theorem wc_X7_fill : Cond.code mX7_fill.1 mX7_fill.2.1 mX7_fill.2.2.1 mX7_fill.2.2.2 ∈ ec_tb := (ec_in 346 rfl rfl)
abbrev mX7_cheapest : ec_M := (yX7_cheapest, cX7_cheapest, 4, (some .int))
set_option maxRecDepth 20000 in
theorem wc_X7_cheapest : Cond.code mX7_cheapest.1 mX7_cheapest.2.1 mX7_cheapest.2.2.1 mX7_cheapest.2.2.2 ∈ ec_tb := (ec_in 350 rfl rfl)
abbrev mX7_byLast : ec_M := (yX7_byLast, cX7_byLast, 3, (some .int))
set_option maxRecDepth 20000 in
theorem wc_X7_byLast : Cond.code mX7_byLast.1 mX7_byLast.2.1 mX7_byLast.2.2.1 mX7_byLast.2.2.2 ∈ ec_tb := (ec_in 354 rfl rfl)
abbrev mX3_ofBecoming : ec_M := (yX3_ofBecoming, cX3_ofBecoming, 4, (some .int))
set_option maxRecDepth 20000 in
theorem wc_X3_ofBecoming : Cond.code mX3_ofBecoming.1 mX3_ofBecoming.2.1 mX3_ofBecoming.2.2.1 mX3_ofBecoming.2.2.2 ∈ ec_tb := (ec_in 358 rfl rfl)
abbrev mX7_mayChange : ec_M := (yX7_mayChange, cX7_mayChange, 3, (some .boolean))
set_option maxRecDepth 20000 in
theorem wc_X7_mayChange : Cond.code mX7_mayChange.1 mX7_mayChange.2.1 mX7_mayChange.2.2.1 mX7_mayChange.2.2.2 ∈ ec_tb := (ec_in 363 rfl rfl)
abbrev mX7_byChange : ec_M := (yX7_byChange, cX7_byChange, 3, (some .int))
set_option maxRecDepth 20000 in
theorem wc_X7_byChange : Cond.code mX7_byChange.1 mX7_byChange.2.1 mX7_byChange.2.2.1 mX7_byChange.2.2.2 ∈ ec_tb := (ec_in 367 rfl rfl)
abbrev mX7_priceOfFirst : ec_M := (yX7_priceOfFirst, cX7_priceOfFirst, 2, (some .int))
set_option maxRecDepth 20000 in
theorem wc_X7_priceOfFirst : Cond.code mX7_priceOfFirst.1 mX7_priceOfFirst.2.1 mX7_priceOfFirst.2.2.1 mX7_priceOfFirst.2.2.2 ∈ ec_tb := (ec_in 371 rfl rfl)
abbrev mX9_begins : ec_M := (yX9_begins, cX9_begins, 2, (some .int))
set_option maxRecDepth 20000 in
theorem wc_X9_begins : Cond.code mX9_begins.1 mX9_begins.2.1 mX9_begins.2.2.1 mX9_begins.2.2.2 ∈ ec_tb := (ec_in 376 rfl rfl)
abbrev mX9_priceOfBeginning : ec_M := (yX9_priceOfBeginning, cX9_priceOfBeginning, 2, (some .int))
set_option maxRecDepth 20000 in
theorem wc_X9_priceOfBeginning : Cond.code mX9_priceOfBeginning.1 mX9_priceOfBeginning.2.1 mX9_priceOfBeginning.2.2.1 mX9_priceOfBeginning.2.2.2 ∈ ec_tb := (ec_in 380 rfl rfl)
abbrev mX7_leastOfBeginnings : ec_M := (yX7_leastOfBeginnings, cX7_leastOfBeginnings, 3, (some .int))
set_option maxRecDepth 20000 in
theorem wc_X7_leastOfBeginnings : Cond.code mX7_leastOfBeginnings.1 mX7_leastOfBeginnings.2.1 mX7_leastOfBeginnings.2.2.1 mX7_leastOfBeginnings.2.2.2 ∈ ec_tb := (ec_in 384 rfl rfl)
abbrev mX9_edit : ec_M := (yX9_edit, cX9_edit, 3, (some .int))
set_option maxRecDepth 20000 in
theorem wc_X9_edit : Cond.code mX9_edit.1 mX9_edit.2.1 mX9_edit.2.2.1 mX9_edit.2.2.2 ∈ ec_tb := (ec_in 388 rfl rfl)
abbrev mX9_findEdits : ec_M := (yX9_findEdits, cX9_findEdits, 2, none)
set_option maxRecDepth 20000 in
theorem wc_X9_findEdits : Cond.code mX9_findEdits.1 mX9_findEdits.2.1 mX9_findEdits.2.2.1 mX9_findEdits.2.2.2 ∈ ec_tb := (ec_in 392 rfl rfl)
abbrev mX7_trace : ec_M := (yX7_trace, cX7_trace, 5, none)
set_option maxRecDepth 20000 in
theorem wc_X7_trace : Cond.code mX7_trace.1 mX7_trace.2.1 mX7_trace.2.2.1 mX7_trace.2.2.2 ∈ ec_tb := (ec_in 396 rfl rfl)
abbrev mX7_note : ec_M := (yX7_note, cX7_note, 3, none)
set_option maxRecDepth 20000 in
theorem wc_X7_note : Cond.code mX7_note.1 mX7_note.2.1 mX7_note.2.2.1 mX7_note.2.2.2 ∈ ec_tb := (ec_in 400 rfl rfl)
abbrev mX7_kindOfEdit : ec_M := (yX7_kindOfEdit, cX7_kindOfEdit, 2, (some .int))
set_option maxRecDepth 20000 in
theorem wc_X7_kindOfEdit : Cond.code mX7_kindOfEdit.1 mX7_kindOfEdit.2.1 mX7_kindOfEdit.2.2.1 mX7_kindOfEdit.2.2.2 ∈ ec_tb := (ec_in 404 rfl rfl)
abbrev mX9_place : ec_M := (yX9_place, cX9_place, 3, (some .int))
set_option maxRecDepth 20000 in
theorem wc_X9_place : Cond.code mX9_place.1 mX9_place.2.1 mX9_place.2.2.1 mX9_place.2.2.2 ∈ ec_tb := (ec_in 408 rfl rfl)
abbrev mX7_placeOfEdit : ec_M := (yX7_placeOfEdit, cX7_placeOfEdit, 2, (some .int))
set_option maxRecDepth 20000 in
theorem wc_X7_placeOfEdit : Cond.code mX7_placeOfEdit.1 mX7_placeOfEdit.2.1 mX7_placeOfEdit.2.2.1 mX7_placeOfEdit.2.2.2 ∈ ec_tb := (ec_in 412 rfl rfl)
abbrev mX9_suggest : ec_M := (yX9_suggest, cX9_suggest, 2, (some .int))
set_option maxRecDepth 20000 in
theorem wc_X9_suggest : Cond.code mX9_suggest.1 mX9_suggest.2.1 mX9_suggest.2.2.1 mX9_suggest.2.2.2 ∈ ec_tb := (ec_in 416 rfl rfl)
abbrev mX9_howMany : ec_M := (yX9_howMany, cX9_howMany, 3, (some .int))
set_option maxRecDepth 20000 in
theorem wc_X9_howMany : Cond.code mX9_howMany.1 mX9_howMany.2.1 mX9_howMany.2.2.1 mX9_howMany.2.2.2 ∈ ec_tb := (ec_in 420 rfl rfl)
abbrev mX9_isLimit : ec_M := (yX9_isLimit, cX9_isLimit, 1, (some .boolean))
set_option maxRecDepth 20000 in
theorem wc_X9_isLimit : Cond.code mX9_isLimit.1 mX9_isLimit.2.1 mX9_isLimit.2.2.1 mX9_isLimit.2.2.2 ∈ ec_tb := (ec_in 423 rfl rfl)
abbrev mX9_rankWords : ec_M := (yX9_rankWords, cX9_rankWords, 6, none)
set_option maxRecDepth 20000 in
theorem wc_X9_rankWords : Cond.code mX9_rankWords.1 mX9_rankWords.2.1 mX9_rankWords.2.2.1 mX9_rankWords.2.2.2 ∈ ec_tb := (ec_in 427 rfl rfl)
abbrev mX4_add : ec_M := (yX4_add, cX4_add, 5, none)
set_option maxRecDepth 20000 in
theorem wc_X4_add : Cond.code mX4_add.1 mX4_add.2.1 mX4_add.2.2.1 mX4_add.2.2.2 ∈ ec_tb := (ec_in 431 rfl rfl)
abbrev mX4_isBehind : ec_M := (yX4_isBehind, cX4_isBehind, 4, (some .boolean))
set_option maxRecDepth 20000 in
theorem wc_X4_isBehind : Cond.code mX4_isBehind.1 mX4_isBehind.2.1 mX4_isBehind.2.2.1 mX4_isBehind.2.2.2 ∈ ec_tb := (ec_in 435 rfl rfl)
abbrev mX9_suggestion : ec_M := (yX9_suggestion, cX9_suggestion, 3, (some .int))
set_option maxRecDepth 20000 in
theorem wc_X9_suggestion : Cond.code mX9_suggestion.1 mX9_suggestion.2.1 mX9_suggestion.2.2.1 mX9_suggestion.2.2.2 ∈ ec_tb := (ec_in 439 rfl rfl)
abbrev mX9_rankedWord : ec_M := (yX9_rankedWord, cX9_rankedWord, 4, (some .int))
set_option maxRecDepth 20000 in
theorem wc_X9_rankedWord : Cond.code mX9_rankedWord.1 mX9_rankedWord.2.1 mX9_rankedWord.2.2.1 mX9_rankedWord.2.2.2 ∈ ec_tb := (ec_in 443 rfl rfl)
abbrev mX9_endings : ec_M := (yX9_endings, cX9_endings, 2, (some .int))
set_option maxRecDepth 20000 in
theorem wc_X9_endings : Cond.code mX9_endings.1 mX9_endings.2.1 mX9_endings.2.2.1 mX9_endings.2.2.2 ∈ ec_tb := (ec_in 447 rfl rfl)
abbrev mX9_ending : ec_M := (yX9_ending, cX9_ending, 3, (some .int))
set_option maxRecDepth 20000 in
theorem wc_X9_ending : Cond.code mX9_ending.1 mX9_ending.2.1 mX9_ending.2.2.1 mX9_ending.2.2.2 ∈ ec_tb := (ec_in 451 rfl rfl)
abbrev mX9_parting : ec_M := (yX9_parting, cX9_parting, 2, (some .int))
set_option maxRecDepth 20000 in
theorem wc_X9_parting : Cond.code mX9_parting.1 mX9_parting.2.1 mX9_parting.2.2.1 mX9_parting.2.2.2 ∈ ec_tb := (ec_in 455 rfl rfl)
abbrev mX2_find : ec_M := (yX2_find, cX2_find, 8, none)
set_option maxRecDepth 20000 in
theorem wc_X2_find : Cond.code mX2_find.1 mX2_find.2.1 mX2_find.2.2.1 mX2_find.2.2.2 ∈ ec_tb := (ec_in 459 rfl rfl)
abbrev mX2_fillSides : ec_M := (yX2_fillSides, cX2_fillSides, 6, none)
set_option maxRecDepth 20000 in
theorem wc_X2_fillSides : Cond.code mX2_fillSides.1 mX2_fillSides.2.1 mX2_fillSides.2.2.1 mX2_fillSides.2.2.2 ∈ ec_tb := (ec_in 463 rfl rfl)
abbrev mX6_empty : ec_M := (yX6_empty, cX6_empty, 1, none)
set_option maxRecDepth 20000 in
theorem wc_X6_empty : Cond.code mX6_empty.1 mX6_empty.2.1 mX6_empty.2.2.1 mX6_empty.2.2.2 ∈ ec_tb := (ec_in 467 rfl rfl)
abbrev mX6_offer : ec_M := (yX6_offer, cX6_offer, 6, none)
set_option maxRecDepth 20000 in
theorem wc_X6_offer : Cond.code mX6_offer.1 mX6_offer.2.1 mX6_offer.2.2.1 mX6_offer.2.2.2 ∈ ec_tb := (ec_in 474 rfl rfl)
abbrev mX7_measureMirrored : ec_M := (yX7_measureMirrored, cX7_measureMirrored, 3, none)
set_option maxRecDepth 20000 in
theorem wc_X7_measureMirrored : Cond.code mX7_measureMirrored.1 mX7_measureMirrored.2.1 mX7_measureMirrored.2.2.1 mX7_measureMirrored.2.2.2 ∈ ec_tb := (ec_in 479 rfl rfl)
abbrev mX5_mirrorOf : ec_M := (yX5_mirrorOf, cX5_mirrorOf, 3, none)
set_option maxRecDepth 20000 in
theorem wc_X5_mirrorOf : Cond.code mX5_mirrorOf.1 mX5_mirrorOf.2.1 mX5_mirrorOf.2.2.1 mX5_mirrorOf.2.2.2 ∈ ec_tb := (ec_in 483 rfl rfl)
abbrev mX9_token : ec_M := (yX9_token, cX9_token, 1, (some .int))
set_option maxRecDepth 20000 in
theorem wc_X9_token : Cond.code mX9_token.1 mX9_token.2.1 mX9_token.2.2.1 mX9_token.2.2.2 ∈ ec_tb := (ec_in 487 rfl rfl)
abbrev mX1_add : ec_M := (yX1_add, cX1_add, 2, (some .boolean))
set_option maxRecDepth 20000 in
theorem wc_X1_add : Cond.code mX1_add.1 mX1_add.2.1 mX1_add.2.2.1 mX1_add.2.2.2 ∈ ec_tb := (ec_in 491 rfl rfl)
abbrev mX9_line : ec_M := (yX9_line, cX9_line, 2, (some .int))
set_option maxRecDepth 20000 in
theorem wc_X9_line : Cond.code mX9_line.1 mX9_line.2.1 mX9_line.2.2.1 mX9_line.2.2.2 ∈ ec_tb := (ec_in 496 rfl rfl)
abbrev mX9_pair : ec_M := (yX9_pair, cX9_pair, 4, (some .int))
set_option maxRecDepth 20000 in
theorem wc_X9_pair : Cond.code mX9_pair.1 mX9_pair.2.1 mX9_pair.2.2.1 mX9_pair.2.2.2 ∈ ec_tb := (ec_in 500 rfl rfl)
abbrev mX8_setPair : ec_M := (yX8_setPair, cX8_setPair, 5, (some .boolean))
set_option maxRecDepth 20000 in
theorem wc_X8_setPair : Cond.code mX8_setPair.1 mX8_setPair.2.1 mX8_setPair.2.2.1 mX8_setPair.2.2.2 ∈ ec_tb := (ec_in 504 rfl rfl)
abbrev mX8_isPair : ec_M := (yX8_isPair, cX8_isPair, 3, (some .boolean))
set_option maxRecDepth 20000 in
theorem wc_X8_isPair : Cond.code mX8_isPair.1 mX8_isPair.2.1 mX8_isPair.2.2.1 mX8_isPair.2.2.2 ∈ ec_tb := (ec_in 508 rfl rfl)
abbrev mX9_chosen : ec_M := (yX9_chosen, cX9_chosen, 4, (some .int))
set_option maxRecDepth 20000 in
theorem wc_X9_chosen : Cond.code mX9_chosen.1 mX9_chosen.2.1 mX9_chosen.2.2.1 mX9_chosen.2.2.2 ∈ ec_tb := (ec_in 512 rfl rfl)
abbrev mX0_measure : ec_M := (yX0_measure, cX0_measure, 8, none)
set_option maxRecDepth 20000 in
theorem wc_X0_measure : Cond.code mX0_measure.1 mX0_measure.2.1 mX0_measure.2.2.1 mX0_measure.2.2.2 ∈ ec_tb := (ec_in 516 rfl rfl)
abbrev mX0_choose : ec_M := (yX0_choose, cX0_choose, 6, (some .int))
set_option maxRecDepth 20000 in
theorem wc_X0_choose : Cond.code mX0_choose.1 mX0_choose.2.1 mX0_choose.2.2.1 mX0_choose.2.2.2 ∈ ec_tb := (ec_in 522 rfl rfl)
abbrev mX0_goOn : ec_M := (yX0_goOn, cX0_goOn, 9, none)
set_option maxRecDepth 20000 in
theorem wc_X0_goOn : Cond.code mX0_goOn.1 mX0_goOn.2.1 mX0_goOn.2.2.1 mX0_goOn.2.2.2 ∈ ec_tb := (ec_in 526 rfl rfl)
abbrev mX0_cheapestFirst : ec_M := (yX0_cheapestFirst, cX0_cheapestFirst, 4, (some .int))
set_option maxRecDepth 20000 in
theorem wc_X0_cheapestFirst : Cond.code mX0_cheapestFirst.1 mX0_cheapestFirst.2.1 mX0_cheapestFirst.2.2.1 mX0_cheapestFirst.2.2.2 ∈ ec_tb := (ec_in 532 rfl rfl)
abbrev mX0_keepRow : ec_M := (yX0_keepRow, cX0_keepRow, 6, none)
set_option maxRecDepth 20000 in
theorem wc_X0_keepRow : Cond.code mX0_keepRow.1 mX0_keepRow.2.1 mX0_keepRow.2.2.1 mX0_keepRow.2.2.2 ∈ ec_tb := (ec_in 536 rfl rfl)
abbrev mX9_share : ec_M := (yX9_share, cX9_share, 2, (some .int))
set_option maxRecDepth 20000 in
theorem wc_X9_share : Cond.code mX9_share.1 mX9_share.2.1 mX9_share.2.2.1 mX9_share.2.2.2 ∈ ec_tb := (ec_in 545 rfl rfl)
abbrev mX10_init : ec_M := (yX10_init, cX10_init, 1, none)
set_option maxRecDepth 20000 in
theorem wc_X10_init : Cond.code mX10_init.1 mX10_init.2.1 mX10_init.2.2.1 mX10_init.2.2.2 ∈ ec_tb := (ec_in 616 rfl rfl)
abbrev mX10_thrown : ec_M := (yX10_thrown, cX10_thrown, 1, (some .int))
set_option maxRecDepth 20000 in
theorem wc_X10_thrown : Cond.code mX10_thrown.1 mX10_thrown.2.1 mX10_thrown.2.2.1 mX10_thrown.2.2.2 ∈ ec_tb := (ec_in 697 rfl rfl)
abbrev mX10_letter : ec_M := (yX10_letter, cX10_letter, 2, (some .int))
set_option maxRecDepth 20000 in
theorem wc_X10_letter : Cond.code mX10_letter.1 mX10_letter.2.1 mX10_letter.2.2.1 mX10_letter.2.2.2 ∈ ec_tb := (ec_in 701 rfl rfl)
abbrev mX10_in : ec_M := (yX10_in, cX10_in, 3, (some .boolean))
set_option maxRecDepth 20000 in
theorem wc_X10_in : Cond.code mX10_in.1 mX10_in.2.1 mX10_in.2.2.1 mX10_in.2.2.2 ∈ ec_tb := (ec_in 704 rfl rfl)
abbrev mX10_clear : ec_M := (yX10_clear, cX10_clear, 2, (some .int))
set_option maxRecDepth 20000 in
theorem wc_X10_clear : Cond.code mX10_clear.1 mX10_clear.2.1 mX10_clear.2.2.1 mX10_clear.2.2.2 ∈ ec_tb := (ec_in 708 rfl rfl)
abbrev mX10_word : ec_M := (yX10_word, cX10_word, 5, (some .int))
set_option maxRecDepth 20000 in
theorem wc_X10_word : Cond.code mX10_word.1 mX10_word.2.1 mX10_word.2.2.1 mX10_word.2.2.2 ∈ ec_tb := (ec_in 712 rfl rfl)
abbrev mX10_count : ec_M := (yX10_count, cX10_count, 4, (some .int))
set_option maxRecDepth 20000 in
theorem wc_X10_count : Cond.code mX10_count.1 mX10_count.2.1 mX10_count.2.2.1 mX10_count.2.2.2 ∈ ec_tb := (ec_in 716 rfl rfl)
abbrev mX10_isWord : ec_M := (yX10_isWord, cX10_isWord, 2, (some .boolean))
set_option maxRecDepth 20000 in
theorem wc_X10_isWord : Cond.code mX10_isWord.1 mX10_isWord.2.1 mX10_isWord.2.2.1 mX10_isWord.2.2.2 ∈ ec_tb := (ec_in 720 rfl rfl)
abbrev mX10_at : ec_M := (yX10_at, cX10_at, 3, (some .int))
set_option maxRecDepth 20000 in
theorem wc_X10_at : Cond.code mX10_at.1 mX10_at.2.1 mX10_at.2.2.1 mX10_at.2.2.2 ∈ ec_tb := (ec_in 724 rfl rfl)
abbrev mX10_rank : ec_M := (yX10_rank, cX10_rank, 4, (some .int))
set_option maxRecDepth 20000 in
theorem wc_X10_rank : Cond.code mX10_rank.1 mX10_rank.2.1 mX10_rank.2.2.1 mX10_rank.2.2.2 ∈ ec_tb := (ec_in 728 rfl rfl)
abbrev mX10_isAhead : ec_M := (yX10_isAhead, cX10_isAhead, 4, (some .boolean))
set_option maxRecDepth 20000 in
theorem wc_X10_isAhead : Cond.code mX10_isAhead.1 mX10_isAhead.2.1 mX10_isAhead.2.2.1 mX10_isAhead.2.2.2 ∈ ec_tb := (ec_in 732 rfl rfl)
abbrev mX10_price : ec_M := (yX10_price, cX10_price, 4, (some .int))
set_option maxRecDepth 20000 in
theorem wc_X10_price : Cond.code mX10_price.1 mX10_price.2.1 mX10_price.2.2.1 mX10_price.2.2.2 ∈ ec_tb := (ec_in 736 rfl rfl)
abbrev mX10_near : ec_M := (yX10_near, cX10_near, 5, (some .int))
set_option maxRecDepth 20000 in
theorem wc_X10_near : Cond.code mX10_near.1 mX10_near.2.1 mX10_near.2.2.1 mX10_near.2.2.2 ∈ ec_tb := (ec_in 740 rfl rfl)
abbrev mX10_distance : ec_M := (yX10_distance, cX10_distance, 2, (some .int))
set_option maxRecDepth 20000 in
theorem wc_X10_distance : Cond.code mX10_distance.1 mX10_distance.2.1 mX10_distance.2.2.1 mX10_distance.2.2.2 ∈ ec_tb := (ec_in 744 rfl rfl)
abbrev mX10_takeTyped : ec_M := (yX10_takeTyped, cX10_takeTyped, 4, none)
set_option maxRecDepth 20000 in
theorem wc_X10_takeTyped : Cond.code mX10_takeTyped.1 mX10_takeTyped.2.1 mX10_takeTyped.2.2.1 mX10_takeTyped.2.2.2 ∈ ec_tb := (ec_in 748 rfl rfl)
abbrev mX10_fill : ec_M := (yX10_fill, cX10_fill, 8, (some .int))
set_option maxRecDepth 20000 in
theorem wc_X10_fill : Cond.code mX10_fill.1 mX10_fill.2.1 mX10_fill.2.2.1 mX10_fill.2.2.2 ∈ ec_tb := (ec_in 752 rfl rfl)
abbrev mX10_becomes : ec_M := (yX10_becomes, cX10_becomes, 4, (some .int))
set_option maxRecDepth 20000 in
theorem wc_X10_becomes : Cond.code mX10_becomes.1 mX10_becomes.2.1 mX10_becomes.2.2.1 mX10_becomes.2.2.2 ∈ ec_tb := (ec_in 757 rfl rfl)
abbrev mX10_isTurned : ec_M := (yX10_isTurned, cX10_isTurned, 4, (some .boolean))
set_option maxRecDepth 20000 in
theorem wc_X10_isTurned : Cond.code mX10_isTurned.1 mX10_isTurned.2.1 mX10_isTurned.2.2.1 mX10_isTurned.2.2.2 ∈ ec_tb := (ec_in 761 rfl rfl)
abbrev mX10_begins : ec_M := (yX10_begins, cX10_begins, 2, (some .int))
set_option maxRecDepth 20000 in
theorem wc_X10_begins : Cond.code mX10_begins.1 mX10_begins.2.1 mX10_begins.2.2.1 mX10_begins.2.2.2 ∈ ec_tb := (ec_in 765 rfl rfl)
abbrev mX10_beginsBy : ec_M := (yX10_beginsBy, cX10_beginsBy, 5, (some .int))
set_option maxRecDepth 20000 in
theorem wc_X10_beginsBy : Cond.code mX10_beginsBy.1 mX10_beginsBy.2.1 mX10_beginsBy.2.2.1 mX10_beginsBy.2.2.2 ∈ ec_tb := (ec_in 769 rfl rfl)
abbrev mX10_edit : ec_M := (yX10_edit, cX10_edit, 3, (some .int))
set_option maxRecDepth 20000 in
theorem wc_X10_edit : Cond.code mX10_edit.1 mX10_edit.2.1 mX10_edit.2.2.1 mX10_edit.2.2.2 ∈ ec_tb := (ec_in 773 rfl rfl)
abbrev mX10_find : ec_M := (yX10_find, cX10_find, 8, none)
set_option maxRecDepth 20000 in
theorem wc_X10_find : Cond.code mX10_find.1 mX10_find.2.1 mX10_find.2.2.1 mX10_find.2.2.2 ∈ ec_tb := (ec_in 777 rfl rfl)
abbrev mX10_note : ec_M := (yX10_note, cX10_note, 3, none)
set_option maxRecDepth 20000 in
theorem wc_X10_note : Cond.code mX10_note.1 mX10_note.2.1 mX10_note.2.2.1 mX10_note.2.2.2 ∈ ec_tb := (ec_in 781 rfl rfl)
abbrev mX10_place : ec_M := (yX10_place, cX10_place, 3, (some .int))
set_option maxRecDepth 20000 in
theorem wc_X10_place : Cond.code mX10_place.1 mX10_place.2.1 mX10_place.2.2.1 mX10_place.2.2.2 ∈ ec_tb := (ec_in 785 rfl rfl)
abbrev mX10_suggest : ec_M := (yX10_suggest, cX10_suggest, 2, (some .int))
set_option maxRecDepth 20000 in
theorem wc_X10_suggest : Cond.code mX10_suggest.1 mX10_suggest.2.1 mX10_suggest.2.2.1 mX10_suggest.2.2.2 ∈ ec_tb := (ec_in 789 rfl rfl)
abbrev mX10_look : ec_M := (yX10_look, cX10_look, 6, none)
set_option maxRecDepth 20000 in
theorem wc_X10_look : Cond.code mX10_look.1 mX10_look.2.1 mX10_look.2.2.1 mX10_look.2.2.2 ∈ ec_tb := (ec_in 793 rfl rfl)
abbrev mX10_isBefore : ec_M := (yX10_isBefore, cX10_isBefore, 5, (some .boolean))
set_option maxRecDepth 20000 in
theorem wc_X10_isBefore : Cond.code mX10_isBefore.1 mX10_isBefore.2.1 mX10_isBefore.2.2.1 mX10_isBefore.2.2.2 ∈ ec_tb := (ec_in 797 rfl rfl)
abbrev mX10_suggestion : ec_M := (yX10_suggestion, cX10_suggestion, 3, (some .int))
set_option maxRecDepth 20000 in
theorem wc_X10_suggestion : Cond.code mX10_suggestion.1 mX10_suggestion.2.1 mX10_suggestion.2.2.1 mX10_suggestion.2.2.2 ∈ ec_tb := (ec_in 801 rfl rfl)
abbrev mX10_endings : ec_M := (yX10_endings, cX10_endings, 2, (some .int))
set_option maxRecDepth 20000 in
theorem wc_X10_endings : Cond.code mX10_endings.1 mX10_endings.2.1 mX10_endings.2.2.1 mX10_endings.2.2.2 ∈ ec_tb := (ec_in 805 rfl rfl)
abbrev mX10_ending : ec_M := (yX10_ending, cX10_ending, 3, (some .int))
set_option maxRecDepth 20000 in
theorem wc_X10_ending : Cond.code mX10_ending.1 mX10_ending.2.1 mX10_ending.2.2.1 mX10_ending.2.2.2 ∈ ec_tb := (ec_in 809 rfl rfl)
abbrev mX10_parting : ec_M := (yX10_parting, cX10_parting, 10, (some .int))
set_option maxRecDepth 20000 in
theorem wc_X10_parting : Cond.code mX10_parting.1 mX10_parting.2.1 mX10_parting.2.2.1 mX10_parting.2.2.2 ∈ ec_tb := (ec_in 813 rfl rfl)
abbrev mX10_side : ec_M := (yX10_side, cX10_side, 6, (some .int))
set_option maxRecDepth 20000 in
theorem wc_X10_side : Cond.code mX10_side.1 mX10_side.2.1 mX10_side.2.2.1 mX10_side.2.2.2 ∈ ec_tb := (ec_in 817 rfl rfl)
abbrev mX10_token : ec_M := (yX10_token, cX10_token, 2, (some .int))
set_option maxRecDepth 20000 in
theorem wc_X10_token : Cond.code mX10_token.1 mX10_token.2.1 mX10_token.2.2.1 mX10_token.2.2.2 ∈ ec_tb := (ec_in 821 rfl rfl)
abbrev mX10_line : ec_M := (yX10_line, cX10_line, 2, (some .int))
set_option maxRecDepth 20000 in
theorem wc_X10_line : Cond.code mX10_line.1 mX10_line.2.1 mX10_line.2.2.1 mX10_line.2.2.2 ∈ ec_tb := (ec_in 825 rfl rfl)
abbrev mX10_pair : ec_M := (yX10_pair, cX10_pair, 5, (some .int))
set_option maxRecDepth 20000 in
theorem wc_X10_pair : Cond.code mX10_pair.1 mX10_pair.2.1 mX10_pair.2.2.1 mX10_pair.2.2.2 ∈ ec_tb := (ec_in 829 rfl rfl)
abbrev mX10_chosen : ec_M := (yX10_chosen, cX10_chosen, 9, (some .int))
set_option maxRecDepth 20000 in
theorem wc_X10_chosen : Cond.code mX10_chosen.1 mX10_chosen.2.1 mX10_chosen.2.2.1 mX10_chosen.2.2.2 ∈ ec_tb := (ec_in 833 rfl rfl)
abbrev mX10_nextTo : ec_M := (yX10_nextTo, cX10_nextTo, 3, (some .int))
set_option maxRecDepth 20000 in
theorem wc_X10_nextTo : Cond.code mX10_nextTo.1 mX10_nextTo.2.1 mX10_nextTo.2.2.1 mX10_nextTo.2.2.2 ∈ ec_tb := (ec_in 837 rfl rfl)
abbrev mX10_share : ec_M := (yX10_share, cX10_share, 2, (some .int))
set_option maxRecDepth 20000 in
theorem wc_X10_share : Cond.code mX10_share.1 mX10_share.2.1 mX10_share.2.2.1 mX10_share.2.2.2 ∈ ec_tb := (ec_in 841 rfl rfl)
set_option maxRecDepth 20000 in
theorem uw_0 : ∀ w ∈ u_ws RX0 TX0 4, w ∈ ec_tb := List.forall_mem_cons.mpr ⟨(ec_in 230 rfl rfl), List.forall_mem_cons.mpr ⟨(ec_in 232 rfl rfl), List.forall_mem_cons.mpr ⟨(ec_in 234 rfl rfl), List.forall_mem_cons.mpr ⟨(ec_in 236 rfl rfl), fun _ h => absurd h List.not_mem_nil⟩⟩⟩⟩
set_option maxRecDepth 20000 in
theorem uw_1 : ∀ w ∈ u_ws RX1 TX1 2, w ∈ ec_tb := List.forall_mem_cons.mpr ⟨(ec_in 115 rfl rfl), List.forall_mem_cons.mpr ⟨(ec_in 117 rfl rfl), fun _ h => absurd h List.not_mem_nil⟩⟩
set_option maxRecDepth 20000 in
theorem uw_2 : ∀ w ∈ u_ws RX2 TX2 6, w ∈ ec_tb := List.forall_mem_cons.mpr ⟨(ec_in 205 rfl rfl), List.forall_mem_cons.mpr ⟨(ec_in 207 rfl rfl), List.forall_mem_cons.mpr ⟨(ec_in 209 rfl rfl), List.forall_mem_cons.mpr ⟨(ec_in 211 rfl rfl), List.forall_mem_cons.mpr ⟨(ec_in 213 rfl rfl), List.forall_mem_cons.mpr ⟨(ec_in 215 rfl rfl), fun _ h => absurd h List.not_mem_nil⟩⟩⟩⟩⟩⟩
set_option maxRecDepth 20000 in
theorem uw_3 : ∀ w ∈ u_ws RX3 TX3 2, w ∈ ec_tb := List.forall_mem_cons.mpr ⟨(ec_in 61 rfl rfl), List.forall_mem_cons.mpr ⟨(ec_in 63 rfl rfl), fun _ h => absurd h List.not_mem_nil⟩⟩
set_option maxRecDepth 20000 in
theorem uw_4 : ∀ w ∈ u_ws RX4 TX4 4, w ∈ ec_tb := List.forall_mem_cons.mpr ⟨(ec_in 164 rfl rfl), List.forall_mem_cons.mpr ⟨(ec_in 166 rfl rfl), List.forall_mem_cons.mpr ⟨(ec_in 168 rfl rfl), List.forall_mem_cons.mpr ⟨(ec_in 170 rfl rfl), fun _ h => absurd h List.not_mem_nil⟩⟩⟩⟩
set_option maxRecDepth 20000 in
theorem uw_5 : ∀ w ∈ u_ws RX5 TX5 2, w ∈ ec_tb := List.forall_mem_cons.mpr ⟨(ec_in 39 rfl rfl), List.forall_mem_cons.mpr ⟨(ec_in 41 rfl rfl), fun _ h => absurd h List.not_mem_nil⟩⟩
set_option maxRecDepth 20000 in
theorem uw_6 : ∀ w ∈ u_ws RX6 TX6 2, w ∈ ec_tb := List.forall_mem_cons.mpr ⟨(ec_in 189 rfl rfl), List.forall_mem_cons.mpr ⟨(ec_in 191 rfl rfl), fun _ h => absurd h List.not_mem_nil⟩⟩
set_option maxRecDepth 20000 in
theorem uw_7 : ∀ w ∈ u_ws RX7 TX7 7, w ∈ ec_tb := List.forall_mem_cons.mpr ⟨(ec_in 137 rfl rfl), List.forall_mem_cons.mpr ⟨(ec_in 139 rfl rfl), List.forall_mem_cons.mpr ⟨(ec_in 141 rfl rfl), List.forall_mem_cons.mpr ⟨(ec_in 143 rfl rfl), List.forall_mem_cons.mpr ⟨(ec_in 145 rfl rfl), List.forall_mem_cons.mpr ⟨(ec_in 147 rfl rfl), List.forall_mem_cons.mpr ⟨(ec_in 149 rfl rfl), fun _ h => absurd h List.not_mem_nil⟩⟩⟩⟩⟩⟩⟩
set_option maxRecDepth 20000 in
theorem uw_8 : ∀ w ∈ u_ws RX8 TX8 5, w ∈ ec_tb := List.forall_mem_cons.mpr ⟨(ec_in 90 rfl rfl), List.forall_mem_cons.mpr ⟨(ec_in 92 rfl rfl), List.forall_mem_cons.mpr ⟨(ec_in 94 rfl rfl), List.forall_mem_cons.mpr ⟨(ec_in 96 rfl rfl), List.forall_mem_cons.mpr ⟨(ec_in 98 rfl rfl), fun _ h => absurd h List.not_mem_nil⟩⟩⟩⟩⟩
set_option maxRecDepth 20000 in
theorem uw_9 : ∀ w ∈ u_ws RX9 TX9 8, w ∈ ec_tb := List.forall_mem_cons.mpr ⟨(ec_in 247 rfl rfl), List.forall_mem_cons.mpr ⟨(ec_in 249 rfl rfl), List.forall_mem_cons.mpr ⟨(ec_in 251 rfl rfl), List.forall_mem_cons.mpr ⟨(ec_in 253 rfl rfl), List.forall_mem_cons.mpr ⟨(ec_in 255 rfl rfl), List.forall_mem_cons.mpr ⟨(ec_in 257 rfl rfl), List.forall_mem_cons.mpr ⟨(ec_in 259 rfl rfl), List.forall_mem_cons.mpr ⟨(ec_in 261 rfl rfl), fun _ h => absurd h List.not_mem_nil⟩⟩⟩⟩⟩⟩⟩⟩
set_option maxRecDepth 20000 in
theorem uw_10 : ∀ w ∈ u_ws RX10 TX10 25, w ∈ ec_tb := List.forall_mem_cons.mpr ⟨(ec_in 643 rfl rfl), List.forall_mem_cons.mpr ⟨(ec_in 645 rfl rfl), List.forall_mem_cons.mpr ⟨(ec_in 647 rfl rfl), List.forall_mem_cons.mpr ⟨(ec_in 649 rfl rfl), List.forall_mem_cons.mpr ⟨(ec_in 651 rfl rfl), List.forall_mem_cons.mpr ⟨(ec_in 653 rfl rfl), List.forall_mem_cons.mpr ⟨(ec_in 655 rfl rfl), List.forall_mem_cons.mpr ⟨(ec_in 657 rfl rfl), List.forall_mem_cons.mpr ⟨(ec_in 659 rfl rfl), List.forall_mem_cons.mpr ⟨(ec_in 661 rfl rfl), List.forall_mem_cons.mpr ⟨(ec_in 663 rfl rfl), List.forall_mem_cons.mpr ⟨(ec_in 665 rfl rfl), List.forall_mem_cons.mpr ⟨(ec_in 667 rfl rfl), List.forall_mem_cons.mpr ⟨(ec_in 669 rfl rfl), List.forall_mem_cons.mpr ⟨(ec_in 671 rfl rfl), List.forall_mem_cons.mpr ⟨(ec_in 673 rfl rfl), List.forall_mem_cons.mpr ⟨(ec_in 675 rfl rfl), List.forall_mem_cons.mpr ⟨(ec_in 677 rfl rfl), List.forall_mem_cons.mpr ⟨(ec_in 679 rfl rfl), List.forall_mem_cons.mpr ⟨(ec_in 681 rfl rfl), List.forall_mem_cons.mpr ⟨(ec_in 683 rfl rfl), List.forall_mem_cons.mpr ⟨(ec_in 685 rfl rfl), List.forall_mem_cons.mpr ⟨(ec_in 687 rfl rfl), List.forall_mem_cons.mpr ⟨(ec_in 689 rfl rfl), List.forall_mem_cons.mpr ⟨(ec_in 691 rfl rfl), fun _ h => absurd h List.not_mem_nil⟩⟩⟩⟩⟩⟩⟩⟩⟩⟩⟩⟩⟩⟩⟩⟩⟩⟩⟩⟩⟩⟩⟩⟩⟩
set_option maxRecDepth 20000 in
theorem lf_X5_9 : ec_fl RX5 9 5 0 := ⟨RX5, TX5, 2, rfl, by decide, uw_5, (ec_in 32 rfl rfl)⟩
set_option maxRecDepth 20000 in
theorem lp_X5_9 : ec_fp RX5 9 5 0 true (tyX5 0) := ⟨RX5, TX5, 2, tyX5, rfl, by decide, uw_5, (ec_in 32 rfl rfl), tyX5_ok, nmX5, rfl, rfl, fun _ => rfl⟩
set_option maxRecDepth 20000 in
theorem lf_X9_106 : ec_fl RX9 106 5 0 := ⟨RX5, TX5, 2, rfl, by decide, uw_5, (ec_in 33 rfl rfl)⟩
set_option maxRecDepth 20000 in
theorem lf_X7_68 : ec_fl RX7 68 5 0 := ⟨RX5, TX5, 2, rfl, by decide, uw_5, (ec_in 34 rfl rfl)⟩
set_option maxRecDepth 20000 in
theorem lf_X5_15 : ec_fl RX5 15 5 1 := ⟨RX5, TX5, 2, rfl, by decide, uw_5, (ec_in 35 rfl rfl)⟩
set_option maxRecDepth 20000 in
theorem lp_X5_15 : ec_fp RX5 15 5 1 false (tyX5 1) := ⟨RX5, TX5, 2, tyX5, rfl, by decide, uw_5, (ec_in 35 rfl rfl), tyX5_ok, nmX5, rfl, rfl, fun h => nomatch h⟩
set_option maxRecDepth 20000 in
theorem lf_X2_39 : ec_fl RX2 39 5 1 := ⟨RX5, TX5, 2, rfl, by decide, uw_5, (ec_in 36 rfl rfl)⟩
set_option maxRecDepth 20000 in
theorem lp_X2_39 : ec_fp RX2 39 5 1 false (tyX5 1) := ⟨RX5, TX5, 2, tyX5, rfl, by decide, uw_5, (ec_in 36 rfl rfl), tyX5_ok, nmX5, rfl, rfl, fun h => nomatch h⟩
set_option maxRecDepth 20000 in
theorem lf_X7_48 : ec_fl RX7 48 5 1 := ⟨RX5, TX5, 2, rfl, by decide, uw_5, (ec_in 37 rfl rfl)⟩
set_option maxRecDepth 20000 in
theorem lp_X7_48 : ec_fp RX7 48 5 1 false (tyX5 1) := ⟨RX5, TX5, 2, tyX5, rfl, by decide, uw_5, (ec_in 37 rfl rfl), tyX5_ok, nmX5, rfl, rfl, fun h => nomatch h⟩
set_option maxRecDepth 20000 in
theorem lf_X9_74 : ec_fl RX9 74 5 1 := ⟨RX5, TX5, 2, rfl, by decide, uw_5, (ec_in 38 rfl rfl)⟩
set_option maxRecDepth 20000 in
theorem lp_X9_74 : ec_fp RX9 74 5 1 false (tyX5 1) := ⟨RX5, TX5, 2, tyX5, rfl, by decide, uw_5, (ec_in 38 rfl rfl), tyX5_ok, nmX5, rfl, rfl, fun h => nomatch h⟩
set_option maxRecDepth 20000 in
theorem lf_X3_9 : ec_fl RX3 9 3 0 := ⟨RX3, TX3, 2, rfl, by decide, uw_3, (ec_in 56 rfl rfl)⟩
set_option maxRecDepth 20000 in
theorem lp_X3_9 : ec_fp RX3 9 3 0 true (tyX3 0) := ⟨RX3, TX3, 2, tyX3, rfl, by decide, uw_3, (ec_in 56 rfl rfl), tyX3_ok, nmX3, rfl, rfl, fun _ => rfl⟩
set_option maxRecDepth 20000 in
theorem lf_X7_82 : ec_fl RX7 82 3 0 := ⟨RX3, TX3, 2, rfl, by decide, uw_3, (ec_in 57 rfl rfl)⟩
set_option maxRecDepth 20000 in
theorem lf_X9_109 : ec_fl RX9 109 3 0 := ⟨RX3, TX3, 2, rfl, by decide, uw_3, (ec_in 58 rfl rfl)⟩
set_option maxRecDepth 20000 in
theorem lf_X3_17 : ec_fl RX3 17 3 1 := ⟨RX3, TX3, 2, rfl, by decide, uw_3, (ec_in 59 rfl rfl)⟩
set_option maxRecDepth 20000 in
theorem lp_X3_17 : ec_fp RX3 17 3 1 true (tyX3 1) := ⟨RX3, TX3, 2, tyX3, rfl, by decide, uw_3, (ec_in 59 rfl rfl), tyX3_ok, nmX3, rfl, rfl, fun _ => rfl⟩
set_option maxRecDepth 20000 in
theorem lf_X9_112 : ec_fl RX9 112 3 1 := ⟨RX3, TX3, 2, rfl, by decide, uw_3, (ec_in 60 rfl rfl)⟩
set_option maxRecDepth 20000 in
theorem lf_X8_11 : ec_fl RX8 11 8 0 := ⟨RX8, TX8, 5, rfl, by decide, uw_8, (ec_in 75 rfl rfl)⟩
set_option maxRecDepth 20000 in
theorem lp_X8_11 : ec_fp RX8 11 8 0 true (tyX8 0) := ⟨RX8, TX8, 5, tyX8, rfl, by decide, uw_8, (ec_in 75 rfl rfl), tyX8_ok, nmX8, rfl, rfl, fun _ => rfl⟩
set_option maxRecDepth 20000 in
theorem lf_X0_39 : ec_fl RX0 39 8 0 := ⟨RX8, TX8, 5, rfl, by decide, uw_8, (ec_in 76 rfl rfl)⟩
set_option maxRecDepth 20000 in
theorem lf_X2_62 : ec_fl RX2 62 8 0 := ⟨RX8, TX8, 5, rfl, by decide, uw_8, (ec_in 77 rfl rfl)⟩
set_option maxRecDepth 20000 in
theorem lf_X9_98 : ec_fl RX9 98 8 0 := ⟨RX8, TX8, 5, rfl, by decide, uw_8, (ec_in 78 rfl rfl)⟩
set_option maxRecDepth 20000 in
theorem lf_X8_17 : ec_fl RX8 17 8 1 := ⟨RX8, TX8, 5, rfl, by decide, uw_8, (ec_in 79 rfl rfl)⟩
set_option maxRecDepth 20000 in
theorem lp_X8_17 : ec_fp RX8 17 8 1 true (tyX8 1) := ⟨RX8, TX8, 5, tyX8, rfl, by decide, uw_8, (ec_in 79 rfl rfl), tyX8_ok, nmX8, rfl, rfl, fun _ => rfl⟩
set_option maxRecDepth 20000 in
theorem lf_X9_94 : ec_fl RX9 94 8 1 := ⟨RX8, TX8, 5, rfl, by decide, uw_8, (ec_in 80 rfl rfl)⟩
set_option maxRecDepth 20000 in
theorem lf_X8_21 : ec_fl RX8 21 8 2 := ⟨RX8, TX8, 5, rfl, by decide, uw_8, (ec_in 81 rfl rfl)⟩
set_option maxRecDepth 20000 in
theorem lp_X8_21 : ec_fp RX8 21 8 2 true (tyX8 2) := ⟨RX8, TX8, 5, tyX8, rfl, by decide, uw_8, (ec_in 81 rfl rfl), tyX8_ok, nmX8, rfl, rfl, fun _ => rfl⟩
set_option maxRecDepth 20000 in
theorem lf_X0_40 : ec_fl RX0 40 8 2 := ⟨RX8, TX8, 5, rfl, by decide, uw_8, (ec_in 82 rfl rfl)⟩
set_option maxRecDepth 20000 in
theorem lf_X2_59 : ec_fl RX2 59 8 2 := ⟨RX8, TX8, 5, rfl, by decide, uw_8, (ec_in 83 rfl rfl)⟩
set_option maxRecDepth 20000 in
theorem lf_X9_206 : ec_fl RX9 206 8 2 := ⟨RX8, TX8, 5, rfl, by decide, uw_8, (ec_in 84 rfl rfl)⟩
set_option maxRecDepth 20000 in
theorem lf_X8_24 : ec_fl RX8 24 8 3 := ⟨RX8, TX8, 5, rfl, by decide, uw_8, (ec_in 85 rfl rfl)⟩
set_option maxRecDepth 20000 in
theorem lp_X8_24 : ec_fp RX8 24 8 3 true (tyX8 3) := ⟨RX8, TX8, 5, tyX8, rfl, by decide, uw_8, (ec_in 85 rfl rfl), tyX8_ok, nmX8, rfl, rfl, fun _ => rfl⟩
set_option maxRecDepth 20000 in
theorem lf_X8_28 : ec_fl RX8 28 8 4 := ⟨RX8, TX8, 5, rfl, by decide, uw_8, (ec_in 86 rfl rfl)⟩
set_option maxRecDepth 20000 in
theorem lp_X8_28 : ec_fp RX8 28 8 4 false (tyX8 4) := ⟨RX8, TX8, 5, tyX8, rfl, by decide, uw_8, (ec_in 86 rfl rfl), tyX8_ok, nmX8, rfl, rfl, fun h => nomatch h⟩
set_option maxRecDepth 20000 in
theorem lf_X0_32 : ec_fl RX0 32 8 4 := ⟨RX8, TX8, 5, rfl, by decide, uw_8, (ec_in 87 rfl rfl)⟩
set_option maxRecDepth 20000 in
theorem lp_X0_32 : ec_fp RX0 32 8 4 false (tyX8 4) := ⟨RX8, TX8, 5, tyX8, rfl, by decide, uw_8, (ec_in 87 rfl rfl), tyX8_ok, nmX8, rfl, rfl, fun h => nomatch h⟩
set_option maxRecDepth 20000 in
theorem lf_X2_54 : ec_fl RX2 54 8 4 := ⟨RX8, TX8, 5, rfl, by decide, uw_8, (ec_in 88 rfl rfl)⟩
set_option maxRecDepth 20000 in
theorem lp_X2_54 : ec_fp RX2 54 8 4 false (tyX8 4) := ⟨RX8, TX8, 5, tyX8, rfl, by decide, uw_8, (ec_in 88 rfl rfl), tyX8_ok, nmX8, rfl, rfl, fun h => nomatch h⟩
set_option maxRecDepth 20000 in
theorem lf_X9_85 : ec_fl RX9 85 8 4 := ⟨RX8, TX8, 5, rfl, by decide, uw_8, (ec_in 89 rfl rfl)⟩
set_option maxRecDepth 20000 in
theorem lp_X9_85 : ec_fp RX9 85 8 4 false (tyX8 4) := ⟨RX8, TX8, 5, tyX8, rfl, by decide, uw_8, (ec_in 89 rfl rfl), tyX8_ok, nmX8, rfl, rfl, fun h => nomatch h⟩
set_option maxRecDepth 20000 in
theorem lf_X1_11 : ec_fl RX1 11 1 0 := ⟨RX1, TX1, 2, rfl, by decide, uw_1, (ec_in 110 rfl rfl)⟩
set_option maxRecDepth 20000 in
theorem lp_X1_11 : ec_fp RX1 11 1 0 true (tyX1 0) := ⟨RX1, TX1, 2, tyX1, rfl, by decide, uw_1, (ec_in 110 rfl rfl), tyX1_ok, nmX1, rfl, rfl, fun _ => rfl⟩
set_option maxRecDepth 20000 in
theorem lf_X0_35 : ec_fl RX0 35 1 0 := ⟨RX1, TX1, 2, rfl, by decide, uw_1, (ec_in 111 rfl rfl)⟩
set_option maxRecDepth 20000 in
theorem lf_X1_17 : ec_fl RX1 17 1 1 := ⟨RX1, TX1, 2, rfl, by decide, uw_1, (ec_in 112 rfl rfl)⟩
set_option maxRecDepth 20000 in
theorem lp_X1_17 : ec_fp RX1 17 1 1 false (tyX1 1) := ⟨RX1, TX1, 2, tyX1, rfl, by decide, uw_1, (ec_in 112 rfl rfl), tyX1_ok, nmX1, rfl, rfl, fun h => nomatch h⟩
set_option maxRecDepth 20000 in
theorem lf_X0_26 : ec_fl RX0 26 1 1 := ⟨RX1, TX1, 2, rfl, by decide, uw_1, (ec_in 113 rfl rfl)⟩
set_option maxRecDepth 20000 in
theorem lp_X0_26 : ec_fp RX0 26 1 1 false (tyX1 1) := ⟨RX1, TX1, 2, tyX1, rfl, by decide, uw_1, (ec_in 113 rfl rfl), tyX1_ok, nmX1, rfl, rfl, fun h => nomatch h⟩
set_option maxRecDepth 20000 in
theorem lf_X9_161 : ec_fl RX9 161 1 1 := ⟨RX1, TX1, 2, rfl, by decide, uw_1, (ec_in 114 rfl rfl)⟩
set_option maxRecDepth 20000 in
theorem lp_X9_161 : ec_fp RX9 161 1 1 false (tyX1 1) := ⟨RX1, TX1, 2, tyX1, rfl, by decide, uw_1, (ec_in 114 rfl rfl), tyX1_ok, nmX1, rfl, rfl, fun h => nomatch h⟩
set_option maxRecDepth 20000 in
theorem lf_X7_37 : ec_fl RX7 37 7 0 := ⟨RX7, TX7, 7, rfl, by decide, uw_7, (ec_in 129 rfl rfl)⟩
set_option maxRecDepth 20000 in
theorem lp_X7_37 : ec_fp RX7 37 7 0 true (tyX7 0) := ⟨RX7, TX7, 7, tyX7, rfl, by decide, uw_7, (ec_in 129 rfl rfl), tyX7_ok, nmX7, rfl, rfl, fun _ => rfl⟩
set_option maxRecDepth 20000 in
theorem lf_X7_12 : ec_fl RX7 12 7 1 := ⟨RX7, TX7, 7, rfl, by decide, uw_7, (ec_in 130 rfl rfl)⟩
set_option maxRecDepth 20000 in
theorem lp_X7_12 : ec_fp RX7 12 7 1 true (tyX7 1) := ⟨RX7, TX7, 7, tyX7, rfl, by decide, uw_7, (ec_in 130 rfl rfl), tyX7_ok, nmX7, rfl, rfl, fun _ => rfl⟩
set_option maxRecDepth 20000 in
theorem lf_X7_18 : ec_fl RX7 18 7 2 := ⟨RX7, TX7, 7, rfl, by decide, uw_7, (ec_in 131 rfl rfl)⟩
set_option maxRecDepth 20000 in
theorem lp_X7_18 : ec_fp RX7 18 7 2 true (tyX7 2) := ⟨RX7, TX7, 7, tyX7, rfl, by decide, uw_7, (ec_in 131 rfl rfl), tyX7_ok, nmX7, rfl, rfl, fun _ => rfl⟩
set_option maxRecDepth 20000 in
theorem lf_X7_23 : ec_fl RX7 23 7 3 := ⟨RX7, TX7, 7, rfl, by decide, uw_7, (ec_in 132 rfl rfl)⟩
set_option maxRecDepth 20000 in
theorem lp_X7_23 : ec_fp RX7 23 7 3 true (tyX7 3) := ⟨RX7, TX7, 7, tyX7, rfl, by decide, uw_7, (ec_in 132 rfl rfl), tyX7_ok, nmX7, rfl, rfl, fun _ => rfl⟩
set_option maxRecDepth 20000 in
theorem lf_X7_26 : ec_fl RX7 26 7 4 := ⟨RX7, TX7, 7, rfl, by decide, uw_7, (ec_in 133 rfl rfl)⟩
set_option maxRecDepth 20000 in
theorem lp_X7_26 : ec_fp RX7 26 7 4 true (tyX7 4) := ⟨RX7, TX7, 7, tyX7, rfl, by decide, uw_7, (ec_in 133 rfl rfl), tyX7_ok, nmX7, rfl, rfl, fun _ => rfl⟩
set_option maxRecDepth 20000 in
theorem lf_X7_30 : ec_fl RX7 30 7 5 := ⟨RX7, TX7, 7, rfl, by decide, uw_7, (ec_in 134 rfl rfl)⟩
set_option maxRecDepth 20000 in
theorem lp_X7_30 : ec_fp RX7 30 7 5 true (tyX7 5) := ⟨RX7, TX7, 7, tyX7, rfl, by decide, uw_7, (ec_in 134 rfl rfl), tyX7_ok, nmX7, rfl, rfl, fun _ => rfl⟩
set_option maxRecDepth 20000 in
theorem lf_X7_33 : ec_fl RX7 33 7 6 := ⟨RX7, TX7, 7, rfl, by decide, uw_7, (ec_in 135 rfl rfl)⟩
set_option maxRecDepth 20000 in
theorem lp_X7_33 : ec_fp RX7 33 7 6 false (tyX7 6) := ⟨RX7, TX7, 7, tyX7, rfl, by decide, uw_7, (ec_in 135 rfl rfl), tyX7_ok, nmX7, rfl, rfl, fun h => nomatch h⟩
set_option maxRecDepth 20000 in
theorem lf_X9_126 : ec_fl RX9 126 7 6 := ⟨RX7, TX7, 7, rfl, by decide, uw_7, (ec_in 136 rfl rfl)⟩
set_option maxRecDepth 20000 in
theorem lp_X9_126 : ec_fp RX9 126 7 6 false (tyX7 6) := ⟨RX7, TX7, 7, tyX7, rfl, by decide, uw_7, (ec_in 136 rfl rfl), tyX7_ok, nmX7, rfl, rfl, fun h => nomatch h⟩
set_option maxRecDepth 20000 in
theorem lf_X4_9 : ec_fl RX4 9 4 0 := ⟨RX4, TX4, 4, rfl, by decide, uw_4, (ec_in 158 rfl rfl)⟩
set_option maxRecDepth 20000 in
theorem lp_X4_9 : ec_fp RX4 9 4 0 true (tyX4 0) := ⟨RX4, TX4, 4, tyX4, rfl, by decide, uw_4, (ec_in 158 rfl rfl), tyX4_ok, nmX4, rfl, rfl, fun _ => rfl⟩
set_option maxRecDepth 20000 in
theorem lf_X9_203 : ec_fl RX9 203 4 0 := ⟨RX4, TX4, 4, rfl, by decide, uw_4, (ec_in 159 rfl rfl)⟩
set_option maxRecDepth 20000 in
theorem lf_X4_15 : ec_fl RX4 15 4 1 := ⟨RX4, TX4, 4, rfl, by decide, uw_4, (ec_in 160 rfl rfl)⟩
set_option maxRecDepth 20000 in
theorem lp_X4_15 : ec_fp RX4 15 4 1 true (tyX4 1) := ⟨RX4, TX4, 4, tyX4, rfl, by decide, uw_4, (ec_in 160 rfl rfl), tyX4_ok, nmX4, rfl, rfl, fun _ => rfl⟩
set_option maxRecDepth 20000 in
theorem lf_X4_18 : ec_fl RX4 18 4 2 := ⟨RX4, TX4, 4, rfl, by decide, uw_4, (ec_in 161 rfl rfl)⟩
set_option maxRecDepth 20000 in
theorem lp_X4_18 : ec_fp RX4 18 4 2 true (tyX4 2) := ⟨RX4, TX4, 4, tyX4, rfl, by decide, uw_4, (ec_in 161 rfl rfl), tyX4_ok, nmX4, rfl, rfl, fun _ => rfl⟩
set_option maxRecDepth 20000 in
theorem lf_X4_21 : ec_fl RX4 21 4 3 := ⟨RX4, TX4, 4, rfl, by decide, uw_4, (ec_in 162 rfl rfl)⟩
set_option maxRecDepth 20000 in
theorem lp_X4_21 : ec_fp RX4 21 4 3 false (tyX4 3) := ⟨RX4, TX4, 4, tyX4, rfl, by decide, uw_4, (ec_in 162 rfl rfl), tyX4_ok, nmX4, rfl, rfl, fun h => nomatch h⟩
set_option maxRecDepth 20000 in
theorem lf_X9_202 : ec_fl RX9 202 4 3 := ⟨RX4, TX4, 4, rfl, by decide, uw_4, (ec_in 163 rfl rfl)⟩
set_option maxRecDepth 20000 in
theorem lp_X9_202 : ec_fp RX9 202 4 3 false (tyX4 3) := ⟨RX4, TX4, 4, tyX4, rfl, by decide, uw_4, (ec_in 163 rfl rfl), tyX4_ok, nmX4, rfl, rfl, fun h => nomatch h⟩
set_option maxRecDepth 20000 in
theorem lf_X6_9 : ec_fl RX6 9 6 0 := ⟨RX6, TX6, 2, rfl, by decide, uw_6, (ec_in 185 rfl rfl)⟩
set_option maxRecDepth 20000 in
theorem lp_X6_9 : ec_fp RX6 9 6 0 true (tyX6 0) := ⟨RX6, TX6, 2, tyX6, rfl, by decide, uw_6, (ec_in 185 rfl rfl), tyX6_ok, nmX6, rfl, rfl, fun _ => rfl⟩
set_option maxRecDepth 20000 in
theorem lf_X2_48 : ec_fl RX2 48 6 0 := ⟨RX6, TX6, 2, rfl, by decide, uw_6, (ec_in 186 rfl rfl)⟩
set_option maxRecDepth 20000 in
theorem lf_X6_15 : ec_fl RX6 15 6 1 := ⟨RX6, TX6, 2, rfl, by decide, uw_6, (ec_in 187 rfl rfl)⟩
set_option maxRecDepth 20000 in
theorem lp_X6_15 : ec_fp RX6 15 6 1 true (tyX6 1) := ⟨RX6, TX6, 2, tyX6, rfl, by decide, uw_6, (ec_in 187 rfl rfl), tyX6_ok, nmX6, rfl, rfl, fun _ => rfl⟩
set_option maxRecDepth 20000 in
theorem lf_X2_44 : ec_fl RX2 44 6 1 := ⟨RX6, TX6, 2, rfl, by decide, uw_6, (ec_in 188 rfl rfl)⟩
set_option maxRecDepth 20000 in
theorem lf_X2_12 : ec_fl RX2 12 2 0 := ⟨RX2, TX2, 6, rfl, by decide, uw_2, (ec_in 195 rfl rfl)⟩
set_option maxRecDepth 20000 in
theorem lp_X2_12 : ec_fp RX2 12 2 0 true (tyX2 0) := ⟨RX2, TX2, 6, tyX2, rfl, by decide, uw_2, (ec_in 195 rfl rfl), tyX2_ok, nmX2, rfl, rfl, fun _ => rfl⟩
set_option maxRecDepth 20000 in
theorem lf_X2_18 : ec_fl RX2 18 2 1 := ⟨RX2, TX2, 6, rfl, by decide, uw_2, (ec_in 196 rfl rfl)⟩
set_option maxRecDepth 20000 in
theorem lp_X2_18 : ec_fp RX2 18 2 1 true (tyX2 1) := ⟨RX2, TX2, 6, tyX2, rfl, by decide, uw_2, (ec_in 196 rfl rfl), tyX2_ok, nmX2, rfl, rfl, fun _ => rfl⟩
set_option maxRecDepth 20000 in
theorem lf_X2_22 : ec_fl RX2 22 2 2 := ⟨RX2, TX2, 6, rfl, by decide, uw_2, (ec_in 197 rfl rfl)⟩
set_option maxRecDepth 20000 in
theorem lp_X2_22 : ec_fp RX2 22 2 2 false (tyX2 2) := ⟨RX2, TX2, 6, tyX2, rfl, by decide, uw_2, (ec_in 197 rfl rfl), tyX2_ok, nmX2, rfl, rfl, fun h => nomatch h⟩
set_option maxRecDepth 20000 in
theorem lf_X9_147 : ec_fl RX9 147 2 2 := ⟨RX2, TX2, 6, rfl, by decide, uw_2, (ec_in 198 rfl rfl)⟩
set_option maxRecDepth 20000 in
theorem lp_X9_147 : ec_fp RX9 147 2 2 false (tyX2 2) := ⟨RX2, TX2, 6, tyX2, rfl, by decide, uw_2, (ec_in 198 rfl rfl), tyX2_ok, nmX2, rfl, rfl, fun h => nomatch h⟩
set_option maxRecDepth 20000 in
theorem lf_X2_26 : ec_fl RX2 26 2 3 := ⟨RX2, TX2, 6, rfl, by decide, uw_2, (ec_in 199 rfl rfl)⟩
set_option maxRecDepth 20000 in
theorem lp_X2_26 : ec_fp RX2 26 2 3 false (tyX2 3) := ⟨RX2, TX2, 6, tyX2, rfl, by decide, uw_2, (ec_in 199 rfl rfl), tyX2_ok, nmX2, rfl, rfl, fun h => nomatch h⟩
set_option maxRecDepth 20000 in
theorem lf_X9_150 : ec_fl RX9 150 2 3 := ⟨RX2, TX2, 6, rfl, by decide, uw_2, (ec_in 200 rfl rfl)⟩
set_option maxRecDepth 20000 in
theorem lp_X9_150 : ec_fp RX9 150 2 3 false (tyX2 3) := ⟨RX2, TX2, 6, tyX2, rfl, by decide, uw_2, (ec_in 200 rfl rfl), tyX2_ok, nmX2, rfl, rfl, fun h => nomatch h⟩
set_option maxRecDepth 20000 in
theorem lf_X2_29 : ec_fl RX2 29 2 4 := ⟨RX2, TX2, 6, rfl, by decide, uw_2, (ec_in 201 rfl rfl)⟩
set_option maxRecDepth 20000 in
theorem lp_X2_29 : ec_fp RX2 29 2 4 false (tyX2 4) := ⟨RX2, TX2, 6, tyX2, rfl, by decide, uw_2, (ec_in 201 rfl rfl), tyX2_ok, nmX2, rfl, rfl, fun h => nomatch h⟩
set_option maxRecDepth 20000 in
theorem lf_X9_153 : ec_fl RX9 153 2 4 := ⟨RX2, TX2, 6, rfl, by decide, uw_2, (ec_in 202 rfl rfl)⟩
set_option maxRecDepth 20000 in
theorem lp_X9_153 : ec_fp RX9 153 2 4 false (tyX2 4) := ⟨RX2, TX2, 6, tyX2, rfl, by decide, uw_2, (ec_in 202 rfl rfl), tyX2_ok, nmX2, rfl, rfl, fun h => nomatch h⟩
set_option maxRecDepth 20000 in
theorem lf_X2_32 : ec_fl RX2 32 2 5 := ⟨RX2, TX2, 6, rfl, by decide, uw_2, (ec_in 203 rfl rfl)⟩
set_option maxRecDepth 20000 in
theorem lp_X2_32 : ec_fp RX2 32 2 5 false (tyX2 5) := ⟨RX2, TX2, 6, tyX2, rfl, by decide, uw_2, (ec_in 203 rfl rfl), tyX2_ok, nmX2, rfl, rfl, fun h => nomatch h⟩
set_option maxRecDepth 20000 in
theorem lf_X9_156 : ec_fl RX9 156 2 5 := ⟨RX2, TX2, 6, rfl, by decide, uw_2, (ec_in 204 rfl rfl)⟩
set_option maxRecDepth 20000 in
theorem lp_X9_156 : ec_fp RX9 156 2 5 false (tyX2 5) := ⟨RX2, TX2, 6, tyX2, rfl, by decide, uw_2, (ec_in 204 rfl rfl), tyX2_ok, nmX2, rfl, rfl, fun h => nomatch h⟩
set_option maxRecDepth 20000 in
theorem lf_X0_11 : ec_fl RX0 11 0 0 := ⟨RX0, TX0, 4, rfl, by decide, uw_0, (ec_in 225 rfl rfl)⟩
set_option maxRecDepth 20000 in
theorem lp_X0_11 : ec_fp RX0 11 0 0 true (tyX0 0) := ⟨RX0, TX0, 4, tyX0, rfl, by decide, uw_0, (ec_in 225 rfl rfl), tyX0_ok, nmX0, rfl, rfl, fun _ => rfl⟩
set_option maxRecDepth 20000 in
theorem lf_X0_16 : ec_fl RX0 16 0 1 := ⟨RX0, TX0, 4, rfl, by decide, uw_0, (ec_in 226 rfl rfl)⟩
set_option maxRecDepth 20000 in
theorem lp_X0_16 : ec_fp RX0 16 0 1 true (tyX0 1) := ⟨RX0, TX0, 4, tyX0, rfl, by decide, uw_0, (ec_in 226 rfl rfl), tyX0_ok, nmX0, rfl, rfl, fun _ => rfl⟩
set_option maxRecDepth 20000 in
theorem lf_X0_19 : ec_fl RX0 19 0 2 := ⟨RX0, TX0, 4, rfl, by decide, uw_0, (ec_in 227 rfl rfl)⟩
set_option maxRecDepth 20000 in
theorem lp_X0_19 : ec_fp RX0 19 0 2 true (tyX0 2) := ⟨RX0, TX0, 4, tyX0, rfl, by decide, uw_0, (ec_in 227 rfl rfl), tyX0_ok, nmX0, rfl, rfl, fun _ => rfl⟩
set_option maxRecDepth 20000 in
theorem lf_X0_22 : ec_fl RX0 22 0 3 := ⟨RX0, TX0, 4, rfl, by decide, uw_0, (ec_in 228 rfl rfl)⟩
set_option maxRecDepth 20000 in
theorem lp_X0_22 : ec_fp RX0 22 0 3 true (tyX0 3) := ⟨RX0, TX0, 4, tyX0, rfl, by decide, uw_0, (ec_in 228 rfl rfl), tyX0_ok, nmX0, rfl, rfl, fun _ => rfl⟩
set_option maxRecDepth 20000 in
theorem lf_X9_178 : ec_fl RX9 178 0 3 := ⟨RX0, TX0, 4, rfl, by decide, uw_0, (ec_in 229 rfl rfl)⟩
set_option maxRecDepth 20000 in
theorem lf_X9_10 : ec_fl RX9 10 9 0 := ⟨RX9, TX9, 8, rfl, by decide, uw_9, (ec_in 239 rfl rfl)⟩
set_option maxRecDepth 20000 in
theorem lp_X9_10 : ec_fp RX9 10 9 0 true (tyX9 0) := ⟨RX9, TX9, 8, tyX9, rfl, by decide, uw_9, (ec_in 239 rfl rfl), tyX9_ok, nmX9, rfl, rfl, fun _ => rfl⟩
set_option maxRecDepth 20000 in
theorem lf_X9_19 : ec_fl RX9 19 9 1 := ⟨RX9, TX9, 8, rfl, by decide, uw_9, (ec_in 240 rfl rfl)⟩
set_option maxRecDepth 20000 in
theorem lp_X9_19 : ec_fp RX9 19 9 1 true (tyX9 1) := ⟨RX9, TX9, 8, tyX9, rfl, by decide, uw_9, (ec_in 240 rfl rfl), tyX9_ok, nmX9, rfl, rfl, fun _ => rfl⟩
set_option maxRecDepth 20000 in
theorem lf_X9_26 : ec_fl RX9 26 9 2 := ⟨RX9, TX9, 8, rfl, by decide, uw_9, (ec_in 241 rfl rfl)⟩
set_option maxRecDepth 20000 in
theorem lp_X9_26 : ec_fp RX9 26 9 2 true (tyX9 2) := ⟨RX9, TX9, 8, tyX9, rfl, by decide, uw_9, (ec_in 241 rfl rfl), tyX9_ok, nmX9, rfl, rfl, fun _ => rfl⟩
set_option maxRecDepth 20000 in
theorem lf_X9_33 : ec_fl RX9 33 9 3 := ⟨RX9, TX9, 8, rfl, by decide, uw_9, (ec_in 242 rfl rfl)⟩
set_option maxRecDepth 20000 in
theorem lp_X9_33 : ec_fp RX9 33 9 3 true (tyX9 3) := ⟨RX9, TX9, 8, tyX9, rfl, by decide, uw_9, (ec_in 242 rfl rfl), tyX9_ok, nmX9, rfl, rfl, fun _ => rfl⟩
set_option maxRecDepth 20000 in
theorem lf_X9_42 : ec_fl RX9 42 9 4 := ⟨RX9, TX9, 8, rfl, by decide, uw_9, (ec_in 243 rfl rfl)⟩
set_option maxRecDepth 20000 in
theorem lp_X9_42 : ec_fp RX9 42 9 4 true (tyX9 4) := ⟨RX9, TX9, 8, tyX9, rfl, by decide, uw_9, (ec_in 243 rfl rfl), tyX9_ok, nmX9, rfl, rfl, fun _ => rfl⟩
set_option maxRecDepth 20000 in
theorem lf_X9_49 : ec_fl RX9 49 9 5 := ⟨RX9, TX9, 8, rfl, by decide, uw_9, (ec_in 244 rfl rfl)⟩
set_option maxRecDepth 20000 in
theorem lp_X9_49 : ec_fp RX9 49 9 5 true (tyX9 5) := ⟨RX9, TX9, 8, tyX9, rfl, by decide, uw_9, (ec_in 244 rfl rfl), tyX9_ok, nmX9, rfl, rfl, fun _ => rfl⟩
set_option maxRecDepth 20000 in
theorem lf_X9_56 : ec_fl RX9 56 9 6 := ⟨RX9, TX9, 8, rfl, by decide, uw_9, (ec_in 245 rfl rfl)⟩
set_option maxRecDepth 20000 in
theorem lp_X9_56 : ec_fp RX9 56 9 6 true (tyX9 6) := ⟨RX9, TX9, 8, tyX9, rfl, by decide, uw_9, (ec_in 245 rfl rfl), tyX9_ok, nmX9, rfl, rfl, fun _ => rfl⟩
set_option maxRecDepth 20000 in
theorem lf_X9_63 : ec_fl RX9 63 9 7 := ⟨RX9, TX9, 8, rfl, by decide, uw_9, (ec_in 246 rfl rfl)⟩
set_option maxRecDepth 20000 in
theorem lp_X9_63 : ec_fp RX9 63 9 7 true (tyX9 7) := ⟨RX9, TX9, 8, tyX9, rfl, by decide, uw_9, (ec_in 246 rfl rfl), tyX9_ok, nmX9, rfl, rfl, fun _ => rfl⟩
set_option maxRecDepth 20000 in
theorem lf_X10_62 : ec_fl RX10 62 10 0 := ⟨RX10, TX10, 25, rfl, by decide, uw_10, (ec_in 618 rfl rfl)⟩
set_option maxRecDepth 20000 in
theorem lp_X10_62 : ec_fp RX10 62 10 0 false (tyX10 0) := ⟨RX10, TX10, 25, tyX10, rfl, by decide, uw_10, (ec_in 618 rfl rfl), tyX10_ok, nmX10, rfl, rfl, fun h => nomatch h⟩
set_option maxRecDepth 20000 in
theorem lf_X10_73 : ec_fl RX10 73 10 1 := ⟨RX10, TX10, 25, rfl, by decide, uw_10, (ec_in 619 rfl rfl)⟩
set_option maxRecDepth 20000 in
theorem lp_X10_73 : ec_fp RX10 73 10 1 false (tyX10 1) := ⟨RX10, TX10, 25, tyX10, rfl, by decide, uw_10, (ec_in 619 rfl rfl), tyX10_ok, nmX10, rfl, rfl, fun h => nomatch h⟩
set_option maxRecDepth 20000 in
theorem lf_X10_7 : ec_fl RX10 7 10 2 := ⟨RX10, TX10, 25, rfl, by decide, uw_10, (ec_in 620 rfl rfl)⟩
set_option maxRecDepth 20000 in
theorem lp_X10_7 : ec_fp RX10 7 10 2 true (tyX10 2) := ⟨RX10, TX10, 25, tyX10, rfl, by decide, uw_10, (ec_in 620 rfl rfl), tyX10_ok, nmX10, rfl, rfl, fun _ => rfl⟩
set_option maxRecDepth 20000 in
theorem lf_X10_66 : ec_fl RX10 66 10 3 := ⟨RX10, TX10, 25, rfl, by decide, uw_10, (ec_in 621 rfl rfl)⟩
set_option maxRecDepth 20000 in
theorem lp_X10_66 : ec_fp RX10 66 10 3 false (tyX10 3) := ⟨RX10, TX10, 25, tyX10, rfl, by decide, uw_10, (ec_in 621 rfl rfl), tyX10_ok, nmX10, rfl, rfl, fun h => nomatch h⟩
set_option maxRecDepth 20000 in
theorem lf_X10_13 : ec_fl RX10 13 10 4 := ⟨RX10, TX10, 25, rfl, by decide, uw_10, (ec_in 622 rfl rfl)⟩
set_option maxRecDepth 20000 in
theorem lp_X10_13 : ec_fp RX10 13 10 4 true (tyX10 4) := ⟨RX10, TX10, 25, tyX10, rfl, by decide, uw_10, (ec_in 622 rfl rfl), tyX10_ok, nmX10, rfl, rfl, fun _ => rfl⟩
set_option maxRecDepth 20000 in
theorem lf_X10_16 : ec_fl RX10 16 10 5 := ⟨RX10, TX10, 25, rfl, by decide, uw_10, (ec_in 623 rfl rfl)⟩
set_option maxRecDepth 20000 in
theorem lp_X10_16 : ec_fp RX10 16 10 5 true (tyX10 5) := ⟨RX10, TX10, 25, tyX10, rfl, by decide, uw_10, (ec_in 623 rfl rfl), tyX10_ok, nmX10, rfl, rfl, fun _ => rfl⟩
set_option maxRecDepth 20000 in
theorem lf_X10_19 : ec_fl RX10 19 10 6 := ⟨RX10, TX10, 25, rfl, by decide, uw_10, (ec_in 624 rfl rfl)⟩
set_option maxRecDepth 20000 in
theorem lp_X10_19 : ec_fp RX10 19 10 6 true (tyX10 6) := ⟨RX10, TX10, 25, tyX10, rfl, by decide, uw_10, (ec_in 624 rfl rfl), tyX10_ok, nmX10, rfl, rfl, fun _ => rfl⟩
set_option maxRecDepth 20000 in
theorem lf_X10_22 : ec_fl RX10 22 10 7 := ⟨RX10, TX10, 25, rfl, by decide, uw_10, (ec_in 625 rfl rfl)⟩
set_option maxRecDepth 20000 in
theorem lp_X10_22 : ec_fp RX10 22 10 7 true (tyX10 7) := ⟨RX10, TX10, 25, tyX10, rfl, by decide, uw_10, (ec_in 625 rfl rfl), tyX10_ok, nmX10, rfl, rfl, fun _ => rfl⟩
set_option maxRecDepth 20000 in
theorem lf_X10_25 : ec_fl RX10 25 10 8 := ⟨RX10, TX10, 25, rfl, by decide, uw_10, (ec_in 626 rfl rfl)⟩
set_option maxRecDepth 20000 in
theorem lp_X10_25 : ec_fp RX10 25 10 8 true (tyX10 8) := ⟨RX10, TX10, 25, tyX10, rfl, by decide, uw_10, (ec_in 626 rfl rfl), tyX10_ok, nmX10, rfl, rfl, fun _ => rfl⟩
set_option maxRecDepth 20000 in
theorem lf_X10_136 : ec_fl RX10 136 10 9 := ⟨RX10, TX10, 25, rfl, by decide, uw_10, (ec_in 627 rfl rfl)⟩
set_option maxRecDepth 20000 in
theorem lp_X10_136 : ec_fp RX10 136 10 9 false (tyX10 9) := ⟨RX10, TX10, 25, tyX10, rfl, by decide, uw_10, (ec_in 627 rfl rfl), tyX10_ok, nmX10, rfl, rfl, fun h => nomatch h⟩
set_option maxRecDepth 20000 in
theorem lf_X10_28 : ec_fl RX10 28 10 10 := ⟨RX10, TX10, 25, rfl, by decide, uw_10, (ec_in 628 rfl rfl)⟩
set_option maxRecDepth 20000 in
theorem lp_X10_28 : ec_fp RX10 28 10 10 true (tyX10 10) := ⟨RX10, TX10, 25, tyX10, rfl, by decide, uw_10, (ec_in 628 rfl rfl), tyX10_ok, nmX10, rfl, rfl, fun _ => rfl⟩
set_option maxRecDepth 20000 in
theorem lf_X10_31 : ec_fl RX10 31 10 11 := ⟨RX10, TX10, 25, rfl, by decide, uw_10, (ec_in 629 rfl rfl)⟩
set_option maxRecDepth 20000 in
theorem lp_X10_31 : ec_fp RX10 31 10 11 true (tyX10 11) := ⟨RX10, TX10, 25, tyX10, rfl, by decide, uw_10, (ec_in 629 rfl rfl), tyX10_ok, nmX10, rfl, rfl, fun _ => rfl⟩
set_option maxRecDepth 20000 in
theorem lf_X10_34 : ec_fl RX10 34 10 12 := ⟨RX10, TX10, 25, rfl, by decide, uw_10, (ec_in 630 rfl rfl)⟩
set_option maxRecDepth 20000 in
theorem lp_X10_34 : ec_fp RX10 34 10 12 true (tyX10 12) := ⟨RX10, TX10, 25, tyX10, rfl, by decide, uw_10, (ec_in 630 rfl rfl), tyX10_ok, nmX10, rfl, rfl, fun _ => rfl⟩
set_option maxRecDepth 20000 in
theorem lf_X10_38 : ec_fl RX10 38 10 13 := ⟨RX10, TX10, 25, rfl, by decide, uw_10, (ec_in 631 rfl rfl)⟩
set_option maxRecDepth 20000 in
theorem lp_X10_38 : ec_fp RX10 38 10 13 true (tyX10 13) := ⟨RX10, TX10, 25, tyX10, rfl, by decide, uw_10, (ec_in 631 rfl rfl), tyX10_ok, nmX10, rfl, rfl, fun _ => rfl⟩
set_option maxRecDepth 20000 in
theorem lf_X10_41 : ec_fl RX10 41 10 14 := ⟨RX10, TX10, 25, rfl, by decide, uw_10, (ec_in 632 rfl rfl)⟩
set_option maxRecDepth 20000 in
theorem lp_X10_41 : ec_fp RX10 41 10 14 true (tyX10 14) := ⟨RX10, TX10, 25, tyX10, rfl, by decide, uw_10, (ec_in 632 rfl rfl), tyX10_ok, nmX10, rfl, rfl, fun _ => rfl⟩
set_option maxRecDepth 20000 in
theorem lf_X10_88 : ec_fl RX10 88 10 15 := ⟨RX10, TX10, 25, rfl, by decide, uw_10, (ec_in 633 rfl rfl)⟩
set_option maxRecDepth 20000 in
theorem lp_X10_88 : ec_fp RX10 88 10 15 false (tyX10 15) := ⟨RX10, TX10, 25, tyX10, rfl, by decide, uw_10, (ec_in 633 rfl rfl), tyX10_ok, nmX10, rfl, rfl, fun h => nomatch h⟩
set_option maxRecDepth 20000 in
theorem lf_X10_109 : ec_fl RX10 109 10 16 := ⟨RX10, TX10, 25, rfl, by decide, uw_10, (ec_in 634 rfl rfl)⟩
set_option maxRecDepth 20000 in
theorem lp_X10_109 : ec_fp RX10 109 10 16 false (tyX10 16) := ⟨RX10, TX10, 25, tyX10, rfl, by decide, uw_10, (ec_in 634 rfl rfl), tyX10_ok, nmX10, rfl, rfl, fun h => nomatch h⟩
set_option maxRecDepth 20000 in
theorem lf_X10_44 : ec_fl RX10 44 10 17 := ⟨RX10, TX10, 25, rfl, by decide, uw_10, (ec_in 635 rfl rfl)⟩
set_option maxRecDepth 20000 in
theorem lp_X10_44 : ec_fp RX10 44 10 17 true (tyX10 17) := ⟨RX10, TX10, 25, tyX10, rfl, by decide, uw_10, (ec_in 635 rfl rfl), tyX10_ok, nmX10, rfl, rfl, fun _ => rfl⟩
set_option maxRecDepth 20000 in
theorem lf_X10_47 : ec_fl RX10 47 10 18 := ⟨RX10, TX10, 25, rfl, by decide, uw_10, (ec_in 636 rfl rfl)⟩
set_option maxRecDepth 20000 in
theorem lp_X10_47 : ec_fp RX10 47 10 18 true (tyX10 18) := ⟨RX10, TX10, 25, tyX10, rfl, by decide, uw_10, (ec_in 636 rfl rfl), tyX10_ok, nmX10, rfl, rfl, fun _ => rfl⟩
set_option maxRecDepth 20000 in
theorem lf_X10_119 : ec_fl RX10 119 10 19 := ⟨RX10, TX10, 25, rfl, by decide, uw_10, (ec_in 637 rfl rfl)⟩
set_option maxRecDepth 20000 in
theorem lp_X10_119 : ec_fp RX10 119 10 19 false (tyX10 19) := ⟨RX10, TX10, 25, tyX10, rfl, by decide, uw_10, (ec_in 637 rfl rfl), tyX10_ok, nmX10, rfl, rfl, fun h => nomatch h⟩
set_option maxRecDepth 20000 in
theorem lf_X10_50 : ec_fl RX10 50 10 20 := ⟨RX10, TX10, 25, rfl, by decide, uw_10, (ec_in 638 rfl rfl)⟩
set_option maxRecDepth 20000 in
theorem lp_X10_50 : ec_fp RX10 50 10 20 true (tyX10 20) := ⟨RX10, TX10, 25, tyX10, rfl, by decide, uw_10, (ec_in 638 rfl rfl), tyX10_ok, nmX10, rfl, rfl, fun _ => rfl⟩
set_option maxRecDepth 20000 in
theorem lf_X10_53 : ec_fl RX10 53 10 21 := ⟨RX10, TX10, 25, rfl, by decide, uw_10, (ec_in 639 rfl rfl)⟩
set_option maxRecDepth 20000 in
theorem lp_X10_53 : ec_fp RX10 53 10 21 true (tyX10 21) := ⟨RX10, TX10, 25, tyX10, rfl, by decide, uw_10, (ec_in 639 rfl rfl), tyX10_ok, nmX10, rfl, rfl, fun _ => rfl⟩
set_option maxRecDepth 20000 in
theorem lf_X10_130 : ec_fl RX10 130 10 22 := ⟨RX10, TX10, 25, rfl, by decide, uw_10, (ec_in 640 rfl rfl)⟩
set_option maxRecDepth 20000 in
theorem lp_X10_130 : ec_fp RX10 130 10 22 false (tyX10 22) := ⟨RX10, TX10, 25, tyX10, rfl, by decide, uw_10, (ec_in 640 rfl rfl), tyX10_ok, nmX10, rfl, rfl, fun h => nomatch h⟩
set_option maxRecDepth 20000 in
theorem lf_X10_56 : ec_fl RX10 56 10 23 := ⟨RX10, TX10, 25, rfl, by decide, uw_10, (ec_in 641 rfl rfl)⟩
set_option maxRecDepth 20000 in
theorem lp_X10_56 : ec_fp RX10 56 10 23 true (tyX10 23) := ⟨RX10, TX10, 25, tyX10, rfl, by decide, uw_10, (ec_in 641 rfl rfl), tyX10_ok, nmX10, rfl, rfl, fun _ => rfl⟩
set_option maxRecDepth 20000 in
theorem lf_X10_59 : ec_fl RX10 59 10 24 := ⟨RX10, TX10, 25, rfl, by decide, uw_10, (ec_in 642 rfl rfl)⟩
set_option maxRecDepth 20000 in
theorem lp_X10_59 : ec_fp RX10 59 10 24 true (tyX10 24) := ⟨RX10, TX10, 25, tyX10, rfl, by decide, uw_10, (ec_in 642 rfl rfl), tyX10_ok, nmX10, rfl, rfl, fun _ => rfl⟩
set_option maxRecDepth 20000 in
theorem lc_L_15 : ec_cI RL 15 mX9_init 0 := ⟨⟨(ec_in 20 rfl rfl), (ec_in 1 rfl rfl), wc_X9_init, by decide +kernel, ⟨by decide +kernel, by decide +kernel, by decide +kernel⟩⟩, (ec_in 21 rfl rfl), rfl, rfl⟩
set_option maxRecDepth 20000 in
theorem lo_X9_1 : Cond.methodLink RX9 1 objectInit ∈ ec_tb := (ec_in 23 rfl rfl)
set_option maxRecDepth 20000 in
theorem ln_X9_9 : ec_cN RX9 9 mX5_init 0 "SuggestSpell" := ⟨List.mem_of_getElem? (i := 0) rfl, (ec_in 2 rfl rfl), wc_X5_init, by decide +kernel, ⟨by decide +kernel, by decide +kernel, by decide +kernel⟩, (ec_in 29 rfl rfl), rfl, rfl⟩
set_option maxRecDepth 20000 in
theorem lo_X5_3 : Cond.methodLink RX5 3 objectInit ∈ ec_tb := (ec_in 31 rfl rfl)
set_option maxRecDepth 20000 in
theorem lc_X9_18 : ec_cI RX9 18 mX3_init 0 := ⟨⟨(ec_in 47 rfl rfl), (ec_in 3 rfl rfl), wc_X3_init, by decide +kernel, ⟨by decide +kernel, by decide +kernel, by decide +kernel⟩⟩, (ec_in 48 rfl rfl), rfl, rfl⟩
set_option maxRecDepth 20000 in
theorem lo_X3_3 : Cond.methodLink RX3 3 objectInit ∈ ec_tb := (ec_in 50 rfl rfl)
set_option maxRecDepth 20000 in
theorem lc_X3_20 : ec_cS RX3 20 mJ7_fill_53178 2 := ⟨⟨(ec_in 53 rfl rfl), (ec_in 4 rfl rfl), wc_J7_fill_53178, by decide +kernel, ⟨by decide +kernel, by decide +kernel, by decide +kernel⟩⟩, (ec_in 54 rfl rfl)⟩
set_option maxRecDepth 20000 in
theorem lc_X9_25 : ec_cI RX9 25 mX8_init 0 := ⟨⟨(ec_in 68 rfl rfl), (ec_in 5 rfl rfl), wc_X8_init, by decide +kernel, ⟨by decide +kernel, by decide +kernel, by decide +kernel⟩⟩, (ec_in 69 rfl rfl), rfl, rfl⟩
set_option maxRecDepth 20000 in
theorem lo_X8_3 : Cond.methodLink RX8 3 objectInit ∈ ec_tb := (ec_in 71 rfl rfl)
set_option maxRecDepth 20000 in
theorem ln_X8_32 : ec_cN RX8 32 mX5_init 0 "SuggestSpell" := ⟨List.mem_of_getElem? (i := 1) rfl, (ec_in 2 rfl rfl), wc_X5_init, by decide +kernel, ⟨by decide +kernel, by decide +kernel, by decide +kernel⟩, (ec_in 29 rfl rfl), rfl, rfl⟩
set_option maxRecDepth 20000 in
theorem lc_X9_32 : ec_cI RX9 32 mX1_init 0 := ⟨⟨(ec_in 104 rfl rfl), (ec_in 6 rfl rfl), wc_X1_init, by decide +kernel, ⟨by decide +kernel, by decide +kernel, by decide +kernel⟩⟩, (ec_in 105 rfl rfl), rfl, rfl⟩
set_option maxRecDepth 20000 in
theorem lo_X1_3 : Cond.methodLink RX1 3 objectInit ∈ ec_tb := (ec_in 107 rfl rfl)
set_option maxRecDepth 20000 in
theorem ln_X1_21 : ec_cN RX1 21 mX5_init 0 "SuggestSpell" := ⟨List.mem_of_getElem? (i := 2) rfl, (ec_in 2 rfl rfl), wc_X5_init, by decide +kernel, ⟨by decide +kernel, by decide +kernel, by decide +kernel⟩, (ec_in 29 rfl rfl), rfl, rfl⟩
set_option maxRecDepth 20000 in
theorem lc_X9_39 : ec_cI RX9 39 mX7_init 1 := ⟨⟨(ec_in 122 rfl rfl), (ec_in 7 rfl rfl), wc_X7_init, by decide +kernel, ⟨by decide +kernel, by decide +kernel, by decide +kernel⟩⟩, (ec_in 123 rfl rfl), rfl, rfl⟩
set_option maxRecDepth 20000 in
theorem lo_X7_3 : Cond.methodLink RX7 3 objectInit ∈ ec_tb := (ec_in 125 rfl rfl)
set_option maxRecDepth 20000 in
theorem ln_X7_11 : ec_cN RX7 11 mX5_init 0 "SuggestSpell" := ⟨List.mem_of_getElem? (i := 3) rfl, (ec_in 2 rfl rfl), wc_X5_init, by decide +kernel, ⟨by decide +kernel, by decide +kernel, by decide +kernel⟩, (ec_in 29 rfl rfl), rfl, rfl⟩
set_option maxRecDepth 20000 in
theorem ln_X9_48 : ec_cN RX9 48 mX4_init 0 "SuggestSpell" := ⟨List.mem_of_getElem? (i := 4) rfl, (ec_in 8 rfl rfl), wc_X4_init, by decide +kernel, ⟨by decide +kernel, by decide +kernel, by decide +kernel⟩, (ec_in 155 rfl rfl), rfl, rfl⟩
set_option maxRecDepth 20000 in
theorem lo_X4_3 : Cond.methodLink RX4 3 objectInit ∈ ec_tb := (ec_in 157 rfl rfl)
set_option maxRecDepth 20000 in
theorem ln_X9_55 : ec_cN RX9 55 mX2_init 0 "SuggestSpell" := ⟨List.mem_of_getElem? (i := 5) rfl, (ec_in 9 rfl rfl), wc_X2_init, by decide +kernel, ⟨by decide +kernel, by decide +kernel, by decide +kernel⟩, (ec_in 176 rfl rfl), rfl, rfl⟩
set_option maxRecDepth 20000 in
theorem lo_X2_3 : Cond.methodLink RX2 3 objectInit ∈ ec_tb := (ec_in 178 rfl rfl)
set_option maxRecDepth 20000 in
theorem ln_X2_11 : ec_cN RX2 11 mX6_init 0 "SuggestSpell" := ⟨List.mem_of_getElem? (i := 6) rfl, (ec_in 10 rfl rfl), wc_X6_init, by decide +kernel, ⟨by decide +kernel, by decide +kernel, by decide +kernel⟩, (ec_in 182 rfl rfl), rfl, rfl⟩
set_option maxRecDepth 20000 in
theorem lo_X6_3 : Cond.methodLink RX6 3 objectInit ∈ ec_tb := (ec_in 184 rfl rfl)
set_option maxRecDepth 20000 in
theorem ln_X9_62 : ec_cN RX9 62 mX0_init 0 "SuggestSpell" := ⟨List.mem_of_getElem? (i := 7) rfl, (ec_in 11 rfl rfl), wc_X0_init, by decide +kernel, ⟨by decide +kernel, by decide +kernel, by decide +kernel⟩, (ec_in 221 rfl rfl), rfl, rfl⟩
set_option maxRecDepth 20000 in
theorem lo_X0_3 : Cond.methodLink RX0 3 objectInit ∈ ec_tb := (ec_in 223 rfl rfl)
set_option maxRecDepth 20000 in
theorem lc_L_19 : ec_cV RL 19 mX9_letter 1 9 := ⟨⟨(ec_in 264 rfl rfl), (ec_in 1 rfl rfl), wc_X9_letter, by decide +kernel, ⟨by decide +kernel, by decide +kernel, by decide +kernel⟩⟩, (ec_in 265 rfl rfl), (ec_in 266 rfl rfl), TX9, 8, rfl⟩
set_option maxRecDepth 20000 in
theorem lc_X9_67 : ec_cS RX9 67 mX9_isLetter 1 := ⟨⟨(ec_in 268 rfl rfl), (ec_in 1 rfl rfl), wc_X9_isLetter, by decide +kernel, ⟨by decide +kernel, by decide +kernel, by decide +kernel⟩⟩, (ec_in 269 rfl rfl)⟩
set_option maxRecDepth 20000 in
theorem lc_X9_71 : ec_cV RX9 71 mX5_add 1 5 := ⟨⟨(ec_in 271 rfl rfl), (ec_in 2 rfl rfl), wc_X5_add, by decide +kernel, ⟨by decide +kernel, by decide +kernel, by decide +kernel⟩⟩, (ec_in 272 rfl rfl), (ec_in 273 rfl rfl), TX5, 2, rfl⟩
set_option maxRecDepth 20000 in
theorem lc_L_23 : ec_cV RL 23 mX9_clear 0 9 := ⟨⟨(ec_in 275 rfl rfl), (ec_in 1 rfl rfl), wc_X9_clear, by decide +kernel, ⟨by decide +kernel, by decide +kernel, by decide +kernel⟩⟩, (ec_in 276 rfl rfl), (ec_in 277 rfl rfl), TX9, 8, rfl⟩
set_option maxRecDepth 20000 in
theorem lc_L_28 : ec_cV RL 28 mX9_word 1 9 := ⟨⟨(ec_in 279 rfl rfl), (ec_in 1 rfl rfl), wc_X9_word, by decide +kernel, ⟨by decide +kernel, by decide +kernel, by decide +kernel⟩⟩, (ec_in 280 rfl rfl), (ec_in 281 rfl rfl), TX9, 8, rfl⟩
set_option maxRecDepth 20000 in
theorem lc_X9_78 : ec_cS RX9 78 mX9_isCount 1 := ⟨⟨(ec_in 283 rfl rfl), (ec_in 1 rfl rfl), wc_X9_isCount, by decide +kernel, ⟨by decide +kernel, by decide +kernel, by decide +kernel⟩⟩, (ec_in 284 rfl rfl)⟩
set_option maxRecDepth 20000 in
theorem lc_X9_81 : ec_cV RX9 81 mX8_hasRow 1 8 := ⟨⟨(ec_in 286 rfl rfl), (ec_in 5 rfl rfl), wc_X8_hasRow, by decide +kernel, ⟨by decide +kernel, by decide +kernel, by decide +kernel⟩⟩, (ec_in 287 rfl rfl), (ec_in 288 rfl rfl), TX8, 5, rfl⟩
set_option maxRecDepth 20000 in
theorem lc_X8_33 : ec_cV RX8 33 mX5_compareWith 1 5 := ⟨⟨(ec_in 290 rfl rfl), (ec_in 2 rfl rfl), wc_X5_compareWith, by decide +kernel, ⟨by decide +kernel, by decide +kernel, by decide +kernel⟩⟩, (ec_in 291 rfl rfl), (ec_in 292 rfl rfl), TX5, 2, rfl⟩
set_option maxRecDepth 20000 in
theorem lm_X5_23 : Cond.methodLink RX5 23 Lib.Math.min.name ∈ ec_tb := (ec_in 294 rfl rfl)
set_option maxRecDepth 20000 in
theorem lc_X9_88 : ec_cV RX9 88 mX8_add 2 8 := ⟨⟨(ec_in 297 rfl rfl), (ec_in 5 rfl rfl), wc_X8_add, by decide +kernel, ⟨by decide +kernel, by decide +kernel, by decide +kernel⟩⟩, (ec_in 298 rfl rfl), (ec_in 299 rfl rfl), TX8, 5, rfl⟩
set_option maxRecDepth 20000 in
theorem lc_X8_37 : ec_cV RX8 37 mX5_copyOf 1 5 := ⟨⟨(ec_in 301 rfl rfl), (ec_in 2 rfl rfl), wc_X5_copyOf, by decide +kernel, ⟨by decide +kernel, by decide +kernel, by decide +kernel⟩⟩, (ec_in 302 rfl rfl), (ec_in 303 rfl rfl), TX5, 2, rfl⟩
set_option maxRecDepth 20000 in
theorem lc_X5_19 : ec_cV RX5 19 mX5_add 1 5 := ⟨⟨(ec_in 305 rfl rfl), (ec_in 2 rfl rfl), wc_X5_add, by decide +kernel, ⟨by decide +kernel, by decide +kernel, by decide +kernel⟩⟩, (ec_in 272 rfl rfl), (ec_in 273 rfl rfl), TX5, 2, rfl⟩
set_option maxRecDepth 20000 in
theorem lc_L_32 : ec_cV RL 32 mX9_count 2 9 := ⟨⟨(ec_in 306 rfl rfl), (ec_in 1 rfl rfl), wc_X9_count, by decide +kernel, ⟨by decide +kernel, by decide +kernel, by decide +kernel⟩⟩, (ec_in 307 rfl rfl), (ec_in 308 rfl rfl), TX9, 8, rfl⟩
set_option maxRecDepth 20000 in
theorem lc_X9_91 : ec_cV RX9 91 mX8_has 1 8 := ⟨⟨(ec_in 310 rfl rfl), (ec_in 5 rfl rfl), wc_X8_has, by decide +kernel, ⟨by decide +kernel, by decide +kernel, by decide +kernel⟩⟩, (ec_in 311 rfl rfl), (ec_in 312 rfl rfl), TX8, 5, rfl⟩
set_option maxRecDepth 20000 in
theorem lc_L_37 : ec_cV RL 37 mX9_at 2 9 := ⟨⟨(ec_in 314 rfl rfl), (ec_in 1 rfl rfl), wc_X9_at, by decide +kernel, ⟨by decide +kernel, by decide +kernel, by decide +kernel⟩⟩, (ec_in 315 rfl rfl), (ec_in 316 rfl rfl), TX9, 8, rfl⟩
set_option maxRecDepth 20000 in
theorem lc_X9_102 : ec_cV RX9 102 mX8_rankOf 1 8 := ⟨⟨(ec_in 318 rfl rfl), (ec_in 5 rfl rfl), wc_X8_rankOf, by decide +kernel, ⟨by decide +kernel, by decide +kernel, by decide +kernel⟩⟩, (ec_in 319 rfl rfl), (ec_in 320 rfl rfl), TX8, 5, rfl⟩
set_option maxRecDepth 20000 in
theorem lc_L_41 : ec_cV RL 41 mX9_price 2 9 := ⟨⟨(ec_in 322 rfl rfl), (ec_in 1 rfl rfl), wc_X9_price, by decide +kernel, ⟨by decide +kernel, by decide +kernel, by decide +kernel⟩⟩, (ec_in 323 rfl rfl), (ec_in 324 rfl rfl), TX9, 8, rfl⟩
set_option maxRecDepth 20000 in
theorem lc_L_45 : ec_cV RL 45 mX9_near 3 9 := ⟨⟨(ec_in 326 rfl rfl), (ec_in 1 rfl rfl), wc_X9_near, by decide +kernel, ⟨by decide +kernel, by decide +kernel, by decide +kernel⟩⟩, (ec_in 327 rfl rfl), (ec_in 328 rfl rfl), TX9, 8, rfl⟩
set_option maxRecDepth 20000 in
theorem lc_L_50 : ec_cV RL 50 mX9_distance 1 9 := ⟨⟨(ec_in 330 rfl rfl), (ec_in 1 rfl rfl), wc_X9_distance, by decide +kernel, ⟨by decide +kernel, by decide +kernel, by decide +kernel⟩⟩, (ec_in 331 rfl rfl), (ec_in 332 rfl rfl), TX9, 8, rfl⟩
set_option maxRecDepth 20000 in
theorem lc_X9_116 : ec_cV RX9 116 mX9_priceOfWord 1 9 := ⟨⟨(ec_in 334 rfl rfl), (ec_in 1 rfl rfl), wc_X9_priceOfWord, by decide +kernel, ⟨by decide +kernel, by decide +kernel, by decide +kernel⟩⟩, (ec_in 336 rfl rfl), (ec_inS 0 rfl rfl), TX9, 8, rfl⟩
set_option maxRecDepth 20000 in
theorem lc_X9_188 : ec_cV RX9 188 mX7_measure 2 7 := ⟨⟨(ec_in 338 rfl rfl), (ec_in 7 rfl rfl), wc_X7_measure, by decide +kernel, ⟨by decide +kernel, by decide +kernel, by decide +kernel⟩⟩, (ec_in 339 rfl rfl), (ec_in 340 rfl rfl), TX7, 7, rfl⟩
set_option maxRecDepth 20000 in
theorem lc_X7_41 : ec_cV RX7 41 mX5_copyOf 1 5 := ⟨⟨(ec_in 342 rfl rfl), (ec_in 2 rfl rfl), wc_X5_copyOf, by decide +kernel, ⟨by decide +kernel, by decide +kernel, by decide +kernel⟩⟩, (ec_in 302 rfl rfl), (ec_in 303 rfl rfl), TX5, 2, rfl⟩
set_option maxRecDepth 20000 in
theorem lc_X7_45 : ec_cV RX7 45 mX7_fill 0 7 := ⟨⟨(ec_in 343 rfl rfl), (ec_in 7 rfl rfl), wc_X7_fill, by decide +kernel, ⟨by decide +kernel, by decide +kernel, by decide +kernel⟩⟩, (ec_in 345 rfl rfl), (ec_inS 1 rfl rfl), TX7, 7, rfl⟩
set_option maxRecDepth 20000 in
theorem lc_X7_87 : ec_cV RX7 87 mX7_cheapest 2 7 := ⟨⟨(ec_in 347 rfl rfl), (ec_in 7 rfl rfl), wc_X7_cheapest, by decide +kernel, ⟨by decide +kernel, by decide +kernel, by decide +kernel⟩⟩, (ec_in 349 rfl rfl), (ec_inS 2 rfl rfl), TX7, 7, rfl⟩
set_option maxRecDepth 20000 in
theorem lc_X7_65 : ec_cV RX7 65 mX7_byLast 2 7 := ⟨⟨(ec_in 351 rfl rfl), (ec_in 7 rfl rfl), wc_X7_byLast, by decide +kernel, ⟨by decide +kernel, by decide +kernel, by decide +kernel⟩⟩, (ec_in 353 rfl rfl), (ec_inS 3 rfl rfl), TX7, 7, rfl⟩
set_option maxRecDepth 20000 in
theorem lc_X7_90 : ec_cV RX7 90 mX3_ofBecoming 2 3 := ⟨⟨(ec_in 355 rfl rfl), (ec_in 3 rfl rfl), wc_X3_ofBecoming, by decide +kernel, ⟨by decide +kernel, by decide +kernel, by decide +kernel⟩⟩, (ec_in 356 rfl rfl), (ec_in 357 rfl rfl), TX3, 2, rfl⟩
set_option maxRecDepth 20000 in
theorem lm_X7_59 : Cond.methodLink RX7 59 Lib.Math.min.name ∈ ec_tb := (ec_in 359 rfl rfl)
set_option maxRecDepth 20000 in
theorem lc_X7_75 : ec_cV RX7 75 mX7_mayChange 2 7 := ⟨⟨(ec_in 360 rfl rfl), (ec_in 7 rfl rfl), wc_X7_mayChange, by decide +kernel, ⟨by decide +kernel, by decide +kernel, by decide +kernel⟩⟩, (ec_in 362 rfl rfl), (ec_inS 4 rfl rfl), TX7, 7, rfl⟩
set_option maxRecDepth 20000 in
theorem lc_X7_79 : ec_cV RX7 79 mX7_byChange 2 7 := ⟨⟨(ec_in 364 rfl rfl), (ec_in 7 rfl rfl), wc_X7_byChange, by decide +kernel, ⟨by decide +kernel, by decide +kernel, by decide +kernel⟩⟩, (ec_in 366 rfl rfl), (ec_inS 5 rfl rfl), TX7, 7, rfl⟩
set_option maxRecDepth 20000 in
theorem lc_X7_51 : ec_cV RX7 51 mX7_priceOfFirst 1 7 := ⟨⟨(ec_in 368 rfl rfl), (ec_in 7 rfl rfl), wc_X7_priceOfFirst, by decide +kernel, ⟨by decide +kernel, by decide +kernel, by decide +kernel⟩⟩, (ec_in 369 rfl rfl), (ec_in 370 rfl rfl), TX7, 7, rfl⟩
set_option maxRecDepth 20000 in
theorem lc_L_54 : ec_cV RL 54 mX9_begins 1 9 := ⟨⟨(ec_in 373 rfl rfl), (ec_in 1 rfl rfl), wc_X9_begins, by decide +kernel, ⟨by decide +kernel, by decide +kernel, by decide +kernel⟩⟩, (ec_in 374 rfl rfl), (ec_in 375 rfl rfl), TX9, 8, rfl⟩
set_option maxRecDepth 20000 in
theorem lc_X9_119 : ec_cV RX9 119 mX9_priceOfBeginning 1 9 := ⟨⟨(ec_in 377 rfl rfl), (ec_in 1 rfl rfl), wc_X9_priceOfBeginning, by decide +kernel, ⟨by decide +kernel, by decide +kernel, by decide +kernel⟩⟩, (ec_in 379 rfl rfl), (ec_inS 6 rfl rfl), TX9, 8, rfl⟩
set_option maxRecDepth 20000 in
theorem lc_X9_191 : ec_cV RX9 191 mX7_leastOfBeginnings 0 7 := ⟨⟨(ec_in 381 rfl rfl), (ec_in 7 rfl rfl), wc_X7_leastOfBeginnings, by decide +kernel, ⟨by decide +kernel, by decide +kernel, by decide +kernel⟩⟩, (ec_in 382 rfl rfl), (ec_in 383 rfl rfl), TX7, 7, rfl⟩
set_option maxRecDepth 20000 in
theorem lc_L_58 : ec_cV RL 58 mX9_edit 2 9 := ⟨⟨(ec_in 385 rfl rfl), (ec_in 1 rfl rfl), wc_X9_edit, by decide +kernel, ⟨by decide +kernel, by decide +kernel, by decide +kernel⟩⟩, (ec_in 386 rfl rfl), (ec_in 387 rfl rfl), TX9, 8, rfl⟩
set_option maxRecDepth 20000 in
theorem lc_X9_122 : ec_cV RX9 122 mX9_findEdits 1 9 := ⟨⟨(ec_in 389 rfl rfl), (ec_in 1 rfl rfl), wc_X9_findEdits, by decide +kernel, ⟨by decide +kernel, by decide +kernel, by decide +kernel⟩⟩, (ec_in 391 rfl rfl), (ec_inS 7 rfl rfl), TX9, 8, rfl⟩
set_option maxRecDepth 20000 in
theorem lc_X9_195 : ec_cV RX9 195 mX7_trace 0 7 := ⟨⟨(ec_in 393 rfl rfl), (ec_in 7 rfl rfl), wc_X7_trace, by decide +kernel, ⟨by decide +kernel, by decide +kernel, by decide +kernel⟩⟩, (ec_in 394 rfl rfl), (ec_in 395 rfl rfl), TX7, 7, rfl⟩
set_option maxRecDepth 20000 in
theorem lc_X7_71 : ec_cV RX7 71 mX7_note 2 7 := ⟨⟨(ec_in 397 rfl rfl), (ec_in 7 rfl rfl), wc_X7_note, by decide +kernel, ⟨by decide +kernel, by decide +kernel, by decide +kernel⟩⟩, (ec_in 399 rfl rfl), (ec_inS 8 rfl rfl), TX7, 7, rfl⟩
set_option maxRecDepth 20000 in
theorem lc_X9_129 : ec_cV RX9 129 mX7_kindOfEdit 1 7 := ⟨⟨(ec_in 401 rfl rfl), (ec_in 7 rfl rfl), wc_X7_kindOfEdit, by decide +kernel, ⟨by decide +kernel, by decide +kernel, by decide +kernel⟩⟩, (ec_in 402 rfl rfl), (ec_in 403 rfl rfl), TX7, 7, rfl⟩
set_option maxRecDepth 20000 in
theorem lc_L_62 : ec_cV RL 62 mX9_place 2 9 := ⟨⟨(ec_in 405 rfl rfl), (ec_in 1 rfl rfl), wc_X9_place, by decide +kernel, ⟨by decide +kernel, by decide +kernel, by decide +kernel⟩⟩, (ec_in 406 rfl rfl), (ec_in 407 rfl rfl), TX9, 8, rfl⟩
set_option maxRecDepth 20000 in
theorem lc_X9_132 : ec_cV RX9 132 mX7_placeOfEdit 1 7 := ⟨⟨(ec_in 409 rfl rfl), (ec_in 7 rfl rfl), wc_X7_placeOfEdit, by decide +kernel, ⟨by decide +kernel, by decide +kernel, by decide +kernel⟩⟩, (ec_in 410 rfl rfl), (ec_in 411 rfl rfl), TX7, 7, rfl⟩
set_option maxRecDepth 20000 in
theorem lc_L_66 : ec_cV RL 66 mX9_suggest 1 9 := ⟨⟨(ec_in 413 rfl rfl), (ec_in 1 rfl rfl), wc_X9_suggest, by decide +kernel, ⟨by decide +kernel, by decide +kernel, by decide +kernel⟩⟩, (ec_in 414 rfl rfl), (ec_in 415 rfl rfl), TX9, 8, rfl⟩
set_option maxRecDepth 20000 in
theorem lc_X9_135 : ec_cV RX9 135 mX9_howMany 2 9 := ⟨⟨(ec_in 417 rfl rfl), (ec_in 1 rfl rfl), wc_X9_howMany, by decide +kernel, ⟨by decide +kernel, by decide +kernel, by decide +kernel⟩⟩, (ec_in 419 rfl rfl), (ec_inS 9 rfl rfl), TX9, 8, rfl⟩
set_option maxRecDepth 20000 in
theorem lc_X9_166 : ec_cS RX9 166 mX9_isLimit 1 := ⟨⟨(ec_in 421 rfl rfl), (ec_in 1 rfl rfl), wc_X9_isLimit, by decide +kernel, ⟨by decide +kernel, by decide +kernel, by decide +kernel⟩⟩, (ec_in 422 rfl rfl)⟩
set_option maxRecDepth 20000 in
theorem lc_X9_198 : ec_cV RX9 198 mX9_rankWords 2 9 := ⟨⟨(ec_in 424 rfl rfl), (ec_in 1 rfl rfl), wc_X9_rankWords, by decide +kernel, ⟨by decide +kernel, by decide +kernel, by decide +kernel⟩⟩, (ec_in 426 rfl rfl), (ec_inS 10 rfl rfl), TX9, 8, rfl⟩
set_option maxRecDepth 20000 in
theorem lc_X9_209 : ec_cV RX9 209 mX4_add 3 4 := ⟨⟨(ec_in 428 rfl rfl), (ec_in 8 rfl rfl), wc_X4_add, by decide +kernel, ⟨by decide +kernel, by decide +kernel, by decide +kernel⟩⟩, (ec_in 429 rfl rfl), (ec_in 430 rfl rfl), TX4, 4, rfl⟩
set_option maxRecDepth 20000 in
theorem lc_X4_25 : ec_cV RX4 25 mX4_isBehind 3 4 := ⟨⟨(ec_in 432 rfl rfl), (ec_in 8 rfl rfl), wc_X4_isBehind, by decide +kernel, ⟨by decide +kernel, by decide +kernel, by decide +kernel⟩⟩, (ec_in 434 rfl rfl), (ec_inS 11 rfl rfl), TX4, 4, rfl⟩
set_option maxRecDepth 20000 in
theorem lc_L_70 : ec_cV RL 70 mX9_suggestion 2 9 := ⟨⟨(ec_in 436 rfl rfl), (ec_in 1 rfl rfl), wc_X9_suggestion, by decide +kernel, ⟨by decide +kernel, by decide +kernel, by decide +kernel⟩⟩, (ec_in 437 rfl rfl), (ec_in 438 rfl rfl), TX9, 8, rfl⟩
set_option maxRecDepth 20000 in
theorem lc_X9_139 : ec_cV RX9 139 mX9_rankedWord 3 9 := ⟨⟨(ec_in 440 rfl rfl), (ec_in 1 rfl rfl), wc_X9_rankedWord, by decide +kernel, ⟨by decide +kernel, by decide +kernel, by decide +kernel⟩⟩, (ec_in 442 rfl rfl), (ec_inS 12 rfl rfl), TX9, 8, rfl⟩
set_option maxRecDepth 20000 in
theorem lc_L_74 : ec_cV RL 74 mX9_endings 1 9 := ⟨⟨(ec_in 444 rfl rfl), (ec_in 1 rfl rfl), wc_X9_endings, by decide +kernel, ⟨by decide +kernel, by decide +kernel, by decide +kernel⟩⟩, (ec_in 445 rfl rfl), (ec_in 446 rfl rfl), TX9, 8, rfl⟩
set_option maxRecDepth 20000 in
theorem lc_L_78 : ec_cV RL 78 mX9_ending 2 9 := ⟨⟨(ec_in 448 rfl rfl), (ec_in 1 rfl rfl), wc_X9_ending, by decide +kernel, ⟨by decide +kernel, by decide +kernel, by decide +kernel⟩⟩, (ec_in 449 rfl rfl), (ec_in 450 rfl rfl), TX9, 8, rfl⟩
set_option maxRecDepth 20000 in
theorem lc_L_82 : ec_cV RL 82 mX9_parting 1 9 := ⟨⟨(ec_in 452 rfl rfl), (ec_in 1 rfl rfl), wc_X9_parting, by decide +kernel, ⟨by decide +kernel, by decide +kernel, by decide +kernel⟩⟩, (ec_in 453 rfl rfl), (ec_in 454 rfl rfl), TX9, 8, rfl⟩
set_option maxRecDepth 20000 in
theorem lc_X9_143 : ec_cV RX9 143 mX2_find 4 2 := ⟨⟨(ec_in 456 rfl rfl), (ec_in 9 rfl rfl), wc_X2_find, by decide +kernel, ⟨by decide +kernel, by decide +kernel, by decide +kernel⟩⟩, (ec_in 457 rfl rfl), (ec_in 458 rfl rfl), TX2, 6, rfl⟩
set_option maxRecDepth 20000 in
theorem lc_X2_35 : ec_cV RX2 35 mX2_fillSides 3 2 := ⟨⟨(ec_in 460 rfl rfl), (ec_in 9 rfl rfl), wc_X2_fillSides, by decide +kernel, ⟨by decide +kernel, by decide +kernel, by decide +kernel⟩⟩, (ec_in 462 rfl rfl), (ec_inS 13 rfl rfl), TX2, 6, rfl⟩
set_option maxRecDepth 20000 in
theorem lc_X2_51 : ec_cV RX2 51 mX6_empty 0 6 := ⟨⟨(ec_in 464 rfl rfl), (ec_in 10 rfl rfl), wc_X6_empty, by decide +kernel, ⟨by decide +kernel, by decide +kernel, by decide +kernel⟩⟩, (ec_in 465 rfl rfl), (ec_in 466 rfl rfl), TX6, 2, rfl⟩
set_option maxRecDepth 20000 in
theorem lc_X6_19 : ec_cS RX6 19 mJ7_fill_53178 2 := ⟨⟨(ec_in 469 rfl rfl), (ec_in 4 rfl rfl), wc_J7_fill_53178, by decide +kernel, ⟨by decide +kernel, by decide +kernel, by decide +kernel⟩⟩, (ec_in 54 rfl rfl)⟩
set_option maxRecDepth 20000 in
theorem lc_X2_66 : ec_cV RX2 66 mX7_measure 2 7 := ⟨⟨(ec_in 470 rfl rfl), (ec_in 7 rfl rfl), wc_X7_measure, by decide +kernel, ⟨by decide +kernel, by decide +kernel, by decide +kernel⟩⟩, (ec_in 339 rfl rfl), (ec_in 340 rfl rfl), TX7, 7, rfl⟩
set_option maxRecDepth 20000 in
theorem lc_X2_72 : ec_cV RX2 72 mX6_offer 3 6 := ⟨⟨(ec_in 471 rfl rfl), (ec_in 10 rfl rfl), wc_X6_offer, by decide +kernel, ⟨by decide +kernel, by decide +kernel, by decide +kernel⟩⟩, (ec_in 472 rfl rfl), (ec_in 473 rfl rfl), TX6, 2, rfl⟩
set_option maxRecDepth 20000 in
theorem lc_X6_25 : ec_cV RX6 25 mX7_priceOfFirst 1 7 := ⟨⟨(ec_in 475 rfl rfl), (ec_in 7 rfl rfl), wc_X7_priceOfFirst, by decide +kernel, ⟨by decide +kernel, by decide +kernel, by decide +kernel⟩⟩, (ec_in 369 rfl rfl), (ec_in 370 rfl rfl), TX7, 7, rfl⟩
set_option maxRecDepth 20000 in
theorem lc_X2_76 : ec_cV RX2 76 mX7_measureMirrored 2 7 := ⟨⟨(ec_in 476 rfl rfl), (ec_in 7 rfl rfl), wc_X7_measureMirrored, by decide +kernel, ⟨by decide +kernel, by decide +kernel, by decide +kernel⟩⟩, (ec_in 477 rfl rfl), (ec_in 478 rfl rfl), TX7, 7, rfl⟩
set_option maxRecDepth 20000 in
theorem lc_X7_55 : ec_cV RX7 55 mX5_mirrorOf 1 5 := ⟨⟨(ec_in 480 rfl rfl), (ec_in 2 rfl rfl), wc_X5_mirrorOf, by decide +kernel, ⟨by decide +kernel, by decide +kernel, by decide +kernel⟩⟩, (ec_in 481 rfl rfl), (ec_in 482 rfl rfl), TX5, 2, rfl⟩
set_option maxRecDepth 20000 in
theorem lc_L_86 : ec_cV RL 86 mX9_token 0 9 := ⟨⟨(ec_in 484 rfl rfl), (ec_in 1 rfl rfl), wc_X9_token, by decide +kernel, ⟨by decide +kernel, by decide +kernel, by decide +kernel⟩⟩, (ec_in 485 rfl rfl), (ec_in 486 rfl rfl), TX9, 8, rfl⟩
set_option maxRecDepth 20000 in
theorem lc_X9_159 : ec_cV RX9 159 mX1_add 1 1 := ⟨⟨(ec_in 488 rfl rfl), (ec_in 6 rfl rfl), wc_X1_add, by decide +kernel, ⟨by decide +kernel, by decide +kernel, by decide +kernel⟩⟩, (ec_in 489 rfl rfl), (ec_in 490 rfl rfl), TX1, 2, rfl⟩
set_option maxRecDepth 20000 in
theorem lc_X1_22 : ec_cV RX1 22 mX5_copyOf 1 5 := ⟨⟨(ec_in 492 rfl rfl), (ec_in 2 rfl rfl), wc_X5_copyOf, by decide +kernel, ⟨by decide +kernel, by decide +kernel, by decide +kernel⟩⟩, (ec_in 302 rfl rfl), (ec_in 303 rfl rfl), TX5, 2, rfl⟩
set_option maxRecDepth 20000 in
theorem lc_L_90 : ec_cV RL 90 mX9_line 0 9 := ⟨⟨(ec_in 493 rfl rfl), (ec_in 1 rfl rfl), wc_X9_line, by decide +kernel, ⟨by decide +kernel, by decide +kernel, by decide +kernel⟩⟩, (ec_in 494 rfl rfl), (ec_in 495 rfl rfl), TX9, 8, rfl⟩
set_option maxRecDepth 20000 in
theorem lc_L_94 : ec_cV RL 94 mX9_pair 3 9 := ⟨⟨(ec_in 497 rfl rfl), (ec_in 1 rfl rfl), wc_X9_pair, by decide +kernel, ⟨by decide +kernel, by decide +kernel, by decide +kernel⟩⟩, (ec_in 498 rfl rfl), (ec_in 499 rfl rfl), TX9, 8, rfl⟩
set_option maxRecDepth 20000 in
theorem lc_X9_162 : ec_cV RX9 162 mX8_setPair 3 8 := ⟨⟨(ec_in 501 rfl rfl), (ec_in 5 rfl rfl), wc_X8_setPair, by decide +kernel, ⟨by decide +kernel, by decide +kernel, by decide +kernel⟩⟩, (ec_in 502 rfl rfl), (ec_in 503 rfl rfl), TX8, 5, rfl⟩
set_option maxRecDepth 20000 in
theorem lc_X8_41 : ec_cV RX8 41 mX8_isPair 2 8 := ⟨⟨(ec_in 505 rfl rfl), (ec_in 5 rfl rfl), wc_X8_isPair, by decide +kernel, ⟨by decide +kernel, by decide +kernel, by decide +kernel⟩⟩, (ec_in 506 rfl rfl), (ec_in 507 rfl rfl), TX8, 5, rfl⟩
set_option maxRecDepth 20000 in
theorem lc_L_99 : ec_cV RL 99 mX9_chosen 2 9 := ⟨⟨(ec_in 509 rfl rfl), (ec_in 1 rfl rfl), wc_X9_chosen, by decide +kernel, ⟨by decide +kernel, by decide +kernel, by decide +kernel⟩⟩, (ec_in 510 rfl rfl), (ec_in 511 rfl rfl), TX9, 8, rfl⟩
set_option maxRecDepth 20000 in
theorem lc_X9_169 : ec_cV RX9 169 mX0_measure 4 0 := ⟨⟨(ec_in 513 rfl rfl), (ec_in 11 rfl rfl), wc_X0_measure, by decide +kernel, ⟨by decide +kernel, by decide +kernel, by decide +kernel⟩⟩, (ec_in 514 rfl rfl), (ec_in 515 rfl rfl), TX0, 4, rfl⟩
set_option maxRecDepth 20000 in
theorem lc_X0_43 : ec_cV RX0 43 mX7_measure 2 7 := ⟨⟨(ec_in 517 rfl rfl), (ec_in 7 rfl rfl), wc_X7_measure, by decide +kernel, ⟨by decide +kernel, by decide +kernel, by decide +kernel⟩⟩, (ec_in 339 rfl rfl), (ec_in 340 rfl rfl), TX7, 7, rfl⟩
set_option maxRecDepth 20000 in
theorem lc_X9_173 : ec_cV RX9 173 mX0_choose 3 0 := ⟨⟨(ec_in 519 rfl rfl), (ec_in 11 rfl rfl), wc_X0_choose, by decide +kernel, ⟨by decide +kernel, by decide +kernel, by decide +kernel⟩⟩, (ec_in 520 rfl rfl), (ec_in 521 rfl rfl), TX0, 4, rfl⟩
set_option maxRecDepth 20000 in
theorem lc_X0_50 : ec_cV RX0 50 mX0_goOn 4 0 := ⟨⟨(ec_in 523 rfl rfl), (ec_in 11 rfl rfl), wc_X0_goOn, by decide +kernel, ⟨by decide +kernel, by decide +kernel, by decide +kernel⟩⟩, (ec_in 525 rfl rfl), (ec_inS 14 rfl rfl), TX0, 4, rfl⟩
set_option maxRecDepth 20000 in
theorem lc_X0_65 : ec_cV RX0 65 mX8_isPair 2 8 := ⟨⟨(ec_in 528 rfl rfl), (ec_in 5 rfl rfl), wc_X8_isPair, by decide +kernel, ⟨by decide +kernel, by decide +kernel, by decide +kernel⟩⟩, (ec_in 506 rfl rfl), (ec_in 507 rfl rfl), TX8, 5, rfl⟩
set_option maxRecDepth 20000 in
theorem lc_X0_54 : ec_cV RX0 54 mX0_cheapestFirst 1 0 := ⟨⟨(ec_in 529 rfl rfl), (ec_in 11 rfl rfl), wc_X0_cheapestFirst, by decide +kernel, ⟨by decide +kernel, by decide +kernel, by decide +kernel⟩⟩, (ec_in 531 rfl rfl), (ec_inS 15 rfl rfl), TX0, 4, rfl⟩
set_option maxRecDepth 20000 in
theorem lc_X0_58 : ec_cV RX0 58 mX0_keepRow 3 0 := ⟨⟨(ec_in 533 rfl rfl), (ec_in 11 rfl rfl), wc_X0_keepRow, by decide +kernel, ⟨by decide +kernel, by decide +kernel, by decide +kernel⟩⟩, (ec_in 535 rfl rfl), (ec_inS 16 rfl rfl), TX0, 4, rfl⟩
-- no row: (Jvm.Cond.methodLink "SuggestSpellLaw" (103 : Nat) ({ cls := "SuggestSpellLaw", name := "share", desc := "(LSuggestSpell
set_option maxRecDepth 20000 in
theorem lc_L_7 : ec_cV RL 7 mX9_share 1 9 := ⟨⟨(ec_in 542 rfl rfl), (ec_in 1 rfl rfl), wc_X9_share, by decide +kernel, ⟨by decide +kernel, by decide +kernel, by decide +kernel⟩⟩, (ec_in 543 rfl rfl), (ec_in 544 rfl rfl), TX9, 8, rfl⟩
-- no row: (Jvm.Cond.methodLink "SuggestSpell" (185 : Nat) ({ cls := "java/lang/ArithmeticException", name := "<init>", desc := "(L
set_option maxRecDepth 20000 in
theorem lc_L_18 : ec_cI RL 18 mX10_init 0 := ⟨⟨(ec_in 614 rfl rfl), (ec_in 12 rfl rfl), wc_X10_init, by decide +kernel, ⟨by decide +kernel, by decide +kernel, by decide +kernel⟩⟩, (ec_in 615 rfl rfl), rfl, rfl⟩
set_option maxRecDepth 20000 in
theorem lo_X10_1 : Cond.methodLink RX10 1 objectInit ∈ ec_tb := (ec_in 617 rfl rfl)
set_option maxRecDepth 20000 in
theorem lc_L_109 : ec_cV RL 109 mX10_thrown 0 10 := ⟨⟨(ec_in 694 rfl rfl), (ec_in 12 rfl rfl), wc_X10_thrown, by decide +kernel, ⟨by decide +kernel, by decide +kernel, by decide +kernel⟩⟩, (ec_in 695 rfl rfl), (ec_in 696 rfl rfl), TX10, 25, rfl⟩
set_option maxRecDepth 20000 in
theorem lc_L_22 : ec_cV RL 22 mX10_letter 1 10 := ⟨⟨(ec_in 698 rfl rfl), (ec_in 12 rfl rfl), wc_X10_letter, by decide +kernel, ⟨by decide +kernel, by decide +kernel, by decide +kernel⟩⟩, (ec_in 699 rfl rfl), (ec_in 700 rfl rfl), TX10, 25, rfl⟩
set_option maxRecDepth 20000 in
theorem lc_X10_69 : ec_cS RX10 69 mX10_in 3 := ⟨⟨(ec_in 702 rfl rfl), (ec_in 12 rfl rfl), wc_X10_in, by decide +kernel, ⟨by decide +kernel, by decide +kernel, by decide +kernel⟩⟩, (ec_in 703 rfl rfl)⟩
set_option maxRecDepth 20000 in
theorem lc_L_27 : ec_cV RL 27 mX10_clear 0 10 := ⟨⟨(ec_in 705 rfl rfl), (ec_in 12 rfl rfl), wc_X10_clear, by decide +kernel, ⟨by decide +kernel, by decide +kernel, by decide +kernel⟩⟩, (ec_in 706 rfl rfl), (ec_in 707 rfl rfl), TX10, 25, rfl⟩
set_option maxRecDepth 20000 in
theorem lc_L_31 : ec_cV RL 31 mX10_word 1 10 := ⟨⟨(ec_in 709 rfl rfl), (ec_in 12 rfl rfl), wc_X10_word, by decide +kernel, ⟨by decide +kernel, by decide +kernel, by decide +kernel⟩⟩, (ec_in 710 rfl rfl), (ec_in 711 rfl rfl), TX10, 25, rfl⟩
set_option maxRecDepth 20000 in
theorem lc_L_36 : ec_cV RL 36 mX10_count 2 10 := ⟨⟨(ec_in 713 rfl rfl), (ec_in 12 rfl rfl), wc_X10_count, by decide +kernel, ⟨by decide +kernel, by decide +kernel, by decide +kernel⟩⟩, (ec_in 714 rfl rfl), (ec_in 715 rfl rfl), TX10, 25, rfl⟩
set_option maxRecDepth 20000 in
theorem lc_X10_76 : ec_cV RX10 76 mX10_isWord 1 10 := ⟨⟨(ec_in 717 rfl rfl), (ec_in 12 rfl rfl), wc_X10_isWord, by decide +kernel, ⟨by decide +kernel, by decide +kernel, by decide +kernel⟩⟩, (ec_in 719 rfl rfl), (ec_inS 18 rfl rfl), TX10, 25, rfl⟩
set_option maxRecDepth 20000 in
theorem lc_L_40 : ec_cV RL 40 mX10_at 2 10 := ⟨⟨(ec_in 721 rfl rfl), (ec_in 12 rfl rfl), wc_X10_at, by decide +kernel, ⟨by decide +kernel, by decide +kernel, by decide +kernel⟩⟩, (ec_in 722 rfl rfl), (ec_in 723 rfl rfl), TX10, 25, rfl⟩
set_option maxRecDepth 20000 in
theorem lc_X10_84 : ec_cV RX10 84 mX10_rank 1 10 := ⟨⟨(ec_in 725 rfl rfl), (ec_in 12 rfl rfl), wc_X10_rank, by decide +kernel, ⟨by decide +kernel, by decide +kernel, by decide +kernel⟩⟩, (ec_in 727 rfl rfl), (ec_inS 19 rfl rfl), TX10, 25, rfl⟩
set_option maxRecDepth 20000 in
theorem lc_X10_80 : ec_cV RX10 80 mX10_isAhead 2 10 := ⟨⟨(ec_in 729 rfl rfl), (ec_in 12 rfl rfl), wc_X10_isAhead, by decide +kernel, ⟨by decide +kernel, by decide +kernel, by decide +kernel⟩⟩, (ec_in 731 rfl rfl), (ec_inS 20 rfl rfl), TX10, 25, rfl⟩
set_option maxRecDepth 20000 in
theorem lc_L_44 : ec_cV RL 44 mX10_price 2 10 := ⟨⟨(ec_in 733 rfl rfl), (ec_in 12 rfl rfl), wc_X10_price, by decide +kernel, ⟨by decide +kernel, by decide +kernel, by decide +kernel⟩⟩, (ec_in 734 rfl rfl), (ec_in 735 rfl rfl), TX10, 25, rfl⟩
set_option maxRecDepth 20000 in
theorem lc_L_49 : ec_cV RL 49 mX10_near 3 10 := ⟨⟨(ec_in 737 rfl rfl), (ec_in 12 rfl rfl), wc_X10_near, by decide +kernel, ⟨by decide +kernel, by decide +kernel, by decide +kernel⟩⟩, (ec_in 738 rfl rfl), (ec_in 739 rfl rfl), TX10, 25, rfl⟩
set_option maxRecDepth 20000 in
theorem lc_L_53 : ec_cV RL 53 mX10_distance 1 10 := ⟨⟨(ec_in 741 rfl rfl), (ec_in 12 rfl rfl), wc_X10_distance, by decide +kernel, ⟨by decide +kernel, by decide +kernel, by decide +kernel⟩⟩, (ec_in 742 rfl rfl), (ec_in 743 rfl rfl), TX10, 25, rfl⟩
set_option maxRecDepth 20000 in
theorem lc_X10_102 : ec_cV RX10 102 mX10_takeTyped 2 10 := ⟨⟨(ec_in 745 rfl rfl), (ec_in 12 rfl rfl), wc_X10_takeTyped, by decide +kernel, ⟨by decide +kernel, by decide +kernel, by decide +kernel⟩⟩, (ec_in 747 rfl rfl), (ec_inS 21 rfl rfl), TX10, 25, rfl⟩
set_option maxRecDepth 20000 in
theorem lc_X10_99 : ec_cV RX10 99 mX10_fill 1 10 := ⟨⟨(ec_in 749 rfl rfl), (ec_in 12 rfl rfl), wc_X10_fill, by decide +kernel, ⟨by decide +kernel, by decide +kernel, by decide +kernel⟩⟩, (ec_in 751 rfl rfl), (ec_inS 22 rfl rfl), TX10, 25, rfl⟩
set_option maxRecDepth 20000 in
theorem lc_X10_92 : ec_cV RX10 92 mX10_becomes 2 10 := ⟨⟨(ec_in 754 rfl rfl), (ec_in 12 rfl rfl), wc_X10_becomes, by decide +kernel, ⟨by decide +kernel, by decide +kernel, by decide +kernel⟩⟩, (ec_in 756 rfl rfl), (ec_inS 23 rfl rfl), TX10, 25, rfl⟩
set_option maxRecDepth 20000 in
theorem lc_X10_96 : ec_cV RX10 96 mX10_isTurned 3 10 := ⟨⟨(ec_in 758 rfl rfl), (ec_in 12 rfl rfl), wc_X10_isTurned, by decide +kernel, ⟨by decide +kernel, by decide +kernel, by decide +kernel⟩⟩, (ec_in 760 rfl rfl), (ec_inS 24 rfl rfl), TX10, 25, rfl⟩
set_option maxRecDepth 20000 in
theorem lc_L_57 : ec_cV RL 57 mX10_begins 1 10 := ⟨⟨(ec_in 762 rfl rfl), (ec_in 12 rfl rfl), wc_X10_begins, by decide +kernel, ⟨by decide +kernel, by decide +kernel, by decide +kernel⟩⟩, (ec_in 763 rfl rfl), (ec_in 764 rfl rfl), TX10, 25, rfl⟩
set_option maxRecDepth 20000 in
theorem lc_X10_106 : ec_cV RX10 106 mX10_beginsBy 1 10 := ⟨⟨(ec_in 766 rfl rfl), (ec_in 12 rfl rfl), wc_X10_beginsBy, by decide +kernel, ⟨by decide +kernel, by decide +kernel, by decide +kernel⟩⟩, (ec_in 768 rfl rfl), (ec_inS 25 rfl rfl), TX10, 25, rfl⟩
set_option maxRecDepth 20000 in
theorem lc_L_61 : ec_cV RL 61 mX10_edit 2 10 := ⟨⟨(ec_in 770 rfl rfl), (ec_in 12 rfl rfl), wc_X10_edit, by decide +kernel, ⟨by decide +kernel, by decide +kernel, by decide +kernel⟩⟩, (ec_in 771 rfl rfl), (ec_in 772 rfl rfl), TX10, 25, rfl⟩
set_option maxRecDepth 20000 in
theorem lc_X10_115 : ec_cV RX10 115 mX10_find 1 10 := ⟨⟨(ec_in 774 rfl rfl), (ec_in 12 rfl rfl), wc_X10_find, by decide +kernel, ⟨by decide +kernel, by decide +kernel, by decide +kernel⟩⟩, (ec_in 776 rfl rfl), (ec_inS 26 rfl rfl), TX10, 25, rfl⟩
set_option maxRecDepth 20000 in
theorem lc_X10_112 : ec_cV RX10 112 mX10_note 2 10 := ⟨⟨(ec_in 778 rfl rfl), (ec_in 12 rfl rfl), wc_X10_note, by decide +kernel, ⟨by decide +kernel, by decide +kernel, by decide +kernel⟩⟩, (ec_in 780 rfl rfl), (ec_inS 27 rfl rfl), TX10, 25, rfl⟩
set_option maxRecDepth 20000 in
theorem lc_L_65 : ec_cV RL 65 mX10_place 2 10 := ⟨⟨(ec_in 782 rfl rfl), (ec_in 12 rfl rfl), wc_X10_place, by decide +kernel, ⟨by decide +kernel, by decide +kernel, by decide +kernel⟩⟩, (ec_in 783 rfl rfl), (ec_in 784 rfl rfl), TX10, 25, rfl⟩
set_option maxRecDepth 20000 in
theorem lc_L_69 : ec_cV RL 69 mX10_suggest 1 10 := ⟨⟨(ec_in 786 rfl rfl), (ec_in 12 rfl rfl), wc_X10_suggest, by decide +kernel, ⟨by decide +kernel, by decide +kernel, by decide +kernel⟩⟩, (ec_in 787 rfl rfl), (ec_in 788 rfl rfl), TX10, 25, rfl⟩
set_option maxRecDepth 20000 in
theorem lc_X10_126 : ec_cV RX10 126 mX10_look 2 10 := ⟨⟨(ec_in 790 rfl rfl), (ec_in 12 rfl rfl), wc_X10_look, by decide +kernel, ⟨by decide +kernel, by decide +kernel, by decide +kernel⟩⟩, (ec_in 792 rfl rfl), (ec_inS 28 rfl rfl), TX10, 25, rfl⟩
set_option maxRecDepth 20000 in
theorem lc_X10_122 : ec_cV RX10 122 mX10_isBefore 4 10 := ⟨⟨(ec_in 794 rfl rfl), (ec_in 12 rfl rfl), wc_X10_isBefore, by decide +kernel, ⟨by decide +kernel, by decide +kernel, by decide +kernel⟩⟩, (ec_in 796 rfl rfl), (ec_inS 29 rfl rfl), TX10, 25, rfl⟩
set_option maxRecDepth 20000 in
theorem lc_L_73 : ec_cV RL 73 mX10_suggestion 2 10 := ⟨⟨(ec_in 798 rfl rfl), (ec_in 12 rfl rfl), wc_X10_suggestion, by decide +kernel, ⟨by decide +kernel, by decide +kernel, by decide +kernel⟩⟩, (ec_in 799 rfl rfl), (ec_in 800 rfl rfl), TX10, 25, rfl⟩
set_option maxRecDepth 20000 in
theorem lc_L_77 : ec_cV RL 77 mX10_endings 1 10 := ⟨⟨(ec_in 802 rfl rfl), (ec_in 12 rfl rfl), wc_X10_endings, by decide +kernel, ⟨by decide +kernel, by decide +kernel, by decide +kernel⟩⟩, (ec_in 803 rfl rfl), (ec_in 804 rfl rfl), TX10, 25, rfl⟩
set_option maxRecDepth 20000 in
theorem lc_L_81 : ec_cV RL 81 mX10_ending 2 10 := ⟨⟨(ec_in 806 rfl rfl), (ec_in 12 rfl rfl), wc_X10_ending, by decide +kernel, ⟨by decide +kernel, by decide +kernel, by decide +kernel⟩⟩, (ec_in 807 rfl rfl), (ec_in 808 rfl rfl), TX10, 25, rfl⟩
set_option maxRecDepth 20000 in
theorem lc_L_85 : ec_cV RL 85 mX10_parting 1 10 := ⟨⟨(ec_in 810 rfl rfl), (ec_in 12 rfl rfl), wc_X10_parting, by decide +kernel, ⟨by decide +kernel, by decide +kernel, by decide +kernel⟩⟩, (ec_in 811 rfl rfl), (ec_in 812 rfl rfl), TX10, 25, rfl⟩
set_option maxRecDepth 20000 in
theorem lc_X10_133 : ec_cV RX10 133 mX10_side 2 10 := ⟨⟨(ec_in 814 rfl rfl), (ec_in 12 rfl rfl), wc_X10_side, by decide +kernel, ⟨by decide +kernel, by decide +kernel, by decide +kernel⟩⟩, (ec_in 816 rfl rfl), (ec_inS 30 rfl rfl), TX10, 25, rfl⟩
set_option maxRecDepth 20000 in
theorem lc_L_89 : ec_cV RL 89 mX10_token 0 10 := ⟨⟨(ec_in 818 rfl rfl), (ec_in 12 rfl rfl), wc_X10_token, by decide +kernel, ⟨by decide +kernel, by decide +kernel, by decide +kernel⟩⟩, (ec_in 819 rfl rfl), (ec_in 820 rfl rfl), TX10, 25, rfl⟩
set_option maxRecDepth 20000 in
theorem lc_L_93 : ec_cV RL 93 mX10_line 0 10 := ⟨⟨(ec_in 822 rfl rfl), (ec_in 12 rfl rfl), wc_X10_line, by decide +kernel, ⟨by decide +kernel, by decide +kernel, by decide +kernel⟩⟩, (ec_in 823 rfl rfl), (ec_in 824 rfl rfl), TX10, 25, rfl⟩
set_option maxRecDepth 20000 in
theorem lc_L_98 : ec_cV RL 98 mX10_pair 3 10 := ⟨⟨(ec_in 826 rfl rfl), (ec_in 12 rfl rfl), wc_X10_pair, by decide +kernel, ⟨by decide +kernel, by decide +kernel, by decide +kernel⟩⟩, (ec_in 827 rfl rfl), (ec_in 828 rfl rfl), TX10, 25, rfl⟩
set_option maxRecDepth 20000 in
theorem lc_L_102 : ec_cV RL 102 mX10_chosen 2 10 := ⟨⟨(ec_in 830 rfl rfl), (ec_in 12 rfl rfl), wc_X10_chosen, by decide +kernel, ⟨by decide +kernel, by decide +kernel, by decide +kernel⟩⟩, (ec_in 831 rfl rfl), (ec_in 832 rfl rfl), TX10, 25, rfl⟩
set_option maxRecDepth 20000 in
theorem lc_X10_139 : ec_cV RX10 139 mX10_nextTo 2 10 := ⟨⟨(ec_in 834 rfl rfl), (ec_in 12 rfl rfl), wc_X10_nextTo, by decide +kernel, ⟨by decide +kernel, by decide +kernel, by decide +kernel⟩⟩, (ec_in 836 rfl rfl), (ec_inS 31 rfl rfl), TX10, 25, rfl⟩
set_option maxRecDepth 20000 in
theorem lc_L_108 : ec_cV RL 108 mX10_share 1 10 := ⟨⟨(ec_in 838 rfl rfl), (ec_in 12 rfl rfl), wc_X10_share, by decide +kernel, ⟨by decide +kernel, by decide +kernel, by decide +kernel⟩⟩, (ec_in 839 rfl rfl), (ec_in 840 rfl rfl), TX10, 25, rfl⟩
set_option maxRecDepth 20000 in
theorem lk_X2_21 : Jvm.Cond.constant RX2 21 1000000 ∈ ec_tb := (ec_in 194 rfl rfl)
set_option maxRecDepth 20000 in
theorem lk_X7_58 : Jvm.Cond.constant RX7 58 1000000 ∈ ec_tb := (ec_in 372 rfl rfl)
set_option maxRecDepth 20000 in
theorem lk_X6_18 : Jvm.Cond.constant RX6 18 1000000 ∈ ec_tb := (ec_in 468 rfl rfl)
set_option maxRecDepth 20000 in
theorem lk_X0_49 : Jvm.Cond.constant RX0 49 1000000 ∈ ec_tb := (ec_in 518 rfl rfl)
set_option maxRecDepth 20000 in
theorem lk_X0_64 : Jvm.Cond.constant RX0 64 2147483647 ∈ ec_tb := (ec_in 527 rfl rfl)
set_option maxRecDepth 20000 in
theorem lk_X9_177 : Jvm.Cond.constant RX9 177 1000000 ∈ ec_tb := (ec_in 537 rfl rfl)
set_option maxRecDepth 20000 in
theorem lk_X10_91 : Jvm.Cond.constant RX10 91 100000 ∈ ec_tb := (ec_in 753 rfl rfl)
set_option maxRecDepth 20000 in
theorem lw_L_8 : Cond.classLink RL 8 RX9 ∈ ec_tb := (ec_in 18 rfl rfl)
set_option maxRecDepth 20000 in
theorem ld_L_8 : ec_cn RL 8 9 8 [.null, .null, .null, .null, .null, .null, .null, .null] := ⟨RX9, TX9, tyX9, rfl, uw_9, tyX9_ok, by decide +kernel, lw_L_8, (ec_in 19 rfl rfl), (ec_in 1 rfl rfl)⟩
set_option maxRecDepth 20000 in
theorem lw_X9_7 : Cond.classLink RX9 7 RX5 ∈ ec_tb := (ec_in 26 rfl rfl)
set_option maxRecDepth 20000 in
theorem ld_X9_7 : ec_cn RX9 7 5 2 [.null, .int 0] := ⟨RX5, TX5, tyX5, rfl, uw_5, tyX5_ok, by decide +kernel, lw_X9_7, (ec_in 27 rfl rfl), (ec_in 2 rfl rfl)⟩
set_option maxRecDepth 20000 in
theorem lw_X9_16 : Cond.classLink RX9 16 RX3 ∈ ec_tb := (ec_in 45 rfl rfl)
set_option maxRecDepth 20000 in
theorem ld_X9_16 : ec_cn RX9 16 3 2 [.null, .null] := ⟨RX3, TX3, tyX3, rfl, uw_3, tyX3_ok, by decide +kernel, lw_X9_16, (ec_in 46 rfl rfl), (ec_in 3 rfl rfl)⟩
set_option maxRecDepth 20000 in
theorem lw_X3_15 : Cond.classLink RX3 15 "[[I" ∈ ec_tb := (ec_in 51 rfl rfl)
set_option maxRecDepth 20000 in
theorem lw_X9_23 : Cond.classLink RX9 23 RX8 ∈ ec_tb := (ec_in 66 rfl rfl)
set_option maxRecDepth 20000 in
theorem ld_X9_23 : ec_cn RX9 23 8 5 [.null, .null, .null, .null, .int 0] := ⟨RX8, TX8, tyX8, rfl, uw_8, tyX8_ok, by decide +kernel, lw_X9_23, (ec_in 67 rfl rfl), (ec_in 5 rfl rfl)⟩
set_option maxRecDepth 20000 in
theorem lw_X8_9 : Cond.classLink RX8 9 RX5 ∈ ec_tb := (ec_in 72 rfl rfl)
set_option maxRecDepth 20000 in
theorem ld_X8_9 : ec_cn RX8 9 5 2 [.null, .int 0] := ⟨RX5, TX5, tyX5, rfl, uw_5, tyX5_ok, by decide +kernel, lw_X8_9, (ec_in 27 rfl rfl), (ec_in 2 rfl rfl)⟩
set_option maxRecDepth 20000 in
theorem lw_X9_30 : Cond.classLink RX9 30 RX1 ∈ ec_tb := (ec_in 102 rfl rfl)
set_option maxRecDepth 20000 in
theorem ld_X9_30 : ec_cn RX9 30 1 2 [.null, .int 0] := ⟨RX1, TX1, tyX1, rfl, uw_1, tyX1_ok, by decide +kernel, lw_X9_30, (ec_in 103 rfl rfl), (ec_in 6 rfl rfl)⟩
set_option maxRecDepth 20000 in
theorem lw_X1_9 : Cond.classLink RX1 9 RX5 ∈ ec_tb := (ec_in 108 rfl rfl)
set_option maxRecDepth 20000 in
theorem ld_X1_9 : ec_cn RX1 9 5 2 [.null, .int 0] := ⟨RX5, TX5, tyX5, rfl, uw_5, tyX5_ok, by decide +kernel, lw_X1_9, (ec_in 27 rfl rfl), (ec_in 2 rfl rfl)⟩
set_option maxRecDepth 20000 in
theorem lw_X9_37 : Cond.classLink RX9 37 RX7 ∈ ec_tb := (ec_in 120 rfl rfl)
set_option maxRecDepth 20000 in
theorem ld_X9_37 : ec_cn RX9 37 7 7 [.null, .null, .null, .null, .null, .null, .int 0] := ⟨RX7, TX7, tyX7, rfl, uw_7, tyX7_ok, by decide +kernel, lw_X9_37, (ec_in 121 rfl rfl), (ec_in 7 rfl rfl)⟩
set_option maxRecDepth 20000 in
theorem lw_X7_9 : Cond.classLink RX7 9 RX5 ∈ ec_tb := (ec_in 126 rfl rfl)
set_option maxRecDepth 20000 in
theorem ld_X7_9 : ec_cn RX7 9 5 2 [.null, .int 0] := ⟨RX5, TX5, tyX5, rfl, uw_5, tyX5_ok, by decide +kernel, lw_X7_9, (ec_in 27 rfl rfl), (ec_in 2 rfl rfl)⟩
set_option maxRecDepth 20000 in
theorem lw_X7_21 : Cond.classLink RX7 21 "[[I" ∈ ec_tb := (ec_in 128 rfl rfl)
set_option maxRecDepth 20000 in
theorem lw_X9_46 : Cond.classLink RX9 46 RX4 ∈ ec_tb := (ec_in 152 rfl rfl)
set_option maxRecDepth 20000 in
theorem ld_X9_46 : ec_cn RX9 46 4 4 [.null, .null, .null, .int 0] := ⟨RX4, TX4, tyX4, rfl, uw_4, tyX4_ok, by decide +kernel, lw_X9_46, (ec_in 153 rfl rfl), (ec_in 8 rfl rfl)⟩
set_option maxRecDepth 20000 in
theorem lw_X9_53 : Cond.classLink RX9 53 RX2 ∈ ec_tb := (ec_in 173 rfl rfl)
set_option maxRecDepth 20000 in
theorem ld_X9_53 : ec_cn RX9 53 2 6 [.null, .null, .int 0, .int 0, .int 0, .int 0] := ⟨RX2, TX2, tyX2, rfl, uw_2, tyX2_ok, by decide +kernel, lw_X9_53, (ec_in 174 rfl rfl), (ec_in 9 rfl rfl)⟩
set_option maxRecDepth 20000 in
theorem lw_X2_9 : Cond.classLink RX2 9 RX6 ∈ ec_tb := (ec_in 179 rfl rfl)
set_option maxRecDepth 20000 in
theorem ld_X2_9 : ec_cn RX2 9 6 2 [.null, .null] := ⟨RX6, TX6, tyX6, rfl, uw_6, tyX6_ok, by decide +kernel, lw_X2_9, (ec_in 180 rfl rfl), (ec_in 10 rfl rfl)⟩
set_option maxRecDepth 20000 in
theorem lw_X9_60 : Cond.classLink RX9 60 RX0 ∈ ec_tb := (ec_in 218 rfl rfl)
set_option maxRecDepth 20000 in
theorem ld_X9_60 : ec_cn RX9 60 0 4 [.null, .null, .null, .null] := ⟨RX0, TX0, tyX0, rfl, uw_0, tyX0_ok, by decide +kernel, lw_X9_60, (ec_in 219 rfl rfl), (ec_in 11 rfl rfl)⟩
set_option maxRecDepth 20000 in
theorem lw_X0_9 : Cond.classLink RX0 9 "[[I" ∈ ec_tb := (ec_in 224 rfl rfl)
set_option maxRecDepth 20000 in
theorem lw_L_13 : Cond.classLink RL 13 "java/lang/ArithmeticException" ∈ ec_tb := (ec_in 541 rfl rfl)
set_option maxRecDepth 20000 in
theorem lw_X9_181 : Cond.classLink RX9 181 "java/lang/ArithmeticException" ∈ ec_tb := (ec_in 546 rfl rfl)
set_option maxRecDepth 20000 in
theorem lw_L_16 : Cond.classLink RL 16 RX10 ∈ ec_tb := (ec_in 612 rfl rfl)
set_option maxRecDepth 20000 in
theorem ld_L_16 : ec_cn RL 16 10 25 [.int 0, .int 0, .null, .int 0, .null, .null, .null, .null, .null, .int 0, .null, .null, .null, .null, .null, .int 0, .int 0, .null, .null, .int 0, .null, .null, .int 0, .null, .null] := ⟨RX10, TX10, tyX10, rfl, uw_10, tyX10_ok, by decide +kernel, lw_L_16, (ec_in 613 rfl rfl), (ec_in 12 rfl rfl)⟩
set_option maxRecDepth 20000 in
theorem wo_i : Cond.instanceMethod objectInit ∈ ec_tb := (ec_in 24 rfl rfl)
set_option maxRecDepth 20000 in
theorem wo_c : Cond.code objectInit ⟨#[0xb1]⟩ 1 none ∈ ec_tb := (ec_in 25 rfl rfl)
set_option maxRecDepth 20000 in
theorem wm_s : Cond.static Lib.Math.min.name ∈ ec_tb := (ec_in 295 rfl rfl)
set_option maxRecDepth 20000 in
theorem wm_i : Cond.initialized "java/lang/Math" ∈ ec_tb := (ec_in 13 rfl rfl)
set_option maxRecDepth 20000 in
theorem wm_c : Cond.code Lib.Math.min.name Lib.Math.min.code 2 (some .int) ∈ ec_tb := (ec_in 296 rfl rfl)
set_option maxRecDepth 20000 in
theorem wa_int : Cond.arrayClass .int ∈ ec_tb := (ec_in 44 rfl rfl)
set_option maxRecDepth 20000 in
theorem wa_boolean : Cond.arrayClass .boolean ∈ ec_tb := (ec_in 101 rfl rfl)
set_option maxRecDepth 20000 in
theorem wa_long : Cond.arrayClass .long ∈ ec_tb := (ec_in 842 rfl rfl)
end
section
section NBR
variable {l : Launch} {D : va_G} {kA : FieldType → ClassId} {B : Nat} {X : State → Prop} {R : Room} {Z : Array Value → State → List Frame → State → Prop} {M : ec_M} {uc us pc : Nat} {L : List (Option Value)} {st : List Value} {h : ec_H}
theorem n_icmp_eq {a b : Nat} {off : Int} (tgt : Nat) (hd : decode M.2.1 pc = .ok (.if_icmp .eq off, 3)) (ht : (pc : Int) + off = (tgt : Int)) (ha : a < 2 ^ 31) (hb : b < 2 ^ 31) (kt : a = b → ec_W l D kA B X R Z M uc us tgt L st h) (kf : ¬ a = b → ec_W l D kA B X R Z M uc us (pc + 3) L st h) : ec_W l D kA B X R Z M uc us pc L (.int (nI b) :: .int (nI a) :: st) h := e_icmp_eq tgt hd ht (fun hc => kt ((nI_eq ha hb).mp hc)) (fun hc => kf (fun q => hc ((nI_eq ha hb).mpr q)))
theorem n_if_eq {a : Nat} {off : Int} (tgt : Nat) (hd : decode M.2.1 pc = .ok (.ifCond .eq off, 3)) (ht : (pc : Int) + off = (tgt : Int)) (ha : a < 2 ^ 31) (kt : a = 0 → ec_W l D kA B X R Z M uc us tgt L st h) (kf : ¬ a = 0 → ec_W l D kA B X R Z M uc us (pc + 3) L st h) : ec_W l D kA B X R Z M uc us pc L (.int (nI a) :: st) h := e_if_eq tgt hd ht (fun hc => kt ((nI_eq ha (b := 0) (by decide)).mp (nI_0.symm ▸ hc))) (fun hc => kf (fun q => hc (nI_0 ▸ (nI_eq ha (b := 0) (by decide)).mpr q)))
theorem n_icmp_ne {a b : Nat} {off : Int} (tgt : Nat) (hd : decode M.2.1 pc = .ok (.if_icmp .ne off, 3)) (ht : (pc : Int) + off = (tgt : Int)) (ha : a < 2 ^ 31) (hb : b < 2 ^ 31) (kt : ¬ a = b → ec_W l D kA B X R Z M uc us tgt L st h) (kf : a = b → ec_W l D kA B X R Z M uc us (pc + 3) L st h) : ec_W l D kA B X R Z M uc us pc L (.int (nI b) :: .int (nI a) :: st) h := e_icmp_ne tgt hd ht (fun hc => kt (fun q => hc ((nI_eq ha hb).mpr q))) (fun hc => kf ((nI_eq ha hb).mp hc))
theorem n_if_ne {a : Nat} {off : Int} (tgt : Nat) (hd : decode M.2.1 pc = .ok (.ifCond .ne off, 3)) (ht : (pc : Int) + off = (tgt : Int)) (ha : a < 2 ^ 31) (kt : ¬ a = 0 → ec_W l D kA B X R Z M uc us tgt L st h) (kf : a = 0 → ec_W l D kA B X R Z M uc us (pc + 3) L st h) : ec_W l D kA B X R Z M uc us pc L (.int (nI a) :: st) h := e_if_ne tgt hd ht (fun hc => kt (fun q => hc (nI_0 ▸ (nI_eq ha (b := 0) (by decide)).mpr q))) (fun hc => kf ((nI_eq ha (b := 0) (by decide)).mp (nI_0.symm ▸ hc)))
theorem n_icmp_lt {a b : Nat} {off : Int} (tgt : Nat) (hd : decode M.2.1 pc = .ok (.if_icmp .lt off, 3)) (ht : (pc : Int) + off = (tgt : Int)) (ha : a < 2 ^ 31) (hb : b < 2 ^ 31) (kt : a < b → ec_W l D kA B X R Z M uc us tgt L st h) (kf : ¬ a < b → ec_W l D kA B X R Z M uc us (pc + 3) L st h) : ec_W l D kA B X R Z M uc us pc L (.int (nI b) :: .int (nI a) :: st) h := e_icmp_lt tgt hd ht (fun hc => kt ((nI_ltI ha hb).mp hc)) (fun hc => kf (fun q => hc ((nI_ltI ha hb).mpr q)))
theorem n_if_lt {a : Nat} {off : Int} (tgt : Nat) (hd : decode M.2.1 pc = .ok (.ifCond .lt off, 3)) (ht : (pc : Int) + off = (tgt : Int)) (ha : a < 2 ^ 31) (kt : a < 0 → ec_W l D kA B X R Z M uc us tgt L st h) (kf : ¬ a < 0 → ec_W l D kA B X R Z M uc us (pc + 3) L st h) : ec_W l D kA B X R Z M uc us pc L (.int (nI a) :: st) h := e_if_lt tgt hd ht (fun hc => kt ((nI_ltI ha (b := 0) (by decide)).mp (nI_0.symm ▸ hc))) (fun hc => kf (fun q => hc (nI_0 ▸ (nI_ltI ha (b := 0) (by decide)).mpr q)))
theorem n_icmp_ge {a b : Nat} {off : Int} (tgt : Nat) (hd : decode M.2.1 pc = .ok (.if_icmp .ge off, 3)) (ht : (pc : Int) + off = (tgt : Int)) (ha : a < 2 ^ 31) (hb : b < 2 ^ 31) (kt : b ≤ a → ec_W l D kA B X R Z M uc us tgt L st h) (kf : ¬ b ≤ a → ec_W l D kA B X R Z M uc us (pc + 3) L st h) : ec_W l D kA B X R Z M uc us pc L (.int (nI b) :: .int (nI a) :: st) h := e_icmp_ge tgt hd ht (fun hc => kt ((nI_leI hb ha).mp hc)) (fun hc => kf (fun q => hc ((nI_leI hb ha).mpr q)))
theorem n_if_ge {a : Nat} {off : Int} (tgt : Nat) (hd : decode M.2.1 pc = .ok (.ifCond .ge off, 3)) (ht : (pc : Int) + off = (tgt : Int)) (ha : a < 2 ^ 31) (kt : 0 ≤ a → ec_W l D kA B X R Z M uc us tgt L st h) (kf : ¬ 0 ≤ a → ec_W l D kA B X R Z M uc us (pc + 3) L st h) : ec_W l D kA B X R Z M uc us pc L (.int (nI a) :: st) h := e_if_ge tgt hd ht (fun hc => kt ((nI_leI (a := 0) (by decide) ha).mp (nI_0.symm ▸ hc))) (fun hc => kf (fun q => hc (nI_0 ▸ (nI_leI (a := 0) (by decide) ha).mpr q)))
theorem n_icmp_gt {a b : Nat} {off : Int} (tgt : Nat) (hd : decode M.2.1 pc = .ok (.if_icmp .gt off, 3)) (ht : (pc : Int) + off = (tgt : Int)) (ha : a < 2 ^ 31) (hb : b < 2 ^ 31) (kt : b < a → ec_W l D kA B X R Z M uc us tgt L st h) (kf : ¬ b < a → ec_W l D kA B X R Z M uc us (pc + 3) L st h) : ec_W l D kA B X R Z M uc us pc L (.int (nI b) :: .int (nI a) :: st) h := e_icmp_gt tgt hd ht (fun hc => kt ((nI_ltI hb ha).mp hc)) (fun hc => kf (fun q => hc ((nI_ltI hb ha).mpr q)))
theorem n_if_gt {a : Nat} {off : Int} (tgt : Nat) (hd : decode M.2.1 pc = .ok (.ifCond .gt off, 3)) (ht : (pc : Int) + off = (tgt : Int)) (ha : a < 2 ^ 31) (kt : 0 < a → ec_W l D kA B X R Z M uc us tgt L st h) (kf : ¬ 0 < a → ec_W l D kA B X R Z M uc us (pc + 3) L st h) : ec_W l D kA B X R Z M uc us pc L (.int (nI a) :: st) h := e_if_gt tgt hd ht (fun hc => kt ((nI_ltI (a := 0) (by decide) ha).mp (nI_0.symm ▸ hc))) (fun hc => kf (fun q => hc (nI_0 ▸ (nI_ltI (a := 0) (by decide) ha).mpr q)))
theorem n_icmp_le {a b : Nat} {off : Int} (tgt : Nat) (hd : decode M.2.1 pc = .ok (.if_icmp .le off, 3)) (ht : (pc : Int) + off = (tgt : Int)) (ha : a < 2 ^ 31) (hb : b < 2 ^ 31) (kt : a ≤ b → ec_W l D kA B X R Z M uc us tgt L st h) (kf : ¬ a ≤ b → ec_W l D kA B X R Z M uc us (pc + 3) L st h) : ec_W l D kA B X R Z M uc us pc L (.int (nI b) :: .int (nI a) :: st) h := e_icmp_le tgt hd ht (fun hc => kt ((nI_leI ha hb).mp hc)) (fun hc => kf (fun q => hc ((nI_leI ha hb).mpr q)))
theorem n_if_le {a : Nat} {off : Int} (tgt : Nat) (hd : decode M.2.1 pc = .ok (.ifCond .le off, 3)) (ht : (pc : Int) + off = (tgt : Int)) (ha : a < 2 ^ 31) (kt : a ≤ 0 → ec_W l D kA B X R Z M uc us tgt L st h) (kf : ¬ a ≤ 0 → ec_W l D kA B X R Z M uc us (pc + 3) L st h) : ec_W l D kA B X R Z M uc us pc L (.int (nI a) :: st) h := e_if_le tgt hd ht (fun hc => kt ((nI_leI ha (b := 0) (by decide)).mp (nI_0.symm ▸ hc))) (fun hc => kf (fun q => hc (nI_0 ▸ (nI_leI ha (b := 0) (by decide)).mpr q)))
end NBR
abbrev mm_G (l : Launch) (D : va_G) (kA : FieldType → ClassId) (B sz : Nat) (o : Int64) (f lo : Nat) (M : ec_M) (P : Option Value → mm_M → Prop) (pc : Nat) (L : List (Option Value)) (st : List Value) (m : mm_M) : Prop := ec_W l D kA B (fun _ => True) (ec_room f lo 0 0) (ec_Z D kA B (mq B sz o P) 0 0) M 0 0 pc L st (lay B sz o m)
theorem mm_F.of {l : Launch} {D : va_G} {kA : FieldType → ClassId} {B sz : Nat} {o : Int64} {f lo : Nat} {M : ec_M} {as : List Value} {m : mm_M} {P : Option Value → mm_M → Prop} (k : mm_G l D kA B sz o f lo M P 0 (ec_L0 M as) [] m) : mm_F l D kA B sz o f lo M as m P := k
end
section
theorem dec_nI {n : Nat} {k : Int} {c : Nat} (hk : Int32.ofInt k = -nI c) (h : c ≤ n) : nI n + Int32.ofInt k = nI (n - c) := by
  rw [hk, ← pk_sub h, Int32.sub_eq_add_neg]
theorem min_nI {a b : Nat} (ha : a < 2 ^ 31) (hb : b < 2 ^ 31) : (if nI b < nI a then nI b else nI a) = nI (min a b) := by
  by_cases h : b < a
  · rw [if_pos ((nI_ltI hb ha).mpr h), Nat.min_eq_right (by omega)]
  · rw [if_neg (fun q => h ((nI_ltI hb ha).mp q)), Nat.min_eq_left (by omega)]
theorem nI_lit (n : Nat) : nI n = Int32.ofNat n := rfl
theorem neg1_lt {k : Nat} (hk : k < 2 ^ 31) : nI k - 1 < 0 ↔ k = 0 := by
  cases k with
  | zero => exact ⟨fun _ => rfl, fun _ => by decide⟩
  | succ k =>
    rw [nI_pred]
    exact ⟨fun h => absurd h (nI_pos (by omega)), fun h => by omega⟩
/-- a Row: the object, its letters -/
def isRow (B k k1 : Nat) : Prop := (∀ (m : Nat → Int32) (o : Int64), ly B m o k = some (.inr (5, [.ref (B + k1), .int (m 1)]))) ∧ ∀ (m : Nat → Int32) (o : Int64), ly B m o k1 = some (.inl (.int, 12, .inl m))
theorem isRow_1 (B : Nat) : isRow B 1 2 := ⟨fun m o => ly_1 B m o, fun m o => ly_2 B m o⟩
theorem isRow_172 (B : Nat) : isRow B 172 173 := ⟨fun m o => ly_172 B m o, fun m o => ly_173 B m o⟩
theorem isRow_174 (B : Nat) : isRow B 174 175 := ⟨fun m o => ly_174 B m o, fun m o => ly_175 B m o⟩
theorem isRow_w (B : Nat) {i : Nat} (hi : i < 60) : isRow B (37 + 2 * i) (38 + 2 * i) := ⟨fun m o => ly_wr B m o hi, fun m o => ly_wl B m o hi⟩
theorem isRow_t (B : Nat) {i : Nat} (hi : i < 6) : isRow B (159 + 2 * i) (160 + 2 * i) := ⟨fun m o => ly_tr B m o hi, fun m o => ly_tl B m o hi⟩
/-- what a Row holds: n letters r -/
def rw_at (m : mm_M) (k k1 n : Nat) (r : Nat → Nat) : Prop := m k 1 = nI n ∧ n ≤ 12 ∧ ∀ i, i < n → m k1 i = nI (r i) ∧ r i < 26
theorem rw_at.of {m m' : mm_M} {k k1 n : Nat} {r : Nat → Nat} (h : rw_at m k k1 n r) (h1 : m' k = m k) (h2 : m' k1 = m k1) : rw_at m' k k1 n r := by
  obtain ⟨a, b, c⟩ := h
  exact ⟨by rw [h1]; exact a, b, fun i hi => by rw [h2]; exact c i hi⟩
theorem rw_at.ext {m : mm_M} {k k1 n : Nat} {r r' : Nat → Nat} (h : rw_at m k k1 n r) (he : ∀ i, i < n → r' i = r i) : rw_at m k k1 n r' := by
  obtain ⟨a, b, c⟩ := h
  exact ⟨a, b, fun i hi => by rw [he i hi]; exact c i hi⟩
/-- the PRICES, and those of a letter's own (0: none, else one more) -/
def pr_at (m : mm_M) (p : Nat → Nat) (w : Nat → Nat → Nat) : Prop := (∀ k, k < 6 → m 4 k = nI (p k)) ∧ (∀ k, k < 4 → p k ≤ 9) ∧ p 4 ≤ 50 ∧ p 5 ≤ 50 ∧ (∀ a b, a < 26 → b < 26 → m (6 + a) b = if w a b = 0 then -1 else nI (w a b - 1)) ∧ ∀ a b, w a b ≤ 10
theorem pr_at.of {m m' : mm_M} {p : Nat → Nat} {w : Nat → Nat → Nat} (h : pr_at m p w) (h1 : ∀ a, 4 ≤ a → a < 32 → m' a = m a) : pr_at m' p w := by
  obtain ⟨a1, a2, a3, a4, a5, a6⟩ := h
  exact ⟨fun k hk => by rw [h1 4 (by omega) (by omega)]; exact a1 k hk, a2, a3, a4, fun a b ha hb => by rw [h1 (6 + a) (by omega) (by omega)]; exact a5 a b ha hb, a6⟩
/-- the price at which a becomes b -/
def bc (p : Nat → Nat) (w : Nat → Nat → Nat) (a b : Nat) : Nat := if a = b then 0 else if w a b = 0 then p 2 else w a b - 1
theorem bc_le {m : mm_M} {p : Nat → Nat} {w : Nat → Nat → Nat} (h : pr_at m p w) (a b : Nat) : bc p w a b ≤ 9 := by
  unfold bc
  have h2 := h.2.1 2 (by omega)
  have h3 := h.2.2.2.2.2 a b
  split
  · omega
  · split <;> omega
/-- two neighbours that change places -/
def tu (r t : Nat → Nat) (i j : Nat) : Prop := 1 < i ∧ 1 < j ∧ r (i - 2) = t (j - 1) ∧ r (i - 1) = t (j - 2)
/-- DISTANCE of the first i of r to the first j of t -/
def dd (p : Nat → Nat) (w : Nat → Nat → Nat) (r t : Nat → Nat) : Nat → Nat → Nat
  | 0, j => j * p 0
  | i + 1, 0 => dd p w r t i 0 + p 1
  | i + 1, j + 1 => min (min (min (dd p w r t i j + bc p w (r i) (t j)) (dd p w r t i (j + 1) + p 1)) (dd p w r t (i + 1) j + p 0)) (if 0 < i ∧ 0 < j ∧ r (i - 1) = t j ∧ r i = t (j - 1) then dd p w r t (i - 1) (j - 1) + p 3 else dd p w r t i j + bc p w (r i) (t j))
  termination_by i j => i + j
theorem dd_0 (p : Nat → Nat) (w : Nat → Nat → Nat) (r t : Nat → Nat) (j : Nat) : dd p w r t 0 j = j * p 0 := by rw [dd]
theorem dd_i0 (p : Nat → Nat) (w : Nat → Nat → Nat) (r t : Nat → Nat) (i : Nat) : dd p w r t (i + 1) 0 = dd p w r t i 0 + p 1 := by rw [dd]
theorem dd_ij (p : Nat → Nat) (w : Nat → Nat → Nat) (r t : Nat → Nat) (i j : Nat) : dd p w r t (i + 1) (j + 1) = min (min (min (dd p w r t i j + bc p w (r i) (t j)) (dd p w r t i (j + 1) + p 1)) (dd p w r t (i + 1) j + p 0)) (if 0 < i ∧ 0 < j ∧ r (i - 1) = t j ∧ r i = t (j - 1) then dd p w r t (i - 1) (j - 1) + p 3 else dd p w r t i j + bc p w (r i) (t j)) := by rw [dd]
theorem dd_le {p : Nat → Nat} {w : Nat → Nat → Nat} (r t : Nat → Nat) (h0 : p 0 ≤ 9) (h1 : p 1 ≤ 9) : ∀ i j, dd p w r t i j ≤ 9 * (i + j)
  | 0, j => by
    rw [dd_0, Nat.mul_comm]
    have := Nat.mul_le_mul_right j h0
    omega
  | i + 1, 0 => by
    rw [dd_i0]
    have := dd_le (w := w) r t h0 h1 i 0
    omega
  | i + 1, j + 1 => by
    rw [dd_ij]
    have := dd_le (w := w) r t h0 h1 i (j + 1)
    omega
theorem dd_ext {p : Nat → Nat} {w : Nat → Nat → Nat} {r r' t t' : Nat → Nat} : ∀ i j, (∀ k, k < i → r k = r' k) → (∀ k, k < j → t k = t' k) → dd p w r t i j = dd p w r' t' i j
  | 0, j, _, _ => by rw [dd_0, dd_0]
  | i + 1, 0, hr, ht => by
    rw [dd_i0, dd_i0, dd_ext i 0 (fun k hk => hr k (by omega)) ht]
  | i + 1, j + 1, hr, ht => by
    rw [dd_ij, dd_ij, dd_ext i j (fun k hk => hr k (by omega)) (fun k hk => ht k (by omega)), dd_ext i (j + 1) (fun k hk => hr k (by omega)) ht, dd_ext (i + 1) j hr (fun k hk => ht k (by omega)), dd_ext (i - 1) (j - 1) (fun k hk => hr k (by omega)) (fun k hk => ht k (by omega)), hr i (by omega), ht j (by omega), hr (i - 1) (by omega), ht (j - 1) (by omega)]
  termination_by i j => i + j
/-- two rows of letters are alike; the one is ahead of the other in ORDER -/
def sm (n : Nat) (r : Nat → Nat) (n' : Nat) (r' : Nat → Nat) : Prop := n = n' ∧ ∀ i, i < n → r i = r' i
def ah (n : Nat) (r : Nat → Nat) (n' : Nat) (r' : Nat → Nat) : Prop := ∃ k, k ≤ n ∧ k ≤ n' ∧ (∀ i, i < k → r i = r' i) ∧ ((k = n ∧ k < n') ∨ (k < n ∧ k < n' ∧ r k < r' k))
theorem ah_irr {n : Nat} {r : Nat → Nat} {n' : Nat} {r' : Nat → Nat} (h : ah n r n' r') (h2 : sm n r n' r') : False := by
  obtain ⟨k, h1, -, -, h3 | h3⟩ := h
  · have := h2.1; omega
  · have := h2.2 k (by omega); omega
theorem ah_asym {n : Nat} {r : Nat → Nat} {n' : Nat} {r' : Nat → Nat} (h : ah n r n' r') (h2 : ah n' r' n r) : False := by
  obtain ⟨k, a1, a2, a3, a4⟩ := h
  obtain ⟨q, b1, b2, b3, b4⟩ := h2
  rcases Nat.lt_trichotomy k q with c | c | c
  · have := b3 k c
    rcases a4 with a4 | a4 <;> rcases b4 with b4 | b4 <;> omega
  · subst c
    rcases a4 with a4 | a4 <;> rcases b4 with b4 | b4 <;> omega
  · have := a3 q c
    rcases a4 with a4 | a4 <;> rcases b4 with b4 | b4 <;> omega
theorem ah_tri (n : Nat) (r : Nat → Nat) (n' : Nat) (r' : Nat → Nat) : ah n r n' r' ∨ sm n r n' r' ∨ ah n' r' n r := by
  by_cases hd : ∃ k, k < n ∧ k < n' ∧ r k ≠ r' k
  · obtain ⟨k, ⟨h1, h2, h3⟩, hk⟩ := pk_least _ hd
    have he : ∀ i, i < k → r i = r' i := fun i hi => by
      have := hk i hi
      exact Classical.byContradiction fun q => this ⟨by omega, by omega, q⟩
    rcases Nat.lt_or_gt_of_ne h3 with c | c
    · exact Or.inl ⟨k, by omega, by omega, he, Or.inr ⟨h1, h2, c⟩⟩
    · exact Or.inr (Or.inr ⟨k, by omega, by omega, fun i hi => (he i hi).symm, Or.inr ⟨h2, h1, c⟩⟩)
  · have he : ∀ i, i < n → i < n' → r i = r' i := fun i h1 h2 => Classical.byContradiction fun q => hd ⟨i, h1, h2, q⟩
    rcases Nat.lt_trichotomy n n' with c | c | c
    · exact Or.inl ⟨n, by omega, by omega, fun i hi => he i hi (by omega), Or.inl ⟨rfl, c⟩⟩
    · exact Or.inr (Or.inl ⟨c, fun i hi => he i hi (by omega)⟩)
    · exact Or.inr (Or.inr ⟨n', by omega, by omega, fun i hi => (he i (by omega) hi).symm, Or.inl ⟨rfl, c⟩⟩)
theorem ah_trans {n : Nat} {r : Nat → Nat} {n' : Nat} {r' : Nat → Nat} {n2 : Nat} {r2 : Nat → Nat} (h : ah n r n' r') (h2 : ah n' r' n2 r2) : ah n r n2 r2 := by
  obtain ⟨k, a1, a2, a3, a4⟩ := h
  obtain ⟨q, b1, b2, b3, b4⟩ := h2
  rcases Nat.lt_trichotomy k q with c | c | c
  · have := b3 k c
    refine ⟨k, a1, by omega, fun i hi => (a3 i hi).trans (b3 i (by omega)), ?_⟩
    rcases a4 with a4 | a4
    · exact Or.inl ⟨a4.1, by omega⟩
    · exact Or.inr ⟨a4.1, by omega, by omega⟩
  · subst c
    refine ⟨k, a1, by omega, fun i hi => (a3 i hi).trans (b3 i (by omega)), ?_⟩
    rcases a4 with a4 | a4 <;> rcases b4 with b4 | b4
    · exact Or.inl ⟨a4.1, by omega⟩
    · exact Or.inl ⟨a4.1, by omega⟩
    · omega
    · exact Or.inr ⟨a4.1, by omega, by omega⟩
  · have := a3 q c
    refine ⟨q, by omega, b2, fun i hi => (a3 i (by omega)).trans (b3 i hi), ?_⟩
    rcases b4 with b4 | b4
    · exact absurd b4.1 (by omega)
    · exact Or.inr ⟨by omega, by omega, by omega⟩
theorem sub_neg {a b : Nat} (ha : a < 2 ^ 30) (hb : b < 2 ^ 30) : nI a - nI b < 0 ↔ a < b := by
  rw [Int32.lt_iff_toInt_lt, pk_sub_toInt ha hb]
  have : (0 : Int32).toInt = 0 := by decide
  omega
theorem sub_zero {a b : Nat} (ha : a < 2 ^ 30) (hb : b < 2 ^ 30) : nI a - nI b = 0 ↔ a = b := by
  constructor
  · intro h
    have h1 := pk_sub_toInt ha hb
    rw [h] at h1
    have : (0 : Int32).toInt = 0 := by decide
    omega
  · rintro rfl
    exact Int32.sub_self _
end
section
section ROW
variable {l : Launch} {D : va_G} {kA : FieldType → ClassId} {B sz : Nat} {o : Int64}
set_option maxRecDepth 100000 in
/-- Row.add -/
theorem c_Row_add (m : mm_M) {k k1 n : Nat} (hk : isRow B k k1) (hne : k1 ≠ k) (hn : m k 1 = nI n) (hn2 : n ≤ 12) (x : Int32) : mm_F l D kA B sz o 0 0 mX5_add [.ref (B + k), .int x] m (fun v m' => if n < 12 then m' = wr (wr m k1 n x) k 1 (nI (n + 1)) ∧ v = some (.int (nI 1)) else m' = m ∧ v = some (.int (nI 0))) := by
  refine mm_F.of ?_
  refine e_aload_n dX5_add_0 rfl rfl ?_
  refine m_get 5 1 lf_X5_15 dX5_add_1 (hk.1 _ _) rfl ?_
  refine e_top (w := nI n) (hn) ?_
  refine e_bipush (v := nI 12) dX5_add_4 (by decide) ?_
  refine n_icmp_lt 11 dX5_add_6 (by decide) (by omega) (by omega) (fun hc => ?_) (fun hc => ?_)
  · refine e_aload_n dX5_add_11 rfl rfl ?_
    refine m_get 5 0 lf_X5_9 dX5_add_12 (hk.1 _ _) rfl ?_
    refine e_aload_n dX5_add_15 rfl rfl ?_
    refine m_get 5 1 lf_X5_15 dX5_add_16 (hk.1 _ _) rfl ?_
    refine e_top (w := nI n) (hn) ?_
    refine e_iload_n dX5_add_19 rfl rfl ?_
    refine m_iast (n) dX5_add_20 (fun m => hk.2 m _) (rfl) (by omega) (by decide) ?_
    refine e_aload_n dX5_add_21 rfl rfl ?_
    refine e_dup dX5_add_22 rfl ?_
    refine m_get 5 1 lf_X5_15 dX5_add_23 (hk.1 _ _) rfl ?_
    refine e_top (w := nI n) ((wr_ne _ _ (Or.inl hne.symm)).trans hn) ?_
    refine e_iconst (v := nI 1) dX5_add_26 (by decide) ?_
    refine e_iadd dX5_add_27 ?_
    refine e_top (w := nI (n + 1)) (nI_add _ _) ?_
    refine m_puti 5 1 lp_X5_15 dX5_add_28 (hk.1 _ _) (Nat.le_of_ble_eq_true rfl) (hk.1 _ _) rfl ?_
    refine e_iconst (v := nI 1) dX5_add_31 (by decide) ?_
    exact m_zret dX5_add_32 rfl (by first | rfl | decide | assumption) (Nat.le_refl _) (Nat.le_refl _) ((by rw [if_pos hc]; exact ⟨rfl, rfl⟩))
  · refine e_iconst (v := nI 0) dX5_add_9 (by decide) ?_
    exact m_zret dX5_add_10 rfl (by first | rfl | decide | assumption) (Nat.le_refl _) (Nat.le_refl _) ((by rw [if_neg hc]; exact ⟨rfl, rfl⟩))
set_option maxRecDepth 100000 in
/-- Row.copyOf -/
theorem c_copyOf (m : mm_M) {k k1 q q1 n : Nat} (hk : isRow B k k1) (hq : isRow B q q1) (e1 : k1 ≠ k) (e2 : q ≠ k) (e3 : q ≠ k1) (e4 : q1 ≠ k) (e5 : q1 ≠ k1) (hn : m q 1 = nI n) (hn2 : n ≤ 12) : mm_F l D kA B sz o 1 21 mX5_copyOf [.ref (B + k), .ref (B + q)] m (fun v m' => v = none ∧ m' k 1 = nI n ∧ (∀ i, i < n → m' k1 i = m q1 i) ∧ ∀ a, a ≠ k → a ≠ k1 → m' a = m a) := by
  refine mm_F.of ?_
  refine e_aload_n dX5_copyOf_0 rfl rfl ?_
  refine e_iconst (v := nI 0) dX5_copyOf_1 (by decide) ?_
  refine m_puti 5 1 lp_X5_15 dX5_copyOf_2 (hk.1 _ _) (Nat.le_of_ble_eq_true rfl) (hk.1 _ _) rfl ?_
  refine e_iconst (v := nI 0) dX5_copyOf_5 (by decide) ?_
  refine e_istore_n dX5_copyOf_6 rfl (by decide) rfl ?_
  have loop : ∀ (d i : Nat) (m' : mm_M), n - i = d → i ≤ n → m' k 1 = nI i → (∀ j, j < i → m' k1 j = m q1 j) → (∀ a, a ≠ k → a ≠ k1 → m' a = m a) → mm_G l D kA B sz o 1 21 mX5_copyOf (fun v m' => v = none ∧ m' k 1 = nI n ∧ (∀ i, i < n → m' k1 i = m q1 i) ∧ ∀ a, a ≠ k → a ≠ k1 → m' a = m a) 7 [some (.ref (B + k)), some (.ref (B + q)), some (.int (nI i))] [] m' := by
    intro d
    induction d with
    | zero =>
      intro i m' hd hi h1 h2 h3
      refine e_iload_n dX5_copyOf_7 rfl rfl ?_
      refine e_aload_n dX5_copyOf_8 rfl rfl ?_
      refine m_get 5 1 lf_X5_15 dX5_copyOf_9 (hq.1 _ _) rfl ?_
      refine e_top (w := nI n) ((by rw [h3 q e2 e3]; exact hn)) ?_
      refine n_icmp_ge 32 dX5_copyOf_12 (by decide) (by omega) (by omega) (fun hc => ?_) (fun hc => ?_)
      · exact m_vret dX5_copyOf_32 rfl (Nat.le_refl _) (Nat.le_refl _) (⟨rfl, by rw [h1, show i = n by omega], fun j hj => h2 j (by omega), h3⟩)
      · exact absurd hc (by omega)
    | succ d ih =>
      intro i m' hd hi h1 h2 h3
      refine e_iload_n dX5_copyOf_7 rfl rfl ?_
      refine e_aload_n dX5_copyOf_8 rfl rfl ?_
      refine m_get 5 1 lf_X5_15 dX5_copyOf_9 (hq.1 _ _) rfl ?_
      refine e_top (w := nI n) ((by rw [h3 q e2 e3]; exact hn)) ?_
      refine n_icmp_ge 32 dX5_copyOf_12 (by decide) (by omega) (by omega) (fun hc => ?_) (fun hc => ?_)
      · exact absurd hc (by omega)
      · refine e_aload_n dX5_copyOf_15 rfl rfl ?_
        refine e_aload_n dX5_copyOf_16 rfl rfl ?_
        refine m_get 5 0 lf_X5_9 dX5_copyOf_17 (hq.1 _ _) rfl ?_
        refine e_iload_n dX5_copyOf_20 rfl rfl ?_
        refine m_iald (i) dX5_copyOf_21 (hq.2 _ _) (rfl) (by omega) (by decide) ?_
        refine m_callV (As := [_]) lc_X5_19 dX5_copyOf_22 (hk.1 _ _) rfl rfl (by simp [Value.category]) (Nat.le_of_ble_eq_true rfl) (Nat.le_of_ble_eq_true rfl) ⟨Nat.le_of_ble_eq_true rfl, Nat.le_of_ble_eq_true rfl⟩ ⟨Nat.le_of_ble_eq_true rfl, Nat.le_of_ble_eq_true rfl⟩ (c_Row_add m' hk e1 h1 (by omega) _) (fun v9 m9 hp9 => ?_)
        rw [if_pos (by omega)] at hp9
        obtain ⟨rfl, rfl⟩ := hp9
        refine e_pop dX5_copyOf_25 rfl ?_
        refine e_iinc (v := nI (i + 1)) dX5_copyOf_26 rfl (nI_add _ _) (by decide) rfl ?_
        refine e_goto 7 dX5_copyOf_29 (by decide) ?_
        refine ih (i + 1) _ (by omega) (by omega) (wr_same _ _ _ _) (fun j hj => ?_) (fun a ha hb => ?_)
        · rw [wr_ne _ _ (Or.inl e1)]
          by_cases hji : j = i
          · subst hji
            rw [wr_same, h3 q1 e4 e5]
          · rw [wr_ne _ _ (Or.inr hji)]
            exact h2 j (by omega)
        · rw [wr_off _ _ ha, wr_off _ _ hb]
          exact h3 a ha hb
  exact loop n 0 _ (by omega) (by omega) (wr_same _ _ _ _) (fun j hj => by omega) (fun a ha hb => wr_off _ _ ha)
set_option maxRecDepth 100000 in
/-- Row.mirrorOf -/
theorem c_mirrorOf (m : mm_M) {k k1 q q1 n : Nat} (hk : isRow B k k1) (hq : isRow B q q1) (e1 : k1 ≠ k) (e2 : q ≠ k) (e3 : q ≠ k1) (e4 : q1 ≠ k) (e5 : q1 ≠ k1) (hn : m q 1 = nI n) (hn2 : n ≤ 12) : mm_F l D kA B sz o 1 21 mX5_mirrorOf [.ref (B + k), .ref (B + q)] m (fun v m' => v = none ∧ m' k 1 = nI n ∧ (∀ i, i < n → m' k1 i = m q1 (n - 1 - i)) ∧ ∀ a, a ≠ k → a ≠ k1 → m' a = m a) := by
  refine mm_F.of ?_
  refine e_aload_n dX5_mirrorOf_0 rfl rfl ?_
  refine e_iconst (v := nI 0) dX5_mirrorOf_1 (by decide) ?_
  refine m_puti 5 1 lp_X5_15 dX5_mirrorOf_2 (hk.1 _ _) (Nat.le_of_ble_eq_true rfl) (hk.1 _ _) rfl ?_
  refine e_aload_n dX5_mirrorOf_5 rfl rfl ?_
  refine m_get 5 1 lf_X5_15 dX5_mirrorOf_6 (hq.1 _ _) rfl ?_
  refine e_top (w := nI n) ((wr_ne _ _ (Or.inl e2)).trans hn) ?_
  refine e_iconst (v := nI 1) dX5_mirrorOf_9 (by decide) ?_
  refine e_isub dX5_mirrorOf_10 ?_
  refine e_istore_n dX5_mirrorOf_11 rfl (by decide) rfl ?_
  have loop : ∀ (i : Nat) (m' : mm_M), i ≤ n → m' k 1 = nI (n - i) → (∀ j, j < n - i → m' k1 j = m q1 (n - 1 - j)) → (∀ a, a ≠ k → a ≠ k1 → m' a = m a) → mm_G l D kA B sz o 1 21 mX5_mirrorOf (fun v m' => v = none ∧ m' k 1 = nI n ∧ (∀ i, i < n → m' k1 i = m q1 (n - 1 - i)) ∧ ∀ a, a ≠ k → a ≠ k1 → m' a = m a) 12 [some (.ref (B + k)), some (.ref (B + q)), some (.int (nI i - 1))] [] m' := by
    intro i
    induction i with
    | zero =>
      intro m' hi h1 h2 h3
      refine e_iload_n dX5_mirrorOf_12 rfl rfl ?_
      refine e_if_lt 33 dX5_mirrorOf_13 (by decide) (fun hc => ?_) (fun hc => ?_)
      · exact m_vret dX5_mirrorOf_33 rfl (Nat.le_refl _) (Nat.le_refl _) (⟨rfl, h1, h2, h3⟩)
      · exact absurd ((neg1_lt (by omega)).mpr rfl) hc
    | succ i ih =>
      intro m' hi h1 h2 h3
      rw [nI_pred]
      refine e_iload_n dX5_mirrorOf_12 rfl rfl ?_
      refine n_if_lt 33 dX5_mirrorOf_13 (by decide) (by omega) (fun hc => ?_) (fun hc => ?_)
      · exact absurd hc (by omega)
      · refine e_aload_n dX5_mirrorOf_16 rfl rfl ?_
        refine e_aload_n dX5_mirrorOf_17 rfl rfl ?_
        refine m_get 5 0 lf_X5_9 dX5_mirrorOf_18 (hq.1 _ _) rfl ?_
        refine e_iload_n dX5_mirrorOf_21 rfl rfl ?_
        refine m_iald (i) dX5_mirrorOf_22 (hq.2 _ _) (rfl) (by omega) (by decide) ?_
        refine m_callV (As := [_]) lc_X5_19 dX5_mirrorOf_23 (hk.1 _ _) rfl rfl (by simp [Value.category]) (Nat.le_of_ble_eq_true rfl) (Nat.le_of_ble_eq_true rfl) ⟨Nat.le_of_ble_eq_true rfl, Nat.le_of_ble_eq_true rfl⟩ ⟨Nat.le_of_ble_eq_true rfl, Nat.le_of_ble_eq_true rfl⟩ (c_Row_add m' hk e1 h1 (by omega) _) (fun v9 m9 hp9 => ?_)
        rw [if_pos (by omega)] at hp9
        obtain ⟨rfl, rfl⟩ := hp9
        refine e_pop dX5_mirrorOf_26 rfl ?_
        refine e_iinc (v := nI i - 1) dX5_mirrorOf_27 rfl (by rw [Int32.sub_eq_add_neg]; rfl) (by decide) rfl ?_
        refine e_goto 12 dX5_mirrorOf_30 (by decide) ?_
        refine ih _ (by omega) (by rw [wr_same, show n - (i + 1) + 1 = n - i by omega]) (fun j hj => ?_) (fun a ha hb => ?_)
        · rw [wr_ne _ _ (Or.inl e1)]
          by_cases hji : j = n - (i + 1)
          · subst hji
            rw [wr_same, h3 q1 e4 e5, show n - 1 - (n - (i + 1)) = i by omega]
          · rw [wr_ne _ _ (Or.inr hji)]
            exact h2 j (by omega)
        · rw [wr_off _ _ ha, wr_off _ _ hb]
          exact h3 a ha hb
  exact loop n _ (by omega) (by rw [wr_same, Nat.sub_self]) (fun j hj => by omega) (fun a ha hb => wr_off _ _ ha)
set_option maxRecDepth 100000 in
/-- Row.compareWith -/
theorem c_compareWith (m : mm_M) {k k1 q q1 n n' : Nat} {r r' : Nat → Nat} (hk : isRow B k k1) (hq : isRow B q q1) (hr : rw_at m k k1 n r) (hr' : rw_at m q q1 n' r') : mm_F l D kA B sz o 1 21 mX5_compareWith [.ref (B + k), .ref (B + q)] m (fun v m' => m' = m ∧ ∃ x : Int32, v = some (.int x) ∧ (x = 0 ↔ sm n r n' r') ∧ (x < 0 ↔ ah n r n' r')) := by
  obtain ⟨a1, a2, a3⟩ := hr
  obtain ⟨b1, b2, b3⟩ := hr'
  refine mm_F.of ?_
  refine e_aload_n dX5_compareWith_0 rfl rfl ?_
  refine m_get 5 1 lf_X5_15 dX5_compareWith_1 (hk.1 _ _) rfl ?_
  refine e_top (w := nI n) (a1) ?_
  refine e_aload_n dX5_compareWith_4 rfl rfl ?_
  refine m_get 5 1 lf_X5_15 dX5_compareWith_5 (hq.1 _ _) rfl ?_
  refine e_top (w := nI n') (b1) ?_
  refine e_min dX5_compareWith_8 lm_X5_23 wm_s wm_i wm_c (Nat.le_of_ble_eq_true rfl) (Nat.le_of_ble_eq_true rfl) (Nat.le_of_ble_eq_true rfl) (Nat.le_of_ble_eq_true rfl) rfl ?_
  refine e_top (w := nI (min n n')) (min_nI (by omega) (by omega)) ?_
  refine e_istore_n dX5_compareWith_11 rfl (by decide) rfl ?_
  refine e_iconst (v := nI 0) dX5_compareWith_12 (by decide) ?_
  refine e_istore_n dX5_compareWith_13 rfl (by decide) rfl ?_
  have loop : ∀ (d i : Nat), min n n' - i = d → i ≤ min n n' → (∀ j, j < i → r j = r' j) → mm_G l D kA B sz o 1 21 mX5_compareWith (fun v m' => m' = m ∧ ∃ x : Int32, v = some (.int x) ∧ (x = 0 ↔ sm n r n' r') ∧ (x < 0 ↔ ah n r n' r')) 14 [some (.ref (B + k)), some (.ref (B + q)), some (.int (nI (min n n'))), some (.int (nI i))] [] m := by
    intro d
    induction d with
    | zero =>
      intro i hd hi he
      refine e_iload_n dX5_compareWith_14 rfl rfl ?_
      refine e_iload_n dX5_compareWith_15 rfl rfl ?_
      refine n_icmp_ge 54 dX5_compareWith_16 (by decide) (by omega) (by omega) (fun hc => ?_) (fun hc => ?_)
      · refine e_aload_n dX5_compareWith_54 rfl rfl ?_
        refine m_get 5 1 lf_X5_15 dX5_compareWith_55 (hk.1 _ _) rfl ?_
        refine e_top (w := nI n) (a1) ?_
        refine e_aload_n dX5_compareWith_58 rfl rfl ?_
        refine m_get 5 1 lf_X5_15 dX5_compareWith_59 (hq.1 _ _) rfl ?_
        refine e_top (w := nI n') (b1) ?_
        refine e_isub dX5_compareWith_62 ?_
        refine m_iret dX5_compareWith_63 rfl (Nat.le_refl _) (Nat.le_refl _) ⟨rfl, _, rfl, (sub_zero (by omega) (by omega)).trans ⟨fun e => ⟨e, fun j hj => he j (by omega)⟩, fun e => e.1⟩, (sub_neg (by omega) (by omega)).trans ⟨fun e => ⟨n, by omega, by omega, fun j hj => he j (by omega), Or.inl ⟨rfl, e⟩⟩, fun ⟨k, c1, c2, c3, c4⟩ => ?_⟩⟩
        rcases c4 with c4 | c4
        · omega
        · have := he k (by omega)
          omega
      · exact absurd hc (by omega)
    | succ d ih =>
      intro i hd hi he
      refine e_iload_n dX5_compareWith_14 rfl rfl ?_
      refine e_iload_n dX5_compareWith_15 rfl rfl ?_
      refine n_icmp_ge 54 dX5_compareWith_16 (by decide) (by omega) (by omega) (fun hc => ?_) (fun hc => ?_)
      · exact absurd hc (by omega)
      · obtain ⟨a4, a5⟩ := a3 i (by omega)
        obtain ⟨b4, b5⟩ := b3 i (by omega)
        refine e_aload_n dX5_compareWith_19 rfl rfl ?_
        refine m_get 5 0 lf_X5_9 dX5_compareWith_20 (hk.1 _ _) rfl ?_
        refine e_iload_n dX5_compareWith_23 rfl rfl ?_
        refine m_iald (i) dX5_compareWith_24 (hk.2 _ _) (rfl) (by omega) (by decide) ?_
        refine e_top (w := nI (r i)) (a4) ?_
        refine e_aload_n dX5_compareWith_25 rfl rfl ?_
        refine m_get 5 0 lf_X5_9 dX5_compareWith_26 (hq.1 _ _) rfl ?_
        refine e_iload_n dX5_compareWith_29 rfl rfl ?_
        refine m_iald (i) dX5_compareWith_30 (hq.2 _ _) (rfl) (by omega) (by decide) ?_
        refine e_top (w := nI (r' i)) (b4) ?_
        refine n_icmp_eq 48 dX5_compareWith_31 (by decide) (by omega) (by omega) (fun h2 => ?_) (fun h2 => ?_)
        · refine e_iinc (v := nI (i + 1)) dX5_compareWith_48 rfl (nI_add _ _) (by decide) rfl ?_
          refine e_goto 14 dX5_compareWith_51 (by decide) ?_
          exact ih (i + 1) (by omega) (by omega) (fun j hj => by
            by_cases e : j = i
            · rw [e]; exact h2
            · exact he j (by omega))
        · refine e_aload_n dX5_compareWith_34 rfl rfl ?_
          refine m_get 5 0 lf_X5_9 dX5_compareWith_35 (hk.1 _ _) rfl ?_
          refine e_iload_n dX5_compareWith_38 rfl rfl ?_
          refine m_iald (i) dX5_compareWith_39 (hk.2 _ _) (rfl) (by omega) (by decide) ?_
          refine e_top (w := nI (r i)) (a4) ?_
          refine e_aload_n dX5_compareWith_40 rfl rfl ?_
          refine m_get 5 0 lf_X5_9 dX5_compareWith_41 (hq.1 _ _) rfl ?_
          refine e_iload_n dX5_compareWith_44 rfl rfl ?_
          refine m_iald (i) dX5_compareWith_45 (hq.2 _ _) (rfl) (by omega) (by decide) ?_
          refine e_top (w := nI (r' i)) (b4) ?_
          refine e_isub dX5_compareWith_46 ?_
          refine m_iret dX5_compareWith_47 rfl (Nat.le_refl _) (Nat.le_refl _) ⟨rfl, _, rfl, (sub_zero (by omega) (by omega)).trans ⟨fun e => absurd e h2, fun e => e.2 i (by omega)⟩, (sub_neg (by omega) (by omega)).trans ⟨fun e => ⟨i, by omega, by omega, he, Or.inr ⟨by omega, by omega, e⟩⟩, fun ⟨k, c1, c2, c3, c4⟩ => ?_⟩⟩
          rcases Nat.lt_trichotomy k i with c | c | c
          · have := he k c
            rcases c4 with c4 | c4 <;> omega
          · subst c
            rcases c4 with c4 | c4 <;> omega
          · exact absurd (c3 i c) h2
  exact loop _ 0 rfl (by omega) (fun j hj => by omega)
end ROW
end
section
section TBL
variable {l : Launch} {D : va_G} {kA : FieldType → ClassId} {B sz : Nat} {o : Int64}
set_option maxRecDepth 100000 in
/-- Table.byChange -/
theorem c_byChange (m : mm_M) {i j : Nat} (hi : 2 ≤ i) (hi2 : i ≤ 12) (hj : 2 ≤ j) (hj2 : j ≤ 12) : mm_F l D kA B sz o 0 0 mX7_byChange [.ref (B + 171), .int (nI i), .int (nI j)] m (fun v m' => m' = m ∧ v = some (.int (m (177 + (i - 2)) (j - 2) + m 4 3))) := by
  refine mm_F.of ?_
  refine e_aload_n dX7_byChange_0 rfl rfl ?_
  refine m_get 7 3 lf_X7_23 dX7_byChange_1 (ly_171 B _ _) rfl ?_
  refine e_iload_n dX7_byChange_4 rfl rfl ?_
  refine e_iconst (v := nI 2) dX7_byChange_5 (by decide) ?_
  refine e_isub dX7_byChange_6 ?_
  refine e_top (w := nI (i - 2)) (pk_sub (by omega)) ?_
  refine m_aald (r := 177 + (i - 2)) (i - 2) dX7_byChange_7 (by decide) rfl (ly_176 B _ _) (rfl) (by omega) (by decide) (if_pos (by omega)) ?_
  refine e_iload_n dX7_byChange_8 rfl rfl ?_
  refine e_iconst (v := nI 2) dX7_byChange_9 (by decide) ?_
  refine e_isub dX7_byChange_10 ?_
  refine e_top (w := nI (j - 2)) (pk_sub (by omega)) ?_
  refine m_iald (j - 2) dX7_byChange_11 (ly_le B _ _ (i := (i - 2)) (by omega)) (rfl) (by omega) (by decide) ?_
  refine e_aload_n dX7_byChange_12 rfl rfl ?_
  refine m_get 7 0 lf_X7_37 dX7_byChange_13 (ly_171 B _ _) rfl ?_
  refine m_get 3 0 lf_X7_82 dX7_byChange_16 (ly_3 B _ _) rfl ?_
  refine e_iconst (v := nI 3) dX7_byChange_19 (by decide) ?_
  refine m_iald (3) dX7_byChange_20 (ly_4 B _ _) (rfl) (by omega) (by decide) ?_
  refine e_iadd dX7_byChange_21 ?_
  exact m_iret dX7_byChange_22 rfl (Nat.le_refl _) (Nat.le_refl _) (⟨rfl, rfl⟩)
set_option maxRecDepth 100000 in
/-- Prices.ofBecoming -/
theorem c_ofBecoming (m : mm_M) {a b : Nat} (ha : a < 26) (hb : b < 26) : mm_F l D kA B sz o 0 0 mX3_ofBecoming [.ref (B + 3), .int (nI a), .int (nI b)] m (fun v m' => m' = m ∧ v = some (.int (if a = b then 0 else if m (6 + a) b = -1 then m 4 2 else m (6 + a) b))) := by
  refine mm_F.of ?_
  refine e_iload_n dX3_ofBecoming_0 rfl rfl ?_
  refine e_iload_n dX3_ofBecoming_1 rfl rfl ?_
  refine n_icmp_ne 7 dX3_ofBecoming_2 (by decide) (by omega) (by omega) (fun hc => ?_) (fun hc => ?_)
  · refine e_aload_n dX3_ofBecoming_7 rfl rfl ?_
    refine m_get 3 1 lf_X3_17 dX3_ofBecoming_8 (ly_3 B _ _) rfl ?_
    refine e_iload_n dX3_ofBecoming_11 rfl rfl ?_
    refine m_aald (r := 6 + a) (a) dX3_ofBecoming_12 (by decide) rfl (ly_5 B _ _) (rfl) (by omega) (by decide) (if_pos (by omega)) ?_
    refine e_iload_n dX3_ofBecoming_13 rfl rfl ?_
    refine m_iald (b) dX3_ofBecoming_14 (ly_own B _ _ (i := a) (by omega)) (rfl) (by omega) (by decide) ?_
    refine e_istore_n dX3_ofBecoming_15 rfl (by decide) rfl ?_
    refine e_iload_n dX3_ofBecoming_16 rfl rfl ?_
    refine e_iconst (v := -1) dX3_ofBecoming_17 (by decide) ?_
    refine e_icmp_ne 30 dX3_ofBecoming_18 (by decide) (fun h2 => ?_) (fun h2 => ?_)
    · refine e_iload_n dX3_ofBecoming_30 rfl rfl ?_
      exact m_iret dX3_ofBecoming_31 rfl (Nat.le_refl _) (Nat.le_refl _) (⟨rfl, by rw [if_neg hc, if_neg h2]⟩)
    · refine e_aload_n dX3_ofBecoming_21 rfl rfl ?_
      refine m_get 3 0 lf_X3_9 dX3_ofBecoming_22 (ly_3 B _ _) rfl ?_
      refine e_iconst (v := nI 2) dX3_ofBecoming_25 (by decide) ?_
      refine m_iald (2) dX3_ofBecoming_26 (ly_4 B _ _) (rfl) (by omega) (by decide) ?_
      refine e_goto 31 dX3_ofBecoming_27 (by decide) ?_
      exact m_iret dX3_ofBecoming_31 rfl (Nat.le_refl _) (Nat.le_refl _) (⟨rfl, by rw [if_neg hc, if_pos h2]⟩)
  · refine e_iconst (v := nI 0) dX3_ofBecoming_5 (by decide) ?_
    exact m_iret dX3_ofBecoming_6 rfl (Nat.le_refl _) (Nat.le_refl _) (⟨rfl, by rw [if_pos hc]; rfl⟩)
set_option maxRecDepth 100000 in
/-- Table.byLast -/
theorem c_byLast (m : mm_M) {i j a b : Nat} (hi : 1 ≤ i) (hi2 : i ≤ 12) (hj : 1 ≤ j) (hj2 : j ≤ 12) (ha : a < 26) (hb : b < 26) (ea : m 173 (i - 1) = nI a) (eb : m 175 (j - 1) = nI b) : mm_F l D kA B sz o 1 23 mX7_byLast [.ref (B + 171), .int (nI i), .int (nI j)] m (fun v m' => m' = m ∧ v = some (.int (m (177 + (i - 1)) (j - 1) + (if a = b then 0 else if m (6 + a) b = -1 then m 4 2 else m (6 + a) b)))) := by
  refine mm_F.of ?_
  refine e_aload_n dX7_byLast_0 rfl rfl ?_
  refine m_get 7 3 lf_X7_23 dX7_byLast_1 (ly_171 B _ _) rfl ?_
  refine e_iload_n dX7_byLast_4 rfl rfl ?_
  refine e_iconst (v := nI 1) dX7_byLast_5 (by decide) ?_
  refine e_isub dX7_byLast_6 ?_
  refine e_top (w := nI (i - 1)) (pk_sub (by omega)) ?_
  refine m_aald (r := 177 + (i - 1)) (i - 1) dX7_byLast_7 (by decide) rfl (ly_176 B _ _) (rfl) (by omega) (by decide) (if_pos (by omega)) ?_
  refine e_iload_n dX7_byLast_8 rfl rfl ?_
  refine e_iconst (v := nI 1) dX7_byLast_9 (by decide) ?_
  refine e_isub dX7_byLast_10 ?_
  refine e_top (w := nI (j - 1)) (pk_sub (by omega)) ?_
  refine m_iald (j - 1) dX7_byLast_11 (ly_le B _ _ (i := (i - 1)) (by omega)) (rfl) (by omega) (by decide) ?_
  refine e_aload_n dX7_byLast_12 rfl rfl ?_
  refine m_get 7 0 lf_X7_37 dX7_byLast_13 (ly_171 B _ _) rfl ?_
  refine e_aload_n dX7_byLast_16 rfl rfl ?_
  refine m_get 7 1 lf_X7_12 dX7_byLast_17 (ly_171 B _ _) rfl ?_
  refine m_get 5 0 lf_X7_68 dX7_byLast_20 (ly_172 B _ _) rfl ?_
  refine e_iload_n dX7_byLast_23 rfl rfl ?_
  refine e_iconst (v := nI 1) dX7_byLast_24 (by decide) ?_
  refine e_isub dX7_byLast_25 ?_
  refine e_top (w := nI (i - 1)) (pk_sub (by omega)) ?_
  refine m_iald (i - 1) dX7_byLast_26 (ly_173 B _ _) (rfl) (by omega) (by decide) ?_
  refine e_top (w := nI a) (ea) ?_
  refine e_aload_n dX7_byLast_27 rfl rfl ?_
  refine m_get 7 2 lf_X7_18 dX7_byLast_28 (ly_171 B _ _) rfl ?_
  refine m_get 5 0 lf_X7_68 dX7_byLast_31 (ly_174 B _ _) rfl ?_
  refine e_iload_n dX7_byLast_34 rfl rfl ?_
  refine e_iconst (v := nI 1) dX7_byLast_35 (by decide) ?_
  refine e_isub dX7_byLast_36 ?_
  refine e_top (w := nI (j - 1)) (pk_sub (by omega)) ?_
  refine m_iald (j - 1) dX7_byLast_37 (ly_175 B _ _) (rfl) (by omega) (by decide) ?_
  refine e_top (w := nI b) (eb) ?_
  refine m_callV (As := [_, _]) lc_X7_90 dX7_byLast_38 (ly_3 B _ _) rfl rfl (by simp [Value.category]) (Nat.le_of_ble_eq_true rfl) (Nat.le_of_ble_eq_true rfl) ⟨Nat.le_of_ble_eq_true rfl, Nat.le_of_ble_eq_true rfl⟩ ⟨Nat.le_of_ble_eq_true rfl, Nat.le_of_ble_eq_true rfl⟩ (c_ofBecoming m ha hb) (fun v9 m9 hp9 => ?_)
  obtain ⟨rfl, rfl⟩ := hp9
  refine e_iadd dX7_byLast_41 ?_
  exact m_iret dX7_byLast_42 rfl (Nat.le_refl _) (Nat.le_refl _) (⟨rfl, rfl⟩)
set_option maxRecDepth 100000 in
/-- Table.mayChange -/
theorem c_mayChange (m : mm_M) {i j : Nat} (hi2 : i ≤ 12) (hj2 : j ≤ 12) : mm_F l D kA B sz o 0 0 mX7_mayChange [.ref (B + 171), .int (nI i), .int (nI j)] m (fun v m' => m' = m ∧ v = some (.int (if 1 < i ∧ 1 < j ∧ m 173 (i - 2) = m 175 (j - 1) ∧ m 173 (i - 1) = m 175 (j - 2) then nI 1 else nI 0))) := by
  refine mm_F.of ?_
  refine e_iload_n dX7_mayChange_0 rfl rfl ?_
  refine e_iconst (v := nI 1) dX7_mayChange_1 (by decide) ?_
  refine n_icmp_le 64 dX7_mayChange_2 (by decide) (by omega) (by omega) (fun hc => ?_) (fun hc => ?_)
  · refine e_iconst (v := nI 0) dX7_mayChange_64 (by decide) ?_
    exact m_zret dX7_mayChange_65 rfl (by first | rfl | decide | assumption) (Nat.le_refl _) (Nat.le_refl _) (⟨rfl, by rw [if_neg (by omega)]⟩)
  · refine e_iload_n dX7_mayChange_5 rfl rfl ?_
    refine e_iconst (v := nI 1) dX7_mayChange_6 (by decide) ?_
    refine n_icmp_le 64 dX7_mayChange_7 (by decide) (by omega) (by omega) (fun h2 => ?_) (fun h2 => ?_)
    · refine e_iconst (v := nI 0) dX7_mayChange_64 (by decide) ?_
      exact m_zret dX7_mayChange_65 rfl (by first | rfl | decide | assumption) (Nat.le_refl _) (Nat.le_refl _) (⟨rfl, by rw [if_neg (by omega)]⟩)
    · refine e_aload_n dX7_mayChange_10 rfl rfl ?_
      refine m_get 7 1 lf_X7_12 dX7_mayChange_11 (ly_171 B _ _) rfl ?_
      refine m_get 5 0 lf_X7_68 dX7_mayChange_14 (ly_172 B _ _) rfl ?_
      refine e_iload_n dX7_mayChange_17 rfl rfl ?_
      refine e_iconst (v := nI 2) dX7_mayChange_18 (by decide) ?_
      refine e_isub dX7_mayChange_19 ?_
      refine e_top (w := nI (i - 2)) (pk_sub (by omega)) ?_
      refine m_iald (i - 2) dX7_mayChange_20 (ly_173 B _ _) (rfl) (by omega) (by decide) ?_
      refine e_aload_n dX7_mayChange_21 rfl rfl ?_
      refine m_get 7 2 lf_X7_18 dX7_mayChange_22 (ly_171 B _ _) rfl ?_
      refine m_get 5 0 lf_X7_68 dX7_mayChange_25 (ly_174 B _ _) rfl ?_
      refine e_iload_n dX7_mayChange_28 rfl rfl ?_
      refine e_iconst (v := nI 1) dX7_mayChange_29 (by decide) ?_
      refine e_isub dX7_mayChange_30 ?_
      refine e_top (w := nI (j - 1)) (pk_sub (by omega)) ?_
      refine m_iald (j - 1) dX7_mayChange_31 (ly_175 B _ _) (rfl) (by omega) (by decide) ?_
      refine e_icmp_ne 64 dX7_mayChange_32 (by decide) (fun h3 => ?_) (fun h3 => ?_)
      · refine e_iconst (v := nI 0) dX7_mayChange_64 (by decide) ?_
        exact m_zret dX7_mayChange_65 rfl (by first | rfl | decide | assumption) (Nat.le_refl _) (Nat.le_refl _) (⟨rfl, by rw [if_neg (fun q => h3 q.2.2.1)]⟩)
      · refine e_aload_n dX7_mayChange_35 rfl rfl ?_
        refine m_get 7 1 lf_X7_12 dX7_mayChange_36 (ly_171 B _ _) rfl ?_
        refine m_get 5 0 lf_X7_68 dX7_mayChange_39 (ly_172 B _ _) rfl ?_
        refine e_iload_n dX7_mayChange_42 rfl rfl ?_
        refine e_iconst (v := nI 1) dX7_mayChange_43 (by decide) ?_
        refine e_isub dX7_mayChange_44 ?_
        refine e_top (w := nI (i - 1)) (pk_sub (by omega)) ?_
        refine m_iald (i - 1) dX7_mayChange_45 (ly_173 B _ _) (rfl) (by omega) (by decide) ?_
        refine e_aload_n dX7_mayChange_46 rfl rfl ?_
        refine m_get 7 2 lf_X7_18 dX7_mayChange_47 (ly_171 B _ _) rfl ?_
        refine m_get 5 0 lf_X7_68 dX7_mayChange_50 (ly_174 B _ _) rfl ?_
        refine e_iload_n dX7_mayChange_53 rfl rfl ?_
        refine e_iconst (v := nI 2) dX7_mayChange_54 (by decide) ?_
        refine e_isub dX7_mayChange_55 ?_
        refine e_top (w := nI (j - 2)) (pk_sub (by omega)) ?_
        refine m_iald (j - 2) dX7_mayChange_56 (ly_175 B _ _) (rfl) (by omega) (by decide) ?_
        refine e_icmp_ne 64 dX7_mayChange_57 (by decide) (fun h4 => ?_) (fun h4 => ?_)
        · refine e_iconst (v := nI 0) dX7_mayChange_64 (by decide) ?_
          exact m_zret dX7_mayChange_65 rfl (by first | rfl | decide | assumption) (Nat.le_refl _) (Nat.le_refl _) (⟨rfl, by rw [if_neg (fun q => h4 q.2.2.2)]⟩)
        · refine e_iconst (v := nI 1) dX7_mayChange_60 (by decide) ?_
          refine e_goto 65 dX7_mayChange_61 (by decide) ?_
          exact m_zret dX7_mayChange_65 rfl (by first | rfl | decide | assumption) (Nat.le_refl _) (Nat.le_refl _) (⟨rfl, by rw [if_pos ⟨by omega, by omega, h3, h4⟩]⟩)
theorem bc_val {m : mm_M} {p : Nat → Nat} {w : Nat → Nat → Nat} (hp : pr_at m p w) {a b : Nat} (ha : a < 26) (hb : b < 26) : (if a = b then 0 else if m (6 + a) b = -1 then m 4 2 else m (6 + a) b) = nI (bc p w a b) := by
  obtain ⟨h1, h2, h3, h4, h5, h6⟩ := hp
  unfold bc
  by_cases e : a = b
  · rw [if_pos e, if_pos e]; rfl
  · rw [if_neg e, if_neg e, h5 a b ha hb]
    have h7 := h6 a b
    by_cases e2 : w a b = 0
    · rw [if_pos e2, if_pos rfl, if_pos e2]; exact h1 2 (by omega)
    · rw [if_neg e2, if_neg e2, if_neg]
      intro q
      have : ¬ nI (w a b - 1) < 0 := nI_pos (by omega)
      rw [q] at this
      exact this (by decide)
theorem c_mayChange2 (m : mm_M) {i j n k : Nat} {r t : Nat → Nat} (hr : rw_at m 172 173 n r) (ht : rw_at m 174 175 k t) (hi : i ≤ n) (hj : j ≤ k) : mm_F l D kA B sz o 0 0 mX7_mayChange [.ref (B + 171), .int (nI i), .int (nI j)] m (fun v m' => m' = m ∧ v = some (.int (if 1 < i ∧ 1 < j ∧ r (i - 2) = t (j - 1) ∧ r (i - 1) = t (j - 2) then nI 1 else nI 0))) := by
  have a2 := hr.2.1
  have b2 := ht.2.1
  refine (c_mayChange m (i := i) (j := j) (by omega) (by omega)).imp ?_
  rintro v m' ⟨rfl, rfl⟩
  refine ⟨rfl, ?_⟩
  by_cases h1 : 1 < i ∧ 1 < j
  · obtain ⟨h1, h2⟩ := h1
    obtain ⟨x1, x2⟩ := hr.2.2 (i - 2) (by omega)
    obtain ⟨x3, x4⟩ := hr.2.2 (i - 1) (by omega)
    obtain ⟨y1, y2⟩ := ht.2.2 (j - 2) (by omega)
    obtain ⟨y3, y4⟩ := ht.2.2 (j - 1) (by omega)
    rw [x1, x3, y1, y3]
    simp only [nI_eq (show r (i - 2) < 2 ^ 31 by omega) (show t (j - 1) < 2 ^ 31 by omega), nI_eq (show r (i - 1) < 2 ^ 31 by omega) (show t (j - 2) < 2 ^ 31 by omega)]
  · rw [if_neg (fun q => h1 ⟨q.1, q.2.1⟩), if_neg (fun q => h1 ⟨q.1, q.2.1⟩)]
set_option maxRecDepth 100000 in
set_option maxHeartbeats 1000000 in
/-- Table.cheapest: one more of the table -/
theorem c_cheapest (m : mm_M) {p : Nat → Nat} {w : Nat → Nat → Nat} {i j n k : Nat} {r t : Nat → Nat} (hp : pr_at m p w) (hr : rw_at m 172 173 n r) (ht : rw_at m 174 175 k t) (hi : i < n) (hj : j < k)
    (H : ∀ a b, (a ≤ i ∧ b ≤ k) ∨ (a = i + 1 ∧ b ≤ j) → m (177 + a) b = nI (dd p w r t a b)) : mm_F l D kA B sz o 2 45 mX7_cheapest [.ref (B + 171), .int (nI (i + 1)), .int (nI (j + 1))] m (fun v m' => m' = m ∧ v = some (.int (nI (dd p w r t (i + 1) (j + 1))))) := by
  have n12 := hr.2.1
  have k12 := ht.2.1
  have p0 := hp.2.1 0 (by omega)
  have p1 := hp.2.1 1 (by omega)
  have p3 := hp.2.1 3 (by omega)
  have d1 := dd_le (w := w) r t p0 p1 i j
  have d2 := dd_le (w := w) r t p0 p1 i (j + 1)
  have d3 := dd_le (w := w) r t p0 p1 (i + 1) j
  have d4 := dd_le (w := w) r t p0 p1 (i - 1) (j - 1)
  obtain ⟨ra, rb⟩ := hr.2.2 i hi
  obtain ⟨ta, tb⟩ := ht.2.2 j hj
  have b9 := bc_le hp (r i) (t j)
  refine mm_F.of ?_
  refine e_aload_n dX7_cheapest_0 rfl rfl ?_
  refine e_iload_n dX7_cheapest_1 rfl rfl ?_
  refine e_iload_n dX7_cheapest_2 rfl rfl ?_
  refine m_callV (As := [_, _]) lc_X7_65 dX7_cheapest_3 (ly_171 B _ _) rfl rfl (by simp [Value.category]) (Nat.le_of_ble_eq_true rfl) (Nat.le_of_ble_eq_true rfl) ⟨Nat.le_of_ble_eq_true rfl, Nat.le_of_ble_eq_true rfl⟩ ⟨Nat.le_of_ble_eq_true rfl, Nat.le_of_ble_eq_true rfl⟩ (c_byLast m (i := i + 1) (j := j + 1) (a := r i) (b := t j) (by omega) (by omega) (by omega) (by omega) rb tb (by simpa using ra) (by simpa using ta)) (fun v9 m9 hp9 => ?_)
  obtain ⟨rfl, rfl⟩ := hp9
  refine e_top (w := nI (dd p w r t i j + bc p w (r i) (t j))) ((by rw [bc_val hp rb tb, Nat.add_sub_cancel, Nat.add_sub_cancel, H i j (Or.inl ⟨by omega, by omega⟩), nI_add])) ?_
  refine e_istore_n dX7_cheapest_6 rfl (by decide) rfl ?_
  refine e_iload_n dX7_cheapest_7 rfl rfl ?_
  refine e_aload_n dX7_cheapest_8 rfl rfl ?_
  refine m_get 7 3 lf_X7_23 dX7_cheapest_9 (ly_171 B _ _) rfl ?_
  refine e_iload_n dX7_cheapest_12 rfl rfl ?_
  refine e_iconst (v := nI 1) dX7_cheapest_13 (by decide) ?_
  refine e_isub dX7_cheapest_14 ?_
  refine e_top (w := nI ((i + 1) - 1)) (pk_sub (by omega)) ?_
  refine m_aald (r := 177 + ((i + 1) - 1)) ((i + 1) - 1) dX7_cheapest_15 (by decide) rfl (ly_176 B _ _) (rfl) (by omega) (by decide) (if_pos (by omega)) ?_
  refine e_iload_n dX7_cheapest_16 rfl rfl ?_
  refine m_iald (j + 1) dX7_cheapest_17 (ly_le B _ _ (i := ((i + 1) - 1)) (by omega)) (rfl) (by omega) (by decide) ?_
  refine e_top (w := nI (dd p w r t i (j + 1))) ((by rw [Nat.add_sub_cancel]; exact H i (j + 1) (Or.inl ⟨by omega, by omega⟩))) ?_
  refine e_aload_n dX7_cheapest_18 rfl rfl ?_
  refine m_get 7 0 lf_X7_37 dX7_cheapest_19 (ly_171 B _ _) rfl ?_
  refine m_get 3 0 lf_X7_82 dX7_cheapest_22 (ly_3 B _ _) rfl ?_
  refine e_iconst (v := nI 1) dX7_cheapest_25 (by decide) ?_
  refine m_iald (1) dX7_cheapest_26 (ly_4 B _ _) (rfl) (by omega) (by decide) ?_
  refine e_top (w := nI (p 1)) (hp.1 1 (by omega)) ?_
  refine e_iadd dX7_cheapest_27 ?_
  refine e_top (w := nI ((dd p w r t i (j + 1)) + (p 1))) (nI_add _ _) ?_
  refine e_min dX7_cheapest_28 lm_X7_59 wm_s wm_i wm_c (Nat.le_of_ble_eq_true rfl) (Nat.le_of_ble_eq_true rfl) (Nat.le_of_ble_eq_true rfl) (Nat.le_of_ble_eq_true rfl) rfl ?_
  refine e_top (w := nI (min (dd p w r t i j + bc p w (r i) (t j)) ((dd p w r t i (j + 1)) + (p 1)))) (min_nI (by omega) (by omega)) ?_
  refine e_istore_n dX7_cheapest_31 rfl (by decide) rfl ?_
  refine e_iload_n dX7_cheapest_32 rfl rfl ?_
  refine e_aload_n dX7_cheapest_33 rfl rfl ?_
  refine m_get 7 3 lf_X7_23 dX7_cheapest_34 (ly_171 B _ _) rfl ?_
  refine e_iload_n dX7_cheapest_37 rfl rfl ?_
  refine m_aald (r := 177 + (i + 1)) (i + 1) dX7_cheapest_38 (by decide) rfl (ly_176 B _ _) (rfl) (by omega) (by decide) (if_pos (by omega)) ?_
  refine e_iload_n dX7_cheapest_39 rfl rfl ?_
  refine e_iconst (v := nI 1) dX7_cheapest_40 (by decide) ?_
  refine e_isub dX7_cheapest_41 ?_
  refine e_top (w := nI ((j + 1) - 1)) (pk_sub (by omega)) ?_
  refine m_iald ((j + 1) - 1) dX7_cheapest_42 (ly_le B _ _ (i := (i + 1)) (by omega)) (rfl) (by omega) (by decide) ?_
  refine e_top (w := nI (dd p w r t (i + 1) j)) ((by rw [Nat.add_sub_cancel]; exact H (i + 1) j (Or.inr ⟨rfl, by omega⟩))) ?_
  refine e_aload_n dX7_cheapest_43 rfl rfl ?_
  refine m_get 7 0 lf_X7_37 dX7_cheapest_44 (ly_171 B _ _) rfl ?_
  refine m_get 3 0 lf_X7_82 dX7_cheapest_47 (ly_3 B _ _) rfl ?_
  refine e_iconst (v := nI 0) dX7_cheapest_50 (by decide) ?_
  refine m_iald (0) dX7_cheapest_51 (ly_4 B _ _) (rfl) (by omega) (by decide) ?_
  refine e_top (w := nI (p 0)) (hp.1 0 (by omega)) ?_
  refine e_iadd dX7_cheapest_52 ?_
  refine e_top (w := nI ((dd p w r t (i + 1) j) + (p 0))) (nI_add _ _) ?_
  refine e_min dX7_cheapest_53 lm_X7_59 wm_s wm_i wm_c (Nat.le_of_ble_eq_true rfl) (Nat.le_of_ble_eq_true rfl) (Nat.le_of_ble_eq_true rfl) (Nat.le_of_ble_eq_true rfl) rfl ?_
  refine e_top (w := nI (min (min (dd p w r t i j + bc p w (r i) (t j)) ((dd p w r t i (j + 1)) + (p 1))) ((dd p w r t (i + 1) j) + (p 0)))) (min_nI (by omega) (by omega)) ?_
  refine e_istore_n dX7_cheapest_56 rfl (by decide) rfl ?_
  refine e_aload_n dX7_cheapest_57 rfl rfl ?_
  refine e_iload_n dX7_cheapest_58 rfl rfl ?_
  refine e_iload_n dX7_cheapest_59 rfl rfl ?_
  refine m_callV (As := [_, _]) lc_X7_75 dX7_cheapest_60 (ly_171 B _ _) rfl rfl (by simp [Value.category]) (Nat.le_of_ble_eq_true rfl) (Nat.le_of_ble_eq_true rfl) ⟨Nat.le_of_ble_eq_true rfl, Nat.le_of_ble_eq_true rfl⟩ ⟨Nat.le_of_ble_eq_true rfl, Nat.le_of_ble_eq_true rfl⟩ (c_mayChange2 m9 hr ht (i := i + 1) (j := j + 1) (by omega) (by omega)) (fun v9 m9 hp9 => ?_)
  obtain ⟨rfl, rfl⟩ := hp9
  have hcond : (1 < i + 1 ∧ 1 < j + 1 ∧ r (i + 1 - 2) = t (j + 1 - 1) ∧ r (i + 1 - 1) = t (j + 1 - 2)) ↔ (0 < i ∧ 0 < j ∧ r (i - 1) = t j ∧ r i = t (j - 1)) := by
    rw [show i + 1 - 2 = i - 1 by omega, show j + 1 - 2 = j - 1 by omega, Nat.add_sub_cancel, Nat.add_sub_cancel]
    constructor
    · rintro ⟨a, b, c⟩; exact ⟨by omega, by omega, c⟩
    · rintro ⟨a, b, c⟩; exact ⟨by omega, by omega, c⟩
  by_cases hT : 0 < i ∧ 0 < j ∧ r (i - 1) = t j ∧ r i = t (j - 1)
  · rw [if_pos (hcond.mpr hT)]
    refine e_if_eq 79 dX7_cheapest_63 (by decide) (fun hc => ?_) (fun hc => ?_)
    · exact absurd hc (by decide)
    · refine e_iload_n dX7_cheapest_66 rfl rfl ?_
      refine e_aload_n dX7_cheapest_67 rfl rfl ?_
      refine e_iload_n dX7_cheapest_68 rfl rfl ?_
      refine e_iload_n dX7_cheapest_69 rfl rfl ?_
      refine m_callV (As := [_, _]) lc_X7_79 dX7_cheapest_70 (ly_171 B _ _) rfl rfl (by simp [Value.category]) (Nat.le_of_ble_eq_true rfl) (Nat.le_of_ble_eq_true rfl) ⟨Nat.le_of_ble_eq_true rfl, Nat.le_of_ble_eq_true rfl⟩ ⟨Nat.le_of_ble_eq_true rfl, Nat.le_of_ble_eq_true rfl⟩ (c_byChange m9 (i := i + 1) (j := j + 1) (by omega) (by omega) (by omega) (by omega)) (fun v9 m9 hp9 => ?_)
      obtain ⟨rfl, rfl⟩ := hp9
      refine e_top (w := nI (dd p w r t (i - 1) (j - 1) + p 3)) ((by rw [show i + 1 - 2 = i - 1 by omega, show j + 1 - 2 = j - 1 by omega, H (i - 1) (j - 1) (Or.inl ⟨by omega, by omega⟩), hp.1 3 (by omega), nI_add])) ?_
      refine e_min dX7_cheapest_73 lm_X7_59 wm_s wm_i wm_c (Nat.le_of_ble_eq_true rfl) (Nat.le_of_ble_eq_true rfl) (Nat.le_of_ble_eq_true rfl) (Nat.le_of_ble_eq_true rfl) rfl ?_
      refine e_top (w := nI (min (min (min (dd p w r t i j + bc p w (r i) (t j)) ((dd p w r t i (j + 1)) + (p 1))) ((dd p w r t (i + 1) j) + (p 0))) (dd p w r t (i - 1) (j - 1) + p 3))) (min_nI (by omega) (by omega)) ?_
      refine e_goto 80 dX7_cheapest_76 (by decide) ?_
      exact m_iret dX7_cheapest_80 rfl (Nat.le_refl _) (Nat.le_refl _) (⟨rfl, by rw [dd_ij, if_pos hT]⟩)
  · rw [if_neg (fun q => hT (hcond.mp q))]
    refine e_if_eq 79 dX7_cheapest_63 (by decide) (fun hc => ?_) (fun hc => ?_)
    · refine e_iload_n dX7_cheapest_79 rfl rfl ?_
      exact m_iret dX7_cheapest_80 rfl (Nat.le_refl _) (Nat.le_refl _) (⟨rfl, by rw [dd_ij, if_neg hT]; congr 2; congr 1; omega⟩)
    · exact absurd hc (by decide)
end TBL
end
section
section FIL
variable {l : Launch} {D : va_G} {kA : FieldType → ClassId} {B sz : Nat} {o : Int64}
def P_fill (m : mm_M) (p : Nat → Nat) (w : Nat → Nat → Nat) (n k : Nat) (r t : Nat → Nat) (v : Option Value) (m' : mm_M) : Prop := v = none ∧ (∀ a b, a ≤ n → b ≤ k → m' (177 + a) b = nI (dd p w r t a b)) ∧ ∀ a, a < 177 ∨ 190 ≤ a → m' a = m a
set_option maxRecDepth 100000 in
set_option maxHeartbeats 2000000 in
/-- Table.fill: the table of the DISTANCES of the beginnings -/
theorem c_fill (m : mm_M) {p : Nat → Nat} {w : Nat → Nat → Nat} {n k : Nat} {r t : Nat → Nat} (hp : pr_at m p w) (hr : rw_at m 172 173 n r) (ht : rw_at m 174 175 k t) : mm_F l D kA B sz o 3 68 mX7_fill [.ref (B + 171)] m (P_fill m p w n k r t) := by
  have n12 := hr.2.1
  have k12 := ht.2.1
  have p0 := hp.2.1 0 (by omega)
  have p1 := hp.2.1 1 (by omega)
  refine mm_F.of ?_
  refine e_aload_n dX7_fill_0 rfl rfl ?_
  refine m_get 7 3 lf_X7_23 dX7_fill_1 (ly_171 B _ _) rfl ?_
  refine e_iconst (v := nI 0) dX7_fill_4 (by decide) ?_
  refine m_aald (r := 177 + 0) (0) dX7_fill_5 (by decide) rfl (ly_176 B _ _) (rfl) (by omega) (by decide) (if_pos (by omega)) ?_
  refine e_iconst (v := nI 0) dX7_fill_6 (by decide) ?_
  refine e_iconst (v := nI 0) dX7_fill_7 (by decide) ?_
  refine m_iast (0) dX7_fill_8 (fun m => ly_le B m _ (i := 0) (by omega)) (rfl) (by omega) (by decide) ?_
  refine e_iconst (v := nI 1) dX7_fill_9 (by decide) ?_
  refine e_istore_n dX7_fill_10 rfl (by decide) rfl ?_
  -- the outer loop
  have outer : ∀ (d i : Nat) (m' : mm_M) (x2 : Option Value), n + 1 - i = d → 1 ≤ i → i ≤ n + 1 → (∀ a b, a < i → b ≤ k → m' (177 + a) b = nI (dd p w r t a b)) → (∀ a, a < 177 ∨ 190 ≤ a → m' a = m a) → mm_G l D kA B sz o 3 68 mX7_fill (P_fill m p w n k r t) 58 [some (.ref (B + 171)), some (.int (nI i)), x2] [] m' := by
    intro d
    induction d with
    | zero =>
      intro i m' x2 hd h1 h2 h3 h4
      refine e_iload_n dX7_fill_58 rfl rfl ?_
      refine e_aload_n dX7_fill_59 rfl rfl ?_
      refine m_get 7 1 lf_X7_12 dX7_fill_60 (ly_171 B _ _) rfl ?_
      refine m_get 5 1 lf_X7_48 dX7_fill_63 (ly_172 B _ _) rfl ?_
      refine e_top (w := nI n) ((by rw [h4 172 (by omega)]; exact hr.1)) ?_
      refine n_icmp_gt 136 dX7_fill_66 (by decide) (by omega) (by omega) (fun hc => ?_) (fun hc => ?_)
      · exact m_vret dX7_fill_136 rfl (Nat.le_refl _) (Nat.le_refl _) (⟨rfl, fun a b ha hb => h3 a b (by omega) hb, h4⟩)
      · exact absurd hc (by omega)
    | succ d ih =>
      intro i m' x2 hd h1 h2 h3 h4
      refine e_iload_n dX7_fill_58 rfl rfl ?_
      refine e_aload_n dX7_fill_59 rfl rfl ?_
      refine m_get 7 1 lf_X7_12 dX7_fill_60 (ly_171 B _ _) rfl ?_
      refine m_get 5 1 lf_X7_48 dX7_fill_63 (ly_172 B _ _) rfl ?_
      refine e_top (w := nI n) ((by rw [h4 172 (by omega)]; exact hr.1)) ?_
      refine n_icmp_gt 136 dX7_fill_66 (by decide) (by omega) (by omega) (fun hc => ?_) (fun hc => ?_)
      · exact absurd hc (by omega)
      · refine e_aload_n dX7_fill_69 rfl rfl ?_
        refine m_get 7 3 lf_X7_23 dX7_fill_70 (ly_171 B _ _) rfl ?_
        refine e_iload_n dX7_fill_73 rfl rfl ?_
        refine m_aald (r := 177 + i) (i) dX7_fill_74 (by decide) rfl (ly_176 B _ _) (rfl) (by omega) (by decide) (if_pos (by omega)) ?_
        refine e_iconst (v := nI 0) dX7_fill_75 (by decide) ?_
        refine e_aload_n dX7_fill_76 rfl rfl ?_
        refine m_get 7 3 lf_X7_23 dX7_fill_77 (ly_171 B _ _) rfl ?_
        refine e_iload_n dX7_fill_80 rfl rfl ?_
        refine e_iconst (v := nI 1) dX7_fill_81 (by decide) ?_
        refine e_isub dX7_fill_82 ?_
        refine e_top (w := nI (i - 1)) (pk_sub (by omega)) ?_
        refine m_aald (r := 177 + (i - 1)) (i - 1) dX7_fill_83 (by decide) rfl (ly_176 B _ _) (rfl) (by omega) (by decide) (if_pos (by omega)) ?_
        refine e_iconst (v := nI 0) dX7_fill_84 (by decide) ?_
        refine m_iald (0) dX7_fill_85 (ly_le B _ _ (i := (i - 1)) (by omega)) (rfl) (by omega) (by decide) ?_
        refine e_top (w := nI (dd p w r t (i - 1) 0)) (h3 (i - 1) 0 (by omega) (by omega)) ?_
        refine e_aload_n dX7_fill_86 rfl rfl ?_
        refine m_get 7 0 lf_X7_37 dX7_fill_87 (ly_171 B _ _) rfl ?_
        refine m_get 3 0 lf_X7_82 dX7_fill_90 (ly_3 B _ _) rfl ?_
        refine e_iconst (v := nI 1) dX7_fill_93 (by decide) ?_
        refine m_iald (1) dX7_fill_94 (ly_4 B _ _) (rfl) (by omega) (by decide) ?_
        refine e_top (w := nI (p 1)) ((by rw [h4 4 (by omega)]; exact hp.1 1 (by omega))) ?_
        refine e_iadd dX7_fill_95 ?_
        refine e_top (w := nI ((dd p w r t (i - 1) 0) + (p 1))) (nI_add _ _) ?_
        refine m_iast (0) dX7_fill_96 (fun m => ly_le B m _ (i := i) (by omega)) (rfl) (by omega) (by decide) ?_
        refine e_iconst (v := nI 1) dX7_fill_97 (by decide) ?_
        refine e_istore_n dX7_fill_98 rfl (by decide) rfl ?_
        have inner : ∀ (e j : Nat) (m2 : mm_M), k + 1 - j = e → 1 ≤ j → j ≤ k + 1 → (∀ a b, a < i → b ≤ k → m2 (177 + a) b = nI (dd p w r t a b)) → (∀ b, b < j → m2 (177 + i) b = nI (dd p w r t i b)) → (∀ a, a < 177 ∨ 190 ≤ a → m2 a = m a) → mm_G l D kA B sz o 3 68 mX7_fill (P_fill m p w n k r t) 99 [some (.ref (B + 171)), some (.int (nI i)), some (.int (nI j))] [] m2 := by
          intro e
          induction e with
          | zero =>
            intro j m2 he g1 g2 g3 g4 g5
            refine e_iload_n dX7_fill_99 rfl rfl ?_
            refine e_aload_n dX7_fill_100 rfl rfl ?_
            refine m_get 7 2 lf_X7_18 dX7_fill_101 (ly_171 B _ _) rfl ?_
            refine m_get 5 1 lf_X7_48 dX7_fill_104 (ly_174 B _ _) rfl ?_
            refine e_top (w := nI k) ((by rw [g5 174 (by omega)]; exact ht.1)) ?_
            refine n_icmp_gt 130 dX7_fill_107 (by decide) (by omega) (by omega) (fun hc => ?_) (fun hc => ?_)
            · refine e_iinc (v := nI (i + 1)) dX7_fill_130 rfl (nI_add _ _) (by decide) rfl ?_
              refine e_goto 58 dX7_fill_133 (by decide) ?_
              refine ih (i + 1) m2 _ (by omega) (by omega) (by omega) (fun a b ha hb => ?_) g5
              by_cases e9 : a = i
              · subst e9; exact g4 b (by omega)
              · exact g3 a b (by omega) hb
            · exact absurd hc (by omega)
          | succ e ih2 =>
            intro j m2 he g1 g2 g3 g4 g5
            refine e_iload_n dX7_fill_99 rfl rfl ?_
            refine e_aload_n dX7_fill_100 rfl rfl ?_
            refine m_get 7 2 lf_X7_18 dX7_fill_101 (ly_171 B _ _) rfl ?_
            refine m_get 5 1 lf_X7_48 dX7_fill_104 (ly_174 B _ _) rfl ?_
            refine e_top (w := nI k) ((by rw [g5 174 (by omega)]; exact ht.1)) ?_
            refine n_icmp_gt 130 dX7_fill_107 (by decide) (by omega) (by omega) (fun hc => ?_) (fun hc => ?_)
            · exact absurd hc (by omega)
            · obtain ⟨i', rfl⟩ : ∃ q, i = q + 1 := ⟨i - 1, by omega⟩
              obtain ⟨j', rfl⟩ : ∃ q, j = q + 1 := ⟨j - 1, by omega⟩
              refine e_aload_n dX7_fill_110 rfl rfl ?_
              refine m_get 7 3 lf_X7_23 dX7_fill_111 (ly_171 B _ _) rfl ?_
              refine e_iload_n dX7_fill_114 rfl rfl ?_
              refine m_aald (r := 177 + (i' + 1)) (i' + 1) dX7_fill_115 (by decide) rfl (ly_176 B _ _) (rfl) (by omega) (by decide) (if_pos (by omega)) ?_
              refine e_iload_n dX7_fill_116 rfl rfl ?_
              refine e_aload_n dX7_fill_117 rfl rfl ?_
              refine e_iload_n dX7_fill_118 rfl rfl ?_
              refine e_iload_n dX7_fill_119 rfl rfl ?_
              refine m_callV (As := [_, _]) lc_X7_87 dX7_fill_120 (ly_171 B _ _) rfl rfl (by simp [Value.category]) (Nat.le_of_ble_eq_true rfl) (Nat.le_of_ble_eq_true rfl) ⟨Nat.le_of_ble_eq_true rfl, Nat.le_of_ble_eq_true rfl⟩ ⟨Nat.le_of_ble_eq_true rfl, Nat.le_of_ble_eq_true rfl⟩ (c_cheapest m2 (i := i') (j := j') (hp.of (fun a _ _ => g5 a (by omega))) (hr.of (g5 172 (by omega)) (g5 173 (by omega))) (ht.of (g5 174 (by omega)) (g5 175 (by omega))) (by omega) (by omega) (fun a b hab => by rcases hab with ⟨q1, q2⟩ | ⟨q1, q2⟩; exact g3 a b (by omega) q2; rw [q1]; exact g4 b (by omega))) (fun v9 m9 hp9 => ?_)
              obtain ⟨rfl, rfl⟩ := hp9
              refine m_iast (j' + 1) dX7_fill_123 (fun m => ly_le B m _ (i := (i' + 1)) (by omega)) (rfl) (by omega) (by decide) ?_
              refine e_iinc (v := nI (j' + 1 + 1)) dX7_fill_124 rfl (nI_add _ _) (by decide) rfl ?_
              refine e_goto 99 dX7_fill_127 (by decide) ?_
              refine ih2 (j' + 1 + 1) _ (by omega) (by omega) (by omega) (fun a b ha hb => ?_) (fun b hb => ?_) (fun a ha => ?_)
              · rw [wr_ne _ _ (Or.inl (by omega))]; exact g3 a b ha hb
              · by_cases e9 : b = j' + 1
                · subst e9; rw [wr_same]
                · rw [wr_ne _ _ (Or.inr e9)]; exact g4 b (by omega)
              · rw [wr_off _ _ (by omega)]; exact g5 a ha
        obtain ⟨i', rfl⟩ : ∃ q, i = q + 1 := ⟨i - 1, by omega⟩
        refine inner k 1 _ (by omega) (by omega) (by omega) (fun a b ha hb => ?_) (fun b hb => ?_) (fun a ha => ?_)
        · rw [wr_ne _ _ (Or.inl (by omega))]; exact h3 a b ha hb
        · rw [show b = 0 by omega, wr_same, dd_i0]; rfl
        · rw [wr_off _ _ (by omega)]; exact h4 a ha
  -- the first row
  have first : ∀ (d j : Nat) (m' : mm_M), k + 1 - j = d → 1 ≤ j → j ≤ k + 1 → (∀ b, b < j → m' (177 + 0) b = nI (dd p w r t 0 b)) → (∀ a, a < 177 ∨ 190 ≤ a → m' a = m a) → mm_G l D kA B sz o 3 68 mX7_fill (P_fill m p w n k r t) 11 [some (.ref (B + 171)), some (.int (nI j)), none] [] m' := by
    intro d
    induction d with
    | zero =>
      intro j m' hd h1 h2 h3 h4
      refine e_iload_n dX7_fill_11 rfl rfl ?_
      refine e_aload_n dX7_fill_12 rfl rfl ?_
      refine m_get 7 2 lf_X7_18 dX7_fill_13 (ly_171 B _ _) rfl ?_
      refine m_get 5 1 lf_X7_48 dX7_fill_16 (ly_174 B _ _) rfl ?_
      refine e_top (w := nI k) ((by rw [h4 174 (by omega)]; exact ht.1)) ?_
      refine n_icmp_gt 56 dX7_fill_19 (by decide) (by omega) (by omega) (fun hc => ?_) (fun hc => ?_)
      · refine e_iconst (v := nI 1) dX7_fill_56 (by decide) ?_
        refine e_istore_n dX7_fill_57 rfl (by decide) rfl ?_
        exact outer n 1 m' none (by omega) (by omega) (by omega) (fun a b ha hb => by rw [show a = 0 by omega]; exact h3 b (by omega)) h4
      · exact absurd hc (by omega)
    | succ d ih =>
      intro j m' hd h1 h2 h3 h4
      refine e_iload_n dX7_fill_11 rfl rfl ?_
      refine e_aload_n dX7_fill_12 rfl rfl ?_
      refine m_get 7 2 lf_X7_18 dX7_fill_13 (ly_171 B _ _) rfl ?_
      refine m_get 5 1 lf_X7_48 dX7_fill_16 (ly_174 B _ _) rfl ?_
      refine e_top (w := nI k) ((by rw [h4 174 (by omega)]; exact ht.1)) ?_
      refine n_icmp_gt 56 dX7_fill_19 (by decide) (by omega) (by omega) (fun hc => ?_) (fun hc => ?_)
      · exact absurd hc (by omega)
      · refine e_aload_n dX7_fill_22 rfl rfl ?_
        refine m_get 7 3 lf_X7_23 dX7_fill_23 (ly_171 B _ _) rfl ?_
        refine e_iconst (v := nI 0) dX7_fill_26 (by decide) ?_
        refine m_aald (r := 177 + 0) (0) dX7_fill_27 (by decide) rfl (ly_176 B _ _) (rfl) (by omega) (by decide) (if_pos (by omega)) ?_
        refine e_iload_n dX7_fill_28 rfl rfl ?_
        refine e_aload_n dX7_fill_29 rfl rfl ?_
        refine m_get 7 3 lf_X7_23 dX7_fill_30 (ly_171 B _ _) rfl ?_
        refine e_iconst (v := nI 0) dX7_fill_33 (by decide) ?_
        refine m_aald (r := 177 + 0) (0) dX7_fill_34 (by decide) rfl (ly_176 B _ _) (rfl) (by omega) (by decide) (if_pos (by omega)) ?_
        refine e_iload_n dX7_fill_35 rfl rfl ?_
        refine e_iconst (v := nI 1) dX7_fill_36 (by decide) ?_
        refine e_isub dX7_fill_37 ?_
        refine e_top (w := nI (j - 1)) (pk_sub (by omega)) ?_
        refine m_iald (j - 1) dX7_fill_38 (ly_le B _ _ (i := 0) (by omega)) (rfl) (by omega) (by decide) ?_
        refine e_top (w := nI (dd p w r t 0 (j - 1))) (h3 (j - 1) (by omega)) ?_
        refine e_aload_n dX7_fill_39 rfl rfl ?_
        refine m_get 7 0 lf_X7_37 dX7_fill_40 (ly_171 B _ _) rfl ?_
        refine m_get 3 0 lf_X7_82 dX7_fill_43 (ly_3 B _ _) rfl ?_
        refine e_iconst (v := nI 0) dX7_fill_46 (by decide) ?_
        refine m_iald (0) dX7_fill_47 (ly_4 B _ _) (rfl) (by omega) (by decide) ?_
        refine e_top (w := nI (p 0)) ((by rw [h4 4 (by omega)]; exact hp.1 0 (by omega))) ?_
        refine e_iadd dX7_fill_48 ?_
        refine e_top (w := nI ((dd p w r t 0 (j - 1)) + (p 0))) (nI_add _ _) ?_
        refine m_iast (j) dX7_fill_49 (fun m => ly_le B m _ (i := 0) (by omega)) (rfl) (by omega) (by decide) ?_
        refine e_iinc (v := nI (j + 1)) dX7_fill_50 rfl (nI_add _ _) (by decide) rfl ?_
        refine e_goto 11 dX7_fill_53 (by decide) ?_
        refine ih (j + 1) _ (by omega) (by omega) (by omega) (fun b hb => ?_) (fun a ha => by rw [wr_off _ _ (by omega)]; exact h4 a ha)
        by_cases e9 : b = j
        · subst e9
          rw [wr_same, dd_0, dd_0]
          congr 1
          obtain ⟨q, rfl⟩ : ∃ q, b = q + 1 := ⟨b - 1, by omega⟩
          rw [Nat.add_sub_cancel, Nat.succ_mul]
        · rw [wr_ne _ _ (Or.inr e9)]; exact h3 b (by omega)
  exact first k 1 _ (by omega) (by omega) (by omega) (fun b hb => by rw [show b = 0 by omega, wr_same, dd_0, Nat.zero_mul]) (fun a ha => wr_off _ _ (by omega))
end FIL
end
section
section MEA
variable {l : Launch} {D : va_G} {kA : FieldType → ClassId} {B sz : Nat} {o : Int64}
set_option maxRecDepth 100000 in
/-- Table.priceOfFirst, of a number of letters that there is -/
theorem c_priceOfFirst (m : mm_M) {a n k : Nat} (hn : m 172 1 = nI n) (hk : m 174 1 = nI k) (n12 : n ≤ 12) (k12 : k ≤ 12) (ha : a ≤ n) : mm_F l D kA B sz o 0 0 mX7_priceOfFirst [.ref (B + 171), .int (nI a)] m (fun v m' => m' = m ∧ v = some (.int (m (177 + a) k))) := by
  refine mm_F.of ?_
  refine e_iload_n dX7_priceOfFirst_0 rfl rfl ?_
  refine n_if_lt 15 dX7_priceOfFirst_1 (by decide) (by omega) (fun hc => ?_) (fun hc => ?_)
  · exact absurd hc (by omega)
  · refine e_iload_n dX7_priceOfFirst_4 rfl rfl ?_
    refine e_aload_n dX7_priceOfFirst_5 rfl rfl ?_
    refine m_get 7 1 lf_X7_12 dX7_priceOfFirst_6 (ly_171 B _ _) rfl ?_
    refine m_get 5 1 lf_X7_48 dX7_priceOfFirst_9 (ly_172 B _ _) rfl ?_
    refine e_top (w := nI n) (hn) ?_
    refine n_icmp_le 20 dX7_priceOfFirst_12 (by decide) (by omega) (by omega) (fun h2 => ?_) (fun h2 => ?_)
    · refine e_aload_n dX7_priceOfFirst_20 rfl rfl ?_
      refine m_get 7 3 lf_X7_23 dX7_priceOfFirst_21 (ly_171 B _ _) rfl ?_
      refine e_iload_n dX7_priceOfFirst_24 rfl rfl ?_
      refine m_aald (r := 177 + a) (a) dX7_priceOfFirst_25 (by decide) rfl (ly_176 B _ _) (rfl) (by omega) (by decide) (if_pos (by omega)) ?_
      refine e_aload_n dX7_priceOfFirst_26 rfl rfl ?_
      refine m_get 7 2 lf_X7_18 dX7_priceOfFirst_27 (ly_171 B _ _) rfl ?_
      refine m_get 5 1 lf_X7_48 dX7_priceOfFirst_30 (ly_174 B _ _) rfl ?_
      refine e_top (w := nI k) (hk) ?_
      refine m_iald (k) dX7_priceOfFirst_33 (ly_le B _ _ (i := a) (by omega)) (rfl) (by omega) (by decide) ?_
      exact m_iret dX7_priceOfFirst_34 rfl (Nat.le_refl _) (Nat.le_refl _) (⟨rfl, rfl⟩)
    · exact absurd ha h2
/-- what a row's DISTANCE to a word leaves -/
def P_mea (m : mm_M) (p : Nat → Nat) (w : Nat → Nat → Nat) (n k : Nat) (r t : Nat → Nat) (m' : mm_M) : Prop := rw_at m' 172 173 n r ∧ rw_at m' 174 175 k t ∧ (∀ a b, a ≤ n → b ≤ k → m' (177 + a) b = nI (dd p w r t a b)) ∧ ∀ a, a < 172 ∨ 190 ≤ a → m' a = m a
set_option maxRecDepth 100000 in
/-- Table.measure -/
theorem c_measure (m : mm_M) {p : Nat → Nat} {w : Nat → Nat → Nat} {q q1 u u1 n k : Nat} {r t : Nat → Nat} (hp : pr_at m p w) (iq : isRow B q q1) (iu : isRow B u u1) (q2 : q < 171) (q3 : q1 < 171) (u2 : u < 171) (u3 : u1 < 171) (hr : rw_at m q q1 n r) (ht : rw_at m u u1 k t) : mm_F l D kA B sz o 4 90 mX7_measure [.ref (B + 171), .ref (B + q), .ref (B + u)] m (fun v m' => v = some (.int (nI (dd p w r t n k))) ∧ P_mea m p w n k r t m') := by
  have n12 := hr.2.1
  have k12 := ht.2.1
  refine mm_F.of ?_
  refine e_aload_n dX7_measure_0 rfl rfl ?_
  refine m_get 7 1 lf_X7_12 dX7_measure_1 (ly_171 B _ _) rfl ?_
  refine e_aload_n dX7_measure_4 rfl rfl ?_
  refine m_callV (As := [_]) lc_X7_41 dX7_measure_5 (ly_172 B _ _) rfl rfl (by simp [Value.category]) (Nat.le_of_ble_eq_true rfl) (Nat.le_of_ble_eq_true rfl) ⟨Nat.le_of_ble_eq_true rfl, Nat.le_of_ble_eq_true rfl⟩ ⟨Nat.le_of_ble_eq_true rfl, Nat.le_of_ble_eq_true rfl⟩ (c_copyOf m (isRow_172 B) iq (by omega) (by omega) (by omega) (by omega) (by omega) hr.1 hr.2.1) (fun v9 m1 hp9 => ?_)
  obtain ⟨rfl, a1, a2, a3⟩ := hp9
  have ht1 : rw_at m1 u u1 k t := ht.of (a3 u (by omega) (by omega)) (a3 u1 (by omega) (by omega))
  refine e_aload_n dX7_measure_8 rfl rfl ?_
  refine m_get 7 2 lf_X7_18 dX7_measure_9 (ly_171 B _ _) rfl ?_
  refine e_aload_n dX7_measure_12 rfl rfl ?_
  refine m_callV (As := [_]) lc_X7_41 dX7_measure_13 (ly_174 B _ _) rfl rfl (by simp [Value.category]) (Nat.le_of_ble_eq_true rfl) (Nat.le_of_ble_eq_true rfl) ⟨Nat.le_of_ble_eq_true rfl, Nat.le_of_ble_eq_true rfl⟩ ⟨Nat.le_of_ble_eq_true rfl, Nat.le_of_ble_eq_true rfl⟩ (c_copyOf m1 (isRow_174 B) iu (by omega) (by omega) (by omega) (by omega) (by omega) ht1.1 ht1.2.1) (fun v9 m2 hp9 => ?_)
  obtain ⟨rfl, b1, b2, b3⟩ := hp9
  have r2 : rw_at m2 172 173 n r := ⟨by rw [b3 172 (by omega) (by omega)]; exact a1, n12, fun i hi => by rw [b3 173 (by omega) (by omega), a2 i hi]; exact hr.2.2 i hi⟩
  have t2 : rw_at m2 174 175 k t := ⟨b1, k12, fun i hi => by rw [b2 i hi]; exact ht1.2.2 i hi⟩
  refine e_aload_n dX7_measure_16 rfl rfl ?_
  refine m_callV (As := []) lc_X7_45 dX7_measure_17 (ly_171 B _ _) rfl rfl (by simp [Value.category]) (Nat.le_of_ble_eq_true rfl) (Nat.le_of_ble_eq_true rfl) ⟨Nat.le_of_ble_eq_true rfl, Nat.le_of_ble_eq_true rfl⟩ ⟨Nat.le_of_ble_eq_true rfl, Nat.le_of_ble_eq_true rfl⟩ (c_fill m2 (hp.of (fun a h1 h2 => by rw [b3 a (by omega) (by omega), a3 a (by omega) (by omega)])) r2 t2) (fun v9 m3 hp9 => ?_)
  obtain ⟨rfl, c1, c2⟩ := hp9
  have r3 : rw_at m3 172 173 n r := r2.of (c2 172 (by omega)) (c2 173 (by omega))
  have t3 : rw_at m3 174 175 k t := t2.of (c2 174 (by omega)) (c2 175 (by omega))
  refine e_aload_n dX7_measure_20 rfl rfl ?_
  refine e_aload_n dX7_measure_21 rfl rfl ?_
  refine m_get 7 1 lf_X7_12 dX7_measure_22 (ly_171 B _ _) rfl ?_
  refine m_get 5 1 lf_X7_48 dX7_measure_25 (ly_172 B _ _) rfl ?_
  refine e_top (w := nI n) (r3.1) ?_
  refine m_callV (As := [_]) lc_X7_51 dX7_measure_28 (ly_171 B _ _) rfl rfl (by simp [Value.category]) (Nat.le_of_ble_eq_true rfl) (Nat.le_of_ble_eq_true rfl) ⟨Nat.le_of_ble_eq_true rfl, Nat.le_of_ble_eq_true rfl⟩ ⟨Nat.le_of_ble_eq_true rfl, Nat.le_of_ble_eq_true rfl⟩ (c_priceOfFirst m3 (a := n) r3.1 t3.1 n12 k12 (by omega)) (fun v9 m9 hp9 => ?_)
  obtain ⟨rfl, rfl⟩ := hp9
  exact m_iret dX7_measure_31 rfl (Nat.le_refl _) (Nat.le_refl _) (⟨by rw [c1 n k (by omega) (by omega)], r3, t3, c1, fun a ha => by rw [c2 a (by omega), b3 a (by omega) (by omega), a3 a (by omega) (by omega)]⟩)
set_option maxRecDepth 100000 in
/-- Table.measureMirrored -/
theorem c_measureM (m : mm_M) {p : Nat → Nat} {w : Nat → Nat → Nat} {q q1 u u1 n k : Nat} {r t : Nat → Nat} (hp : pr_at m p w) (iq : isRow B q q1) (iu : isRow B u u1) (q2 : q < 171) (q3 : q1 < 171) (u2 : u < 171) (u3 : u1 < 171) (hr : rw_at m q q1 n r) (ht : rw_at m u u1 k t) : mm_F l D kA B sz o 4 90 mX7_measureMirrored [.ref (B + 171), .ref (B + q), .ref (B + u)] m (fun v m' => v = none ∧ P_mea m p w n k (fun i => r (n - 1 - i)) (fun i => t (k - 1 - i)) m') := by
  have n12 := hr.2.1
  have k12 := ht.2.1
  refine mm_F.of ?_
  refine e_aload_n dX7_measureMirrored_0 rfl rfl ?_
  refine m_get 7 1 lf_X7_12 dX7_measureMirrored_1 (ly_171 B _ _) rfl ?_
  refine e_aload_n dX7_measureMirrored_4 rfl rfl ?_
  refine m_callV (As := [_]) lc_X7_55 dX7_measureMirrored_5 (ly_172 B _ _) rfl rfl (by simp [Value.category]) (Nat.le_of_ble_eq_true rfl) (Nat.le_of_ble_eq_true rfl) ⟨Nat.le_of_ble_eq_true rfl, Nat.le_of_ble_eq_true rfl⟩ ⟨Nat.le_of_ble_eq_true rfl, Nat.le_of_ble_eq_true rfl⟩ (c_mirrorOf m (isRow_172 B) iq (by omega) (by omega) (by omega) (by omega) (by omega) hr.1 hr.2.1) (fun v9 m1 hp9 => ?_)
  obtain ⟨rfl, a1, a2, a3⟩ := hp9
  have ht1 : rw_at m1 u u1 k t := ht.of (a3 u (by omega) (by omega)) (a3 u1 (by omega) (by omega))
  refine e_aload_n dX7_measureMirrored_8 rfl rfl ?_
  refine m_get 7 2 lf_X7_18 dX7_measureMirrored_9 (ly_171 B _ _) rfl ?_
  refine e_aload_n dX7_measureMirrored_12 rfl rfl ?_
  refine m_callV (As := [_]) lc_X7_55 dX7_measureMirrored_13 (ly_174 B _ _) rfl rfl (by simp [Value.category]) (Nat.le_of_ble_eq_true rfl) (Nat.le_of_ble_eq_true rfl) ⟨Nat.le_of_ble_eq_true rfl, Nat.le_of_ble_eq_true rfl⟩ ⟨Nat.le_of_ble_eq_true rfl, Nat.le_of_ble_eq_true rfl⟩ (c_mirrorOf m1 (isRow_174 B) iu (by omega) (by omega) (by omega) (by omega) (by omega) ht1.1 ht1.2.1) (fun v9 m2 hp9 => ?_)
  obtain ⟨rfl, b1, b2, b3⟩ := hp9
  have r2 : rw_at m2 172 173 n (fun i => r (n - 1 - i)) := ⟨by rw [b3 172 (by omega) (by omega)]; exact a1, n12, fun i hi => by rw [b3 173 (by omega) (by omega), a2 i hi]; exact hr.2.2 _ (by omega)⟩
  have t2 : rw_at m2 174 175 k (fun i => t (k - 1 - i)) := ⟨b1, k12, fun i hi => by rw [b2 i hi]; exact ht1.2.2 _ (by omega)⟩
  refine e_aload_n dX7_measureMirrored_16 rfl rfl ?_
  refine m_callV (As := []) lc_X7_45 dX7_measureMirrored_17 (ly_171 B _ _) rfl rfl (by simp [Value.category]) (Nat.le_of_ble_eq_true rfl) (Nat.le_of_ble_eq_true rfl) ⟨Nat.le_of_ble_eq_true rfl, Nat.le_of_ble_eq_true rfl⟩ ⟨Nat.le_of_ble_eq_true rfl, Nat.le_of_ble_eq_true rfl⟩ (c_fill m2 (hp.of (fun a h1 h2 => by rw [b3 a (by omega) (by omega), a3 a (by omega) (by omega)])) r2 t2) (fun v9 m3 hp9 => ?_)
  obtain ⟨rfl, c1, c2⟩ := hp9
  exact m_vret dX7_measureMirrored_20 rfl (Nat.le_refl _) (Nat.le_refl _) (⟨rfl, r2.of (c2 172 (by omega)) (c2 173 (by omega)), t2.of (c2 174 (by omega)) (c2 175 (by omega)), c1, fun a ha => by rw [c2 a (by omega), b3 a (by omega) (by omega), a3 a (by omega) (by omega)]⟩)
end MEA
end
section
/-- THE EDITS, from the end: kind and place -/
def ed (p : Nat → Nat) (w : Nat → Nat → Nat) (r t : Nat → Nat) (i j : Nat) : List (Nat × Nat) :=
  if i = 0 ∧ j = 0 then []
  else if h1 : 0 < i ∧ 0 < j ∧ dd p w r t i j = dd p w r t (i - 1) (j - 1) + bc p w (r (i - 1)) (t (j - 1)) then (if r (i - 1) = t (j - 1) then [] else [(2, i - 1)]) ++ ed p w r t (i - 1) (j - 1)
  else if h2 : (1 < i ∧ 1 < j ∧ r (i - 2) = t (j - 1) ∧ r (i - 1) = t (j - 2)) ∧ dd p w r t i j = dd p w r t (i - 2) (j - 2) + p 3 then (3, i - 2) :: ed p w r t (i - 2) (j - 2)
  else if h3 : 0 < i ∧ dd p w r t i j = dd p w r t (i - 1) j + p 1 then (1, i - 1) :: ed p w r t (i - 1) j
  else if h4 : 0 < j then (0, i) :: ed p w r t i (j - 1) else []
  termination_by i + j
  decreasing_by all_goals omega
theorem ed_0 (p : Nat → Nat) (w : Nat → Nat → Nat) (r t : Nat → Nat) : ed p w r t 0 0 = [] := by rw [ed]; simp
theorem ed_1 {p : Nat → Nat} {w : Nat → Nat → Nat} {r t : Nat → Nat} {i j : Nat} (h1 : 0 < i ∧ 0 < j ∧ dd p w r t i j = dd p w r t (i - 1) (j - 1) + bc p w (r (i - 1)) (t (j - 1))) : ed p w r t i j = (if r (i - 1) = t (j - 1) then [] else [(2, i - 1)]) ++ ed p w r t (i - 1) (j - 1) := by
  rw [ed, if_neg (by omega), dif_pos h1]
theorem ed_2 {p : Nat → Nat} {w : Nat → Nat → Nat} {r t : Nat → Nat} {i j : Nat} (h1 : ¬ (0 < i ∧ 0 < j ∧ dd p w r t i j = dd p w r t (i - 1) (j - 1) + bc p w (r (i - 1)) (t (j - 1)))) (h2 : (1 < i ∧ 1 < j ∧ r (i - 2) = t (j - 1) ∧ r (i - 1) = t (j - 2)) ∧ dd p w r t i j = dd p w r t (i - 2) (j - 2) + p 3) : ed p w r t i j = (3, i - 2) :: ed p w r t (i - 2) (j - 2) := by
  rw [ed, if_neg (by omega), dif_neg h1, dif_pos h2]
theorem ed_3 {p : Nat → Nat} {w : Nat → Nat → Nat} {r t : Nat → Nat} {i j : Nat} (h1 : ¬ (0 < i ∧ 0 < j ∧ dd p w r t i j = dd p w r t (i - 1) (j - 1) + bc p w (r (i - 1)) (t (j - 1)))) (h2 : ¬ ((1 < i ∧ 1 < j ∧ r (i - 2) = t (j - 1) ∧ r (i - 1) = t (j - 2)) ∧ dd p w r t i j = dd p w r t (i - 2) (j - 2) + p 3)) (h3 : 0 < i ∧ dd p w r t i j = dd p w r t (i - 1) j + p 1) : ed p w r t i j = (1, i - 1) :: ed p w r t (i - 1) j := by
  rw [ed, if_neg (by omega), dif_neg h1, dif_neg h2, dif_pos h3]
theorem ed_4 {p : Nat → Nat} {w : Nat → Nat → Nat} {r t : Nat → Nat} {i j : Nat} (h1 : ¬ (0 < i ∧ 0 < j ∧ dd p w r t i j = dd p w r t (i - 1) (j - 1) + bc p w (r (i - 1)) (t (j - 1)))) (h2 : ¬ ((1 < i ∧ 1 < j ∧ r (i - 2) = t (j - 1) ∧ r (i - 1) = t (j - 2)) ∧ dd p w r t i j = dd p w r t (i - 2) (j - 2) + p 3)) (h3 : ¬ (0 < i ∧ dd p w r t i j = dd p w r t (i - 1) j + p 1)) (h4 : 0 < j) : ed p w r t i j = (0, i) :: ed p w r t i (j - 1) := by
  rw [ed, if_neg (by omega), dif_neg h1, dif_neg h2, dif_neg h3, dif_pos h4]
/-- where a letter is left of r alone, it goes -/
theorem dd_col (p : Nat → Nat) (w : Nat → Nat → Nat) (r t : Nat → Nat) {i : Nat} (hi : 0 < i) : dd p w r t i 0 = dd p w r t (i - 1) 0 + p 1 := by
  obtain ⟨q, rfl⟩ : ∃ q, i = q + 1 := ⟨i - 1, by omega⟩
  rw [dd_i0, Nat.add_sub_cancel]
theorem ed_len (p : Nat → Nat) (w : Nat → Nat → Nat) (r t : Nat → Nat) : ∀ (N i j : Nat), i + j ≤ N → (ed p w r t i j).length ≤ i + j := by
  intro N
  induction N with
  | zero =>
    intro i j h
    rw [show i = 0 by omega, show j = 0 by omega, ed_0]
    simp
  | succ N ih =>
    intro i j h
    by_cases h0 : i = 0 ∧ j = 0
    · rw [h0.1, h0.2, ed_0]; simp
    by_cases h1 : 0 < i ∧ 0 < j ∧ dd p w r t i j = dd p w r t (i - 1) (j - 1) + bc p w (r (i - 1)) (t (j - 1))
    · rw [ed_1 h1, List.length_append]
      have := ih (i - 1) (j - 1) (by omega)
      have h9 : (if r (i - 1) = t (j - 1) then ([] : List (Nat × Nat)) else [(2, i - 1)]).length ≤ 1 := by split <;> simp
      omega
    by_cases h2 : (1 < i ∧ 1 < j ∧ r (i - 2) = t (j - 1) ∧ r (i - 1) = t (j - 2)) ∧ dd p w r t i j = dd p w r t (i - 2) (j - 2) + p 3
    · rw [ed_2 h1 h2, List.length_cons]
      have := ih (i - 2) (j - 2) (by omega)
      omega
    by_cases h3 : 0 < i ∧ dd p w r t i j = dd p w r t (i - 1) j + p 1
    · rw [ed_3 h1 h2 h3, List.length_cons]
      have := ih (i - 1) j (by omega)
      omega
    · have h4 : 0 < j := by
        rcases Nat.eq_zero_or_pos j with e | e
        · subst e; exact absurd ⟨by omega, dd_col p w r t (by omega)⟩ h3
        · exact e
      rw [ed_4 h1 h2 h3 h4, List.length_cons]
      have := ih i (j - 1) (by omega)
      omega
section TRC
variable {l : Launch} {D : va_G} {kA : FieldType → ClassId} {B sz : Nat} {o : Int64}
set_option maxRecDepth 100000 in
/-- Table.note -/
theorem c_note (m : mm_M) {e a b : Nat} (he : m 171 6 = nI e) (he2 : e < 24) : mm_F l D kA B sz o 0 0 mX7_note [.ref (B + 171), .int (nI a), .int (nI b)] m (fun v m' => v = none ∧ m' = wr (wr (wr m 190 e (nI a)) 191 e (nI b)) 171 6 (nI (e + 1))) := by
  refine mm_F.of ?_
  refine e_aload_n dX7_note_0 rfl rfl ?_
  refine m_get 7 4 lf_X7_26 dX7_note_1 (ly_171 B _ _) rfl ?_
  refine e_aload_n dX7_note_4 rfl rfl ?_
  refine m_get 7 6 lf_X7_33 dX7_note_5 (ly_171 B _ _) rfl ?_
  refine e_top (w := nI e) (he) ?_
  refine e_iload_n dX7_note_8 rfl rfl ?_
  refine m_iast (e) dX7_note_9 (fun m => ly_190 B m _) (rfl) (by omega) (by decide) ?_
  refine e_aload_n dX7_note_10 rfl rfl ?_
  refine m_get 7 5 lf_X7_30 dX7_note_11 (ly_171 B _ _) rfl ?_
  refine e_aload_n dX7_note_14 rfl rfl ?_
  refine m_get 7 6 lf_X7_33 dX7_note_15 (ly_171 B _ _) rfl ?_
  refine e_top (w := nI e) ((wr_ne _ _ (Or.inl (by omega))).trans he) ?_
  refine e_iload_n dX7_note_18 rfl rfl ?_
  refine m_iast (e) dX7_note_19 (fun m => ly_191 B m _) (rfl) (by omega) (by decide) ?_
  refine e_aload_n dX7_note_20 rfl rfl ?_
  refine e_dup dX7_note_21 rfl ?_
  refine m_get 7 6 lf_X7_33 dX7_note_22 (ly_171 B _ _) rfl ?_
  refine e_top (w := nI e) ((wr_ne _ _ (Or.inl (by omega))).trans ((wr_ne _ _ (Or.inl (by omega))).trans he)) ?_
  refine e_iconst (v := nI 1) dX7_note_25 (by decide) ?_
  refine e_iadd dX7_note_26 ?_
  refine e_top (w := nI (e + 1)) (nI_add _ _) ?_
  refine m_puti 7 6 lp_X7_33 dX7_note_27 (ly_171 B _ _) (Nat.le_of_ble_eq_true rfl) (ly_171 B _ _) rfl ?_
  exact m_vret dX7_note_30 rfl (Nat.le_refl _) (Nat.le_refl _) (⟨rfl, rfl⟩)
/-- the arrays hold the EDITS of a list -/
def ed_at (m : mm_M) (E : List (Nat × Nat)) : Prop := m 171 6 = nI E.length ∧ ∀ q x, E[q]? = some x → m 190 q = nI x.1 ∧ m 191 q = nI x.2
theorem ed_at.note {m : mm_M} {E : List (Nat × Nat)} (h : ed_at m E) (a b : Nat) : ed_at (wr (wr (wr m 190 E.length (nI a)) 191 E.length (nI b)) 171 6 (nI (E.length + 1))) (E ++ [(a, b)]) := by
  refine ⟨by rw [wr_same]; simp, fun q x hq => ?_⟩
  have g1 : wr (wr (wr m 190 E.length (nI a)) 191 E.length (nI b)) 171 6 (nI (E.length + 1)) 190 q = wr m 190 E.length (nI a) 190 q := by rw [wr_off _ _ (show (190 : Nat) ≠ 171 by omega), wr_off _ _ (show (190 : Nat) ≠ 191 by omega)]
  have g2 : wr (wr (wr m 190 E.length (nI a)) 191 E.length (nI b)) 171 6 (nI (E.length + 1)) 191 q = wr (wr m 190 E.length (nI a)) 191 E.length (nI b) 191 q := by rw [wr_off _ _ (show (191 : Nat) ≠ 171 by omega)]
  rw [g1, g2]
  by_cases hl : q < E.length
  · rw [List.getElem?_append_left hl] at hq
    rw [wr_ne _ _ (Or.inr (show q ≠ E.length by omega)), wr_ne _ _ (Or.inr (show q ≠ E.length by omega)), wr_off _ _ (show (191 : Nat) ≠ 190 by omega)]
    exact h.2 q x hq
  · rw [List.getElem?_append_right (by omega)] at hq
    have h9 : q - E.length < 1 := (List.getElem?_eq_some_iff.mp hq).1
    have : q = E.length := by omega
    subst this
    rw [Nat.sub_self] at hq
    cases hq
    exact ⟨wr_same _ _ _ _, wr_same _ _ _ _⟩
def P_tr (m : mm_M) (E : List (Nat × Nat)) (v : Option Value) (m' : mm_M) : Prop := v = none ∧ ed_at m' E ∧ ∀ a, a ≠ 171 → a ≠ 190 → a ≠ 191 → m' a = m a
set_option maxRecDepth 100000 in
set_option maxHeartbeats 4000000 in
/-- Table.trace: THE EDITS -/
theorem c_trace (m : mm_M) {p : Nat → Nat} {w : Nat → Nat → Nat} {n k : Nat} {r t : Nat → Nat} (hp : pr_at m p w) (hr : rw_at m 172 173 n r) (ht : rw_at m 174 175 k t) (H : ∀ a b, a ≤ n → b ≤ k → m (177 + a) b = nI (dd p w r t a b)) : mm_F l D kA B sz o 2 45 mX7_trace [.ref (B + 171)] m (P_tr m (ed p w r t n k)) := by
  have n12 := hr.2.1
  have k12 := ht.2.1
  have p0 := hp.2.1 0 (by omega)
  have p1 := hp.2.1 1 (by omega)
  have p3 := hp.2.1 3 (by omega)
  have len := ed_len p w r t (n + k) n k (by omega)
  have loop : ∀ (N i j s : Nat) (m' : mm_M) (x4 : Option Value) (E : List (Nat × Nat)), i + j ≤ N → i ≤ n → j ≤ k → s + i + j ≤ n + k → E ++ ed p w r t i j = ed p w r t n k → ed_at m' E → (∀ a, a ≠ 171 → a ≠ 190 → a ≠ 191 → m' a = m a) → mm_G l D kA B sz o 2 45 mX7_trace (P_tr m (ed p w r t n k)) 23 [some (.ref (B + 171)), some (.int (nI i)), some (.int (nI j)), some (.int (nI s)), x4] [] m' := by
    intro N
    induction N with
    | zero =>
      intro i j s m' x4 E h0 h1 h2 h3 h4 h5 h6
      have hi : i = 0 := by omega
      have hj : j = 0 := by omega
      subst hi; subst hj
      rw [ed_0, List.append_nil] at h4
      subst h4
      refine e_iload_n dX7_trace_23 rfl rfl ?_
      refine e_bipush (v := nI 24) dX7_trace_24 (by decide) ?_
      refine n_icmp_ge 195 dX7_trace_26 (by decide) (by omega) (by omega) (fun hc => ?_) (fun hc => ?_)
      · exact m_vret dX7_trace_195 rfl (Nat.le_refl _) (Nat.le_refl _) (⟨rfl, h5, h6⟩)
      · refine e_iload_n dX7_trace_29 rfl rfl ?_
        refine e_iload_n dX7_trace_30 rfl rfl ?_
        refine e_iadd dX7_trace_31 ?_
        refine e_top (w := nI (0 + 0)) (nI_add _ _) ?_
        refine n_if_le 195 dX7_trace_32 (by decide) (by omega) (fun h9 => ?_) (fun h9 => ?_)
        · exact m_vret dX7_trace_195 rfl (Nat.le_refl _) (Nat.le_refl _) (⟨rfl, h5, h6⟩)
        · exact absurd (Nat.le_refl _) h9
    | succ N ih =>
      intro i j s m' x4 E h0 h1 h2 h3 h4 h5 h6
      refine e_iload_n dX7_trace_23 rfl rfl ?_
      refine e_bipush (v := nI 24) dX7_trace_24 (by decide) ?_
      refine n_icmp_ge 195 dX7_trace_26 (by decide) (by omega) (by omega) (fun hc => ?_) (fun hc => ?_)
      · have hi : i = 0 := by omega
        have hj : j = 0 := by omega
        subst hi; subst hj
        rw [ed_0, List.append_nil] at h4
        subst h4
        exact m_vret dX7_trace_195 rfl (Nat.le_refl _) (Nat.le_refl _) (⟨rfl, h5, h6⟩)
      · refine e_iload_n dX7_trace_29 rfl rfl ?_
        refine e_iload_n dX7_trace_30 rfl rfl ?_
        refine e_iadd dX7_trace_31 ?_
        refine e_top (w := nI (i + j)) (nI_add _ _) ?_
        refine n_if_le 195 dX7_trace_32 (by decide) (by omega) (fun h9 => ?_) (fun h9 => ?_)
        · have hi : i = 0 := by omega
          have hj : j = 0 := by omega
          subst hi; subst hj
          rw [ed_0, List.append_nil] at h4
          subst h4
          exact m_vret dX7_trace_195 rfl (Nat.le_refl _) (Nat.le_refl _) (⟨rfl, h5, h6⟩)
        · have dij := dd_le (w := w) r t p0 p1 i j
          have hp' : pr_at m' p w := hp.of (fun a _ _ => h6 a (by omega) (by omega) (by omega))
          have hr' : rw_at m' 172 173 n r := hr.of (h6 172 (by omega) (by omega) (by omega)) (h6 173 (by omega) (by omega) (by omega))
          have ht' : rw_at m' 174 175 k t := ht.of (h6 174 (by omega) (by omega) (by omega)) (h6 175 (by omega) (by omega) (by omega))
          have H' : ∀ a b, a ≤ n → b ≤ k → m' (177 + a) b = nI (dd p w r t a b) := fun a b ha hb => by rw [h6 (177 + a) (by omega) (by omega) (by omega)]; exact H a b ha hb
          have hlen : E.length + (ed p w r t i j).length ≤ 24 := by
            have := congrArg List.length h4
            rw [List.length_append] at this
            omega
          refine e_aload_n dX7_trace_35 rfl rfl ?_
          refine m_get 7 3 lf_X7_23 dX7_trace_36 (ly_171 B _ _) rfl ?_
          refine e_iload_n dX7_trace_39 rfl rfl ?_
          refine m_aald (r := 177 + i) (i) dX7_trace_40 (by decide) rfl (ly_176 B _ _) (rfl) (by omega) (by decide) (if_pos (by omega)) ?_
          refine e_iload_n dX7_trace_41 rfl rfl ?_
          refine m_iald (j) dX7_trace_42 (ly_le B _ _ (i := i) (by omega)) (rfl) (by omega) (by decide) ?_
          refine e_top (w := nI (dd p w r t i j)) (H' i j h1 h2) ?_
          refine e_istore dX7_trace_43 (by decide) rfl ?_
          -- what follows a step
          have tail : ∀ (i' j' : Nat) (m2 : mm_M) (E2 : List (Nat × Nat)), i' + j' < i + j → i' ≤ n → j' ≤ k → E2 ++ ed p w r t i' j' = ed p w r t n k → ed_at m2 E2 → (∀ a, a ≠ 171 → a ≠ 190 → a ≠ 191 → m2 a = m a) → mm_G l D kA B sz o 2 45 mX7_trace (P_tr m (ed p w r t n k)) 189 [some (.ref (B + 171)), some (.int (nI i')), some (.int (nI j')), some (.int (nI s)), some (.int (nI (dd p w r t i j)))] [] m2 := by
            intro i' j' m2 E2 g1 g2 g3 g4 g5 g6
            refine e_iinc (v := nI (s + 1)) dX7_trace_189 rfl (nI_add _ _) (by decide) rfl ?_
            refine e_goto 23 dX7_trace_192 (by decide) ?_
            exact ih i' j' (s + 1) m2 _ E2 (by omega) g2 g3 (by omega) g4 g5 g6
          -- a step that is noted
          have noted : ∀ (i' j' a b : Nat), i' + j' < i + j → i' ≤ n → j' ≤ k → ed p w r t i j = (a, b) :: ed p w r t i' j' → mm_G l D kA B sz o 2 45 mX7_trace (P_tr m (ed p w r t n k)) 189 [some (.ref (B + 171)), some (.int (nI i')), some (.int (nI j')), some (.int (nI s)), some (.int (nI (dd p w r t i j)))] [] (wr (wr (wr m' 190 E.length (nI a)) 191 E.length (nI b)) 171 6 (nI (E.length + 1))) := by
            intro i' j' a b g1 g2 g3 g4
            refine tail i' j' _ (E ++ [(a, b)]) g1 g2 g3 (by rw [← h4, g4]; simp) (h5.note a b) (fun c c1 c2 c3 => ?_)
            rw [wr_off _ _ c1, wr_off _ _ c3, wr_off _ _ c2]
            exact h6 c c1 c2 c3
          -- pc 176: one is put in
          have at176 : ∀ (h1 : ¬ (0 < i ∧ 0 < j ∧ dd p w r t i j = dd p w r t (i - 1) (j - 1) + bc p w (r (i - 1)) (t (j - 1)))) (h2 : ¬ ((1 < i ∧ 1 < j ∧ r (i - 2) = t (j - 1) ∧ r (i - 1) = t (j - 2)) ∧ dd p w r t i j = dd p w r t (i - 2) (j - 2) + p 3)) (h3 : ¬ (0 < i ∧ dd p w r t i j = dd p w r t (i - 1) j + p 1)), mm_G l D kA B sz o 2 45 mX7_trace (P_tr m (ed p w r t n k)) 176 [some (.ref (B + 171)), some (.int (nI i)), some (.int (nI j)), some (.int (nI s)), some (.int (nI (dd p w r t i j)))] [] m' := by
            intro c1 c2 c3
            have h4j : 0 < j := by
              rcases Nat.eq_zero_or_pos j with e | e
              · subst e; exact absurd ⟨by omega, dd_col p w r t (by omega)⟩ c3
              · exact e
            have e4 := ed_4 c1 c2 c3 h4j
            rw [e4, List.length_cons] at hlen
            refine e_iload_n dX7_trace_176 rfl rfl ?_
            refine n_if_le 189 dX7_trace_177 (by decide) (by omega) (fun c4 => ?_) (fun c4 => ?_)
            · exact absurd c4 (by omega)
            · refine e_iinc (v := nI (j - 1)) dX7_trace_180 rfl (dec_nI (by decide) (by omega)) (by decide) rfl ?_
              refine e_aload_n dX7_trace_183 rfl rfl ?_
              refine e_iconst (v := nI 0) dX7_trace_184 (by decide) ?_
              refine e_iload_n dX7_trace_185 rfl rfl ?_
              refine m_callV (As := [_, _]) lc_X7_71 dX7_trace_186 (ly_171 B _ _) rfl rfl (by simp [Value.category]) (Nat.le_of_ble_eq_true rfl) (Nat.le_of_ble_eq_true rfl) ⟨Nat.le_of_ble_eq_true rfl, Nat.le_of_ble_eq_true rfl⟩ ⟨Nat.le_of_ble_eq_true rfl, Nat.le_of_ble_eq_true rfl⟩ (c_note m' (e := E.length) (a := 0) (b := i) h5.1 (by omega)) (fun v9 m9 hp9 => ?_)
              obtain ⟨rfl, rfl⟩ := hp9
              exact noted i (j - 1) 0 i (by omega) h1 (by omega) e4
          -- pc 135: one is left out
          have at135 : ∀ (h1 : ¬ (0 < i ∧ 0 < j ∧ dd p w r t i j = dd p w r t (i - 1) (j - 1) + bc p w (r (i - 1)) (t (j - 1)))) (h2 : ¬ ((1 < i ∧ 1 < j ∧ r (i - 2) = t (j - 1) ∧ r (i - 1) = t (j - 2)) ∧ dd p w r t i j = dd p w r t (i - 2) (j - 2) + p 3)), mm_G l D kA B sz o 2 45 mX7_trace (P_tr m (ed p w r t n k)) 135 [some (.ref (B + 171)), some (.int (nI i)), some (.int (nI j)), some (.int (nI s)), some (.int (nI (dd p w r t i j)))] [] m' := by
            intro c1 c2
            refine e_iload_n dX7_trace_135 rfl rfl ?_
            refine n_if_le 176 dX7_trace_136 (by decide) (by omega) (fun c4 => ?_) (fun c4 => ?_)
            · exact at176 c1 c2 (fun q => by omega)
            · have d2 := dd_le (w := w) r t p0 p1 (i - 1) j
              refine e_iload dX7_trace_139 rfl ?_
              refine e_aload_n dX7_trace_141 rfl rfl ?_
              refine m_get 7 3 lf_X7_23 dX7_trace_142 (ly_171 B _ _) rfl ?_
              refine e_iload_n dX7_trace_145 rfl rfl ?_
              refine e_iconst (v := nI 1) dX7_trace_146 (by decide) ?_
              refine e_isub dX7_trace_147 ?_
              refine e_top (w := nI (i - 1)) (pk_sub (by omega)) ?_
              refine m_aald (r := 177 + (i - 1)) (i - 1) dX7_trace_148 (by decide) rfl (ly_176 B _ _) (rfl) (by omega) (by decide) (if_pos (by omega)) ?_
              refine e_iload_n dX7_trace_149 rfl rfl ?_
              refine m_iald (j) dX7_trace_150 (ly_le B _ _ (i := (i - 1)) (by omega)) (rfl) (by omega) (by decide) ?_
              refine e_top (w := nI (dd p w r t (i - 1) j)) (H' (i - 1) j (by omega) h2) ?_
              refine e_aload_n dX7_trace_151 rfl rfl ?_
              refine m_get 7 0 lf_X7_37 dX7_trace_152 (ly_171 B _ _) rfl ?_
              refine m_get 3 0 lf_X7_82 dX7_trace_155 (ly_3 B _ _) rfl ?_
              refine e_iconst (v := nI 1) dX7_trace_158 (by decide) ?_
              refine m_iald (1) dX7_trace_159 (ly_4 B _ _) (rfl) (by omega) (by decide) ?_
              refine e_top (w := nI (p 1)) (hp'.1 1 (by omega)) ?_
              refine e_iadd dX7_trace_160 ?_
              refine e_top (w := nI ((dd p w r t (i - 1) j) + (p 1))) (nI_add _ _) ?_
              refine n_icmp_ne 176 dX7_trace_161 (by decide) (by omega) (by omega) (fun c5 => ?_) (fun c5 => ?_)
              · exact at176 c1 c2 (fun q => c5 q.2)
              · have e3 := ed_3 c1 c2 ⟨by omega, c5⟩
                rw [e3, List.length_cons] at hlen
                refine e_iinc (v := nI (i - 1)) dX7_trace_164 rfl (dec_nI (by decide) (by omega)) (by decide) rfl ?_
                refine e_aload_n dX7_trace_167 rfl rfl ?_
                refine e_iconst (v := nI 1) dX7_trace_168 (by decide) ?_
                refine e_iload_n dX7_trace_169 rfl rfl ?_
                refine m_callV (As := [_, _]) lc_X7_71 dX7_trace_170 (ly_171 B _ _) rfl rfl (by simp [Value.category]) (Nat.le_of_ble_eq_true rfl) (Nat.le_of_ble_eq_true rfl) ⟨Nat.le_of_ble_eq_true rfl, Nat.le_of_ble_eq_true rfl⟩ ⟨Nat.le_of_ble_eq_true rfl, Nat.le_of_ble_eq_true rfl⟩ (c_note m' (e := E.length) (a := 1) (b := i - 1) h5.1 (by omega)) (fun v9 m9 hp9 => ?_)
                obtain ⟨rfl, rfl⟩ := hp9
                refine e_goto 189 dX7_trace_173 (by decide) ?_
                exact noted (i - 1) j 1 (i - 1) (by omega) (by omega) h2 e3
          -- pc 100: two change places
          have at100 : ∀ (h1 : ¬ (0 < i ∧ 0 < j ∧ dd p w r t i j = dd p w r t (i - 1) (j - 1) + bc p w (r (i - 1)) (t (j - 1)))), mm_G l D kA B sz o 2 45 mX7_trace (P_tr m (ed p w r t n k)) 100 [some (.ref (B + 171)), some (.int (nI i)), some (.int (nI j)), some (.int (nI s)), some (.int (nI (dd p w r t i j)))] [] m' := by
            intro c1
            refine e_aload_n dX7_trace_100 rfl rfl ?_
            refine e_iload_n dX7_trace_101 rfl rfl ?_
            refine e_iload_n dX7_trace_102 rfl rfl ?_
            refine m_callV (As := [_, _]) lc_X7_75 dX7_trace_103 (ly_171 B _ _) rfl rfl (by simp [Value.category]) (Nat.le_of_ble_eq_true rfl) (Nat.le_of_ble_eq_true rfl) ⟨Nat.le_of_ble_eq_true rfl, Nat.le_of_ble_eq_true rfl⟩ ⟨Nat.le_of_ble_eq_true rfl, Nat.le_of_ble_eq_true rfl⟩ (c_mayChange2 m' hr' ht' h1 h2) (fun v9 m9 hp9 => ?_)
            obtain ⟨rfl, rfl⟩ := hp9
            by_cases hT : 1 < i ∧ 1 < j ∧ r (i - 2) = t (j - 1) ∧ r (i - 1) = t (j - 2)
            · rw [if_pos hT]
              refine e_if_eq 135 dX7_trace_106 (by decide) (fun hc => ?_) (fun hc => ?_)
              · exact absurd hc (by decide)
              · have d2 := dd_le (w := w) r t p0 p1 (i - 2) (j - 2)
                refine e_iload dX7_trace_109 rfl ?_
                refine e_aload_n dX7_trace_111 rfl rfl ?_
                refine e_iload_n dX7_trace_112 rfl rfl ?_
                refine e_iload_n dX7_trace_113 rfl rfl ?_
                refine m_callV (As := [_, _]) lc_X7_79 dX7_trace_114 (ly_171 B _ _) rfl rfl (by simp [Value.category]) (Nat.le_of_ble_eq_true rfl) (Nat.le_of_ble_eq_true rfl) ⟨Nat.le_of_ble_eq_true rfl, Nat.le_of_ble_eq_true rfl⟩ ⟨Nat.le_of_ble_eq_true rfl, Nat.le_of_ble_eq_true rfl⟩ (c_byChange m9 (i := i) (j := j) (by omega) (by omega) (by omega) (by omega)) (fun v9 m8 hp9 => ?_)
                obtain ⟨rfl, rfl⟩ := hp9
                refine e_top (w := nI (dd p w r t (i - 2) (j - 2) + p 3)) ((by rw [H' (i - 2) (j - 2) (by omega) (by omega), hp'.1 3 (by omega), nI_add])) ?_
                refine n_icmp_ne 135 dX7_trace_117 (by decide) (by omega) (by omega) (fun c5 => ?_) (fun c5 => ?_)
                · exact at135 c1 (fun q => c5 q.2)
                · have e2 := ed_2 c1 ⟨hT, c5⟩
                  rw [e2, List.length_cons] at hlen
                  refine e_iinc (v := nI (i - 2)) dX7_trace_120 rfl (dec_nI (by decide) (by omega)) (by decide) rfl ?_
                  refine e_iinc (v := nI (j - 2)) dX7_trace_123 rfl (dec_nI (by decide) (by omega)) (by decide) rfl ?_
                  refine e_aload_n dX7_trace_126 rfl rfl ?_
                  refine e_iconst (v := nI 3) dX7_trace_127 (by decide) ?_
                  refine e_iload_n dX7_trace_128 rfl rfl ?_
                  refine m_callV (As := [_, _]) lc_X7_71 dX7_trace_129 (ly_171 B _ _) rfl rfl (by simp [Value.category]) (Nat.le_of_ble_eq_true rfl) (Nat.le_of_ble_eq_true rfl) ⟨Nat.le_of_ble_eq_true rfl, Nat.le_of_ble_eq_true rfl⟩ ⟨Nat.le_of_ble_eq_true rfl, Nat.le_of_ble_eq_true rfl⟩ (c_note m8 (e := E.length) (a := 3) (b := i - 2) h5.1 (by omega)) (fun v9 m7 hp9 => ?_)
                  obtain ⟨rfl, rfl⟩ := hp9
                  refine e_goto 189 dX7_trace_132 (by decide) ?_
                  exact noted (i - 2) (j - 2) 3 (i - 2) (by omega) (by omega) (by omega) e2
            · rw [if_neg hT]
              refine e_if_eq 135 dX7_trace_106 (by decide) (fun hc => ?_) (fun hc => ?_)
              · exact at135 c1 (fun q => hT q.1)
              · exact absurd rfl hc
          -- pc 45: the last ones stand for each other
          refine e_iload_n dX7_trace_45 rfl rfl ?_
          refine n_if_le 100 dX7_trace_46 (by decide) (by omega) (fun c4 => ?_) (fun c4 => ?_)
          · exact at100 (fun q => by omega)
          · refine e_iload_n dX7_trace_49 rfl rfl ?_
            refine n_if_le 100 dX7_trace_50 (by decide) (by omega) (fun c5 => ?_) (fun c5 => ?_)
            · exact at100 (fun q => by omega)
            · obtain ⟨x1, x2⟩ := hr'.2.2 (i - 1) (by omega)
              obtain ⟨y1, y2⟩ := ht'.2.2 (j - 1) (by omega)
              have b9 := bc_le hp (r (i - 1)) (t (j - 1))
              have d2 := dd_le (w := w) r t p0 p1 (i - 1) (j - 1)
              refine e_iload dX7_trace_53 rfl ?_
              refine e_aload_n dX7_trace_55 rfl rfl ?_
              refine e_iload_n dX7_trace_56 rfl rfl ?_
              refine e_iload_n dX7_trace_57 rfl rfl ?_
              refine m_callV (As := [_, _]) lc_X7_65 dX7_trace_58 (ly_171 B _ _) rfl rfl (by simp [Value.category]) (Nat.le_of_ble_eq_true rfl) (Nat.le_of_ble_eq_true rfl) ⟨Nat.le_of_ble_eq_true rfl, Nat.le_of_ble_eq_true rfl⟩ ⟨Nat.le_of_ble_eq_true rfl, Nat.le_of_ble_eq_true rfl⟩ (c_byLast m' (i := i) (j := j) (by omega) (by omega) (by omega) (by omega) x2 y2 x1 y1) (fun v9 m9 hp9 => ?_)
              obtain ⟨rfl, rfl⟩ := hp9
              refine e_top (w := nI (dd p w r t (i - 1) (j - 1) + bc p w (r (i - 1)) (t (j - 1)))) ((by rw [bc_val hp' x2 y2, H' (i - 1) (j - 1) (by omega) (by omega), nI_add])) ?_
              refine n_icmp_ne 100 dX7_trace_61 (by decide) (by omega) (by omega) (fun c6 => ?_) (fun c6 => ?_)
              · exact at100 (fun q => c6 q.2.2)
              · have e1 := ed_1 ⟨by omega, by omega, c6⟩
                refine e_iinc (v := nI (i - 1)) dX7_trace_64 rfl (dec_nI (by decide) (by omega)) (by decide) rfl ?_
                refine e_iinc (v := nI (j - 1)) dX7_trace_67 rfl (dec_nI (by decide) (by omega)) (by decide) rfl ?_
                refine e_aload_n dX7_trace_70 rfl rfl ?_
                refine m_get 7 1 lf_X7_12 dX7_trace_71 (ly_171 B _ _) rfl ?_
                refine m_get 5 0 lf_X7_68 dX7_trace_74 (ly_172 B _ _) rfl ?_
                refine e_iload_n dX7_trace_77 rfl rfl ?_
                refine m_iald (i - 1) dX7_trace_78 (ly_173 B _ _) (rfl) (by omega) (by decide) ?_
                refine e_top (w := nI (r (i - 1))) (x1) ?_
                refine e_aload_n dX7_trace_79 rfl rfl ?_
                refine m_get 7 2 lf_X7_18 dX7_trace_80 (ly_171 B _ _) rfl ?_
                refine m_get 5 0 lf_X7_68 dX7_trace_83 (ly_174 B _ _) rfl ?_
                refine e_iload_n dX7_trace_86 rfl rfl ?_
                refine m_iald (j - 1) dX7_trace_87 (ly_175 B _ _) (rfl) (by omega) (by decide) ?_
                refine e_top (w := nI (t (j - 1))) (y1) ?_
                refine n_icmp_eq 189 dX7_trace_88 (by decide) (by omega) (by omega) (fun c7 => ?_) (fun c7 => ?_)
                · rw [if_pos c7, List.nil_append] at e1
                  exact tail (i - 1) (j - 1) m9 E (by omega) (by omega) (by omega) (by rw [← e1]; exact h4) h5 h6
                · rw [if_neg c7, List.singleton_append] at e1
                  rw [e1, List.length_cons] at hlen
                  refine e_aload_n dX7_trace_91 rfl rfl ?_
                  refine e_iconst (v := nI 2) dX7_trace_92 (by decide) ?_
                  refine e_iload_n dX7_trace_93 rfl rfl ?_
                  refine m_callV (As := [_, _]) lc_X7_71 dX7_trace_94 (ly_171 B _ _) rfl rfl (by simp [Value.category]) (Nat.le_of_ble_eq_true rfl) (Nat.le_of_ble_eq_true rfl) ⟨Nat.le_of_ble_eq_true rfl, Nat.le_of_ble_eq_true rfl⟩ ⟨Nat.le_of_ble_eq_true rfl, Nat.le_of_ble_eq_true rfl⟩ (c_note m9 (e := E.length) (a := 2) (b := i - 1) h5.1 (by omega)) (fun v9 m8 hp9 => ?_)
                  obtain ⟨rfl, rfl⟩ := hp9
                  refine e_goto 189 dX7_trace_97 (by decide) ?_
                  exact noted (i - 1) (j - 1) 2 (i - 1) (by omega) (by omega) (by omega) e1
  refine mm_F.of ?_
  refine e_aload_n dX7_trace_0 rfl rfl ?_
  refine e_iconst (v := nI 0) dX7_trace_1 (by decide) ?_
  refine m_puti 7 6 lp_X7_33 dX7_trace_2 (ly_171 B _ _) (Nat.le_of_ble_eq_true rfl) (ly_171 B _ _) rfl ?_
  refine e_aload_n dX7_trace_5 rfl rfl ?_
  refine m_get 7 1 lf_X7_12 dX7_trace_6 (ly_171 B _ _) rfl ?_
  refine m_get 5 1 lf_X7_48 dX7_trace_9 (ly_172 B _ _) rfl ?_
  refine e_top (w := nI n) ((wr_ne _ _ (Or.inl (by omega))).trans hr.1) ?_
  refine e_istore_n dX7_trace_12 rfl (by decide) rfl ?_
  refine e_aload_n dX7_trace_13 rfl rfl ?_
  refine m_get 7 2 lf_X7_18 dX7_trace_14 (ly_171 B _ _) rfl ?_
  refine m_get 5 1 lf_X7_48 dX7_trace_17 (ly_174 B _ _) rfl ?_
  refine e_top (w := nI k) ((wr_ne _ _ (Or.inl (by omega))).trans ht.1) ?_
  refine e_istore_n dX7_trace_20 rfl (by decide) rfl ?_
  refine e_iconst (v := nI 0) dX7_trace_21 (by decide) ?_
  refine e_istore_n dX7_trace_22 rfl (by decide) rfl ?_
  exact loop (n + k) n k 0 _ none [] (by omega) (by omega) (by omega) (by omega) rfl ⟨wr_same _ _ _ _, fun q x hq => by simp at hq⟩ (fun a h1 h2 h3 => wr_off _ _ h1)
end TRC
end
section
/-- the least of the first j, and 1000000 -/
def mx (f : Nat → Nat) : Nat → Nat
  | 0 => 1000000
  | j + 1 => min (mx f j) (f j)
theorem mx_le (f : Nat → Nat) : ∀ j, mx f j ≤ 1000000
  | 0 => Nat.le_refl _
  | j + 1 => by
    have := mx_le f j
    show min (mx f j) (f j) ≤ _
    omega
theorem mx_ext {f g : Nat → Nat} : ∀ j, (∀ i, i < j → f i = g i) → mx f j = mx g j
  | 0, _ => rfl
  | j + 1, h => by
    show min (mx f j) (f j) = min (mx g j) (g j)
    rw [mx_ext j (fun i hi => h i (by omega)), h j (by omega)]
section WRD
variable {l : Launch} {D : va_G} {kA : FieldType → ClassId} {B sz : Nat} {o : Int64}
set_option maxRecDepth 100000 in
/-- Table.leastOfBeginnings -/
theorem c_leastOf (m : mm_M) {n k : Nat} {f : Nat → Nat} (hn : m 172 1 = nI n) (hk : m 174 1 = nI k) (n12 : n ≤ 12) (k12 : k ≤ 12) (H : ∀ b, b ≤ k → m (177 + n) b = nI (f b) ∧ f b ≤ 1000000) : mm_F l D kA B sz o 1 21 mX7_leastOfBeginnings [.ref (B + 171)] m (fun v m' => m' = m ∧ v = some (.int (nI (mx f (k + 1))))) := by
  refine mm_F.of ?_
  refine e_ldc dX7_leastOfBeginnings_0 lk_X7_58 ?_
  refine e_istore_n dX7_leastOfBeginnings_2 rfl (by decide) rfl ?_
  refine e_iconst (v := nI 0) dX7_leastOfBeginnings_3 (by decide) ?_
  refine e_istore_n dX7_leastOfBeginnings_4 rfl (by decide) rfl ?_
  have loop : ∀ (d j : Nat), k + 1 - j = d → j ≤ k + 1 → mm_G l D kA B sz o 1 21 mX7_leastOfBeginnings (fun v m' => m' = m ∧ v = some (.int (nI (mx f (k + 1))))) 5 [some (.ref (B + 171)), some (.int (nI (mx f j))), some (.int (nI j))] [] m := by
    intro d
    induction d with
    | zero =>
      intro j hd hj
      refine e_iload_n dX7_leastOfBeginnings_5 rfl rfl ?_
      refine e_aload_n dX7_leastOfBeginnings_6 rfl rfl ?_
      refine m_get 7 2 lf_X7_18 dX7_leastOfBeginnings_7 (ly_171 B _ _) rfl ?_
      refine m_get 5 1 lf_X7_48 dX7_leastOfBeginnings_10 (ly_174 B _ _) rfl ?_
      refine e_top (w := nI k) (hk) ?_
      refine n_icmp_gt 41 dX7_leastOfBeginnings_13 (by decide) (by omega) (by omega) (fun hc => ?_) (fun hc => ?_)
      · refine e_iload_n dX7_leastOfBeginnings_41 rfl rfl ?_
        exact m_iret dX7_leastOfBeginnings_42 rfl (Nat.le_refl _) (Nat.le_refl _) (⟨rfl, by rw [show j = k + 1 by omega]⟩)
      · exact absurd hc (by omega)
    | succ d ih =>
      intro j hd hj
      refine e_iload_n dX7_leastOfBeginnings_5 rfl rfl ?_
      refine e_aload_n dX7_leastOfBeginnings_6 rfl rfl ?_
      refine m_get 7 2 lf_X7_18 dX7_leastOfBeginnings_7 (ly_171 B _ _) rfl ?_
      refine m_get 5 1 lf_X7_48 dX7_leastOfBeginnings_10 (ly_174 B _ _) rfl ?_
      refine e_top (w := nI k) (hk) ?_
      refine n_icmp_gt 41 dX7_leastOfBeginnings_13 (by decide) (by omega) (by omega) (fun hc => ?_) (fun hc => ?_)
      · exact absurd hc (by omega)
      · obtain ⟨a1, a2⟩ := H j (by omega)
        have a3 := mx_le f j
        refine e_iload_n dX7_leastOfBeginnings_16 rfl rfl ?_
        refine e_aload_n dX7_leastOfBeginnings_17 rfl rfl ?_
        refine m_get 7 3 lf_X7_23 dX7_leastOfBeginnings_18 (ly_171 B _ _) rfl ?_
        refine e_aload_n dX7_leastOfBeginnings_21 rfl rfl ?_
        refine m_get 7 1 lf_X7_12 dX7_leastOfBeginnings_22 (ly_171 B _ _) rfl ?_
        refine m_get 5 1 lf_X7_48 dX7_leastOfBeginnings_25 (ly_172 B _ _) rfl ?_
        refine e_top (w := nI n) (hn) ?_
        refine m_aald (r := 177 + n) (n) dX7_leastOfBeginnings_28 (by decide) rfl (ly_176 B _ _) (rfl) (by omega) (by decide) (if_pos (by omega)) ?_
        refine e_iload_n dX7_leastOfBeginnings_29 rfl rfl ?_
        refine m_iald (j) dX7_leastOfBeginnings_30 (ly_le B _ _ (i := n) (by omega)) (rfl) (by omega) (by decide) ?_
        refine e_top (w := nI (f j)) (a1) ?_
        refine e_min dX7_leastOfBeginnings_31 lm_X7_59 wm_s wm_i wm_c (Nat.le_of_ble_eq_true rfl) (Nat.le_of_ble_eq_true rfl) (Nat.le_of_ble_eq_true rfl) (Nat.le_of_ble_eq_true rfl) rfl ?_
        refine e_top (w := nI (min (mx f j) (f j))) (min_nI (by omega) (by omega)) ?_
        refine e_istore_n dX7_leastOfBeginnings_34 rfl (by decide) rfl ?_
        refine e_iinc (v := nI (j + 1)) dX7_leastOfBeginnings_35 rfl (nI_add _ _) (by decide) rfl ?_
        refine e_goto 5 dX7_leastOfBeginnings_38 (by decide) ?_
        exact ih (j + 1) (by omega) (by omega)
  exact loop (k + 1) 0 (by omega) (by omega)
set_option maxRecDepth 100000 in
theorem c_kindOf (m : mm_M) {E : List (Nat × Nat)} {k : Nat} (h : ed_at m E) (h2 : E.length ≤ 24) (hk : k < E.length) : mm_F l D kA B sz o 0 0 mX7_kindOfEdit [.ref (B + 171), .int (nI k)] m (fun v m' => m' = m ∧ v = some (.int (m 190 (E.length - 1 - k)))) := by
  refine mm_F.of ?_
  refine e_aload_n dX7_kindOfEdit_0 rfl rfl ?_
  refine m_get 7 4 lf_X7_26 dX7_kindOfEdit_1 (ly_171 B _ _) rfl ?_
  refine e_aload_n dX7_kindOfEdit_4 rfl rfl ?_
  refine m_get 7 6 lf_X7_33 dX7_kindOfEdit_5 (ly_171 B _ _) rfl ?_
  refine e_top (w := nI (E.length)) (h.1) ?_
  refine e_iconst (v := nI 1) dX7_kindOfEdit_8 (by decide) ?_
  refine e_isub dX7_kindOfEdit_9 ?_
  refine e_top (w := nI ((E.length) - 1)) (pk_sub (by omega)) ?_
  refine e_iload_n dX7_kindOfEdit_10 rfl rfl ?_
  refine e_isub dX7_kindOfEdit_11 ?_
  refine e_top (w := nI (((E.length) - 1) - k)) (pk_sub (by omega)) ?_
  refine m_iald (((E.length) - 1) - k) dX7_kindOfEdit_12 (ly_190 B _ _) (rfl) (by omega) (by decide) ?_
  exact m_iret dX7_kindOfEdit_13 rfl (Nat.le_refl _) (Nat.le_refl _) (⟨rfl, rfl⟩)
set_option maxRecDepth 100000 in
theorem c_placeOf (m : mm_M) {E : List (Nat × Nat)} {k : Nat} (h : ed_at m E) (h2 : E.length ≤ 24) (hk : k < E.length) : mm_F l D kA B sz o 0 0 mX7_placeOfEdit [.ref (B + 171), .int (nI k)] m (fun v m' => m' = m ∧ v = some (.int (m 191 (E.length - 1 - k)))) := by
  refine mm_F.of ?_
  refine e_aload_n dX7_placeOfEdit_0 rfl rfl ?_
  refine m_get 7 5 lf_X7_30 dX7_placeOfEdit_1 (ly_171 B _ _) rfl ?_
  refine e_aload_n dX7_placeOfEdit_4 rfl rfl ?_
  refine m_get 7 6 lf_X7_33 dX7_placeOfEdit_5 (ly_171 B _ _) rfl ?_
  refine e_top (w := nI (E.length)) (h.1) ?_
  refine e_iconst (v := nI 1) dX7_placeOfEdit_8 (by decide) ?_
  refine e_isub dX7_placeOfEdit_9 ?_
  refine e_top (w := nI ((E.length) - 1)) (pk_sub (by omega)) ?_
  refine e_iload_n dX7_placeOfEdit_10 rfl rfl ?_
  refine e_isub dX7_placeOfEdit_11 ?_
  refine e_top (w := nI (((E.length) - 1) - k)) (pk_sub (by omega)) ?_
  refine m_iald (((E.length) - 1) - k) dX7_placeOfEdit_12 (ly_191 B _ _) (rfl) (by omega) (by decide) ?_
  exact m_iret dX7_placeOfEdit_13 rfl (Nat.le_refl _) (Nat.le_refl _) (⟨rfl, rfl⟩)
set_option maxRecDepth 100000 in
/-- Words.has -/
theorem c_has (m : mm_M) {n : Nat} (hn : m 32 4 = nI n) (n60 : n ≤ 60) (x : Int32) : mm_F l D kA B sz o 0 0 mX8_has [.ref (B + 32), .int x] m (fun v m' => m' = m ∧ ((v = some (.int (nI 1)) ∧ ∃ q, q < n ∧ x = nI q) ∨ (v = some (.int (nI 0)) ∧ ∀ q, q < n → x ≠ nI q))) := by
  refine mm_F.of ?_
  refine e_iload_n dX8_has_0 rfl rfl ?_
  refine e_if_lt 16 dX8_has_1 (by decide) (fun hc => ?_) (fun hc => ?_)
  · refine e_iconst (v := nI 0) dX8_has_16 (by decide) ?_
    exact m_zret dX8_has_17 rfl (by first | rfl | decide | assumption) (Nat.le_refl _) (Nat.le_refl _) (⟨rfl, Or.inr ⟨rfl, fun q hq e => nI_pos (n := q) (by omega) (e ▸ hc)⟩⟩)
  · obtain ⟨q, q1, rfl⟩ := nI_of hc
    refine e_iload_n dX8_has_4 rfl rfl ?_
    refine e_aload_n dX8_has_5 rfl rfl ?_
    refine m_get 8 4 lf_X8_28 dX8_has_6 (ly_32 B _ _) rfl ?_
    refine e_top (w := nI n) (hn) ?_
    refine n_icmp_ge 16 dX8_has_9 (by decide) (by omega) (by omega) (fun h2 => ?_) (fun h2 => ?_)
    · refine e_iconst (v := nI 0) dX8_has_16 (by decide) ?_
      exact m_zret dX8_has_17 rfl (by first | rfl | decide | assumption) (Nat.le_refl _) (Nat.le_refl _) (⟨rfl, Or.inr ⟨rfl, fun z hz e => by have := (nI_eq q1 (by omega)).mp e; omega⟩⟩)
    · refine e_iconst (v := nI 1) dX8_has_12 (by decide) ?_
      refine e_goto 17 dX8_has_13 (by decide) ?_
      exact m_zret dX8_has_17 rfl (by first | rfl | decide | assumption) (Nat.le_refl _) (Nat.le_refl _) (⟨rfl, Or.inl ⟨rfl, q, by omega, rfl⟩⟩)
set_option maxRecDepth 100000 in
/-- Words.hasRow -/
theorem c_hasRow (m : mm_M) {n nn : Nat} {r : Nat → Nat} {wl : Nat → Nat} {wt : Nat → Nat → Nat} (hn : m 32 4 = nI nn) (n60 : nn ≤ 60) (hr : rw_at m 1 2 n r) (hw : ∀ i, i < nn → rw_at m (37 + 2 * i) (38 + 2 * i) (wl i) (wt i)) : mm_F l D kA B sz o 2 44 mX8_hasRow [.ref (B + 32), .ref (B + 1)] m (fun v m' => m' = m ∧ ((v = some (.int (nI 1)) ∧ ∃ q, q < nn ∧ sm (wl q) (wt q) n r) ∨ (v = some (.int (nI 0)) ∧ ∀ q, q < nn → ¬ sm (wl q) (wt q) n r))) := by
  refine mm_F.of ?_
  refine e_iconst (v := nI 0) dX8_hasRow_0 (by decide) ?_
  refine e_istore_n dX8_hasRow_1 rfl (by decide) rfl ?_
  have loop : ∀ (d i : Nat), nn - i = d → i ≤ nn → (∀ q, q < i → ¬ sm (wl q) (wt q) n r) → mm_G l D kA B sz o 2 44 mX8_hasRow (fun v m' => m' = m ∧ ((v = some (.int (nI 1)) ∧ ∃ q, q < nn ∧ sm (wl q) (wt q) n r) ∨ (v = some (.int (nI 0)) ∧ ∀ q, q < nn → ¬ sm (wl q) (wt q) n r))) 2 [some (.ref (B + 32)), some (.ref (B + 1)), some (.int (nI i))] [] m := by
    intro d
    induction d with
    | zero =>
      intro i hd hi he
      refine e_iload_n dX8_hasRow_2 rfl rfl ?_
      refine e_aload_n dX8_hasRow_3 rfl rfl ?_
      refine m_get 8 4 lf_X8_28 dX8_hasRow_4 (ly_32 B _ _) rfl ?_
      refine e_top (w := nI nn) (hn) ?_
      refine n_icmp_ge 31 dX8_hasRow_7 (by decide) (by omega) (by omega) (fun hc => ?_) (fun hc => ?_)
      · refine e_iconst (v := nI 0) dX8_hasRow_31 (by decide) ?_
        exact m_zret dX8_hasRow_32 rfl (by first | rfl | decide | assumption) (Nat.le_refl _) (Nat.le_refl _) (⟨rfl, Or.inr ⟨rfl, fun q hq => he q (by omega)⟩⟩)
      · exact absurd hc (by omega)
    | succ d ih =>
      intro i hd hi he
      refine e_iload_n dX8_hasRow_2 rfl rfl ?_
      refine e_aload_n dX8_hasRow_3 rfl rfl ?_
      refine m_get 8 4 lf_X8_28 dX8_hasRow_4 (ly_32 B _ _) rfl ?_
      refine e_top (w := nI nn) (hn) ?_
      refine n_icmp_ge 31 dX8_hasRow_7 (by decide) (by omega) (by omega) (fun hc => ?_) (fun hc => ?_)
      · exact absurd hc (by omega)
      · refine e_aload_n dX8_hasRow_10 rfl rfl ?_
        refine m_get 8 0 lf_X8_11 dX8_hasRow_11 (ly_32 B _ _) rfl ?_
        refine e_iload_n dX8_hasRow_14 rfl rfl ?_
        refine m_aald (r := 37 + 2 * i) (i) dX8_hasRow_15 (by decide) rfl (ly_33 B _ _) (rfl) (by omega) (by decide) (if_pos (by omega)) ?_
        refine e_aload_n dX8_hasRow_16 rfl rfl ?_
        refine m_callV (As := [_]) lc_X8_33 dX8_hasRow_17 (ly_wr B _ _ (i := i) (by omega)) rfl rfl (by simp [Value.category]) (Nat.le_of_ble_eq_true rfl) (Nat.le_of_ble_eq_true rfl) ⟨Nat.le_of_ble_eq_true rfl, Nat.le_of_ble_eq_true rfl⟩ ⟨Nat.le_of_ble_eq_true rfl, Nat.le_of_ble_eq_true rfl⟩ (c_compareWith m (isRow_w B (i := i) (by omega)) (isRow_1 B) (hw i (by omega)) hr) (fun v9 m9 hp9 => ?_)
        obtain ⟨rfl, x, rfl, x1, x2⟩ := hp9
        refine e_if_ne 25 dX8_hasRow_20 (by decide) (fun h2 => ?_) (fun h2 => ?_)
        · refine e_iinc (v := nI (i + 1)) dX8_hasRow_25 rfl (nI_add _ _) (by decide) rfl ?_
          refine e_goto 2 dX8_hasRow_28 (by decide) ?_
          exact ih (i + 1) (by omega) (by omega) (fun q hq => by
            by_cases e : q = i
            · subst e; exact fun z => h2 (x1.mpr z)
            · exact he q (by omega))
        · refine e_iconst (v := nI 1) dX8_hasRow_23 (by decide) ?_
          exact m_zret dX8_hasRow_24 rfl (by first | rfl | decide | assumption) (Nat.le_refl _) (Nat.le_refl _) (⟨rfl, Or.inl ⟨rfl, i, by omega, x1.mp h2⟩⟩)
  exact loop nn 0 (by omega) (by omega) (fun q hq => by omega)
set_option maxRecDepth 100000 in
/-- Words.rankOf: the place at which a word stands -/
theorem c_rankOf (m : mm_M) {nn q k : Nat} {f : Nat → Nat} (hn : m 32 4 = nI nn) (n60 : nn ≤ 60) (hf : ∀ i, i < nn → m 35 i = nI (f i) ∧ f i < nn) (hk : k < nn) (hq : f k = q) (hne : ∀ i, i < k → f i ≠ q) : mm_F l D kA B sz o 0 0 mX8_rankOf [.ref (B + 32), .int (nI q)] m (fun v m' => m' = m ∧ v = some (.int (nI k))) := by
  have q60 : q < nn := by rw [← hq]; exact (hf k hk).2
  refine mm_F.of ?_
  refine e_iconst (v := nI 0) dX8_rankOf_0 (by decide) ?_
  refine e_istore_n dX8_rankOf_1 rfl (by decide) rfl ?_
  refine e_iconst (v := nI 0) dX8_rankOf_2 (by decide) ?_
  refine e_istore_n dX8_rankOf_3 rfl (by decide) rfl ?_
  have loop : ∀ (d i : Nat), k - i = d → i ≤ k → mm_G l D kA B sz o 0 0 mX8_rankOf (fun v m' => m' = m ∧ v = some (.int (nI k))) 4 [some (.ref (B + 32)), some (.int (nI q)), some (.int (nI i)), some (.int (nI i))] [] m := by
    intro d
    induction d with
    | zero =>
      intro i hd hi
      have hik : i = k := by omega
      subst hik
      refine e_iload_n dX8_rankOf_4 rfl rfl ?_
      refine e_aload_n dX8_rankOf_5 rfl rfl ?_
      refine m_get 8 4 lf_X8_28 dX8_rankOf_6 (ly_32 B _ _) rfl ?_
      refine e_top (w := nI nn) (hn) ?_
      refine n_icmp_ge 31 dX8_rankOf_9 (by decide) (by omega) (by omega) (fun hc => ?_) (fun hc => ?_)
      · exact absurd hc (by omega)
      · refine e_aload_n dX8_rankOf_12 rfl rfl ?_
        refine m_get 8 2 lf_X8_21 dX8_rankOf_13 (ly_32 B _ _) rfl ?_
        refine e_iload_n dX8_rankOf_16 rfl rfl ?_
        refine m_iald (i) dX8_rankOf_17 (ly_35 B _ _) (rfl) (by omega) (by decide) ?_
        refine e_top (w := nI q) ((by rw [(hf i hk).1, hq])) ?_
        refine e_iload_n dX8_rankOf_18 rfl rfl ?_
        refine n_icmp_eq 31 dX8_rankOf_19 (by decide) (by omega) (by omega) (fun h2 => ?_) (fun h2 => ?_)
        · refine e_iload_n dX8_rankOf_31 rfl rfl ?_
          exact m_iret dX8_rankOf_32 rfl (Nat.le_refl _) (Nat.le_refl _) (⟨rfl, rfl⟩)
        · exact absurd rfl h2
    | succ d ih =>
      intro i hd hi
      obtain ⟨f1, f2⟩ := hf i (by omega)
      refine e_iload_n dX8_rankOf_4 rfl rfl ?_
      refine e_aload_n dX8_rankOf_5 rfl rfl ?_
      refine m_get 8 4 lf_X8_28 dX8_rankOf_6 (ly_32 B _ _) rfl ?_
      refine e_top (w := nI nn) (hn) ?_
      refine n_icmp_ge 31 dX8_rankOf_9 (by decide) (by omega) (by omega) (fun hc => ?_) (fun hc => ?_)
      · exact absurd hc (by omega)
      · refine e_aload_n dX8_rankOf_12 rfl rfl ?_
        refine m_get 8 2 lf_X8_21 dX8_rankOf_13 (ly_32 B _ _) rfl ?_
        refine e_iload_n dX8_rankOf_16 rfl rfl ?_
        refine m_iald (i) dX8_rankOf_17 (ly_35 B _ _) (rfl) (by omega) (by decide) ?_
        refine e_top (w := nI (f i)) (f1) ?_
        refine e_iload_n dX8_rankOf_18 rfl rfl ?_
        refine n_icmp_eq 31 dX8_rankOf_19 (by decide) (by omega) (by omega) (fun h2 => ?_) (fun h2 => ?_)
        · exact absurd h2 (hne i (by omega))
        · refine e_iinc (v := nI (i + 1)) dX8_rankOf_22 rfl (nI_add _ _) (by decide) rfl ?_
          refine e_iinc (v := nI (i + 1)) dX8_rankOf_25 rfl (nI_add _ _) (by decide) rfl ?_
          refine e_goto 4 dX8_rankOf_28 (by decide) ?_
          exact ih (i + 1) (by omega) (by omega)
  exact loop k 0 (by omega) (by omega)
/-- pairs as the arrays hold them -/
def pa_at (m : mm_M) (k : Nat) (pa : Nat → Nat → Bool) : Prop := ∀ a b, a < 60 → b < 60 → m k (a * 60 + b) = if pa a b then nI 1 else nI 0
theorem bool_nar (b : Bool) : narrow .boolean (.int (if b = true then nI 1 else nI 0)) = .int (if b = true then nI 1 else nI 0) := by cases b <;> rfl
theorem bool_nar2 (b : Bool) : vp_nar .boolean (if b = true then nI 1 else nI 0) = (if b = true then nI 1 else nI 0) := by cases b <;> rfl
set_option maxRecDepth 100000 in
/-- Words.isPair -/
theorem c_isPair (m : mm_M) {pa : Nat → Nat → Bool} {a b : Nat} (h : pa_at m 36 pa) (ha : a < 60) (hb : b < 60) : mm_F l D kA B sz o 0 0 mX8_isPair [.ref (B + 32), .int (nI a), .int (nI b)] m (fun v m' => m' = m ∧ v = some (.int (if pa a b then nI 1 else nI 0))) := by
  refine mm_F.of ?_
  refine e_aload_n dX8_isPair_0 rfl rfl ?_
  refine m_get 8 3 lf_X8_24 dX8_isPair_1 (ly_32 B _ _) rfl ?_
  refine e_iload_n dX8_isPair_4 rfl rfl ?_
  refine e_bipush (v := nI 60) dX8_isPair_5 (by decide) ?_
  refine e_imul dX8_isPair_7 ?_
  refine e_top (w := nI (a * 60)) (pk_mul _ _) ?_
  refine e_iload_n dX8_isPair_8 rfl rfl ?_
  refine e_iadd dX8_isPair_9 ?_
  refine e_top (w := nI ((a * 60) + b)) (nI_add _ _) ?_
  refine m_zald ((a * 60) + b) dX8_isPair_10 (ly_36 B _ _) (rfl) (by omega) (by decide) ?_
  refine e_top (w := if pa a b then nI 1 else nI 0) (h a b ha hb) ?_
  exact m_zret dX8_isPair_11 rfl (bool_nar _) (Nat.le_refl _) (Nat.le_refl _) ⟨rfl, rfl⟩
set_option maxRecDepth 100000 in
/-- Words.setPair -/
theorem c_setPair (m : mm_M) {pa : Nat → Nat → Bool} {a b : Nat} (on : Bool) (h : pa_at m 36 pa) (ha : a < 60) (hb : b < 60) : mm_F l D kA B sz o 1 22 mX8_setPair [.ref (B + 32), .int (nI a), .int (nI b), .int (if on then nI 1 else nI 0)] m (fun v m' => m' = wr m 36 (a * 60 + b) (if on then nI 1 else nI 0) ∧ v = some (.int (if pa a b = on then nI 0 else nI 1))) := by
  refine mm_F.of ?_
  refine e_aload_n dX8_setPair_0 rfl rfl ?_
  refine e_iload_n dX8_setPair_1 rfl rfl ?_
  refine e_iload_n dX8_setPair_2 rfl rfl ?_
  refine m_callV (As := [_, _]) lc_X8_41 dX8_setPair_3 (ly_32 B _ _) rfl rfl (by simp [Value.category]) (Nat.le_of_ble_eq_true rfl) (Nat.le_of_ble_eq_true rfl) ⟨Nat.le_of_ble_eq_true rfl, Nat.le_of_ble_eq_true rfl⟩ ⟨Nat.le_of_ble_eq_true rfl, Nat.le_of_ble_eq_true rfl⟩ (c_isPair m h ha hb) (fun v9 m9 hp9 => ?_)
  obtain ⟨rfl, rfl⟩ := hp9
  refine e_istore dX8_setPair_6 (by decide) rfl ?_
  refine e_aload_n dX8_setPair_8 rfl rfl ?_
  refine m_get 8 3 lf_X8_24 dX8_setPair_9 (ly_32 B _ _) rfl ?_
  refine e_iload_n dX8_setPair_12 rfl rfl ?_
  refine e_bipush (v := nI 60) dX8_setPair_13 (by decide) ?_
  refine e_imul dX8_setPair_15 ?_
  refine e_top (w := nI (a * 60)) (pk_mul _ _) ?_
  refine e_iload_n dX8_setPair_16 rfl rfl ?_
  refine e_iadd dX8_setPair_17 ?_
  refine e_top (w := nI ((a * 60) + b)) (nI_add _ _) ?_
  refine e_iload_n dX8_setPair_18 rfl rfl ?_
  refine m_zast (a * 60 + b) dX8_setPair_19 (fun m => ly_36 B m _) (rfl) (by omega) (by decide) (bool_nar2 on) ?_
  refine e_iload dX8_setPair_20 rfl ?_
  refine e_iload_n dX8_setPair_22 rfl rfl ?_
  refine e_icmp_eq 30 dX8_setPair_23 (by decide) (fun hc => ?_) (fun hc => ?_)
  · refine e_iconst (v := nI 0) dX8_setPair_30 (by decide) ?_
    exact m_zret dX8_setPair_31 rfl (by first | rfl | decide | assumption) (Nat.le_refl _) (Nat.le_refl _) (⟨rfl, by rw [if_pos (by cases h1 : pa a b <;> cases on <;> simp [h1] at hc ⊢ <;> exact absurd hc (by decide))]⟩)
  · refine e_iconst (v := nI 1) dX8_setPair_26 (by decide) ?_
    refine e_goto 31 dX8_setPair_27 (by decide) ?_
    exact m_zret dX8_setPair_31 rfl (by first | rfl | decide | assumption) (Nat.le_refl _) (Nat.le_refl _) (⟨rfl, by rw [if_neg (fun e => hc (by rw [e]))]⟩)
set_option maxRecDepth 100000 in
/-- Line.add -/
theorem c_Line_add (m : mm_M) {kn n : Nat} {r : Nat → Nat} (hk : m 157 1 = nI kn) (k6 : kn ≤ 6) (hr : rw_at m 1 2 n r) : mm_F l D kA B sz o 2 43 mX1_add [.ref (B + 157), .ref (B + 1)] m (fun v m' => if kn < 6 then v = some (.int (nI 1)) ∧ m' 157 1 = nI (kn + 1) ∧ rw_at m' (159 + 2 * kn) (160 + 2 * kn) n r ∧ (∀ a, a ≠ 157 → a ≠ 159 + 2 * kn → a ≠ 160 + 2 * kn → m' a = m a) else m' = m ∧ v = some (.int (nI 0))) := by
  refine mm_F.of ?_
  refine e_aload_n dX1_add_0 rfl rfl ?_
  refine m_get 1 1 lf_X1_17 dX1_add_1 (ly_157 B _ _) rfl ?_
  refine e_top (w := nI kn) (hk) ?_
  refine e_bipush (v := nI 6) dX1_add_4 (by decide) ?_
  refine n_icmp_lt 11 dX1_add_6 (by decide) (by omega) (by omega) (fun hc => ?_) (fun hc => ?_)
  · refine e_aload_n dX1_add_11 rfl rfl ?_
    refine m_get 1 0 lf_X1_11 dX1_add_12 (ly_157 B _ _) rfl ?_
    refine e_aload_n dX1_add_15 rfl rfl ?_
    refine m_get 1 1 lf_X1_17 dX1_add_16 (ly_157 B _ _) rfl ?_
    refine e_top (w := nI kn) (hk) ?_
    refine m_aald (r := 159 + 2 * kn) (kn) dX1_add_19 (by decide) rfl (ly_158 B _ _) (rfl) (by omega) (by decide) (if_pos (by omega)) ?_
    refine e_aload_n dX1_add_20 rfl rfl ?_
    refine m_callV (As := [_]) lc_X1_22 dX1_add_21 (ly_tr B _ _ (i := kn) (by omega)) rfl rfl (by simp [Value.category]) (Nat.le_of_ble_eq_true rfl) (Nat.le_of_ble_eq_true rfl) ⟨Nat.le_of_ble_eq_true rfl, Nat.le_of_ble_eq_true rfl⟩ ⟨Nat.le_of_ble_eq_true rfl, Nat.le_of_ble_eq_true rfl⟩ (c_copyOf m (isRow_t B (i := kn) (by omega)) (isRow_1 B) (by omega) (by omega) (by omega) (by omega) (by omega) hr.1 hr.2.1) (fun v9 m1 hp9 => ?_)
    obtain ⟨rfl, a1, a2, a3⟩ := hp9
    refine e_aload_n dX1_add_24 rfl rfl ?_
    refine e_dup dX1_add_25 rfl ?_
    refine m_get 1 1 lf_X1_17 dX1_add_26 (ly_157 B _ _) rfl ?_
    refine e_top (w := nI kn) ((by rw [a3 157 (by omega) (by omega)]; exact hk)) ?_
    refine e_iconst (v := nI 1) dX1_add_29 (by decide) ?_
    refine e_iadd dX1_add_30 ?_
    refine e_top (w := nI (kn + 1)) (nI_add _ _) ?_
    refine m_puti 1 1 lp_X1_17 dX1_add_31 (ly_157 B _ _) (Nat.le_of_ble_eq_true rfl) (ly_157 B _ _) rfl ?_
    refine e_iconst (v := nI 1) dX1_add_34 (by decide) ?_
    refine m_zret dX1_add_35 rfl rfl (Nat.le_refl _) (Nat.le_refl _) ?_
    rw [if_pos hc]
    refine ⟨rfl, wr_same _ _ _ _, ⟨by rw [wr_off _ _ (by omega)]; exact a1, hr.2.1, fun i hi => by rw [wr_off _ _ (by omega), a2 i hi]; exact hr.2.2 i hi⟩, fun a c1 c2 c3 => by rw [wr_off _ _ c1]; exact a3 a c2 c3⟩
  · refine e_iconst (v := nI 0) dX1_add_9 (by decide) ?_
    exact m_zret dX1_add_10 rfl (by first | rfl | decide | assumption) (Nat.le_refl _) (Nat.le_refl _) ((by rw [if_neg hc]; exact ⟨rfl, rfl⟩))
end WRD
end
section
/-- the ORDER: f lists the words, each once, what is first being ahead -/
def or_at (m : mm_M) (nn : Nat) (f wl : Nat → Nat) (wt : Nat → Nat → Nat) : Prop := (∀ i, i < nn → m 35 i = nI (f i) ∧ f i < nn) ∧ (∀ i j, i < j → j < nn → ah (wl (f i)) (wt (f i)) (wl (f j)) (wt (f j))) ∧ ∀ q, q < nn → ∃ k, k < nn ∧ f k = q
section WAD
variable {l : Launch} {D : va_G} {kA : FieldType → ClassId} {B sz : Nat} {o : Int64}
def P_wadd (m : mm_M) (nn n cn : Nat) (r wl : Nat → Nat) (wt : Nat → Nat → Nat) (v : Option Value) (m' : mm_M) : Prop := v = some (.int (nI nn)) ∧ m' 32 4 = nI (nn + 1) ∧ rw_at m' (37 + 2 * nn) (38 + 2 * nn) n r ∧ m' 34 nn = nI cn ∧ (∀ i, i ≠ nn → m' 34 i = m 34 i) ∧ (∃ f', or_at m' (nn + 1) f' (va_up wl nn n) (va_up wt nn r)) ∧ ∀ a, a ≠ 32 → a ≠ 34 → a ≠ 35 → a ≠ 37 + 2 * nn → a ≠ 38 + 2 * nn → m' a = m a
set_option maxRecDepth 100000 in
set_option maxHeartbeats 2000000 in
/-- Words.add -/
theorem c_Words_add (m : mm_M) {nn n cn : Nat} {r f wl : Nat → Nat} {wt : Nat → Nat → Nat} (hn : m 32 4 = nI nn) (n60 : nn < 60) (hr : rw_at m 1 2 n r) (hw : ∀ i, i < nn → rw_at m (37 + 2 * i) (38 + 2 * i) (wl i) (wt i)) (ho : or_at m nn f wl wt) (hd0 : ∀ q, q < nn → ¬ sm (wl q) (wt q) n r) : mm_F l D kA B sz o 2 44 mX8_add [.ref (B + 32), .ref (B + 1), .int (nI cn)] m (P_wadd m nn n cn r wl wt) := by
  obtain ⟨o1, o2, o3⟩ := ho
  refine mm_F.of ?_
  refine e_aload_n dX8_add_0 rfl rfl ?_
  refine m_get 8 4 lf_X8_28 dX8_add_1 (ly_32 B _ _) rfl ?_
  refine e_top (w := nI nn) (hn) ?_
  refine e_istore_n dX8_add_4 rfl (by decide) rfl ?_
  refine e_aload_n dX8_add_5 rfl rfl ?_
  refine m_get 8 0 lf_X8_11 dX8_add_6 (ly_32 B _ _) rfl ?_
  refine e_iload_n dX8_add_9 rfl rfl ?_
  refine m_aald (r := 37 + 2 * nn) (nn) dX8_add_10 (by decide) rfl (ly_33 B _ _) (rfl) (by omega) (by decide) (if_pos (by omega)) ?_
  refine e_aload_n dX8_add_11 rfl rfl ?_
  refine m_callV (As := [_]) lc_X8_37 dX8_add_12 (ly_wr B _ _ (i := nn) (by omega)) rfl rfl (by simp [Value.category]) (Nat.le_of_ble_eq_true rfl) (Nat.le_of_ble_eq_true rfl) ⟨Nat.le_of_ble_eq_true rfl, Nat.le_of_ble_eq_true rfl⟩ ⟨Nat.le_of_ble_eq_true rfl, Nat.le_of_ble_eq_true rfl⟩ (c_copyOf m (isRow_w B (i := nn) n60) (isRow_1 B) (by omega) (by omega) (by omega) (by omega) (by omega) hr.1 hr.2.1) (fun v9 m1 hp9 => ?_)
  obtain ⟨rfl, a1, a2, a3⟩ := hp9
  refine e_aload_n dX8_add_15 rfl rfl ?_
  refine m_get 8 1 lf_X8_17 dX8_add_16 (ly_32 B _ _) rfl ?_
  refine e_iload_n dX8_add_19 rfl rfl ?_
  refine e_iload_n dX8_add_20 rfl rfl ?_
  refine m_iast (nn) dX8_add_21 (fun m => ly_34 B m _) (rfl) (by omega) (by decide) ?_
  refine e_aload_n dX8_add_22 rfl rfl ?_
  refine m_get 8 4 lf_X8_28 dX8_add_23 (ly_32 B _ _) rfl ?_
  refine e_top (w := nI nn) (by rw [wr_off _ _ (by omega), a3 32 (by omega) (by omega)]; exact hn) ?_
  refine e_istore dX8_add_26 (by decide) rfl ?_
  have fin : ∀ (c : Nat) (m2 : mm_M), c ≤ nn → (∀ i, i < c → m2 35 i = m 35 i) → (∀ i, c < i → i ≤ nn → m2 35 i = nI (f (i - 1))) → (∀ i, c ≤ i → i < nn → ah n r (wl (f i)) (wt (f i))) → (0 < c → ah (wl (f (c - 1))) (wt (f (c - 1))) n r) → (∀ a, a ≠ 35 → m2 a = wr m1 34 nn (nI cn) a) → mm_G l D kA B sz o 2 44 mX8_add (P_wadd m nn n cn r wl wt) 76 [some (.ref (B + 32)), some (.ref (B + 1)), some (.int (nI cn)), some (.int (nI nn)), some (.int (nI c))] [] m2 := by
    intro c m2 c1 c2 c3 c4 c5 c6
    refine e_aload_n dX8_add_76 rfl rfl ?_
    refine m_get 8 2 lf_X8_21 dX8_add_77 (ly_32 B _ _) rfl ?_
    refine e_iload dX8_add_80 rfl ?_
    refine e_iload_n dX8_add_82 rfl rfl ?_
    refine m_iast (c) dX8_add_83 (fun m => ly_35 B m _) (rfl) (by omega) (by decide) ?_
    refine e_aload_n dX8_add_84 rfl rfl ?_
    refine e_dup dX8_add_85 rfl ?_
    refine m_get 8 4 lf_X8_28 dX8_add_86 (ly_32 B _ _) rfl ?_
    refine e_top (w := nI nn) (by rw [wr_off _ _ (by omega), c6 32 (by omega), wr_off _ _ (by omega), a3 32 (by omega) (by omega)]; exact hn) ?_
    refine e_iconst (v := nI 1) dX8_add_89 (by decide) ?_
    refine e_iadd dX8_add_90 ?_
    refine e_top (w := nI (nn + 1)) (nI_add _ _) ?_
    refine m_puti 8 4 lp_X8_28 dX8_add_91 (ly_32 B _ _) (Nat.le_of_ble_eq_true rfl) (ly_32 B _ _) rfl ?_
    refine e_iload_n dX8_add_94 rfl rfl ?_
    refine m_iret dX8_add_95 rfl (Nat.le_refl _) (Nat.le_refl _) ?_
    have hoff : ∀ a, a ≠ 32 → a ≠ 35 → wr (wr m2 35 c (nI nn)) 32 4 (nI (nn + 1)) a = wr m1 34 nn (nI cn) a := fun a h1 h2 => by rw [wr_off _ _ h1, wr_off _ _ h2]; exact c6 a h2
    refine ⟨rfl, wr_same _ _ _ _, ⟨?_, hr.2.1, fun i hi => ?_⟩, ?_, fun i hi => ?_, ?_, fun a h1 h2 h3 h4 h5 => ?_⟩
    · rw [hoff _ (by omega) (by omega), wr_off _ _ (by omega)]; exact a1
    · rw [hoff _ (by omega) (by omega), wr_off _ _ (by omega), a2 i hi]; exact hr.2.2 i hi
    · rw [hoff _ (by omega) (by omega), wr_same]
    · rw [hoff _ (by omega) (by omega), wr_ne _ _ (Or.inr hi), a3 34 (by omega) (by omega)]
    · have hm : ∀ i, wr (wr m2 35 c (nI nn)) 32 4 (nI (nn + 1)) 35 i = if i = c then nI nn else m2 35 i := fun i => by
        rw [wr_off _ _ (show (35 : Nat) ≠ 32 by omega)]
        by_cases e : i = c
        · rw [e, wr_same, if_pos rfl]
        · rw [wr_ne _ _ (Or.inr e), if_neg e]
      refine ⟨fun i => if i < c then f i else if i = c then nn else f (i - 1), ⟨fun i hi => ?_, fun i j hij hj => ?_, fun q hq => ?_⟩⟩
      · rw [hm]
        dsimp only
        by_cases e1 : i < c
        · rw [if_neg (by omega), if_pos e1, c2 i e1]
          have := o1 i (by omega)
          exact ⟨this.1, by omega⟩
        · rw [if_neg e1]
          by_cases e2 : i = c
          · rw [if_pos e2, if_pos e2]; exact ⟨rfl, by omega⟩
          · rw [if_neg e2, if_neg e2, c3 i (by omega) (by omega)]
            have := o1 (i - 1) (by omega)
            exact ⟨rfl, by omega⟩
      · have fl : ∀ i, i < nn → f i ≠ nn := fun i hi => by have := (o1 i hi).2; omega
        dsimp only
        by_cases e1 : i < c
        · rw [if_pos e1, va_up_ne _ _ (fl i (by omega)), va_up_ne _ _ (fl i (by omega))]
          by_cases e2 : j < c
          · rw [if_pos e2, va_up_ne _ _ (fl j (by omega)), va_up_ne _ _ (fl j (by omega))]
            exact o2 i j hij (by omega)
          · rw [if_neg e2]
            by_cases e3 : j = c
            · rw [if_pos e3, va_up_self, va_up_self]
              by_cases e4 : i = c - 1
              · rw [e4]; exact c5 (by omega)
              · exact ah_trans (o2 i (c - 1) (by omega) (by omega)) (c5 (by omega))
            · rw [if_neg e3, va_up_ne _ _ (fl (j - 1) (by omega)), va_up_ne _ _ (fl (j - 1) (by omega))]
              exact o2 i (j - 1) (by omega) (by omega)
        · rw [if_neg e1, if_neg (show ¬ j < c by omega), if_neg (show ¬ j = c by omega), va_up_ne _ _ (fl (j - 1) (by omega)), va_up_ne _ _ (fl (j - 1) (by omega))]
          by_cases e2 : i = c
          · rw [if_pos e2, va_up_self, va_up_self]
            exact c4 (j - 1) (by omega) (by omega)
          · rw [if_neg e2, va_up_ne _ _ (fl (i - 1) (by omega)), va_up_ne _ _ (fl (i - 1) (by omega))]
            exact o2 (i - 1) (j - 1) (by omega) (by omega)
      · by_cases e : q = nn
        · exact ⟨c, by omega, by dsimp only; rw [if_neg (by omega), if_pos rfl, e]⟩
        · obtain ⟨k, k1, k2⟩ := o3 q (by omega)
          by_cases e1 : k < c
          · exact ⟨k, by omega, by dsimp only; rw [if_pos e1]; exact k2⟩
          · exact ⟨k + 1, by omega, by dsimp only; rw [if_neg (by omega), if_neg (by omega), Nat.add_sub_cancel]; exact k2⟩
    · rw [hoff a h1 h3, wr_off _ _ h2]; exact a3 a h4 h5
  have loop : ∀ (c : Nat) (m2 : mm_M), c ≤ nn → (∀ i, i < c → m2 35 i = m 35 i) → (∀ i, c < i → i ≤ nn → m2 35 i = nI (f (i - 1))) → (∀ i, c ≤ i → i < nn → ah n r (wl (f i)) (wt (f i))) → (∀ a, a ≠ 35 → m2 a = wr m1 34 nn (nI cn) a) → mm_G l D kA B sz o 2 44 mX8_add (P_wadd m nn n cn r wl wt) 28 [some (.ref (B + 32)), some (.ref (B + 1)), some (.int (nI cn)), some (.int (nI nn)), some (.int (nI c))] [] m2 := by
    intro c
    induction c with
    | zero =>
      intro m2 c1 c2 c3 c4 c6
      refine e_iload dX8_add_28 rfl ?_
      refine n_if_le 76 dX8_add_30 (by decide) (by omega) (fun hc => ?_) (fun hc => ?_)
      · exact fin 0 m2 c1 c2 c3 c4 (fun h => by omega) c6
      · exact absurd (Nat.le_refl 0) hc
    | succ c ih =>
      intro m2 c1 c2 c3 c4 c6
      obtain ⟨g1, g2⟩ := o1 c (by omega)
      have f60 : f c < 60 := by omega
      have hrow : rw_at m2 (37 + 2 * (f c)) (38 + 2 * (f c)) (wl (f c)) (wt (f c)) := (hw (f c) g2).of (by rw [c6 _ (by omega), wr_off _ _ (by omega), a3 _ (by omega) (by omega)]) (by rw [c6 _ (by omega), wr_off _ _ (by omega), a3 _ (by omega) (by omega)])
      have htyp : rw_at m2 1 2 n r := hr.of (by rw [c6 _ (by omega), wr_off _ _ (by omega), a3 _ (by omega) (by omega)]) (by rw [c6 _ (by omega), wr_off _ _ (by omega), a3 _ (by omega) (by omega)])
      refine e_iload dX8_add_28 rfl ?_
      refine n_if_le 76 dX8_add_30 (by decide) (by omega) (fun hc => ?_) (fun hc => ?_)
      · exact absurd hc (by omega)
      · refine e_aload_n dX8_add_33 rfl rfl ?_
        refine e_aload_n dX8_add_34 rfl rfl ?_
        refine m_get 8 0 lf_X8_11 dX8_add_35 (ly_32 B _ _) rfl ?_
        refine e_aload_n dX8_add_38 rfl rfl ?_
        refine m_get 8 2 lf_X8_21 dX8_add_39 (ly_32 B _ _) rfl ?_
        refine e_iload dX8_add_42 rfl ?_
        refine e_iconst (v := nI 1) dX8_add_44 (by decide) ?_
        refine e_isub dX8_add_45 ?_
        refine e_top (w := nI ((c + 1) - 1)) (pk_sub (by omega)) ?_
        refine m_iald ((c + 1) - 1) dX8_add_46 (ly_35 B _ _) (rfl) (by omega) (by decide) ?_
        refine e_top (w := nI (f c)) ((by rw [Nat.add_sub_cancel, c2 c (by omega)]; exact g1)) ?_
        refine m_aald (r := 37 + 2 * (f c)) (f c) dX8_add_47 (by decide) rfl (ly_33 B _ _) (rfl) (by omega) (by decide) (if_pos (by omega)) ?_
        refine m_callV (As := [_]) lc_X8_33 dX8_add_48 (ly_1 B _ _) rfl rfl (by simp [Value.category]) (Nat.le_of_ble_eq_true rfl) (Nat.le_of_ble_eq_true rfl) ⟨Nat.le_of_ble_eq_true rfl, Nat.le_of_ble_eq_true rfl⟩ ⟨Nat.le_of_ble_eq_true rfl, Nat.le_of_ble_eq_true rfl⟩ (c_compareWith m2 (isRow_1 B) (isRow_w B f60) htyp hrow) (fun v9 m9 hp9 => ?_)
        obtain ⟨rfl, x, rfl, x1, x2⟩ := hp9
        refine e_if_ge 76 dX8_add_51 (by decide) (fun h2 => ?_) (fun h2 => ?_)
        · refine fin (c + 1) m9 c1 c2 c3 c4 (fun _ => ?_) c6
          rw [Nat.add_sub_cancel]
          rcases ah_tri n r (wl (f c)) (wt (f c)) with q | q | q
          · exact absurd (x2.mpr q) (Int32.not_lt.mpr h2)
          · exact absurd ⟨q.1.symm, fun i hi => (q.2 i (by rw [q.1]; exact hi)).symm⟩ (hd0 (f c) g2)
          · exact q
        · refine e_aload_n dX8_add_54 rfl rfl ?_
          refine m_get 8 2 lf_X8_21 dX8_add_55 (ly_32 B _ _) rfl ?_
          refine e_iload dX8_add_58 rfl ?_
          refine e_aload_n dX8_add_60 rfl rfl ?_
          refine m_get 8 2 lf_X8_21 dX8_add_61 (ly_32 B _ _) rfl ?_
          refine e_iload dX8_add_64 rfl ?_
          refine e_iconst (v := nI 1) dX8_add_66 (by decide) ?_
          refine e_isub dX8_add_67 ?_
          refine e_top (w := nI ((c + 1) - 1)) (pk_sub (by omega)) ?_
          refine m_iald ((c + 1) - 1) dX8_add_68 (ly_35 B _ _) (rfl) (by omega) (by decide) ?_
          refine e_top (w := nI (f c)) ((by rw [Nat.add_sub_cancel, c2 c (by omega)]; exact g1)) ?_
          refine m_iast (c + 1) dX8_add_69 (fun m => ly_35 B m _) (rfl) (by omega) (by decide) ?_
          refine e_iinc (v := nI (c + 1 - 1)) dX8_add_70 rfl (dec_nI (by decide) (by omega)) (by decide) rfl ?_
          refine e_goto 28 dX8_add_73 (by decide) ?_
          refine ih _ (by omega) (fun i hi => ?_) (fun i h1 h3 => ?_) (fun i h1 h3 => ?_) (fun a ha => by rw [wr_off _ _ ha]; exact c6 a ha)
          · rw [wr_ne _ _ (Or.inr (by omega))]; exact c2 i (by omega)
          · by_cases e : i = c + 1
            · rw [e, wr_same, Nat.add_sub_cancel]
            · rw [wr_ne _ _ (Or.inr e)]; exact c3 i (by omega) h3
          · by_cases e : i = c
            · rw [e]; exact x2.mp (Int32.not_le.mp h2)
            · exact c4 i (by omega) h3
  exact loop nn _ (Nat.le_refl _) (fun i hi => by rw [wr_off _ _ (by omega), a3 35 (by omega) (by omega)]) (fun i h1 h2 => by omega) (fun i h1 h2 => by omega) (fun a ha => rfl)
end WAD
end
section
/-! THE STATE: what is typed, the words, the prices, the pairs, the line -/
abbrev sp_S : Type := (Nat × (Nat → Nat)) × (Nat × (Nat → Nat) × (Nat → Nat → Nat) × (Nat → Nat)) × ((Nat → Nat) × (Nat → Nat → Nat)) × (Nat → Nat → Bool) × (Nat × (Nat → Nat) × (Nat → Nat → Nat))
def tn (S : sp_S) : Nat := S.1.1
def tl (S : sp_S) : Nat → Nat := S.1.2
def wn (S : sp_S) : Nat := S.2.1.1
def wl (S : sp_S) : Nat → Nat := S.2.1.2.1
def wt (S : sp_S) : Nat → Nat → Nat := S.2.1.2.2.1
def wc (S : sp_S) : Nat → Nat := S.2.1.2.2.2
def pp (S : sp_S) : Nat → Nat := S.2.2.1.1
def ww (S : sp_S) : Nat → Nat → Nat := S.2.2.1.2
def pa (S : sp_S) : Nat → Nat → Bool := S.2.2.2.1
def kn (S : sp_S) : Nat := S.2.2.2.2.1
def kl (S : sp_S) : Nat → Nat := S.2.2.2.2.2.1
def kt (S : sp_S) : Nat → Nat → Nat := S.2.2.2.2.2.2
/-- word a is ahead of word b in ORDER -/
def wa (S : sp_S) (a b : Nat) : Prop := ah (wl S a) (wt S a) (wl S b) (wt S b)
/-- what the state itself keeps to -/
def ok (S : sp_S) : Prop := tn S ≤ 12 ∧ (∀ i, i < tn S → tl S i < 26) ∧ wn S ≤ 60 ∧ (∀ q, q < wn S → 1 ≤ wl S q ∧ wl S q ≤ 12 ∧ (∀ i, i < wl S q → wt S q i < 26) ∧ 1 ≤ wc S q ∧ wc S q ≤ 1000) ∧ (∀ a b, a < wn S → b < wn S → sm (wl S a) (wt S a) (wl S b) (wt S b) → a = b) ∧ (∀ k, k < 4 → pp S k ≤ 9) ∧ pp S 4 ≤ 50 ∧ pp S 5 ≤ 50 ∧ (∀ a b, ww S a b ≤ 10) ∧ kn S ≤ 6 ∧ ∀ q, q < kn S → 1 ≤ kl S q ∧ kl S q ≤ 12 ∧ ∀ i, i < kl S q → kt S q i < 26
/-- the class's own numbers hold the state -/
def cs (m : mm_M) (S : sp_S) : Prop := ok S ∧ rw_at m 1 2 (tn S) (tl S) ∧ pr_at m (pp S) (ww S) ∧ m 32 4 = nI (wn S) ∧ (∀ q, q < wn S → rw_at m (37 + 2 * q) (38 + 2 * q) (wl S q) (wt S q) ∧ m 34 q = nI (wc S q)) ∧ (∃ f, or_at m (wn S) f (wl S) (wt S)) ∧ pa_at m 36 (pa S) ∧ m 157 1 = nI (kn S) ∧ ∀ q, q < kn S → rw_at m (159 + 2 * q) (160 + 2 * q) (kl S q) (kt S q)
theorem or_at.of {m m' : mm_M} {nn : Nat} {f wl : Nat → Nat} {wt : Nat → Nat → Nat} (h : or_at m nn f wl wt) (h1 : m' 35 = m 35) : or_at m' nn f wl wt := by
  obtain ⟨a, b, c⟩ := h
  exact ⟨fun i hi => by rw [h1]; exact a i hi, b, c⟩
theorem cs.of {m m' : mm_M} {S : sp_S} (h : cs m S) (h1 : ∀ a, a < 171 → m' a = m a) : cs m' S := by
  obtain ⟨a1, a2, a3, a4, a5, ⟨f, a6⟩, a7, a8, a9⟩ := h
  have n60 := a1.2.2.1
  have k6 := a1.2.2.2.2.2.2.2.2.2.1
  exact ⟨a1, a2.of (h1 1 (by omega)) (h1 2 (by omega)), a3.of (fun a _ _ => h1 a (by omega)), by rw [h1 32 (by omega)]; exact a4, fun q hq => ⟨(a5 q hq).1.of (h1 _ (by omega)) (h1 _ (by omega)), by rw [h1 34 (by omega)]; exact (a5 q hq).2⟩, ⟨f, a6.of (h1 35 (by omega))⟩, fun a b ha hb => by rw [h1 36 (by omega)]; exact a7 a b ha hb, by rw [h1 157 (by omega)]; exact a8, fun q hq => (a9 q hq).of (h1 _ (by omega)) (h1 _ (by omega))⟩
/-- nothing of the class's state and nothing of the reference's is another -/
def fr (m m' : mm_M) : Prop := ∀ a, a < 171 ∨ 226 ≤ a → m' a = m a
theorem fr.rf (m : mm_M) : fr m m := fun _ _ => rfl
theorem fr.tr {m m1 m2 : mm_M} (h : fr m m1) (h2 : fr m1 m2) : fr m m2 := fun a ha => (h2 a ha).trans (h a ha)
theorem fr.cs {m m' : mm_M} {S : sp_S} (h : fr m m') (hc : cs m S) : cs m' S := hc.of (fun a ha => h a (Or.inl ha))
/-- DISTANCE of what is typed to a word; to a beginning of it -/
def ds (S : sp_S) (q : Nat) : Nat := dd (pp S) (ww S) (tl S) (wt S q) (tn S) (wl S q)
def bg (S : sp_S) (q : Nat) : Nat := mx (fun j => dd (pp S) (ww S) (tl S) (wt S q) (tn S) j) (wl S q + 1)
theorem ds_le {S : sp_S} (h : ok S) {q : Nat} (hq : q < wn S) : ds S q ≤ 216 := by
  have h1 := dd_le (w := ww S) (tl S) (wt S q) (h.2.2.2.2.2.1 0 (by omega)) (h.2.2.2.2.2.1 1 (by omega)) (tn S) (wl S q)
  have := h.1
  have := (h.2.2.2.1 q hq).2.1
  unfold ds
  omega
theorem mx_lt {f : Nat → Nat} : ∀ {j i : Nat}, i < j → mx f j ≤ f i
  | j + 1, i, h => by
    show min (mx f j) (f j) ≤ _
    by_cases e : i = j
    · rw [e]; omega
    · have := mx_lt (f := f) (j := j) (i := i) (by omega)
      omega
theorem bg_le {S : sp_S} (h : ok S) {q : Nat} (hq : q < wn S) : bg S q ≤ 216 := by
  have h1 := mx_lt (f := fun j => dd (pp S) (ww S) (tl S) (wt S q) (tn S) j) (j := wl S q + 1) (i := wl S q) (by omega)
  have := ds_le h hq
  unfold ds at this
  unfold bg
  omega
/-! rows in a strict order: there is but one -/
def so (bef : Nat → Nat → Prop) (n : Nat) (g : Nat → Nat) : Prop := ∀ i j, i < j → j < n → bef (g i) (g j)
theorem so_uniq {bef : Nat → Nat → Prop} (irr : ∀ a, ¬ bef a a) (asy : ∀ a b, bef a b → ¬ bef b a) {n1 n2 : Nat} {g1 g2 : Nat → Nat} (s1 : so bef n1 g1) (s2 : so bef n2 g2) (mem : ∀ x, (∃ q, q < n1 ∧ g1 q = x) ↔ ∃ q, q < n2 ∧ g2 q = x) : n1 = n2 ∧ ∀ q, q < n1 → g1 q = g2 q := by
  have inj : ∀ {n : Nat} {g : Nat → Nat}, so bef n g → ∀ i j, i < n → j < n → g i = g j → i = j := by
    intro n g s i j hi hj e
    rcases Nat.lt_trichotomy i j with c | c | c
    · exact absurd (e ▸ s i j c hj) (irr _)
    · exact c
    · exact absurd (e ▸ s j i c hi) (irr _)
  have key : ∀ q, (∀ i, i < q → i < n1 → i < n2 → g1 i = g2 i) → q < n1 → q < n2 → g1 q = g2 q := by
    intro q ih h1 h2
    obtain ⟨s, s3, s4⟩ := (mem (g1 q)).mp ⟨q, h1, rfl⟩
    obtain ⟨t, t3, t4⟩ := (mem (g2 q)).mpr ⟨q, h2, rfl⟩
    rcases Nat.lt_trichotomy s q with c | c | c
    · have := ih s c (by omega) s3
      have := inj s1 s q (by omega) h1 (by rw [this, s4])
      omega
    · rw [← s4, c]
    · rcases Nat.lt_trichotomy t q with d | d | d
      · have := ih t d t3 (by omega)
        have := inj s2 t q (by omega) h2 (by rw [← this, t4])
        omega
      · rw [← t4, d]
      · have b1 := s2 q s c s3
        have b2 := s1 q t d t3
        rw [s4] at b1
        rw [t4] at b2
        exact absurd b2 (asy _ _ b1)
  have all : ∀ q, q < n1 → q < n2 → g1 q = g2 q := by
    intro q
    induction q using Nat.strongRecOn with
    | ind q ih => exact fun h1 h2 => key q (fun i hi a b => ih i hi a b) h1 h2
  have hn : n1 = n2 := by
    rcases Nat.lt_trichotomy n1 n2 with c | c | c
    · obtain ⟨s, s3, s4⟩ := (mem (g2 n1)).mpr ⟨n1, c, rfl⟩
      have := inj s2 s n1 (by omega) c (by rw [← all s s3 (by omega), s4])
      omega
    · exact c
    · obtain ⟨s, s3, s4⟩ := (mem (g1 n2)).mp ⟨n2, c, rfl⟩
      have := inj s1 s n2 (by omega) c (by rw [all s (by omega) s3, s4])
      omega
  exact ⟨hn, fun q hq => all q hq (by omega)⟩
/-- which of two words stands first among SUGGESTIONS of the costs c -/
def bf (S : sp_S) (c : Nat → Nat) (a b : Nat) : Prop := c a < c b ∨ (c a = c b ∧ (wc S b < wc S a ∨ (wc S a = wc S b ∧ wa S a b)))
theorem bf_irr (S : sp_S) (c : Nat → Nat) (a : Nat) : ¬ bf S c a a := by
  rintro (h | ⟨-, h | ⟨-, h⟩⟩)
  · omega
  · omega
  · exact ah_irr h ⟨rfl, fun _ _ => rfl⟩
theorem bf_asy (S : sp_S) (c : Nat → Nat) (a b : Nat) (h1 : bf S c a b) : ¬ bf S c b a := by
  intro h2
  rcases h1 with h1 | ⟨h1, h3 | ⟨h3, h4⟩⟩ <;> rcases h2 with h2 | ⟨h2, h5 | ⟨h5, h6⟩⟩ <;> first | omega | exact ah_asym h4 h6
theorem bf_tr (S : sp_S) (c : Nat → Nat) {a b d : Nat} (h1 : bf S c a b) (h2 : bf S c b d) : bf S c a d := by
  unfold bf at *
  rcases h1 with h1 | ⟨h1, h3 | ⟨h3, h4⟩⟩ <;> rcases h2 with h2 | ⟨h2, h5 | ⟨h5, h6⟩⟩ <;> first | (left; omega) | (right; refine ⟨by omega, Or.inl (by omega)⟩) | (right; exact ⟨by omega, Or.inr ⟨by omega, ah_trans h4 h6⟩⟩)
theorem bf_tot (S : sp_S) (c : Nat → Nat) {a b : Nat} (hne : ¬ sm (wl S a) (wt S a) (wl S b) (wt S b)) : bf S c a b ∨ bf S c b a := by
  unfold bf wa
  rcases Nat.lt_trichotomy (c a) (c b) with h | h | h
  · exact Or.inl (Or.inl h)
  · rcases Nat.lt_trichotomy (wc S a) (wc S b) with g | g | g
    · exact Or.inr (Or.inr ⟨h.symm, Or.inl g⟩)
    · rcases ah_tri (wl S a) (wt S a) (wl S b) (wt S b) with e | e | e
      · exact Or.inl (Or.inr ⟨h, Or.inr ⟨g, e⟩⟩)
      · exact absurd e hne
      · exact Or.inr (Or.inr ⟨h.symm, Or.inr ⟨g.symm, e⟩⟩)
    · exact Or.inl (Or.inr ⟨h, Or.inl g⟩)
  · exact Or.inr (Or.inl h)
/-- SUGGESTIONS: all words within a limit, in their row -/
def sug (S : sp_S) (c : Nat → Nat) (lim n : Nat) (g : Nat → Nat) : Prop := so (bf S c) n g ∧ ∀ x, (∃ q, q < n ∧ g q = x) ↔ x < wn S ∧ c x ≤ lim
theorem sug_uniq {S : sp_S} {c : Nat → Nat} {lim n1 n2 : Nat} {g1 g2 : Nat → Nat} (h1 : sug S c lim n1 g1) (h2 : sug S c lim n2 g2) : n1 = n2 ∧ ∀ q, q < n1 → g1 q = g2 q := so_uniq (bf_irr S c) (bf_asy S c) h1.1 h2.1 (fun x => (h1.2 x).trans (h2.2 x).symm)
/-- a new one comes into the row at place i -/
def ins (g : Nat → Nat) (i x : Nat) : Nat → Nat := fun q => if q < i then g q else if q = i then x else g (q - 1)
theorem so_ins {bef : Nat → Nat → Prop} {n i x : Nat} {g : Nat → Nat} (s : so bef n g) (hi : i ≤ n) (h1 : ∀ q, q < i → bef (g q) x) (h2 : ∀ q, i ≤ q → q < n → bef x (g q)) : so bef (n + 1) (ins g i x) := by
  intro a b hab hb
  unfold ins
  by_cases e1 : a < i
  · rw [if_pos e1]
    by_cases e2 : b < i
    · rw [if_pos e2]; exact s a b hab (by omega)
    · rw [if_neg e2]
      by_cases e3 : b = i
      · rw [if_pos e3]; exact h1 a e1
      · rw [if_neg e3]; exact s a (b - 1) (by omega) (by omega)
  · rw [if_neg e1, if_neg (show ¬ b < i by omega), if_neg (show ¬ b = i by omega)]
    by_cases e3 : a = i
    · rw [if_pos e3]; exact h2 (b - 1) (by omega) (by omega)
    · rw [if_neg e3]; exact s (a - 1) (b - 1) (by omega) (by omega)
theorem ins_mem {n i x : Nat} {g : Nat → Nat} (hi : i ≤ n) (y : Nat) : (∃ q, q < n + 1 ∧ ins g i x q = y) ↔ (∃ q, q < n ∧ g q = y) ∨ y = x := by
  constructor
  · rintro ⟨q, h1, h2⟩
    unfold ins at h2
    by_cases e1 : q < i
    · rw [if_pos e1] at h2; exact Or.inl ⟨q, by omega, h2⟩
    · rw [if_neg e1] at h2
      by_cases e2 : q = i
      · rw [if_pos e2] at h2; exact Or.inr h2.symm
      · rw [if_neg e2] at h2; exact Or.inl ⟨q - 1, by omega, h2⟩
  · rintro (⟨q, h1, h2⟩ | h)
    · by_cases e1 : q < i
      · exact ⟨q, by omega, by unfold ins; rw [if_pos e1]; exact h2⟩
      · exact ⟨q + 1, by omega, by unfold ins; rw [if_neg (by omega), if_neg (by omega), Nat.add_sub_cancel]; exact h2⟩
    · exact ⟨i, by omega, by unfold ins; rw [if_neg (by omega), if_pos rfl, h]⟩
end
section
section RNK
variable {l : Launch} {D : va_G} {kA : FieldType → ClassId} {B sz : Nat} {o : Int64}
/-- only the table is another -/
def frT (m m' : mm_M) : Prop := ∀ a, a < 172 ∨ 190 ≤ a → m' a = m a
theorem frT.fr {m m' : mm_M} (h : frT m m') : fr m m' := fun a ha => h a (by omega)
def cst (S : sp_S) (b : Bool) (q : Nat) : Nat := if b then bg S q else ds S q
theorem cst_le {S : sp_S} (h : ok S) (b : Bool) {q : Nat} (hq : q < wn S) : cst S b q ≤ 216 := by
  cases b
  · exact ds_le h hq
  · exact bg_le h hq
set_option maxRecDepth 100000 in
/-- SuggestSpell.priceOfWord -/
theorem c_priceOfWord (m : mm_M) {S : sp_S} {q : Nat} (hc : cs m S) (hq : q < wn S) : mm_F l D kA B sz o 5 112 mX9_priceOfWord [.ref (B + 0), .int (nI q)] m (fun v m' => v = some (.int (nI (ds S q))) ∧ frT m m') := by
  have n60 := hc.1.2.2.1
  refine mm_F.of ?_
  refine e_aload_n dX9_priceOfWord_0 rfl rfl ?_
  refine m_get 9 4 lf_X9_42 dX9_priceOfWord_1 (ly_0 B _ _) rfl ?_
  refine e_aload_n dX9_priceOfWord_4 rfl rfl ?_
  refine m_get 9 0 lf_X9_10 dX9_priceOfWord_5 (ly_0 B _ _) rfl ?_
  refine e_aload_n dX9_priceOfWord_8 rfl rfl ?_
  refine m_get 9 2 lf_X9_26 dX9_priceOfWord_9 (ly_0 B _ _) rfl ?_
  refine m_get 8 0 lf_X9_98 dX9_priceOfWord_12 (ly_32 B _ _) rfl ?_
  refine e_iload_n dX9_priceOfWord_15 rfl rfl ?_
  refine m_aald (r := 37 + 2 * q) (q) dX9_priceOfWord_16 (by decide) rfl (ly_33 B _ _) (rfl) (by omega) (by decide) (if_pos (by omega)) ?_
  refine m_callV (As := [_, _]) lc_X9_188 dX9_priceOfWord_17 (ly_171 B _ _) rfl rfl (by simp [Value.category]) (Nat.le_of_ble_eq_true rfl) (Nat.le_of_ble_eq_true rfl) ⟨Nat.le_of_ble_eq_true rfl, Nat.le_of_ble_eq_true rfl⟩ ⟨Nat.le_of_ble_eq_true rfl, Nat.le_of_ble_eq_true rfl⟩ (c_measure m hc.2.2.1 (isRow_1 B) (isRow_w B (i := q) (by omega)) (by omega) (by omega) (by omega) (by omega) hc.2.1 (hc.2.2.2.2.1 q hq).1) (fun v9 m9 hp9 => ?_)
  obtain ⟨rfl, a1, a2, a3, a4⟩ := hp9
  exact m_iret dX9_priceOfWord_20 rfl (Nat.le_refl _) (Nat.le_refl _) (⟨rfl, a4⟩)
set_option maxRecDepth 100000 in
/-- SuggestSpell.priceOfBeginning -/
theorem c_priceOfBeginning (m : mm_M) {S : sp_S} {q : Nat} (hc : cs m S) (hq : q < wn S) : mm_F l D kA B sz o 5 112 mX9_priceOfBeginning [.ref (B + 0), .int (nI q)] m (fun v m' => v = some (.int (nI (bg S q))) ∧ frT m m') := by
  have n60 := hc.1.2.2.1
  have w12 := (hc.1.2.2.2.1 q hq).2.1
  have t12 := hc.1.1
  refine mm_F.of ?_
  refine e_aload_n dX9_priceOfBeginning_0 rfl rfl ?_
  refine m_get 9 4 lf_X9_42 dX9_priceOfBeginning_1 (ly_0 B _ _) rfl ?_
  refine e_aload_n dX9_priceOfBeginning_4 rfl rfl ?_
  refine m_get 9 0 lf_X9_10 dX9_priceOfBeginning_5 (ly_0 B _ _) rfl ?_
  refine e_aload_n dX9_priceOfBeginning_8 rfl rfl ?_
  refine m_get 9 2 lf_X9_26 dX9_priceOfBeginning_9 (ly_0 B _ _) rfl ?_
  refine m_get 8 0 lf_X9_98 dX9_priceOfBeginning_12 (ly_32 B _ _) rfl ?_
  refine e_iload_n dX9_priceOfBeginning_15 rfl rfl ?_
  refine m_aald (r := 37 + 2 * q) (q) dX9_priceOfBeginning_16 (by decide) rfl (ly_33 B _ _) (rfl) (by omega) (by decide) (if_pos (by omega)) ?_
  refine m_callV (As := [_, _]) lc_X9_188 dX9_priceOfBeginning_17 (ly_171 B _ _) rfl rfl (by simp [Value.category]) (Nat.le_of_ble_eq_true rfl) (Nat.le_of_ble_eq_true rfl) ⟨Nat.le_of_ble_eq_true rfl, Nat.le_of_ble_eq_true rfl⟩ ⟨Nat.le_of_ble_eq_true rfl, Nat.le_of_ble_eq_true rfl⟩ (c_measure m hc.2.2.1 (isRow_1 B) (isRow_w B (i := q) (by omega)) (by omega) (by omega) (by omega) (by omega) hc.2.1 (hc.2.2.2.2.1 q hq).1) (fun v9 m1 hp9 => ?_)
  obtain ⟨rfl, a1, a2, a3, a4⟩ := hp9
  refine e_pop dX9_priceOfBeginning_20 rfl ?_
  refine e_aload_n dX9_priceOfBeginning_21 rfl rfl ?_
  refine m_get 9 4 lf_X9_42 dX9_priceOfBeginning_22 (ly_0 B _ _) rfl ?_
  refine m_callV (As := []) lc_X9_191 dX9_priceOfBeginning_25 (ly_171 B _ _) rfl rfl (by simp [Value.category]) (Nat.le_of_ble_eq_true rfl) (Nat.le_of_ble_eq_true rfl) ⟨Nat.le_of_ble_eq_true rfl, Nat.le_of_ble_eq_true rfl⟩ ⟨Nat.le_of_ble_eq_true rfl, Nat.le_of_ble_eq_true rfl⟩ (c_leastOf m1 (f := fun j => dd (pp S) (ww S) (tl S) (wt S q) (tn S) j) a1.1 a2.1 t12 w12 (fun b hb => ⟨a3 _ b (Nat.le_refl _) hb, by have := dd_le (w := ww S) (tl S) (wt S q) (hc.1.2.2.2.2.2.1 0 (by omega)) (hc.1.2.2.2.2.2.1 1 (by omega)) (tn S) b; omega⟩)) (fun v9 m2 hp9 => ?_)
  obtain ⟨rfl, rfl⟩ := hp9
  exact m_iret dX9_priceOfBeginning_28 rfl (Nat.le_refl _) (Nat.le_refl _) (⟨rfl, a4⟩)
set_option maxRecDepth 100000 in
/-- SuggestSpell.findEdits -/
theorem c_findEdits (m : mm_M) {S : sp_S} {q : Nat} (hc : cs m S) (hq : q < wn S) : mm_F l D kA B sz o 5 112 mX9_findEdits [.ref (B + 0), .int (nI q)] m (fun v m' => v = none ∧ ed_at m' (ed (pp S) (ww S) (tl S) (wt S q) (tn S) (wl S q)) ∧ fr m m') := by
  have n60 := hc.1.2.2.1
  refine mm_F.of ?_
  refine e_aload_n dX9_findEdits_0 rfl rfl ?_
  refine m_get 9 4 lf_X9_42 dX9_findEdits_1 (ly_0 B _ _) rfl ?_
  refine e_aload_n dX9_findEdits_4 rfl rfl ?_
  refine m_get 9 0 lf_X9_10 dX9_findEdits_5 (ly_0 B _ _) rfl ?_
  refine e_aload_n dX9_findEdits_8 rfl rfl ?_
  refine m_get 9 2 lf_X9_26 dX9_findEdits_9 (ly_0 B _ _) rfl ?_
  refine m_get 8 0 lf_X9_98 dX9_findEdits_12 (ly_32 B _ _) rfl ?_
  refine e_iload_n dX9_findEdits_15 rfl rfl ?_
  refine m_aald (r := 37 + 2 * q) (q) dX9_findEdits_16 (by decide) rfl (ly_33 B _ _) (rfl) (by omega) (by decide) (if_pos (by omega)) ?_
  refine m_callV (As := [_, _]) lc_X9_188 dX9_findEdits_17 (ly_171 B _ _) rfl rfl (by simp [Value.category]) (Nat.le_of_ble_eq_true rfl) (Nat.le_of_ble_eq_true rfl) ⟨Nat.le_of_ble_eq_true rfl, Nat.le_of_ble_eq_true rfl⟩ ⟨Nat.le_of_ble_eq_true rfl, Nat.le_of_ble_eq_true rfl⟩ (c_measure m hc.2.2.1 (isRow_1 B) (isRow_w B (i := q) (by omega)) (by omega) (by omega) (by omega) (by omega) hc.2.1 (hc.2.2.2.2.1 q hq).1) (fun v9 m1 hp9 => ?_)
  obtain ⟨rfl, a1, a2, a3, a4⟩ := hp9
  refine e_pop dX9_findEdits_20 rfl ?_
  refine e_aload_n dX9_findEdits_21 rfl rfl ?_
  refine m_get 9 4 lf_X9_42 dX9_findEdits_22 (ly_0 B _ _) rfl ?_
  refine m_callV (As := []) lc_X9_195 dX9_findEdits_25 (ly_171 B _ _) rfl rfl (by simp [Value.category]) (Nat.le_of_ble_eq_true rfl) (Nat.le_of_ble_eq_true rfl) ⟨Nat.le_of_ble_eq_true rfl, Nat.le_of_ble_eq_true rfl⟩ ⟨Nat.le_of_ble_eq_true rfl, Nat.le_of_ble_eq_true rfl⟩ (c_trace m1 (hc.2.2.1.of (fun a h1 h2 => a4 a (by omega))) a1 a2 a3) (fun v9 m2 hp9 => ?_)
  obtain ⟨rfl, b1, b2⟩ := hp9
  exact m_vret dX9_findEdits_28 rfl (Nat.le_refl _) (Nat.le_refl _) (⟨rfl, b1, fun a ha => by rw [b2 a (by omega) (by omega) (by omega)]; exact a4 a (by omega)⟩)
/-- one in the ranking stands behind a new one -/
def bh (c n : Nat → Nat) (e x : Nat) : Prop := c x < c e ∨ (c e = c x ∧ n e < n x)
set_option maxRecDepth 100000 in
/-- Ranking.isBehind -/
theorem c_isBehind (m : mm_M) {i e x : Nat} {c n : Nat → Nat} (hi : i < 60) (h1 : m 194 i = nI (c e)) (h2 : m 195 i = nI (n e)) (b1 : c e ≤ 1000000) (b2 : n e ≤ 1000000) (b3 : c x ≤ 1000000) (b4 : n x ≤ 1000000) : mm_F l D kA B sz o 0 0 mX4_isBehind [.ref (B + 192), .int (nI i), .int (nI (c x)), .int (nI (n x))] m (fun v m' => m' = m ∧ ((v = some (.int (nI 1)) ∧ bh c n e x) ∨ (v = some (.int (nI 0)) ∧ ¬ bh c n e x))) := by
  refine mm_F.of ?_
  refine e_aload_n dX4_isBehind_0 rfl rfl ?_
  refine m_get 4 1 lf_X4_15 dX4_isBehind_1 (ly_192 B _ _) rfl ?_
  refine e_iload_n dX4_isBehind_4 rfl rfl ?_
  refine m_iald (i) dX4_isBehind_5 (ly_194 B _ _) (rfl) (by omega) (by decide) ?_
  refine e_top (w := nI (c e)) (h1) ?_
  refine e_iload_n dX4_isBehind_6 rfl rfl ?_
  refine n_icmp_gt 30 dX4_isBehind_7 (by decide) (by omega) (by omega) (fun g1 => ?_) (fun g1 => ?_)
  · refine e_iconst (v := nI 1) dX4_isBehind_30 (by decide) ?_
    refine e_goto 35 dX4_isBehind_31 (by decide) ?_
    exact m_zret dX4_isBehind_35 rfl (by first | rfl | decide | assumption) (Nat.le_refl _) (Nat.le_refl _) (⟨rfl, Or.inl ⟨rfl, Or.inl g1⟩⟩)
  · refine e_aload_n dX4_isBehind_10 rfl rfl ?_
    refine m_get 4 1 lf_X4_15 dX4_isBehind_11 (ly_192 B _ _) rfl ?_
    refine e_iload_n dX4_isBehind_14 rfl rfl ?_
    refine m_iald (i) dX4_isBehind_15 (ly_194 B _ _) (rfl) (by omega) (by decide) ?_
    refine e_top (w := nI (c e)) (h1) ?_
    refine e_iload_n dX4_isBehind_16 rfl rfl ?_
    refine n_icmp_ne 34 dX4_isBehind_17 (by decide) (by omega) (by omega) (fun g2 => ?_) (fun g2 => ?_)
    · refine e_iconst (v := nI 0) dX4_isBehind_34 (by decide) ?_
      exact m_zret dX4_isBehind_35 rfl (by first | rfl | decide | assumption) (Nat.le_refl _) (Nat.le_refl _) (⟨rfl, Or.inr ⟨rfl, fun q => by unfold bh at q; omega⟩⟩)
    · refine e_aload_n dX4_isBehind_20 rfl rfl ?_
      refine m_get 4 2 lf_X4_18 dX4_isBehind_21 (ly_192 B _ _) rfl ?_
      refine e_iload_n dX4_isBehind_24 rfl rfl ?_
      refine m_iald (i) dX4_isBehind_25 (ly_195 B _ _) (rfl) (by omega) (by decide) ?_
      refine e_top (w := nI (n e)) (h2) ?_
      refine e_iload_n dX4_isBehind_26 rfl rfl ?_
      refine n_icmp_ge 34 dX4_isBehind_27 (by decide) (by omega) (by omega) (fun g3 => ?_) (fun g3 => ?_)
      · refine e_iconst (v := nI 0) dX4_isBehind_34 (by decide) ?_
        exact m_zret dX4_isBehind_35 rfl (by first | rfl | decide | assumption) (Nat.le_refl _) (Nat.le_refl _) (⟨rfl, Or.inr ⟨rfl, fun q => by unfold bh at q; omega⟩⟩)
      · refine e_iconst (v := nI 1) dX4_isBehind_30 (by decide) ?_
        refine e_goto 35 dX4_isBehind_31 (by decide) ?_
        exact m_zret dX4_isBehind_35 rfl (by first | rfl | decide | assumption) (Nat.le_refl _) (Nat.le_refl _) (⟨rfl, Or.inl ⟨rfl, Or.inr ⟨g2, by omega⟩⟩⟩)
/-- what the ranking holds -/
def rk_at (m : mm_M) (c n : Nat → Nat) (z : Nat) (g : Nat → Nat) : Prop := m 192 3 = nI z ∧ ∀ q, q < z → m 193 q = nI (g q) ∧ m 194 q = nI (c (g q)) ∧ m 195 q = nI (n (g q))
def P_rk (m : mm_M) (c n : Nat → Nat) (z : Nat) (g : Nat → Nat) (x : Nat) (v : Option Value) (m' : mm_M) : Prop := v = none ∧ (∃ i, i ≤ z ∧ (0 < i → ¬ bh c n (g (i - 1)) x) ∧ (∀ q, i ≤ q → q < z → bh c n (g q) x) ∧ rk_at m' c n (z + 1) (ins g i x)) ∧ ∀ a, a < 192 ∨ 196 ≤ a → m' a = m a
set_option maxRecDepth 100000 in
set_option maxHeartbeats 2000000 in
/-- Ranking.add -/
theorem c_Rank_add (m : mm_M) {c n g : Nat → Nat} {z x : Nat} (hk : rk_at m c n z g) (hz : z < 60) (hb : ∀ q, q < z → c (g q) ≤ 1000000 ∧ n (g q) ≤ 1000000) (b3 : c x ≤ 1000000) (b4 : n x ≤ 1000000) : mm_F l D kA B sz o 1 23 mX4_add [.ref (B + 192), .int (nI x), .int (nI (c x)), .int (nI (n x))] m (P_rk m c n z g x) := by
  refine mm_F.of ?_
  refine e_aload_n dX4_add_0 rfl rfl ?_
  refine m_get 4 3 lf_X4_21 dX4_add_1 (ly_192 B _ _) rfl ?_
  refine e_top (w := nI z) (hk.1) ?_
  refine e_bipush (v := nI 60) dX4_add_4 (by decide) ?_
  refine n_icmp_lt 10 dX4_add_6 (by decide) (by omega) (by omega) (fun hc => ?_) (fun hc => ?_)
  · refine e_aload_n dX4_add_10 rfl rfl ?_
    refine m_get 4 3 lf_X4_21 dX4_add_11 (ly_192 B _ _) rfl ?_
    refine e_top (w := nI z) (hk.1) ?_
    refine e_istore dX4_add_14 (by decide) rfl ?_
    have fin : ∀ (i : Nat) (m2 : mm_M), i ≤ z → (∀ q, q < i → m2 193 q = m 193 q ∧ m2 194 q = m 194 q ∧ m2 195 q = m 195 q) → (∀ q, i < q → q ≤ z → m2 193 q = m 193 (q - 1) ∧ m2 194 q = m 194 (q - 1) ∧ m2 195 q = m 195 (q - 1)) → (∀ q, i ≤ q → q < z → bh c n (g q) x) → (0 < i → ¬ bh c n (g (i - 1)) x) → (∀ a, a < 193 ∨ 196 ≤ a → m2 a = m a) → mm_G l D kA B sz o 1 23 mX4_add (P_rk m c n z g x) 88 [some (.ref (B + 192)), some (.int (nI x)), some (.int (nI (c x))), some (.int (nI (n x))), some (.int (nI i))] [] m2 := by
      intro i m2 c1 c2 c3 c4 c5 c6
      refine e_aload_n dX4_add_88 rfl rfl ?_
      refine m_get 4 0 lf_X4_9 dX4_add_89 (ly_192 B _ _) rfl ?_
      refine e_iload dX4_add_92 rfl ?_
      refine e_iload_n dX4_add_94 rfl rfl ?_
      refine m_iast (i) dX4_add_95 (fun m => ly_193 B m _) (rfl) (by omega) (by decide) ?_
      refine e_aload_n dX4_add_96 rfl rfl ?_
      refine m_get 4 1 lf_X4_15 dX4_add_97 (ly_192 B _ _) rfl ?_
      refine e_iload dX4_add_100 rfl ?_
      refine e_iload_n dX4_add_102 rfl rfl ?_
      refine m_iast (i) dX4_add_103 (fun m => ly_194 B m _) (rfl) (by omega) (by decide) ?_
      refine e_aload_n dX4_add_104 rfl rfl ?_
      refine m_get 4 2 lf_X4_18 dX4_add_105 (ly_192 B _ _) rfl ?_
      refine e_iload dX4_add_108 rfl ?_
      refine e_iload_n dX4_add_110 rfl rfl ?_
      refine m_iast (i) dX4_add_111 (fun m => ly_195 B m _) (rfl) (by omega) (by decide) ?_
      refine e_aload_n dX4_add_112 rfl rfl ?_
      refine e_dup dX4_add_113 rfl ?_
      refine m_get 4 3 lf_X4_21 dX4_add_114 (ly_192 B _ _) rfl ?_
      refine e_top (w := nI z) (by rw [wr_off _ _ (show (192 : Nat) ≠ 195 by omega), wr_off _ _ (show (192 : Nat) ≠ 194 by omega), wr_off _ _ (show (192 : Nat) ≠ 193 by omega), c6 192 (by omega)]; exact hk.1) ?_
      refine e_iconst (v := nI 1) dX4_add_117 (by decide) ?_
      refine e_iadd dX4_add_118 ?_
      refine e_top (w := nI (z + 1)) (nI_add _ _) ?_
      refine m_puti 4 3 lp_X4_21 dX4_add_119 (ly_192 B _ _) (Nat.le_of_ble_eq_true rfl) (ly_192 B _ _) rfl ?_
      refine m_vret dX4_add_122 rfl (Nat.le_refl _) (Nat.le_refl _) ?_
      refine ⟨rfl, ⟨i, c1, c5, c4, wr_same _ _ _ _, fun q hq => ?_⟩, fun a ha => ?_⟩
      · have e3 : ∀ q, wr (wr (wr (wr m2 193 i (nI x)) 194 i (nI (c x))) 195 i (nI (n x))) 192 3 (nI (z + 1)) 193 q = wr m2 193 i (nI x) 193 q := fun q => by rw [wr_off _ _ (show (193 : Nat) ≠ 192 by omega), wr_off _ _ (show (193 : Nat) ≠ 195 by omega), wr_off _ _ (show (193 : Nat) ≠ 194 by omega)]
        have e4 : ∀ q, wr (wr (wr (wr m2 193 i (nI x)) 194 i (nI (c x))) 195 i (nI (n x))) 192 3 (nI (z + 1)) 194 q = wr (wr m2 193 i (nI x)) 194 i (nI (c x)) 194 q := fun q => by rw [wr_off _ _ (show (194 : Nat) ≠ 192 by omega), wr_off _ _ (show (194 : Nat) ≠ 195 by omega)]
        have e5 : ∀ q, wr (wr (wr (wr m2 193 i (nI x)) 194 i (nI (c x))) 195 i (nI (n x))) 192 3 (nI (z + 1)) 195 q = wr (wr (wr m2 193 i (nI x)) 194 i (nI (c x))) 195 i (nI (n x)) 195 q := fun q => by rw [wr_off _ _ (show (195 : Nat) ≠ 192 by omega)]
        rw [e3, e4, e5]
        by_cases d1 : q = i
        · subst d1
          have hi : ins g q x q = x := by unfold ins; rw [if_neg (by omega), if_pos rfl]
          rw [hi]
          exact ⟨wr_same _ _ _ _, wr_same _ _ _ _, wr_same _ _ _ _⟩
        · simp only [wr, d1, and_false, if_false]
          by_cases d2 : q < i
          · have hi : ins g i x q = g q := by unfold ins; rw [if_pos d2]
            rw [hi, (c2 q d2).1, (c2 q d2).2.1, (c2 q d2).2.2]
            exact hk.2 q (by omega)
          · have hi : ins g i x q = g (q - 1) := by unfold ins; rw [if_neg d2, if_neg d1]
            have := c3 q (by omega) (by omega)
            rw [hi, this.1, this.2.1, this.2.2]
            exact hk.2 (q - 1) (by omega)
      · rw [wr_off _ _ (by omega), wr_off _ _ (by omega), wr_off _ _ (by omega), wr_off _ _ (by omega)]; exact c6 a (by omega)
    have loop : ∀ (i : Nat) (m2 : mm_M), i ≤ z → (∀ q, q < i → m2 193 q = m 193 q ∧ m2 194 q = m 194 q ∧ m2 195 q = m 195 q) → (∀ q, i < q → q ≤ z → m2 193 q = m 193 (q - 1) ∧ m2 194 q = m 194 (q - 1) ∧ m2 195 q = m 195 (q - 1)) → (∀ q, i ≤ q → q < z → bh c n (g q) x) → (∀ a, a < 193 ∨ 196 ≤ a → m2 a = m a) → mm_G l D kA B sz o 1 23 mX4_add (P_rk m c n z g x) 16 [some (.ref (B + 192)), some (.int (nI x)), some (.int (nI (c x))), some (.int (nI (n x))), some (.int (nI i))] [] m2 := by
      intro i
      induction i with
      | zero =>
        intro m2 c1 c2 c3 c4 c6
        refine e_iload dX4_add_16 rfl ?_
        refine n_if_le 88 dX4_add_18 (by decide) (by omega) (fun h9 => ?_) (fun h9 => ?_)
        · exact fin 0 m2 c1 c2 c3 c4 (fun h => by omega) c6
        · exact absurd (Nat.le_refl 0) h9
      | succ i ih =>
        intro m2 c1 c2 c3 c4 c6
        obtain ⟨g1, g2, g3⟩ := hk.2 i (by omega)
        obtain ⟨g4, g5, g6⟩ := c2 i (by omega)
        obtain ⟨g7, g8⟩ := hb i (by omega)
        refine e_iload dX4_add_16 rfl ?_
        refine n_if_le 88 dX4_add_18 (by decide) (by omega) (fun h9 => ?_) (fun h9 => ?_)
        · exact absurd h9 (by omega)
        · refine e_aload_n dX4_add_21 rfl rfl ?_
          refine e_iload dX4_add_22 rfl ?_
          refine e_iconst (v := nI 1) dX4_add_24 (by decide) ?_
          refine e_isub dX4_add_25 ?_
          refine e_top (w := nI ((i + 1) - 1)) (pk_sub (by omega)) ?_
          refine e_iload_n dX4_add_26 rfl rfl ?_
          refine e_iload_n dX4_add_27 rfl rfl ?_
          refine m_callV (As := [_, _, _]) lc_X4_25 dX4_add_28 (ly_192 B _ _) rfl rfl (by simp [Value.category]) (Nat.le_of_ble_eq_true rfl) (Nat.le_of_ble_eq_true rfl) ⟨Nat.le_of_ble_eq_true rfl, Nat.le_of_ble_eq_true rfl⟩ ⟨Nat.le_of_ble_eq_true rfl, Nat.le_of_ble_eq_true rfl⟩ (c_isBehind m2 (i := i + 1 - 1) (e := g i) (x := x) (c := c) (n := n) (by omega) (by rw [Nat.add_sub_cancel, g5]; exact g2) (by rw [Nat.add_sub_cancel, g6]; exact g3) g7 g8 b3 b4) (fun v9 m9 hp9 => ?_)
          obtain ⟨rfl, ⟨rfl, q9⟩ | ⟨rfl, q9⟩⟩ := hp9
          · refine e_if_eq 88 dX4_add_31 (by decide) (fun h8 => ?_) (fun h8 => ?_)
            · exact absurd h8 (by decide)
            · refine e_aload_n dX4_add_34 rfl rfl ?_
              refine m_get 4 0 lf_X4_9 dX4_add_35 (ly_192 B _ _) rfl ?_
              refine e_iload dX4_add_38 rfl ?_
              refine e_aload_n dX4_add_40 rfl rfl ?_
              refine m_get 4 0 lf_X4_9 dX4_add_41 (ly_192 B _ _) rfl ?_
              refine e_iload dX4_add_44 rfl ?_
              refine e_iconst (v := nI 1) dX4_add_46 (by decide) ?_
              refine e_isub dX4_add_47 ?_
              refine e_top (w := nI ((i + 1) - 1)) (pk_sub (by omega)) ?_
              refine m_iald ((i + 1) - 1) dX4_add_48 (ly_193 B _ _) (rfl) (by omega) (by decide) ?_
              refine m_iast (i + 1) dX4_add_49 (fun m => ly_193 B m _) (rfl) (by omega) (by decide) ?_
              refine e_aload_n dX4_add_50 rfl rfl ?_
              refine m_get 4 1 lf_X4_15 dX4_add_51 (ly_192 B _ _) rfl ?_
              refine e_iload dX4_add_54 rfl ?_
              refine e_aload_n dX4_add_56 rfl rfl ?_
              refine m_get 4 1 lf_X4_15 dX4_add_57 (ly_192 B _ _) rfl ?_
              refine e_iload dX4_add_60 rfl ?_
              refine e_iconst (v := nI 1) dX4_add_62 (by decide) ?_
              refine e_isub dX4_add_63 ?_
              refine e_top (w := nI ((i + 1) - 1)) (pk_sub (by omega)) ?_
              refine m_iald ((i + 1) - 1) dX4_add_64 (ly_194 B _ _) (rfl) (by omega) (by decide) ?_
              refine m_iast (i + 1) dX4_add_65 (fun m => ly_194 B m _) (rfl) (by omega) (by decide) ?_
              refine e_aload_n dX4_add_66 rfl rfl ?_
              refine m_get 4 2 lf_X4_18 dX4_add_67 (ly_192 B _ _) rfl ?_
              refine e_iload dX4_add_70 rfl ?_
              refine e_aload_n dX4_add_72 rfl rfl ?_
              refine m_get 4 2 lf_X4_18 dX4_add_73 (ly_192 B _ _) rfl ?_
              refine e_iload dX4_add_76 rfl ?_
              refine e_iconst (v := nI 1) dX4_add_78 (by decide) ?_
              refine e_isub dX4_add_79 ?_
              refine e_top (w := nI ((i + 1) - 1)) (pk_sub (by omega)) ?_
              refine m_iald ((i + 1) - 1) dX4_add_80 (ly_195 B _ _) (rfl) (by omega) (by decide) ?_
              refine m_iast (i + 1) dX4_add_81 (fun m => ly_195 B m _) (rfl) (by omega) (by decide) ?_
              refine e_iinc (v := nI (i + 1 - 1)) dX4_add_82 rfl (dec_nI (by decide) (by omega)) (by decide) rfl ?_
              refine e_goto 16 dX4_add_85 (by decide) ?_
              refine ih _ (by omega) (fun q hq => ?_) (fun q q1 q2 => ?_) (fun q q1 q2 => ?_) (fun a ha => by rw [wr_off _ _ (by omega), wr_off _ _ (by omega), wr_off _ _ (by omega)]; exact c6 a ha)
              · simp only [wr, show ¬ q = i + 1 by omega, and_false, if_false]
                exact c2 q (by omega)
              · by_cases e : q = i + 1
                · subst e
                  simp [wr]
                  exact ⟨g4, g5, g6⟩
                · simp only [wr, e, and_false, if_false]
                  exact c3 q (by omega) q2
              · by_cases e : q = i
                · rw [e]; exact q9
                · exact c4 q (by omega) q2
          · refine e_if_eq 88 dX4_add_31 (by decide) (fun h8 => ?_) (fun h8 => ?_)
            · exact fin (i + 1) m9 c1 c2 c3 c4 (fun _ => by rw [Nat.add_sub_cancel]; exact q9) c6
            · exact absurd rfl h8
    exact loop z m (Nat.le_refl _) (fun q _ => ⟨rfl, rfl, rfl⟩) (fun q h1 h2 => by omega) (fun q h1 h2 => by omega) (fun a _ => rfl)
  · exact absurd hz hc
end RNK
end
section
section RKW
variable {l : Launch} {D : va_G} {kA : FieldType → ClassId} {B sz : Nat} {o : Int64}
/-- what is ranked: the row of SUGGESTIONS or ENDINGS in the ranking's numbers -/
def P_rkw (m : mm_M) (S : sp_S) (b : Bool) (lim : Nat) (v : Option Value) (m' : mm_M) : Prop := v = none ∧ (∃ n g, n ≤ 60 ∧ sug S (cst S b) lim n g ∧ m' 192 3 = nI n ∧ ∀ q, q < n → m' 193 q = nI (g q)) ∧ fr m m'
set_option maxRecDepth 100000 in
set_option maxHeartbeats 2000000 in
/-- SuggestSpell.rankWords -/
theorem c_rankWords (m : mm_M) {S : sp_S} {lim : Nat} (b : Bool) (hc : cs m S) (hl : lim ≤ 50) : mm_F l D kA B sz o 6 133 mX9_rankWords [.ref (B + 0), .int (nI lim), .int (if b then nI 1 else nI 0)] m (P_rkw m S b lim) := by
  have hok := hc.1
  have n60 := hok.2.2.1
  obtain ⟨f, o1, o2, o3⟩ := hc.2.2.2.2.2.1
  refine mm_F.of ?_
  refine e_aload_n dX9_rankWords_0 rfl rfl ?_
  refine m_get 9 5 lf_X9_49 dX9_rankWords_1 (ly_0 B _ _) rfl ?_
  refine e_iconst (v := nI 0) dX9_rankWords_4 (by decide) ?_
  refine m_puti 4 3 lp_X9_202 dX9_rankWords_5 (ly_192 B _ _) (Nat.le_of_ble_eq_true rfl) (ly_192 B _ _) rfl ?_
  refine e_iconst (v := nI 0) dX9_rankWords_8 (by decide) ?_
  refine e_istore_n dX9_rankWords_9 rfl (by decide) rfl ?_
  have loop : ∀ (d i : Nat) (m' : mm_M) (x4 x5 : Option Value) (n : Nat) (g : Nat → Nat), wn S - i = d → i ≤ wn S → n ≤ i → rk_at m' (cst S b) (wc S) n g → so (bf S (cst S b)) n g → (∀ x, (∃ q, q < n ∧ g q = x) ↔ (∃ j, j < i ∧ f j = x) ∧ cst S b x ≤ lim) → fr m m' → mm_G l D kA B sz o 6 133 mX9_rankWords (P_rkw m S b lim) 10 [some (.ref (B + 0)), some (.int (nI lim)), some (.int (if b then nI 1 else nI 0)), some (.int (nI i)), x4, x5] [] m' := by
    intro d
    induction d with
    | zero =>
      intro i m' x4 x5 n g h1 h2 h3 h4 h5 h6 h7
      refine e_iload_n dX9_rankWords_10 rfl rfl ?_
      refine e_aload_n dX9_rankWords_11 rfl rfl ?_
      refine m_get 9 2 lf_X9_26 dX9_rankWords_12 (ly_0 B _ _) rfl ?_
      refine m_get 8 4 lf_X9_85 dX9_rankWords_15 (ly_32 B _ _) rfl ?_
      refine e_top (w := nI (wn S)) ((by rw [h7 32 (by omega)]; exact hc.2.2.2.1)) ?_
      refine n_icmp_ge 86 dX9_rankWords_18 (by decide) (by omega) (by omega) (fun g1 => ?_) (fun g1 => ?_)
      · refine m_vret dX9_rankWords_86 rfl (Nat.le_refl _) (Nat.le_refl _) ⟨rfl, ⟨n, g, by omega, ⟨h5, fun x => (h6 x).trans ⟨fun q => ⟨?_, q.2⟩, fun q => ⟨?_, q.2⟩⟩⟩, h4.1, fun q hq => (h4.2 q hq).1⟩, h7⟩
        · obtain ⟨⟨j, j1, j2⟩, -⟩ := q
          rw [← j2]; exact (o1 j (by omega)).2
        · obtain ⟨k, k1, k2⟩ := o3 x q.1
          exact ⟨k, by omega, k2⟩
      · exact absurd g1 (by omega)
    | succ d ih =>
      intro i m' x4 x5 n g h1 h2 h3 h4 h5 h6 h7
      obtain ⟨f1, f2⟩ := o1 i (by omega)
      have cl := cst_le hok b f2
      have hc' : cs m' S := h7.cs hc
      refine e_iload_n dX9_rankWords_10 rfl rfl ?_
      refine e_aload_n dX9_rankWords_11 rfl rfl ?_
      refine m_get 9 2 lf_X9_26 dX9_rankWords_12 (ly_0 B _ _) rfl ?_
      refine m_get 8 4 lf_X9_85 dX9_rankWords_15 (ly_32 B _ _) rfl ?_
      refine e_top (w := nI (wn S)) ((by rw [h7 32 (by omega)]; exact hc.2.2.2.1)) ?_
      refine n_icmp_ge 86 dX9_rankWords_18 (by decide) (by omega) (by omega) (fun g1 => ?_) (fun g1 => ?_)
      · exact absurd g1 (by omega)
      · refine e_aload_n dX9_rankWords_21 rfl rfl ?_
        refine m_get 9 2 lf_X9_26 dX9_rankWords_22 (ly_0 B _ _) rfl ?_
        refine m_get 8 2 lf_X9_206 dX9_rankWords_25 (ly_32 B _ _) rfl ?_
        refine e_iload_n dX9_rankWords_28 rfl rfl ?_
        refine m_iald (i) dX9_rankWords_29 (ly_35 B _ _) (rfl) (by omega) (by decide) ?_
        refine e_top (w := nI (f i)) ((by rw [h7 35 (by omega)]; exact f1)) ?_
        refine e_istore dX9_rankWords_30 (by decide) rfl ?_
        -- behind the price
        have go51 : ∀ m3, frT m' m3 → mm_G l D kA B sz o 6 133 mX9_rankWords (P_rkw m S b lim) 51 [some (.ref (B + 0)), some (.int (nI lim)), some (.int (if b then nI 1 else nI 0)), some (.int (nI i)), some (.int (nI (f i))), x5] [.int (nI (cst S b (f i)))] m3 := by
          intro m3 g3
          have h7' : fr m m3 := h7.tr g3.fr
          have h4' : rk_at m3 (cst S b) (wc S) n g := ⟨by rw [g3 192 (by omega)]; exact h4.1, fun q hq => by rw [g3 193 (by omega), g3 194 (by omega), g3 195 (by omega)]; exact h4.2 q hq⟩
          refine e_istore dX9_rankWords_51 (by decide) rfl ?_
          refine e_iload dX9_rankWords_53 rfl ?_
          refine e_iload_n dX9_rankWords_55 rfl rfl ?_
          refine n_icmp_gt 80 dX9_rankWords_56 (by decide) (by omega) (by omega) (fun g4 => ?_) (fun g4 => ?_)
          · refine e_iinc (v := nI (i + 1)) dX9_rankWords_80 rfl (nI_add _ _) (by decide) rfl ?_
            refine e_goto 10 dX9_rankWords_83 (by decide) ?_
            refine ih (i + 1) m3 _ _ n g (by omega) (by omega) (by omega) h4' h5 (fun x => (h6 x).trans ⟨fun q => ⟨?_, q.2⟩, fun q => ⟨?_, q.2⟩⟩) h7'
            · obtain ⟨⟨j, j1, j2⟩, -⟩ := q
              exact ⟨j, by omega, j2⟩
            · obtain ⟨⟨j, j1, j2⟩, q2⟩ := q
              refine ⟨j, ?_, j2⟩
              rcases Nat.lt_or_ge j i with e | e
              · exact e
              · have : j = i := by omega
                subst this
                rw [← j2] at q2
                omega
          · obtain ⟨w1, w2⟩ := (hc'.2.2.2.2.1 (f i) f2)
            have wcb := hok.2.2.2.1 (f i) f2
            refine e_aload_n dX9_rankWords_59 rfl rfl ?_
            refine m_get 9 5 lf_X9_49 dX9_rankWords_60 (ly_0 B _ _) rfl ?_
            refine e_iload dX9_rankWords_63 rfl ?_
            refine e_iload dX9_rankWords_65 rfl ?_
            refine e_aload_n dX9_rankWords_67 rfl rfl ?_
            refine m_get 9 2 lf_X9_26 dX9_rankWords_68 (ly_0 B _ _) rfl ?_
            refine m_get 8 1 lf_X9_94 dX9_rankWords_71 (ly_32 B _ _) rfl ?_
            refine e_iload dX9_rankWords_74 rfl ?_
            refine m_iald (f i) dX9_rankWords_76 (ly_34 B _ _) (rfl) (by omega) (by decide) ?_
            refine e_top (w := nI (wc S (f i))) ((by rw [g3 34 (by omega)]; exact w2)) ?_
            refine m_callV (As := [_, _, _]) lc_X9_209 dX9_rankWords_77 (ly_192 B _ _) rfl rfl (by simp [Value.category]) (Nat.le_of_ble_eq_true rfl) (Nat.le_of_ble_eq_true rfl) ⟨Nat.le_of_ble_eq_true rfl, Nat.le_of_ble_eq_true rfl⟩ ⟨Nat.le_of_ble_eq_true rfl, Nat.le_of_ble_eq_true rfl⟩ (c_Rank_add m3 (c := cst S b) (n := wc S) (x := f i) h4' (by omega) (fun q hq => by have h8 := (h6 (g q)).mp ⟨q, hq, rfl⟩; obtain ⟨⟨j, j1, j2⟩, -⟩ := h8; have h9 := (o1 j (by omega)).2; rw [j2] at h9; have := cst_le hok b h9; have := (hok.2.2.2.1 _ h9).2.2.2.2; omega) (by omega) (by omega)) (fun v9 m4 hp9 => ?_)
            obtain ⟨rfl, ⟨p9, q1, q2, q3, q4⟩, q5⟩ := hp9
            refine e_iinc (v := nI (i + 1)) dX9_rankWords_80 rfl (nI_add _ _) (by decide) rfl ?_
            refine e_goto 10 dX9_rankWords_83 (by decide) ?_
            have hah : ∀ q, q < n → wa S (g q) (f i) := fun q hq => by
              obtain ⟨⟨j, j1, j2⟩, -⟩ := (h6 (g q)).mp ⟨q, hq, rfl⟩
              rw [← j2]; exact o2 j i j1 (by omega)
            have nb : ∀ q, q < n → ¬ bh (cst S b) (wc S) (g q) (f i) → bf S (cst S b) (g q) (f i) := fun q hq h => by
              have := hah q hq
              unfold bh at h
              unfold bf
              rcases Nat.lt_trichotomy (cst S b (g q)) (cst S b (f i)) with e | e | e
              · exact Or.inl e
              · rcases Nat.lt_trichotomy (wc S (g q)) (wc S (f i)) with e2 | e2 | e2
                · exact absurd (Or.inr ⟨e, e2⟩) h
                · exact Or.inr ⟨e, Or.inr ⟨e2, this⟩⟩
                · exact Or.inr ⟨e, Or.inl e2⟩
              · exact absurd (Or.inl e) h
            have yb : ∀ q, bh (cst S b) (wc S) (g q) (f i) → bf S (cst S b) (f i) (g q) := fun q h => by
              unfold bh at h
              unfold bf
              rcases h with e | ⟨e, e2⟩
              · exact Or.inl e
              · exact Or.inr ⟨e.symm, Or.inl e2⟩
            refine ih (i + 1) m4 _ _ (n + 1) (ins g p9 (f i)) (by omega) (by omega) (by omega) q4 (so_ins h5 q1 (fun q hq => ?_) (fun q r1 r2 => yb q (q3 q r1 r2))) (fun x => (ins_mem q1 x).trans ?_) (h7'.tr (fun a ha => q5 a (by omega)))
            · have l1 := nb (p9 - 1) (by omega) (q2 (by omega))
              by_cases e : q = p9 - 1
              · rw [e]; exact l1
              · exact bf_tr S _ (h5 q (p9 - 1) (by omega) (by omega)) l1
            · constructor
              · rintro (e | e)
                · obtain ⟨⟨j, j1, j2⟩, r2⟩ := (h6 x).mp e
                  exact ⟨⟨j, by omega, j2⟩, r2⟩
                · subst e
                  exact ⟨⟨i, by omega, rfl⟩, by omega⟩
              · rintro ⟨⟨j, j1, j2⟩, r2⟩
                by_cases e : j = i
                · subst e; exact Or.inr j2.symm
                · exact Or.inl ((h6 x).mpr ⟨⟨j, by omega, j2⟩, r2⟩)
        refine e_iload_n dX9_rankWords_32 rfl rfl ?_
        cases b with
        | true =>
          refine e_if_eq 45 dX9_rankWords_33 (by decide) (fun g2 => ?_) (fun g2 => ?_)
          · exact absurd g2 (by decide)
          · refine e_aload_n dX9_rankWords_36 rfl rfl ?_
            refine e_iload dX9_rankWords_37 rfl ?_
            refine m_callV (As := [_]) lc_X9_119 dX9_rankWords_39 (ly_0 B _ _) rfl rfl (by simp [Value.category]) (Nat.le_of_ble_eq_true rfl) (Nat.le_of_ble_eq_true rfl) ⟨Nat.le_of_ble_eq_true rfl, Nat.le_of_ble_eq_true rfl⟩ ⟨Nat.le_of_ble_eq_true rfl, Nat.le_of_ble_eq_true rfl⟩ (c_priceOfBeginning m' hc' f2) (fun v9 m3 hp9 => ?_)
            obtain ⟨rfl, a1⟩ := hp9
            refine e_goto 51 dX9_rankWords_42 (by decide) ?_
            exact go51 m3 a1
        | false =>
          refine e_if_eq 45 dX9_rankWords_33 (by decide) (fun g2 => ?_) (fun g2 => ?_)
          · refine e_aload_n dX9_rankWords_45 rfl rfl ?_
            refine e_iload dX9_rankWords_46 rfl ?_
            refine m_callV (As := [_]) lc_X9_116 dX9_rankWords_48 (ly_0 B _ _) rfl rfl (by simp [Value.category]) (Nat.le_of_ble_eq_true rfl) (Nat.le_of_ble_eq_true rfl) ⟨Nat.le_of_ble_eq_true rfl, Nat.le_of_ble_eq_true rfl⟩ ⟨Nat.le_of_ble_eq_true rfl, Nat.le_of_ble_eq_true rfl⟩ (c_priceOfWord m' hc' f2) (fun v9 m3 hp9 => ?_)
            obtain ⟨rfl, a1⟩ := hp9
            exact go51 m3 a1
          · exact absurd rfl g2
  exact loop (wn S) 0 _ none none 0 (fun _ => 0) (by omega) (by omega) (by omega) ⟨wr_same _ _ _ _, fun q hq => by omega⟩ (fun i j h1 h2 => by omega) (fun x => ⟨fun ⟨q, q1, _⟩ => by omega, fun ⟨⟨q, q1, _⟩, _⟩ => by omega⟩) (fun a ha => wr_off _ _ (by omega))
/-- an Int32 between two others -/
def inr (x lo hi : Int32) : Prop := lo ≤ x ∧ x ≤ hi
set_option maxRecDepth 100000 in
/-- SuggestSpell.isLimit -/
theorem c_isLimit (m : mm_M) (x : Int32) : mm_F l D kA B sz o 0 0 mX9_isLimit [.int x] m (fun v m' => m' = m ∧ ((v = some (.int (nI 1)) ∧ inr x 0 50) ∨ (v = some (.int (nI 0)) ∧ ¬ inr x 0 50))) := by
  refine mm_F.of ?_
  refine e_iload_n dX9_isLimit_0 rfl rfl ?_
  refine e_if_lt 14 dX9_isLimit_1 (by decide) (fun g1 => ?_) (fun g1 => ?_)
  · refine e_iconst (v := nI 0) dX9_isLimit_14 (by decide) ?_
    exact m_zret dX9_isLimit_15 rfl (by first | rfl | decide | assumption) (Nat.le_refl _) (Nat.le_refl _) (⟨rfl, Or.inr ⟨rfl, fun q => Int32.not_lt.mpr q.1 g1⟩⟩)
  · refine e_iload_n dX9_isLimit_4 rfl rfl ?_
    refine e_bipush (v := nI 50) dX9_isLimit_5 (by decide) ?_
    refine e_icmp_gt 14 dX9_isLimit_7 (by decide) (fun g2 => ?_) (fun g2 => ?_)
    · refine e_iconst (v := nI 0) dX9_isLimit_14 (by decide) ?_
      exact m_zret dX9_isLimit_15 rfl (by first | rfl | decide | assumption) (Nat.le_refl _) (Nat.le_refl _) (⟨rfl, Or.inr ⟨rfl, fun q => Int32.not_lt.mpr q.2 g2⟩⟩)
    · refine e_iconst (v := nI 1) dX9_isLimit_10 (by decide) ?_
      refine e_goto 15 dX9_isLimit_11 (by decide) ?_
      exact m_zret dX9_isLimit_15 rfl (by first | rfl | decide | assumption) (Nat.le_refl _) (Nat.le_refl _) (⟨rfl, Or.inl ⟨rfl, Int32.not_lt.mp g1, Int32.not_lt.mp g2⟩⟩)
set_option maxRecDepth 100000 in
/-- SuggestSpell.isLetter -/
theorem c_isLetter (m : mm_M) (x : Int32) : mm_F l D kA B sz o 0 0 mX9_isLetter [.int x] m (fun v m' => m' = m ∧ ((v = some (.int (nI 1)) ∧ inr x 0 25) ∨ (v = some (.int (nI 0)) ∧ ¬ inr x 0 25))) := by
  have e26 : ∀ y : Int32, y < 26 ↔ y ≤ 25 := fun y => by rw [Int32.lt_iff_toInt_lt, Int32.le_iff_toInt_le, show (26 : Int32).toInt = 26 by decide, show (25 : Int32).toInt = 25 by decide]; omega
  refine mm_F.of ?_
  refine e_iload_n dX9_isLetter_0 rfl rfl ?_
  refine e_if_lt 14 dX9_isLetter_1 (by decide) (fun g1 => ?_) (fun g1 => ?_)
  · refine e_iconst (v := nI 0) dX9_isLetter_14 (by decide) ?_
    exact m_zret dX9_isLetter_15 rfl (by first | rfl | decide | assumption) (Nat.le_refl _) (Nat.le_refl _) (⟨rfl, Or.inr ⟨rfl, fun q => Int32.not_lt.mpr q.1 g1⟩⟩)
  · refine e_iload_n dX9_isLetter_4 rfl rfl ?_
    refine e_bipush (v := nI 26) dX9_isLetter_5 (by decide) ?_
    refine e_icmp_ge 14 dX9_isLetter_7 (by decide) (fun g2 => ?_) (fun g2 => ?_)
    · refine e_iconst (v := nI 0) dX9_isLetter_14 (by decide) ?_
      exact m_zret dX9_isLetter_15 rfl (by first | rfl | decide | assumption) (Nat.le_refl _) (Nat.le_refl _) (⟨rfl, Or.inr ⟨rfl, fun q => Int32.not_lt.mpr g2 ((e26 x).mpr q.2)⟩⟩)
    · refine e_iconst (v := nI 1) dX9_isLetter_10 (by decide) ?_
      refine e_goto 15 dX9_isLetter_11 (by decide) ?_
      exact m_zret dX9_isLetter_15 rfl (by first | rfl | decide | assumption) (Nat.le_refl _) (Nat.le_refl _) (⟨rfl, Or.inl ⟨rfl, Int32.not_lt.mp g1, (e26 x).mp (Int32.not_le.mp g2)⟩⟩)
set_option maxRecDepth 100000 in
/-- SuggestSpell.isCount -/
theorem c_isCount (m : mm_M) (x : Int32) : mm_F l D kA B sz o 0 0 mX9_isCount [.int x] m (fun v m' => m' = m ∧ ((v = some (.int (nI 1)) ∧ inr x 1 1000) ∨ (v = some (.int (nI 0)) ∧ ¬ inr x 1 1000))) := by
  refine mm_F.of ?_
  refine e_iload_n dX9_isCount_0 rfl rfl ?_
  refine e_iconst (v := nI 1) dX9_isCount_1 (by decide) ?_
  refine e_icmp_lt 16 dX9_isCount_2 (by decide) (fun g1 => ?_) (fun g1 => ?_)
  · refine e_iconst (v := nI 0) dX9_isCount_16 (by decide) ?_
    exact m_zret dX9_isCount_17 rfl (by first | rfl | decide | assumption) (Nat.le_refl _) (Nat.le_refl _) (⟨rfl, Or.inr ⟨rfl, fun q => Int32.not_lt.mpr q.1 g1⟩⟩)
  · refine e_iload_n dX9_isCount_5 rfl rfl ?_
    refine e_sipush (v := nI 1000) dX9_isCount_6 (by decide) ?_
    refine e_icmp_gt 16 dX9_isCount_9 (by decide) (fun g2 => ?_) (fun g2 => ?_)
    · refine e_iconst (v := nI 0) dX9_isCount_16 (by decide) ?_
      exact m_zret dX9_isCount_17 rfl (by first | rfl | decide | assumption) (Nat.le_refl _) (Nat.le_refl _) (⟨rfl, Or.inr ⟨rfl, fun q => Int32.not_lt.mpr q.2 g2⟩⟩)
    · refine e_iconst (v := nI 1) dX9_isCount_12 (by decide) ?_
      refine e_goto 17 dX9_isCount_13 (by decide) ?_
      exact m_zret dX9_isCount_17 rfl (by first | rfl | decide | assumption) (Nat.le_refl _) (Nat.le_refl _) (⟨rfl, Or.inl ⟨rfl, Int32.not_lt.mp g1, Int32.not_lt.mp g2⟩⟩)
theorem inr_nat {x : Int32} {lo hi : Nat} (h : inr x (nI lo) (nI hi)) (hh : hi < 2 ^ 31) (hl : lo < 2 ^ 31) : ∃ q, lo ≤ q ∧ q ≤ hi ∧ x = nI q := by
  obtain ⟨h1, h2⟩ := h
  have h3 : ¬ x < 0 := by
    intro q
    have := Int32.lt_of_le_of_lt h1 q
    exact nI_pos hl this
  obtain ⟨q, q1, rfl⟩ := nI_of h3
  exact ⟨q, (nI_leI hl q1).mp h1, (nI_leI q1 hh).mp h2, rfl⟩
/-- how many of the ranked there are, for a limit within its bounds -/
def R_many (S : sp_S) (b : Bool) (x v : Int32) : Prop := (¬ inr x 0 50 ∧ v = -2) ∨ (inr x 0 50 ∧ ∃ n g, n ≤ 60 ∧ sug S (cst S b) x.toNatClampNeg n g ∧ v = nI n)
def R_rank (S : sp_S) (b : Bool) (x i v : Int32) : Prop := (¬ inr x 0 50 ∧ v = -2) ∨ (inr x 0 50 ∧ ∃ n g, n ≤ 60 ∧ sug S (cst S b) x.toNatClampNeg n g ∧ ((∃ q, q < n ∧ i = nI q ∧ v = nI (g q)) ∨ ((∀ q, q < n → i ≠ nI q) ∧ v = -1)))
theorem R_many_uniq {S : sp_S} {b : Bool} {x v v' : Int32} (h : R_many S b x v) (h' : R_many S b x v') : v = v' := by
  rcases h with ⟨a, rfl⟩ | ⟨a, n, g, n6, s, rfl⟩ <;> rcases h' with ⟨a', rfl⟩ | ⟨a', n', g', n6', s', rfl⟩
  · rfl
  · exact absurd a' a
  · exact absurd a a'
  · rw [(sug_uniq s s').1]
theorem R_rank_uniq {S : sp_S} {b : Bool} {x i v v' : Int32} (h : R_rank S b x i v) (h' : R_rank S b x i v') : v = v' := by
  rcases h with ⟨a, rfl⟩ | ⟨a, n, g, n6, s, t⟩ <;> rcases h' with ⟨a', rfl⟩ | ⟨a', n', g', n6', s', t'⟩
  · rfl
  · exact absurd a' a
  · exact absurd a a'
  · obtain ⟨e1, e2⟩ := sug_uniq s s'
    subst e1
    rcases t with ⟨q, q1, q2, rfl⟩ | ⟨q1, rfl⟩ <;> rcases t' with ⟨p, p1, p2, rfl⟩ | ⟨p1, rfl⟩
    · have := (nI_eq (a := q) (b := p) (by omega) (by omega)).mp (q2.symm.trans p2)
      subst this
      rw [e2 q q1]
    · exact absurd q2 (p1 q q1)
    · exact absurd p2 (q1 p p1)
    · rfl
set_option maxRecDepth 100000 in
theorem c_howMany (m : mm_M) {S : sp_S} (x : Int32) (b : Bool) (hc : cs m S) : mm_F l D kA B sz o 7 158 mX9_howMany [.ref (B + 0), .int x, .int (if b then nI 1 else nI 0)] m (fun v m' => (∃ y, v = some (.int y) ∧ R_many S b x y) ∧ fr m m') := by
  refine mm_F.of ?_
  refine e_iload_n dX9_howMany_0 rfl rfl ?_
  refine m_callS (As := [_]) lc_X9_166 dX9_howMany_1 rfl rfl (by simp [Value.category]) (Nat.le_of_ble_eq_true rfl) (Nat.le_of_ble_eq_true rfl) ⟨Nat.le_of_ble_eq_true rfl, Nat.le_of_ble_eq_true rfl⟩ ⟨Nat.le_of_ble_eq_true rfl, Nat.le_of_ble_eq_true rfl⟩ (c_isLimit m x) (fun v9 m9 hp9 => ?_)
  obtain ⟨rfl, ⟨rfl, h1⟩ | ⟨rfl, h1⟩⟩ := hp9
  · refine e_if_ne 10 dX9_howMany_4 (by decide) (fun g1 => ?_) (fun g1 => ?_)
    · obtain ⟨q, -, q2, rfl⟩ := inr_nat (lo := 0) (hi := 50) h1 (by omega) (by omega)
      refine e_aload_n dX9_howMany_10 rfl rfl ?_
      refine e_iload_n dX9_howMany_11 rfl rfl ?_
      refine e_iload_n dX9_howMany_12 rfl rfl ?_
      refine m_callV (As := [_, _]) lc_X9_198 dX9_howMany_13 (ly_0 B _ _) rfl rfl (by simp [Value.category]) (Nat.le_of_ble_eq_true rfl) (Nat.le_of_ble_eq_true rfl) ⟨Nat.le_of_ble_eq_true rfl, Nat.le_of_ble_eq_true rfl⟩ ⟨Nat.le_of_ble_eq_true rfl, Nat.le_of_ble_eq_true rfl⟩ (c_rankWords m9 (lim := q) b hc q2) (fun v9 m1 hp9 => ?_)
      obtain ⟨rfl, ⟨n, g, a1, a2, a3, a4⟩, a5⟩ := hp9
      refine e_aload_n dX9_howMany_16 rfl rfl ?_
      refine m_get 9 5 lf_X9_49 dX9_howMany_17 (ly_0 B _ _) rfl ?_
      refine m_get 4 3 lf_X9_202 dX9_howMany_20 (ly_192 B _ _) rfl ?_
      exact m_iret dX9_howMany_23 rfl (Nat.le_refl _) (Nat.le_refl _) (⟨⟨_, rfl, Or.inr ⟨h1, n, g, a1, by rw [nI_clamp (by omega)]; exact a2, a3⟩⟩, a5⟩)
    · exact absurd g1 (by decide)
  · refine e_if_ne 10 dX9_howMany_4 (by decide) (fun g1 => ?_) (fun g1 => ?_)
    · exact absurd rfl g1
    · refine e_bipush (v := -2) dX9_howMany_7 (by decide) ?_
      exact m_iret dX9_howMany_9 rfl (Nat.le_refl _) (Nat.le_refl _) (⟨⟨_, rfl, Or.inl ⟨h1, rfl⟩⟩, fr.rf _⟩)
set_option maxRecDepth 100000 in
theorem c_rankedWord (m : mm_M) {S : sp_S} (x i : Int32) (b : Bool) (hc : cs m S) : mm_F l D kA B sz o 7 158 mX9_rankedWord [.ref (B + 0), .int x, .int i, .int (if b then nI 1 else nI 0)] m (fun v m' => (∃ y, v = some (.int y) ∧ R_rank S b x i y) ∧ fr m m') := by
  refine mm_F.of ?_
  refine e_iload_n dX9_rankedWord_0 rfl rfl ?_
  refine m_callS (As := [_]) lc_X9_166 dX9_rankedWord_1 rfl rfl (by simp [Value.category]) (Nat.le_of_ble_eq_true rfl) (Nat.le_of_ble_eq_true rfl) ⟨Nat.le_of_ble_eq_true rfl, Nat.le_of_ble_eq_true rfl⟩ ⟨Nat.le_of_ble_eq_true rfl, Nat.le_of_ble_eq_true rfl⟩ (c_isLimit m x) (fun v9 m9 hp9 => ?_)
  obtain ⟨rfl, ⟨rfl, h1⟩ | ⟨rfl, h1⟩⟩ := hp9
  · refine e_if_ne 10 dX9_rankedWord_4 (by decide) (fun g1 => ?_) (fun g1 => ?_)
    · obtain ⟨q, -, q2, rfl⟩ := inr_nat (lo := 0) (hi := 50) h1 (by omega) (by omega)
      refine e_aload_n dX9_rankedWord_10 rfl rfl ?_
      refine e_iload_n dX9_rankedWord_11 rfl rfl ?_
      refine e_iload_n dX9_rankedWord_12 rfl rfl ?_
      refine m_callV (As := [_, _]) lc_X9_198 dX9_rankedWord_13 (ly_0 B _ _) rfl rfl (by simp [Value.category]) (Nat.le_of_ble_eq_true rfl) (Nat.le_of_ble_eq_true rfl) ⟨Nat.le_of_ble_eq_true rfl, Nat.le_of_ble_eq_true rfl⟩ ⟨Nat.le_of_ble_eq_true rfl, Nat.le_of_ble_eq_true rfl⟩ (c_rankWords m9 (lim := q) b hc q2) (fun v9 m1 hp9 => ?_)
      obtain ⟨rfl, ⟨n, g, a1, a2, a3, a4⟩, a5⟩ := hp9
      have a2' : sug S (cst S b) (nI q).toNatClampNeg n g := by rw [nI_clamp (by omega)]; exact a2
      refine e_iload_n dX9_rankedWord_16 rfl rfl ?_
      refine e_if_lt 31 dX9_rankedWord_17 (by decide) (fun g2 => ?_) (fun g2 => ?_)
      · refine e_iconst (v := -1) dX9_rankedWord_31 (by decide) ?_
        exact m_iret dX9_rankedWord_32 rfl (Nat.le_refl _) (Nat.le_refl _) (⟨⟨_, rfl, Or.inr ⟨h1, n, g, a1, a2', Or.inr ⟨fun z hz e => nI_pos (n := z) (by omega) (e ▸ g2), rfl⟩⟩⟩, a5⟩)
      · obtain ⟨z, z1, rfl⟩ := nI_of g2
        refine e_iload_n dX9_rankedWord_20 rfl rfl ?_
        refine e_aload_n dX9_rankedWord_21 rfl rfl ?_
        refine m_get 9 5 lf_X9_49 dX9_rankedWord_22 (ly_0 B _ _) rfl ?_
        refine m_get 4 3 lf_X9_202 dX9_rankedWord_25 (ly_192 B _ _) rfl ?_
        refine e_top (w := nI n) (a3) ?_
        refine n_icmp_lt 33 dX9_rankedWord_28 (by decide) (by omega) (by omega) (fun g3 => ?_) (fun g3 => ?_)
        · refine e_aload_n dX9_rankedWord_33 rfl rfl ?_
          refine m_get 9 5 lf_X9_49 dX9_rankedWord_34 (ly_0 B _ _) rfl ?_
          refine m_get 4 0 lf_X9_203 dX9_rankedWord_37 (ly_192 B _ _) rfl ?_
          refine e_iload_n dX9_rankedWord_40 rfl rfl ?_
          refine m_iald (z) dX9_rankedWord_41 (ly_193 B _ _) (rfl) (by omega) (by decide) ?_
          refine e_top (w := nI (g z)) (a4 z g3) ?_
          exact m_iret dX9_rankedWord_42 rfl (Nat.le_refl _) (Nat.le_refl _) (⟨⟨_, rfl, Or.inr ⟨h1, n, g, a1, a2', Or.inl ⟨z, g3, rfl, rfl⟩⟩⟩, a5⟩)
        · refine e_iconst (v := -1) dX9_rankedWord_31 (by decide) ?_
          exact m_iret dX9_rankedWord_32 rfl (Nat.le_refl _) (Nat.le_refl _) (⟨⟨_, rfl, Or.inr ⟨h1, n, g, a1, a2', Or.inr ⟨fun y hy e => by have := (nI_eq z1 (by omega)).mp e; omega, rfl⟩⟩⟩, a5⟩)
    · exact absurd g1 (by decide)
  · refine e_if_ne 10 dX9_rankedWord_4 (by decide) (fun g1 => ?_) (fun g1 => ?_)
    · exact absurd rfl g1
    · refine e_bipush (v := -2) dX9_rankedWord_7 (by decide) ?_
      exact m_iret dX9_rankedWord_9 rfl (Nat.le_refl _) (Nat.le_refl _) (⟨⟨_, rfl, Or.inl ⟨h1, rfl⟩⟩, fr.rf _⟩)
set_option maxRecDepth 100000 in
theorem c_suggest (m : mm_M) {S : sp_S} (x : Int32) (hc : cs m S) : mm_F l D kA B sz o 8 180 mX9_suggest [.ref (B + 0), .int x] m (fun v m' => (∃ y, v = some (.int y) ∧ R_many S false x y) ∧ fr m m') := by
  refine mm_F.of ?_
  refine e_aload_n dX9_suggest_0 rfl rfl ?_
  refine e_iload_n dX9_suggest_1 rfl rfl ?_
  refine e_iconst (v := nI 0) dX9_suggest_2 (by decide) ?_
  refine m_callV (As := [_, _]) lc_X9_135 dX9_suggest_3 (ly_0 B _ _) rfl rfl (by simp [Value.category]) (Nat.le_of_ble_eq_true rfl) (Nat.le_of_ble_eq_true rfl) ⟨Nat.le_of_ble_eq_true rfl, Nat.le_of_ble_eq_true rfl⟩ ⟨Nat.le_of_ble_eq_true rfl, Nat.le_of_ble_eq_true rfl⟩ (c_howMany m x false hc) (fun v9 m9 hp9 => ?_)
  obtain ⟨⟨y, rfl, h1⟩, h2⟩ := hp9
  exact m_iret dX9_suggest_6 rfl (Nat.le_refl _) (Nat.le_refl _) (⟨⟨y, rfl, h1⟩, h2⟩)
set_option maxRecDepth 100000 in
theorem c_endings (m : mm_M) {S : sp_S} (x : Int32) (hc : cs m S) : mm_F l D kA B sz o 8 180 mX9_endings [.ref (B + 0), .int x] m (fun v m' => (∃ y, v = some (.int y) ∧ R_many S true x y) ∧ fr m m') := by
  refine mm_F.of ?_
  refine e_aload_n dX9_endings_0 rfl rfl ?_
  refine e_iload_n dX9_endings_1 rfl rfl ?_
  refine e_iconst (v := nI 1) dX9_endings_2 (by decide) ?_
  refine m_callV (As := [_, _]) lc_X9_135 dX9_endings_3 (ly_0 B _ _) rfl rfl (by simp [Value.category]) (Nat.le_of_ble_eq_true rfl) (Nat.le_of_ble_eq_true rfl) ⟨Nat.le_of_ble_eq_true rfl, Nat.le_of_ble_eq_true rfl⟩ ⟨Nat.le_of_ble_eq_true rfl, Nat.le_of_ble_eq_true rfl⟩ (c_howMany m x true hc) (fun v9 m9 hp9 => ?_)
  obtain ⟨⟨y, rfl, h1⟩, h2⟩ := hp9
  exact m_iret dX9_endings_6 rfl (Nat.le_refl _) (Nat.le_refl _) (⟨⟨y, rfl, h1⟩, h2⟩)
set_option maxRecDepth 100000 in
theorem c_suggestion (m : mm_M) {S : sp_S} (x i : Int32) (hc : cs m S) : mm_F l D kA B sz o 8 181 mX9_suggestion [.ref (B + 0), .int x, .int i] m (fun v m' => (∃ y, v = some (.int y) ∧ R_rank S false x i y) ∧ fr m m') := by
  refine mm_F.of ?_
  refine e_aload_n dX9_suggestion_0 rfl rfl ?_
  refine e_iload_n dX9_suggestion_1 rfl rfl ?_
  refine e_iload_n dX9_suggestion_2 rfl rfl ?_
  refine e_iconst (v := nI 0) dX9_suggestion_3 (by decide) ?_
  refine m_callV (As := [_, _, _]) lc_X9_139 dX9_suggestion_4 (ly_0 B _ _) rfl rfl (by simp [Value.category]) (Nat.le_of_ble_eq_true rfl) (Nat.le_of_ble_eq_true rfl) ⟨Nat.le_of_ble_eq_true rfl, Nat.le_of_ble_eq_true rfl⟩ ⟨Nat.le_of_ble_eq_true rfl, Nat.le_of_ble_eq_true rfl⟩ (c_rankedWord m x i false hc) (fun v9 m9 hp9 => ?_)
  obtain ⟨⟨y, rfl, h1⟩, h2⟩ := hp9
  exact m_iret dX9_suggestion_7 rfl (Nat.le_refl _) (Nat.le_refl _) (⟨⟨y, rfl, h1⟩, h2⟩)
set_option maxRecDepth 100000 in
theorem c_ending (m : mm_M) {S : sp_S} (x i : Int32) (hc : cs m S) : mm_F l D kA B sz o 8 181 mX9_ending [.ref (B + 0), .int x, .int i] m (fun v m' => (∃ y, v = some (.int y) ∧ R_rank S true x i y) ∧ fr m m') := by
  refine mm_F.of ?_
  refine e_aload_n dX9_ending_0 rfl rfl ?_
  refine e_iload_n dX9_ending_1 rfl rfl ?_
  refine e_iload_n dX9_ending_2 rfl rfl ?_
  refine e_iconst (v := nI 1) dX9_ending_3 (by decide) ?_
  refine m_callV (As := [_, _, _]) lc_X9_139 dX9_ending_4 (ly_0 B _ _) rfl rfl (by simp [Value.category]) (Nat.le_of_ble_eq_true rfl) (Nat.le_of_ble_eq_true rfl) ⟨Nat.le_of_ble_eq_true rfl, Nat.le_of_ble_eq_true rfl⟩ ⟨Nat.le_of_ble_eq_true rfl, Nat.le_of_ble_eq_true rfl⟩ (c_rankedWord m x i true hc) (fun v9 m9 hp9 => ?_)
  obtain ⟨⟨y, rfl, h1⟩, h2⟩ := hp9
  exact m_iret dX9_ending_7 rfl (Nat.le_refl _) (Nat.le_refl _) (⟨⟨y, rfl, h1⟩, h2⟩)
end RKW
end
section
/-! the answers and the next state, for what is simple -/
def pushT (S : sp_S) (a : Nat) : sp_S := ((tn S + 1, va_up (tl S) (tn S) a), S.2)
def clrT (S : sp_S) : sp_S := ((0, tl S), S.2)
def addW (S : sp_S) (n : Nat) : sp_S := (S.1, (wn S + 1, va_up (wl S) (wn S) (tn S), va_up (wt S) (wn S) (tl S), va_up (wc S) (wn S) n), S.2.2)
def setC (S : sp_S) (q n : Nat) : sp_S := (S.1, (wn S, wl S, wt S, va_up (wc S) q n), S.2.2)
def setP (S : sp_S) (k v : Nat) : sp_S := (S.1, S.2.1, (va_up (pp S) k v, ww S), S.2.2.2)
def setN (S : sp_S) (a b v : Nat) : sp_S := (S.1, S.2.1, (pp S, va_up (ww S) a (va_up (ww S a) b v)), S.2.2.2)
def setA (S : sp_S) (a b : Nat) (on : Bool) : sp_S := (S.1, S.2.1, S.2.2.1, va_up (pa S) a (va_up (pa S a) b on), S.2.2.2.2)
def addK (S : sp_S) : sp_S := ((0, tl S), S.2.1, S.2.2.1, S.2.2.2.1, (kn S + 1, va_up (kl S) (kn S) (tn S), va_up (kt S) (kn S) (tl S)))
def clrK (S : sp_S) : sp_S := (S.1, S.2.1, S.2.2.1, S.2.2.2.1, (0, kl S, kt S))
/-- nothing of the reference's is another -/
def frm (m m' : mm_M) : Prop := ∀ a, 226 ≤ a → m' a = m a
theorem fr.frm {m m' : mm_M} (h : fr m m') : frm m m' := fun a ha => h a (Or.inr ha)
def R_letter (S : sp_S) (c v : Int32) (S' : sp_S) : Prop := (¬ inr c 0 25 ∧ v = -1 ∧ S' = S) ∨ (∃ a, a ≤ 25 ∧ c = nI a ∧ tn S = 12 ∧ v = -4 ∧ S' = S) ∨ (∃ a, a ≤ 25 ∧ c = nI a ∧ tn S < 12 ∧ v = nI (tn S + 1) ∧ S' = pushT S a)
def R_word (S : sp_S) (c v : Int32) (S' : sp_S) : Prop := ((¬ inr c 1 1000 ∨ tn S = 0) ∧ v = -2 ∧ S' = S) ∨ (inr c 1 1000 ∧ 0 < tn S ∧ (∃ q, q < wn S ∧ sm (wl S q) (wt S q) (tn S) (tl S)) ∧ v = -3 ∧ S' = S) ∨ (inr c 1 1000 ∧ 0 < tn S ∧ (∀ q, q < wn S → ¬ sm (wl S q) (wt S q) (tn S) (tl S)) ∧ wn S = 60 ∧ v = -4 ∧ S' = S) ∨ (∃ n, 1 ≤ n ∧ n ≤ 1000 ∧ c = nI n ∧ 0 < tn S ∧ (∀ q, q < wn S → ¬ sm (wl S q) (wt S q) (tn S) (tl S)) ∧ wn S < 60 ∧ v = nI (wn S) ∧ S' = addW S n)
def R_count (S : sp_S) (w n v : Int32) (S' : sp_S) : Prop := ((∀ q, q < wn S → w ≠ nI q) ∧ v = -1 ∧ S' = S) ∨ (∃ q, q < wn S ∧ w = nI q ∧ ((¬ inr n 1 1000 ∧ v = -2 ∧ S' = S) ∨ ∃ k, 1 ≤ k ∧ k ≤ 1000 ∧ n = nI k ∧ v = nI (wc S q) ∧ S' = setC S q k))
/-- how many words are ahead of a word -/
noncomputable def ct (P : Nat → Prop) : Nat → Nat
  | 0 => 0
  | n + 1 => ct P n + @ite _ (P n) (Classical.propDecidable _) 1 0
noncomputable def rnk (S : sp_S) (q : Nat) : Nat := ct (fun w => wa S w q) (wn S)
def R_at (S : sp_S) (w i v : Int32) : Prop := ((∀ q, q < wn S → w ≠ nI q) ∧ v = -1) ∨ (∃ q, q < wn S ∧ w = nI q ∧ ((i = -1 ∧ v = nI (rnk S q)) ∨ (i = -2 ∧ v = nI (wl S q)) ∨ (∃ k, k < wl S q ∧ i = nI k ∧ v = nI (wt S q k)) ∨ (i ≠ -1 ∧ i ≠ -2 ∧ (∀ k, k < wl S q → i ≠ nI k) ∧ v = -1)))
def mostP (k : Nat) : Nat := if k < 4 then 9 else 50
def R_price (S : sp_S) (k x v : Int32) (S' : sp_S) : Prop := ((∀ q, q < 6 → k ≠ nI q) ∧ v = -2 ∧ S' = S) ∨ (∃ q, q < 6 ∧ k = nI q ∧ ((¬ inr x 0 (nI (mostP q)) ∧ v = -2 ∧ S' = S) ∨ ∃ y, y ≤ mostP q ∧ x = nI y ∧ v = nI (pp S q) ∧ S' = setP S q y))
/-- what a letter's own price is said to be -/
def ownV (u : Nat) : Int32 := if u = 0 then -3 else nI (u - 1)
def R_near (S : sp_S) (a b x v : Int32) (S' : sp_S) : Prop := ((¬ (inr a 0 25 ∧ inr b 0 25 ∧ a ≠ b)) ∧ v = -1 ∧ S' = S) ∨ (∃ p q, p ≤ 25 ∧ q ≤ 25 ∧ a = nI p ∧ b = nI q ∧ p ≠ q ∧ ((¬ inr x (-1) 9 ∧ v = -2 ∧ S' = S) ∨ ∃ y, y ≤ 10 ∧ x = nI y - 1 ∧ v = ownV (ww S p q) ∧ S' = setN S p q y))
def R_dist (S : sp_S) (f : Nat → Nat) (w v : Int32) : Prop := ((∀ q, q < wn S → w ≠ nI q) ∧ v = -1) ∨ (∃ q, q < wn S ∧ w = nI q ∧ v = nI (f q))
def eds (S : sp_S) (q : Nat) : List (Nat × Nat) := ed (pp S) (ww S) (tl S) (wt S q) (tn S) (wl S q)
def R_edit (S : sp_S) (w k v : Int32) : Prop := ((∀ q, q < wn S → w ≠ nI q) ∧ v = -1) ∨ (∃ q, q < wn S ∧ w = nI q ∧ ((k = -1 ∧ v = nI (eds S q).length) ∨ (∃ z x, z < (eds S q).length ∧ k = nI z ∧ (eds S q)[(eds S q).length - 1 - z]? = some x ∧ v = nI x.1) ∨ (k ≠ -1 ∧ (∀ z, z < (eds S q).length → k ≠ nI z) ∧ v = -1)))
def R_place (S : sp_S) (w k v : Int32) : Prop := ((∀ q, q < wn S → w ≠ nI q) ∧ v = -1) ∨ (∃ q, q < wn S ∧ w = nI q ∧ ((∃ z x, z < (eds S q).length ∧ k = nI z ∧ (eds S q)[(eds S q).length - 1 - z]? = some x ∧ v = nI x.2) ∨ ((∀ z, z < (eds S q).length → k ≠ nI z) ∧ v = -1)))
def R_token (S : sp_S) (v : Int32) (S' : sp_S) : Prop := (tn S = 0 ∧ v = -2 ∧ S' = S) ∨ (0 < tn S ∧ kn S = 6 ∧ v = -4 ∧ S' = S) ∨ (0 < tn S ∧ kn S < 6 ∧ v = nI (kn S + 1) ∧ S' = addK S)
def R_pair (S : sp_S) (a b : Int32) (on : Bool) (v : Int32) (S' : sp_S) : Prop := (((∀ q, q < wn S → a ≠ nI q) ∨ (∀ q, q < wn S → b ≠ nI q)) ∧ v = -1 ∧ S' = S) ∨ (∃ p q, p < wn S ∧ q < wn S ∧ a = nI p ∧ b = nI q ∧ v = (if pa S p q = on then nI 0 else nI 1) ∧ S' = setA S p q on)
theorem ct_add {P : Nat → Prop} {a : Nat} (hP : ¬ P a) : ∀ {n : Nat}, ct (fun w => P w ∨ w = a) n = ct P n + if a < n then 1 else 0
  | 0 => by simp [ct]
  | n + 1 => by
    have ih := ct_add hP (n := n)
    unfold ct
    rw [ih]
    by_cases e : n = a
    · subst e
      rw [if_pos (Or.inr rfl), if_neg hP, if_neg (by omega), if_pos (by omega)]
    · by_cases h : P n
      · rw [if_pos (Or.inl h), if_pos h]
        by_cases h2 : a < n
        · rw [if_pos h2, if_pos (by omega)] <;> omega
        · rw [if_neg h2, if_neg (by omega)]
      · rw [if_neg (show ¬ (P n ∨ n = a) from fun q => q.elim h e), if_neg h]
        by_cases h2 : a < n
        · rw [if_pos h2, if_pos (by omega)] <;> omega
        · rw [if_neg h2, if_neg (by omega)] <;> omega
theorem ct_ext {P Q : Nat → Prop} : ∀ {n : Nat}, (∀ w, w < n → (P w ↔ Q w)) → ct P n = ct Q n
  | 0, _ => rfl
  | n + 1, h => by
    unfold ct
    rw [ct_ext (n := n) (fun w hw => h w (by omega))]
    by_cases e : P n
    · rw [if_pos e, if_pos ((h n (by omega)).mp e)]
    · rw [if_neg e, if_neg (fun q => e ((h n (by omega)).mpr q))]
theorem ct_img {f : Nat → Nat} {n : Nat} (inj : ∀ i j, i < n → j < n → f i = f j → i = j) (hf : ∀ i, i < n → f i < n) : ∀ k, k ≤ n → ct (fun w => ∃ i, i < k ∧ f i = w) n = k
  | 0, _ => by
    have : ∀ n, ct (fun w => ∃ i, i < 0 ∧ f i = w) n = 0 := fun n => by
      induction n with
      | zero => rfl
      | succ n ih => unfold ct; rw [ih, if_neg (fun ⟨i, h, _⟩ => by omega)]
    exact this n
  | k + 1, hk => by
    have ih := ct_img inj hf k (by omega)
    have h1 : ct (fun w => ∃ i, i < k + 1 ∧ f i = w) n = ct (fun w => (∃ i, i < k ∧ f i = w) ∨ w = f k) n := ct_ext (fun w _ => ⟨fun ⟨i, a, b⟩ => by
      by_cases e : i = k
      · subst e; exact Or.inr b.symm
      · exact Or.inl ⟨i, by omega, b⟩, fun h => by
      rcases h with ⟨i, a, b⟩ | h
      · exact ⟨i, by omega, b⟩
      · exact ⟨k, by omega, h.symm⟩⟩)
    rw [h1, ct_add (fun ⟨i, a, b⟩ => by have := inj i k (by omega) (by omega) b; omega), ih, if_pos (hf k (by omega))]
theorem rnk_of {m : mm_M} {S : sp_S} {f : Nat → Nat} (h : or_at m (wn S) f (wl S) (wt S)) {k : Nat} (hk : k < wn S) : rnk S (f k) = k := by
  obtain ⟨h1, h2, h3⟩ := h
  have inj : ∀ i j, i < wn S → j < wn S → f i = f j → i = j := fun i j hi hj e => by
    rcases Nat.lt_trichotomy i j with c | c | c
    · exact absurd ⟨rfl, fun _ _ => rfl⟩ (fun z => ah_irr (e ▸ h2 i j c hj) z)
    · exact c
    · exact absurd ⟨rfl, fun _ _ => rfl⟩ (fun z => ah_irr (e ▸ h2 j i c hi) z)
  unfold rnk
  rw [ct_ext (Q := fun w => ∃ i, i < k ∧ f i = w) (fun w hw => ?_), ct_img inj (fun i hi => (h1 i hi).2) k (by omega)]
  obtain ⟨i, i1, rfl⟩ := h3 w hw
  constructor
  · intro e
    refine ⟨i, ?_, rfl⟩
    rcases Nat.lt_trichotomy i k with c | c | c
    · exact c
    · subst c; exact absurd ⟨rfl, fun _ _ => rfl⟩ (fun z => ah_irr e z)
    · exact (ah_asym e (h2 k i c i1)).elim
  · rintro ⟨j, j1, j2⟩
    rw [← j2]
    exact h2 j k j1 hk
end
section
theorem cs_typed {m m' : mm_M} {S : sp_S} {n : Nat} {r : Nat → Nat} (h : cs m S) (h1 : ∀ a, 3 ≤ a → a < 171 → m' a = m a) (hr : rw_at m' 1 2 n r) : cs m' ((n, r), S.2) := by
  obtain ⟨a1, a2, a3, a4, a5, ⟨f, a6⟩, a7, a8, a9⟩ := h
  have n60 := a1.2.2.1
  have k6 := a1.2.2.2.2.2.2.2.2.2.1
  exact ⟨⟨hr.2.1, fun i hi => (hr.2.2 i hi).2, a1.2.2⟩, hr, a3.of (fun a _ _ => h1 a (by omega) (by omega)), (congrFun (h1 32 (by omega) (by omega)) 4).trans a4, fun q hq => ⟨(a5 q hq).1.of (h1 _ (by omega) (by have : q < wn S := hq; omega)) (h1 _ (by omega) (by have : q < wn S := hq; omega)), (congrFun (h1 34 (by omega) (by omega)) q).trans (a5 q hq).2⟩, ⟨f, a6.of (h1 35 (by omega) (by omega))⟩, fun a b ha hb => (congrFun (h1 36 (by omega) (by omega)) _).trans (a7 a b ha hb), (congrFun (h1 157 (by omega) (by omega)) 1).trans a8, fun q hq => (a9 q hq).of (h1 _ (by omega) (by have : q < kn S := hq; omega)) (h1 _ (by omega) (by have : q < kn S := hq; omega))⟩
section PUB
variable {l : Launch} {D : va_G} {kA : FieldType → ClassId} {B sz : Nat} {o : Int64}
set_option maxRecDepth 100000 in
/-- SuggestSpell.letter -/
theorem c_letter (m : mm_M) {S : sp_S} (x : Int32) (hc : cs m S) : mm_F l D kA B sz o 1 21 mX9_letter [.ref (B + 0), .int x] m (fun v m' => ∃ y S', v = some (.int y) ∧ R_letter S x y S' ∧ cs m' S' ∧ frm m m') := by
  have t12 := hc.1.1
  refine mm_F.of ?_
  refine e_iload_n dX9_letter_0 rfl rfl ?_
  refine m_callS (As := [_]) lc_X9_67 dX9_letter_1 rfl rfl (by simp [Value.category]) (Nat.le_of_ble_eq_true rfl) (Nat.le_of_ble_eq_true rfl) ⟨Nat.le_of_ble_eq_true rfl, Nat.le_of_ble_eq_true rfl⟩ ⟨Nat.le_of_ble_eq_true rfl, Nat.le_of_ble_eq_true rfl⟩ (c_isLetter m x) (fun v9 m9 hp9 => ?_)
  obtain ⟨rfl, ⟨rfl, h1⟩ | ⟨rfl, h1⟩⟩ := hp9
  · refine e_if_ne 9 dX9_letter_4 (by decide) (fun g1 => ?_) (fun g1 => ?_)
    · obtain ⟨a, -, a2, rfl⟩ := inr_nat (lo := 0) (hi := 25) h1 (by omega) (by omega)
      refine e_aload_n dX9_letter_9 rfl rfl ?_
      refine m_get 9 0 lf_X9_10 dX9_letter_10 (ly_0 B _ _) rfl ?_
      refine e_iload_n dX9_letter_13 rfl rfl ?_
      refine m_callV (As := [_]) lc_X9_71 dX9_letter_14 (ly_1 B _ _) rfl rfl (by simp [Value.category]) (Nat.le_of_ble_eq_true rfl) (Nat.le_of_ble_eq_true rfl) ⟨Nat.le_of_ble_eq_true rfl, Nat.le_of_ble_eq_true rfl⟩ ⟨Nat.le_of_ble_eq_true rfl, Nat.le_of_ble_eq_true rfl⟩ (c_Row_add m9 (isRow_1 B) (by omega) hc.2.1.1 hc.2.1.2.1 _) (fun v9 m1 hp9 => ?_)
      by_cases e : tn S < 12
      · rw [if_pos e] at hp9
        obtain ⟨rfl, rfl⟩ := hp9
        refine e_if_ne 23 dX9_letter_17 (by decide) (fun g2 => ?_) (fun g2 => ?_)
        · refine e_aload_n dX9_letter_23 rfl rfl ?_
          refine m_get 9 0 lf_X9_10 dX9_letter_24 (ly_0 B _ _) rfl ?_
          refine m_get 5 1 lf_X9_74 dX9_letter_27 (ly_1 B _ _) rfl ?_
          refine e_top (w := nI (tn S + 1)) (wr_same _ _ _ _) ?_
          refine m_iret dX9_letter_30 rfl (Nat.le_refl _) (Nat.le_refl _) ⟨_, _, rfl, Or.inr (Or.inr ⟨a, a2, rfl, e, rfl, rfl⟩), cs_typed hc (fun b b1 b2 => by rw [wr_off _ _ (by omega), wr_off _ _ (by omega)]) ⟨wr_same _ _ _ _, by omega, fun i hi => ?_⟩, fun b hb => by rw [wr_off _ _ (by omega), wr_off _ _ (by omega)]⟩
          rw [wr_off _ _ (show (2 : Nat) ≠ 1 by omega)]
          by_cases e2 : i = tn S
          · rw [e2, wr_same, va_up_self]; exact ⟨rfl, by omega⟩
          · rw [wr_ne _ _ (Or.inr e2), va_up_ne _ _ e2]; exact hc.2.1.2.2 i (by omega)
        · exact absurd g2 (by decide)
      · rw [if_neg e] at hp9
        obtain ⟨rfl, rfl⟩ := hp9
        refine e_if_ne 23 dX9_letter_17 (by decide) (fun g2 => ?_) (fun g2 => ?_)
        · exact absurd rfl g2
        · refine e_bipush (v := -4) dX9_letter_20 (by decide) ?_
          exact m_iret dX9_letter_22 rfl (Nat.le_refl _) (Nat.le_refl _) (⟨_, _, rfl, Or.inr (Or.inl ⟨a, a2, rfl, by omega, rfl, rfl⟩), hc, fun b hb => rfl⟩)
    · exact absurd g1 (by decide)
  · refine e_if_ne 9 dX9_letter_4 (by decide) (fun g1 => ?_) (fun g1 => ?_)
    · exact absurd rfl g1
    · refine e_iconst (v := -1) dX9_letter_7 (by decide) ?_
      exact m_iret dX9_letter_8 rfl (Nat.le_refl _) (Nat.le_refl _) (⟨_, _, rfl, Or.inl ⟨h1, rfl, rfl⟩, hc, fun b hb => rfl⟩)
set_option maxRecDepth 100000 in
/-- SuggestSpell.clear -/
theorem c_clear (m : mm_M) {S : sp_S} (hc : cs m S) : mm_F l D kA B sz o 0 0 mX9_clear [.ref (B + 0)] m (fun v m' => v = some (.int (nI (tn S))) ∧ cs m' (clrT S) ∧ frm m m') := by
  refine mm_F.of ?_
  refine e_aload_n dX9_clear_0 rfl rfl ?_
  refine m_get 9 0 lf_X9_10 dX9_clear_1 (ly_0 B _ _) rfl ?_
  refine m_get 5 1 lf_X9_74 dX9_clear_4 (ly_1 B _ _) rfl ?_
  refine e_top (w := nI (tn S)) (hc.2.1.1) ?_
  refine e_istore_n dX9_clear_7 rfl (by decide) rfl ?_
  refine e_aload_n dX9_clear_8 rfl rfl ?_
  refine m_get 9 0 lf_X9_10 dX9_clear_9 (ly_0 B _ _) rfl ?_
  refine e_iconst (v := nI 0) dX9_clear_12 (by decide) ?_
  refine m_puti 5 1 lp_X9_74 dX9_clear_13 (ly_1 B _ _) (Nat.le_of_ble_eq_true rfl) (ly_1 B _ _) rfl ?_
  refine e_iload_n dX9_clear_16 rfl rfl ?_
  exact m_iret dX9_clear_17 rfl (Nat.le_refl _) (Nat.le_refl _) (⟨rfl, cs_typed hc (fun b b1 b2 => wr_off _ _ (by omega)) ⟨wr_same _ _ _ _, by omega, fun i hi => by omega⟩, fun b hb => wr_off _ _ (by omega)⟩)
set_option maxRecDepth 100000 in
/-- SuggestSpell.word -/
theorem c_word (m : mm_M) {S : sp_S} (x : Int32) (hc : cs m S) : mm_F l D kA B sz o 3 68 mX9_word [.ref (B + 0), .int x] m (fun v m' => ∃ y S', v = some (.int y) ∧ R_word S x y S' ∧ cs m' S' ∧ frm m m') := by
  have t12 := hc.1.1
  have n60 := hc.1.2.2.1
  have k6 := hc.1.2.2.2.2.2.2.2.2.2.1
  refine mm_F.of ?_
  refine e_iload_n dX9_word_0 rfl rfl ?_
  refine m_callS (As := [_]) lc_X9_78 dX9_word_1 rfl rfl (by simp [Value.category]) (Nat.le_of_ble_eq_true rfl) (Nat.le_of_ble_eq_true rfl) ⟨Nat.le_of_ble_eq_true rfl, Nat.le_of_ble_eq_true rfl⟩ ⟨Nat.le_of_ble_eq_true rfl, Nat.le_of_ble_eq_true rfl⟩ (c_isCount m x) (fun v9 m9 hp9 => ?_)
  obtain ⟨rfl, ⟨rfl, h1⟩ | ⟨rfl, h1⟩⟩ := hp9
  · refine e_if_eq 17 dX9_word_4 (by decide) (fun g1 => ?_) (fun g1 => ?_)
    · exact absurd g1 (by decide)
    · obtain ⟨n, n1, n2, rfl⟩ := inr_nat (lo := 1) (hi := 1000) h1 (by omega) (by omega)
      refine e_aload_n dX9_word_7 rfl rfl ?_
      refine m_get 9 0 lf_X9_10 dX9_word_8 (ly_0 B _ _) rfl ?_
      refine m_get 5 1 lf_X9_74 dX9_word_11 (ly_1 B _ _) rfl ?_
      refine e_top (w := nI (tn S)) (hc.2.1.1) ?_
      refine n_if_ne 20 dX9_word_14 (by decide) (by omega) (fun g2 => ?_) (fun g2 => ?_)
      · refine e_aload_n dX9_word_20 rfl rfl ?_
        refine m_get 9 2 lf_X9_26 dX9_word_21 (ly_0 B _ _) rfl ?_
        refine e_aload_n dX9_word_24 rfl rfl ?_
        refine m_get 9 0 lf_X9_10 dX9_word_25 (ly_0 B _ _) rfl ?_
        refine m_callV (As := [_]) lc_X9_81 dX9_word_28 (ly_32 B _ _) rfl rfl (by simp [Value.category]) (Nat.le_of_ble_eq_true rfl) (Nat.le_of_ble_eq_true rfl) ⟨Nat.le_of_ble_eq_true rfl, Nat.le_of_ble_eq_true rfl⟩ ⟨Nat.le_of_ble_eq_true rfl, Nat.le_of_ble_eq_true rfl⟩ (c_hasRow m9 hc.2.2.2.1 n60 hc.2.1 (fun i hi => (hc.2.2.2.2.1 i hi).1)) (fun v9 m1 hp9 => ?_)
        obtain ⟨rfl, ⟨rfl, h2⟩ | ⟨rfl, h2⟩⟩ := hp9
        · refine e_if_eq 37 dX9_word_31 (by decide) (fun g3 => ?_) (fun g3 => ?_)
          · exact absurd g3 (by decide)
          · refine e_bipush (v := -3) dX9_word_34 (by decide) ?_
            exact m_iret dX9_word_36 rfl (Nat.le_refl _) (Nat.le_refl _) (⟨_, _, rfl, Or.inr (Or.inl ⟨h1, by omega, h2, rfl, rfl⟩), hc, fun b hb => rfl⟩)
        · refine e_if_eq 37 dX9_word_31 (by decide) (fun g3 => ?_) (fun g3 => ?_)
          · refine e_aload_n dX9_word_37 rfl rfl ?_
            refine m_get 9 2 lf_X9_26 dX9_word_38 (ly_0 B _ _) rfl ?_
            refine m_get 8 4 lf_X9_85 dX9_word_41 (ly_32 B _ _) rfl ?_
            refine e_top (w := nI (wn S)) (hc.2.2.2.1) ?_
            refine e_bipush (v := nI 60) dX9_word_44 (by decide) ?_
            refine n_icmp_lt 52 dX9_word_46 (by decide) (by omega) (by omega) (fun g4 => ?_) (fun g4 => ?_)
            · obtain ⟨f, hf⟩ := hc.2.2.2.2.2.1
              refine e_aload_n dX9_word_52 rfl rfl ?_
              refine m_get 9 2 lf_X9_26 dX9_word_53 (ly_0 B _ _) rfl ?_
              refine e_aload_n dX9_word_56 rfl rfl ?_
              refine m_get 9 0 lf_X9_10 dX9_word_57 (ly_0 B _ _) rfl ?_
              refine e_iload_n dX9_word_60 rfl rfl ?_
              refine m_callV (As := [_, _]) lc_X9_88 dX9_word_61 (ly_32 B _ _) rfl rfl (by simp [Value.category]) (Nat.le_of_ble_eq_true rfl) (Nat.le_of_ble_eq_true rfl) ⟨Nat.le_of_ble_eq_true rfl, Nat.le_of_ble_eq_true rfl⟩ ⟨Nat.le_of_ble_eq_true rfl, Nat.le_of_ble_eq_true rfl⟩ (c_Words_add m1 (cn := n) hc.2.2.2.1 g4 hc.2.1 (fun i hi => (hc.2.2.2.2.1 i hi).1) hf h2) (fun v9 m2 hp9 => ?_)
              obtain ⟨rfl, b1, b2, b3, b4, b5, b6⟩ := hp9
              refine m_iret dX9_word_64 rfl (Nat.le_refl _) (Nat.le_refl _) ⟨_, _, rfl, Or.inr (Or.inr (Or.inr ⟨n, n1, n2, rfl, by omega, h2, g4, rfl, rfl⟩)), ?_, fun b hb => b6 b (by omega) (by omega) (by omega) (by omega) (by omega)⟩
              obtain ⟨a1, a2, a3, a4, a5, a6, a7, a8, a9⟩ := hc
              refine ⟨⟨a1.1, a1.2.1, by show wn S + 1 ≤ 60; omega, fun q hq => ?_, fun a b ha hb hs => ?_, a1.2.2.2.2.2⟩, a2.of (b6 1 (by omega) (by omega) (by omega) (by omega) (by omega)) (b6 2 (by omega) (by omega) (by omega) (by omega) (by omega)), a3.of (fun a _ _ => b6 a (by omega) (by omega) (by omega) (by omega) (by omega)), b1, fun q hq => ?_, b5, fun a b ha hb => by rw [b6 36 (by omega) (by omega) (by omega) (by omega) (by omega)]; exact a7 a b ha hb, (congrFun (b6 157 (by omega) (by omega) (by omega) (by omega) (by omega)) 1).trans a8, fun q hq => (a9 q hq).of (b6 _ (by omega) (by omega) (by omega) (by omega) (by omega)) (b6 _ (by omega) (by omega) (by omega) (by omega) (by omega))⟩
              · show 1 ≤ va_up (wl S) (wn S) (tn S) q ∧ va_up (wl S) (wn S) (tn S) q ≤ 12 ∧ (∀ i, i < va_up (wl S) (wn S) (tn S) q → va_up (wt S) (wn S) (tl S) q i < 26) ∧ 1 ≤ va_up (wc S) (wn S) n q ∧ va_up (wc S) (wn S) n q ≤ 1000
                have hq' : q < wn S + 1 := hq
                by_cases e : q = wn S
                · subst e
                  rw [va_up_self, va_up_self, va_up_self]
                  exact ⟨by omega, by omega, a1.2.1, n1, n2⟩
                · rw [va_up_ne _ _ e, va_up_ne _ _ e, va_up_ne _ _ e]
                  exact a1.2.2.2.1 q (by omega)
              · have ha' : a < wn S + 1 := ha
                have hb' : b < wn S + 1 := hb
                change sm (va_up (wl S) (wn S) (tn S) a) (va_up (wt S) (wn S) (tl S) a) (va_up (wl S) (wn S) (tn S) b) (va_up (wt S) (wn S) (tl S) b) at hs
                by_cases e : a = wn S
                · by_cases e2 : b = wn S
                  · rw [e, e2]
                  · subst e
                    rw [va_up_self, va_up_self, va_up_ne _ _ e2, va_up_ne _ _ e2] at hs
                    exact absurd ⟨hs.1.symm, fun i hi => (hs.2 i (by rw [hs.1]; exact hi)).symm⟩ (h2 b (by omega))
                · by_cases e2 : b = wn S
                  · subst e2
                    rw [va_up_self, va_up_self, va_up_ne _ _ e, va_up_ne _ _ e] at hs
                    exact absurd hs (h2 a (by omega))
                  · rw [va_up_ne _ _ e, va_up_ne _ _ e, va_up_ne _ _ e2, va_up_ne _ _ e2] at hs
                    exact a1.2.2.2.2.1 a b (by omega) (by omega) hs
              · have hq' : q < wn S + 1 := hq
                show rw_at m2 (37 + 2 * q) (38 + 2 * q) (va_up (wl S) (wn S) (tn S) q) (va_up (wt S) (wn S) (tl S) q) ∧ m2 34 q = nI (va_up (wc S) (wn S) n q)
                by_cases e : q = wn S
                · subst e
                  rw [va_up_self, va_up_self, va_up_self]
                  exact ⟨b2, b3⟩
                · rw [va_up_ne _ _ e, va_up_ne _ _ e, va_up_ne _ _ e, b4 q e]
                  exact ⟨(a5 q (by omega)).1.of (b6 _ (by omega) (by omega) (by omega) (by omega) (by omega)) (b6 _ (by omega) (by omega) (by omega) (by omega) (by omega)), (a5 q (by omega)).2⟩
            · refine e_bipush (v := -4) dX9_word_49 (by decide) ?_
              exact m_iret dX9_word_51 rfl (Nat.le_refl _) (Nat.le_refl _) (⟨_, _, rfl, Or.inr (Or.inr (Or.inl ⟨h1, by omega, h2, by omega, rfl, rfl⟩)), hc, fun b hb => rfl⟩)
          · exact absurd rfl g3
      · refine e_bipush (v := -2) dX9_word_17 (by decide) ?_
        exact m_iret dX9_word_19 rfl (Nat.le_refl _) (Nat.le_refl _) (⟨_, _, rfl, Or.inl ⟨Or.inr g2, rfl, rfl⟩, hc, fun b hb => rfl⟩)
  · refine e_if_eq 17 dX9_word_4 (by decide) (fun g1 => ?_) (fun g1 => ?_)
    · refine e_bipush (v := -2) dX9_word_17 (by decide) ?_
      exact m_iret dX9_word_19 rfl (Nat.le_refl _) (Nat.le_refl _) (⟨_, _, rfl, Or.inl ⟨Or.inl h1, rfl, rfl⟩, hc, fun b hb => rfl⟩)
    · exact absurd rfl g1
set_option maxRecDepth 100000 in
/-- SuggestSpell.count -/
theorem c_count (m : mm_M) {S : sp_S} (w n : Int32) (hc : cs m S) : mm_F l D kA B sz o 1 21 mX9_count [.ref (B + 0), .int w, .int n] m (fun v m' => ∃ y S', v = some (.int y) ∧ R_count S w n y S' ∧ cs m' S' ∧ frm m m') := by
  have n60 := hc.1.2.2.1
  refine mm_F.of ?_
  refine e_aload_n dX9_count_0 rfl rfl ?_
  refine m_get 9 2 lf_X9_26 dX9_count_1 (ly_0 B _ _) rfl ?_
  refine e_iload_n dX9_count_4 rfl rfl ?_
  refine m_callV (As := [_]) lc_X9_91 dX9_count_5 (ly_32 B _ _) rfl rfl (by simp [Value.category]) (Nat.le_of_ble_eq_true rfl) (Nat.le_of_ble_eq_true rfl) ⟨Nat.le_of_ble_eq_true rfl, Nat.le_of_ble_eq_true rfl⟩ ⟨Nat.le_of_ble_eq_true rfl, Nat.le_of_ble_eq_true rfl⟩ (c_has m hc.2.2.2.1 n60 w) (fun v9 m9 hp9 => ?_)
  obtain ⟨rfl, ⟨rfl, q, q1, rfl⟩ | ⟨rfl, h1⟩⟩ := hp9
  · refine e_if_ne 13 dX9_count_8 (by decide) (fun g1 => ?_) (fun g1 => ?_)
    · refine e_iload_n dX9_count_13 rfl rfl ?_
      refine m_callS (As := [_]) lc_X9_78 dX9_count_14 rfl rfl (by simp [Value.category]) (Nat.le_of_ble_eq_true rfl) (Nat.le_of_ble_eq_true rfl) ⟨Nat.le_of_ble_eq_true rfl, Nat.le_of_ble_eq_true rfl⟩ ⟨Nat.le_of_ble_eq_true rfl, Nat.le_of_ble_eq_true rfl⟩ (c_isCount m9 n) (fun v9 m1 hp9 => ?_)
      obtain ⟨rfl, ⟨rfl, h2⟩ | ⟨rfl, h2⟩⟩ := hp9
      · refine e_if_ne 23 dX9_count_17 (by decide) (fun g2 => ?_) (fun g2 => ?_)
        · obtain ⟨k, k1, k2, rfl⟩ := inr_nat (lo := 1) (hi := 1000) h2 (by omega) (by omega)
          refine e_aload_n dX9_count_23 rfl rfl ?_
          refine m_get 9 2 lf_X9_26 dX9_count_24 (ly_0 B _ _) rfl ?_
          refine m_get 8 1 lf_X9_94 dX9_count_27 (ly_32 B _ _) rfl ?_
          refine e_iload_n dX9_count_30 rfl rfl ?_
          refine m_iald (q) dX9_count_31 (ly_34 B _ _) (rfl) (by omega) (by decide) ?_
          refine e_top (w := nI (wc S q)) ((hc.2.2.2.2.1 q q1).2) ?_
          refine e_istore_n dX9_count_32 rfl (by decide) rfl ?_
          refine e_aload_n dX9_count_33 rfl rfl ?_
          refine m_get 9 2 lf_X9_26 dX9_count_34 (ly_0 B _ _) rfl ?_
          refine m_get 8 1 lf_X9_94 dX9_count_37 (ly_32 B _ _) rfl ?_
          refine e_iload_n dX9_count_40 rfl rfl ?_
          refine e_iload_n dX9_count_41 rfl rfl ?_
          refine m_iast (q) dX9_count_42 (fun m => ly_34 B m _) (rfl) (by omega) (by decide) ?_
          refine e_iload_n dX9_count_43 rfl rfl ?_
          refine m_iret dX9_count_44 rfl (Nat.le_refl _) (Nat.le_refl _) ⟨_, _, rfl, Or.inr ⟨q, q1, rfl, Or.inr ⟨k, k1, k2, rfl, rfl, rfl⟩⟩, ?_, fun b hb => wr_off _ _ (by omega)⟩
          obtain ⟨a1, a2, a3, a4, a5, ⟨f, a6⟩, a7, a8, a9⟩ := hc
          have k6 := a1.2.2.2.2.2.2.2.2.2.1
          refine ⟨⟨a1.1, a1.2.1, n60, fun p hp => ?_, a1.2.2.2.2⟩, a2.of (wr_off _ _ (by omega)) (wr_off _ _ (by omega)), a3.of (fun a _ _ => wr_off _ _ (by omega)), (congrFun (wr_off _ _ (by omega)) 4).trans a4, fun p hp => ⟨(a5 p hp).1.of (wr_off _ _ (by omega)) (wr_off _ _ (by omega)), ?_⟩, ⟨f, a6.of (wr_off _ _ (by omega))⟩, fun a b ha hb => (congrFun (wr_off _ _ (by omega)) _).trans (a7 a b ha hb), (congrFun (wr_off _ _ (by omega)) 1).trans a8, fun p hp => (a9 p hp).of (wr_off _ _ (by omega)) (wr_off _ _ (by omega))⟩
          · show 1 ≤ wl S p ∧ wl S p ≤ 12 ∧ (∀ i, i < wl S p → wt S p i < 26) ∧ 1 ≤ va_up (wc S) q k p ∧ va_up (wc S) q k p ≤ 1000
            have h9 := a1.2.2.2.1 p hp
            refine ⟨h9.1, h9.2.1, h9.2.2.1, ?_⟩
            by_cases e : p = q
            · rw [e, va_up_self]; exact ⟨k1, k2⟩
            · rw [va_up_ne _ _ e]; exact h9.2.2.2
          · show wr m1 34 q (nI k) 34 p = nI (va_up (wc S) q k p)
            by_cases e : p = q
            · rw [e, va_up_self, wr_same]
            · rw [va_up_ne _ _ e, wr_ne _ _ (Or.inr e)]; exact (a5 p hp).2
        · exact absurd g2 (by decide)
      · refine e_if_ne 23 dX9_count_17 (by decide) (fun g2 => ?_) (fun g2 => ?_)
        · exact absurd rfl g2
        · refine e_bipush (v := -2) dX9_count_20 (by decide) ?_
          exact m_iret dX9_count_22 rfl (Nat.le_refl _) (Nat.le_refl _) (⟨_, _, rfl, Or.inr ⟨q, q1, rfl, Or.inl ⟨h2, rfl, rfl⟩⟩, hc, fun b hb => rfl⟩)
    · exact absurd g1 (by decide)
  · refine e_if_ne 13 dX9_count_8 (by decide) (fun g1 => ?_) (fun g1 => ?_)
    · exact absurd rfl g1
    · refine e_iconst (v := -1) dX9_count_11 (by decide) ?_
      exact m_iret dX9_count_12 rfl (Nat.le_refl _) (Nat.le_refl _) (⟨_, _, rfl, Or.inl ⟨h1, rfl, rfl⟩, hc, fun b hb => rfl⟩)
set_option maxRecDepth 100000 in
/-- SuggestSpell.at -/
theorem c_at (m : mm_M) {S : sp_S} (w i : Int32) (hc : cs m S) : mm_F l D kA B sz o 1 23 mX9_at [.ref (B + 0), .int w, .int i] m (fun v m' => (∃ y, v = some (.int y) ∧ R_at S w i y) ∧ fr m m') := by
  have n60 := hc.1.2.2.1
  refine mm_F.of ?_
  refine e_aload_n dX9_at_0 rfl rfl ?_
  refine m_get 9 2 lf_X9_26 dX9_at_1 (ly_0 B _ _) rfl ?_
  refine e_iload_n dX9_at_4 rfl rfl ?_
  refine m_callV (As := [_]) lc_X9_91 dX9_at_5 (ly_32 B _ _) rfl rfl (by simp [Value.category]) (Nat.le_of_ble_eq_true rfl) (Nat.le_of_ble_eq_true rfl) ⟨Nat.le_of_ble_eq_true rfl, Nat.le_of_ble_eq_true rfl⟩ ⟨Nat.le_of_ble_eq_true rfl, Nat.le_of_ble_eq_true rfl⟩ (c_has m hc.2.2.2.1 n60 w) (fun v9 m9 hp9 => ?_)
  obtain ⟨rfl, ⟨rfl, q, q1, rfl⟩ | ⟨rfl, h1⟩⟩ := hp9
  · refine e_if_ne 13 dX9_at_8 (by decide) (fun g1 => ?_) (fun g1 => ?_)
    · obtain ⟨f, hf⟩ := hc.2.2.2.2.2.1
      obtain ⟨k, k1, k2⟩ := hf.2.2 q q1
      have hr := (hc.2.2.2.2.1 q q1).1
      have w12 := hr.2.1
      have inj : ∀ j, j < k → f j ≠ q := fun j hj e => ah_irr (show ah (wl S (f j)) (wt S (f j)) (wl S (f k)) (wt S (f k)) from hf.2.1 j k hj k1) (by rw [e, k2]; exact ⟨rfl, fun _ _ => rfl⟩)
      refine e_aload_n dX9_at_13 rfl rfl ?_
      refine m_get 9 2 lf_X9_26 dX9_at_14 (ly_0 B _ _) rfl ?_
      refine m_get 8 0 lf_X9_98 dX9_at_17 (ly_32 B _ _) rfl ?_
      refine e_iload_n dX9_at_20 rfl rfl ?_
      refine m_aald (r := 37 + 2 * q) (q) dX9_at_21 (by decide) rfl (ly_33 B _ _) (rfl) (by omega) (by decide) (if_pos (by omega)) ?_
      refine e_astore_n dX9_at_22 rfl (by decide) rfl ?_
      refine e_iload_n dX9_at_23 rfl rfl ?_
      refine e_iconst (v := -1) dX9_at_24 (by decide) ?_
      refine e_icmp_ne 37 dX9_at_25 (by decide) (fun g2 => ?_) (fun g2 => ?_)
      · refine e_iload_n dX9_at_37 rfl rfl ?_
        refine e_bipush (v := -2) dX9_at_38 (by decide) ?_
        refine e_icmp_ne 48 dX9_at_40 (by decide) (fun g3 => ?_) (fun g3 => ?_)
        · refine e_iload_n dX9_at_48 rfl rfl ?_
          refine e_if_lt 60 dX9_at_49 (by decide) (fun g4 => ?_) (fun g4 => ?_)
          · refine e_iconst (v := -1) dX9_at_60 (by decide) ?_
            exact m_iret dX9_at_61 rfl (Nat.le_refl _) (Nat.le_refl _) (⟨⟨_, rfl, Or.inr ⟨q, q1, rfl, Or.inr (Or.inr (Or.inr ⟨g2, g3, fun z hz e => nI_pos (n := z) (by omega) (e ▸ g4), rfl⟩))⟩⟩, fr.rf _⟩)
          · obtain ⟨z, z1, rfl⟩ := nI_of g4
            refine e_iload_n dX9_at_52 rfl rfl ?_
            refine e_aload_n dX9_at_53 rfl rfl ?_
            refine m_get 5 1 lf_X9_74 dX9_at_54 (ly_wr B _ _ (i := q) (by omega)) rfl ?_
            refine e_top (w := nI (wl S q)) (hr.1) ?_
            refine n_icmp_lt 62 dX9_at_57 (by decide) (by omega) (by omega) (fun g5 => ?_) (fun g5 => ?_)
            · refine e_aload_n dX9_at_62 rfl rfl ?_
              refine m_get 5 0 lf_X9_106 dX9_at_63 (ly_wr B _ _ (i := q) (by omega)) rfl ?_
              refine e_iload_n dX9_at_66 rfl rfl ?_
              refine m_iald (z) dX9_at_67 (ly_wl B _ _ (i := q) (by omega)) (rfl) (by omega) (by decide) ?_
              refine e_top (w := nI (wt S q z)) ((hr.2.2 z g5).1) ?_
              exact m_iret dX9_at_68 rfl (Nat.le_refl _) (Nat.le_refl _) (⟨⟨_, rfl, Or.inr ⟨q, q1, rfl, Or.inr (Or.inr (Or.inl ⟨z, g5, rfl, rfl⟩))⟩⟩, fr.rf _⟩)
            · refine e_iconst (v := -1) dX9_at_60 (by decide) ?_
              exact m_iret dX9_at_61 rfl (Nat.le_refl _) (Nat.le_refl _) (⟨⟨_, rfl, Or.inr ⟨q, q1, rfl, Or.inr (Or.inr (Or.inr ⟨g2, g3, fun y hy e => by have := (nI_eq z1 (by omega)).mp e; omega, rfl⟩))⟩⟩, fr.rf _⟩)
        · subst g3
          refine e_aload_n dX9_at_43 rfl rfl ?_
          refine m_get 5 1 lf_X9_74 dX9_at_44 (ly_wr B _ _ (i := q) (by omega)) rfl ?_
          refine e_top (w := nI (wl S q)) (hr.1) ?_
          exact m_iret dX9_at_47 rfl (Nat.le_refl _) (Nat.le_refl _) (⟨⟨_, rfl, Or.inr ⟨q, q1, rfl, Or.inr (Or.inl ⟨rfl, rfl⟩)⟩⟩, fr.rf _⟩)
      · subst g2
        refine e_aload_n dX9_at_28 rfl rfl ?_
        refine m_get 9 2 lf_X9_26 dX9_at_29 (ly_0 B _ _) rfl ?_
        refine e_iload_n dX9_at_32 rfl rfl ?_
        refine m_callV (As := [_]) lc_X9_102 dX9_at_33 (ly_32 B _ _) rfl rfl (by simp [Value.category]) (Nat.le_of_ble_eq_true rfl) (Nat.le_of_ble_eq_true rfl) ⟨Nat.le_of_ble_eq_true rfl, Nat.le_of_ble_eq_true rfl⟩ ⟨Nat.le_of_ble_eq_true rfl, Nat.le_of_ble_eq_true rfl⟩ (c_rankOf m9 hc.2.2.2.1 n60 hf.1 k1 k2 inj) (fun v9 m1 hp9 => ?_)
        obtain ⟨rfl, rfl⟩ := hp9
        exact m_iret dX9_at_36 rfl (Nat.le_refl _) (Nat.le_refl _) (⟨⟨_, rfl, Or.inr ⟨q, q1, rfl, Or.inl ⟨rfl, by rw [← k2, rnk_of hf k1]⟩⟩⟩, fr.rf _⟩)
    · exact absurd g1 (by decide)
  · refine e_if_ne 13 dX9_at_8 (by decide) (fun g1 => ?_) (fun g1 => ?_)
    · exact absurd rfl g1
    · refine e_iconst (v := -1) dX9_at_11 (by decide) ?_
      exact m_iret dX9_at_12 rfl (Nat.le_refl _) (Nat.le_refl _) (⟨⟨_, rfl, Or.inl ⟨h1, rfl⟩⟩, fr.rf _⟩)
end PUB
end
section
section PUD
variable {l : Launch} {D : va_G} {kA : FieldType → ClassId} {B sz : Nat} {o : Int64}
theorem cs_price {m m' : mm_M} {S : sp_S} {p : Nat → Nat} {w : Nat → Nat → Nat} (h : cs m S) (h1 : ∀ a, a < 4 ∨ 32 ≤ a → m' a = m a) (hr : pr_at m' p w) : cs m' (S.1, S.2.1, (p, w), S.2.2.2) := by
  obtain ⟨a1, a2, a3, a4, a5, ⟨f, a6⟩, a7, a8, a9⟩ := h
  exact ⟨⟨a1.1, a1.2.1, a1.2.2.1, a1.2.2.2.1, a1.2.2.2.2.1, hr.2.1, hr.2.2.1, hr.2.2.2.1, hr.2.2.2.2.2, a1.2.2.2.2.2.2.2.2.2⟩, a2.of (h1 1 (by omega)) (h1 2 (by omega)), hr, (congrFun (h1 32 (by omega)) 4).trans a4, fun q hq => ⟨(a5 q hq).1.of (h1 _ (by omega)) (h1 _ (by omega)), (congrFun (h1 34 (by omega)) q).trans (a5 q hq).2⟩, ⟨f, a6.of (h1 35 (by omega))⟩, fun a b ha hb => (congrFun (h1 36 (by omega)) _).trans (a7 a b ha hb), (congrFun (h1 157 (by omega)) 1).trans a8, fun q hq => (a9 q hq).of (h1 _ (by omega)) (h1 _ (by omega))⟩
set_option maxRecDepth 100000 in
/-- SuggestSpell.price -/
theorem c_price (m : mm_M) {S : sp_S} (k x : Int32) (hc : cs m S) : mm_F l D kA B sz o 0 0 mX9_price [.ref (B + 0), .int k, .int x] m (fun v m' => ∃ y S', v = some (.int y) ∧ R_price S k x y S' ∧ cs m' S' ∧ frm m m') := by
  refine mm_F.of ?_
  refine e_iload_n dX9_price_0 rfl rfl ?_
  refine e_if_lt 10 dX9_price_1 (by decide) (fun g1 => ?_) (fun g1 => ?_)
  · refine e_bipush (v := -2) dX9_price_10 (by decide) ?_
    exact m_iret dX9_price_12 rfl (Nat.le_refl _) (Nat.le_refl _) (⟨_, _, rfl, Or.inl ⟨fun z hz e => nI_pos (n := z) (by omega) (e ▸ g1), rfl, rfl⟩, hc, fun b hb => rfl⟩)
  · obtain ⟨q, q1, rfl⟩ := nI_of g1
    refine e_iload_n dX9_price_4 rfl rfl ?_
    refine e_bipush (v := nI 6) dX9_price_5 (by decide) ?_
    refine n_icmp_lt 13 dX9_price_7 (by decide) (by omega) (by omega) (fun g2 => ?_) (fun g2 => ?_)
    · have at30 : ∀ t : Nat, t = mostP q → mm_G l D kA B sz o 0 0 mX9_price (fun v m' => ∃ y S', v = some (.int y) ∧ R_price S (nI q) x y S' ∧ cs m' S' ∧ frm m m') 30 [some (.ref (B + 0)), some (.int (nI q)), some (.int x), none, none] [.int (nI t)] m := by
        rintro t rfl
        have m50 : mostP q ≤ 50 := by unfold mostP; split <;> omega
        refine e_istore_n dX9_price_30 rfl (by decide) rfl ?_
        refine e_iload_n dX9_price_31 rfl rfl ?_
        refine e_if_lt 40 dX9_price_32 (by decide) (fun g3 => ?_) (fun g3 => ?_)
        · refine e_bipush (v := -2) dX9_price_40 (by decide) ?_
          exact m_iret dX9_price_42 rfl (Nat.le_refl _) (Nat.le_refl _) (⟨_, _, rfl, Or.inr ⟨q, g2, rfl, Or.inl ⟨fun z => Int32.not_lt.mpr z.1 g3, rfl, rfl⟩⟩, hc, fun b hb => rfl⟩)
        · obtain ⟨y, y1, rfl⟩ := nI_of g3
          refine e_iload_n dX9_price_35 rfl rfl ?_
          refine e_iload_n dX9_price_36 rfl rfl ?_
          refine n_icmp_le 43 dX9_price_37 (by decide) (by omega) (by omega) (fun g4 => ?_) (fun g4 => ?_)
          · refine e_aload_n dX9_price_43 rfl rfl ?_
            refine m_get 9 1 lf_X9_19 dX9_price_44 (ly_0 B _ _) rfl ?_
            refine m_get 3 0 lf_X9_109 dX9_price_47 (ly_3 B _ _) rfl ?_
            refine e_iload_n dX9_price_50 rfl rfl ?_
            refine m_iald (q) dX9_price_51 (ly_4 B _ _) (rfl) (by omega) (by decide) ?_
            refine e_top (w := nI (pp S q)) (hc.2.2.1.1 q g2) ?_
            refine e_istore dX9_price_52 (by decide) rfl ?_
            refine e_aload_n dX9_price_54 rfl rfl ?_
            refine m_get 9 1 lf_X9_19 dX9_price_55 (ly_0 B _ _) rfl ?_
            refine m_get 3 0 lf_X9_109 dX9_price_58 (ly_3 B _ _) rfl ?_
            refine e_iload_n dX9_price_61 rfl rfl ?_
            refine e_iload_n dX9_price_62 rfl rfl ?_
            refine m_iast (q) dX9_price_63 (fun m => ly_4 B m _) (rfl) (by omega) (by decide) ?_
            refine e_iload dX9_price_64 rfl ?_
            refine m_iret dX9_price_66 rfl (Nat.le_refl _) (Nat.le_refl _) ⟨_, _, rfl, Or.inr ⟨q, g2, rfl, Or.inr ⟨y, g4, rfl, rfl, rfl⟩⟩, cs_price hc (fun a ha => wr_off _ _ (by omega)) ?_, fun b hb => wr_off _ _ (by omega)⟩
            obtain ⟨b1, b2, b3, b4, b5, b6⟩ := hc.2.2.1
            unfold mostP at g4
            refine ⟨fun k hk => ?_, fun k hk => ?_, ?_, ?_, fun a b ha hb => by rw [wr_off _ _ (by omega)]; exact b5 a b ha hb, b6⟩
            · by_cases e : k = q
              · rw [e, wr_same, va_up_self]
              · rw [wr_ne _ _ (Or.inr e), va_up_ne _ _ e]; exact b1 k hk
            · by_cases e : k = q
              · rw [e, va_up_self]; rw [if_pos (by omega)] at g4; exact g4
              · rw [va_up_ne _ _ e]; exact b2 k hk
            · by_cases e : 4 = q
              · rw [← e, va_up_self]; rw [if_neg (by omega)] at g4; exact g4
              · rw [va_up_ne _ _ e]; exact b3
            · by_cases e : 5 = q
              · rw [← e, va_up_self]; rw [if_neg (by omega)] at g4; exact g4
              · rw [va_up_ne _ _ e]; exact b4
          · refine e_bipush (v := -2) dX9_price_40 (by decide) ?_
            exact m_iret dX9_price_42 rfl (Nat.le_refl _) (Nat.le_refl _) (⟨_, _, rfl, Or.inr ⟨q, g2, rfl, Or.inl ⟨fun z => g4 ((nI_leI y1 (by omega)).mp z.2), rfl, rfl⟩⟩, hc, fun b hb => rfl⟩)
      refine e_iload_n dX9_price_13 rfl rfl ?_
      refine e_iconst (v := nI 4) dX9_price_14 (by decide) ?_
      refine n_icmp_eq 23 dX9_price_15 (by decide) (by omega) (by omega) (fun g3 => ?_) (fun g3 => ?_)
      · refine e_bipush (v := nI 50) dX9_price_23 (by decide) ?_
        refine e_goto 30 dX9_price_25 (by decide) ?_
        exact at30 50 (by rw [g3]; rfl)
      · refine e_iload_n dX9_price_18 rfl rfl ?_
        refine e_iconst (v := nI 5) dX9_price_19 (by decide) ?_
        refine n_icmp_ne 28 dX9_price_20 (by decide) (by omega) (by omega) (fun g4 => ?_) (fun g4 => ?_)
        · refine e_bipush (v := nI 9) dX9_price_28 (by decide) ?_
          exact at30 9 (by unfold mostP; rw [if_pos (by omega)])
        · refine e_bipush (v := nI 50) dX9_price_23 (by decide) ?_
          refine e_goto 30 dX9_price_25 (by decide) ?_
          exact at30 50 (by rw [g4]; rfl)
    · refine e_bipush (v := -2) dX9_price_10 (by decide) ?_
      exact m_iret dX9_price_12 rfl (Nat.le_refl _) (Nat.le_refl _) (⟨_, _, rfl, Or.inl ⟨fun z hz e => by have := (nI_eq q1 (by omega)).mp e; omega, rfl, rfl⟩, hc, fun b hb => rfl⟩)
theorem m1_nat {x : Int32} (h1 : -1 ≤ x) (h2 : x ≤ 9) : ∃ y, y ≤ 10 ∧ x = nI y - 1 := by
  have a1 := Int32.le_iff_toInt_le.mp h1
  have a2 := Int32.le_iff_toInt_le.mp h2
  rw [show (-1 : Int32).toInt = -1 by decide] at a1
  rw [show (9 : Int32).toInt = 9 by decide] at a2
  obtain ⟨z, hz⟩ : ∃ z : Nat, (z : Int) = x.toInt + 1 := ⟨(x.toInt + 1).toNat, by omega⟩
  refine ⟨z, by omega, Int32.toInt_inj.mp ?_⟩
  have h3 := pk_sub_toInt (a := z) (b := 1) (by omega) (by omega)
  rw [show nI 1 = (1 : Int32) from rfl] at h3
  rw [h3]
  omega
theorem ownM {y : Nat} : nI y - 1 = if y = 0 then (-1 : Int32) else nI (y - 1) := by
  cases y with
  | zero => rfl
  | succ y => rw [if_neg (by omega), nI_pred, Nat.add_sub_cancel]
theorem m1_ne {y : Nat} (hy : y < 2 ^ 31) : nI y ≠ -1 := fun q => by
  have : ¬ nI y < 0 := nI_pos hy
  rw [q] at this
  exact this (by decide)
set_option maxRecDepth 100000 in
/-- SuggestSpell.near -/
theorem c_near (m : mm_M) {S : sp_S} (a b x : Int32) (hc : cs m S) : mm_F l D kA B sz o 1 20 mX9_near [.ref (B + 0), .int a, .int b, .int x] m (fun v m' => ∃ y S', v = some (.int y) ∧ R_near S a b x y S' ∧ cs m' S' ∧ frm m m') := by
  refine mm_F.of ?_
  refine e_iload_n dX9_near_0 rfl rfl ?_
  refine m_callS (As := [_]) lc_X9_67 dX9_near_1 rfl rfl (by simp [Value.category]) (Nat.le_of_ble_eq_true rfl) (Nat.le_of_ble_eq_true rfl) ⟨Nat.le_of_ble_eq_true rfl, Nat.le_of_ble_eq_true rfl⟩ ⟨Nat.le_of_ble_eq_true rfl, Nat.le_of_ble_eq_true rfl⟩ (c_isLetter m a) (fun v9 m9 hp9 => ?_)
  obtain ⟨rfl, ⟨rfl, h1⟩ | ⟨rfl, h1⟩⟩ := hp9
  · refine e_if_eq 19 dX9_near_4 (by decide) (fun g1 => ?_) (fun g1 => ?_)
    · exact absurd g1 (by decide)
    · refine e_iload_n dX9_near_7 rfl rfl ?_
      refine m_callS (As := [_]) lc_X9_67 dX9_near_8 rfl rfl (by simp [Value.category]) (Nat.le_of_ble_eq_true rfl) (Nat.le_of_ble_eq_true rfl) ⟨Nat.le_of_ble_eq_true rfl, Nat.le_of_ble_eq_true rfl⟩ ⟨Nat.le_of_ble_eq_true rfl, Nat.le_of_ble_eq_true rfl⟩ (c_isLetter m9 b) (fun v9 m1 hp9 => ?_)
      obtain ⟨rfl, ⟨rfl, h2⟩ | ⟨rfl, h2⟩⟩ := hp9
      · refine e_if_eq 19 dX9_near_11 (by decide) (fun g2 => ?_) (fun g2 => ?_)
        · exact absurd g2 (by decide)
        · obtain ⟨p, -, p2, rfl⟩ := inr_nat (lo := 0) (hi := 25) h1 (by omega) (by omega)
          obtain ⟨q, -, q2, rfl⟩ := inr_nat (lo := 0) (hi := 25) h2 (by omega) (by omega)
          refine e_iload_n dX9_near_14 rfl rfl ?_
          refine e_iload_n dX9_near_15 rfl rfl ?_
          refine n_icmp_ne 21 dX9_near_16 (by decide) (by omega) (by omega) (fun g3 => ?_) (fun g3 => ?_)
          · refine e_iload_n dX9_near_21 rfl rfl ?_
            refine e_iconst (v := -1) dX9_near_22 (by decide) ?_
            refine e_icmp_lt 32 dX9_near_23 (by decide) (fun g4 => ?_) (fun g4 => ?_)
            · refine e_bipush (v := -2) dX9_near_32 (by decide) ?_
              exact m_iret dX9_near_34 rfl (Nat.le_refl _) (Nat.le_refl _) (⟨_, _, rfl, Or.inr ⟨p, q, p2, q2, rfl, rfl, g3, Or.inl ⟨fun z => Int32.not_lt.mpr z.1 g4, rfl, rfl⟩⟩, hc, fun b hb => rfl⟩)
            · refine e_iload_n dX9_near_26 rfl rfl ?_
              refine e_bipush (v := nI 9) dX9_near_27 (by decide) ?_
              refine e_icmp_le 35 dX9_near_29 (by decide) (fun g5 => ?_) (fun g5 => ?_)
              · obtain ⟨y, y1, rfl⟩ := m1_nat (Int32.not_lt.mp g4) g5
                have hw := hc.2.2.1.2.2.2.2.1 p q (by omega) (by omega)
                have hu := hc.2.2.1.2.2.2.2.2 p q
                have hcs : cs (wr m1 (6 + p) q (nI y - 1)) (setN S p q y) := by
                  obtain ⟨b1, b2, b3, b4, b5, b6⟩ := hc.2.2.1
                  refine cs_price hc (fun a ha => wr_off _ _ (by omega)) ⟨fun k hk => by rw [wr_off _ _ (by omega)]; exact b1 k hk, b2, b3, b4, fun c d hc' hd => ?_, fun c d => ?_⟩
                  · by_cases e : c = p
                    · subst e
                      rw [va_up_self]
                      by_cases e2 : d = q
                      · rw [e2, va_up_self, wr_same]; exact ownM
                      · rw [va_up_ne _ _ e2, wr_ne _ _ (Or.inr e2)]; exact b5 c d hc' hd
                    · rw [va_up_ne _ _ e, wr_ne _ _ (Or.inl (by omega))]; exact b5 c d hc' hd
                  · by_cases e : c = p
                    · subst e
                      rw [va_up_self]
                      by_cases e2 : d = q
                      · rw [e2, va_up_self]; exact y1
                      · rw [va_up_ne _ _ e2]; exact b6 c d
                    · rw [va_up_ne _ _ e]; exact b6 c d
                refine e_aload_n dX9_near_35 rfl rfl ?_
                refine m_get 9 1 lf_X9_19 dX9_near_36 (ly_0 B _ _) rfl ?_
                refine m_get 3 1 lf_X9_112 dX9_near_39 (ly_3 B _ _) rfl ?_
                refine e_iload_n dX9_near_42 rfl rfl ?_
                refine m_aald (r := 6 + p) (p) dX9_near_43 (by decide) rfl (ly_5 B _ _) (rfl) (by omega) (by decide) (if_pos (by omega)) ?_
                refine e_iload_n dX9_near_44 rfl rfl ?_
                refine m_iald (q) dX9_near_45 (ly_own B _ _ (i := p) (by omega)) (rfl) (by omega) (by decide) ?_
                refine e_top (w := if ww S p q = 0 then -1 else nI (ww S p q - 1)) hw ?_
                refine e_istore dX9_near_46 (by decide) rfl ?_
                refine e_aload_n dX9_near_48 rfl rfl ?_
                refine m_get 9 1 lf_X9_19 dX9_near_49 (ly_0 B _ _) rfl ?_
                refine m_get 3 1 lf_X9_112 dX9_near_52 (ly_3 B _ _) rfl ?_
                refine e_iload_n dX9_near_55 rfl rfl ?_
                refine m_aald (r := 6 + p) (p) dX9_near_56 (by decide) rfl (ly_5 B _ _) (rfl) (by omega) (by decide) (if_pos (by omega)) ?_
                refine e_iload_n dX9_near_57 rfl rfl ?_
                refine e_iload_n dX9_near_58 rfl rfl ?_
                refine m_iast (q) dX9_near_59 (fun m => ly_own B m _ (i := p) (by omega)) (rfl) (by omega) (by decide) ?_
                refine e_iload dX9_near_60 rfl ?_
                refine e_iconst (v := -1) dX9_near_62 (by decide) ?_
                by_cases e : ww S p q = 0
                · rw [if_pos e]
                  refine e_icmp_ne 71 dX9_near_63 (by decide) (fun g6 => ?_) (fun g6 => ?_)
                  · exact absurd rfl g6
                  · refine e_bipush (v := -3) dX9_near_66 (by decide) ?_
                    refine e_goto 73 dX9_near_68 (by decide) ?_
                    exact m_iret dX9_near_73 rfl (Nat.le_refl _) (Nat.le_refl _) (⟨_, _, rfl, Or.inr ⟨p, q, p2, q2, rfl, rfl, g3, Or.inr ⟨y, y1, rfl, by unfold ownV; rw [if_pos e], rfl⟩⟩, hcs, fun b hb => wr_off _ _ (by omega)⟩)
                · rw [if_neg e]
                  refine e_icmp_ne 71 dX9_near_63 (by decide) (fun g6 => ?_) (fun g6 => ?_)
                  · refine e_iload dX9_near_71 rfl ?_
                    exact m_iret dX9_near_73 rfl (Nat.le_refl _) (Nat.le_refl _) (⟨_, _, rfl, Or.inr ⟨p, q, p2, q2, rfl, rfl, g3, Or.inr ⟨y, y1, rfl, by unfold ownV; rw [if_neg e], rfl⟩⟩, hcs, fun b hb => wr_off _ _ (by omega)⟩)
                  · exact absurd g6 (m1_ne (by omega))
              · refine e_bipush (v := -2) dX9_near_32 (by decide) ?_
                exact m_iret dX9_near_34 rfl (Nat.le_refl _) (Nat.le_refl _) (⟨_, _, rfl, Or.inr ⟨p, q, p2, q2, rfl, rfl, g3, Or.inl ⟨fun z => g5 z.2, rfl, rfl⟩⟩, hc, fun b hb => rfl⟩)
          · subst g3
            refine e_iconst (v := -1) dX9_near_19 (by decide) ?_
            exact m_iret dX9_near_20 rfl (Nat.le_refl _) (Nat.le_refl _) (⟨_, _, rfl, Or.inl ⟨fun z => z.2.2 rfl, rfl, rfl⟩, hc, fun b hb => rfl⟩)
      · refine e_if_eq 19 dX9_near_11 (by decide) (fun g2 => ?_) (fun g2 => ?_)
        · refine e_iconst (v := -1) dX9_near_19 (by decide) ?_
          exact m_iret dX9_near_20 rfl (Nat.le_refl _) (Nat.le_refl _) (⟨_, _, rfl, Or.inl ⟨fun z => h2 z.2.1, rfl, rfl⟩, hc, fun b hb => rfl⟩)
        · exact absurd rfl g2
  · refine e_if_eq 19 dX9_near_4 (by decide) (fun g1 => ?_) (fun g1 => ?_)
    · refine e_iconst (v := -1) dX9_near_19 (by decide) ?_
      exact m_iret dX9_near_20 rfl (Nat.le_refl _) (Nat.le_refl _) (⟨_, _, rfl, Or.inl ⟨fun z => h1 z.1, rfl, rfl⟩, hc, fun b hb => rfl⟩)
    · exact absurd rfl g1
set_option maxRecDepth 100000 in
/-- SuggestSpell.distance -/
theorem c_distance (m : mm_M) {S : sp_S} (w : Int32) (hc : cs m S) : mm_F l D kA B sz o 6 133 mX9_distance [.ref (B + 0), .int w] m (fun v m' => (∃ y, v = some (.int y) ∧ R_dist S (ds S) w y) ∧ fr m m') := by
  have n60 := hc.1.2.2.1
  refine mm_F.of ?_
  refine e_aload_n dX9_distance_0 rfl rfl ?_
  refine m_get 9 2 lf_X9_26 dX9_distance_1 (ly_0 B _ _) rfl ?_
  refine e_iload_n dX9_distance_4 rfl rfl ?_
  refine m_callV (As := [_]) lc_X9_91 dX9_distance_5 (ly_32 B _ _) rfl rfl (by simp [Value.category]) (Nat.le_of_ble_eq_true rfl) (Nat.le_of_ble_eq_true rfl) ⟨Nat.le_of_ble_eq_true rfl, Nat.le_of_ble_eq_true rfl⟩ ⟨Nat.le_of_ble_eq_true rfl, Nat.le_of_ble_eq_true rfl⟩ (c_has m hc.2.2.2.1 n60 w) (fun v9 m9 hp9 => ?_)
  obtain ⟨rfl, ⟨rfl, q, q1, rfl⟩ | ⟨rfl, h1⟩⟩ := hp9
  · refine e_if_ne 13 dX9_distance_8 (by decide) (fun g1 => ?_) (fun g1 => ?_)
    · refine e_aload_n dX9_distance_13 rfl rfl ?_
      refine e_iload_n dX9_distance_14 rfl rfl ?_
      refine m_callV (As := [_]) lc_X9_116 dX9_distance_15 (ly_0 B _ _) rfl rfl (by simp [Value.category]) (Nat.le_of_ble_eq_true rfl) (Nat.le_of_ble_eq_true rfl) ⟨Nat.le_of_ble_eq_true rfl, Nat.le_of_ble_eq_true rfl⟩ ⟨Nat.le_of_ble_eq_true rfl, Nat.le_of_ble_eq_true rfl⟩ (c_priceOfWord m9 hc q1) (fun v9 m1 hp9 => ?_)
      obtain ⟨rfl, a1⟩ := hp9
      exact m_iret dX9_distance_18 rfl (Nat.le_refl _) (Nat.le_refl _) (⟨⟨_, rfl, Or.inr ⟨q, q1, rfl, rfl⟩⟩, a1.fr⟩)
    · exact absurd g1 (by decide)
  · refine e_if_ne 13 dX9_distance_8 (by decide) (fun g1 => ?_) (fun g1 => ?_)
    · exact absurd rfl g1
    · refine e_iconst (v := -1) dX9_distance_11 (by decide) ?_
      exact m_iret dX9_distance_12 rfl (Nat.le_refl _) (Nat.le_refl _) (⟨⟨_, rfl, Or.inl ⟨h1, rfl⟩⟩, fr.rf _⟩)
set_option maxRecDepth 100000 in
/-- SuggestSpell.begins -/
theorem c_begins (m : mm_M) {S : sp_S} (w : Int32) (hc : cs m S) : mm_F l D kA B sz o 6 133 mX9_begins [.ref (B + 0), .int w] m (fun v m' => (∃ y, v = some (.int y) ∧ R_dist S (bg S) w y) ∧ fr m m') := by
  have n60 := hc.1.2.2.1
  refine mm_F.of ?_
  refine e_aload_n dX9_begins_0 rfl rfl ?_
  refine m_get 9 2 lf_X9_26 dX9_begins_1 (ly_0 B _ _) rfl ?_
  refine e_iload_n dX9_begins_4 rfl rfl ?_
  refine m_callV (As := [_]) lc_X9_91 dX9_begins_5 (ly_32 B _ _) rfl rfl (by simp [Value.category]) (Nat.le_of_ble_eq_true rfl) (Nat.le_of_ble_eq_true rfl) ⟨Nat.le_of_ble_eq_true rfl, Nat.le_of_ble_eq_true rfl⟩ ⟨Nat.le_of_ble_eq_true rfl, Nat.le_of_ble_eq_true rfl⟩ (c_has m hc.2.2.2.1 n60 w) (fun v9 m9 hp9 => ?_)
  obtain ⟨rfl, ⟨rfl, q, q1, rfl⟩ | ⟨rfl, h1⟩⟩ := hp9
  · refine e_if_ne 13 dX9_begins_8 (by decide) (fun g1 => ?_) (fun g1 => ?_)
    · refine e_aload_n dX9_begins_13 rfl rfl ?_
      refine e_iload_n dX9_begins_14 rfl rfl ?_
      refine m_callV (As := [_]) lc_X9_119 dX9_begins_15 (ly_0 B _ _) rfl rfl (by simp [Value.category]) (Nat.le_of_ble_eq_true rfl) (Nat.le_of_ble_eq_true rfl) ⟨Nat.le_of_ble_eq_true rfl, Nat.le_of_ble_eq_true rfl⟩ ⟨Nat.le_of_ble_eq_true rfl, Nat.le_of_ble_eq_true rfl⟩ (c_priceOfBeginning m9 hc q1) (fun v9 m1 hp9 => ?_)
      obtain ⟨rfl, a1⟩ := hp9
      exact m_iret dX9_begins_18 rfl (Nat.le_refl _) (Nat.le_refl _) (⟨⟨_, rfl, Or.inr ⟨q, q1, rfl, rfl⟩⟩, a1.fr⟩)
    · exact absurd g1 (by decide)
  · refine e_if_ne 13 dX9_begins_8 (by decide) (fun g1 => ?_) (fun g1 => ?_)
    · exact absurd rfl g1
    · refine e_iconst (v := -1) dX9_begins_11 (by decide) ?_
      exact m_iret dX9_begins_12 rfl (Nat.le_refl _) (Nat.le_refl _) (⟨⟨_, rfl, Or.inl ⟨h1, rfl⟩⟩, fr.rf _⟩)
theorem eds_len {S : sp_S} (h : ok S) {q : Nat} (hq : q < wn S) : (eds S q).length ≤ 24 := by
  have h1 := ed_len (pp S) (ww S) (tl S) (wt S q) (tn S + wl S q) (tn S) (wl S q) (Nat.le_refl _)
  have := h.1
  have := (h.2.2.2.1 q hq).2.1
  unfold eds
  omega
theorem eds_get {S : sp_S} {q z : Nat} (hz : z < (eds S q).length) : ∃ x, (eds S q)[(eds S q).length - 1 - z]? = some x := ⟨_, List.getElem?_eq_getElem (by omega)⟩
set_option maxRecDepth 100000 in
/-- SuggestSpell.edit -/
theorem c_edit (m : mm_M) {S : sp_S} (w k : Int32) (hc : cs m S) : mm_F l D kA B sz o 6 133 mX9_edit [.ref (B + 0), .int w, .int k] m (fun v m' => (∃ y, v = some (.int y) ∧ R_edit S w k y) ∧ fr m m') := by
  have n60 := hc.1.2.2.1
  refine mm_F.of ?_
  refine e_aload_n dX9_edit_0 rfl rfl ?_
  refine m_get 9 2 lf_X9_26 dX9_edit_1 (ly_0 B _ _) rfl ?_
  refine e_iload_n dX9_edit_4 rfl rfl ?_
  refine m_callV (As := [_]) lc_X9_91 dX9_edit_5 (ly_32 B _ _) rfl rfl (by simp [Value.category]) (Nat.le_of_ble_eq_true rfl) (Nat.le_of_ble_eq_true rfl) ⟨Nat.le_of_ble_eq_true rfl, Nat.le_of_ble_eq_true rfl⟩ ⟨Nat.le_of_ble_eq_true rfl, Nat.le_of_ble_eq_true rfl⟩ (c_has m hc.2.2.2.1 n60 w) (fun v9 m9 hp9 => ?_)
  obtain ⟨rfl, ⟨rfl, q, q1, rfl⟩ | ⟨rfl, h1⟩⟩ := hp9
  · refine e_if_ne 13 dX9_edit_8 (by decide) (fun g1 => ?_) (fun g1 => ?_)
    · have len := eds_len hc.1 q1
      refine e_aload_n dX9_edit_13 rfl rfl ?_
      refine e_iload_n dX9_edit_14 rfl rfl ?_
      refine m_callV (As := [_]) lc_X9_122 dX9_edit_15 (ly_0 B _ _) rfl rfl (by simp [Value.category]) (Nat.le_of_ble_eq_true rfl) (Nat.le_of_ble_eq_true rfl) ⟨Nat.le_of_ble_eq_true rfl, Nat.le_of_ble_eq_true rfl⟩ ⟨Nat.le_of_ble_eq_true rfl, Nat.le_of_ble_eq_true rfl⟩ (c_findEdits m9 hc q1) (fun v9 m1 hp9 => ?_)
      obtain ⟨rfl, a1, a2⟩ := hp9
      change ed_at m1 (eds S q) at a1
      refine e_iload_n dX9_edit_18 rfl rfl ?_
      refine e_iconst (v := -1) dX9_edit_19 (by decide) ?_
      refine e_icmp_ne 31 dX9_edit_20 (by decide) (fun g2 => ?_) (fun g2 => ?_)
      · refine e_iload_n dX9_edit_31 rfl rfl ?_
        refine e_if_lt 46 dX9_edit_32 (by decide) (fun g3 => ?_) (fun g3 => ?_)
        · refine e_iconst (v := -1) dX9_edit_46 (by decide) ?_
          exact m_iret dX9_edit_47 rfl (Nat.le_refl _) (Nat.le_refl _) (⟨⟨_, rfl, Or.inr ⟨q, q1, rfl, Or.inr (Or.inr ⟨g2, fun z hz e => nI_pos (n := z) (by omega) (e ▸ g3), rfl⟩)⟩⟩, a2⟩)
        · obtain ⟨z, z1, rfl⟩ := nI_of g3
          refine e_iload_n dX9_edit_35 rfl rfl ?_
          refine e_aload_n dX9_edit_36 rfl rfl ?_
          refine m_get 9 4 lf_X9_42 dX9_edit_37 (ly_0 B _ _) rfl ?_
          refine m_get 7 6 lf_X9_126 dX9_edit_40 (ly_171 B _ _) rfl ?_
          refine e_top (w := nI ((eds S q).length)) (a1.1) ?_
          refine n_icmp_lt 48 dX9_edit_43 (by decide) (by omega) (by omega) (fun g4 => ?_) (fun g4 => ?_)
          · obtain ⟨x, hx⟩ := eds_get (S := S) (q := q) g4
            refine e_aload_n dX9_edit_48 rfl rfl ?_
            refine m_get 9 4 lf_X9_42 dX9_edit_49 (ly_0 B _ _) rfl ?_
            refine e_iload_n dX9_edit_52 rfl rfl ?_
            refine m_callV (As := [_]) lc_X9_129 dX9_edit_53 (ly_171 B _ _) rfl rfl (by simp [Value.category]) (Nat.le_of_ble_eq_true rfl) (Nat.le_of_ble_eq_true rfl) ⟨Nat.le_of_ble_eq_true rfl, Nat.le_of_ble_eq_true rfl⟩ ⟨Nat.le_of_ble_eq_true rfl, Nat.le_of_ble_eq_true rfl⟩ (c_kindOf m1 a1 len g4) (fun v9 m2 hp9 => ?_)
            obtain ⟨rfl, rfl⟩ := hp9
            exact m_iret dX9_edit_56 rfl (Nat.le_refl _) (Nat.le_refl _) (⟨⟨_, rfl, Or.inr ⟨q, q1, rfl, Or.inr (Or.inl ⟨z, x, g4, rfl, hx, (a1.2 _ x hx).1⟩)⟩⟩, a2⟩)
          · refine e_iconst (v := -1) dX9_edit_46 (by decide) ?_
            exact m_iret dX9_edit_47 rfl (Nat.le_refl _) (Nat.le_refl _) (⟨⟨_, rfl, Or.inr ⟨q, q1, rfl, Or.inr (Or.inr ⟨g2, fun y hy e => by have := (nI_eq z1 (by omega)).mp e; omega, rfl⟩)⟩⟩, a2⟩)
      · subst g2
        refine e_aload_n dX9_edit_23 rfl rfl ?_
        refine m_get 9 4 lf_X9_42 dX9_edit_24 (ly_0 B _ _) rfl ?_
        refine m_get 7 6 lf_X9_126 dX9_edit_27 (ly_171 B _ _) rfl ?_
        refine e_top (w := nI ((eds S q).length)) (a1.1) ?_
        exact m_iret dX9_edit_30 rfl (Nat.le_refl _) (Nat.le_refl _) (⟨⟨_, rfl, Or.inr ⟨q, q1, rfl, Or.inl ⟨rfl, rfl⟩⟩⟩, a2⟩)
    · exact absurd g1 (by decide)
  · refine e_if_ne 13 dX9_edit_8 (by decide) (fun g1 => ?_) (fun g1 => ?_)
    · exact absurd rfl g1
    · refine e_iconst (v := -1) dX9_edit_11 (by decide) ?_
      exact m_iret dX9_edit_12 rfl (Nat.le_refl _) (Nat.le_refl _) (⟨⟨_, rfl, Or.inl ⟨h1, rfl⟩⟩, fr.rf _⟩)
set_option maxRecDepth 100000 in
/-- SuggestSpell.place -/
theorem c_place (m : mm_M) {S : sp_S} (w k : Int32) (hc : cs m S) : mm_F l D kA B sz o 6 133 mX9_place [.ref (B + 0), .int w, .int k] m (fun v m' => (∃ y, v = some (.int y) ∧ R_place S w k y) ∧ fr m m') := by
  have n60 := hc.1.2.2.1
  refine mm_F.of ?_
  refine e_aload_n dX9_place_0 rfl rfl ?_
  refine m_get 9 2 lf_X9_26 dX9_place_1 (ly_0 B _ _) rfl ?_
  refine e_iload_n dX9_place_4 rfl rfl ?_
  refine m_callV (As := [_]) lc_X9_91 dX9_place_5 (ly_32 B _ _) rfl rfl (by simp [Value.category]) (Nat.le_of_ble_eq_true rfl) (Nat.le_of_ble_eq_true rfl) ⟨Nat.le_of_ble_eq_true rfl, Nat.le_of_ble_eq_true rfl⟩ ⟨Nat.le_of_ble_eq_true rfl, Nat.le_of_ble_eq_true rfl⟩ (c_has m hc.2.2.2.1 n60 w) (fun v9 m9 hp9 => ?_)
  obtain ⟨rfl, ⟨rfl, q, q1, rfl⟩ | ⟨rfl, h1⟩⟩ := hp9
  · refine e_if_ne 13 dX9_place_8 (by decide) (fun g1 => ?_) (fun g1 => ?_)
    · have len := eds_len hc.1 q1
      refine e_aload_n dX9_place_13 rfl rfl ?_
      refine e_iload_n dX9_place_14 rfl rfl ?_
      refine m_callV (As := [_]) lc_X9_122 dX9_place_15 (ly_0 B _ _) rfl rfl (by simp [Value.category]) (Nat.le_of_ble_eq_true rfl) (Nat.le_of_ble_eq_true rfl) ⟨Nat.le_of_ble_eq_true rfl, Nat.le_of_ble_eq_true rfl⟩ ⟨Nat.le_of_ble_eq_true rfl, Nat.le_of_ble_eq_true rfl⟩ (c_findEdits m9 hc q1) (fun v9 m1 hp9 => ?_)
      obtain ⟨rfl, a1, a2⟩ := hp9
      change ed_at m1 (eds S q) at a1
      refine e_iload_n dX9_place_18 rfl rfl ?_
      refine e_if_lt 33 dX9_place_19 (by decide) (fun g3 => ?_) (fun g3 => ?_)
      · refine e_iconst (v := -1) dX9_place_33 (by decide) ?_
        exact m_iret dX9_place_34 rfl (Nat.le_refl _) (Nat.le_refl _) (⟨⟨_, rfl, Or.inr ⟨q, q1, rfl, Or.inr ⟨fun z hz e => nI_pos (n := z) (by omega) (e ▸ g3), rfl⟩⟩⟩, a2⟩)
      · obtain ⟨z, z1, rfl⟩ := nI_of g3
        refine e_iload_n dX9_place_22 rfl rfl ?_
        refine e_aload_n dX9_place_23 rfl rfl ?_
        refine m_get 9 4 lf_X9_42 dX9_place_24 (ly_0 B _ _) rfl ?_
        refine m_get 7 6 lf_X9_126 dX9_place_27 (ly_171 B _ _) rfl ?_
        refine e_top (w := nI ((eds S q).length)) (a1.1) ?_
        refine n_icmp_lt 35 dX9_place_30 (by decide) (by omega) (by omega) (fun g4 => ?_) (fun g4 => ?_)
        · obtain ⟨x, hx⟩ := eds_get (S := S) (q := q) g4
          refine e_aload_n dX9_place_35 rfl rfl ?_
          refine m_get 9 4 lf_X9_42 dX9_place_36 (ly_0 B _ _) rfl ?_
          refine e_iload_n dX9_place_39 rfl rfl ?_
          refine m_callV (As := [_]) lc_X9_132 dX9_place_40 (ly_171 B _ _) rfl rfl (by simp [Value.category]) (Nat.le_of_ble_eq_true rfl) (Nat.le_of_ble_eq_true rfl) ⟨Nat.le_of_ble_eq_true rfl, Nat.le_of_ble_eq_true rfl⟩ ⟨Nat.le_of_ble_eq_true rfl, Nat.le_of_ble_eq_true rfl⟩ (c_placeOf m1 a1 len g4) (fun v9 m2 hp9 => ?_)
          obtain ⟨rfl, rfl⟩ := hp9
          exact m_iret dX9_place_43 rfl (Nat.le_refl _) (Nat.le_refl _) (⟨⟨_, rfl, Or.inr ⟨q, q1, rfl, Or.inl ⟨z, x, g4, rfl, hx, (a1.2 _ x hx).2⟩⟩⟩, a2⟩)
        · refine e_iconst (v := -1) dX9_place_33 (by decide) ?_
          exact m_iret dX9_place_34 rfl (Nat.le_refl _) (Nat.le_refl _) (⟨⟨_, rfl, Or.inr ⟨q, q1, rfl, Or.inr ⟨fun y hy e => by have := (nI_eq z1 (by omega)).mp e; omega, rfl⟩⟩⟩, a2⟩)
    · exact absurd g1 (by decide)
  · refine e_if_ne 13 dX9_place_8 (by decide) (fun g1 => ?_) (fun g1 => ?_)
    · exact absurd rfl g1
    · refine e_iconst (v := -1) dX9_place_11 (by decide) ?_
      exact m_iret dX9_place_12 rfl (Nat.le_refl _) (Nat.le_refl _) (⟨⟨_, rfl, Or.inl ⟨h1, rfl⟩⟩, fr.rf _⟩)
set_option maxRecDepth 100000 in
/-- SuggestSpell.token -/
theorem c_token (m : mm_M) {S : sp_S} (hc : cs m S) : mm_F l D kA B sz o 3 64 mX9_token [.ref (B + 0)] m (fun v m' => ∃ y S', v = some (.int y) ∧ R_token S y S' ∧ cs m' S' ∧ frm m m') := by
  have t12 := hc.1.1
  have n60 := hc.1.2.2.1
  have k6 := hc.1.2.2.2.2.2.2.2.2.2.1
  refine mm_F.of ?_
  refine e_aload_n dX9_token_0 rfl rfl ?_
  refine m_get 9 0 lf_X9_10 dX9_token_1 (ly_0 B _ _) rfl ?_
  refine m_get 5 1 lf_X9_74 dX9_token_4 (ly_1 B _ _) rfl ?_
  refine e_top (w := nI (tn S)) (hc.2.1.1) ?_
  refine n_if_ne 13 dX9_token_7 (by decide) (by omega) (fun g1 => ?_) (fun g1 => ?_)
  · refine e_aload_n dX9_token_13 rfl rfl ?_
    refine m_get 9 3 lf_X9_33 dX9_token_14 (ly_0 B _ _) rfl ?_
    refine e_aload_n dX9_token_17 rfl rfl ?_
    refine m_get 9 0 lf_X9_10 dX9_token_18 (ly_0 B _ _) rfl ?_
    refine m_callV (As := [_]) lc_X9_159 dX9_token_21 (ly_157 B _ _) rfl rfl (by simp [Value.category]) (Nat.le_of_ble_eq_true rfl) (Nat.le_of_ble_eq_true rfl) ⟨Nat.le_of_ble_eq_true rfl, Nat.le_of_ble_eq_true rfl⟩ ⟨Nat.le_of_ble_eq_true rfl, Nat.le_of_ble_eq_true rfl⟩ (c_Line_add m hc.2.2.2.2.2.2.2.1 k6 hc.2.1) (fun v9 m1 hp9 => ?_)
    by_cases e : kn S < 6
    · rw [if_pos e] at hp9
      obtain ⟨rfl, b1, b2, b3⟩ := hp9
      refine e_if_ne 30 dX9_token_24 (by decide) (fun g2 => ?_) (fun g2 => ?_)
      · refine e_aload_n dX9_token_30 rfl rfl ?_
        refine m_get 9 0 lf_X9_10 dX9_token_31 (ly_0 B _ _) rfl ?_
        refine e_iconst (v := nI 0) dX9_token_34 (by decide) ?_
        refine m_puti 5 1 lp_X9_74 dX9_token_35 (ly_1 B _ _) (Nat.le_of_ble_eq_true rfl) (ly_1 B _ _) rfl ?_
        refine e_aload_n dX9_token_38 rfl rfl ?_
        refine m_get 9 3 lf_X9_33 dX9_token_39 (ly_0 B _ _) rfl ?_
        refine m_get 1 1 lf_X9_161 dX9_token_42 (ly_157 B _ _) rfl ?_
        refine e_top (w := nI (kn S + 1)) (by rw [wr_off _ _ (by omega)]; exact b1) ?_
        refine m_iret dX9_token_45 rfl (Nat.le_refl _) (Nat.le_refl _) ⟨_, _, rfl, Or.inr (Or.inr ⟨by omega, e, rfl, rfl⟩), ?_, fun b hb => by rw [wr_off _ _ (by omega)]; exact b3 b (by omega) (by omega) (by omega)⟩
        have hoff : ∀ a, a ≠ 1 → a ≠ 157 → a ≠ 159 + 2 * kn S → a ≠ 160 + 2 * kn S → wr m1 1 1 (nI 0) a = m a := fun a h1 h2 h3 h4 => by rw [wr_off _ _ h1]; exact b3 a h2 h3 h4
        obtain ⟨a1, a2, a3, a4, a5, ⟨f, a6⟩, a7, a8, a9⟩ := hc
        refine ⟨⟨Nat.zero_le _, fun i hi => absurd hi (Nat.not_lt_zero i), a1.2.2.1, a1.2.2.2.1, a1.2.2.2.2.1, a1.2.2.2.2.2.1, a1.2.2.2.2.2.2.1, a1.2.2.2.2.2.2.2.1, a1.2.2.2.2.2.2.2.2.1, by show kn S + 1 ≤ 6; omega, fun q hq => ?_⟩, ⟨wr_same _ _ _ _, Nat.zero_le _, fun i hi => absurd hi (Nat.not_lt_zero i)⟩, a3.of (fun a _ _ => hoff a (by omega) (by omega) (by omega) (by omega)), (congrFun (hoff 32 (by omega) (by omega) (by omega) (by omega)) 4).trans a4, fun q hq => ⟨(a5 q hq).1.of (hoff _ (by omega) (by have : q < wn S := hq; omega) (by have : q < wn S := hq; omega) (by have : q < wn S := hq; omega)) (hoff _ (by omega) (by have : q < wn S := hq; omega) (by have : q < wn S := hq; omega) (by have : q < wn S := hq; omega)), (congrFun (hoff 34 (by omega) (by omega) (by omega) (by omega)) q).trans (a5 q hq).2⟩, ⟨f, a6.of (hoff 35 (by omega) (by omega) (by omega) (by omega))⟩, fun a b ha hb => (congrFun (hoff 36 (by omega) (by omega) (by omega) (by omega)) _).trans (a7 a b ha hb), (congrFun (wr_off _ _ (by omega)) 1).trans b1, fun q hq => ?_⟩
        · show 1 ≤ va_up (kl S) (kn S) (tn S) q ∧ va_up (kl S) (kn S) (tn S) q ≤ 12 ∧ ∀ i, i < va_up (kl S) (kn S) (tn S) q → va_up (kt S) (kn S) (tl S) q i < 26
          have hq' : q < kn S + 1 := hq
          by_cases e2 : q = kn S
          · subst e2
            rw [va_up_self, va_up_self]; exact ⟨by omega, t12, a1.2.1⟩
          · rw [va_up_ne _ _ e2, va_up_ne _ _ e2]; exact a1.2.2.2.2.2.2.2.2.2.2 q (by omega)
        · have hq' : q < kn S + 1 := hq
          show rw_at (wr m1 1 1 (nI 0)) (159 + 2 * q) (160 + 2 * q) (va_up (kl S) (kn S) (tn S) q) (va_up (kt S) (kn S) (tl S) q)
          by_cases e2 : q = kn S
          · subst e2
            rw [va_up_self, va_up_self]; exact b2.of (wr_off _ _ (by omega)) (wr_off _ _ (by omega))
          · rw [va_up_ne _ _ e2, va_up_ne _ _ e2]; exact (a9 q (by omega)).of (hoff _ (by omega) (by omega) (by omega) (by omega)) (hoff _ (by omega) (by omega) (by omega) (by omega))
      · exact absurd g2 (by decide)
    · rw [if_neg e] at hp9
      obtain ⟨rfl, rfl⟩ := hp9
      refine e_if_ne 30 dX9_token_24 (by decide) (fun g2 => ?_) (fun g2 => ?_)
      · exact absurd rfl g2
      · refine e_bipush (v := -4) dX9_token_27 (by decide) ?_
        exact m_iret dX9_token_29 rfl (Nat.le_refl _) (Nat.le_refl _) (⟨_, _, rfl, Or.inr (Or.inl ⟨by omega, by omega, rfl, rfl⟩), hc, fun b hb => rfl⟩)
  · refine e_bipush (v := -2) dX9_token_10 (by decide) ?_
    exact m_iret dX9_token_12 rfl (Nat.le_refl _) (Nat.le_refl _) (⟨_, _, rfl, Or.inl ⟨g1, rfl, rfl⟩, hc, fun b hb => rfl⟩)
set_option maxRecDepth 100000 in
/-- SuggestSpell.line -/
theorem c_line (m : mm_M) {S : sp_S} (hc : cs m S) : mm_F l D kA B sz o 0 0 mX9_line [.ref (B + 0)] m (fun v m' => v = some (.int (nI (kn S))) ∧ cs m' (clrK S) ∧ frm m m') := by
  have n60 := hc.1.2.2.1
  refine mm_F.of ?_
  refine e_aload_n dX9_line_0 rfl rfl ?_
  refine m_get 9 3 lf_X9_33 dX9_line_1 (ly_0 B _ _) rfl ?_
  refine m_get 1 1 lf_X9_161 dX9_line_4 (ly_157 B _ _) rfl ?_
  refine e_top (w := nI (kn S)) (hc.2.2.2.2.2.2.2.1) ?_
  refine e_istore_n dX9_line_7 rfl (by decide) rfl ?_
  refine e_aload_n dX9_line_8 rfl rfl ?_
  refine m_get 9 3 lf_X9_33 dX9_line_9 (ly_0 B _ _) rfl ?_
  refine e_iconst (v := nI 0) dX9_line_12 (by decide) ?_
  refine m_puti 1 1 lp_X9_161 dX9_line_13 (ly_157 B _ _) (Nat.le_of_ble_eq_true rfl) (ly_157 B _ _) rfl ?_
  refine e_iload_n dX9_line_16 rfl rfl ?_
  refine m_iret dX9_line_17 rfl (Nat.le_refl _) (Nat.le_refl _) ⟨rfl, ?_, fun b hb => wr_off _ _ (by omega)⟩
  obtain ⟨a1, a2, a3, a4, a5, ⟨f, a6⟩, a7, a8, a9⟩ := hc
  exact ⟨⟨a1.1, a1.2.1, a1.2.2.1, a1.2.2.2.1, a1.2.2.2.2.1, a1.2.2.2.2.2.1, a1.2.2.2.2.2.2.1, a1.2.2.2.2.2.2.2.1, a1.2.2.2.2.2.2.2.2.1, Nat.zero_le _, fun q hq => absurd hq (Nat.not_lt_zero q)⟩, a2.of (wr_off _ _ (by omega)) (wr_off _ _ (by omega)), a3.of (fun a _ _ => wr_off _ _ (by omega)), (congrFun (wr_off _ _ (by omega)) 4).trans a4, fun q hq => ⟨(a5 q hq).1.of (wr_off _ _ (by have : q < wn S := hq; omega)) (wr_off _ _ (by have : q < wn S := hq; omega)), (congrFun (wr_off _ _ (by omega)) q).trans (a5 q hq).2⟩, ⟨f, a6.of (wr_off _ _ (by omega))⟩, fun a b ha hb => (congrFun (wr_off _ _ (by omega)) _).trans (a7 a b ha hb), wr_same _ _ _ _, fun q hq => absurd hq (Nat.not_lt_zero q)⟩
set_option maxRecDepth 100000 in
/-- SuggestSpell.pair -/
theorem c_pair (m : mm_M) {S : sp_S} (a b : Int32) (on : Bool) (hc : cs m S) : mm_F l D kA B sz o 2 46 mX9_pair [.ref (B + 0), .int a, .int b, .int (if on then nI 1 else nI 0)] m (fun v m' => ∃ y S', v = some (.int y) ∧ R_pair S a b on y S' ∧ cs m' S' ∧ frm m m') := by
  have n60 := hc.1.2.2.1
  have k6 := hc.1.2.2.2.2.2.2.2.2.2.1
  refine mm_F.of ?_
  refine e_aload_n dX9_pair_0 rfl rfl ?_
  refine m_get 9 2 lf_X9_26 dX9_pair_1 (ly_0 B _ _) rfl ?_
  refine e_iload_n dX9_pair_4 rfl rfl ?_
  refine m_callV (As := [_]) lc_X9_91 dX9_pair_5 (ly_32 B _ _) rfl rfl (by simp [Value.category]) (Nat.le_of_ble_eq_true rfl) (Nat.le_of_ble_eq_true rfl) ⟨Nat.le_of_ble_eq_true rfl, Nat.le_of_ble_eq_true rfl⟩ ⟨Nat.le_of_ble_eq_true rfl, Nat.le_of_ble_eq_true rfl⟩ (c_has m hc.2.2.2.1 n60 a) (fun v9 m9 hp9 => ?_)
  obtain ⟨rfl, ⟨rfl, p, p1, rfl⟩ | ⟨rfl, h1⟩⟩ := hp9
  · refine e_if_eq 22 dX9_pair_8 (by decide) (fun g1 => ?_) (fun g1 => ?_)
    · exact absurd g1 (by decide)
    · refine e_aload_n dX9_pair_11 rfl rfl ?_
      refine m_get 9 2 lf_X9_26 dX9_pair_12 (ly_0 B _ _) rfl ?_
      refine e_iload_n dX9_pair_15 rfl rfl ?_
      refine m_callV (As := [_]) lc_X9_91 dX9_pair_16 (ly_32 B _ _) rfl rfl (by simp [Value.category]) (Nat.le_of_ble_eq_true rfl) (Nat.le_of_ble_eq_true rfl) ⟨Nat.le_of_ble_eq_true rfl, Nat.le_of_ble_eq_true rfl⟩ ⟨Nat.le_of_ble_eq_true rfl, Nat.le_of_ble_eq_true rfl⟩ (c_has m9 hc.2.2.2.1 n60 b) (fun v9 m1 hp9 => ?_)
      obtain ⟨rfl, ⟨rfl, q, q1, rfl⟩ | ⟨rfl, h2⟩⟩ := hp9
      · refine e_if_ne 24 dX9_pair_19 (by decide) (fun g2 => ?_) (fun g2 => ?_)
        · refine e_aload_n dX9_pair_24 rfl rfl ?_
          refine m_get 9 2 lf_X9_26 dX9_pair_25 (ly_0 B _ _) rfl ?_
          refine e_iload_n dX9_pair_28 rfl rfl ?_
          refine e_iload_n dX9_pair_29 rfl rfl ?_
          refine e_iload_n dX9_pair_30 rfl rfl ?_
          refine m_callV (As := [_, _, _]) lc_X9_162 dX9_pair_31 (ly_32 B _ _) rfl rfl (by simp [Value.category]) (Nat.le_of_ble_eq_true rfl) (Nat.le_of_ble_eq_true rfl) ⟨Nat.le_of_ble_eq_true rfl, Nat.le_of_ble_eq_true rfl⟩ ⟨Nat.le_of_ble_eq_true rfl, Nat.le_of_ble_eq_true rfl⟩ (c_setPair m1 on hc.2.2.2.2.2.2.1 (a := p) (b := q) (by omega) (by omega)) (fun v9 m2 hp9 => ?_)
          obtain ⟨rfl, rfl⟩ := hp9
          have hcs : cs (wr m1 36 (p * 60 + q) (if on then nI 1 else nI 0)) (setA S p q on) := by
            obtain ⟨a1, a2, a3, a4, a5, ⟨f, a6⟩, a7, a8, a9⟩ := hc
            refine ⟨a1, a2.of (wr_off _ _ (by omega)) (wr_off _ _ (by omega)), a3.of (fun a _ _ => wr_off _ _ (by omega)), (congrFun (wr_off _ _ (by omega)) 4).trans a4, fun z hz => ⟨(a5 z hz).1.of (wr_off _ _ (by omega)) (wr_off _ _ (by omega)), (congrFun (wr_off _ _ (by omega)) z).trans (a5 z hz).2⟩, ⟨f, a6.of (wr_off _ _ (by omega))⟩, fun c d hc' hd => ?_, (congrFun (wr_off _ _ (by omega)) 1).trans a8, fun z hz => (a9 z hz).of (wr_off _ _ (by omega)) (wr_off _ _ (by omega))⟩
            show wr m1 36 (p * 60 + q) (if on then nI 1 else nI 0) 36 (c * 60 + d) = if va_up (pa S) p (va_up (pa S p) q on) c d then nI 1 else nI 0
            by_cases e : c = p
            · subst e
              rw [va_up_self]
              by_cases e2 : d = q
              · rw [e2, va_up_self, wr_same]
              · rw [va_up_ne _ _ e2, wr_ne _ _ (Or.inr (by omega))]; exact a7 c d hc' hd
            · rw [va_up_ne _ _ e, wr_ne _ _ (Or.inr (by omega))]; exact a7 c d hc' hd
          by_cases e : pa S p q = on
          · rw [if_pos e]
            refine e_if_eq 41 dX9_pair_34 (by decide) (fun g3 => ?_) (fun g3 => ?_)
            · refine e_iconst (v := nI 0) dX9_pair_41 (by decide) ?_
              exact m_iret dX9_pair_42 rfl (Nat.le_refl _) (Nat.le_refl _) (⟨_, _, rfl, Or.inr ⟨p, q, p1, q1, rfl, rfl, by rw [if_pos e], rfl⟩, hcs, fun b hb => wr_off _ _ (by omega)⟩)
            · exact absurd rfl g3
          · rw [if_neg e]
            refine e_if_eq 41 dX9_pair_34 (by decide) (fun g3 => ?_) (fun g3 => ?_)
            · exact absurd g3 (by decide)
            · refine e_iconst (v := nI 1) dX9_pair_37 (by decide) ?_
              refine e_goto 42 dX9_pair_38 (by decide) ?_
              exact m_iret dX9_pair_42 rfl (Nat.le_refl _) (Nat.le_refl _) (⟨_, _, rfl, Or.inr ⟨p, q, p1, q1, rfl, rfl, by rw [if_neg e], rfl⟩, hcs, fun b hb => wr_off _ _ (by omega)⟩)
        · exact absurd g2 (by decide)
      · refine e_if_ne 24 dX9_pair_19 (by decide) (fun g2 => ?_) (fun g2 => ?_)
        · exact absurd rfl g2
        · refine e_iconst (v := -1) dX9_pair_22 (by decide) ?_
          exact m_iret dX9_pair_23 rfl (Nat.le_refl _) (Nat.le_refl _) (⟨_, _, rfl, Or.inl ⟨Or.inr h2, rfl, rfl⟩, hc, fun b hb => rfl⟩)
  · refine e_if_eq 22 dX9_pair_8 (by decide) (fun g1 => ?_) (fun g1 => ?_)
    · refine e_iconst (v := -1) dX9_pair_22 (by decide) ?_
      exact m_iret dX9_pair_23 rfl (Nat.le_refl _) (Nat.le_refl _) (⟨_, _, rfl, Or.inl ⟨Or.inl h1, rfl, rfl⟩, hc, fun b hb => rfl⟩)
    · exact absurd rfl g1
end PUD
end
section
/-! DISTANCE from the other end -/
section MIR
variable {p : Nat → Nat} {w : Nat → Nat → Nat} {r t : Nat → Nat}
theorem dl_1 (i j : Nat) : dd p w r t (i + 1) j ≤ dd p w r t i j + p 1 := by
  cases j with
  | zero => rw [dd_i0]; omega
  | succ j => rw [dd_ij]; omega
theorem dl_2 (i j : Nat) : dd p w r t i (j + 1) ≤ dd p w r t i j + p 0 := by
  cases i with
  | zero => rw [dd_0, dd_0, Nat.succ_mul]; omega
  | succ i => rw [dd_ij]; omega
theorem dl_3 (i j : Nat) : dd p w r t (i + 1) (j + 1) ≤ dd p w r t i j + bc p w (r i) (t j) := by
  rw [dd_ij]; omega
theorem dl_4 (i j : Nat) (h1 : r i = t (j + 1)) (h2 : r (i + 1) = t j) : dd p w r t (i + 2) (j + 2) ≤ dd p w r t i j + p 3 := by
  rw [dd_ij, if_pos ⟨by omega, by omega, by simpa using h1, by simpa using h2⟩]
  rw [show i + 1 - 1 = i by omega, show j + 1 - 1 = j by omega]
  omega
theorem dl_a (i j : Nat) (h : 0 < i + j) : (∃ i', i = i' + 1 ∧ dd p w r t i j = dd p w r t i' j + p 1) ∨ (∃ j', j = j' + 1 ∧ dd p w r t i j = dd p w r t i j' + p 0) ∨ (∃ i' j', i = i' + 1 ∧ j = j' + 1 ∧ dd p w r t i j = dd p w r t i' j' + bc p w (r i') (t j')) ∨ (∃ i' j', i = i' + 2 ∧ j = j' + 2 ∧ r i' = t (j' + 1) ∧ r (i' + 1) = t j' ∧ dd p w r t i j = dd p w r t i' j' + p 3) := by
  cases i with
  | zero =>
    cases j with
    | zero => omega
    | succ j => exact Or.inr (Or.inl ⟨j, rfl, by rw [dd_0, dd_0, Nat.succ_mul]⟩)
  | succ i =>
    cases j with
    | zero => exact Or.inl ⟨i, rfl, dd_i0 p w r t i⟩
    | succ j =>
      have e := dd_ij p w r t i j
      by_cases hT : 0 < i ∧ 0 < j ∧ r (i - 1) = t j ∧ r i = t (j - 1)
      · rw [if_pos hT] at e
        obtain ⟨a, b, c, d⟩ := hT
        obtain ⟨i', rfl⟩ : ∃ q, i = q + 1 := ⟨i - 1, by omega⟩
        obtain ⟨j', rfl⟩ : ∃ q, j = q + 1 := ⟨j - 1, by omega⟩
        rw [Nat.add_sub_cancel] at c d e
        rw [Nat.add_sub_cancel] at e
        by_cases e1 : dd p w r t (i' + 1 + 1) (j' + 1 + 1) = dd p w r t i' j' + p 3
        · exact Or.inr (Or.inr (Or.inr ⟨i', j', rfl, rfl, c, d, e1⟩))
        · by_cases e2 : dd p w r t (i' + 1 + 1) (j' + 1 + 1) = dd p w r t (i' + 1) (j' + 1 + 1) + p 1
          · exact Or.inl ⟨i' + 1, rfl, e2⟩
          · by_cases e3 : dd p w r t (i' + 1 + 1) (j' + 1 + 1) = dd p w r t (i' + 1 + 1) (j' + 1) + p 0
            · exact Or.inr (Or.inl ⟨j' + 1, rfl, e3⟩)
            · exact Or.inr (Or.inr (Or.inl ⟨i' + 1, j' + 1, rfl, rfl, by omega⟩))
      · rw [if_neg hT] at e
        by_cases e2 : dd p w r t (i + 1) (j + 1) = dd p w r t i (j + 1) + p 1
        · exact Or.inl ⟨i, rfl, e2⟩
        · by_cases e3 : dd p w r t (i + 1) (j + 1) = dd p w r t (i + 1) j + p 0
          · exact Or.inr (Or.inl ⟨j, rfl, e3⟩)
          · exact Or.inr (Or.inr (Or.inl ⟨i, j, rfl, rfl, by omega⟩))
end MIR
/-- the same, read from behind -/
theorem dd_mirror (p : Nat → Nat) (w : Nat → Nat → Nat) (r t : Nat → Nat) (n k : Nat) : dd p w (fun i => r (n - 1 - i)) (fun j => t (k - 1 - j)) n k = dd p w r t n k := by
  have z0 : ∀ (r t : Nat → Nat), dd p w r t 0 0 = 0 := fun r t => by rw [dd_0, Nat.zero_mul]
  -- up: what is left, from behind, is dear enough
  have up : ∀ (N i j : Nat), (n - i) + (k - j) ≤ N → i ≤ n → j ≤ k → dd p w r t n k ≤ dd p w r t i j + dd p w (fun i => r (n - 1 - i)) (fun j => t (k - 1 - j)) (n - i) (k - j) := by
    intro N
    induction N with
    | zero =>
      intro i j h1 h2 h3
      rw [show i = n by omega, show j = k by omega, Nat.sub_self, Nat.sub_self, z0]
      omega
    | succ N ih =>
      intro i j h1 h2 h3
      by_cases h0 : (n - i) + (k - j) = 0
      · rw [show i = n by omega, show j = k by omega, Nat.sub_self, Nat.sub_self, z0]
        omega
      · rcases dl_a (p := p) (w := w) (r := fun i => r (n - 1 - i)) (t := fun j => t (k - 1 - j)) (n - i) (k - j) (by omega) with ⟨i', e1, e2⟩ | ⟨j', e1, e2⟩ | ⟨i', j', e1, e2, e3⟩ | ⟨i', j', e1, e2, e4, e5, e3⟩
        · have := ih (i + 1) j (by omega) (by omega) h3
          rw [show n - (i + 1) = i' by omega] at this
          have := dl_1 (p := p) (w := w) (r := r) (t := t) i j
          omega
        · have := ih i (j + 1) (by omega) h2 (by omega)
          rw [show k - (j + 1) = j' by omega] at this
          have := dl_2 (p := p) (w := w) (r := r) (t := t) i j
          omega
        · have := ih (i + 1) (j + 1) (by omega) (by omega) (by omega)
          rw [show n - (i + 1) = i' by omega, show k - (j + 1) = j' by omega] at this
          have h9 := dl_3 (p := p) (w := w) (r := r) (t := t) i j
          rw [show n - 1 - i' = i by omega, show k - 1 - j' = j by omega] at e3
          omega
        · have := ih (i + 2) (j + 2) (by omega) (by omega) (by omega)
          rw [show n - (i + 2) = i' by omega, show k - (j + 2) = j' by omega] at this
          rw [show n - 1 - i' = i + 1 by omega, show k - 1 - (j' + 1) = j by omega] at e4
          rw [show n - 1 - (i' + 1) = i by omega, show k - 1 - j' = j + 1 by omega] at e5
          have h9 := dl_4 (p := p) (w := w) (r := r) (t := t) i j e5 e4
          omega
  have dn : ∀ (N i j : Nat), i + j ≤ N → i ≤ n → j ≤ k → dd p w (fun i => r (n - 1 - i)) (fun j => t (k - 1 - j)) n k ≤ dd p w r t i j + dd p w (fun i => r (n - 1 - i)) (fun j => t (k - 1 - j)) (n - i) (k - j) := by
    intro N
    induction N with
    | zero =>
      intro i j h1 h2 h3
      rw [show i = 0 by omega, show j = 0 by omega, Nat.sub_zero, Nat.sub_zero]
      omega
    | succ N ih =>
      intro i j h1 h2 h3
      by_cases h0 : i + j = 0
      · rw [show i = 0 by omega, show j = 0 by omega, Nat.sub_zero, Nat.sub_zero]
        omega
      · rcases dl_a (p := p) (w := w) (r := r) (t := t) i j (by omega) with ⟨i', e1, e2⟩ | ⟨j', e1, e2⟩ | ⟨i', j', e1, e2, e3⟩ | ⟨i', j', e1, e2, e4, e5, e3⟩
        · have := ih i' j (by omega) (by omega) h3
          have h9 := dl_1 (p := p) (w := w) (r := fun i => r (n - 1 - i)) (t := fun j => t (k - 1 - j)) (n - i) (k - j)
          rw [show n - i + 1 = n - i' by omega] at h9
          omega
        · have := ih i j' (by omega) h2 (by omega)
          have h9 := dl_2 (p := p) (w := w) (r := fun i => r (n - 1 - i)) (t := fun j => t (k - 1 - j)) (n - i) (k - j)
          rw [show k - j + 1 = k - j' by omega] at h9
          omega
        · have := ih i' j' (by omega) (by omega) (by omega)
          have h9 := dl_3 (p := p) (w := w) (r := fun i => r (n - 1 - i)) (t := fun j => t (k - 1 - j)) (n - i) (k - j)
          rw [show n - i + 1 = n - i' by omega, show k - j + 1 = k - j' by omega, show n - 1 - (n - i) = i' by omega, show k - 1 - (k - j) = j' by omega] at h9
          omega
        · have := ih i' j' (by omega) (by omega) (by omega)
          have h9 := dl_4 (p := p) (w := w) (r := fun i => r (n - 1 - i)) (t := fun j => t (k - 1 - j)) (n - i) (k - j) (by rw [show n - 1 - (n - i) = i' + 1 by omega, show k - 1 - (k - j + 1) = j' by omega]; exact e5) (by rw [show n - 1 - (n - i + 1) = i' by omega, show k - 1 - (k - j) = j' + 1 by omega]; exact e4)
          rw [show n - i + 2 = n - i' by omega, show k - j + 2 = k - j' by omega] at h9
          omega
  have a := up (n + k) 0 0 (by omega) (by omega) (by omega)
  have b := dn (n + k) n k (by omega) (by omega) (by omega)
  rw [z0, Nat.sub_zero, Nat.sub_zero] at a
  rw [Nat.sub_self, Nat.sub_self, z0] at b
  omega
/-- the last b of a row, from behind -/
theorem dd_tail (p : Nat → Nat) (w : Nat → Nat → Nat) (r t : Nat → Nat) {n b : Nat} (k : Nat) (hb : b ≤ n) : dd p w (fun i => r (n - 1 - i)) (fun j => t (k - 1 - j)) b k = dd p w (fun i => r (n - b + i)) t b k := by
  rw [← dd_mirror p w (fun i => r (n - b + i)) t b k]
  refine dd_ext b k (fun i hi => ?_) (fun j hj => rfl)
  rw [show n - b + (b - 1 - i) = n - 1 - i by omega]
end
section
section SID
variable {l : Launch} {D : va_G} {kA : FieldType → ClassId} {B sz : Nat} {o : Int64}
set_option maxRecDepth 100000 in
/-- Arrays.fill of an int array -/
theorem c_afill (m : mm_M) {k N : Nat} (x : Int32) (hk : ∀ (m : Nat → Int32) (o : Int64), ly B m o k = some (.inl (.int, N, .inl m))) (hN : N < 10000) : mm_F l D kA B sz o 0 0 mJ7_fill_53178 [.ref (B + k), .int x] m (fun v m' => v = none ∧ (∀ i, i < N → m' k i = x) ∧ ∀ a, a ≠ k → m' a = m a) := by
  refine mm_F.of ?_
  refine e_iconst (v := nI 0) dJ7_fill_53178_0 (by decide) ?_
  refine e_istore_n dJ7_fill_53178_1 rfl (by decide) rfl ?_
  refine e_aload_n dJ7_fill_53178_2 rfl rfl ?_
  refine e_alen (v := nI N) dJ7_fill_53178_3 (by decide) (lay_at.trans (hk _ _)) rfl ?_
  refine e_istore_n dJ7_fill_53178_4 rfl (by decide) rfl ?_
  have loop : ∀ (d i : Nat) (m' : mm_M), N - i = d → i ≤ N → (∀ j, j < i → m' k j = x) → (∀ a, a ≠ k → m' a = m a) → mm_G l D kA B sz o 0 0 mJ7_fill_53178 (fun v m' => v = none ∧ (∀ i, i < N → m' k i = x) ∧ ∀ a, a ≠ k → m' a = m a) 5 [some (.ref (B + k)), some (.int x), some (.int (nI i)), some (.int (nI N))] [] m' := by
    intro d
    induction d with
    | zero =>
      intro i m' h1 h2 h3 h4
      refine e_iload_n dJ7_fill_53178_5 rfl rfl ?_
      refine e_iload_n dJ7_fill_53178_6 rfl rfl ?_
      refine n_icmp_ge 20 dJ7_fill_53178_7 (by decide) (by omega) (by omega) (fun g1 => ?_) (fun g1 => ?_)
      · refine m_vret dJ7_fill_53178_20 rfl (Nat.le_refl _) (Nat.le_refl _) ⟨rfl, fun j hj => h3 j (by omega), h4⟩
      · exact absurd g1 (by omega)
    | succ d ih =>
      intro i m' h1 h2 h3 h4
      refine e_iload_n dJ7_fill_53178_5 rfl rfl ?_
      refine e_iload_n dJ7_fill_53178_6 rfl rfl ?_
      refine n_icmp_ge 20 dJ7_fill_53178_7 (by decide) (by omega) (by omega) (fun g1 => ?_) (fun g1 => ?_)
      · exact absurd g1 (by omega)
      · refine e_aload_n dJ7_fill_53178_10 rfl rfl ?_
        refine e_iload_n dJ7_fill_53178_11 rfl rfl ?_
        refine e_iload_n dJ7_fill_53178_12 rfl rfl ?_
        refine m_iast i dJ7_fill_53178_13 (fun m => hk m _) rfl (by omega) (by omega) ?_
        refine e_iinc (v := nI (i + 1)) dJ7_fill_53178_14 rfl (nI_add _ _) (by decide) rfl ?_
        refine e_goto 5 dJ7_fill_53178_17 (by decide) ?_
        refine ih (i + 1) _ (by omega) (by omega) (fun j hj => ?_) (fun a ha => by rw [wr_off _ _ ha]; exact h4 a ha)
        by_cases e : j = i
        · rw [e, wr_same]
        · rw [wr_ne _ _ (Or.inr e)]; exact h3 j (by omega)
  exact loop N 0 m (by omega) (by omega) (fun j hj => by omega) (fun a _ => rfl)
/-- a Side: the object, its numbers, its costs -/
def isSide (B s s1 s2 : Nat) : Prop := (∀ (m : Nat → Int32) (o : Int64), ly B m o s = some (.inr (6, [.ref (B + s1), .ref (B + s2)]))) ∧ (∀ (m : Nat → Int32) (o : Int64), ly B m o s1 = some (.inl (.int, 13, .inl m))) ∧ ∀ (m : Nat → Int32) (o : Int64), ly B m o s2 = some (.inl (.int, 13, .inl m))
theorem isSide_l (B : Nat) : isSide B 197 198 199 := ⟨fun m o => ly_197 B m o, fun m o => ly_198 B m o, fun m o => ly_199 B m o⟩
theorem isSide_r (B : Nat) : isSide B 200 201 202 := ⟨fun m o => ly_200 B m o, fun m o => ly_201 B m o, fun m o => ly_202 B m o⟩
set_option maxRecDepth 100000 in
/-- Side.empty -/
theorem c_empty (m : mm_M) {s s1 s2 : Nat} (hs : isSide B s s1 s2) : mm_F l D kA B sz o 1 23 mX6_empty [.ref (B + s)] m (fun v m' => v = none ∧ (∀ i, i < 13 → m' s2 i = nI 1000000) ∧ ∀ a, a ≠ s2 → m' a = m a) := by
  refine mm_F.of ?_
  refine e_aload_n dX6_empty_0 rfl rfl ?_
  refine m_get 6 1 lf_X6_15 dX6_empty_1 (hs.1 _ _) rfl ?_
  refine e_ldc dX6_empty_4 lk_X6_18 ?_
  refine m_callS (As := [_, _]) lc_X6_19 dX6_empty_6 rfl rfl (by simp [Value.category]) (Nat.le_of_ble_eq_true rfl) (Nat.le_of_ble_eq_true rfl) ⟨Nat.le_of_ble_eq_true rfl, Nat.le_of_ble_eq_true rfl⟩ ⟨Nat.le_of_ble_eq_true rfl, Nat.le_of_ble_eq_true rfl⟩ (c_afill m (k := s2) (1000000 : Int32) hs.2.2 (by omega)) (fun v9 m9 hp9 => ?_)
  obtain ⟨rfl, a1, a2⟩ := hp9
  exact m_vret dX6_empty_9 rfl (Nat.le_refl _) (Nat.le_refl _) (⟨rfl, a1, a2⟩)
def P_off (m : mm_M) (s1 s2 T x : Nat) (d co : Nat → Nat) (v : Option Value) (m' : mm_M) : Prop := v = none ∧ (∀ a, 1 ≤ a → a ≤ T → if d a < co a then m' s1 a = nI x ∧ m' s2 a = nI (d a) else m' s1 a = m s1 a ∧ m' s2 a = m s2 a) ∧ ∀ a, a ≠ s1 → a ≠ s2 → m' a = m a
set_option maxRecDepth 100000 in
set_option maxHeartbeats 1000000 in
/-- Side.offer -/
theorem c_offer (m : mm_M) {s s1 s2 n k T x : Nat} {d co : Nat → Nat} (hs : isSide B s s1 s2) (e0 : s1 ≠ s2) (e1 : 190 ≤ s1) (e2 : 190 ≤ s2) (hn : m 172 1 = nI n) (hk : m 174 1 = nI k) (n12 : n ≤ 12) (k12 : k ≤ 12) (hT : T ≤ n) (hd : ∀ a, a ≤ n → m (177 + a) k = nI (d a) ∧ d a ≤ 1000000) (hco : ∀ a, 1 ≤ a → a ≤ T → m s2 a = nI (co a) ∧ co a ≤ 1000000) : mm_F l D kA B sz o 1 21 mX6_offer [.ref (B + s), .int (nI x), .ref (B + 171), .int (nI T)] m (P_off m s1 s2 T x d co) := by
  refine mm_F.of ?_
  refine e_iconst (v := nI 1) dX6_offer_0 (by decide) ?_
  refine e_istore dX6_offer_1 (by decide) rfl ?_
  have loop : ∀ (z a : Nat) (m' : mm_M) (x5 : Option Value), T + 1 - a = z → 1 ≤ a → a ≤ T + 1 → (∀ b, 1 ≤ b → b < a → if d b < co b then m' s1 b = nI x ∧ m' s2 b = nI (d b) else m' s1 b = m s1 b ∧ m' s2 b = m s2 b) → (∀ b, a ≤ b → m' s1 b = m s1 b ∧ m' s2 b = m s2 b) → (∀ b, b ≠ s1 → b ≠ s2 → m' b = m b) → mm_G l D kA B sz o 1 21 mX6_offer (P_off m s1 s2 T x d co) 3 [some (.ref (B + s)), some (.int (nI x)), some (.ref (B + 171)), some (.int (nI T)), some (.int (nI a)), x5] [] m' := by
    intro z
    induction z with
    | zero =>
      intro a m' x5 h1 h2 h3 h4 h5 h6
      refine e_iload dX6_offer_3 rfl ?_
      refine e_iload_n dX6_offer_5 rfl rfl ?_
      refine n_icmp_gt 52 dX6_offer_6 (by decide) (by omega) (by omega) (fun g1 => ?_) (fun g1 => ?_)
      · exact m_vret dX6_offer_52 rfl (Nat.le_refl _) (Nat.le_refl _) (⟨rfl, fun b b1 b2 => h4 b b1 (by omega), h6⟩)
      · exact absurd g1 (by omega)
    | succ z ih =>
      intro a m' x5 h1 h2 h3 h4 h5 h6
      obtain ⟨c1, c2⟩ := hco a h2 (by omega)
      obtain ⟨d1, d2⟩ := hd a (by omega)
      refine e_iload dX6_offer_3 rfl ?_
      refine e_iload_n dX6_offer_5 rfl rfl ?_
      refine n_icmp_gt 52 dX6_offer_6 (by decide) (by omega) (by omega) (fun g1 => ?_) (fun g1 => ?_)
      · exact absurd g1 (by omega)
      · refine e_aload_n dX6_offer_9 rfl rfl ?_
        refine e_iload dX6_offer_10 rfl ?_
        refine m_callV (As := [_]) lc_X6_25 dX6_offer_12 (ly_171 B _ _) rfl rfl (by simp [Value.category]) (Nat.le_of_ble_eq_true rfl) (Nat.le_of_ble_eq_true rfl) ⟨Nat.le_of_ble_eq_true rfl, Nat.le_of_ble_eq_true rfl⟩ ⟨Nat.le_of_ble_eq_true rfl, Nat.le_of_ble_eq_true rfl⟩ (c_priceOfFirst m' (a := a) (n := n) (k := k) (by rw [h6 172 (by omega) (by omega)]; exact hn) (by rw [h6 174 (by omega) (by omega)]; exact hk) n12 k12 (by omega)) (fun v9 m1 hp9 => ?_)
        obtain ⟨rfl, rfl⟩ := hp9
        refine e_top (w := nI (d a)) ((by rw [h6 (177 + a) (by omega) (by omega)]; exact d1)) ?_
        refine e_istore dX6_offer_15 (by decide) rfl ?_
        refine e_iload dX6_offer_17 rfl ?_
        refine e_aload_n dX6_offer_19 rfl rfl ?_
        refine m_get 6 1 lf_X6_15 dX6_offer_20 (hs.1 _ _) rfl ?_
        refine e_iload dX6_offer_23 rfl ?_
        refine m_iald (a) dX6_offer_25 (hs.2.2 _ _) (rfl) (by omega) (by decide) ?_
        refine e_top (w := nI (co a)) ((by rw [(h5 a (Nat.le_refl _)).2]; exact c1)) ?_
        refine n_icmp_ge 46 dX6_offer_26 (by decide) (by omega) (by omega) (fun g2 => ?_) (fun g2 => ?_)
        · refine e_iinc (v := nI (a + 1)) dX6_offer_46 rfl (nI_add _ _) (by decide) rfl ?_
          refine e_goto 3 dX6_offer_49 (by decide) ?_
          refine ih (a + 1) m1 _ (by omega) (by omega) (by omega) (fun b b1 b2 => ?_) (fun b hb => h5 b (by omega)) h6
          by_cases e : b = a
          · subst e
            rw [if_neg (by omega)]; exact h5 b (Nat.le_refl _)
          · exact h4 b b1 (by omega)
        · refine e_aload_n dX6_offer_29 rfl rfl ?_
          refine m_get 6 1 lf_X6_15 dX6_offer_30 (hs.1 _ _) rfl ?_
          refine e_iload dX6_offer_33 rfl ?_
          refine e_iload dX6_offer_35 rfl ?_
          refine m_iast (a) dX6_offer_37 (fun m => hs.2.2 m _) (rfl) (by omega) (by decide) ?_
          refine e_aload_n dX6_offer_38 rfl rfl ?_
          refine m_get 6 0 lf_X6_9 dX6_offer_39 (hs.1 _ _) rfl ?_
          refine e_iload dX6_offer_42 rfl ?_
          refine e_iload_n dX6_offer_44 rfl rfl ?_
          refine m_iast (a) dX6_offer_45 (fun m => hs.2.1 m _) (rfl) (by omega) (by decide) ?_
          refine e_iinc (v := nI (a + 1)) dX6_offer_46 rfl (nI_add _ _) (by decide) rfl ?_
          refine e_goto 3 dX6_offer_49 (by decide) ?_
          refine ih (a + 1) _ _ (by omega) (by omega) (by omega) (fun b b1 b2 => ?_) (fun b hb => ?_) (fun b h7 h8 => by rw [wr_off _ _ h7, wr_off _ _ h8]; exact h6 b h7 h8)
          · by_cases e : b = a
            · subst e
              rw [if_pos (by omega), wr_same, wr_off _ _ e0.symm, wr_same]
              exact ⟨rfl, rfl⟩
            · rw [wr_ne _ _ (Or.inr e), wr_off _ _ e0, wr_off _ _ e0.symm, wr_ne _ _ (Or.inr e)]
              exact h4 b b1 (by omega)
          · rw [wr_ne _ _ (Or.inr (by omega)), wr_off _ _ e0, wr_off _ _ e0.symm, wr_ne _ _ (Or.inr (by omega))]
            exact h5 b (by omega)
  exact loop T 1 m none (by omega) (by omega) (by omega) (fun b b1 b2 => by omega) (fun b _ => ⟨rfl, rfl⟩) (fun b _ _ => rfl)
/-- of the first i in ORDER the closest, for each length up to T -/
def sd (m : mm_M) (s1 s2 : Nat) (f : Nat → Nat) (i : Nat) (g : Nat → Nat → Nat) (T : Nat) : Prop := ∀ a, 1 ≤ a → a ≤ T → (i = 0 ∧ m s2 a = nI 1000000) ∨ ∃ j0, j0 < i ∧ m s1 a = nI (f j0) ∧ m s2 a = nI (g a (f j0)) ∧ ∀ j, j < i → g a (f j0) ≤ g a (f j) ∧ (j < j0 → g a (f j0) < g a (f j))
theorem sd.of {m m' : mm_M} {s1 s2 i T : Nat} {f : Nat → Nat} {g : Nat → Nat → Nat} (h : sd m s1 s2 f i g T) (h1 : m' s1 = m s1) (h2 : m' s2 = m s2) : sd m' s1 s2 f i g T := fun a a1 a2 => by
  rw [h1, h2]; exact h a a1 a2
/-- what the costs are, as numbers -/
theorem sd.co {m : mm_M} {s1 s2 i T : Nat} {f : Nat → Nat} {g : Nat → Nat → Nat} (h : sd m s1 s2 f i g T) (hg : ∀ a j, a ≤ T → j < i → g a (f j) ≤ 1000000) : ∃ co : Nat → Nat, ∀ a, 1 ≤ a → a ≤ T → m s2 a = nI (co a) ∧ co a ≤ 1000000 := by
  have : ∀ a, ∃ c, 1 ≤ a → a ≤ T → m s2 a = nI c ∧ c ≤ 1000000 := fun a => by
    by_cases ha : 1 ≤ a ∧ a ≤ T
    · rcases h a ha.1 ha.2 with ⟨-, e⟩ | ⟨j0, j1, -, e, -⟩
      · exact ⟨1000000, fun _ _ => ⟨e, Nat.le_refl _⟩⟩
      · exact ⟨g a (f j0), fun _ _ => ⟨e, hg a j0 ha.2 j1⟩⟩
    · exact ⟨0, fun h1 h2 => absurd ⟨h1, h2⟩ ha⟩
  exact ⟨fun a => Classical.choose (this a), fun a h1 h2 => Classical.choose_spec (this a) h1 h2⟩
theorem sd.step {m m' : mm_M} {s1 s2 i T : Nat} {f d co : Nat → Nat} {g : Nat → Nat → Nat} {v : Option Value} (h : sd m s1 s2 f i g T) (hd : ∀ a, a ≤ T → d a = g a (f i)) (hg : ∀ a, a ≤ T → g a (f i) < 1000000) (hgb : ∀ a j, a ≤ T → j < i → g a (f j) < 1000000) (hco : ∀ a, 1 ≤ a → a ≤ T → m s2 a = nI (co a) ∧ co a ≤ 1000000) (hp : P_off m s1 s2 T (f i) d co v m') : sd m' s1 s2 f (i + 1) g T := by
  intro a a1 a2
  obtain ⟨-, hp, -⟩ := hp
  have h1 := hp a a1 a2
  obtain ⟨c1, c2⟩ := hco a a1 a2
  have d1 := hd a a2
  have g1 := hg a a2
  right
  rcases h a a1 a2 with ⟨i0, e⟩ | ⟨j0, j1, j2, j3, j4⟩
  · have : co a = 1000000 := (nI_eq (by omega) (by omega)).mp (c1.symm.trans e)
    rw [if_pos (by omega)] at h1
    refine ⟨i, by omega, h1.1, by rw [h1.2, d1], fun j hj => ⟨?_, fun _ => by omega⟩⟩
    rw [show j = i by omega]
    exact Nat.le_refl _
  · have hb := hgb a j0 a2 j1
    have : co a = g a (f j0) := (nI_eq (by omega) (by omega)).mp (c1.symm.trans j3)
    by_cases e : d a < co a
    · rw [if_pos e] at h1
      refine ⟨i, by omega, h1.1, by rw [h1.2, d1], fun j hj => ⟨?_, fun hji => ?_⟩⟩
      · by_cases e2 : j = i
        · rw [e2]; exact Nat.le_refl _
        · have := (j4 j (by omega)).1; omega
      · have := (j4 j hji).1; omega
    · rw [if_neg e] at h1
      refine ⟨j0, by omega, by rw [h1.1]; exact j2, by rw [h1.2]; exact j3, fun j hj => ?_⟩
      by_cases e2 : j = i
      · subst e2
        exact ⟨by omega, fun _ => by omega⟩
      · exact j4 j (by omega)
end SID
end
section
section PRT
variable {l : Launch} {D : va_G} {kA : FieldType → ClassId} {B sz : Nat} {o : Int64}
/-- DISTANCE of the first a typed, of the last b, to a word -/
def gL (S : sp_S) (a q : Nat) : Nat := dd (pp S) (ww S) (tl S) (wt S q) a (wl S q)
def gR (S : sp_S) (b q : Nat) : Nat := dd (pp S) (ww S) (fun i => tl S (tn S - b + i)) (wt S q) b (wl S q)
theorem gL_le {S : sp_S} (h : ok S) {a q : Nat} (ha : a ≤ 12) (hq : q < wn S) : gL S a q ≤ 216 := by
  have h1 := dd_le (w := ww S) (tl S) (wt S q) (h.2.2.2.2.2.1 0 (by omega)) (h.2.2.2.2.2.1 1 (by omega)) a (wl S q)
  have := (h.2.2.2.1 q hq).2.1
  unfold gL
  omega
theorem gR_le {S : sp_S} (h : ok S) {a q : Nat} (ha : a ≤ 12) (hq : q < wn S) : gR S a q ≤ 216 := by
  have h1 := dd_le (w := ww S) (fun i => tl S (tn S - a + i)) (wt S q) (h.2.2.2.2.2.1 0 (by omega)) (h.2.2.2.2.2.1 1 (by omega)) a (wl S q)
  have := (h.2.2.2.1 q hq).2.1
  unfold gR
  omega
/-- only table and sides are others -/
def frS (m m' : mm_M) : Prop := ∀ a, a < 172 ∨ (190 ≤ a ∧ a < 198) ∨ a = 200 ∨ 203 ≤ a → m' a = m a
set_option maxRecDepth 100000 in
set_option maxHeartbeats 2000000 in
/-- Parting.fillSides -/
theorem c_fillSides (m : mm_M) {S : sp_S} {f : Nat → Nat} (hc : cs m S) (hf : or_at m (wn S) f (wl S) (wt S)) (t1 : 1 ≤ tn S) : mm_F l D kA B sz o 5 112 mX2_fillSides [.ref (B + 196), .ref (B + 1), .ref (B + 32), .ref (B + 171)] m (fun v m' => v = none ∧ sd m' 198 199 f (wn S) (gL S) (tn S - 1) ∧ sd m' 201 202 f (wn S) (gR S) (tn S - 1) ∧ frS m m') := by
  have hok := hc.1
  have n60 := hok.2.2.1
  have t12 := hok.1
  obtain ⟨o1, o2, o3⟩ := hf
  refine mm_F.of ?_
  refine e_aload_n dX2_fillSides_0 rfl rfl ?_
  refine m_get 2 0 lf_X2_12 dX2_fillSides_1 (ly_196 B _ _) rfl ?_
  refine m_callV (As := []) lc_X2_51 dX2_fillSides_4 (ly_197 B _ _) rfl rfl (by simp [Value.category]) (Nat.le_of_ble_eq_true rfl) (Nat.le_of_ble_eq_true rfl) ⟨Nat.le_of_ble_eq_true rfl, Nat.le_of_ble_eq_true rfl⟩ ⟨Nat.le_of_ble_eq_true rfl, Nat.le_of_ble_eq_true rfl⟩ (c_empty m (isSide_l B)) (fun v9 m1 hp9 => ?_)
  obtain ⟨rfl, a1, a2⟩ := hp9
  refine e_aload_n dX2_fillSides_7 rfl rfl ?_
  refine m_get 2 1 lf_X2_18 dX2_fillSides_8 (ly_196 B _ _) rfl ?_
  refine m_callV (As := []) lc_X2_51 dX2_fillSides_11 (ly_200 B _ _) rfl rfl (by simp [Value.category]) (Nat.le_of_ble_eq_true rfl) (Nat.le_of_ble_eq_true rfl) ⟨Nat.le_of_ble_eq_true rfl, Nat.le_of_ble_eq_true rfl⟩ ⟨Nat.le_of_ble_eq_true rfl, Nat.le_of_ble_eq_true rfl⟩ (c_empty m1 (isSide_r B)) (fun v9 m2 hp9 => ?_)
  obtain ⟨rfl, b1, b2⟩ := hp9
  refine e_iconst (v := nI 0) dX2_fillSides_14 (by decide) ?_
  refine e_istore dX2_fillSides_15 (by decide) rfl ?_
  have loop : ∀ (z i : Nat) (m' : mm_M) (x5 : Option Value), wn S - i = z → i ≤ wn S → sd m' 198 199 f i (gL S) (tn S - 1) → sd m' 201 202 f i (gR S) (tn S - 1) → frS m m' → mm_G l D kA B sz o 5 112 mX2_fillSides (fun v m' => v = none ∧ sd m' 198 199 f (wn S) (gL S) (tn S - 1) ∧ sd m' 201 202 f (wn S) (gR S) (tn S - 1) ∧ frS m m') 17 [some (.ref (B + 196)), some (.ref (B + 1)), some (.ref (B + 32)), some (.ref (B + 171)), some (.int (nI i)), x5] [] m' := by
    intro z
    induction z with
    | zero =>
      intro i m' x5 h1 h2 h3 h4 h5
      refine e_iload dX2_fillSides_17 rfl ?_
      refine e_aload_n dX2_fillSides_19 rfl rfl ?_
      refine m_get 8 4 lf_X2_54 dX2_fillSides_20 (ly_32 B _ _) rfl ?_
      refine e_top (w := nI (wn S)) ((by rw [h5 32 (by omega)]; exact hc.2.2.2.1)) ?_
      refine n_icmp_ge 98 dX2_fillSides_23 (by decide) (by omega) (by omega) (fun g1 => ?_) (fun g1 => ?_)
      · have : i = wn S := by omega
        subst this
        exact m_vret dX2_fillSides_98 rfl (Nat.le_refl _) (Nat.le_refl _) (⟨rfl, h3, h4, h5⟩)
      · exact absurd g1 (by omega)
    | succ z ih =>
      intro i m' x5 h1 h2 h3 h4 h5
      obtain ⟨f1, f2⟩ := o1 i (by omega)
      have f60 : f i < 60 := by omega
      have w12 := (hok.2.2.2.1 (f i) f2).2.1
      have hc' : cs m' S := hc.of (fun a ha => h5 a (by omega))
      have bL : ∀ a j, a ≤ tn S - 1 → j < i → gL S a (f j) < 1000000 := fun a j ha hj => by
        have := gL_le hok (a := a) (q := f j) (by omega) (o1 j (by omega)).2
        omega
      have bR : ∀ a j, a ≤ tn S - 1 → j < i → gR S a (f j) < 1000000 := fun a j ha hj => by
        have := gR_le hok (a := a) (q := f j) (by omega) (o1 j (by omega)).2
        omega
      refine e_iload dX2_fillSides_17 rfl ?_
      refine e_aload_n dX2_fillSides_19 rfl rfl ?_
      refine m_get 8 4 lf_X2_54 dX2_fillSides_20 (ly_32 B _ _) rfl ?_
      refine e_top (w := nI (wn S)) ((by rw [h5 32 (by omega)]; exact hc.2.2.2.1)) ?_
      refine n_icmp_ge 98 dX2_fillSides_23 (by decide) (by omega) (by omega) (fun g1 => ?_) (fun g1 => ?_)
      · exact absurd g1 (by omega)
      · refine e_aload_n dX2_fillSides_26 rfl rfl ?_
        refine m_get 8 2 lf_X2_59 dX2_fillSides_27 (ly_32 B _ _) rfl ?_
        refine e_iload dX2_fillSides_30 rfl ?_
        refine m_iald (i) dX2_fillSides_32 (ly_35 B _ _) (rfl) (by omega) (by decide) ?_
        refine e_top (w := nI (f i)) ((by rw [h5 35 (by omega)]; exact f1)) ?_
        refine e_istore dX2_fillSides_33 (by decide) rfl ?_
        refine e_aload_n dX2_fillSides_35 rfl rfl ?_
        refine e_aload_n dX2_fillSides_36 rfl rfl ?_
        refine e_aload_n dX2_fillSides_37 rfl rfl ?_
        refine m_get 8 0 lf_X2_62 dX2_fillSides_38 (ly_32 B _ _) rfl ?_
        refine e_iload dX2_fillSides_41 rfl ?_
        refine m_aald (r := 37 + 2 * (f i)) (f i) dX2_fillSides_43 (by decide) rfl (ly_33 B _ _) (rfl) (by omega) (by decide) (if_pos (by omega)) ?_
        refine m_callV (As := [_, _]) lc_X2_66 dX2_fillSides_44 (ly_171 B _ _) rfl rfl (by simp [Value.category]) (Nat.le_of_ble_eq_true rfl) (Nat.le_of_ble_eq_true rfl) ⟨Nat.le_of_ble_eq_true rfl, Nat.le_of_ble_eq_true rfl⟩ ⟨Nat.le_of_ble_eq_true rfl, Nat.le_of_ble_eq_true rfl⟩ (c_measure m' hc'.2.2.1 (isRow_1 B) (isRow_w B f60) (by omega) (by omega) (by omega) (by omega) hc'.2.1 (hc'.2.2.2.2.1 (f i) f2).1) (fun v9 m3 hp9 => ?_)
        obtain ⟨rfl, c1, c2, c3, c4⟩ := hp9
        have h3' : sd m3 198 199 f i (gL S) (tn S - 1) := h3.of (c4 198 (by omega)) (c4 199 (by omega))
        have h4' : sd m3 201 202 f i (gR S) (tn S - 1) := h4.of (c4 201 (by omega)) (c4 202 (by omega))
        obtain ⟨co, hco⟩ := h3'.co (fun a j ha hj => Nat.le_of_lt (bL a j ha hj))
        refine e_pop dX2_fillSides_47 rfl ?_
        refine e_aload_n dX2_fillSides_48 rfl rfl ?_
        refine m_get 2 0 lf_X2_12 dX2_fillSides_49 (ly_196 B _ _) rfl ?_
        refine e_iload dX2_fillSides_52 rfl ?_
        refine e_aload_n dX2_fillSides_54 rfl rfl ?_
        refine e_aload_n dX2_fillSides_55 rfl rfl ?_
        refine m_get 5 1 lf_X2_39 dX2_fillSides_56 (ly_1 B _ _) rfl ?_
        refine e_top (w := nI (tn S)) ((by rw [c4 1 (by omega)]; exact hc'.2.1.1)) ?_
        refine e_iconst (v := nI 1) dX2_fillSides_59 (by decide) ?_
        refine e_isub dX2_fillSides_60 ?_
        refine e_top (w := nI ((tn S) - 1)) (pk_sub (by omega)) ?_
        refine m_callV (As := [_, _, _]) lc_X2_72 dX2_fillSides_61 (ly_197 B _ _) rfl rfl (by simp [Value.category]) (Nat.le_of_ble_eq_true rfl) (Nat.le_of_ble_eq_true rfl) ⟨Nat.le_of_ble_eq_true rfl, Nat.le_of_ble_eq_true rfl⟩ ⟨Nat.le_of_ble_eq_true rfl, Nat.le_of_ble_eq_true rfl⟩ (c_offer m3 (x := f i) (d := fun a => gL S a (f i)) (co := co) (isSide_l B) (by omega) (by omega) (by omega) c1.1 c2.1 t12 w12 (T := tn S - 1) (by omega) (fun a ha => ⟨c3 a _ ha (Nat.le_refl _), by have := gL_le hok (a := a) (q := f i) (by omega) f2; omega⟩) hco) (fun v9 m4 hp9 => ?_)
        have s1 := h3'.step (fun a _ => rfl) (fun a ha => by have := gL_le hok (a := a) (q := f i) (by omega) f2; omega) bL hco hp9
        obtain ⟨rfl, -, d2⟩ := hp9
        have fr4 : ∀ a, a < 172 ∨ (190 ≤ a ∧ a < 198) ∨ 200 ≤ a → m4 a = m' a := fun a ha => by rw [d2 a (by omega) (by omega)]; exact c4 a (by omega)
        have hc4 : cs m4 S := hc'.of (fun a ha => fr4 a (by omega))
        refine e_aload_n dX2_fillSides_64 rfl rfl ?_
        refine e_aload_n dX2_fillSides_65 rfl rfl ?_
        refine e_aload_n dX2_fillSides_66 rfl rfl ?_
        refine m_get 8 0 lf_X2_62 dX2_fillSides_67 (ly_32 B _ _) rfl ?_
        refine e_iload dX2_fillSides_70 rfl ?_
        refine m_aald (r := 37 + 2 * (f i)) (f i) dX2_fillSides_72 (by decide) rfl (ly_33 B _ _) (rfl) (by omega) (by decide) (if_pos (by omega)) ?_
        refine m_callV (As := [_, _]) lc_X2_76 dX2_fillSides_73 (ly_171 B _ _) rfl rfl (by simp [Value.category]) (Nat.le_of_ble_eq_true rfl) (Nat.le_of_ble_eq_true rfl) ⟨Nat.le_of_ble_eq_true rfl, Nat.le_of_ble_eq_true rfl⟩ ⟨Nat.le_of_ble_eq_true rfl, Nat.le_of_ble_eq_true rfl⟩ (c_measureM m4 hc4.2.2.1 (isRow_1 B) (isRow_w B f60) (by omega) (by omega) (by omega) (by omega) hc4.2.1 (hc4.2.2.2.2.1 (f i) f2).1) (fun v9 m5 hp9 => ?_)
        obtain ⟨rfl, e1, e2, e3, e4⟩ := hp9
        have h3'' : sd m5 198 199 f (i + 1) (gL S) (tn S - 1) := s1.of (e4 198 (by omega)) (e4 199 (by omega))
        have h4'' : sd m5 201 202 f i (gR S) (tn S - 1) := h4'.of (by rw [e4 201 (by omega), d2 201 (by omega) (by omega)]) (by rw [e4 202 (by omega), d2 202 (by omega) (by omega)])
        obtain ⟨co2, hco2⟩ := h4''.co (fun a j ha hj => Nat.le_of_lt (bR a j ha hj))
        refine e_aload_n dX2_fillSides_76 rfl rfl ?_
        refine m_get 2 1 lf_X2_18 dX2_fillSides_77 (ly_196 B _ _) rfl ?_
        refine e_iload dX2_fillSides_80 rfl ?_
        refine e_aload_n dX2_fillSides_82 rfl rfl ?_
        refine e_aload_n dX2_fillSides_83 rfl rfl ?_
        refine m_get 5 1 lf_X2_39 dX2_fillSides_84 (ly_1 B _ _) rfl ?_
        refine e_top (w := nI (tn S)) ((by rw [e4 1 (by omega)]; exact hc4.2.1.1)) ?_
        refine e_iconst (v := nI 1) dX2_fillSides_87 (by decide) ?_
        refine e_isub dX2_fillSides_88 ?_
        refine e_top (w := nI ((tn S) - 1)) (pk_sub (by omega)) ?_
        refine m_callV (As := [_, _, _]) lc_X2_72 dX2_fillSides_89 (ly_200 B _ _) rfl rfl (by simp [Value.category]) (Nat.le_of_ble_eq_true rfl) (Nat.le_of_ble_eq_true rfl) ⟨Nat.le_of_ble_eq_true rfl, Nat.le_of_ble_eq_true rfl⟩ ⟨Nat.le_of_ble_eq_true rfl, Nat.le_of_ble_eq_true rfl⟩ (c_offer m5 (x := f i) (d := fun a => dd (pp S) (ww S) (fun i => tl S (tn S - 1 - i)) (fun j => wt S (f i) (wl S (f i) - 1 - j)) a (wl S (f i))) (co := co2) (isSide_r B) (by omega) (by omega) (by omega) e1.1 e2.1 t12 w12 (T := tn S - 1) (by omega) (fun a ha => ⟨e3 a _ ha (Nat.le_refl _), by rw [dd_tail _ _ _ _ _ ha]; have := gR_le hok (a := a) (q := f i) (by omega) f2; unfold gR at this; omega⟩) hco2) (fun v9 m6 hp9 => ?_)
        have s2 := h4''.step (fun a ha => dd_tail (pp S) (ww S) (tl S) (wt S (f i)) (wl S (f i)) (n := tn S) (b := a) (by omega)) (fun a ha => by have := gR_le hok (a := a) (q := f i) (by omega) f2; omega) bR hco2 hp9
        obtain ⟨rfl, -, g2⟩ := hp9
        refine e_iinc (v := nI (i + 1)) dX2_fillSides_92 rfl (nI_add _ _) (by decide) rfl ?_
        refine e_goto 17 dX2_fillSides_95 (by decide) ?_
        exact ih (i + 1) m6 _ (by omega) (by omega) (h3''.of (g2 198 (by omega) (by omega)) (g2 199 (by omega) (by omega))) s2 (fun a ha => by rw [g2 a (by omega) (by omega), e4 a (by omega), fr4 a (by omega)]; exact h5 a ha)
  exact loop (wn S) 0 m2 none (by omega) (by omega) (fun a a1' a2' => Or.inl ⟨rfl, by rw [b2 199 (by omega)]; exact a1 a (by omega)⟩) (fun a a1' a2' => Or.inl ⟨rfl, b1 a (by omega)⟩) (fun a ha => by rw [b2 a (by omega)]; exact a2 a (by omega))
/-- the closest word, of like ones the first in ORDER -/
def bst (S : sp_S) (g : Nat → Nat) (c q : Nat) : Prop := q < wn S ∧ g q = c ∧ ∀ z, z < wn S → c ≤ g z ∧ (g z = c → z = q ∨ wa S q z)
theorem bst_uniq {S : sp_S} {g : Nat → Nat} {c c' q q' : Nat} (h : bst S g c q) (h' : bst S g c' q') : c = c' ∧ q = q' := by
  obtain ⟨a1, a2, a3⟩ := h
  obtain ⟨b1, b2, b3⟩ := h'
  have e1 := (a3 q' b1).1
  have e2 := (b3 q a1).1
  have ec : c = c' := by omega
  subst ec
  refine ⟨rfl, ?_⟩
  rcases (a3 q' b1).2 b2 with e | e
  · exact e.symm
  · rcases (b3 q a1).2 a2 with e3 | e3
    · exact e3
    · exact (ah_asym e e3).elim
theorem sd.bst {m : mm_M} {S : sp_S} {s1 s2 T : Nat} {f : Nat → Nat} {g : Nat → Nat → Nat} (hf : or_at m (wn S) f (wl S) (wt S)) (h : sd m s1 s2 f (wn S) g T) (hw : 0 < wn S) {a : Nat} (a1 : 1 ≤ a) (a2 : a ≤ T) : ∃ c q, bst S (g a) c q ∧ m s1 a = nI q ∧ m s2 a = nI c := by
  rcases h a a1 a2 with ⟨e, -⟩ | ⟨j0, j1, j2, j3, j4⟩
  · omega
  · refine ⟨g a (f j0), f j0, ⟨(hf.1 j0 j1).2, rfl, fun z hz => ?_⟩, j2, j3⟩
    obtain ⟨k, k1, rfl⟩ := hf.2.2 z hz
    refine ⟨(j4 k k1).1, fun e => ?_⟩
    rcases Nat.lt_trichotomy k j0 with c | c | c
    · have := (j4 k k1).2 c; omega
    · exact Or.inl (by rw [c])
    · exact Or.inr (hf.2.1 j0 k c k1)
/-- the best PARTING -/
def R_best (S : sp_S) (co a q1 q2 : Nat) : Prop := 1 ≤ a ∧ a < tn S ∧ ∃ c1 c2, bst S (gL S a) c1 q1 ∧ bst S (gR S (tn S - a)) c2 q2 ∧ co = c1 + c2 + pp S 4 ∧ ∀ b d1 d2 z1 z2, 1 ≤ b → b < tn S → bst S (gL S b) d1 z1 → bst S (gR S (tn S - b)) d2 z2 → co ≤ d1 + d2 + pp S 4 ∧ (b < a → co < d1 + d2 + pp S 4)
theorem R_best_uniq {S : sp_S} {co a q1 q2 co' a' q1' q2' : Nat} (h : R_best S co a q1 q2) (h' : R_best S co' a' q1' q2') : co = co' ∧ a = a' ∧ q1 = q1' ∧ q2 = q2' := by
  obtain ⟨a1, a2, c1, c2, a3, a4, a5, a6⟩ := h
  obtain ⟨b1, b2, d1, d2, b3, b4, b5, b6⟩ := h'
  have e1 := a6 a' d1 d2 q1' q2' b1 b2 b3 b4
  have e2 := b6 a c1 c2 q1 q2 a1 a2 a3 a4
  have ea : a = a' := by
    rcases Nat.lt_trichotomy a a' with e | e | e
    · have := e2.2 e; omega
    · exact e
    · have := e1.2 e; omega
  subst ea
  obtain ⟨rfl, rfl⟩ := bst_uniq a3 b3
  obtain ⟨rfl, rfl⟩ := bst_uniq a4 b4
  exact ⟨by omega, rfl, rfl, rfl⟩
set_option maxRecDepth 100000 in
set_option maxHeartbeats 2000000 in
/-- Parting.find -/
theorem c_find (m : mm_M) {S : sp_S} (hc : cs m S) (hw : 0 < wn S) (t2 : 2 ≤ tn S) : mm_F l D kA B sz o 6 137 mX2_find [.ref (B + 196), .ref (B + 1), .ref (B + 32), .ref (B + 171), .int (nI (pp S 4))] m (fun v m' => v = none ∧ (∃ co a q1 q2, R_best S co a q1 q2 ∧ m' 196 2 = nI co ∧ m' 196 3 = nI a ∧ m' 196 4 = nI q1 ∧ m' 196 5 = nI q2) ∧ fr m m') := by
  have hok := hc.1
  have n60 := hok.2.2.1
  have t12 := hok.1
  have p4 := hok.2.2.2.2.2.2.1
  obtain ⟨f, hf⟩ := hc.2.2.2.2.2.1
  refine mm_F.of ?_
  refine e_aload_n dX2_find_0 rfl rfl ?_
  refine e_aload_n dX2_find_1 rfl rfl ?_
  refine e_aload_n dX2_find_2 rfl rfl ?_
  refine e_aload_n dX2_find_3 rfl rfl ?_
  refine m_callV (As := [_, _, _]) lc_X2_35 dX2_find_4 (ly_196 B _ _) rfl rfl (by simp [Value.category]) (Nat.le_of_ble_eq_true rfl) (Nat.le_of_ble_eq_true rfl) ⟨Nat.le_of_ble_eq_true rfl, Nat.le_of_ble_eq_true rfl⟩ ⟨Nat.le_of_ble_eq_true rfl, Nat.le_of_ble_eq_true rfl⟩ (c_fillSides m hc hf (by omega)) (fun v9 m1 hp9 => ?_)
  obtain ⟨rfl, s1, s2, s3⟩ := hp9
  have hf1 : or_at m1 (wn S) f (wl S) (wt S) := hf.of (s3 35 (by omega))
  refine e_aload_n dX2_find_7 rfl rfl ?_
  refine e_ldc dX2_find_8 lk_X2_21 ?_
  refine m_puti 2 2 lp_X2_22 dX2_find_10 (ly_196 B _ _) (Nat.le_of_ble_eq_true rfl) (ly_196 B _ _) rfl ?_
  refine e_iconst (v := nI 1) dX2_find_13 (by decide) ?_
  refine e_istore dX2_find_14 (by decide) rfl ?_
  have loop : ∀ (z b : Nat) (m' : mm_M) (x6 x7 : Option Value), tn S - b = z → 1 ≤ b → b ≤ tn S → ((b = 1 ∧ m' 196 2 = nI 1000000) ∨ ∃ co a q1 q2 c1 c2, 1 ≤ a ∧ a < b ∧ bst S (gL S a) c1 q1 ∧ bst S (gR S (tn S - a)) c2 q2 ∧ co = c1 + c2 + pp S 4 ∧ m' 196 2 = nI co ∧ m' 196 3 = nI a ∧ m' 196 4 = nI q1 ∧ m' 196 5 = nI q2 ∧ ∀ b' d1 d2 z1 z2, 1 ≤ b' → b' < b → bst S (gL S b') d1 z1 → bst S (gR S (tn S - b')) d2 z2 → co ≤ d1 + d2 + pp S 4 ∧ (b' < a → co < d1 + d2 + pp S 4)) → (∀ a, a ≠ 196 → m' a = m1 a) → mm_G l D kA B sz o 6 137 mX2_find (fun v m' => v = none ∧ (∃ co a q1 q2, R_best S co a q1 q2 ∧ m' 196 2 = nI co ∧ m' 196 3 = nI a ∧ m' 196 4 = nI q1 ∧ m' 196 5 = nI q2) ∧ fr m m') 16 [some (.ref (B + 196)), some (.ref (B + 1)), some (.ref (B + 32)), some (.ref (B + 171)), some (.int (nI (pp S 4))), some (.int (nI b)), x6, x7] [] m' := by
    intro z
    induction z with
    | zero =>
      intro b m' x6 x7 h1 h2 h3 h4 h5
      refine e_iload dX2_find_16 rfl ?_
      refine e_aload_n dX2_find_18 rfl rfl ?_
      refine m_get 5 1 lf_X2_39 dX2_find_19 (ly_1 B _ _) rfl ?_
      refine e_top (w := nI (tn S)) ((by rw [h5 1 (by omega), s3 1 (by omega)]; exact hc.2.1.1)) ?_
      refine n_icmp_ge 115 dX2_find_22 (by decide) (by omega) (by omega) (fun g1 => ?_) (fun g1 => ?_)
      · have : b = tn S := by omega
        subst this
        rcases h4 with ⟨e, -⟩ | ⟨co, a, q1, q2, c1, c2, r1, r2, r3, r4, r5, r6, r7, r8, r9, r10⟩
        · omega
        · exact m_vret dX2_find_115 rfl (Nat.le_refl _) (Nat.le_refl _) (⟨rfl, ⟨co, a, q1, q2, ⟨r1, r2, c1, c2, r3, r4, r5, r10⟩, r6, r7, r8, r9⟩, fun a ha => by rw [h5 a (by omega)]; exact s3 a (by omega)⟩)
      · exact absurd g1 (by omega)
    | succ z ih =>
      intro b m' x6 x7 h1 h2 h3 h4 h5
      have y1 : tn S - (b + 1) = z := by clear h4; omega
      have y2 : 1 ≤ b + 1 := by clear h4; omega
      have y3 : b + 1 ≤ tn S := by clear h4; omega
      obtain ⟨c1, q1, k1, k2, k3⟩ := s1.bst hf1 hw (a := b) h2 (by omega)
      obtain ⟨c2, q2, l1, l2, l3⟩ := s2.bst hf1 hw (a := tn S - b) (by omega) (by omega)
      have u1 := gL_le hok (a := b) (q := q1) (by omega) k1.1
      have u2 := gR_le hok (a := tn S - b) (q := q2) (by omega) l1.1
      have u3 := k1.2.1
      have u4 := l1.2.1
      refine e_iload dX2_find_16 rfl ?_
      refine e_aload_n dX2_find_18 rfl rfl ?_
      refine m_get 5 1 lf_X2_39 dX2_find_19 (ly_1 B _ _) rfl ?_
      refine e_top (w := nI (tn S)) ((by rw [h5 1 (by omega), s3 1 (by omega)]; exact hc.2.1.1)) ?_
      refine n_icmp_ge 115 dX2_find_22 (by decide) (by omega) (by omega) (fun g1 => ?_) (fun g1 => ?_)
      · exact absurd g1 (by omega)
      · refine e_aload_n dX2_find_25 rfl rfl ?_
        refine m_get 5 1 lf_X2_39 dX2_find_26 (ly_1 B _ _) rfl ?_
        refine e_top (w := nI (tn S)) ((by rw [h5 1 (by omega), s3 1 (by omega)]; exact hc.2.1.1)) ?_
        refine e_iload dX2_find_29 rfl ?_
        refine e_isub dX2_find_31 ?_
        refine e_top (w := nI ((tn S) - b)) (pk_sub (by omega)) ?_
        refine e_istore dX2_find_32 (by decide) rfl ?_
        refine e_aload_n dX2_find_34 rfl rfl ?_
        refine m_get 2 0 lf_X2_12 dX2_find_35 (ly_196 B _ _) rfl ?_
        refine m_get 6 1 lf_X2_44 dX2_find_38 (ly_197 B _ _) rfl ?_
        refine e_iload dX2_find_41 rfl ?_
        refine m_iald (b) dX2_find_43 (ly_199 B _ _) (rfl) (by omega) (by decide) ?_
        refine e_top (w := nI c1) ((by rw [h5 199 (by omega)]; exact k3)) ?_
        refine e_aload_n dX2_find_44 rfl rfl ?_
        refine m_get 2 1 lf_X2_18 dX2_find_45 (ly_196 B _ _) rfl ?_
        refine m_get 6 1 lf_X2_44 dX2_find_48 (ly_200 B _ _) rfl ?_
        refine e_iload dX2_find_51 rfl ?_
        refine m_iald ((tn S) - b) dX2_find_53 (ly_202 B _ _) (rfl) (by omega) (by decide) ?_
        refine e_top (w := nI c2) ((by rw [h5 202 (by omega)]; exact l3)) ?_
        refine e_iadd dX2_find_54 ?_
        refine e_top (w := nI (c1 + c2)) (nI_add _ _) ?_
        refine e_iload dX2_find_55 rfl ?_
        refine e_iadd dX2_find_57 ?_
        refine e_top (w := nI ((c1 + c2) + (pp S 4))) (nI_add _ _) ?_
        refine e_istore dX2_find_58 (by decide) rfl ?_
        refine e_iload dX2_find_60 rfl ?_
        refine e_aload_n dX2_find_62 rfl rfl ?_
        refine m_get 2 2 lf_X2_22 dX2_find_63 (ly_196 B _ _) rfl ?_
        -- the best so far
        have cur : ∃ bc, m' 196 2 = nI bc ∧ bc ≤ 1000000 ∧ ∀ b' d1 d2 z1 z2, 1 ≤ b' → b' < b → bst S (gL S b') d1 z1 → bst S (gR S (tn S - b')) d2 z2 → bc ≤ d1 + d2 + pp S 4 := by
          rcases h4 with ⟨e, e2⟩ | ⟨co, a, y1, y2, e1, e2, r1, r2, r3, r4, r5, r6, r7, r8, r9, r10⟩
          · exact ⟨1000000, e2, Nat.le_refl _, fun b' d1 d2 z1 z2 h7 h8 => by omega⟩
          · have v1 := gL_le hok (a := a) (q := y1) (by omega) r3.1
            have v2 := gR_le hok (a := tn S - a) (q := y2) (by omega) r4.1
            have v3 := r3.2.1
            have v4 := r4.2.1
            exact ⟨co, r6, by omega, fun b' d1 d2 z1 z2 h7 h8 h9 h10 => (r10 b' d1 d2 z1 z2 h7 h8 h9 h10).1⟩
        obtain ⟨cb, e1, e2, e3⟩ := cur
        refine e_top (w := nI cb) (e1) ?_
        refine n_icmp_ge 109 dX2_find_66 (by decide) (by omega) (by omega) (fun g2 => ?_) (fun g2 => ?_)
        · refine e_iinc (v := nI (b + 1)) dX2_find_109 rfl (nI_add _ _) (by decide) rfl ?_
          refine e_goto 16 dX2_find_112 (by decide) ?_
          refine ih (b + 1) m' _ _ y1 y2 y3 ?_ h5
          rcases h4 with ⟨e, e4⟩ | ⟨co, a, y1, y2, w1, w2, r1, r2, r3, r4, r5, r6, r7, r8, r9, r10⟩
          · have : cb = 1000000 := (nI_eq (by omega) (by omega)).mp (e1.symm.trans e4)
            omega
          · have v1 := gL_le hok (a := a) (q := y1) (by omega) r3.1
            have v2 := gR_le hok (a := tn S - a) (q := y2) (by omega) r4.1
            have v3 := r3.2.1
            have v4 := r4.2.1
            have : cb = co := (nI_eq (by omega) (by omega)).mp (e1.symm.trans r6)
            refine Or.inr ⟨co, a, y1, y2, w1, w2, r1, by omega, r3, r4, r5, r6, r7, r8, r9, fun b' d1 d2 z1 z2 h7 h8 h9 h10 => ?_⟩
            by_cases eb : b' = b
            · subst eb
              obtain ⟨rfl, rfl⟩ := bst_uniq h9 k1
              obtain ⟨rfl, rfl⟩ := bst_uniq h10 l1
              exact ⟨by omega, fun _ => by omega⟩
            · exact r10 b' d1 d2 z1 z2 h7 (by omega) h9 h10
        · refine e_aload_n dX2_find_69 rfl rfl ?_
          refine e_iload dX2_find_70 rfl ?_
          refine m_puti 2 2 lp_X2_22 dX2_find_72 (ly_196 B _ _) (Nat.le_of_ble_eq_true rfl) (ly_196 B _ _) rfl ?_
          refine e_aload_n dX2_find_75 rfl rfl ?_
          refine e_iload dX2_find_76 rfl ?_
          refine m_puti 2 3 lp_X2_26 dX2_find_78 (ly_196 B _ _) (Nat.le_of_ble_eq_true rfl) (ly_196 B _ _) rfl ?_
          refine e_aload_n dX2_find_81 rfl rfl ?_
          refine e_aload_n dX2_find_82 rfl rfl ?_
          refine m_get 2 0 lf_X2_12 dX2_find_83 (ly_196 B _ _) rfl ?_
          refine m_get 6 0 lf_X2_48 dX2_find_86 (ly_197 B _ _) rfl ?_
          refine e_iload dX2_find_89 rfl ?_
          refine m_iald (b) dX2_find_91 (ly_198 B _ _) (rfl) (by omega) (by decide) ?_
          refine e_top (w := nI q1) (by rw [wr_off _ _ (by omega), wr_off _ _ (by omega), h5 198 (by omega)]; exact k2) ?_
          refine m_puti 2 4 lp_X2_29 dX2_find_92 (ly_196 B _ _) (Nat.le_of_ble_eq_true rfl) (ly_196 B _ _) rfl ?_
          refine e_aload_n dX2_find_95 rfl rfl ?_
          refine e_aload_n dX2_find_96 rfl rfl ?_
          refine m_get 2 1 lf_X2_18 dX2_find_97 (ly_196 B _ _) rfl ?_
          refine m_get 6 0 lf_X2_48 dX2_find_100 (ly_200 B _ _) rfl ?_
          refine e_iload dX2_find_103 rfl ?_
          refine m_iald ((tn S) - b) dX2_find_105 (ly_201 B _ _) (rfl) (by omega) (by decide) ?_
          refine e_top (w := nI q2) (by rw [wr_off _ _ (by omega), wr_off _ _ (by omega), wr_off _ _ (by omega), h5 201 (by omega)]; exact l2) ?_
          refine m_puti 2 5 lp_X2_32 dX2_find_106 (ly_196 B _ _) (Nat.le_of_ble_eq_true rfl) (ly_196 B _ _) rfl ?_
          refine e_iinc (v := nI (b + 1)) dX2_find_109 rfl (nI_add _ _) (by decide) rfl ?_
          refine e_goto 16 dX2_find_112 (by decide) ?_
          refine ih (b + 1) _ _ _ y1 y2 y3 (Or.inr ⟨c1 + c2 + pp S 4, b, q1, q2, c1, c2, h2, Nat.lt_succ_self b, k1, l1, rfl, ?_, ?_, ?_, ?_, fun b' d1 d2 z1 z2 h7 h8 h9 h10 => ?_⟩) (fun a ha => by rw [wr_off _ _ ha, wr_off _ _ ha, wr_off _ _ ha, wr_off _ _ ha]; exact h5 a ha)
          · simp [wr]
          · simp [wr]
          · simp [wr]
          · simp [wr]
          · by_cases eb : b' = b
            · subst eb
              obtain ⟨rfl, rfl⟩ := bst_uniq h9 k1
              obtain ⟨rfl, rfl⟩ := bst_uniq h10 l1
              exact ⟨Nat.le_refl _, fun h => by omega⟩
            · have := e3 b' d1 d2 z1 z2 h7 (by omega) h9 h10
              exact ⟨by omega, fun _ => by omega⟩
  exact loop (tn S - 1) 1 _ none none (by omega) (by omega) (by omega) (Or.inl ⟨rfl, wr_same _ _ _ _⟩) (fun a ha => wr_off _ _ ha)
def R_part (S : sp_S) (x v : Int32) : Prop := ((∀ k, k < 4 → x ≠ nI k) ∧ v = -2) ∨ (∃ k, k < 4 ∧ x = nI k ∧ (((wn S = 0 ∨ tn S < 2) ∧ v = -3) ∨ (0 < wn S ∧ 2 ≤ tn S ∧ ∃ co a q1 q2, R_best S co a q1 q2 ∧ v = nI (if k = 0 then co else if k = 1 then a else if k = 2 then q1 else q2))))
set_option maxRecDepth 100000 in
set_option maxHeartbeats 1000000 in
/-- SuggestSpell.parting -/
theorem c_parting (m : mm_M) {S : sp_S} (x : Int32) (hc : cs m S) : mm_F l D kA B sz o 7 164 mX9_parting [.ref (B + 0), .int x] m (fun v m' => (∃ y, v = some (.int y) ∧ R_part S x y) ∧ fr m m') := by
  have n60 := hc.1.2.2.1
  have t12 := hc.1.1
  refine mm_F.of ?_
  refine e_iload_n dX9_parting_0 rfl rfl ?_
  refine e_if_lt 9 dX9_parting_1 (by decide) (fun g1 => ?_) (fun g1 => ?_)
  · refine e_bipush (v := -2) dX9_parting_9 (by decide) ?_
    exact m_iret dX9_parting_11 rfl (Nat.le_refl _) (Nat.le_refl _) (⟨⟨_, rfl, Or.inl ⟨fun z hz e => nI_pos (n := z) (by omega) (e ▸ g1), rfl⟩⟩, fr.rf _⟩)
  · obtain ⟨k, k1, rfl⟩ := nI_of g1
    refine e_iload_n dX9_parting_4 rfl rfl ?_
    refine e_iconst (v := nI 3) dX9_parting_5 (by decide) ?_
    refine n_icmp_le 12 dX9_parting_6 (by decide) (by omega) (by omega) (fun g2 => ?_) (fun g2 => ?_)
    · refine e_aload_n dX9_parting_12 rfl rfl ?_
      refine m_get 9 2 lf_X9_26 dX9_parting_13 (ly_0 B _ _) rfl ?_
      refine m_get 8 4 lf_X9_85 dX9_parting_16 (ly_32 B _ _) rfl ?_
      refine e_top (w := nI (wn S)) (hc.2.2.2.1) ?_
      refine n_if_eq 33 dX9_parting_19 (by decide) (by omega) (fun g3 => ?_) (fun g3 => ?_)
      · refine e_bipush (v := -3) dX9_parting_33 (by decide) ?_
        exact m_iret dX9_parting_35 rfl (Nat.le_refl _) (Nat.le_refl _) (⟨⟨_, rfl, Or.inr ⟨k, by omega, rfl, Or.inl ⟨Or.inl g3, rfl⟩⟩⟩, fr.rf _⟩)
      · refine e_aload_n dX9_parting_22 rfl rfl ?_
        refine m_get 9 0 lf_X9_10 dX9_parting_23 (ly_0 B _ _) rfl ?_
        refine m_get 5 1 lf_X9_74 dX9_parting_26 (ly_1 B _ _) rfl ?_
        refine e_top (w := nI (tn S)) (hc.2.1.1) ?_
        refine e_iconst (v := nI 2) dX9_parting_29 (by decide) ?_
        refine n_icmp_ge 36 dX9_parting_30 (by decide) (by omega) (by omega) (fun g4 => ?_) (fun g4 => ?_)
        · refine e_aload_n dX9_parting_36 rfl rfl ?_
          refine m_get 9 6 lf_X9_56 dX9_parting_37 (ly_0 B _ _) rfl ?_
          refine e_aload_n dX9_parting_40 rfl rfl ?_
          refine m_get 9 0 lf_X9_10 dX9_parting_41 (ly_0 B _ _) rfl ?_
          refine e_aload_n dX9_parting_44 rfl rfl ?_
          refine m_get 9 2 lf_X9_26 dX9_parting_45 (ly_0 B _ _) rfl ?_
          refine e_aload_n dX9_parting_48 rfl rfl ?_
          refine m_get 9 4 lf_X9_42 dX9_parting_49 (ly_0 B _ _) rfl ?_
          refine e_aload_n dX9_parting_52 rfl rfl ?_
          refine m_get 9 1 lf_X9_19 dX9_parting_53 (ly_0 B _ _) rfl ?_
          refine m_get 3 0 lf_X9_109 dX9_parting_56 (ly_3 B _ _) rfl ?_
          refine e_iconst (v := nI 4) dX9_parting_59 (by decide) ?_
          refine m_iald (4) dX9_parting_60 (ly_4 B _ _) (rfl) (by omega) (by decide) ?_
          refine e_top (w := nI (pp S 4)) (hc.2.2.1.1 4 (by omega)) ?_
          refine m_callV (As := [_, _, _, _]) lc_X9_143 dX9_parting_61 (ly_196 B _ _) rfl rfl (by simp [Value.category]) (Nat.le_of_ble_eq_true rfl) (Nat.le_of_ble_eq_true rfl) ⟨Nat.le_of_ble_eq_true rfl, Nat.le_of_ble_eq_true rfl⟩ ⟨Nat.le_of_ble_eq_true rfl, Nat.le_of_ble_eq_true rfl⟩ (c_find m hc (by omega) g4) (fun v9 m1 hp9 => ?_)
          obtain ⟨rfl, ⟨co, a, q1, q2, b1, b2, b3, b4, b5⟩, b6⟩ := hp9
          refine e_iload_n dX9_parting_64 rfl rfl ?_
          have tk : (nI k).toInt = (k : Int) := nI_toInt k1
          rcases (show k = 0 ∨ k = 1 ∨ k = 2 ∨ k = 3 by omega) with rfl | rfl | rfl | rfl
          · refine e_tblIn 92 dX9_parting_65 (by rw [tk]; decide) (by rw [tk]; decide) (by rw [tk]; rfl) (by decide) ?_
            refine e_aload_n dX9_parting_92 rfl rfl ?_
            refine m_get 9 6 lf_X9_56 dX9_parting_93 (ly_0 B _ _) rfl ?_
            refine m_get 2 2 lf_X9_147 dX9_parting_96 (ly_196 B _ _) rfl ?_
            exact m_iret dX9_parting_99 rfl (Nat.le_refl _) (Nat.le_refl _) (⟨⟨_, rfl, Or.inr ⟨0, by omega, rfl, Or.inr ⟨by omega, g4, co, a, q1, q2, b1, b2⟩⟩⟩, b6⟩)
          · refine e_tblIn 100 dX9_parting_65 (by rw [tk]; decide) (by rw [tk]; decide) (by rw [tk]; rfl) (by decide) ?_
            refine e_aload_n dX9_parting_100 rfl rfl ?_
            refine m_get 9 6 lf_X9_56 dX9_parting_101 (ly_0 B _ _) rfl ?_
            refine m_get 2 3 lf_X9_150 dX9_parting_104 (ly_196 B _ _) rfl ?_
            exact m_iret dX9_parting_107 rfl (Nat.le_refl _) (Nat.le_refl _) (⟨⟨_, rfl, Or.inr ⟨1, by omega, rfl, Or.inr ⟨by omega, g4, co, a, q1, q2, b1, b3⟩⟩⟩, b6⟩)
          · refine e_tblIn 108 dX9_parting_65 (by rw [tk]; decide) (by rw [tk]; decide) (by rw [tk]; rfl) (by decide) ?_
            refine e_aload_n dX9_parting_108 rfl rfl ?_
            refine m_get 9 6 lf_X9_56 dX9_parting_109 (ly_0 B _ _) rfl ?_
            refine m_get 2 4 lf_X9_153 dX9_parting_112 (ly_196 B _ _) rfl ?_
            exact m_iret dX9_parting_115 rfl (Nat.le_refl _) (Nat.le_refl _) (⟨⟨_, rfl, Or.inr ⟨2, by omega, rfl, Or.inr ⟨by omega, g4, co, a, q1, q2, b1, b4⟩⟩⟩, b6⟩)
          · refine e_tblOut 116 dX9_parting_65 (by rw [tk]; decide) (by decide) ?_
            refine e_aload_n dX9_parting_116 rfl rfl ?_
            refine m_get 9 6 lf_X9_56 dX9_parting_117 (ly_0 B _ _) rfl ?_
            refine m_get 2 5 lf_X9_156 dX9_parting_120 (ly_196 B _ _) rfl ?_
            exact m_iret dX9_parting_123 rfl (Nat.le_refl _) (Nat.le_refl _) (⟨⟨_, rfl, Or.inr ⟨3, by omega, rfl, Or.inr ⟨by omega, g4, co, a, q1, q2, b1, b5⟩⟩⟩, b6⟩)
        · refine e_bipush (v := -3) dX9_parting_33 (by decide) ?_
          exact m_iret dX9_parting_35 rfl (Nat.le_refl _) (Nat.le_refl _) (⟨⟨_, rfl, Or.inr ⟨k, by omega, rfl, Or.inl ⟨Or.inr (by omega), rfl⟩⟩⟩, fr.rf _⟩)
    · refine e_bipush (v := -2) dX9_parting_9 (by decide) ?_
      exact m_iret dX9_parting_11 rfl (Nat.le_refl _) (Nat.le_refl _) (⟨⟨_, rfl, Or.inl ⟨fun z hz e => by have := (nI_eq k1 (by omega)).mp e; omega, rfl⟩⟩, fr.rf _⟩)
end PRT
end
section
section CHO
variable {l : Launch} {D : va_G} {kA : FieldType → ClassId} {B sz : Nat} {o : Int64}
/-- DISTANCE of a token to a word -/
def dk (S : sp_S) (t q : Nat) : Nat := dd (pp S) (ww S) (kt S t) (wt S q) (kl S t) (wl S q)
theorem dk_le {S : sp_S} (h : ok S) {t q : Nat} (ht : t < kn S) (hq : q < wn S) : dk S t q ≤ 216 := by
  have h1 := dd_le (w := ww S) (kt S t) (wt S q) (h.2.2.2.2.2.1 0 (by omega)) (h.2.2.2.2.2.1 1 (by omega)) (kl S t) (wl S q)
  have := (h.2.2.2.1 q hq).2.1
  have := (h.2.2.2.2.2.2.2.2.2.2 t ht).2.1
  unfold dk
  omega
/-- the price of two neighbours -/
def np (S : sp_S) (a b : Nat) : Nat := if pa S a b then 0 else pp S 5
/-- a number, or none: 1000000 -/
def nv (S : sp_S) (lim t q : Nat) : Nat := if dk S t q ≤ lim then dk S t q else 1000000
set_option maxRecDepth 100000 in
set_option maxHeartbeats 2000000 in
/-- Choice.measure -/
theorem c_chMeasure (m : mm_M) {S : sp_S} {f : Nat → Nat} {lim : Nat} (hc : cs m S) (hf : or_at m (wn S) f (wl S) (wt S)) (hl : lim ≤ 50) : mm_F l D kA B sz o 5 112 mX0_measure [.ref (B + 203), .ref (B + 157), .ref (B + 32), .ref (B + 171), .int (nI lim)] m (fun v m' => v = none ∧ (∀ t j, t < kn S → j < wn S → m' (205 + t) j = nI (nv S lim t (f j))) ∧ ∀ a, a < 172 ∨ (190 ≤ a ∧ a < 205) ∨ 211 ≤ a → m' a = m a) := by
  have hok := hc.1
  have n60 := hok.2.2.1
  have k6 := hok.2.2.2.2.2.2.2.2.2.1
  obtain ⟨o1, o2, o3⟩ := hf
  refine mm_F.of ?_
  refine e_iconst (v := nI 0) dX0_measure_0 (by decide) ?_
  refine e_istore dX0_measure_1 (by decide) rfl ?_
  have outer : ∀ (z t : Nat) (m' : mm_M) (x6 x7 : Option Value), kn S - t = z → t ≤ kn S → (∀ u j, u < t → j < wn S → m' (205 + u) j = nI (nv S lim u (f j))) → (∀ a, a < 172 ∨ (190 ≤ a ∧ a < 205) ∨ 211 ≤ a → m' a = m a) → mm_G l D kA B sz o 5 112 mX0_measure (fun v m' => v = none ∧ (∀ t j, t < kn S → j < wn S → m' (205 + t) j = nI (nv S lim t (f j))) ∧ ∀ a, a < 172 ∨ (190 ≤ a ∧ a < 205) ∨ 211 ≤ a → m' a = m a) 3 [some (.ref (B + 203)), some (.ref (B + 157)), some (.ref (B + 32)), some (.ref (B + 171)), some (.int (nI lim)), some (.int (nI t)), x6, x7] [] m' := by
    intro z
    induction z with
    | zero =>
      intro t m' x6 x7 h1 h2 h3 h4
      refine e_iload dX0_measure_3 rfl ?_
      refine e_aload_n dX0_measure_5 rfl rfl ?_
      refine m_get 1 1 lf_X0_26 dX0_measure_6 (ly_157 B _ _) rfl ?_
      refine e_top (w := nI (kn S)) ((by rw [h4 157 (by omega)]; exact hc.2.2.2.2.2.2.2.1)) ?_
      refine n_icmp_ge 85 dX0_measure_9 (by decide) (by omega) (by omega) (fun g1 => ?_) (fun g1 => ?_)
      · exact m_vret dX0_measure_85 rfl (Nat.le_refl _) (Nat.le_refl _) (⟨rfl, fun u j hu hj => h3 u j (by omega) hj, h4⟩)
      · exact absurd g1 (by omega)
    | succ z ih =>
      intro t m' x6 x7 h1 h2 h3 h4
      refine e_iload dX0_measure_3 rfl ?_
      refine e_aload_n dX0_measure_5 rfl rfl ?_
      refine m_get 1 1 lf_X0_26 dX0_measure_6 (ly_157 B _ _) rfl ?_
      refine e_top (w := nI (kn S)) ((by rw [h4 157 (by omega)]; exact hc.2.2.2.2.2.2.2.1)) ?_
      refine n_icmp_ge 85 dX0_measure_9 (by decide) (by omega) (by omega) (fun g1 => ?_) (fun g1 => ?_)
      · exact absurd g1 (by omega)
      · refine e_iconst (v := nI 0) dX0_measure_12 (by decide) ?_
        refine e_istore dX0_measure_13 (by decide) rfl ?_
        have inner : ∀ (y i : Nat) (m2 : mm_M) (x7 : Option Value), wn S - i = y → i ≤ wn S → (∀ u j, u < t → j < wn S → m2 (205 + u) j = nI (nv S lim u (f j))) → (∀ j, j < i → m2 (205 + t) j = nI (nv S lim t (f j))) → (∀ a, a < 172 ∨ (190 ≤ a ∧ a < 205) ∨ 211 ≤ a → m2 a = m a) → mm_G l D kA B sz o 5 112 mX0_measure (fun v m' => v = none ∧ (∀ t j, t < kn S → j < wn S → m' (205 + t) j = nI (nv S lim t (f j))) ∧ ∀ a, a < 172 ∨ (190 ≤ a ∧ a < 205) ∨ 211 ≤ a → m' a = m a) 15 [some (.ref (B + 203)), some (.ref (B + 157)), some (.ref (B + 32)), some (.ref (B + 171)), some (.int (nI lim)), some (.int (nI t)), some (.int (nI i)), x7] [] m2 := by
          intro y
          induction y with
          | zero =>
            intro i m2 x7 j1 j2 j3 j4 j5
            refine e_iload dX0_measure_15 rfl ?_
            refine e_aload_n dX0_measure_17 rfl rfl ?_
            refine m_get 8 4 lf_X0_32 dX0_measure_18 (ly_32 B _ _) rfl ?_
            refine e_top (w := nI (wn S)) ((by rw [j5 32 (by omega)]; exact hc.2.2.2.1)) ?_
            refine n_icmp_ge 79 dX0_measure_21 (by decide) (by omega) (by omega) (fun g2 => ?_) (fun g2 => ?_)
            · refine e_iinc (v := nI (t + 1)) dX0_measure_79 rfl (nI_add _ _) (by decide) rfl ?_
              refine e_goto 3 dX0_measure_82 (by decide) ?_
              refine ih (t + 1) m2 _ _ (by omega) (by omega) (fun u j hu hj => ?_) j5
              by_cases e : u = t
              · subst e; exact j4 j (by omega)
              · exact j3 u j (by omega) hj
            · exact absurd g2 (by omega)
          | succ y ih2 =>
            intro i m2 x7 j1 j2 j3 j4 j5
            obtain ⟨f1, f2⟩ := o1 i (by omega)
            have f60 : f i < 60 := by omega
            have hc2 : cs m2 S := hc.of (fun a ha => j5 a (by omega))
            have dl := dk_le hok (t := t) (q := f i) (by omega) f2
            refine e_iload dX0_measure_15 rfl ?_
            refine e_aload_n dX0_measure_17 rfl rfl ?_
            refine m_get 8 4 lf_X0_32 dX0_measure_18 (ly_32 B _ _) rfl ?_
            refine e_top (w := nI (wn S)) ((by rw [j5 32 (by omega)]; exact hc.2.2.2.1)) ?_
            refine n_icmp_ge 79 dX0_measure_21 (by decide) (by omega) (by omega) (fun g2 => ?_) (fun g2 => ?_)
            · exact absurd g2 (by omega)
            · refine e_aload_n dX0_measure_24 rfl rfl ?_
              refine e_aload_n dX0_measure_25 rfl rfl ?_
              refine m_get 1 0 lf_X0_35 dX0_measure_26 (ly_157 B _ _) rfl ?_
              refine e_iload dX0_measure_29 rfl ?_
              refine m_aald (r := 159 + 2 * t) (t) dX0_measure_31 (by decide) rfl (ly_158 B _ _) (rfl) (by omega) (by decide) (if_pos (by omega)) ?_
              refine e_aload_n dX0_measure_32 rfl rfl ?_
              refine m_get 8 0 lf_X0_39 dX0_measure_33 (ly_32 B _ _) rfl ?_
              refine e_aload_n dX0_measure_36 rfl rfl ?_
              refine m_get 8 2 lf_X0_40 dX0_measure_37 (ly_32 B _ _) rfl ?_
              refine e_iload dX0_measure_40 rfl ?_
              refine m_iald (i) dX0_measure_42 (ly_35 B _ _) (rfl) (by omega) (by decide) ?_
              refine e_top (w := nI (f i)) ((by rw [j5 35 (by omega)]; exact f1)) ?_
              refine m_aald (r := 37 + 2 * (f i)) (f i) dX0_measure_43 (by decide) rfl (ly_33 B _ _) (rfl) (by omega) (by decide) (if_pos (by omega)) ?_
              refine m_callV (As := [_, _]) lc_X0_43 dX0_measure_44 (ly_171 B _ _) rfl rfl (by simp [Value.category]) (Nat.le_of_ble_eq_true rfl) (Nat.le_of_ble_eq_true rfl) ⟨Nat.le_of_ble_eq_true rfl, Nat.le_of_ble_eq_true rfl⟩ ⟨Nat.le_of_ble_eq_true rfl, Nat.le_of_ble_eq_true rfl⟩ (c_measure m2 hc2.2.2.1 (isRow_t B (i := t) (by omega)) (isRow_w B f60) (by omega) (by omega) (by omega) (by omega) (hc2.2.2.2.2.2.2.2.2 t (by omega)) (hc2.2.2.2.2.1 (f i) f2).1) (fun v9 m3 hp9 => ?_)
              obtain ⟨rfl, -, -, -, c4⟩ := hp9
              refine e_top (w := nI (dk S t (f i))) (rfl) ?_
              refine e_istore dX0_measure_47 (by decide) rfl ?_
              refine e_aload_n dX0_measure_49 rfl rfl ?_
              refine m_get 0 0 lf_X0_11 dX0_measure_50 (ly_203 B _ _) rfl ?_
              refine e_iload dX0_measure_53 rfl ?_
              refine m_aald (r := 205 + t) (t) dX0_measure_55 (by decide) rfl (ly_204 B _ _) (rfl) (by omega) (by decide) (if_pos (by omega)) ?_
              refine e_iload dX0_measure_56 rfl ?_
              refine e_iload dX0_measure_58 rfl ?_
              refine e_iload dX0_measure_60 rfl ?_
              have fin : ∀ (x : Nat), x = nv S lim t (f i) → mm_G l D kA B sz o 5 112 mX0_measure (fun v m' => v = none ∧ (∀ t j, t < kn S → j < wn S → m' (205 + t) j = nI (nv S lim t (f j))) ∧ ∀ a, a < 172 ∨ (190 ≤ a ∧ a < 205) ∨ 211 ≤ a → m' a = m a) 72 [some (.ref (B + 203)), some (.ref (B + 157)), some (.ref (B + 32)), some (.ref (B + 171)), some (.int (nI lim)), some (.int (nI t)), some (.int (nI i)), some (.int (nI (dk S t (f i))))] [.int (nI x), .int (nI i), .ref (B + (205 + t))] m3 := by
                intro x hx
                refine m_iast i dX0_measure_72 (fun m => ly_cd B m _ (i := t) (by omega)) rfl (by omega) (by omega) ?_
                refine e_iinc (v := nI (i + 1)) dX0_measure_73 rfl (nI_add _ _) (by decide) rfl ?_
                refine e_goto 15 dX0_measure_76 (by decide) ?_
                refine ih2 (i + 1) _ _ (by omega) (by omega) (fun u j hu hj => ?_) (fun j hj => ?_) (fun a ha => ?_)
                · rw [wr_ne _ _ (Or.inl (by omega)), c4 (205 + u) (by omega)]; exact j3 u j hu hj
                · by_cases e : j = i
                  · rw [e, wr_same, hx]
                  · rw [wr_ne _ _ (Or.inr e), c4 (205 + t) (by omega)]; exact j4 j (by omega)
                · rw [wr_off _ _ (by omega), c4 a (by omega)]; exact j5 a ha
              refine n_icmp_gt 70 dX0_measure_62 (by decide) (by omega) (by omega) (fun g3 => ?_) (fun g3 => ?_)
              · refine e_ldc dX0_measure_70 lk_X0_49 ?_
                exact fin 1000000 (by unfold nv; rw [if_neg (by omega)])
              · refine e_iload dX0_measure_65 rfl ?_
                refine e_goto 72 dX0_measure_67 (by decide) ?_
                exact fin _ (by unfold nv; rw [if_pos (by omega)])
        exact inner (wn S) 0 m' _ (by omega) (by omega) h3 (fun j hj => by omega) h4
  exact outer (kn S) 0 m none none (by omega) (by omega) (fun u j hu => by omega) (fun a _ => rfl)
/-- the first of the least -/
def fm (y : Nat → Nat) (n j0 : Nat) : Prop := j0 < n ∧ ∀ j, j < n → y j0 ≤ y j ∧ (j < j0 → y j0 < y j)
def P_goOn (m : mm_M) (S : sp_S) (f x : Nat → Nat) (k i c : Nat) (v : Option Value) (m' : mm_M) : Prop := v = none ∧ (∃ j0, fm (fun j => x j + np S (f i) (f j)) (wn S) j0 ∧ m' (219 + k) i = nI j0 ∧ m' (212 + k) i = nI (c + (x j0 + np S (f i) (f j0)))) ∧ (∀ j, j ≠ i → m' (219 + k) j = m (219 + k) j ∧ m' (212 + k) j = m (212 + k) j) ∧ ∀ a, a ≠ 219 + k → a ≠ 212 + k → m' a = m a
set_option maxRecDepth 100000 in
set_option maxHeartbeats 2000000 in
/-- Choice.goOn -/
theorem c_goOn (m : mm_M) {S : sp_S} {f x : Nat → Nat} {k i c : Nat} (hc : cs m S) (hf : or_at m (wn S) f (wl S) (wt S)) (hk : k < 5) (hi : i < wn S) (hx : ∀ j, j < wn S → m (212 + (k + 1)) j = nI (x j) ∧ x j ≤ 1002000) (hcc : m (212 + k) i = nI c) (hc2 : c ≤ 1000) : mm_F l D kA B sz o 1 22 mX0_goOn [.ref (B + 203), .int (nI k), .int (nI i), .ref (B + 32), .int (nI (pp S 5))] m (P_goOn m S f x k i c) := by
  have hok := hc.1
  have n60 := hok.2.2.1
  have p5 := hok.2.2.2.2.2.2.2.1
  obtain ⟨o1, o2, o3⟩ := hf
  obtain ⟨fi1, fi2⟩ := o1 i hi
  have npl : ∀ a b, np S a b ≤ 50 := fun a b => by unfold np; split <;> omega
  refine mm_F.of ?_
  refine e_ldc dX0_goOn_0 lk_X0_64 ?_
  refine e_top (w := nI 2147483647) (rfl) ?_
  refine e_istore dX0_goOn_2 (by decide) rfl ?_
  refine e_iconst (v := nI 0) dX0_goOn_4 (by decide) ?_
  refine e_istore dX0_goOn_5 (by decide) rfl ?_
  have loop : ∀ (z j : Nat) (m' : mm_M) (L : Nat) (x7 x8 : Option Value), wn S - j = z → j ≤ wn S → L ≤ 2147483647 → ((j = 0 ∧ L = 2147483647) ∨ ∃ j0, fm (fun j => x j + np S (f i) (f j)) j j0 ∧ L = x j0 + np S (f i) (f j0) ∧ m' (219 + k) i = nI j0) → (∀ b, b ≠ i → m' (219 + k) b = m (219 + k) b) → (∀ a, a ≠ 219 + k → m' a = m a) → mm_G l D kA B sz o 1 22 mX0_goOn (P_goOn m S f x k i c) 7 [some (.ref (B + 203)), some (.int (nI k)), some (.int (nI i)), some (.ref (B + 32)), some (.int (nI (pp S 5))), some (.int (nI L)), some (.int (nI j)), x7, x8] [] m' := by
    intro z
    induction z with
    | zero =>
      intro j m' L x7 x8 h1 h2 hL h3 h4 h5
      refine e_iload dX0_goOn_7 rfl ?_
      refine e_aload_n dX0_goOn_9 rfl rfl ?_
      refine m_get 8 4 lf_X0_32 dX0_goOn_10 (ly_32 B _ _) rfl ?_
      refine e_top (w := nI (wn S)) ((by rw [h5 32 (by omega)]; exact hc.2.2.2.1)) ?_
      refine n_icmp_ge 87 dX0_goOn_13 (by decide) (by omega) (by omega) (fun g1 => ?_) (fun g1 => ?_)
      · have : j = wn S := by clear h3; omega
        subst this
        rcases h3 with ⟨e, -⟩ | ⟨j0, e1, e2, e3⟩
        · omega
        · have xb := (hx j0 e1.1).2
          have nb := npl (f i) (f j0)
          refine e_aload_n dX0_goOn_87 rfl rfl ?_
          refine m_get 0 1 lf_X0_16 dX0_goOn_88 (ly_203 B _ _) rfl ?_
          refine e_iload_n dX0_goOn_91 rfl rfl ?_
          refine m_aald (r := 212 + k) (k) dX0_goOn_92 (by decide) rfl (ly_211 B _ _) (rfl) (by omega) (by decide) (if_pos (by omega)) ?_
          refine e_iload_n dX0_goOn_93 rfl rfl ?_
          refine e_dup2 dX0_goOn_94 rfl rfl ?_
          refine m_iald (i) dX0_goOn_95 (ly_cc B _ _ (i := k) (by omega)) (rfl) (by omega) (by decide) ?_
          refine e_top (w := nI c) ((by rw [h5 (212 + k) (by omega)]; exact hcc)) ?_
          refine e_iload dX0_goOn_96 rfl ?_
          refine e_iadd dX0_goOn_98 ?_
          refine e_top (w := nI (c + L)) (nI_add _ _) ?_
          refine m_iast (i) dX0_goOn_99 (fun m => ly_cc B m _ (i := k) (by omega)) (rfl) (by omega) (by decide) ?_
          refine m_vret dX0_goOn_100 rfl (Nat.le_refl _) (Nat.le_refl _) ⟨rfl, ⟨j0, e1, by rw [wr_off _ _ (by omega)]; exact e3, by rw [wr_same, e2]⟩, fun b hb => ⟨by rw [wr_off _ _ (by omega)]; exact h4 b hb, by rw [wr_ne _ _ (Or.inr hb), h5 (212 + k) (by omega)]⟩, fun a h6 h7 => by rw [wr_off _ _ h7]; exact h5 a h6⟩
      · exact absurd g1 (by clear h3; omega)
    | succ z ih =>
      intro j m' L x7 x8 h1 h2 hL h3 h4 h5
      have jw : j < wn S := by clear h3; omega
      have y1 : wn S - (j + 1) = z := by clear h3; omega
      obtain ⟨fj1, fj2⟩ := o1 j jw
      obtain ⟨xj1, xj2⟩ := hx j jw
      have nb := npl (f i) (f j)
      refine e_iload dX0_goOn_7 rfl ?_
      refine e_aload_n dX0_goOn_9 rfl rfl ?_
      refine m_get 8 4 lf_X0_32 dX0_goOn_10 (ly_32 B _ _) rfl ?_
      refine e_top (w := nI (wn S)) ((by rw [h5 32 (by omega)]; exact hc.2.2.2.1)) ?_
      refine n_icmp_ge 87 dX0_goOn_13 (by decide) (by omega) (by omega) (fun g1 => ?_) (fun g1 => ?_)
      · exact absurd g1 (by clear h3; omega)
      · refine e_aload_n dX0_goOn_16 rfl rfl ?_
        refine e_aload_n dX0_goOn_17 rfl rfl ?_
        refine m_get 8 2 lf_X0_40 dX0_goOn_18 (ly_32 B _ _) rfl ?_
        refine e_iload_n dX0_goOn_21 rfl rfl ?_
        refine m_iald (i) dX0_goOn_22 (ly_35 B _ _) (rfl) (by omega) (by decide) ?_
        refine e_top (w := nI (f i)) ((by rw [h5 35 (by omega)]; exact fi1)) ?_
        refine e_aload_n dX0_goOn_23 rfl rfl ?_
        refine m_get 8 2 lf_X0_40 dX0_goOn_24 (ly_32 B _ _) rfl ?_
        refine e_iload dX0_goOn_27 rfl ?_
        refine m_iald (j) dX0_goOn_29 (ly_35 B _ _) (rfl) (by omega) (by decide) ?_
        refine e_top (w := nI (f j)) ((by rw [h5 35 (by omega)]; exact fj1)) ?_
        refine m_callV (As := [_, _]) lc_X0_65 dX0_goOn_30 (ly_32 B _ _) rfl rfl (by simp [Value.category]) (Nat.le_of_ble_eq_true rfl) (Nat.le_of_ble_eq_true rfl) ⟨Nat.le_of_ble_eq_true rfl, Nat.le_of_ble_eq_true rfl⟩ ⟨Nat.le_of_ble_eq_true rfl, Nat.le_of_ble_eq_true rfl⟩ (c_isPair m' (pa := pa S) (a := f i) (b := f j) (fun a b ha hb => by rw [h5 36 (by omega)]; exact hc.2.2.2.2.2.2.1 a b ha hb) (by omega) (by omega)) (fun v9 m2 hp9 => ?_)
        obtain ⟨rfl, rfl⟩ := hp9
        refine e_istore dX0_goOn_33 (by decide) rfl ?_
        refine e_aload_n dX0_goOn_35 rfl rfl ?_
        refine m_get 0 1 lf_X0_16 dX0_goOn_36 (ly_203 B _ _) rfl ?_
        refine e_iload_n dX0_goOn_39 rfl rfl ?_
        refine e_iconst (v := nI 1) dX0_goOn_40 (by decide) ?_
        refine e_iadd dX0_goOn_41 ?_
        refine e_top (w := nI (k + 1)) (nI_add _ _) ?_
        refine m_aald (r := 212 + (k + 1)) (k + 1) dX0_goOn_42 (by decide) rfl (ly_211 B _ _) (rfl) (by omega) (by decide) (if_pos (by omega)) ?_
        refine e_iload dX0_goOn_43 rfl ?_
        refine m_iald (j) dX0_goOn_45 (ly_cc B _ _ (i := (k + 1)) (by omega)) (rfl) (by omega) (by decide) ?_
        refine e_top (w := nI (x j)) ((by rw [h5 (212 + (k + 1)) (by omega)]; exact xj1)) ?_
        refine e_iload dX0_goOn_46 rfl ?_
        -- behind the price of the two
        have go57 : mm_G l D kA B sz o 1 22 mX0_goOn (P_goOn m S f x k i c) 57 [some (.ref (B + 203)), some (.int (nI k)), some (.int (nI i)), some (.ref (B + 32)), some (.int (nI (pp S 5))), some (.int (nI L)), some (.int (nI j)), some (.int (if pa S (f i) (f j) then nI 1 else nI 0)), x8] [.int (nI (np S (f i) (f j))), .int (nI (x j))] m2 := by
          refine e_iadd dX0_goOn_57 ?_
          refine e_top (w := nI ((x j) + (np S (f i) (f j)))) (nI_add _ _) ?_
          refine e_istore dX0_goOn_58 (by decide) rfl ?_
          refine e_iload dX0_goOn_60 rfl ?_
          refine e_iload dX0_goOn_62 rfl ?_
          refine n_icmp_ge 81 dX0_goOn_64 (by decide) (by omega) (by omega) (fun g2 => ?_) (fun g2 => ?_)
          · refine e_iinc (v := nI (j + 1)) dX0_goOn_81 rfl (nI_add _ _) (by decide) rfl ?_
            refine e_goto 7 dX0_goOn_84 (by decide) ?_
            refine ih (j + 1) m2 L _ _ y1 jw hL ?_ h4 h5
            rcases h3 with ⟨e, e2⟩ | ⟨j0, e1, e2, e3⟩
            · omega
            · refine Or.inr ⟨j0, ⟨by have := e1.1; omega, fun b hb => ?_⟩, e2, e3⟩
              by_cases e : b = j
              · subst e
                dsimp only
                exact ⟨by omega, fun h => by have := e1.1; omega⟩
              · exact e1.2 b (by omega)
          · refine e_iload dX0_goOn_67 rfl ?_
            refine e_istore dX0_goOn_69 (by decide) rfl ?_
            refine e_aload_n dX0_goOn_71 rfl rfl ?_
            refine m_get 0 2 lf_X0_19 dX0_goOn_72 (ly_203 B _ _) rfl ?_
            refine e_iload_n dX0_goOn_75 rfl rfl ?_
            refine m_aald (r := 219 + k) (k) dX0_goOn_76 (by decide) rfl (ly_218 B _ _) (rfl) (by omega) (by decide) (if_pos (by omega)) ?_
            refine e_iload_n dX0_goOn_77 rfl rfl ?_
            refine e_iload dX0_goOn_78 rfl ?_
            refine m_iast (i) dX0_goOn_80 (fun m => ly_cx B m _ (i := k) (by omega)) (rfl) (by omega) (by decide) ?_
            refine e_iinc (v := nI (j + 1)) dX0_goOn_81 rfl (nI_add _ _) (by decide) rfl ?_
            refine e_goto 7 dX0_goOn_84 (by decide) ?_
            refine ih (j + 1) _ _ _ _ y1 jw (by omega) (Or.inr ⟨j, ⟨by omega, fun b hb => ?_⟩, rfl, wr_same _ _ _ _⟩) (fun b hb => by rw [wr_ne _ _ (Or.inr hb)]; exact h4 b hb) (fun a ha => by rw [wr_off _ _ ha]; exact h5 a ha)
            dsimp only
            by_cases e : b = j
            · subst e; exact ⟨Nat.le_refl _, fun h => by omega⟩
            · rcases h3 with ⟨e0, e2⟩ | ⟨j0, e1, e2, e3⟩
              · omega
              · have := (e1.2 b (by omega)).1
                dsimp only at this
                exact ⟨by omega, fun _ => by omega⟩
        by_cases e : pa S (f i) (f j) = true
        · have en : np S (f i) (f j) = 0 := by unfold np; rw [if_pos e]
          rw [en] at go57
          rw [if_pos e]
          rw [if_pos e] at go57
          refine e_if_eq 55 dX0_goOn_48 (by decide) (fun g3 => ?_) (fun g3 => ?_)
          · exact absurd g3 (by decide)
          · refine e_iconst (v := nI 0) dX0_goOn_51 (by decide) ?_
            refine e_goto 57 dX0_goOn_52 (by decide) ?_
            exact go57
        · have en : np S (f i) (f j) = pp S 5 := by unfold np; rw [if_neg e]
          rw [en] at go57
          rw [if_neg e]
          rw [if_neg e] at go57
          refine e_if_eq 55 dX0_goOn_48 (by decide) (fun g3 => ?_) (fun g3 => ?_)
          · refine e_iload dX0_goOn_55 rfl ?_
            exact go57
          · exact absurd rfl g3
  exact loop (wn S) 0 m 2147483647 none none (by omega) (by omega) (Nat.le_refl _) (Or.inl ⟨rfl, rfl⟩) (fun b _ => rfl) (fun a _ => rfl)
set_option maxRecDepth 100000 in
/-- Choice.cheapestFirst -/
theorem c_cheapestFirst (m : mm_M) {n : Nat} {x : Nat → Nat} (hn : 1 ≤ n) (n60 : n ≤ 60) (hx : ∀ j, j < n → m (212 + 0) j = nI (x j) ∧ x j ≤ 1002000) : mm_F l D kA B sz o 0 0 mX0_cheapestFirst [.ref (B + 203), .int (nI n)] m (fun v m' => m' = m ∧ ∃ j0, fm x n j0 ∧ v = some (.int (nI j0))) := by
  refine mm_F.of ?_
  refine e_iconst (v := nI 0) dX0_cheapestFirst_0 (by decide) ?_
  refine e_istore_n dX0_cheapestFirst_1 rfl (by decide) rfl ?_
  refine e_iconst (v := nI 1) dX0_cheapestFirst_2 (by decide) ?_
  refine e_istore_n dX0_cheapestFirst_3 rfl (by decide) rfl ?_
  have loop : ∀ (z j j0 : Nat), n - j = z → 1 ≤ j → j ≤ n → fm x j j0 → mm_G l D kA B sz o 0 0 mX0_cheapestFirst (fun v m' => m' = m ∧ ∃ j0, fm x n j0 ∧ v = some (.int (nI j0))) 4 [some (.ref (B + 203)), some (.int (nI n)), some (.int (nI j0)), some (.int (nI j))] [] m := by
    intro z
    induction z with
    | zero =>
      intro j j0 h1 h2 h3 h4
      have := h4.1
      refine e_iload_n dX0_cheapestFirst_4 rfl rfl ?_
      refine e_iload_n dX0_cheapestFirst_5 rfl rfl ?_
      refine n_icmp_ge 36 dX0_cheapestFirst_6 (by decide) (by omega) (by omega) (fun g1 => ?_) (fun g1 => ?_)
      · refine e_iload_n dX0_cheapestFirst_36 rfl rfl ?_
        exact m_iret dX0_cheapestFirst_37 rfl (Nat.le_refl _) (Nat.le_refl _) (⟨rfl, j0, by rw [show n = j by omega]; exact h4, rfl⟩)
      · exact absurd g1 (by omega)
    | succ z ih =>
      intro j j0 h1 h2 h3 h4
      have jl := h4.1
      obtain ⟨a1, a2⟩ := hx j (by omega)
      obtain ⟨b1, b2⟩ := hx j0 (by omega)
      refine e_iload_n dX0_cheapestFirst_4 rfl rfl ?_
      refine e_iload_n dX0_cheapestFirst_5 rfl rfl ?_
      refine n_icmp_ge 36 dX0_cheapestFirst_6 (by decide) (by omega) (by omega) (fun g1 => ?_) (fun g1 => ?_)
      · exact absurd g1 (by omega)
      · refine e_aload_n dX0_cheapestFirst_9 rfl rfl ?_
        refine m_get 0 1 lf_X0_16 dX0_cheapestFirst_10 (ly_203 B _ _) rfl ?_
        refine e_iconst (v := nI 0) dX0_cheapestFirst_13 (by decide) ?_
        refine m_aald (r := 212 + 0) (0) dX0_cheapestFirst_14 (by decide) rfl (ly_211 B _ _) (rfl) (by omega) (by decide) (if_pos (by omega)) ?_
        refine e_iload_n dX0_cheapestFirst_15 rfl rfl ?_
        refine m_iald (j) dX0_cheapestFirst_16 (ly_cc B _ _ (i := 0) (by omega)) (rfl) (by omega) (by decide) ?_
        refine e_top (w := nI (x j)) (a1) ?_
        refine e_aload_n dX0_cheapestFirst_17 rfl rfl ?_
        refine m_get 0 1 lf_X0_16 dX0_cheapestFirst_18 (ly_203 B _ _) rfl ?_
        refine e_iconst (v := nI 0) dX0_cheapestFirst_21 (by decide) ?_
        refine m_aald (r := 212 + 0) (0) dX0_cheapestFirst_22 (by decide) rfl (ly_211 B _ _) (rfl) (by omega) (by decide) (if_pos (by omega)) ?_
        refine e_iload_n dX0_cheapestFirst_23 rfl rfl ?_
        refine m_iald (j0) dX0_cheapestFirst_24 (ly_cc B _ _ (i := 0) (by omega)) (rfl) (by omega) (by decide) ?_
        refine e_top (w := nI (x j0)) (b1) ?_
        refine n_icmp_ge 30 dX0_cheapestFirst_25 (by decide) (by omega) (by omega) (fun g2 => ?_) (fun g2 => ?_)
        · refine e_iinc (v := nI (j + 1)) dX0_cheapestFirst_30 rfl (nI_add _ _) (by decide) rfl ?_
          refine e_goto 4 dX0_cheapestFirst_33 (by decide) ?_
          refine ih (j + 1) j0 (by omega) (by omega) (by omega) ⟨by omega, fun b hb => ?_⟩
          by_cases e : b = j
          · subst e; exact ⟨by omega, fun h => by omega⟩
          · exact h4.2 b (by omega)
        · refine e_iload_n dX0_cheapestFirst_28 rfl rfl ?_
          refine e_istore_n dX0_cheapestFirst_29 rfl (by decide) rfl ?_
          refine e_iinc (v := nI (j + 1)) dX0_cheapestFirst_30 rfl (nI_add _ _) (by decide) rfl ?_
          refine e_goto 4 dX0_cheapestFirst_33 (by decide) ?_
          refine ih (j + 1) j (by omega) (by omega) (by omega) ⟨by omega, fun b hb => ?_⟩
          by_cases e : b = j
          · subst e; exact ⟨Nat.le_refl _, fun h => by omega⟩
          · have := (h4.2 b (by omega)).1
            exact ⟨by omega, fun _ => by omega⟩
  exact loop (n - 1) 1 0 (by omega) (by omega) hn ⟨by omega, fun b hb => by rw [show b = 0 by omega]; exact ⟨Nat.le_refl _, fun h => by omega⟩⟩
/-- the row of places that the pointers give -/
def rp (nx : Nat → Nat → Nat) (j0 : Nat) : Nat → Nat
  | 0 => j0
  | t + 1 => nx t (rp nx j0 t)
set_option maxRecDepth 100000 in
/-- Choice.keepRow -/
theorem c_keepRow (m : mm_M) {S : sp_S} {f : Nat → Nat} {nx : Nat → Nat → Nat} {j0 : Nat} (hf : or_at m (wn S) f (wl S) (wt S)) (n60 : wn S ≤ 60) (k6 : kn S ≤ 6) (k1 : 1 ≤ kn S) (hj : j0 < wn S) (hnx : ∀ t, t + 1 < kn S → m (219 + t) (rp nx j0 t) = nI (nx t (rp nx j0 t)) ∧ nx t (rp nx j0 t) < wn S) : mm_F l D kA B sz o 0 0 mX0_keepRow [.ref (B + 203), .int (nI j0), .int (nI (kn S)), .ref (B + 32)] m (fun v m' => v = none ∧ (∀ t, t < kn S → m' 225 t = nI (f (rp nx j0 t))) ∧ ∀ a, a ≠ 225 → m' a = m a) := by
  have bnd : ∀ t, t < kn S → rp nx j0 t < wn S := fun t ht => by
    cases t with
    | zero => exact hj
    | succ t => exact (hnx t ht).2
  refine mm_F.of ?_
  refine e_iload_n dX0_keepRow_0 rfl rfl ?_
  refine e_istore dX0_keepRow_1 (by decide) rfl ?_
  refine e_aload_n dX0_keepRow_3 rfl rfl ?_
  refine m_get 0 3 lf_X0_22 dX0_keepRow_4 (ly_203 B _ _) rfl ?_
  refine e_iconst (v := nI 0) dX0_keepRow_7 (by decide) ?_
  refine e_aload_n dX0_keepRow_8 rfl rfl ?_
  refine m_get 8 2 lf_X0_40 dX0_keepRow_9 (ly_32 B _ _) rfl ?_
  refine e_iload dX0_keepRow_12 rfl ?_
  refine m_iald (j0) dX0_keepRow_14 (ly_35 B _ _) (rfl) (by omega) (by decide) ?_
  refine e_top (w := nI (f j0)) ((hf.1 j0 hj).1) ?_
  refine m_iast (0) dX0_keepRow_15 (fun m => ly_225 B m _) (rfl) (by omega) (by decide) ?_
  refine e_iconst (v := nI 1) dX0_keepRow_16 (by decide) ?_
  refine e_istore dX0_keepRow_17 (by decide) rfl ?_
  have loop : ∀ (z t : Nat) (m' : mm_M), kn S - t = z → 1 ≤ t → t ≤ kn S → (∀ u, u < t → m' 225 u = nI (f (rp nx j0 u))) → (∀ a, a ≠ 225 → m' a = m a) → mm_G l D kA B sz o 0 0 mX0_keepRow (fun v m' => v = none ∧ (∀ t, t < kn S → m' 225 t = nI (f (rp nx j0 t))) ∧ ∀ a, a ≠ 225 → m' a = m a) 19 [some (.ref (B + 203)), some (.int (nI j0)), some (.int (nI (kn S))), some (.ref (B + 32)), some (.int (nI (rp nx j0 (t - 1)))), some (.int (nI t))] [] m' := by
    intro z
    induction z with
    | zero =>
      intro t m' h1 h2 h3 h4 h5
      refine e_iload dX0_keepRow_19 rfl ?_
      refine e_iload_n dX0_keepRow_21 rfl rfl ?_
      refine n_icmp_ge 59 dX0_keepRow_22 (by decide) (by omega) (by omega) (fun g1 => ?_) (fun g1 => ?_)
      · exact m_vret dX0_keepRow_59 rfl (Nat.le_refl _) (Nat.le_refl _) (⟨rfl, fun u hu => h4 u (by omega), h5⟩)
      · exact absurd g1 (by omega)
    | succ z ih =>
      intro t m' h1 h2 h3 h4 h5
      obtain ⟨t', rfl⟩ : ∃ q, t = q + 1 := ⟨t - 1, by omega⟩
      obtain ⟨n1, n2⟩ := hnx t' (by omega)
      have b1 := bnd t' (by omega)
      rw [Nat.add_sub_cancel]
      refine e_iload dX0_keepRow_19 rfl ?_
      refine e_iload_n dX0_keepRow_21 rfl rfl ?_
      refine n_icmp_ge 59 dX0_keepRow_22 (by decide) (by omega) (by omega) (fun g1 => ?_) (fun g1 => ?_)
      · exact absurd g1 (by omega)
      · refine e_aload_n dX0_keepRow_25 rfl rfl ?_
        refine m_get 0 2 lf_X0_19 dX0_keepRow_26 (ly_203 B _ _) rfl ?_
        refine e_iload dX0_keepRow_29 rfl ?_
        refine e_iconst (v := nI 1) dX0_keepRow_31 (by decide) ?_
        refine e_isub dX0_keepRow_32 ?_
        refine e_top (w := nI ((t' + 1) - 1)) (pk_sub (by omega)) ?_
        refine m_aald (r := 219 + ((t' + 1) - 1)) ((t' + 1) - 1) dX0_keepRow_33 (by decide) rfl (ly_218 B _ _) (rfl) (by omega) (by decide) (if_pos (by omega)) ?_
        refine e_iload dX0_keepRow_34 rfl ?_
        refine m_iald (rp nx j0 t') dX0_keepRow_36 (ly_cx B _ _ (i := ((t' + 1) - 1)) (by omega)) (rfl) (by omega) (by decide) ?_
        refine e_top (w := nI (nx t' (rp nx j0 t'))) ((by rw [Nat.add_sub_cancel, h5 (219 + t') (by omega)]; exact n1)) ?_
        refine e_istore dX0_keepRow_37 (by decide) rfl ?_
        refine e_aload_n dX0_keepRow_39 rfl rfl ?_
        refine m_get 0 3 lf_X0_22 dX0_keepRow_40 (ly_203 B _ _) rfl ?_
        refine e_iload dX0_keepRow_43 rfl ?_
        refine e_aload_n dX0_keepRow_45 rfl rfl ?_
        refine m_get 8 2 lf_X0_40 dX0_keepRow_46 (ly_32 B _ _) rfl ?_
        refine e_iload dX0_keepRow_49 rfl ?_
        refine m_iald (nx t' (rp nx j0 t')) dX0_keepRow_51 (ly_35 B _ _) (rfl) (by omega) (by decide) ?_
        refine e_top (w := nI (f (nx t' (rp nx j0 t')))) ((by rw [h5 35 (by omega)]; exact (hf.1 _ n2).1)) ?_
        refine m_iast (t' + 1) dX0_keepRow_52 (fun m => ly_225 B m _) (rfl) (by omega) (by decide) ?_
        refine e_iinc (v := nI (t' + 1 + 1)) dX0_keepRow_53 rfl (nI_add _ _) (by decide) rfl ?_
        refine e_goto 19 dX0_keepRow_56 (by decide) ?_
        refine ih (t' + 1 + 1) _ (by omega) (by omega) (by omega) (fun u hu => ?_) (fun a ha => by rw [wr_off _ _ ha]; exact h5 a ha)
        by_cases e : u = t' + 1
        · rw [e, wr_same]; rfl
        · rw [wr_ne _ _ (Or.inr e)]; exact h4 u (by omega)
  exact loop (kn S - 1) 1 _ (by omega) (by omega) (by omega) (fun u hu => by rw [show u = 0 by omega, wr_same]; rfl) (fun a ha => wr_off _ _ ha)
end CHO
end
