section
-- ===== PART A: goes FIRST, ahead of the names: the tables' words, and 'selects' of the private methods out of them =====
/-- a private method of a class that the tables say can be made, by its rows of tables_1 -/
def lw_okq (q : MethodName × Nat) : Prop := (q.1.cls ≠ "java/lang/invoke/MethodHandle" ∧ q.1.cls ≠ "java/lang/invoke/VarHandle") ∧ Cond.instantiable q.1.cls q.2 ∈ tables_1 ∧ Cond.privateMethod q.1 ∈ tables_1 ∧ Cond.instanceMethod q.1 ∈ tables_1
theorem lw_p0 : lw_okq (⟨"SuggestSpell", "priceOfWord", "(I)I"⟩, 8) := ⟨⟨by decide +kernel, by decide +kernel⟩, List.mem_of_getElem? (i := 19) (by decide +kernel), List.mem_of_getElem? (i := 335) (by decide +kernel), List.mem_of_getElem? (i := 336) (by decide +kernel)⟩
theorem lw_p1 : lw_okq (⟨"SuggestSpell$Table", "fill", "()V"⟩, 7) := ⟨⟨by decide +kernel, by decide +kernel⟩, List.mem_of_getElem? (i := 121) (by decide +kernel), List.mem_of_getElem? (i := 344) (by decide +kernel), List.mem_of_getElem? (i := 345) (by decide +kernel)⟩
theorem lw_p2 : lw_okq (⟨"SuggestSpell$Table", "cheapest", "(II)I"⟩, 7) := ⟨⟨by decide +kernel, by decide +kernel⟩, List.mem_of_getElem? (i := 121) (by decide +kernel), List.mem_of_getElem? (i := 348) (by decide +kernel), List.mem_of_getElem? (i := 349) (by decide +kernel)⟩
theorem lw_p3 : lw_okq (⟨"SuggestSpell$Table", "byLast", "(II)I"⟩, 7) := ⟨⟨by decide +kernel, by decide +kernel⟩, List.mem_of_getElem? (i := 121) (by decide +kernel), List.mem_of_getElem? (i := 352) (by decide +kernel), List.mem_of_getElem? (i := 353) (by decide +kernel)⟩
theorem lw_p4 : lw_okq (⟨"SuggestSpell$Table", "mayChange", "(II)Z"⟩, 7) := ⟨⟨by decide +kernel, by decide +kernel⟩, List.mem_of_getElem? (i := 121) (by decide +kernel), List.mem_of_getElem? (i := 361) (by decide +kernel), List.mem_of_getElem? (i := 362) (by decide +kernel)⟩
theorem lw_p5 : lw_okq (⟨"SuggestSpell$Table", "byChange", "(II)I"⟩, 7) := ⟨⟨by decide +kernel, by decide +kernel⟩, List.mem_of_getElem? (i := 121) (by decide +kernel), List.mem_of_getElem? (i := 365) (by decide +kernel), List.mem_of_getElem? (i := 366) (by decide +kernel)⟩
theorem lw_p6 : lw_okq (⟨"SuggestSpell", "priceOfBeginning", "(I)I"⟩, 8) := ⟨⟨by decide +kernel, by decide +kernel⟩, List.mem_of_getElem? (i := 19) (by decide +kernel), List.mem_of_getElem? (i := 378) (by decide +kernel), List.mem_of_getElem? (i := 379) (by decide +kernel)⟩
theorem lw_p7 : lw_okq (⟨"SuggestSpell", "findEdits", "(I)V"⟩, 8) := ⟨⟨by decide +kernel, by decide +kernel⟩, List.mem_of_getElem? (i := 19) (by decide +kernel), List.mem_of_getElem? (i := 390) (by decide +kernel), List.mem_of_getElem? (i := 391) (by decide +kernel)⟩
theorem lw_p8 : lw_okq (⟨"SuggestSpell$Table", "note", "(II)V"⟩, 7) := ⟨⟨by decide +kernel, by decide +kernel⟩, List.mem_of_getElem? (i := 121) (by decide +kernel), List.mem_of_getElem? (i := 398) (by decide +kernel), List.mem_of_getElem? (i := 399) (by decide +kernel)⟩
theorem lw_p9 : lw_okq (⟨"SuggestSpell", "howMany", "(IZ)I"⟩, 8) := ⟨⟨by decide +kernel, by decide +kernel⟩, List.mem_of_getElem? (i := 19) (by decide +kernel), List.mem_of_getElem? (i := 418) (by decide +kernel), List.mem_of_getElem? (i := 419) (by decide +kernel)⟩
theorem lw_p10 : lw_okq (⟨"SuggestSpell", "rankWords", "(IZ)V"⟩, 8) := ⟨⟨by decide +kernel, by decide +kernel⟩, List.mem_of_getElem? (i := 19) (by decide +kernel), List.mem_of_getElem? (i := 425) (by decide +kernel), List.mem_of_getElem? (i := 426) (by decide +kernel)⟩
theorem lw_p11 : lw_okq (⟨"SuggestSpell$Ranking", "isBehind", "(III)Z"⟩, 4) := ⟨⟨by decide +kernel, by decide +kernel⟩, List.mem_of_getElem? (i := 153) (by decide +kernel), List.mem_of_getElem? (i := 433) (by decide +kernel), List.mem_of_getElem? (i := 434) (by decide +kernel)⟩
theorem lw_p12 : lw_okq (⟨"SuggestSpell", "rankedWord", "(IIZ)I"⟩, 8) := ⟨⟨by decide +kernel, by decide +kernel⟩, List.mem_of_getElem? (i := 19) (by decide +kernel), List.mem_of_getElem? (i := 441) (by decide +kernel), List.mem_of_getElem? (i := 442) (by decide +kernel)⟩
theorem lw_p13 : lw_okq (⟨"SuggestSpell$Parting", "fillSides", "(LSuggestSpell$Row;LSuggestSpell$Words;LSuggestSpell$Table;)V"⟩, 6) := ⟨⟨by decide +kernel, by decide +kernel⟩, List.mem_of_getElem? (i := 174) (by decide +kernel), List.mem_of_getElem? (i := 461) (by decide +kernel), List.mem_of_getElem? (i := 462) (by decide +kernel)⟩
theorem lw_p14 : lw_okq (⟨"SuggestSpell$Choice", "goOn", "(IILSuggestSpell$Words;I)V"⟩, 4) := ⟨⟨by decide +kernel, by decide +kernel⟩, List.mem_of_getElem? (i := 219) (by decide +kernel), List.mem_of_getElem? (i := 524) (by decide +kernel), List.mem_of_getElem? (i := 525) (by decide +kernel)⟩
theorem lw_p15 : lw_okq (⟨"SuggestSpell$Choice", "cheapestFirst", "(I)I"⟩, 4) := ⟨⟨by decide +kernel, by decide +kernel⟩, List.mem_of_getElem? (i := 219) (by decide +kernel), List.mem_of_getElem? (i := 530) (by decide +kernel), List.mem_of_getElem? (i := 531) (by decide +kernel)⟩
def lw_privs_1 : List (MethodName × Nat) := [(⟨"SuggestSpell", "priceOfWord", "(I)I"⟩, 8), (⟨"SuggestSpell$Table", "fill", "()V"⟩, 7), (⟨"SuggestSpell$Table", "cheapest", "(II)I"⟩, 7), (⟨"SuggestSpell$Table", "byLast", "(II)I"⟩, 7), (⟨"SuggestSpell$Table", "mayChange", "(II)Z"⟩, 7), (⟨"SuggestSpell$Table", "byChange", "(II)I"⟩, 7), (⟨"SuggestSpell", "priceOfBeginning", "(I)I"⟩, 8), (⟨"SuggestSpell", "findEdits", "(I)V"⟩, 8), (⟨"SuggestSpell$Table", "note", "(II)V"⟩, 7), (⟨"SuggestSpell", "howMany", "(IZ)I"⟩, 8), (⟨"SuggestSpell", "rankWords", "(IZ)V"⟩, 8), (⟨"SuggestSpell$Ranking", "isBehind", "(III)Z"⟩, 4), (⟨"SuggestSpell", "rankedWord", "(IIZ)I"⟩, 8), (⟨"SuggestSpell$Parting", "fillSides", "(LSuggestSpell$Row;LSuggestSpell$Words;LSuggestSpell$Table;)V"⟩, 6), (⟨"SuggestSpell$Choice", "goOn", "(IILSuggestSpell$Words;I)V"⟩, 4), (⟨"SuggestSpell$Choice", "cheapestFirst", "(I)I"⟩, 4)]
theorem lw_r1 : ∀ q ∈ lw_privs_1, lw_okq q := List.forall_mem_cons.mpr ⟨lw_p0, List.forall_mem_cons.mpr ⟨lw_p1, List.forall_mem_cons.mpr ⟨lw_p2, List.forall_mem_cons.mpr ⟨lw_p3, List.forall_mem_cons.mpr ⟨lw_p4, List.forall_mem_cons.mpr ⟨lw_p5, List.forall_mem_cons.mpr ⟨lw_p6, List.forall_mem_cons.mpr ⟨lw_p7, List.forall_mem_cons.mpr ⟨lw_p8, List.forall_mem_cons.mpr ⟨lw_p9, List.forall_mem_cons.mpr ⟨lw_p10, List.forall_mem_cons.mpr ⟨lw_p11, List.forall_mem_cons.mpr ⟨lw_p12, List.forall_mem_cons.mpr ⟨lw_p13, List.forall_mem_cons.mpr ⟨lw_p14, List.forall_mem_cons.mpr ⟨lw_p15, fun _ h => absurd h List.not_mem_nil⟩⟩⟩⟩⟩⟩⟩⟩⟩⟩⟩⟩⟩⟩⟩⟩
theorem lw_p16 : lw_okq (⟨"SuggestSpell$Choice", "keepRow", "(IILSuggestSpell$Words;)V"⟩, 4) := ⟨⟨by decide +kernel, by decide +kernel⟩, List.mem_of_getElem? (i := 219) (by decide +kernel), List.mem_of_getElem? (i := 534) (by decide +kernel), List.mem_of_getElem? (i := 535) (by decide +kernel)⟩
theorem lw_p17 : lw_okq (⟨"java/lang/Throwable", "fillInStackTrace", "(I)Ljava/lang/Throwable;"⟩, 6) := ⟨⟨by decide +kernel, by decide +kernel⟩, List.mem_of_getElem? (i := 583) (by decide +kernel), List.mem_of_getElem? (i := 581) (by decide +kernel), List.mem_of_getElem? (i := 582) (by decide +kernel)⟩
theorem lw_p18 : lw_okq (⟨"SuggestSpellModel", "isWord", "(I)Z"⟩, 25) := ⟨⟨by decide +kernel, by decide +kernel⟩, List.mem_of_getElem? (i := 613) (by decide +kernel), List.mem_of_getElem? (i := 718) (by decide +kernel), List.mem_of_getElem? (i := 719) (by decide +kernel)⟩
theorem lw_p19 : lw_okq (⟨"SuggestSpellModel", "rank", "(I)I"⟩, 25) := ⟨⟨by decide +kernel, by decide +kernel⟩, List.mem_of_getElem? (i := 613) (by decide +kernel), List.mem_of_getElem? (i := 726) (by decide +kernel), List.mem_of_getElem? (i := 727) (by decide +kernel)⟩
theorem lw_p20 : lw_okq (⟨"SuggestSpellModel", "isAhead", "(II)Z"⟩, 25) := ⟨⟨by decide +kernel, by decide +kernel⟩, List.mem_of_getElem? (i := 613) (by decide +kernel), List.mem_of_getElem? (i := 730) (by decide +kernel), List.mem_of_getElem? (i := 731) (by decide +kernel)⟩
theorem lw_p21 : lw_okq (⟨"SuggestSpellModel", "takeTyped", "(II)V"⟩, 25) := ⟨⟨by decide +kernel, by decide +kernel⟩, List.mem_of_getElem? (i := 613) (by decide +kernel), List.mem_of_getElem? (i := 746) (by decide +kernel), List.mem_of_getElem? (i := 747) (by decide +kernel)⟩
theorem lw_p22 : lw_okq (⟨"SuggestSpellModel", "fill", "(I)I"⟩, 25) := ⟨⟨by decide +kernel, by decide +kernel⟩, List.mem_of_getElem? (i := 613) (by decide +kernel), List.mem_of_getElem? (i := 750) (by decide +kernel), List.mem_of_getElem? (i := 751) (by decide +kernel)⟩
theorem lw_p23 : lw_okq (⟨"SuggestSpellModel", "becomes", "(II)I"⟩, 25) := ⟨⟨by decide +kernel, by decide +kernel⟩, List.mem_of_getElem? (i := 613) (by decide +kernel), List.mem_of_getElem? (i := 755) (by decide +kernel), List.mem_of_getElem? (i := 756) (by decide +kernel)⟩
theorem lw_p24 : lw_okq (⟨"SuggestSpellModel", "isTurned", "(III)Z"⟩, 25) := ⟨⟨by decide +kernel, by decide +kernel⟩, List.mem_of_getElem? (i := 613) (by decide +kernel), List.mem_of_getElem? (i := 759) (by decide +kernel), List.mem_of_getElem? (i := 760) (by decide +kernel)⟩
theorem lw_p25 : lw_okq (⟨"SuggestSpellModel", "beginsBy", "(I)I"⟩, 25) := ⟨⟨by decide +kernel, by decide +kernel⟩, List.mem_of_getElem? (i := 613) (by decide +kernel), List.mem_of_getElem? (i := 767) (by decide +kernel), List.mem_of_getElem? (i := 768) (by decide +kernel)⟩
theorem lw_p26 : lw_okq (⟨"SuggestSpellModel", "find", "(I)V"⟩, 25) := ⟨⟨by decide +kernel, by decide +kernel⟩, List.mem_of_getElem? (i := 613) (by decide +kernel), List.mem_of_getElem? (i := 775) (by decide +kernel), List.mem_of_getElem? (i := 776) (by decide +kernel)⟩
theorem lw_p27 : lw_okq (⟨"SuggestSpellModel", "note", "(II)V"⟩, 25) := ⟨⟨by decide +kernel, by decide +kernel⟩, List.mem_of_getElem? (i := 613) (by decide +kernel), List.mem_of_getElem? (i := 779) (by decide +kernel), List.mem_of_getElem? (i := 780) (by decide +kernel)⟩
theorem lw_p28 : lw_okq (⟨"SuggestSpellModel", "look", "(IZ)V"⟩, 25) := ⟨⟨by decide +kernel, by decide +kernel⟩, List.mem_of_getElem? (i := 613) (by decide +kernel), List.mem_of_getElem? (i := 791) (by decide +kernel), List.mem_of_getElem? (i := 792) (by decide +kernel)⟩
theorem lw_p29 : lw_okq (⟨"SuggestSpellModel", "isBefore", "(IIII)Z"⟩, 25) := ⟨⟨by decide +kernel, by decide +kernel⟩, List.mem_of_getElem? (i := 613) (by decide +kernel), List.mem_of_getElem? (i := 795) (by decide +kernel), List.mem_of_getElem? (i := 796) (by decide +kernel)⟩
theorem lw_p30 : lw_okq (⟨"SuggestSpellModel", "side", "(II)I"⟩, 25) := ⟨⟨by decide +kernel, by decide +kernel⟩, List.mem_of_getElem? (i := 613) (by decide +kernel), List.mem_of_getElem? (i := 815) (by decide +kernel), List.mem_of_getElem? (i := 816) (by decide +kernel)⟩
theorem lw_p31 : lw_okq (⟨"SuggestSpellModel", "nextTo", "(II)I"⟩, 25) := ⟨⟨by decide +kernel, by decide +kernel⟩, List.mem_of_getElem? (i := 613) (by decide +kernel), List.mem_of_getElem? (i := 835) (by decide +kernel), List.mem_of_getElem? (i := 836) (by decide +kernel)⟩
def lw_privs_2 : List (MethodName × Nat) := [(⟨"SuggestSpell$Choice", "keepRow", "(IILSuggestSpell$Words;)V"⟩, 4), (⟨"java/lang/Throwable", "fillInStackTrace", "(I)Ljava/lang/Throwable;"⟩, 6), (⟨"SuggestSpellModel", "isWord", "(I)Z"⟩, 25), (⟨"SuggestSpellModel", "rank", "(I)I"⟩, 25), (⟨"SuggestSpellModel", "isAhead", "(II)Z"⟩, 25), (⟨"SuggestSpellModel", "takeTyped", "(II)V"⟩, 25), (⟨"SuggestSpellModel", "fill", "(I)I"⟩, 25), (⟨"SuggestSpellModel", "becomes", "(II)I"⟩, 25), (⟨"SuggestSpellModel", "isTurned", "(III)Z"⟩, 25), (⟨"SuggestSpellModel", "beginsBy", "(I)I"⟩, 25), (⟨"SuggestSpellModel", "find", "(I)V"⟩, 25), (⟨"SuggestSpellModel", "note", "(II)V"⟩, 25), (⟨"SuggestSpellModel", "look", "(IZ)V"⟩, 25), (⟨"SuggestSpellModel", "isBefore", "(IIII)Z"⟩, 25), (⟨"SuggestSpellModel", "side", "(II)I"⟩, 25), (⟨"SuggestSpellModel", "nextTo", "(II)I"⟩, 25)]
theorem lw_r2 : ∀ q ∈ lw_privs_2, lw_okq q := List.forall_mem_cons.mpr ⟨lw_p16, List.forall_mem_cons.mpr ⟨lw_p17, List.forall_mem_cons.mpr ⟨lw_p18, List.forall_mem_cons.mpr ⟨lw_p19, List.forall_mem_cons.mpr ⟨lw_p20, List.forall_mem_cons.mpr ⟨lw_p21, List.forall_mem_cons.mpr ⟨lw_p22, List.forall_mem_cons.mpr ⟨lw_p23, List.forall_mem_cons.mpr ⟨lw_p24, List.forall_mem_cons.mpr ⟨lw_p25, List.forall_mem_cons.mpr ⟨lw_p26, List.forall_mem_cons.mpr ⟨lw_p27, List.forall_mem_cons.mpr ⟨lw_p28, List.forall_mem_cons.mpr ⟨lw_p29, List.forall_mem_cons.mpr ⟨lw_p30, List.forall_mem_cons.mpr ⟨lw_p31, fun _ h => absurd h List.not_mem_nil⟩⟩⟩⟩⟩⟩⟩⟩⟩⟩⟩⟩⟩⟩⟩⟩
def lw_privs : List (MethodName × Nat) := lw_privs_1 ++ (lw_privs_2)
def lw_tbl : List Cond := k2_sels lw_privs ++ tables_1
theorem lw_privs_ok : ∀ q ∈ lw_privs, lw_okq q := by
  show ∀ q ∈ lw_privs_1 ++ (lw_privs_2), lw_okq q
  exact List.forall_mem_append.mpr ⟨lw_r1, lw_r2⟩
-- ===== end of PART A
end
section
/-! ===== BEGIN words of one list among another's, by their places ===== -/
theorem goodIn_r {big : List Cond} (ws : List Cond) (ps : List Nat) (hp : ws = ps.filterMap (fun i => big[i]?)) (h : ws.all goodWord = true) : GoodIn big ws := by
  intro w hw
  have h1 := List.all_eq_true.mp h w hw
  rw [hp] at hw
  obtain ⟨i, -, hi⟩ := List.mem_filterMap.mp hw
  have hm : w ∈ big := by first | exact List.mem_of_getElem? hi | exact List.getElem?_mem hi
  exact ⟨hm, good_of_word h1⟩
theorem goodIn_app {big a b : List Cond} (ha : GoodIn big a) (hb : GoodIn big b) : GoodIn big (a ++ b) := fun w h => (List.mem_append.mp h).elim (ha w) (hb w)
theorem goodIn_ca {big a b : List Cond} {c : Cond} (ha : GoodIn big (c :: a)) (hb : GoodIn big b) : GoodIn big (c :: (a ++ b)) := fun w h => (List.mem_cons.mp h).elim (fun e => ha w (List.mem_cons.mpr (Or.inl e))) (fun h => (List.mem_append.mp h).elim (fun h => ha w (List.mem_cons.mpr (Or.inr h))) (hb w))
theorem goodIn_sub {big ws : List Cond} (hm : ∀ w ∈ ws, w ∈ big) (h : ws.all goodWord = true) : GoodIn big ws := fun w hw => ⟨hm w hw, good_of_word (List.all_eq_true.mp h w hw)⟩
def RX0 : String := "SuggestSpell$Choice"
def TX0 : u_T := fun k => match k with
  | 0 => ("SuggestSpell$Choice", "distances", "[[I", true)
  | 1 => ("SuggestSpell$Choice", "costs", "[[I", true)
  | 2 => ("SuggestSpell$Choice", "next", "[[I", true)
  | _ => ("SuggestSpell$Choice", "row", "[I", true)
def tyX0 : Nat → FieldType := fun k => match k with
  | 0 => .array (.array .int)
  | 1 => .array (.array .int)
  | 2 => .array (.array .int)
  | _ => .array .int
abbrev wsX00 : List Cond := u_ws RX0 TX0 4
theorem nmX0 : ∀ a, a < 4 → ∀ b, b < 4 → a ≠ b → (TX0 a).2.1 ≠ (TX0 b).2.1 := by decide +kernel
theorem tyX0_ok : ∀ k, k < 4 → parseFieldDescriptor (TX0 k).2.2.1 = some (tyX0 k) := by decide +kernel
abbrev cX0_init : ByteArray := prog_2_method_1_code
def yX0_init : MethodName := ⟨RX0, "<init>", "()V"⟩
abbrev cX0_measure : ByteArray := prog_2_method_2_code
def yX0_measure : MethodName := ⟨RX0, "measure", "(LSuggestSpell$Line;LSuggestSpell$Words;LSuggestSpell$Table;I)V"⟩
abbrev cX0_choose : ByteArray := prog_2_method_3_code
def yX0_choose : MethodName := ⟨RX0, "choose", "(ILSuggestSpell$Words;I)I"⟩
abbrev cX0_goOn : ByteArray := prog_2_method_4_code
def yX0_goOn : MethodName := ⟨RX0, "goOn", "(IILSuggestSpell$Words;I)V"⟩
abbrev cX0_cheapestFirst : ByteArray := prog_2_method_5_code
def yX0_cheapestFirst : MethodName := ⟨RX0, "cheapestFirst", "(I)I"⟩
abbrev cX0_keepRow : ByteArray := prog_2_method_6_code
def yX0_keepRow : MethodName := ⟨RX0, "keepRow", "(IILSuggestSpell$Words;)V"⟩
def RX1 : String := "SuggestSpell$Line"
def TX1 : u_T := fun k => match k with
  | 0 => ("SuggestSpell$Line", "rows", "[LSuggestSpell$Row;", true)
  | _ => ("SuggestSpell$Line", "size", "I", false)
def tyX1 : Nat → FieldType := fun k => match k with
  | 0 => .array (.object "SuggestSpell$Row")
  | _ => .int
abbrev wsX10 : List Cond := u_ws RX1 TX1 2
theorem nmX1 : ∀ a, a < 2 → ∀ b, b < 2 → a ≠ b → (TX1 a).2.1 ≠ (TX1 b).2.1 := by decide +kernel
theorem tyX1_ok : ∀ k, k < 2 → parseFieldDescriptor (TX1 k).2.2.1 = some (tyX1 k) := by decide +kernel
abbrev cX1_init : ByteArray := prog_3_method_1_code
def yX1_init : MethodName := ⟨RX1, "<init>", "()V"⟩
abbrev cX1_add : ByteArray := prog_3_method_2_code
def yX1_add : MethodName := ⟨RX1, "add", "(LSuggestSpell$Row;)Z"⟩
def RX2 : String := "SuggestSpell$Parting"
def TX2 : u_T := fun k => match k with
  | 0 => ("SuggestSpell$Parting", "left", "LSuggestSpell$Side;", true)
  | 1 => ("SuggestSpell$Parting", "right", "LSuggestSpell$Side;", true)
  | 2 => ("SuggestSpell$Parting", "cost", "I", false)
  | 3 => ("SuggestSpell$Parting", "cut", "I", false)
  | 4 => ("SuggestSpell$Parting", "leftWord", "I", false)
  | _ => ("SuggestSpell$Parting", "rightWord", "I", false)
def tyX2 : Nat → FieldType := fun k => match k with
  | 0 => .object "SuggestSpell$Side"
  | 1 => .object "SuggestSpell$Side"
  | 2 => .int
  | 3 => .int
  | 4 => .int
  | _ => .int
abbrev wsX20 : List Cond := u_ws RX2 TX2 6
theorem nmX2 : ∀ a, a < 6 → ∀ b, b < 6 → a ≠ b → (TX2 a).2.1 ≠ (TX2 b).2.1 := by decide +kernel
theorem tyX2_ok : ∀ k, k < 6 → parseFieldDescriptor (TX2 k).2.2.1 = some (tyX2 k) := by decide +kernel
abbrev cX2_init : ByteArray := prog_4_method_1_code
def yX2_init : MethodName := ⟨RX2, "<init>", "()V"⟩
abbrev cX2_find : ByteArray := prog_4_method_2_code
def yX2_find : MethodName := ⟨RX2, "find", "(LSuggestSpell$Row;LSuggestSpell$Words;LSuggestSpell$Table;I)V"⟩
abbrev cX2_fillSides : ByteArray := prog_4_method_3_code
def yX2_fillSides : MethodName := ⟨RX2, "fillSides", "(LSuggestSpell$Row;LSuggestSpell$Words;LSuggestSpell$Table;)V"⟩
def RX3 : String := "SuggestSpell$Prices"
def TX3 : u_T := fun k => match k with
  | 0 => ("SuggestSpell$Prices", "ofKind", "[I", true)
  | _ => ("SuggestSpell$Prices", "own", "[[I", true)
def tyX3 : Nat → FieldType := fun k => match k with
  | 0 => .array .int
  | _ => .array (.array .int)
abbrev wsX30 : List Cond := u_ws RX3 TX3 2
theorem nmX3 : ∀ a, a < 2 → ∀ b, b < 2 → a ≠ b → (TX3 a).2.1 ≠ (TX3 b).2.1 := by decide +kernel
theorem tyX3_ok : ∀ k, k < 2 → parseFieldDescriptor (TX3 k).2.2.1 = some (tyX3 k) := by decide +kernel
abbrev cX3_init : ByteArray := prog_5_method_1_code
def yX3_init : MethodName := ⟨RX3, "<init>", "()V"⟩
abbrev cX3_ofBecoming : ByteArray := prog_5_method_2_code
def yX3_ofBecoming : MethodName := ⟨RX3, "ofBecoming", "(II)I"⟩
def RX4 : String := "SuggestSpell$Ranking"
def TX4 : u_T := fun k => match k with
  | 0 => ("SuggestSpell$Ranking", "numbers", "[I", true)
  | 1 => ("SuggestSpell$Ranking", "costs", "[I", true)
  | 2 => ("SuggestSpell$Ranking", "counts", "[I", true)
  | _ => ("SuggestSpell$Ranking", "size", "I", false)
def tyX4 : Nat → FieldType := fun k => match k with
  | 0 => .array .int
  | 1 => .array .int
  | 2 => .array .int
  | _ => .int
abbrev wsX40 : List Cond := u_ws RX4 TX4 4
theorem nmX4 : ∀ a, a < 4 → ∀ b, b < 4 → a ≠ b → (TX4 a).2.1 ≠ (TX4 b).2.1 := by decide +kernel
theorem tyX4_ok : ∀ k, k < 4 → parseFieldDescriptor (TX4 k).2.2.1 = some (tyX4 k) := by decide +kernel
abbrev cX4_init : ByteArray := prog_6_method_1_code
def yX4_init : MethodName := ⟨RX4, "<init>", "()V"⟩
abbrev cX4_add : ByteArray := prog_6_method_2_code
def yX4_add : MethodName := ⟨RX4, "add", "(III)V"⟩
abbrev cX4_isBehind : ByteArray := prog_6_method_3_code
def yX4_isBehind : MethodName := ⟨RX4, "isBehind", "(III)Z"⟩
def RX5 : String := "SuggestSpell$Row"
def TX5 : u_T := fun k => match k with
  | 0 => ("SuggestSpell$Row", "letters", "[I", true)
  | _ => ("SuggestSpell$Row", "length", "I", false)
def tyX5 : Nat → FieldType := fun k => match k with
  | 0 => .array .int
  | _ => .int
abbrev wsX50 : List Cond := u_ws RX5 TX5 2
theorem nmX5 : ∀ a, a < 2 → ∀ b, b < 2 → a ≠ b → (TX5 a).2.1 ≠ (TX5 b).2.1 := by decide +kernel
theorem tyX5_ok : ∀ k, k < 2 → parseFieldDescriptor (TX5 k).2.2.1 = some (tyX5 k) := by decide +kernel
abbrev cX5_init : ByteArray := prog_7_method_1_code
def yX5_init : MethodName := ⟨RX5, "<init>", "()V"⟩
abbrev cX5_add : ByteArray := prog_7_method_2_code
def yX5_add : MethodName := ⟨RX5, "add", "(I)Z"⟩
abbrev cX5_copyOf : ByteArray := prog_7_method_3_code
def yX5_copyOf : MethodName := ⟨RX5, "copyOf", "(LSuggestSpell$Row;)V"⟩
abbrev cX5_mirrorOf : ByteArray := prog_7_method_4_code
def yX5_mirrorOf : MethodName := ⟨RX5, "mirrorOf", "(LSuggestSpell$Row;)V"⟩
abbrev cX5_compareWith : ByteArray := prog_7_method_5_code
def yX5_compareWith : MethodName := ⟨RX5, "compareWith", "(LSuggestSpell$Row;)I"⟩
def RX6 : String := "SuggestSpell$Side"
def TX6 : u_T := fun k => match k with
  | 0 => ("SuggestSpell$Side", "numbers", "[I", true)
  | _ => ("SuggestSpell$Side", "costs", "[I", true)
def tyX6 : Nat → FieldType := fun k => match k with
  | 0 => .array .int
  | _ => .array .int
abbrev wsX60 : List Cond := u_ws RX6 TX6 2
theorem nmX6 : ∀ a, a < 2 → ∀ b, b < 2 → a ≠ b → (TX6 a).2.1 ≠ (TX6 b).2.1 := by decide +kernel
theorem tyX6_ok : ∀ k, k < 2 → parseFieldDescriptor (TX6 k).2.2.1 = some (tyX6 k) := by decide +kernel
abbrev cX6_init : ByteArray := prog_8_method_1_code
def yX6_init : MethodName := ⟨RX6, "<init>", "()V"⟩
abbrev cX6_empty : ByteArray := prog_8_method_2_code
def yX6_empty : MethodName := ⟨RX6, "empty", "()V"⟩
abbrev cX6_offer : ByteArray := prog_8_method_3_code
def yX6_offer : MethodName := ⟨RX6, "offer", "(ILSuggestSpell$Table;I)V"⟩
def RX7 : String := "SuggestSpell$Table"
def TX7 : u_T := fun k => match k with
  | 0 => ("SuggestSpell$Table", "prices", "LSuggestSpell$Prices;", true)
  | 1 => ("SuggestSpell$Table", "typed", "LSuggestSpell$Row;", true)
  | 2 => ("SuggestSpell$Table", "word", "LSuggestSpell$Row;", true)
  | 3 => ("SuggestSpell$Table", "least", "[[I", true)
  | 4 => ("SuggestSpell$Table", "kinds", "[I", true)
  | 5 => ("SuggestSpell$Table", "places", "[I", true)
  | _ => ("SuggestSpell$Table", "edits", "I", false)
def tyX7 : Nat → FieldType := fun k => match k with
  | 0 => .object "SuggestSpell$Prices"
  | 1 => .object "SuggestSpell$Row"
  | 2 => .object "SuggestSpell$Row"
  | 3 => .array (.array .int)
  | 4 => .array .int
  | 5 => .array .int
  | _ => .int
abbrev wsX70 : List Cond := u_ws RX7 TX7 7
theorem nmX7 : ∀ a, a < 7 → ∀ b, b < 7 → a ≠ b → (TX7 a).2.1 ≠ (TX7 b).2.1 := by decide +kernel
theorem tyX7_ok : ∀ k, k < 7 → parseFieldDescriptor (TX7 k).2.2.1 = some (tyX7 k) := by decide +kernel
abbrev cX7_init : ByteArray := prog_9_method_1_code
def yX7_init : MethodName := ⟨RX7, "<init>", "(LSuggestSpell$Prices;)V"⟩
abbrev cX7_measure : ByteArray := prog_9_method_2_code
def yX7_measure : MethodName := ⟨RX7, "measure", "(LSuggestSpell$Row;LSuggestSpell$Row;)I"⟩
abbrev cX7_measureMirrored : ByteArray := prog_9_method_3_code
def yX7_measureMirrored : MethodName := ⟨RX7, "measureMirrored", "(LSuggestSpell$Row;LSuggestSpell$Row;)V"⟩
abbrev cX7_priceOfFirst : ByteArray := prog_9_method_4_code
def yX7_priceOfFirst : MethodName := ⟨RX7, "priceOfFirst", "(I)I"⟩
abbrev cX7_leastOfBeginnings : ByteArray := prog_9_method_5_code
def yX7_leastOfBeginnings : MethodName := ⟨RX7, "leastOfBeginnings", "()I"⟩
abbrev cX7_trace : ByteArray := prog_9_method_6_code
def yX7_trace : MethodName := ⟨RX7, "trace", "()V"⟩
abbrev cX7_kindOfEdit : ByteArray := prog_9_method_7_code
def yX7_kindOfEdit : MethodName := ⟨RX7, "kindOfEdit", "(I)I"⟩
abbrev cX7_placeOfEdit : ByteArray := prog_9_method_8_code
def yX7_placeOfEdit : MethodName := ⟨RX7, "placeOfEdit", "(I)I"⟩
abbrev cX7_note : ByteArray := prog_9_method_9_code
def yX7_note : MethodName := ⟨RX7, "note", "(II)V"⟩
abbrev cX7_fill : ByteArray := prog_9_method_10_code
def yX7_fill : MethodName := ⟨RX7, "fill", "()V"⟩
abbrev cX7_cheapest : ByteArray := prog_9_method_11_code
def yX7_cheapest : MethodName := ⟨RX7, "cheapest", "(II)I"⟩
abbrev cX7_byLast : ByteArray := prog_9_method_12_code
def yX7_byLast : MethodName := ⟨RX7, "byLast", "(II)I"⟩
abbrev cX7_mayChange : ByteArray := prog_9_method_13_code
def yX7_mayChange : MethodName := ⟨RX7, "mayChange", "(II)Z"⟩
abbrev cX7_byChange : ByteArray := prog_9_method_14_code
def yX7_byChange : MethodName := ⟨RX7, "byChange", "(II)I"⟩
def RX8 : String := "SuggestSpell$Words"
def TX8 : u_T := fun k => match k with
  | 0 => ("SuggestSpell$Words", "rows", "[LSuggestSpell$Row;", true)
  | 1 => ("SuggestSpell$Words", "counts", "[I", true)
  | 2 => ("SuggestSpell$Words", "inOrder", "[I", true)
  | 3 => ("SuggestSpell$Words", "pairs", "[Z", true)
  | _ => ("SuggestSpell$Words", "size", "I", false)
def tyX8 : Nat → FieldType := fun k => match k with
  | 0 => .array (.object "SuggestSpell$Row")
  | 1 => .array .int
  | 2 => .array .int
  | 3 => .array .boolean
  | _ => .int
abbrev wsX80 : List Cond := u_ws RX8 TX8 5
theorem nmX8 : ∀ a, a < 5 → ∀ b, b < 5 → a ≠ b → (TX8 a).2.1 ≠ (TX8 b).2.1 := by decide +kernel
theorem tyX8_ok : ∀ k, k < 5 → parseFieldDescriptor (TX8 k).2.2.1 = some (tyX8 k) := by decide +kernel
abbrev cX8_init : ByteArray := prog_10_method_1_code
def yX8_init : MethodName := ⟨RX8, "<init>", "()V"⟩
abbrev cX8_has : ByteArray := prog_10_method_2_code
def yX8_has : MethodName := ⟨RX8, "has", "(I)Z"⟩
abbrev cX8_hasRow : ByteArray := prog_10_method_3_code
def yX8_hasRow : MethodName := ⟨RX8, "hasRow", "(LSuggestSpell$Row;)Z"⟩
abbrev cX8_add : ByteArray := prog_10_method_4_code
def yX8_add : MethodName := ⟨RX8, "add", "(LSuggestSpell$Row;I)I"⟩
abbrev cX8_rankOf : ByteArray := prog_10_method_5_code
def yX8_rankOf : MethodName := ⟨RX8, "rankOf", "(I)I"⟩
abbrev cX8_isPair : ByteArray := prog_10_method_6_code
def yX8_isPair : MethodName := ⟨RX8, "isPair", "(II)Z"⟩
abbrev cX8_setPair : ByteArray := prog_10_method_7_code
def yX8_setPair : MethodName := ⟨RX8, "setPair", "(IIZ)Z"⟩
def RX9 : String := "SuggestSpell"
def TX9 : u_T := fun k => match k with
  | 0 => ("SuggestSpell", "typed", "LSuggestSpell$Row;", true)
  | 1 => ("SuggestSpell", "prices", "LSuggestSpell$Prices;", true)
  | 2 => ("SuggestSpell", "words", "LSuggestSpell$Words;", true)
  | 3 => ("SuggestSpell", "tokens", "LSuggestSpell$Line;", true)
  | 4 => ("SuggestSpell", "table", "LSuggestSpell$Table;", true)
  | 5 => ("SuggestSpell", "ranking", "LSuggestSpell$Ranking;", true)
  | 6 => ("SuggestSpell", "best", "LSuggestSpell$Parting;", true)
  | _ => ("SuggestSpell", "choice", "LSuggestSpell$Choice;", true)
def tyX9 : Nat → FieldType := fun k => match k with
  | 0 => .object "SuggestSpell$Row"
  | 1 => .object "SuggestSpell$Prices"
  | 2 => .object "SuggestSpell$Words"
  | 3 => .object "SuggestSpell$Line"
  | 4 => .object "SuggestSpell$Table"
  | 5 => .object "SuggestSpell$Ranking"
  | 6 => .object "SuggestSpell$Parting"
  | _ => .object "SuggestSpell$Choice"
abbrev wsX90 : List Cond := u_ws RX9 TX9 8
theorem nmX9 : ∀ a, a < 8 → ∀ b, b < 8 → a ≠ b → (TX9 a).2.1 ≠ (TX9 b).2.1 := by decide +kernel
theorem tyX9_ok : ∀ k, k < 8 → parseFieldDescriptor (TX9 k).2.2.1 = some (tyX9 k) := by decide +kernel
abbrev cX9_init : ByteArray := prog_1_method_1_code
def yX9_init : MethodName := ⟨RX9, "<init>", "()V"⟩
abbrev cX9_letter : ByteArray := prog_1_method_2_code
def yX9_letter : MethodName := ⟨RX9, "letter", "(I)I"⟩
abbrev cX9_clear : ByteArray := prog_1_method_3_code
def yX9_clear : MethodName := ⟨RX9, "clear", "()I"⟩
abbrev cX9_word : ByteArray := prog_1_method_4_code
def yX9_word : MethodName := ⟨RX9, "word", "(I)I"⟩
abbrev cX9_count : ByteArray := prog_1_method_5_code
def yX9_count : MethodName := ⟨RX9, "count", "(II)I"⟩
abbrev cX9_at : ByteArray := prog_1_method_6_code
def yX9_at : MethodName := ⟨RX9, "at", "(II)I"⟩
abbrev cX9_price : ByteArray := prog_1_method_7_code
def yX9_price : MethodName := ⟨RX9, "price", "(II)I"⟩
abbrev cX9_near : ByteArray := prog_1_method_8_code
def yX9_near : MethodName := ⟨RX9, "near", "(III)I"⟩
abbrev cX9_distance : ByteArray := prog_1_method_9_code
def yX9_distance : MethodName := ⟨RX9, "distance", "(I)I"⟩
abbrev cX9_begins : ByteArray := prog_1_method_10_code
def yX9_begins : MethodName := ⟨RX9, "begins", "(I)I"⟩
abbrev cX9_edit : ByteArray := prog_1_method_11_code
def yX9_edit : MethodName := ⟨RX9, "edit", "(II)I"⟩
abbrev cX9_place : ByteArray := prog_1_method_12_code
def yX9_place : MethodName := ⟨RX9, "place", "(II)I"⟩
abbrev cX9_suggest : ByteArray := prog_1_method_13_code
def yX9_suggest : MethodName := ⟨RX9, "suggest", "(I)I"⟩
abbrev cX9_suggestion : ByteArray := prog_1_method_14_code
def yX9_suggestion : MethodName := ⟨RX9, "suggestion", "(II)I"⟩
abbrev cX9_endings : ByteArray := prog_1_method_15_code
def yX9_endings : MethodName := ⟨RX9, "endings", "(I)I"⟩
abbrev cX9_ending : ByteArray := prog_1_method_16_code
def yX9_ending : MethodName := ⟨RX9, "ending", "(II)I"⟩
abbrev cX9_parting : ByteArray := prog_1_method_17_code
def yX9_parting : MethodName := ⟨RX9, "parting", "(I)I"⟩
abbrev cX9_token : ByteArray := prog_1_method_18_code
def yX9_token : MethodName := ⟨RX9, "token", "()I"⟩
abbrev cX9_line : ByteArray := prog_1_method_19_code
def yX9_line : MethodName := ⟨RX9, "line", "()I"⟩
abbrev cX9_pair : ByteArray := prog_1_method_20_code
def yX9_pair : MethodName := ⟨RX9, "pair", "(IIZ)I"⟩
abbrev cX9_chosen : ByteArray := prog_1_method_21_code
def yX9_chosen : MethodName := ⟨RX9, "chosen", "(II)I"⟩
abbrev cX9_share : ByteArray := prog_1_method_22_code
def yX9_share : MethodName := ⟨RX9, "share", "(I)I"⟩
abbrev cX9_isLetter : ByteArray := prog_1_method_23_code
def yX9_isLetter : MethodName := ⟨RX9, "isLetter", "(I)Z"⟩
abbrev cX9_isCount : ByteArray := prog_1_method_24_code
def yX9_isCount : MethodName := ⟨RX9, "isCount", "(I)Z"⟩
abbrev cX9_isLimit : ByteArray := prog_1_method_25_code
def yX9_isLimit : MethodName := ⟨RX9, "isLimit", "(I)Z"⟩
abbrev cX9_priceOfWord : ByteArray := prog_1_method_26_code
def yX9_priceOfWord : MethodName := ⟨RX9, "priceOfWord", "(I)I"⟩
abbrev cX9_priceOfBeginning : ByteArray := prog_1_method_27_code
def yX9_priceOfBeginning : MethodName := ⟨RX9, "priceOfBeginning", "(I)I"⟩
abbrev cX9_findEdits : ByteArray := prog_1_method_28_code
def yX9_findEdits : MethodName := ⟨RX9, "findEdits", "(I)V"⟩
abbrev cX9_howMany : ByteArray := prog_1_method_29_code
def yX9_howMany : MethodName := ⟨RX9, "howMany", "(IZ)I"⟩
abbrev cX9_rankedWord : ByteArray := prog_1_method_30_code
def yX9_rankedWord : MethodName := ⟨RX9, "rankedWord", "(IIZ)I"⟩
abbrev cX9_rankWords : ByteArray := prog_1_method_31_code
def yX9_rankWords : MethodName := ⟨RX9, "rankWords", "(IZ)V"⟩
def RX10 : String := "SuggestSpellModel"
def TX10 : u_T := fun k => match k with
  | 0 => ("SuggestSpellModel", "thrown", "I", false)
  | 1 => ("SuggestSpellModel", "typed", "I", false)
  | 2 => ("SuggestSpellModel", "letters", "[I", true)
  | 3 => ("SuggestSpellModel", "words", "I", false)
  | 4 => ("SuggestSpellModel", "sizes", "[I", true)
  | 5 => ("SuggestSpellModel", "text", "[I", true)
  | 6 => ("SuggestSpellModel", "counts", "[I", true)
  | 7 => ("SuggestSpellModel", "prices", "[I", true)
  | 8 => ("SuggestSpellModel", "own", "[I", true)
  | 9 => ("SuggestSpellModel", "tokens", "I", false)
  | 10 => ("SuggestSpellModel", "tokenSize", "[I", true)
  | 11 => ("SuggestSpellModel", "tokenText", "[I", true)
  | 12 => ("SuggestSpellModel", "pairs", "[Z", true)
  | 13 => ("SuggestSpellModel", "table", "[I", true)
  | 14 => ("SuggestSpellModel", "row", "[I", true)
  | 15 => ("SuggestSpellModel", "rowSize", "I", false)
  | 16 => ("SuggestSpellModel", "edits", "I", false)
  | 17 => ("SuggestSpellModel", "kind", "[I", true)
  | 18 => ("SuggestSpellModel", "where", "[I", true)
  | 19 => ("SuggestSpellModel", "many", "I", false)
  | 20 => ("SuggestSpellModel", "found", "[I", true)
  | 21 => ("SuggestSpellModel", "far", "[I", true)
  | 22 => ("SuggestSpellModel", "sideWord", "I", false)
  | 23 => ("SuggestSpellModel", "cost", "[I", true)
  | _ => ("SuggestSpellModel", "rest", "[I", true)
def tyX10 : Nat → FieldType := fun k => match k with
  | 0 => .int
  | 1 => .int
  | 2 => .array .int
  | 3 => .int
  | 4 => .array .int
  | 5 => .array .int
  | 6 => .array .int
  | 7 => .array .int
  | 8 => .array .int
  | 9 => .int
  | 10 => .array .int
  | 11 => .array .int
  | 12 => .array .boolean
  | 13 => .array .int
  | 14 => .array .int
  | 15 => .int
  | 16 => .int
  | 17 => .array .int
  | 18 => .array .int
  | 19 => .int
  | 20 => .array .int
  | 21 => .array .int
  | 22 => .int
  | 23 => .array .int
  | _ => .array .int
abbrev wsX100 : List Cond := u_ws RX10 TX10 25
theorem nmX10 : ∀ a, a < 25 → ∀ b, b < 25 → a ≠ b → (TX10 a).2.1 ≠ (TX10 b).2.1 := by decide +kernel
theorem tyX10_ok : ∀ k, k < 25 → parseFieldDescriptor (TX10 k).2.2.1 = some (tyX10 k) := by decide +kernel
abbrev cX10_init : ByteArray := prog_12_method_1_code
def yX10_init : MethodName := ⟨RX10, "<init>", "()V"⟩
abbrev cX10_thrown : ByteArray := prog_12_method_2_code
def yX10_thrown : MethodName := ⟨RX10, "thrown", "()I"⟩
abbrev cX10_in : ByteArray := prog_12_method_3_code
def yX10_in : MethodName := ⟨RX10, "in", "(III)Z"⟩
abbrev cX10_isWord : ByteArray := prog_12_method_4_code
def yX10_isWord : MethodName := ⟨RX10, "isWord", "(I)Z"⟩
abbrev cX10_letter : ByteArray := prog_12_method_5_code
def yX10_letter : MethodName := ⟨RX10, "letter", "(I)I"⟩
abbrev cX10_clear : ByteArray := prog_12_method_6_code
def yX10_clear : MethodName := ⟨RX10, "clear", "()I"⟩
abbrev cX10_word : ByteArray := prog_12_method_7_code
def yX10_word : MethodName := ⟨RX10, "word", "(I)I"⟩
abbrev cX10_count : ByteArray := prog_12_method_8_code
def yX10_count : MethodName := ⟨RX10, "count", "(II)I"⟩
abbrev cX10_isAhead : ByteArray := prog_12_method_9_code
def yX10_isAhead : MethodName := ⟨RX10, "isAhead", "(II)Z"⟩
abbrev cX10_rank : ByteArray := prog_12_method_10_code
def yX10_rank : MethodName := ⟨RX10, "rank", "(I)I"⟩
abbrev cX10_at : ByteArray := prog_12_method_11_code
def yX10_at : MethodName := ⟨RX10, "at", "(II)I"⟩
abbrev cX10_price : ByteArray := prog_12_method_12_code
def yX10_price : MethodName := ⟨RX10, "price", "(II)I"⟩
abbrev cX10_near : ByteArray := prog_12_method_13_code
def yX10_near : MethodName := ⟨RX10, "near", "(III)I"⟩
abbrev cX10_takeTyped : ByteArray := prog_12_method_14_code
def yX10_takeTyped : MethodName := ⟨RX10, "takeTyped", "(II)V"⟩
abbrev cX10_becomes : ByteArray := prog_12_method_15_code
def yX10_becomes : MethodName := ⟨RX10, "becomes", "(II)I"⟩
abbrev cX10_isTurned : ByteArray := prog_12_method_16_code
def yX10_isTurned : MethodName := ⟨RX10, "isTurned", "(III)Z"⟩
abbrev cX10_fill : ByteArray := prog_12_method_17_code
def yX10_fill : MethodName := ⟨RX10, "fill", "(I)I"⟩
abbrev cX10_beginsBy : ByteArray := prog_12_method_18_code
def yX10_beginsBy : MethodName := ⟨RX10, "beginsBy", "(I)I"⟩
abbrev cX10_distance : ByteArray := prog_12_method_19_code
def yX10_distance : MethodName := ⟨RX10, "distance", "(I)I"⟩
abbrev cX10_begins : ByteArray := prog_12_method_20_code
def yX10_begins : MethodName := ⟨RX10, "begins", "(I)I"⟩
abbrev cX10_note : ByteArray := prog_12_method_21_code
def yX10_note : MethodName := ⟨RX10, "note", "(II)V"⟩
abbrev cX10_find : ByteArray := prog_12_method_22_code
def yX10_find : MethodName := ⟨RX10, "find", "(I)V"⟩
abbrev cX10_edit : ByteArray := prog_12_method_23_code
def yX10_edit : MethodName := ⟨RX10, "edit", "(II)I"⟩
abbrev cX10_place : ByteArray := prog_12_method_24_code
def yX10_place : MethodName := ⟨RX10, "place", "(II)I"⟩
abbrev cX10_look : ByteArray := prog_12_method_25_code
def yX10_look : MethodName := ⟨RX10, "look", "(IZ)V"⟩
abbrev cX10_isBefore : ByteArray := prog_12_method_26_code
def yX10_isBefore : MethodName := ⟨RX10, "isBefore", "(IIII)Z"⟩
abbrev cX10_suggest : ByteArray := prog_12_method_27_code
def yX10_suggest : MethodName := ⟨RX10, "suggest", "(I)I"⟩
abbrev cX10_suggestion : ByteArray := prog_12_method_28_code
def yX10_suggestion : MethodName := ⟨RX10, "suggestion", "(II)I"⟩
abbrev cX10_endings : ByteArray := prog_12_method_29_code
def yX10_endings : MethodName := ⟨RX10, "endings", "(I)I"⟩
abbrev cX10_ending : ByteArray := prog_12_method_30_code
def yX10_ending : MethodName := ⟨RX10, "ending", "(II)I"⟩
abbrev cX10_side : ByteArray := prog_12_method_31_code
def yX10_side : MethodName := ⟨RX10, "side", "(II)I"⟩
abbrev cX10_parting : ByteArray := prog_12_method_32_code
def yX10_parting : MethodName := ⟨RX10, "parting", "(I)I"⟩
abbrev cX10_token : ByteArray := prog_12_method_33_code
def yX10_token : MethodName := ⟨RX10, "token", "()I"⟩
abbrev cX10_line : ByteArray := prog_12_method_34_code
def yX10_line : MethodName := ⟨RX10, "line", "()I"⟩
abbrev cX10_pair : ByteArray := prog_12_method_35_code
def yX10_pair : MethodName := ⟨RX10, "pair", "(IIZ)I"⟩
abbrev cX10_nextTo : ByteArray := prog_12_method_36_code
def yX10_nextTo : MethodName := ⟨RX10, "nextTo", "(II)I"⟩
abbrev cX10_chosen : ByteArray := prog_12_method_37_code
def yX10_chosen : MethodName := ⟨RX10, "chosen", "(II)I"⟩
abbrev cX10_share : ByteArray := prog_12_method_38_code
def yX10_share : MethodName := ⟨RX10, "share", "(I)I"⟩
def RJ9 : String := "java/lang/Math"
def TJ9 : u_T := fun k => match k with
  | _ => ("", "", "", false)
def tyJ9 : Nat → FieldType := fun k => match k with
  | _ => .int
abbrev wsJ90 : List Cond := u_ws RJ9 TJ9 0
theorem nmJ9 : ∀ a, a < 0 → ∀ b, b < 0 → a ≠ b → (TJ9 a).2.1 ≠ (TJ9 b).2.1 := by decide +kernel
theorem tyJ9_ok : ∀ k, k < 0 → parseFieldDescriptor (TJ9 k).2.2.1 = some (tyJ9 k) := by decide +kernel
abbrev cJ9_min_7cf53 : ByteArray := prog_15_method_69_code
def yJ9_min_7cf53 : MethodName := ⟨RJ9, "min", "(II)I"⟩
def RJ0 : String := "java/lang/String"
def TJ0 : u_T := fun k => match k with
  | _ => ("", "", "", false)
def tyJ0 : Nat → FieldType := fun k => match k with
  | _ => .int
abbrev wsJ00 : List Cond := u_ws RJ0 TJ0 0
theorem nmJ0 : ∀ a, a < 0 → ∀ b, b < 0 → a ≠ b → (TJ0 a).2.1 ≠ (TJ0 b).2.1 := by decide +kernel
theorem tyJ0_ok : ∀ k, k < 0 → parseFieldDescriptor (TJ0 k).2.2.1 = some (tyJ0 k) := by decide +kernel
def RJ7 : String := "java/util/Arrays"
def TJ7 : u_T := fun k => match k with
  | _ => ("", "", "", false)
def tyJ7 : Nat → FieldType := fun k => match k with
  | _ => .int
abbrev wsJ70 : List Cond := u_ws RJ7 TJ7 0
theorem nmJ7 : ∀ a, a < 0 → ∀ b, b < 0 → a ≠ b → (TJ7 a).2.1 ≠ (TJ7 b).2.1 := by decide +kernel
theorem tyJ7_ok : ∀ k, k < 0 → parseFieldDescriptor (TJ7 k).2.2.1 = some (tyJ7 k) := by decide +kernel
abbrev cJ7_fill_53178 : ByteArray := prog_19_method_103_code
def yJ7_fill_53178 : MethodName := ⟨RJ7, "fill", "([II)V"⟩
def RL : String := "SuggestSpellLaw"
abbrev cL_share : ByteArray := method_3_code
def yL_share : MethodName := ⟨RL, "share", "(LSuggestSpell;I[J)I"⟩
abbrev cL_law : ByteArray := code
def yL_law : MethodName := ⟨RL, "law", "([I)Z"⟩
abbrev vwCl : List vw_C := [(RX0, TX0, 4), (RX1, TX1, 2), (RX2, TX2, 6), (RX3, TX3, 2), (RX4, TX4, 4), (RX5, TX5, 2), (RX6, TX6, 2), (RX7, TX7, 7), (RX8, TX8, 5), (RX9, TX9, 8), (RX10, TX10, 25)]
end
section
theorem dX0_init_0 : decode cX0_init 0 = .ok (.aload_n 0, 1) := by decide +kernel
theorem dX0_init_1 : decode cX0_init 1 = .ok (.invokespecial 3, 3) := by decide +kernel
theorem dX0_init_4 : decode cX0_init 4 = .ok (.aload_n 0, 1) := by decide +kernel
theorem dX0_init_5 : decode cX0_init 5 = .ok (.bipush 6, 2) := by decide +kernel
theorem dX0_init_7 : decode cX0_init 7 = .ok (.bipush 60, 2) := by decide +kernel
theorem dX0_init_9 : decode cX0_init 9 = .ok (.multianewarray 9 2, 4) := by decide +kernel
theorem dX0_init_13 : decode cX0_init 13 = .ok (.putfield 11, 3) := by decide +kernel
theorem dX0_init_16 : decode cX0_init 16 = .ok (.aload_n 0, 1) := by decide +kernel
theorem dX0_init_17 : decode cX0_init 17 = .ok (.bipush 6, 2) := by decide +kernel
theorem dX0_init_19 : decode cX0_init 19 = .ok (.bipush 60, 2) := by decide +kernel
theorem dX0_init_21 : decode cX0_init 21 = .ok (.multianewarray 9 2, 4) := by decide +kernel
theorem dX0_init_25 : decode cX0_init 25 = .ok (.putfield 16, 3) := by decide +kernel
theorem dX0_init_28 : decode cX0_init 28 = .ok (.aload_n 0, 1) := by decide +kernel
theorem dX0_init_29 : decode cX0_init 29 = .ok (.bipush 6, 2) := by decide +kernel
theorem dX0_init_31 : decode cX0_init 31 = .ok (.bipush 60, 2) := by decide +kernel
theorem dX0_init_33 : decode cX0_init 33 = .ok (.multianewarray 9 2, 4) := by decide +kernel
theorem dX0_init_37 : decode cX0_init 37 = .ok (.putfield 19, 3) := by decide +kernel
theorem dX0_init_40 : decode cX0_init 40 = .ok (.aload_n 0, 1) := by decide +kernel
theorem dX0_init_41 : decode cX0_init 41 = .ok (.bipush 6, 2) := by decide +kernel
theorem dX0_init_43 : decode cX0_init 43 = .ok (.newarray .int, 2) := by decide +kernel
theorem dX0_init_45 : decode cX0_init 45 = .ok (.putfield 22, 3) := by decide +kernel
theorem dX0_init_48 : decode cX0_init 48 = .ok (.return_, 1) := by decide +kernel
theorem dX0_measure_0 : decode cX0_measure 0 = .ok (.iconst 0, 1) := by decide +kernel
theorem dX0_measure_1 : decode cX0_measure 1 = .ok (.istore 5, 2) := by decide +kernel
theorem dX0_measure_3 : decode cX0_measure 3 = .ok (.iload 5, 2) := by decide +kernel
theorem dX0_measure_5 : decode cX0_measure 5 = .ok (.aload_n 1, 1) := by decide +kernel
theorem dX0_measure_6 : decode cX0_measure 6 = .ok (.getfield 26, 3) := by decide +kernel
theorem dX0_measure_9 : decode cX0_measure 9 = .ok (.if_icmp .ge 76, 3) := by decide +kernel
theorem dX0_measure_12 : decode cX0_measure 12 = .ok (.iconst 0, 1) := by decide +kernel
theorem dX0_measure_13 : decode cX0_measure 13 = .ok (.istore 6, 2) := by decide +kernel
theorem dX0_measure_15 : decode cX0_measure 15 = .ok (.iload 6, 2) := by decide +kernel
theorem dX0_measure_17 : decode cX0_measure 17 = .ok (.aload_n 2, 1) := by decide +kernel
theorem dX0_measure_18 : decode cX0_measure 18 = .ok (.getfield 32, 3) := by decide +kernel
theorem dX0_measure_21 : decode cX0_measure 21 = .ok (.if_icmp .ge 58, 3) := by decide +kernel
theorem dX0_measure_24 : decode cX0_measure 24 = .ok (.aload_n 3, 1) := by decide +kernel
theorem dX0_measure_25 : decode cX0_measure 25 = .ok (.aload_n 1, 1) := by decide +kernel
theorem dX0_measure_26 : decode cX0_measure 26 = .ok (.getfield 35, 3) := by decide +kernel
theorem dX0_measure_29 : decode cX0_measure 29 = .ok (.iload 5, 2) := by decide +kernel
theorem dX0_measure_31 : decode cX0_measure 31 = .ok (.aaload, 1) := by decide +kernel
theorem dX0_measure_32 : decode cX0_measure 32 = .ok (.aload_n 2, 1) := by decide +kernel
theorem dX0_measure_33 : decode cX0_measure 33 = .ok (.getfield 39, 3) := by decide +kernel
theorem dX0_measure_36 : decode cX0_measure 36 = .ok (.aload_n 2, 1) := by decide +kernel
theorem dX0_measure_37 : decode cX0_measure 37 = .ok (.getfield 40, 3) := by decide +kernel
theorem dX0_measure_40 : decode cX0_measure 40 = .ok (.iload 6, 2) := by decide +kernel
theorem dX0_measure_42 : decode cX0_measure 42 = .ok (.iaload, 1) := by decide +kernel
theorem dX0_measure_43 : decode cX0_measure 43 = .ok (.aaload, 1) := by decide +kernel
theorem dX0_measure_44 : decode cX0_measure 44 = .ok (.invokevirtual 43, 3) := by decide +kernel
theorem dX0_measure_47 : decode cX0_measure 47 = .ok (.istore 7, 2) := by decide +kernel
theorem dX0_measure_49 : decode cX0_measure 49 = .ok (.aload_n 0, 1) := by decide +kernel
theorem dX0_measure_50 : decode cX0_measure 50 = .ok (.getfield 11, 3) := by decide +kernel
theorem dX0_measure_53 : decode cX0_measure 53 = .ok (.iload 5, 2) := by decide +kernel
theorem dX0_measure_55 : decode cX0_measure 55 = .ok (.aaload, 1) := by decide +kernel
theorem dX0_measure_56 : decode cX0_measure 56 = .ok (.iload 6, 2) := by decide +kernel
theorem dX0_measure_58 : decode cX0_measure 58 = .ok (.iload 7, 2) := by decide +kernel
theorem dX0_measure_60 : decode cX0_measure 60 = .ok (.iload 4, 2) := by decide +kernel
theorem dX0_measure_62 : decode cX0_measure 62 = .ok (.if_icmp .gt 8, 3) := by decide +kernel
theorem dX0_measure_65 : decode cX0_measure 65 = .ok (.iload 7, 2) := by decide +kernel
theorem dX0_measure_67 : decode cX0_measure 67 = .ok (.goto 5, 3) := by decide +kernel
theorem dX0_measure_70 : decode cX0_measure 70 = .ok (.ldc 49, 2) := by decide +kernel
theorem dX0_measure_72 : decode cX0_measure 72 = .ok (.iastore, 1) := by decide +kernel
theorem dX0_measure_73 : decode cX0_measure 73 = .ok (.iinc 6 1, 3) := by decide +kernel
theorem dX0_measure_76 : decode cX0_measure 76 = .ok (.goto (-61), 3) := by decide +kernel
theorem dX0_measure_79 : decode cX0_measure 79 = .ok (.iinc 5 1, 3) := by decide +kernel
theorem dX0_measure_82 : decode cX0_measure 82 = .ok (.goto (-79), 3) := by decide +kernel
theorem dX0_measure_85 : decode cX0_measure 85 = .ok (.return_, 1) := by decide +kernel
theorem dX0_choose_0 : decode cX0_choose 0 = .ok (.iload_n 1, 1) := by decide +kernel
theorem dX0_choose_1 : decode cX0_choose 1 = .ok (.iconst 1, 1) := by decide +kernel
theorem dX0_choose_2 : decode cX0_choose 2 = .ok (.if_icmp .lt 11, 3) := by decide +kernel
theorem dX0_choose_5 : decode cX0_choose 5 = .ok (.aload_n 2, 1) := by decide +kernel
theorem dX0_choose_6 : decode cX0_choose 6 = .ok (.getfield 32, 3) := by decide +kernel
theorem dX0_choose_9 : decode cX0_choose 9 = .ok (.iconst 1, 1) := by decide +kernel
theorem dX0_choose_10 : decode cX0_choose 10 = .ok (.if_icmp .ge 6, 3) := by decide +kernel
theorem dX0_choose_13 : decode cX0_choose 13 = .ok (.ldc 49, 2) := by decide +kernel
theorem dX0_choose_15 : decode cX0_choose 15 = .ok (.ireturn, 1) := by decide +kernel
theorem dX0_choose_16 : decode cX0_choose 16 = .ok (.iload_n 1, 1) := by decide +kernel
theorem dX0_choose_17 : decode cX0_choose 17 = .ok (.iconst 1, 1) := by decide +kernel
theorem dX0_choose_18 : decode cX0_choose 18 = .ok (.isub, 1) := by decide +kernel
theorem dX0_choose_19 : decode cX0_choose 19 = .ok (.istore 4, 2) := by decide +kernel
theorem dX0_choose_21 : decode cX0_choose 21 = .ok (.iload 4, 2) := by decide +kernel
theorem dX0_choose_23 : decode cX0_choose 23 = .ok (.ifCond .lt 80, 3) := by decide +kernel
theorem dX0_choose_26 : decode cX0_choose 26 = .ok (.iconst 0, 1) := by decide +kernel
theorem dX0_choose_27 : decode cX0_choose 27 = .ok (.istore 5, 2) := by decide +kernel
theorem dX0_choose_29 : decode cX0_choose 29 = .ok (.iload 5, 2) := by decide +kernel
theorem dX0_choose_31 : decode cX0_choose 31 = .ok (.aload_n 2, 1) := by decide +kernel
theorem dX0_choose_32 : decode cX0_choose 32 = .ok (.getfield 32, 3) := by decide +kernel
theorem dX0_choose_35 : decode cX0_choose 35 = .ok (.if_icmp .ge 62, 3) := by decide +kernel
theorem dX0_choose_38 : decode cX0_choose 38 = .ok (.aload_n 0, 1) := by decide +kernel
theorem dX0_choose_39 : decode cX0_choose 39 = .ok (.getfield 16, 3) := by decide +kernel
theorem dX0_choose_42 : decode cX0_choose 42 = .ok (.iload 4, 2) := by decide +kernel
theorem dX0_choose_44 : decode cX0_choose 44 = .ok (.aaload, 1) := by decide +kernel
theorem dX0_choose_45 : decode cX0_choose 45 = .ok (.iload 5, 2) := by decide +kernel
theorem dX0_choose_47 : decode cX0_choose 47 = .ok (.aload_n 0, 1) := by decide +kernel
theorem dX0_choose_48 : decode cX0_choose 48 = .ok (.getfield 11, 3) := by decide +kernel
theorem dX0_choose_51 : decode cX0_choose 51 = .ok (.iload 4, 2) := by decide +kernel
theorem dX0_choose_53 : decode cX0_choose 53 = .ok (.aaload, 1) := by decide +kernel
theorem dX0_choose_54 : decode cX0_choose 54 = .ok (.iload 5, 2) := by decide +kernel
theorem dX0_choose_56 : decode cX0_choose 56 = .ok (.iaload, 1) := by decide +kernel
theorem dX0_choose_57 : decode cX0_choose 57 = .ok (.iastore, 1) := by decide +kernel
theorem dX0_choose_58 : decode cX0_choose 58 = .ok (.aload_n 0, 1) := by decide +kernel
theorem dX0_choose_59 : decode cX0_choose 59 = .ok (.getfield 16, 3) := by decide +kernel
theorem dX0_choose_62 : decode cX0_choose 62 = .ok (.iload 4, 2) := by decide +kernel
theorem dX0_choose_64 : decode cX0_choose 64 = .ok (.aaload, 1) := by decide +kernel
theorem dX0_choose_65 : decode cX0_choose 65 = .ok (.iload 5, 2) := by decide +kernel
theorem dX0_choose_67 : decode cX0_choose 67 = .ok (.iaload, 1) := by decide +kernel
theorem dX0_choose_68 : decode cX0_choose 68 = .ok (.ldc 49, 2) := by decide +kernel
theorem dX0_choose_70 : decode cX0_choose 70 = .ok (.if_icmp .ge 21, 3) := by decide +kernel
theorem dX0_choose_73 : decode cX0_choose 73 = .ok (.iload 4, 2) := by decide +kernel
theorem dX0_choose_75 : decode cX0_choose 75 = .ok (.iconst 1, 1) := by decide +kernel
theorem dX0_choose_76 : decode cX0_choose 76 = .ok (.iadd, 1) := by decide +kernel
theorem dX0_choose_77 : decode cX0_choose 77 = .ok (.iload_n 1, 1) := by decide +kernel
theorem dX0_choose_78 : decode cX0_choose 78 = .ok (.if_icmp .ge 13, 3) := by decide +kernel
theorem dX0_choose_81 : decode cX0_choose 81 = .ok (.aload_n 0, 1) := by decide +kernel
theorem dX0_choose_82 : decode cX0_choose 82 = .ok (.iload 4, 2) := by decide +kernel
theorem dX0_choose_84 : decode cX0_choose 84 = .ok (.iload 5, 2) := by decide +kernel
theorem dX0_choose_86 : decode cX0_choose 86 = .ok (.aload_n 2, 1) := by decide +kernel
theorem dX0_choose_87 : decode cX0_choose 87 = .ok (.iload_n 3, 1) := by decide +kernel
theorem dX0_choose_88 : decode cX0_choose 88 = .ok (.invokevirtual 50, 3) := by decide +kernel
theorem dX0_choose_91 : decode cX0_choose 91 = .ok (.iinc 5 1, 3) := by decide +kernel
theorem dX0_choose_94 : decode cX0_choose 94 = .ok (.goto (-65), 3) := by decide +kernel
theorem dX0_choose_97 : decode cX0_choose 97 = .ok (.iinc 4 (-1), 3) := by decide +kernel
theorem dX0_choose_100 : decode cX0_choose 100 = .ok (.goto (-79), 3) := by decide +kernel
theorem dX0_choose_103 : decode cX0_choose 103 = .ok (.aload_n 0, 1) := by decide +kernel
theorem dX0_choose_104 : decode cX0_choose 104 = .ok (.aload_n 2, 1) := by decide +kernel
theorem dX0_choose_105 : decode cX0_choose 105 = .ok (.getfield 32, 3) := by decide +kernel
theorem dX0_choose_108 : decode cX0_choose 108 = .ok (.invokevirtual 54, 3) := by decide +kernel
theorem dX0_choose_111 : decode cX0_choose 111 = .ok (.istore 4, 2) := by decide +kernel
theorem dX0_choose_113 : decode cX0_choose 113 = .ok (.aload_n 0, 1) := by decide +kernel
theorem dX0_choose_114 : decode cX0_choose 114 = .ok (.getfield 16, 3) := by decide +kernel
theorem dX0_choose_117 : decode cX0_choose 117 = .ok (.iconst 0, 1) := by decide +kernel
theorem dX0_choose_118 : decode cX0_choose 118 = .ok (.aaload, 1) := by decide +kernel
theorem dX0_choose_119 : decode cX0_choose 119 = .ok (.iload 4, 2) := by decide +kernel
theorem dX0_choose_121 : decode cX0_choose 121 = .ok (.iaload, 1) := by decide +kernel
theorem dX0_choose_122 : decode cX0_choose 122 = .ok (.ldc 49, 2) := by decide +kernel
theorem dX0_choose_124 : decode cX0_choose 124 = .ok (.if_icmp .ge 11, 3) := by decide +kernel
theorem dX0_choose_127 : decode cX0_choose 127 = .ok (.aload_n 0, 1) := by decide +kernel
theorem dX0_choose_128 : decode cX0_choose 128 = .ok (.iload 4, 2) := by decide +kernel
theorem dX0_choose_130 : decode cX0_choose 130 = .ok (.iload_n 1, 1) := by decide +kernel
theorem dX0_choose_131 : decode cX0_choose 131 = .ok (.aload_n 2, 1) := by decide +kernel
theorem dX0_choose_132 : decode cX0_choose 132 = .ok (.invokevirtual 58, 3) := by decide +kernel
theorem dX0_choose_135 : decode cX0_choose 135 = .ok (.aload_n 0, 1) := by decide +kernel
theorem dX0_choose_136 : decode cX0_choose 136 = .ok (.getfield 16, 3) := by decide +kernel
theorem dX0_choose_139 : decode cX0_choose 139 = .ok (.iconst 0, 1) := by decide +kernel
theorem dX0_choose_140 : decode cX0_choose 140 = .ok (.aaload, 1) := by decide +kernel
theorem dX0_choose_141 : decode cX0_choose 141 = .ok (.iload 4, 2) := by decide +kernel
theorem dX0_choose_143 : decode cX0_choose 143 = .ok (.iaload, 1) := by decide +kernel
theorem dX0_choose_144 : decode cX0_choose 144 = .ok (.ireturn, 1) := by decide +kernel
theorem dX0_goOn_0 : decode cX0_goOn 0 = .ok (.ldc 64, 2) := by decide +kernel
theorem dX0_goOn_2 : decode cX0_goOn 2 = .ok (.istore 5, 2) := by decide +kernel
theorem dX0_goOn_4 : decode cX0_goOn 4 = .ok (.iconst 0, 1) := by decide +kernel
theorem dX0_goOn_5 : decode cX0_goOn 5 = .ok (.istore 6, 2) := by decide +kernel
theorem dX0_goOn_7 : decode cX0_goOn 7 = .ok (.iload 6, 2) := by decide +kernel
theorem dX0_goOn_9 : decode cX0_goOn 9 = .ok (.aload_n 3, 1) := by decide +kernel
theorem dX0_goOn_10 : decode cX0_goOn 10 = .ok (.getfield 32, 3) := by decide +kernel
theorem dX0_goOn_13 : decode cX0_goOn 13 = .ok (.if_icmp .ge 74, 3) := by decide +kernel
theorem dX0_goOn_16 : decode cX0_goOn 16 = .ok (.aload_n 3, 1) := by decide +kernel
theorem dX0_goOn_17 : decode cX0_goOn 17 = .ok (.aload_n 3, 1) := by decide +kernel
theorem dX0_goOn_18 : decode cX0_goOn 18 = .ok (.getfield 40, 3) := by decide +kernel
theorem dX0_goOn_21 : decode cX0_goOn 21 = .ok (.iload_n 2, 1) := by decide +kernel
theorem dX0_goOn_22 : decode cX0_goOn 22 = .ok (.iaload, 1) := by decide +kernel
theorem dX0_goOn_23 : decode cX0_goOn 23 = .ok (.aload_n 3, 1) := by decide +kernel
theorem dX0_goOn_24 : decode cX0_goOn 24 = .ok (.getfield 40, 3) := by decide +kernel
theorem dX0_goOn_27 : decode cX0_goOn 27 = .ok (.iload 6, 2) := by decide +kernel
theorem dX0_goOn_29 : decode cX0_goOn 29 = .ok (.iaload, 1) := by decide +kernel
theorem dX0_goOn_30 : decode cX0_goOn 30 = .ok (.invokevirtual 65, 3) := by decide +kernel
theorem dX0_goOn_33 : decode cX0_goOn 33 = .ok (.istore 7, 2) := by decide +kernel
theorem dX0_goOn_35 : decode cX0_goOn 35 = .ok (.aload_n 0, 1) := by decide +kernel
theorem dX0_goOn_36 : decode cX0_goOn 36 = .ok (.getfield 16, 3) := by decide +kernel
theorem dX0_goOn_39 : decode cX0_goOn 39 = .ok (.iload_n 1, 1) := by decide +kernel
theorem dX0_goOn_40 : decode cX0_goOn 40 = .ok (.iconst 1, 1) := by decide +kernel
theorem dX0_goOn_41 : decode cX0_goOn 41 = .ok (.iadd, 1) := by decide +kernel
theorem dX0_goOn_42 : decode cX0_goOn 42 = .ok (.aaload, 1) := by decide +kernel
theorem dX0_goOn_43 : decode cX0_goOn 43 = .ok (.iload 6, 2) := by decide +kernel
theorem dX0_goOn_45 : decode cX0_goOn 45 = .ok (.iaload, 1) := by decide +kernel
theorem dX0_goOn_46 : decode cX0_goOn 46 = .ok (.iload 7, 2) := by decide +kernel
theorem dX0_goOn_48 : decode cX0_goOn 48 = .ok (.ifCond .eq 7, 3) := by decide +kernel
theorem dX0_goOn_51 : decode cX0_goOn 51 = .ok (.iconst 0, 1) := by decide +kernel
theorem dX0_goOn_52 : decode cX0_goOn 52 = .ok (.goto 5, 3) := by decide +kernel
theorem dX0_goOn_55 : decode cX0_goOn 55 = .ok (.iload 4, 2) := by decide +kernel
theorem dX0_goOn_57 : decode cX0_goOn 57 = .ok (.iadd, 1) := by decide +kernel
theorem dX0_goOn_58 : decode cX0_goOn 58 = .ok (.istore 8, 2) := by decide +kernel
theorem dX0_goOn_60 : decode cX0_goOn 60 = .ok (.iload 8, 2) := by decide +kernel
theorem dX0_goOn_62 : decode cX0_goOn 62 = .ok (.iload 5, 2) := by decide +kernel
theorem dX0_goOn_64 : decode cX0_goOn 64 = .ok (.if_icmp .ge 17, 3) := by decide +kernel
theorem dX0_goOn_67 : decode cX0_goOn 67 = .ok (.iload 8, 2) := by decide +kernel
theorem dX0_goOn_69 : decode cX0_goOn 69 = .ok (.istore 5, 2) := by decide +kernel
theorem dX0_goOn_71 : decode cX0_goOn 71 = .ok (.aload_n 0, 1) := by decide +kernel
theorem dX0_goOn_72 : decode cX0_goOn 72 = .ok (.getfield 19, 3) := by decide +kernel
theorem dX0_goOn_75 : decode cX0_goOn 75 = .ok (.iload_n 1, 1) := by decide +kernel
theorem dX0_goOn_76 : decode cX0_goOn 76 = .ok (.aaload, 1) := by decide +kernel
theorem dX0_goOn_77 : decode cX0_goOn 77 = .ok (.iload_n 2, 1) := by decide +kernel
theorem dX0_goOn_78 : decode cX0_goOn 78 = .ok (.iload 6, 2) := by decide +kernel
theorem dX0_goOn_80 : decode cX0_goOn 80 = .ok (.iastore, 1) := by decide +kernel
theorem dX0_goOn_81 : decode cX0_goOn 81 = .ok (.iinc 6 1, 3) := by decide +kernel
theorem dX0_goOn_84 : decode cX0_goOn 84 = .ok (.goto (-77), 3) := by decide +kernel
theorem dX0_goOn_87 : decode cX0_goOn 87 = .ok (.aload_n 0, 1) := by decide +kernel
theorem dX0_goOn_88 : decode cX0_goOn 88 = .ok (.getfield 16, 3) := by decide +kernel
theorem dX0_goOn_91 : decode cX0_goOn 91 = .ok (.iload_n 1, 1) := by decide +kernel
theorem dX0_goOn_92 : decode cX0_goOn 92 = .ok (.aaload, 1) := by decide +kernel
theorem dX0_goOn_93 : decode cX0_goOn 93 = .ok (.iload_n 2, 1) := by decide +kernel
theorem dX0_goOn_94 : decode cX0_goOn 94 = .ok (.dup2, 1) := by decide +kernel
theorem dX0_goOn_95 : decode cX0_goOn 95 = .ok (.iaload, 1) := by decide +kernel
theorem dX0_goOn_96 : decode cX0_goOn 96 = .ok (.iload 5, 2) := by decide +kernel
theorem dX0_goOn_98 : decode cX0_goOn 98 = .ok (.iadd, 1) := by decide +kernel
theorem dX0_goOn_99 : decode cX0_goOn 99 = .ok (.iastore, 1) := by decide +kernel
theorem dX0_goOn_100 : decode cX0_goOn 100 = .ok (.return_, 1) := by decide +kernel
theorem dX0_cheapestFirst_0 : decode cX0_cheapestFirst 0 = .ok (.iconst 0, 1) := by decide +kernel
theorem dX0_cheapestFirst_1 : decode cX0_cheapestFirst 1 = .ok (.istore_n 2, 1) := by decide +kernel
theorem dX0_cheapestFirst_2 : decode cX0_cheapestFirst 2 = .ok (.iconst 1, 1) := by decide +kernel
theorem dX0_cheapestFirst_3 : decode cX0_cheapestFirst 3 = .ok (.istore_n 3, 1) := by decide +kernel
theorem dX0_cheapestFirst_4 : decode cX0_cheapestFirst 4 = .ok (.iload_n 3, 1) := by decide +kernel
theorem dX0_cheapestFirst_5 : decode cX0_cheapestFirst 5 = .ok (.iload_n 1, 1) := by decide +kernel
theorem dX0_cheapestFirst_6 : decode cX0_cheapestFirst 6 = .ok (.if_icmp .ge 30, 3) := by decide +kernel
theorem dX0_cheapestFirst_9 : decode cX0_cheapestFirst 9 = .ok (.aload_n 0, 1) := by decide +kernel
theorem dX0_cheapestFirst_10 : decode cX0_cheapestFirst 10 = .ok (.getfield 16, 3) := by decide +kernel
theorem dX0_cheapestFirst_13 : decode cX0_cheapestFirst 13 = .ok (.iconst 0, 1) := by decide +kernel
theorem dX0_cheapestFirst_14 : decode cX0_cheapestFirst 14 = .ok (.aaload, 1) := by decide +kernel
theorem dX0_cheapestFirst_15 : decode cX0_cheapestFirst 15 = .ok (.iload_n 3, 1) := by decide +kernel
theorem dX0_cheapestFirst_16 : decode cX0_cheapestFirst 16 = .ok (.iaload, 1) := by decide +kernel
theorem dX0_cheapestFirst_17 : decode cX0_cheapestFirst 17 = .ok (.aload_n 0, 1) := by decide +kernel
theorem dX0_cheapestFirst_18 : decode cX0_cheapestFirst 18 = .ok (.getfield 16, 3) := by decide +kernel
theorem dX0_cheapestFirst_21 : decode cX0_cheapestFirst 21 = .ok (.iconst 0, 1) := by decide +kernel
theorem dX0_cheapestFirst_22 : decode cX0_cheapestFirst 22 = .ok (.aaload, 1) := by decide +kernel
theorem dX0_cheapestFirst_23 : decode cX0_cheapestFirst 23 = .ok (.iload_n 2, 1) := by decide +kernel
theorem dX0_cheapestFirst_24 : decode cX0_cheapestFirst 24 = .ok (.iaload, 1) := by decide +kernel
theorem dX0_cheapestFirst_25 : decode cX0_cheapestFirst 25 = .ok (.if_icmp .ge 5, 3) := by decide +kernel
theorem dX0_cheapestFirst_28 : decode cX0_cheapestFirst 28 = .ok (.iload_n 3, 1) := by decide +kernel
theorem dX0_cheapestFirst_29 : decode cX0_cheapestFirst 29 = .ok (.istore_n 2, 1) := by decide +kernel
theorem dX0_cheapestFirst_30 : decode cX0_cheapestFirst 30 = .ok (.iinc 3 1, 3) := by decide +kernel
theorem dX0_cheapestFirst_33 : decode cX0_cheapestFirst 33 = .ok (.goto (-29), 3) := by decide +kernel
theorem dX0_cheapestFirst_36 : decode cX0_cheapestFirst 36 = .ok (.iload_n 2, 1) := by decide +kernel
theorem dX0_cheapestFirst_37 : decode cX0_cheapestFirst 37 = .ok (.ireturn, 1) := by decide +kernel
theorem dX0_keepRow_0 : decode cX0_keepRow 0 = .ok (.iload_n 1, 1) := by decide +kernel
theorem dX0_keepRow_1 : decode cX0_keepRow 1 = .ok (.istore 4, 2) := by decide +kernel
theorem dX0_keepRow_3 : decode cX0_keepRow 3 = .ok (.aload_n 0, 1) := by decide +kernel
theorem dX0_keepRow_4 : decode cX0_keepRow 4 = .ok (.getfield 22, 3) := by decide +kernel
theorem dX0_keepRow_7 : decode cX0_keepRow 7 = .ok (.iconst 0, 1) := by decide +kernel
theorem dX0_keepRow_8 : decode cX0_keepRow 8 = .ok (.aload_n 3, 1) := by decide +kernel
theorem dX0_keepRow_9 : decode cX0_keepRow 9 = .ok (.getfield 40, 3) := by decide +kernel
theorem dX0_keepRow_12 : decode cX0_keepRow 12 = .ok (.iload 4, 2) := by decide +kernel
theorem dX0_keepRow_14 : decode cX0_keepRow 14 = .ok (.iaload, 1) := by decide +kernel
theorem dX0_keepRow_15 : decode cX0_keepRow 15 = .ok (.iastore, 1) := by decide +kernel
theorem dX0_keepRow_16 : decode cX0_keepRow 16 = .ok (.iconst 1, 1) := by decide +kernel
theorem dX0_keepRow_17 : decode cX0_keepRow 17 = .ok (.istore 5, 2) := by decide +kernel
theorem dX0_keepRow_19 : decode cX0_keepRow 19 = .ok (.iload 5, 2) := by decide +kernel
theorem dX0_keepRow_21 : decode cX0_keepRow 21 = .ok (.iload_n 2, 1) := by decide +kernel
theorem dX0_keepRow_22 : decode cX0_keepRow 22 = .ok (.if_icmp .ge 37, 3) := by decide +kernel
theorem dX0_keepRow_25 : decode cX0_keepRow 25 = .ok (.aload_n 0, 1) := by decide +kernel
theorem dX0_keepRow_26 : decode cX0_keepRow 26 = .ok (.getfield 19, 3) := by decide +kernel
theorem dX0_keepRow_29 : decode cX0_keepRow 29 = .ok (.iload 5, 2) := by decide +kernel
theorem dX0_keepRow_31 : decode cX0_keepRow 31 = .ok (.iconst 1, 1) := by decide +kernel
theorem dX0_keepRow_32 : decode cX0_keepRow 32 = .ok (.isub, 1) := by decide +kernel
theorem dX0_keepRow_33 : decode cX0_keepRow 33 = .ok (.aaload, 1) := by decide +kernel
theorem dX0_keepRow_34 : decode cX0_keepRow 34 = .ok (.iload 4, 2) := by decide +kernel
theorem dX0_keepRow_36 : decode cX0_keepRow 36 = .ok (.iaload, 1) := by decide +kernel
theorem dX0_keepRow_37 : decode cX0_keepRow 37 = .ok (.istore 4, 2) := by decide +kernel
theorem dX0_keepRow_39 : decode cX0_keepRow 39 = .ok (.aload_n 0, 1) := by decide +kernel
theorem dX0_keepRow_40 : decode cX0_keepRow 40 = .ok (.getfield 22, 3) := by decide +kernel
theorem dX0_keepRow_43 : decode cX0_keepRow 43 = .ok (.iload 5, 2) := by decide +kernel
theorem dX0_keepRow_45 : decode cX0_keepRow 45 = .ok (.aload_n 3, 1) := by decide +kernel
theorem dX0_keepRow_46 : decode cX0_keepRow 46 = .ok (.getfield 40, 3) := by decide +kernel
theorem dX0_keepRow_49 : decode cX0_keepRow 49 = .ok (.iload 4, 2) := by decide +kernel
theorem dX0_keepRow_51 : decode cX0_keepRow 51 = .ok (.iaload, 1) := by decide +kernel
theorem dX0_keepRow_52 : decode cX0_keepRow 52 = .ok (.iastore, 1) := by decide +kernel
theorem dX0_keepRow_53 : decode cX0_keepRow 53 = .ok (.iinc 5 1, 3) := by decide +kernel
theorem dX0_keepRow_56 : decode cX0_keepRow 56 = .ok (.goto (-37), 3) := by decide +kernel
theorem dX0_keepRow_59 : decode cX0_keepRow 59 = .ok (.return_, 1) := by decide +kernel
theorem dX1_init_0 : decode cX1_init 0 = .ok (.aload_n 0, 1) := by decide +kernel
theorem dX1_init_1 : decode cX1_init 1 = .ok (.invokespecial 3, 3) := by decide +kernel
theorem dX1_init_4 : decode cX1_init 4 = .ok (.aload_n 0, 1) := by decide +kernel
theorem dX1_init_5 : decode cX1_init 5 = .ok (.bipush 6, 2) := by decide +kernel
theorem dX1_init_7 : decode cX1_init 7 = .ok (.anewarray 9, 3) := by decide +kernel
theorem dX1_init_10 : decode cX1_init 10 = .ok (.putfield 11, 3) := by decide +kernel
theorem dX1_init_13 : decode cX1_init 13 = .ok (.aload_n 0, 1) := by decide +kernel
theorem dX1_init_14 : decode cX1_init 14 = .ok (.iconst 0, 1) := by decide +kernel
theorem dX1_init_15 : decode cX1_init 15 = .ok (.putfield 17, 3) := by decide +kernel
theorem dX1_init_18 : decode cX1_init 18 = .ok (.iconst 0, 1) := by decide +kernel
theorem dX1_init_19 : decode cX1_init 19 = .ok (.istore_n 1, 1) := by decide +kernel
theorem dX1_init_20 : decode cX1_init 20 = .ok (.iload_n 1, 1) := by decide +kernel
theorem dX1_init_21 : decode cX1_init 21 = .ok (.bipush 6, 2) := by decide +kernel
theorem dX1_init_23 : decode cX1_init 23 = .ok (.if_icmp .ge 22, 3) := by decide +kernel
theorem dX1_init_26 : decode cX1_init 26 = .ok (.aload_n 0, 1) := by decide +kernel
theorem dX1_init_27 : decode cX1_init 27 = .ok (.getfield 11, 3) := by decide +kernel
theorem dX1_init_30 : decode cX1_init 30 = .ok (.iload_n 1, 1) := by decide +kernel
theorem dX1_init_31 : decode cX1_init 31 = .ok (.new 9, 3) := by decide +kernel
theorem dX1_init_34 : decode cX1_init 34 = .ok (.dup, 1) := by decide +kernel
theorem dX1_init_35 : decode cX1_init 35 = .ok (.invokespecial 21, 3) := by decide +kernel
theorem dX1_init_38 : decode cX1_init 38 = .ok (.aastore, 1) := by decide +kernel
theorem dX1_init_39 : decode cX1_init 39 = .ok (.iinc 1 1, 3) := by decide +kernel
theorem dX1_init_42 : decode cX1_init 42 = .ok (.goto (-22), 3) := by decide +kernel
theorem dX1_init_45 : decode cX1_init 45 = .ok (.return_, 1) := by decide +kernel
theorem dX1_add_0 : decode cX1_add 0 = .ok (.aload_n 0, 1) := by decide +kernel
theorem dX1_add_1 : decode cX1_add 1 = .ok (.getfield 17, 3) := by decide +kernel
theorem dX1_add_4 : decode cX1_add 4 = .ok (.bipush 6, 2) := by decide +kernel
theorem dX1_add_6 : decode cX1_add 6 = .ok (.if_icmp .lt 5, 3) := by decide +kernel
theorem dX1_add_9 : decode cX1_add 9 = .ok (.iconst 0, 1) := by decide +kernel
theorem dX1_add_10 : decode cX1_add 10 = .ok (.ireturn, 1) := by decide +kernel
theorem dX1_add_11 : decode cX1_add 11 = .ok (.aload_n 0, 1) := by decide +kernel
theorem dX1_add_12 : decode cX1_add 12 = .ok (.getfield 11, 3) := by decide +kernel
theorem dX1_add_15 : decode cX1_add 15 = .ok (.aload_n 0, 1) := by decide +kernel
theorem dX1_add_16 : decode cX1_add 16 = .ok (.getfield 17, 3) := by decide +kernel
theorem dX1_add_19 : decode cX1_add 19 = .ok (.aaload, 1) := by decide +kernel
theorem dX1_add_20 : decode cX1_add 20 = .ok (.aload_n 1, 1) := by decide +kernel
theorem dX1_add_21 : decode cX1_add 21 = .ok (.invokevirtual 22, 3) := by decide +kernel
theorem dX1_add_24 : decode cX1_add 24 = .ok (.aload_n 0, 1) := by decide +kernel
theorem dX1_add_25 : decode cX1_add 25 = .ok (.dup, 1) := by decide +kernel
theorem dX1_add_26 : decode cX1_add 26 = .ok (.getfield 17, 3) := by decide +kernel
theorem dX1_add_29 : decode cX1_add 29 = .ok (.iconst 1, 1) := by decide +kernel
theorem dX1_add_30 : decode cX1_add 30 = .ok (.iadd, 1) := by decide +kernel
theorem dX1_add_31 : decode cX1_add 31 = .ok (.putfield 17, 3) := by decide +kernel
theorem dX1_add_34 : decode cX1_add 34 = .ok (.iconst 1, 1) := by decide +kernel
theorem dX1_add_35 : decode cX1_add 35 = .ok (.ireturn, 1) := by decide +kernel
theorem dX2_init_0 : decode cX2_init 0 = .ok (.aload_n 0, 1) := by decide +kernel
theorem dX2_init_1 : decode cX2_init 1 = .ok (.invokespecial 3, 3) := by decide +kernel
theorem dX2_init_4 : decode cX2_init 4 = .ok (.aload_n 0, 1) := by decide +kernel
theorem dX2_init_5 : decode cX2_init 5 = .ok (.new 9, 3) := by decide +kernel
theorem dX2_init_8 : decode cX2_init 8 = .ok (.dup, 1) := by decide +kernel
theorem dX2_init_9 : decode cX2_init 9 = .ok (.invokespecial 11, 3) := by decide +kernel
theorem dX2_init_12 : decode cX2_init 12 = .ok (.putfield 12, 3) := by decide +kernel
theorem dX2_init_15 : decode cX2_init 15 = .ok (.aload_n 0, 1) := by decide +kernel
theorem dX2_init_16 : decode cX2_init 16 = .ok (.new 9, 3) := by decide +kernel
theorem dX2_init_19 : decode cX2_init 19 = .ok (.dup, 1) := by decide +kernel
theorem dX2_init_20 : decode cX2_init 20 = .ok (.invokespecial 11, 3) := by decide +kernel
theorem dX2_init_23 : decode cX2_init 23 = .ok (.putfield 18, 3) := by decide +kernel
theorem dX2_init_26 : decode cX2_init 26 = .ok (.aload_n 0, 1) := by decide +kernel
theorem dX2_init_27 : decode cX2_init 27 = .ok (.ldc 21, 2) := by decide +kernel
theorem dX2_init_29 : decode cX2_init 29 = .ok (.putfield 22, 3) := by decide +kernel
theorem dX2_init_32 : decode cX2_init 32 = .ok (.aload_n 0, 1) := by decide +kernel
theorem dX2_init_33 : decode cX2_init 33 = .ok (.iconst 0, 1) := by decide +kernel
theorem dX2_init_34 : decode cX2_init 34 = .ok (.putfield 26, 3) := by decide +kernel
theorem dX2_init_37 : decode cX2_init 37 = .ok (.aload_n 0, 1) := by decide +kernel
theorem dX2_init_38 : decode cX2_init 38 = .ok (.iconst 0, 1) := by decide +kernel
theorem dX2_init_39 : decode cX2_init 39 = .ok (.putfield 29, 3) := by decide +kernel
theorem dX2_init_42 : decode cX2_init 42 = .ok (.aload_n 0, 1) := by decide +kernel
theorem dX2_init_43 : decode cX2_init 43 = .ok (.iconst 0, 1) := by decide +kernel
theorem dX2_init_44 : decode cX2_init 44 = .ok (.putfield 32, 3) := by decide +kernel
theorem dX2_init_47 : decode cX2_init 47 = .ok (.return_, 1) := by decide +kernel
theorem dX2_find_0 : decode cX2_find 0 = .ok (.aload_n 0, 1) := by decide +kernel
theorem dX2_find_1 : decode cX2_find 1 = .ok (.aload_n 1, 1) := by decide +kernel
theorem dX2_find_2 : decode cX2_find 2 = .ok (.aload_n 2, 1) := by decide +kernel
theorem dX2_find_3 : decode cX2_find 3 = .ok (.aload_n 3, 1) := by decide +kernel
theorem dX2_find_4 : decode cX2_find 4 = .ok (.invokevirtual 35, 3) := by decide +kernel
theorem dX2_find_7 : decode cX2_find 7 = .ok (.aload_n 0, 1) := by decide +kernel
theorem dX2_find_8 : decode cX2_find 8 = .ok (.ldc 21, 2) := by decide +kernel
theorem dX2_find_10 : decode cX2_find 10 = .ok (.putfield 22, 3) := by decide +kernel
theorem dX2_find_13 : decode cX2_find 13 = .ok (.iconst 1, 1) := by decide +kernel
theorem dX2_find_14 : decode cX2_find 14 = .ok (.istore 5, 2) := by decide +kernel
theorem dX2_find_16 : decode cX2_find 16 = .ok (.iload 5, 2) := by decide +kernel
theorem dX2_find_18 : decode cX2_find 18 = .ok (.aload_n 1, 1) := by decide +kernel
theorem dX2_find_19 : decode cX2_find 19 = .ok (.getfield 39, 3) := by decide +kernel
theorem dX2_find_22 : decode cX2_find 22 = .ok (.if_icmp .ge 93, 3) := by decide +kernel
theorem dX2_find_25 : decode cX2_find 25 = .ok (.aload_n 1, 1) := by decide +kernel
theorem dX2_find_26 : decode cX2_find 26 = .ok (.getfield 39, 3) := by decide +kernel
theorem dX2_find_29 : decode cX2_find 29 = .ok (.iload 5, 2) := by decide +kernel
theorem dX2_find_31 : decode cX2_find 31 = .ok (.isub, 1) := by decide +kernel
theorem dX2_find_32 : decode cX2_find 32 = .ok (.istore 6, 2) := by decide +kernel
theorem dX2_find_34 : decode cX2_find 34 = .ok (.aload_n 0, 1) := by decide +kernel
theorem dX2_find_35 : decode cX2_find 35 = .ok (.getfield 12, 3) := by decide +kernel
theorem dX2_find_38 : decode cX2_find 38 = .ok (.getfield 44, 3) := by decide +kernel
theorem dX2_find_41 : decode cX2_find 41 = .ok (.iload 5, 2) := by decide +kernel
theorem dX2_find_43 : decode cX2_find 43 = .ok (.iaload, 1) := by decide +kernel
theorem dX2_find_44 : decode cX2_find 44 = .ok (.aload_n 0, 1) := by decide +kernel
theorem dX2_find_45 : decode cX2_find 45 = .ok (.getfield 18, 3) := by decide +kernel
theorem dX2_find_48 : decode cX2_find 48 = .ok (.getfield 44, 3) := by decide +kernel
theorem dX2_find_51 : decode cX2_find 51 = .ok (.iload 6, 2) := by decide +kernel
theorem dX2_find_53 : decode cX2_find 53 = .ok (.iaload, 1) := by decide +kernel
theorem dX2_find_54 : decode cX2_find 54 = .ok (.iadd, 1) := by decide +kernel
theorem dX2_find_55 : decode cX2_find 55 = .ok (.iload 4, 2) := by decide +kernel
theorem dX2_find_57 : decode cX2_find 57 = .ok (.iadd, 1) := by decide +kernel
theorem dX2_find_58 : decode cX2_find 58 = .ok (.istore 7, 2) := by decide +kernel
theorem dX2_find_60 : decode cX2_find 60 = .ok (.iload 7, 2) := by decide +kernel
theorem dX2_find_62 : decode cX2_find 62 = .ok (.aload_n 0, 1) := by decide +kernel
theorem dX2_find_63 : decode cX2_find 63 = .ok (.getfield 22, 3) := by decide +kernel
theorem dX2_find_66 : decode cX2_find 66 = .ok (.if_icmp .ge 43, 3) := by decide +kernel
theorem dX2_find_69 : decode cX2_find 69 = .ok (.aload_n 0, 1) := by decide +kernel
theorem dX2_find_70 : decode cX2_find 70 = .ok (.iload 7, 2) := by decide +kernel
theorem dX2_find_72 : decode cX2_find 72 = .ok (.putfield 22, 3) := by decide +kernel
theorem dX2_find_75 : decode cX2_find 75 = .ok (.aload_n 0, 1) := by decide +kernel
theorem dX2_find_76 : decode cX2_find 76 = .ok (.iload 5, 2) := by decide +kernel
theorem dX2_find_78 : decode cX2_find 78 = .ok (.putfield 26, 3) := by decide +kernel
theorem dX2_find_81 : decode cX2_find 81 = .ok (.aload_n 0, 1) := by decide +kernel
theorem dX2_find_82 : decode cX2_find 82 = .ok (.aload_n 0, 1) := by decide +kernel
theorem dX2_find_83 : decode cX2_find 83 = .ok (.getfield 12, 3) := by decide +kernel
theorem dX2_find_86 : decode cX2_find 86 = .ok (.getfield 48, 3) := by decide +kernel
theorem dX2_find_89 : decode cX2_find 89 = .ok (.iload 5, 2) := by decide +kernel
theorem dX2_find_91 : decode cX2_find 91 = .ok (.iaload, 1) := by decide +kernel
theorem dX2_find_92 : decode cX2_find 92 = .ok (.putfield 29, 3) := by decide +kernel
theorem dX2_find_95 : decode cX2_find 95 = .ok (.aload_n 0, 1) := by decide +kernel
theorem dX2_find_96 : decode cX2_find 96 = .ok (.aload_n 0, 1) := by decide +kernel
theorem dX2_find_97 : decode cX2_find 97 = .ok (.getfield 18, 3) := by decide +kernel
theorem dX2_find_100 : decode cX2_find 100 = .ok (.getfield 48, 3) := by decide +kernel
theorem dX2_find_103 : decode cX2_find 103 = .ok (.iload 6, 2) := by decide +kernel
theorem dX2_find_105 : decode cX2_find 105 = .ok (.iaload, 1) := by decide +kernel
theorem dX2_find_106 : decode cX2_find 106 = .ok (.putfield 32, 3) := by decide +kernel
theorem dX2_find_109 : decode cX2_find 109 = .ok (.iinc 5 1, 3) := by decide +kernel
theorem dX2_find_112 : decode cX2_find 112 = .ok (.goto (-96), 3) := by decide +kernel
theorem dX2_find_115 : decode cX2_find 115 = .ok (.return_, 1) := by decide +kernel
theorem dX2_fillSides_0 : decode cX2_fillSides 0 = .ok (.aload_n 0, 1) := by decide +kernel
theorem dX2_fillSides_1 : decode cX2_fillSides 1 = .ok (.getfield 12, 3) := by decide +kernel
theorem dX2_fillSides_4 : decode cX2_fillSides 4 = .ok (.invokevirtual 51, 3) := by decide +kernel
theorem dX2_fillSides_7 : decode cX2_fillSides 7 = .ok (.aload_n 0, 1) := by decide +kernel
theorem dX2_fillSides_8 : decode cX2_fillSides 8 = .ok (.getfield 18, 3) := by decide +kernel
theorem dX2_fillSides_11 : decode cX2_fillSides 11 = .ok (.invokevirtual 51, 3) := by decide +kernel
theorem dX2_fillSides_14 : decode cX2_fillSides 14 = .ok (.iconst 0, 1) := by decide +kernel
theorem dX2_fillSides_15 : decode cX2_fillSides 15 = .ok (.istore 4, 2) := by decide +kernel
theorem dX2_fillSides_17 : decode cX2_fillSides 17 = .ok (.iload 4, 2) := by decide +kernel
theorem dX2_fillSides_19 : decode cX2_fillSides 19 = .ok (.aload_n 2, 1) := by decide +kernel
theorem dX2_fillSides_20 : decode cX2_fillSides 20 = .ok (.getfield 54, 3) := by decide +kernel
theorem dX2_fillSides_23 : decode cX2_fillSides 23 = .ok (.if_icmp .ge 75, 3) := by decide +kernel
theorem dX2_fillSides_26 : decode cX2_fillSides 26 = .ok (.aload_n 2, 1) := by decide +kernel
theorem dX2_fillSides_27 : decode cX2_fillSides 27 = .ok (.getfield 59, 3) := by decide +kernel
theorem dX2_fillSides_30 : decode cX2_fillSides 30 = .ok (.iload 4, 2) := by decide +kernel
theorem dX2_fillSides_32 : decode cX2_fillSides 32 = .ok (.iaload, 1) := by decide +kernel
theorem dX2_fillSides_33 : decode cX2_fillSides 33 = .ok (.istore 5, 2) := by decide +kernel
theorem dX2_fillSides_35 : decode cX2_fillSides 35 = .ok (.aload_n 3, 1) := by decide +kernel
theorem dX2_fillSides_36 : decode cX2_fillSides 36 = .ok (.aload_n 1, 1) := by decide +kernel
theorem dX2_fillSides_37 : decode cX2_fillSides 37 = .ok (.aload_n 2, 1) := by decide +kernel
theorem dX2_fillSides_38 : decode cX2_fillSides 38 = .ok (.getfield 62, 3) := by decide +kernel
theorem dX2_fillSides_41 : decode cX2_fillSides 41 = .ok (.iload 5, 2) := by decide +kernel
theorem dX2_fillSides_43 : decode cX2_fillSides 43 = .ok (.aaload, 1) := by decide +kernel
theorem dX2_fillSides_44 : decode cX2_fillSides 44 = .ok (.invokevirtual 66, 3) := by decide +kernel
theorem dX2_fillSides_47 : decode cX2_fillSides 47 = .ok (.pop, 1) := by decide +kernel
theorem dX2_fillSides_48 : decode cX2_fillSides 48 = .ok (.aload_n 0, 1) := by decide +kernel
theorem dX2_fillSides_49 : decode cX2_fillSides 49 = .ok (.getfield 12, 3) := by decide +kernel
theorem dX2_fillSides_52 : decode cX2_fillSides 52 = .ok (.iload 5, 2) := by decide +kernel
theorem dX2_fillSides_54 : decode cX2_fillSides 54 = .ok (.aload_n 3, 1) := by decide +kernel
theorem dX2_fillSides_55 : decode cX2_fillSides 55 = .ok (.aload_n 1, 1) := by decide +kernel
theorem dX2_fillSides_56 : decode cX2_fillSides 56 = .ok (.getfield 39, 3) := by decide +kernel
theorem dX2_fillSides_59 : decode cX2_fillSides 59 = .ok (.iconst 1, 1) := by decide +kernel
theorem dX2_fillSides_60 : decode cX2_fillSides 60 = .ok (.isub, 1) := by decide +kernel
theorem dX2_fillSides_61 : decode cX2_fillSides 61 = .ok (.invokevirtual 72, 3) := by decide +kernel
theorem dX2_fillSides_64 : decode cX2_fillSides 64 = .ok (.aload_n 3, 1) := by decide +kernel
theorem dX2_fillSides_65 : decode cX2_fillSides 65 = .ok (.aload_n 1, 1) := by decide +kernel
theorem dX2_fillSides_66 : decode cX2_fillSides 66 = .ok (.aload_n 2, 1) := by decide +kernel
theorem dX2_fillSides_67 : decode cX2_fillSides 67 = .ok (.getfield 62, 3) := by decide +kernel
theorem dX2_fillSides_70 : decode cX2_fillSides 70 = .ok (.iload 5, 2) := by decide +kernel
theorem dX2_fillSides_72 : decode cX2_fillSides 72 = .ok (.aaload, 1) := by decide +kernel
theorem dX2_fillSides_73 : decode cX2_fillSides 73 = .ok (.invokevirtual 76, 3) := by decide +kernel
theorem dX2_fillSides_76 : decode cX2_fillSides 76 = .ok (.aload_n 0, 1) := by decide +kernel
theorem dX2_fillSides_77 : decode cX2_fillSides 77 = .ok (.getfield 18, 3) := by decide +kernel
theorem dX2_fillSides_80 : decode cX2_fillSides 80 = .ok (.iload 5, 2) := by decide +kernel
theorem dX2_fillSides_82 : decode cX2_fillSides 82 = .ok (.aload_n 3, 1) := by decide +kernel
theorem dX2_fillSides_83 : decode cX2_fillSides 83 = .ok (.aload_n 1, 1) := by decide +kernel
theorem dX2_fillSides_84 : decode cX2_fillSides 84 = .ok (.getfield 39, 3) := by decide +kernel
theorem dX2_fillSides_87 : decode cX2_fillSides 87 = .ok (.iconst 1, 1) := by decide +kernel
theorem dX2_fillSides_88 : decode cX2_fillSides 88 = .ok (.isub, 1) := by decide +kernel
theorem dX2_fillSides_89 : decode cX2_fillSides 89 = .ok (.invokevirtual 72, 3) := by decide +kernel
theorem dX2_fillSides_92 : decode cX2_fillSides 92 = .ok (.iinc 4 1, 3) := by decide +kernel
theorem dX2_fillSides_95 : decode cX2_fillSides 95 = .ok (.goto (-78), 3) := by decide +kernel
theorem dX2_fillSides_98 : decode cX2_fillSides 98 = .ok (.return_, 1) := by decide +kernel
theorem dX3_init_0 : decode cX3_init 0 = .ok (.aload_n 0, 1) := by decide +kernel
theorem dX3_init_1 : decode cX3_init 1 = .ok (.invokespecial 3, 3) := by decide +kernel
theorem dX3_init_4 : decode cX3_init 4 = .ok (.aload_n 0, 1) := by decide +kernel
theorem dX3_init_5 : decode cX3_init 5 = .ok (.bipush 6, 2) := by decide +kernel
theorem dX3_init_7 : decode cX3_init 7 = .ok (.newarray .int, 2) := by decide +kernel
theorem dX3_init_9 : decode cX3_init 9 = .ok (.dup, 1) := by decide +kernel
theorem dX3_init_10 : decode cX3_init 10 = .ok (.iconst 0, 1) := by decide +kernel
theorem dX3_init_11 : decode cX3_init 11 = .ok (.iconst 2, 1) := by decide +kernel
theorem dX3_init_12 : decode cX3_init 12 = .ok (.iastore, 1) := by decide +kernel
theorem dX3_init_13 : decode cX3_init 13 = .ok (.dup, 1) := by decide +kernel
theorem dX3_init_14 : decode cX3_init 14 = .ok (.iconst 1, 1) := by decide +kernel
theorem dX3_init_15 : decode cX3_init 15 = .ok (.iconst 2, 1) := by decide +kernel
theorem dX3_init_16 : decode cX3_init 16 = .ok (.iastore, 1) := by decide +kernel
theorem dX3_init_17 : decode cX3_init 17 = .ok (.dup, 1) := by decide +kernel
theorem dX3_init_18 : decode cX3_init 18 = .ok (.iconst 2, 1) := by decide +kernel
theorem dX3_init_19 : decode cX3_init 19 = .ok (.iconst 3, 1) := by decide +kernel
theorem dX3_init_20 : decode cX3_init 20 = .ok (.iastore, 1) := by decide +kernel
theorem dX3_init_21 : decode cX3_init 21 = .ok (.dup, 1) := by decide +kernel
theorem dX3_init_22 : decode cX3_init 22 = .ok (.iconst 3, 1) := by decide +kernel
theorem dX3_init_23 : decode cX3_init 23 = .ok (.iconst 1, 1) := by decide +kernel
theorem dX3_init_24 : decode cX3_init 24 = .ok (.iastore, 1) := by decide +kernel
theorem dX3_init_25 : decode cX3_init 25 = .ok (.dup, 1) := by decide +kernel
theorem dX3_init_26 : decode cX3_init 26 = .ok (.iconst 4, 1) := by decide +kernel
theorem dX3_init_27 : decode cX3_init 27 = .ok (.iconst 5, 1) := by decide +kernel
theorem dX3_init_28 : decode cX3_init 28 = .ok (.iastore, 1) := by decide +kernel
theorem dX3_init_29 : decode cX3_init 29 = .ok (.dup, 1) := by decide +kernel
theorem dX3_init_30 : decode cX3_init 30 = .ok (.iconst 5, 1) := by decide +kernel
theorem dX3_init_31 : decode cX3_init 31 = .ok (.iconst 4, 1) := by decide +kernel
theorem dX3_init_32 : decode cX3_init 32 = .ok (.iastore, 1) := by decide +kernel
theorem dX3_init_33 : decode cX3_init 33 = .ok (.putfield 9, 3) := by decide +kernel
theorem dX3_init_36 : decode cX3_init 36 = .ok (.aload_n 0, 1) := by decide +kernel
theorem dX3_init_37 : decode cX3_init 37 = .ok (.bipush 26, 2) := by decide +kernel
theorem dX3_init_39 : decode cX3_init 39 = .ok (.bipush 26, 2) := by decide +kernel
theorem dX3_init_41 : decode cX3_init 41 = .ok (.multianewarray 15 2, 4) := by decide +kernel
theorem dX3_init_45 : decode cX3_init 45 = .ok (.putfield 17, 3) := by decide +kernel
theorem dX3_init_48 : decode cX3_init 48 = .ok (.iconst 0, 1) := by decide +kernel
theorem dX3_init_49 : decode cX3_init 49 = .ok (.istore_n 1, 1) := by decide +kernel
theorem dX3_init_50 : decode cX3_init 50 = .ok (.iload_n 1, 1) := by decide +kernel
theorem dX3_init_51 : decode cX3_init 51 = .ok (.bipush 26, 2) := by decide +kernel
theorem dX3_init_53 : decode cX3_init 53 = .ok (.if_icmp .ge 19, 3) := by decide +kernel
theorem dX3_init_56 : decode cX3_init 56 = .ok (.aload_n 0, 1) := by decide +kernel
theorem dX3_init_57 : decode cX3_init 57 = .ok (.getfield 17, 3) := by decide +kernel
theorem dX3_init_60 : decode cX3_init 60 = .ok (.iload_n 1, 1) := by decide +kernel
theorem dX3_init_61 : decode cX3_init 61 = .ok (.aaload, 1) := by decide +kernel
theorem dX3_init_62 : decode cX3_init 62 = .ok (.iconst (-1), 1) := by decide +kernel
theorem dX3_init_63 : decode cX3_init 63 = .ok (.invokestatic 20, 3) := by decide +kernel
theorem dX3_init_66 : decode cX3_init 66 = .ok (.iinc 1 1, 3) := by decide +kernel
theorem dX3_init_69 : decode cX3_init 69 = .ok (.goto (-19), 3) := by decide +kernel
theorem dX3_init_72 : decode cX3_init 72 = .ok (.return_, 1) := by decide +kernel
theorem dX3_ofBecoming_0 : decode cX3_ofBecoming 0 = .ok (.iload_n 1, 1) := by decide +kernel
theorem dX3_ofBecoming_1 : decode cX3_ofBecoming 1 = .ok (.iload_n 2, 1) := by decide +kernel
theorem dX3_ofBecoming_2 : decode cX3_ofBecoming 2 = .ok (.if_icmp .ne 5, 3) := by decide +kernel
theorem dX3_ofBecoming_5 : decode cX3_ofBecoming 5 = .ok (.iconst 0, 1) := by decide +kernel
theorem dX3_ofBecoming_6 : decode cX3_ofBecoming 6 = .ok (.ireturn, 1) := by decide +kernel
theorem dX3_ofBecoming_7 : decode cX3_ofBecoming 7 = .ok (.aload_n 0, 1) := by decide +kernel
theorem dX3_ofBecoming_8 : decode cX3_ofBecoming 8 = .ok (.getfield 17, 3) := by decide +kernel
theorem dX3_ofBecoming_11 : decode cX3_ofBecoming 11 = .ok (.iload_n 1, 1) := by decide +kernel
theorem dX3_ofBecoming_12 : decode cX3_ofBecoming 12 = .ok (.aaload, 1) := by decide +kernel
theorem dX3_ofBecoming_13 : decode cX3_ofBecoming 13 = .ok (.iload_n 2, 1) := by decide +kernel
theorem dX3_ofBecoming_14 : decode cX3_ofBecoming 14 = .ok (.iaload, 1) := by decide +kernel
theorem dX3_ofBecoming_15 : decode cX3_ofBecoming 15 = .ok (.istore_n 3, 1) := by decide +kernel
theorem dX3_ofBecoming_16 : decode cX3_ofBecoming 16 = .ok (.iload_n 3, 1) := by decide +kernel
theorem dX3_ofBecoming_17 : decode cX3_ofBecoming 17 = .ok (.iconst (-1), 1) := by decide +kernel
theorem dX3_ofBecoming_18 : decode cX3_ofBecoming 18 = .ok (.if_icmp .ne 12, 3) := by decide +kernel
theorem dX3_ofBecoming_21 : decode cX3_ofBecoming 21 = .ok (.aload_n 0, 1) := by decide +kernel
theorem dX3_ofBecoming_22 : decode cX3_ofBecoming 22 = .ok (.getfield 9, 3) := by decide +kernel
theorem dX3_ofBecoming_25 : decode cX3_ofBecoming 25 = .ok (.iconst 2, 1) := by decide +kernel
theorem dX3_ofBecoming_26 : decode cX3_ofBecoming 26 = .ok (.iaload, 1) := by decide +kernel
theorem dX3_ofBecoming_27 : decode cX3_ofBecoming 27 = .ok (.goto 4, 3) := by decide +kernel
theorem dX3_ofBecoming_30 : decode cX3_ofBecoming 30 = .ok (.iload_n 3, 1) := by decide +kernel
theorem dX3_ofBecoming_31 : decode cX3_ofBecoming 31 = .ok (.ireturn, 1) := by decide +kernel
theorem dX4_init_0 : decode cX4_init 0 = .ok (.aload_n 0, 1) := by decide +kernel
theorem dX4_init_1 : decode cX4_init 1 = .ok (.invokespecial 3, 3) := by decide +kernel
theorem dX4_init_4 : decode cX4_init 4 = .ok (.aload_n 0, 1) := by decide +kernel
theorem dX4_init_5 : decode cX4_init 5 = .ok (.bipush 60, 2) := by decide +kernel
theorem dX4_init_7 : decode cX4_init 7 = .ok (.newarray .int, 2) := by decide +kernel
theorem dX4_init_9 : decode cX4_init 9 = .ok (.putfield 9, 3) := by decide +kernel
theorem dX4_init_12 : decode cX4_init 12 = .ok (.aload_n 0, 1) := by decide +kernel
theorem dX4_init_13 : decode cX4_init 13 = .ok (.bipush 60, 2) := by decide +kernel
theorem dX4_init_15 : decode cX4_init 15 = .ok (.newarray .int, 2) := by decide +kernel
theorem dX4_init_17 : decode cX4_init 17 = .ok (.putfield 15, 3) := by decide +kernel
theorem dX4_init_20 : decode cX4_init 20 = .ok (.aload_n 0, 1) := by decide +kernel
theorem dX4_init_21 : decode cX4_init 21 = .ok (.bipush 60, 2) := by decide +kernel
theorem dX4_init_23 : decode cX4_init 23 = .ok (.newarray .int, 2) := by decide +kernel
theorem dX4_init_25 : decode cX4_init 25 = .ok (.putfield 18, 3) := by decide +kernel
theorem dX4_init_28 : decode cX4_init 28 = .ok (.aload_n 0, 1) := by decide +kernel
theorem dX4_init_29 : decode cX4_init 29 = .ok (.iconst 0, 1) := by decide +kernel
theorem dX4_init_30 : decode cX4_init 30 = .ok (.putfield 21, 3) := by decide +kernel
theorem dX4_init_33 : decode cX4_init 33 = .ok (.return_, 1) := by decide +kernel
theorem dX4_add_0 : decode cX4_add 0 = .ok (.aload_n 0, 1) := by decide +kernel
theorem dX4_add_1 : decode cX4_add 1 = .ok (.getfield 21, 3) := by decide +kernel
theorem dX4_add_4 : decode cX4_add 4 = .ok (.bipush 60, 2) := by decide +kernel
theorem dX4_add_6 : decode cX4_add 6 = .ok (.if_icmp .lt 4, 3) := by decide +kernel
theorem dX4_add_9 : decode cX4_add 9 = .ok (.return_, 1) := by decide +kernel
theorem dX4_add_10 : decode cX4_add 10 = .ok (.aload_n 0, 1) := by decide +kernel
theorem dX4_add_11 : decode cX4_add 11 = .ok (.getfield 21, 3) := by decide +kernel
theorem dX4_add_14 : decode cX4_add 14 = .ok (.istore 4, 2) := by decide +kernel
theorem dX4_add_16 : decode cX4_add 16 = .ok (.iload 4, 2) := by decide +kernel
theorem dX4_add_18 : decode cX4_add 18 = .ok (.ifCond .le 70, 3) := by decide +kernel
theorem dX4_add_21 : decode cX4_add 21 = .ok (.aload_n 0, 1) := by decide +kernel
theorem dX4_add_22 : decode cX4_add 22 = .ok (.iload 4, 2) := by decide +kernel
theorem dX4_add_24 : decode cX4_add 24 = .ok (.iconst 1, 1) := by decide +kernel
theorem dX4_add_25 : decode cX4_add 25 = .ok (.isub, 1) := by decide +kernel
theorem dX4_add_26 : decode cX4_add 26 = .ok (.iload_n 2, 1) := by decide +kernel
theorem dX4_add_27 : decode cX4_add 27 = .ok (.iload_n 3, 1) := by decide +kernel
theorem dX4_add_28 : decode cX4_add 28 = .ok (.invokevirtual 25, 3) := by decide +kernel
theorem dX4_add_31 : decode cX4_add 31 = .ok (.ifCond .eq 57, 3) := by decide +kernel
theorem dX4_add_34 : decode cX4_add 34 = .ok (.aload_n 0, 1) := by decide +kernel
theorem dX4_add_35 : decode cX4_add 35 = .ok (.getfield 9, 3) := by decide +kernel
theorem dX4_add_38 : decode cX4_add 38 = .ok (.iload 4, 2) := by decide +kernel
theorem dX4_add_40 : decode cX4_add 40 = .ok (.aload_n 0, 1) := by decide +kernel
theorem dX4_add_41 : decode cX4_add 41 = .ok (.getfield 9, 3) := by decide +kernel
theorem dX4_add_44 : decode cX4_add 44 = .ok (.iload 4, 2) := by decide +kernel
theorem dX4_add_46 : decode cX4_add 46 = .ok (.iconst 1, 1) := by decide +kernel
theorem dX4_add_47 : decode cX4_add 47 = .ok (.isub, 1) := by decide +kernel
theorem dX4_add_48 : decode cX4_add 48 = .ok (.iaload, 1) := by decide +kernel
theorem dX4_add_49 : decode cX4_add 49 = .ok (.iastore, 1) := by decide +kernel
theorem dX4_add_50 : decode cX4_add 50 = .ok (.aload_n 0, 1) := by decide +kernel
theorem dX4_add_51 : decode cX4_add 51 = .ok (.getfield 15, 3) := by decide +kernel
theorem dX4_add_54 : decode cX4_add 54 = .ok (.iload 4, 2) := by decide +kernel
theorem dX4_add_56 : decode cX4_add 56 = .ok (.aload_n 0, 1) := by decide +kernel
theorem dX4_add_57 : decode cX4_add 57 = .ok (.getfield 15, 3) := by decide +kernel
theorem dX4_add_60 : decode cX4_add 60 = .ok (.iload 4, 2) := by decide +kernel
theorem dX4_add_62 : decode cX4_add 62 = .ok (.iconst 1, 1) := by decide +kernel
theorem dX4_add_63 : decode cX4_add 63 = .ok (.isub, 1) := by decide +kernel
theorem dX4_add_64 : decode cX4_add 64 = .ok (.iaload, 1) := by decide +kernel
theorem dX4_add_65 : decode cX4_add 65 = .ok (.iastore, 1) := by decide +kernel
theorem dX4_add_66 : decode cX4_add 66 = .ok (.aload_n 0, 1) := by decide +kernel
theorem dX4_add_67 : decode cX4_add 67 = .ok (.getfield 18, 3) := by decide +kernel
theorem dX4_add_70 : decode cX4_add 70 = .ok (.iload 4, 2) := by decide +kernel
theorem dX4_add_72 : decode cX4_add 72 = .ok (.aload_n 0, 1) := by decide +kernel
theorem dX4_add_73 : decode cX4_add 73 = .ok (.getfield 18, 3) := by decide +kernel
theorem dX4_add_76 : decode cX4_add 76 = .ok (.iload 4, 2) := by decide +kernel
theorem dX4_add_78 : decode cX4_add 78 = .ok (.iconst 1, 1) := by decide +kernel
theorem dX4_add_79 : decode cX4_add 79 = .ok (.isub, 1) := by decide +kernel
theorem dX4_add_80 : decode cX4_add 80 = .ok (.iaload, 1) := by decide +kernel
theorem dX4_add_81 : decode cX4_add 81 = .ok (.iastore, 1) := by decide +kernel
theorem dX4_add_82 : decode cX4_add 82 = .ok (.iinc 4 (-1), 3) := by decide +kernel
theorem dX4_add_85 : decode cX4_add 85 = .ok (.goto (-69), 3) := by decide +kernel
theorem dX4_add_88 : decode cX4_add 88 = .ok (.aload_n 0, 1) := by decide +kernel
theorem dX4_add_89 : decode cX4_add 89 = .ok (.getfield 9, 3) := by decide +kernel
theorem dX4_add_92 : decode cX4_add 92 = .ok (.iload 4, 2) := by decide +kernel
theorem dX4_add_94 : decode cX4_add 94 = .ok (.iload_n 1, 1) := by decide +kernel
theorem dX4_add_95 : decode cX4_add 95 = .ok (.iastore, 1) := by decide +kernel
theorem dX4_add_96 : decode cX4_add 96 = .ok (.aload_n 0, 1) := by decide +kernel
theorem dX4_add_97 : decode cX4_add 97 = .ok (.getfield 15, 3) := by decide +kernel
theorem dX4_add_100 : decode cX4_add 100 = .ok (.iload 4, 2) := by decide +kernel
theorem dX4_add_102 : decode cX4_add 102 = .ok (.iload_n 2, 1) := by decide +kernel
theorem dX4_add_103 : decode cX4_add 103 = .ok (.iastore, 1) := by decide +kernel
theorem dX4_add_104 : decode cX4_add 104 = .ok (.aload_n 0, 1) := by decide +kernel
theorem dX4_add_105 : decode cX4_add 105 = .ok (.getfield 18, 3) := by decide +kernel
theorem dX4_add_108 : decode cX4_add 108 = .ok (.iload 4, 2) := by decide +kernel
theorem dX4_add_110 : decode cX4_add 110 = .ok (.iload_n 3, 1) := by decide +kernel
theorem dX4_add_111 : decode cX4_add 111 = .ok (.iastore, 1) := by decide +kernel
theorem dX4_add_112 : decode cX4_add 112 = .ok (.aload_n 0, 1) := by decide +kernel
theorem dX4_add_113 : decode cX4_add 113 = .ok (.dup, 1) := by decide +kernel
theorem dX4_add_114 : decode cX4_add 114 = .ok (.getfield 21, 3) := by decide +kernel
theorem dX4_add_117 : decode cX4_add 117 = .ok (.iconst 1, 1) := by decide +kernel
theorem dX4_add_118 : decode cX4_add 118 = .ok (.iadd, 1) := by decide +kernel
theorem dX4_add_119 : decode cX4_add 119 = .ok (.putfield 21, 3) := by decide +kernel
theorem dX4_add_122 : decode cX4_add 122 = .ok (.return_, 1) := by decide +kernel
theorem dX4_isBehind_0 : decode cX4_isBehind 0 = .ok (.aload_n 0, 1) := by decide +kernel
theorem dX4_isBehind_1 : decode cX4_isBehind 1 = .ok (.getfield 15, 3) := by decide +kernel
theorem dX4_isBehind_4 : decode cX4_isBehind 4 = .ok (.iload_n 1, 1) := by decide +kernel
theorem dX4_isBehind_5 : decode cX4_isBehind 5 = .ok (.iaload, 1) := by decide +kernel
theorem dX4_isBehind_6 : decode cX4_isBehind 6 = .ok (.iload_n 2, 1) := by decide +kernel
theorem dX4_isBehind_7 : decode cX4_isBehind 7 = .ok (.if_icmp .gt 23, 3) := by decide +kernel
theorem dX4_isBehind_10 : decode cX4_isBehind 10 = .ok (.aload_n 0, 1) := by decide +kernel
theorem dX4_isBehind_11 : decode cX4_isBehind 11 = .ok (.getfield 15, 3) := by decide +kernel
theorem dX4_isBehind_14 : decode cX4_isBehind 14 = .ok (.iload_n 1, 1) := by decide +kernel
theorem dX4_isBehind_15 : decode cX4_isBehind 15 = .ok (.iaload, 1) := by decide +kernel
theorem dX4_isBehind_16 : decode cX4_isBehind 16 = .ok (.iload_n 2, 1) := by decide +kernel
theorem dX4_isBehind_17 : decode cX4_isBehind 17 = .ok (.if_icmp .ne 17, 3) := by decide +kernel
theorem dX4_isBehind_20 : decode cX4_isBehind 20 = .ok (.aload_n 0, 1) := by decide +kernel
theorem dX4_isBehind_21 : decode cX4_isBehind 21 = .ok (.getfield 18, 3) := by decide +kernel
theorem dX4_isBehind_24 : decode cX4_isBehind 24 = .ok (.iload_n 1, 1) := by decide +kernel
theorem dX4_isBehind_25 : decode cX4_isBehind 25 = .ok (.iaload, 1) := by decide +kernel
theorem dX4_isBehind_26 : decode cX4_isBehind 26 = .ok (.iload_n 3, 1) := by decide +kernel
theorem dX4_isBehind_27 : decode cX4_isBehind 27 = .ok (.if_icmp .ge 7, 3) := by decide +kernel
theorem dX4_isBehind_30 : decode cX4_isBehind 30 = .ok (.iconst 1, 1) := by decide +kernel
theorem dX4_isBehind_31 : decode cX4_isBehind 31 = .ok (.goto 4, 3) := by decide +kernel
theorem dX4_isBehind_34 : decode cX4_isBehind 34 = .ok (.iconst 0, 1) := by decide +kernel
theorem dX4_isBehind_35 : decode cX4_isBehind 35 = .ok (.ireturn, 1) := by decide +kernel
theorem dX5_init_0 : decode cX5_init 0 = .ok (.aload_n 0, 1) := by decide +kernel
theorem dX5_init_1 : decode cX5_init 1 = .ok (.invokespecial 3, 3) := by decide +kernel
theorem dX5_init_4 : decode cX5_init 4 = .ok (.aload_n 0, 1) := by decide +kernel
theorem dX5_init_5 : decode cX5_init 5 = .ok (.bipush 12, 2) := by decide +kernel
theorem dX5_init_7 : decode cX5_init 7 = .ok (.newarray .int, 2) := by decide +kernel
theorem dX5_init_9 : decode cX5_init 9 = .ok (.putfield 9, 3) := by decide +kernel
theorem dX5_init_12 : decode cX5_init 12 = .ok (.aload_n 0, 1) := by decide +kernel
theorem dX5_init_13 : decode cX5_init 13 = .ok (.iconst 0, 1) := by decide +kernel
theorem dX5_init_14 : decode cX5_init 14 = .ok (.putfield 15, 3) := by decide +kernel
theorem dX5_init_17 : decode cX5_init 17 = .ok (.return_, 1) := by decide +kernel
theorem dX5_add_0 : decode cX5_add 0 = .ok (.aload_n 0, 1) := by decide +kernel
theorem dX5_add_1 : decode cX5_add 1 = .ok (.getfield 15, 3) := by decide +kernel
theorem dX5_add_4 : decode cX5_add 4 = .ok (.bipush 12, 2) := by decide +kernel
theorem dX5_add_6 : decode cX5_add 6 = .ok (.if_icmp .lt 5, 3) := by decide +kernel
theorem dX5_add_9 : decode cX5_add 9 = .ok (.iconst 0, 1) := by decide +kernel
theorem dX5_add_10 : decode cX5_add 10 = .ok (.ireturn, 1) := by decide +kernel
theorem dX5_add_11 : decode cX5_add 11 = .ok (.aload_n 0, 1) := by decide +kernel
theorem dX5_add_12 : decode cX5_add 12 = .ok (.getfield 9, 3) := by decide +kernel
theorem dX5_add_15 : decode cX5_add 15 = .ok (.aload_n 0, 1) := by decide +kernel
theorem dX5_add_16 : decode cX5_add 16 = .ok (.getfield 15, 3) := by decide +kernel
theorem dX5_add_19 : decode cX5_add 19 = .ok (.iload_n 1, 1) := by decide +kernel
theorem dX5_add_20 : decode cX5_add 20 = .ok (.iastore, 1) := by decide +kernel
theorem dX5_add_21 : decode cX5_add 21 = .ok (.aload_n 0, 1) := by decide +kernel
theorem dX5_add_22 : decode cX5_add 22 = .ok (.dup, 1) := by decide +kernel
theorem dX5_add_23 : decode cX5_add 23 = .ok (.getfield 15, 3) := by decide +kernel
theorem dX5_add_26 : decode cX5_add 26 = .ok (.iconst 1, 1) := by decide +kernel
theorem dX5_add_27 : decode cX5_add 27 = .ok (.iadd, 1) := by decide +kernel
theorem dX5_add_28 : decode cX5_add 28 = .ok (.putfield 15, 3) := by decide +kernel
theorem dX5_add_31 : decode cX5_add 31 = .ok (.iconst 1, 1) := by decide +kernel
theorem dX5_add_32 : decode cX5_add 32 = .ok (.ireturn, 1) := by decide +kernel
theorem dX5_copyOf_0 : decode cX5_copyOf 0 = .ok (.aload_n 0, 1) := by decide +kernel
theorem dX5_copyOf_1 : decode cX5_copyOf 1 = .ok (.iconst 0, 1) := by decide +kernel
theorem dX5_copyOf_2 : decode cX5_copyOf 2 = .ok (.putfield 15, 3) := by decide +kernel
theorem dX5_copyOf_5 : decode cX5_copyOf 5 = .ok (.iconst 0, 1) := by decide +kernel
theorem dX5_copyOf_6 : decode cX5_copyOf 6 = .ok (.istore_n 2, 1) := by decide +kernel
theorem dX5_copyOf_7 : decode cX5_copyOf 7 = .ok (.iload_n 2, 1) := by decide +kernel
theorem dX5_copyOf_8 : decode cX5_copyOf 8 = .ok (.aload_n 1, 1) := by decide +kernel
theorem dX5_copyOf_9 : decode cX5_copyOf 9 = .ok (.getfield 15, 3) := by decide +kernel
theorem dX5_copyOf_12 : decode cX5_copyOf 12 = .ok (.if_icmp .ge 20, 3) := by decide +kernel
theorem dX5_copyOf_15 : decode cX5_copyOf 15 = .ok (.aload_n 0, 1) := by decide +kernel
theorem dX5_copyOf_16 : decode cX5_copyOf 16 = .ok (.aload_n 1, 1) := by decide +kernel
theorem dX5_copyOf_17 : decode cX5_copyOf 17 = .ok (.getfield 9, 3) := by decide +kernel
theorem dX5_copyOf_20 : decode cX5_copyOf 20 = .ok (.iload_n 2, 1) := by decide +kernel
theorem dX5_copyOf_21 : decode cX5_copyOf 21 = .ok (.iaload, 1) := by decide +kernel
theorem dX5_copyOf_22 : decode cX5_copyOf 22 = .ok (.invokevirtual 19, 3) := by decide +kernel
theorem dX5_copyOf_25 : decode cX5_copyOf 25 = .ok (.pop, 1) := by decide +kernel
theorem dX5_copyOf_26 : decode cX5_copyOf 26 = .ok (.iinc 2 1, 3) := by decide +kernel
theorem dX5_copyOf_29 : decode cX5_copyOf 29 = .ok (.goto (-22), 3) := by decide +kernel
theorem dX5_copyOf_32 : decode cX5_copyOf 32 = .ok (.return_, 1) := by decide +kernel
theorem dX5_mirrorOf_0 : decode cX5_mirrorOf 0 = .ok (.aload_n 0, 1) := by decide +kernel
theorem dX5_mirrorOf_1 : decode cX5_mirrorOf 1 = .ok (.iconst 0, 1) := by decide +kernel
theorem dX5_mirrorOf_2 : decode cX5_mirrorOf 2 = .ok (.putfield 15, 3) := by decide +kernel
theorem dX5_mirrorOf_5 : decode cX5_mirrorOf 5 = .ok (.aload_n 1, 1) := by decide +kernel
theorem dX5_mirrorOf_6 : decode cX5_mirrorOf 6 = .ok (.getfield 15, 3) := by decide +kernel
theorem dX5_mirrorOf_9 : decode cX5_mirrorOf 9 = .ok (.iconst 1, 1) := by decide +kernel
theorem dX5_mirrorOf_10 : decode cX5_mirrorOf 10 = .ok (.isub, 1) := by decide +kernel
theorem dX5_mirrorOf_11 : decode cX5_mirrorOf 11 = .ok (.istore_n 2, 1) := by decide +kernel
theorem dX5_mirrorOf_12 : decode cX5_mirrorOf 12 = .ok (.iload_n 2, 1) := by decide +kernel
theorem dX5_mirrorOf_13 : decode cX5_mirrorOf 13 = .ok (.ifCond .lt 20, 3) := by decide +kernel
theorem dX5_mirrorOf_16 : decode cX5_mirrorOf 16 = .ok (.aload_n 0, 1) := by decide +kernel
theorem dX5_mirrorOf_17 : decode cX5_mirrorOf 17 = .ok (.aload_n 1, 1) := by decide +kernel
theorem dX5_mirrorOf_18 : decode cX5_mirrorOf 18 = .ok (.getfield 9, 3) := by decide +kernel
theorem dX5_mirrorOf_21 : decode cX5_mirrorOf 21 = .ok (.iload_n 2, 1) := by decide +kernel
theorem dX5_mirrorOf_22 : decode cX5_mirrorOf 22 = .ok (.iaload, 1) := by decide +kernel
theorem dX5_mirrorOf_23 : decode cX5_mirrorOf 23 = .ok (.invokevirtual 19, 3) := by decide +kernel
theorem dX5_mirrorOf_26 : decode cX5_mirrorOf 26 = .ok (.pop, 1) := by decide +kernel
theorem dX5_mirrorOf_27 : decode cX5_mirrorOf 27 = .ok (.iinc 2 (-1), 3) := by decide +kernel
theorem dX5_mirrorOf_30 : decode cX5_mirrorOf 30 = .ok (.goto (-18), 3) := by decide +kernel
theorem dX5_mirrorOf_33 : decode cX5_mirrorOf 33 = .ok (.return_, 1) := by decide +kernel
theorem dX5_compareWith_0 : decode cX5_compareWith 0 = .ok (.aload_n 0, 1) := by decide +kernel
theorem dX5_compareWith_1 : decode cX5_compareWith 1 = .ok (.getfield 15, 3) := by decide +kernel
theorem dX5_compareWith_4 : decode cX5_compareWith 4 = .ok (.aload_n 1, 1) := by decide +kernel
theorem dX5_compareWith_5 : decode cX5_compareWith 5 = .ok (.getfield 15, 3) := by decide +kernel
theorem dX5_compareWith_8 : decode cX5_compareWith 8 = .ok (.invokestatic 23, 3) := by decide +kernel
theorem dX5_compareWith_11 : decode cX5_compareWith 11 = .ok (.istore_n 2, 1) := by decide +kernel
theorem dX5_compareWith_12 : decode cX5_compareWith 12 = .ok (.iconst 0, 1) := by decide +kernel
theorem dX5_compareWith_13 : decode cX5_compareWith 13 = .ok (.istore_n 3, 1) := by decide +kernel
theorem dX5_compareWith_14 : decode cX5_compareWith 14 = .ok (.iload_n 3, 1) := by decide +kernel
theorem dX5_compareWith_15 : decode cX5_compareWith 15 = .ok (.iload_n 2, 1) := by decide +kernel
theorem dX5_compareWith_16 : decode cX5_compareWith 16 = .ok (.if_icmp .ge 38, 3) := by decide +kernel
theorem dX5_compareWith_19 : decode cX5_compareWith 19 = .ok (.aload_n 0, 1) := by decide +kernel
theorem dX5_compareWith_20 : decode cX5_compareWith 20 = .ok (.getfield 9, 3) := by decide +kernel
theorem dX5_compareWith_23 : decode cX5_compareWith 23 = .ok (.iload_n 3, 1) := by decide +kernel
theorem dX5_compareWith_24 : decode cX5_compareWith 24 = .ok (.iaload, 1) := by decide +kernel
theorem dX5_compareWith_25 : decode cX5_compareWith 25 = .ok (.aload_n 1, 1) := by decide +kernel
theorem dX5_compareWith_26 : decode cX5_compareWith 26 = .ok (.getfield 9, 3) := by decide +kernel
theorem dX5_compareWith_29 : decode cX5_compareWith 29 = .ok (.iload_n 3, 1) := by decide +kernel
theorem dX5_compareWith_30 : decode cX5_compareWith 30 = .ok (.iaload, 1) := by decide +kernel
theorem dX5_compareWith_31 : decode cX5_compareWith 31 = .ok (.if_icmp .eq 17, 3) := by decide +kernel
theorem dX5_compareWith_34 : decode cX5_compareWith 34 = .ok (.aload_n 0, 1) := by decide +kernel
theorem dX5_compareWith_35 : decode cX5_compareWith 35 = .ok (.getfield 9, 3) := by decide +kernel
theorem dX5_compareWith_38 : decode cX5_compareWith 38 = .ok (.iload_n 3, 1) := by decide +kernel
theorem dX5_compareWith_39 : decode cX5_compareWith 39 = .ok (.iaload, 1) := by decide +kernel
theorem dX5_compareWith_40 : decode cX5_compareWith 40 = .ok (.aload_n 1, 1) := by decide +kernel
theorem dX5_compareWith_41 : decode cX5_compareWith 41 = .ok (.getfield 9, 3) := by decide +kernel
theorem dX5_compareWith_44 : decode cX5_compareWith 44 = .ok (.iload_n 3, 1) := by decide +kernel
theorem dX5_compareWith_45 : decode cX5_compareWith 45 = .ok (.iaload, 1) := by decide +kernel
theorem dX5_compareWith_46 : decode cX5_compareWith 46 = .ok (.isub, 1) := by decide +kernel
theorem dX5_compareWith_47 : decode cX5_compareWith 47 = .ok (.ireturn, 1) := by decide +kernel
theorem dX5_compareWith_48 : decode cX5_compareWith 48 = .ok (.iinc 3 1, 3) := by decide +kernel
theorem dX5_compareWith_51 : decode cX5_compareWith 51 = .ok (.goto (-37), 3) := by decide +kernel
theorem dX5_compareWith_54 : decode cX5_compareWith 54 = .ok (.aload_n 0, 1) := by decide +kernel
theorem dX5_compareWith_55 : decode cX5_compareWith 55 = .ok (.getfield 15, 3) := by decide +kernel
theorem dX5_compareWith_58 : decode cX5_compareWith 58 = .ok (.aload_n 1, 1) := by decide +kernel
theorem dX5_compareWith_59 : decode cX5_compareWith 59 = .ok (.getfield 15, 3) := by decide +kernel
theorem dX5_compareWith_62 : decode cX5_compareWith 62 = .ok (.isub, 1) := by decide +kernel
theorem dX5_compareWith_63 : decode cX5_compareWith 63 = .ok (.ireturn, 1) := by decide +kernel
theorem dX6_init_0 : decode cX6_init 0 = .ok (.aload_n 0, 1) := by decide +kernel
theorem dX6_init_1 : decode cX6_init 1 = .ok (.invokespecial 3, 3) := by decide +kernel
theorem dX6_init_4 : decode cX6_init 4 = .ok (.aload_n 0, 1) := by decide +kernel
theorem dX6_init_5 : decode cX6_init 5 = .ok (.bipush 13, 2) := by decide +kernel
theorem dX6_init_7 : decode cX6_init 7 = .ok (.newarray .int, 2) := by decide +kernel
theorem dX6_init_9 : decode cX6_init 9 = .ok (.putfield 9, 3) := by decide +kernel
theorem dX6_init_12 : decode cX6_init 12 = .ok (.aload_n 0, 1) := by decide +kernel
theorem dX6_init_13 : decode cX6_init 13 = .ok (.bipush 13, 2) := by decide +kernel
theorem dX6_init_15 : decode cX6_init 15 = .ok (.newarray .int, 2) := by decide +kernel
theorem dX6_init_17 : decode cX6_init 17 = .ok (.putfield 15, 3) := by decide +kernel
theorem dX6_init_20 : decode cX6_init 20 = .ok (.return_, 1) := by decide +kernel
theorem dX6_empty_0 : decode cX6_empty 0 = .ok (.aload_n 0, 1) := by decide +kernel
theorem dX6_empty_1 : decode cX6_empty 1 = .ok (.getfield 15, 3) := by decide +kernel
theorem dX6_empty_4 : decode cX6_empty 4 = .ok (.ldc 18, 2) := by decide +kernel
theorem dX6_empty_6 : decode cX6_empty 6 = .ok (.invokestatic 19, 3) := by decide +kernel
theorem dX6_empty_9 : decode cX6_empty 9 = .ok (.return_, 1) := by decide +kernel
theorem dX6_offer_0 : decode cX6_offer 0 = .ok (.iconst 1, 1) := by decide +kernel
theorem dX6_offer_1 : decode cX6_offer 1 = .ok (.istore 4, 2) := by decide +kernel
theorem dX6_offer_3 : decode cX6_offer 3 = .ok (.iload 4, 2) := by decide +kernel
theorem dX6_offer_5 : decode cX6_offer 5 = .ok (.iload_n 3, 1) := by decide +kernel
theorem dX6_offer_6 : decode cX6_offer 6 = .ok (.if_icmp .gt 46, 3) := by decide +kernel
theorem dX6_offer_9 : decode cX6_offer 9 = .ok (.aload_n 2, 1) := by decide +kernel
theorem dX6_offer_10 : decode cX6_offer 10 = .ok (.iload 4, 2) := by decide +kernel
theorem dX6_offer_12 : decode cX6_offer 12 = .ok (.invokevirtual 25, 3) := by decide +kernel
theorem dX6_offer_15 : decode cX6_offer 15 = .ok (.istore 5, 2) := by decide +kernel
theorem dX6_offer_17 : decode cX6_offer 17 = .ok (.iload 5, 2) := by decide +kernel
theorem dX6_offer_19 : decode cX6_offer 19 = .ok (.aload_n 0, 1) := by decide +kernel
theorem dX6_offer_20 : decode cX6_offer 20 = .ok (.getfield 15, 3) := by decide +kernel
theorem dX6_offer_23 : decode cX6_offer 23 = .ok (.iload 4, 2) := by decide +kernel
theorem dX6_offer_25 : decode cX6_offer 25 = .ok (.iaload, 1) := by decide +kernel
theorem dX6_offer_26 : decode cX6_offer 26 = .ok (.if_icmp .ge 20, 3) := by decide +kernel
theorem dX6_offer_29 : decode cX6_offer 29 = .ok (.aload_n 0, 1) := by decide +kernel
theorem dX6_offer_30 : decode cX6_offer 30 = .ok (.getfield 15, 3) := by decide +kernel
theorem dX6_offer_33 : decode cX6_offer 33 = .ok (.iload 4, 2) := by decide +kernel
theorem dX6_offer_35 : decode cX6_offer 35 = .ok (.iload 5, 2) := by decide +kernel
theorem dX6_offer_37 : decode cX6_offer 37 = .ok (.iastore, 1) := by decide +kernel
theorem dX6_offer_38 : decode cX6_offer 38 = .ok (.aload_n 0, 1) := by decide +kernel
theorem dX6_offer_39 : decode cX6_offer 39 = .ok (.getfield 9, 3) := by decide +kernel
theorem dX6_offer_42 : decode cX6_offer 42 = .ok (.iload 4, 2) := by decide +kernel
theorem dX6_offer_44 : decode cX6_offer 44 = .ok (.iload_n 1, 1) := by decide +kernel
theorem dX6_offer_45 : decode cX6_offer 45 = .ok (.iastore, 1) := by decide +kernel
theorem dX6_offer_46 : decode cX6_offer 46 = .ok (.iinc 4 1, 3) := by decide +kernel
theorem dX6_offer_49 : decode cX6_offer 49 = .ok (.goto (-46), 3) := by decide +kernel
theorem dX6_offer_52 : decode cX6_offer 52 = .ok (.return_, 1) := by decide +kernel
theorem dX7_init_0 : decode cX7_init 0 = .ok (.aload_n 0, 1) := by decide +kernel
theorem dX7_init_1 : decode cX7_init 1 = .ok (.invokespecial 3, 3) := by decide +kernel
theorem dX7_init_4 : decode cX7_init 4 = .ok (.aload_n 0, 1) := by decide +kernel
theorem dX7_init_5 : decode cX7_init 5 = .ok (.new 9, 3) := by decide +kernel
theorem dX7_init_8 : decode cX7_init 8 = .ok (.dup, 1) := by decide +kernel
theorem dX7_init_9 : decode cX7_init 9 = .ok (.invokespecial 11, 3) := by decide +kernel
theorem dX7_init_12 : decode cX7_init 12 = .ok (.putfield 12, 3) := by decide +kernel
theorem dX7_init_15 : decode cX7_init 15 = .ok (.aload_n 0, 1) := by decide +kernel
theorem dX7_init_16 : decode cX7_init 16 = .ok (.new 9, 3) := by decide +kernel
theorem dX7_init_19 : decode cX7_init 19 = .ok (.dup, 1) := by decide +kernel
theorem dX7_init_20 : decode cX7_init 20 = .ok (.invokespecial 11, 3) := by decide +kernel
theorem dX7_init_23 : decode cX7_init 23 = .ok (.putfield 18, 3) := by decide +kernel
theorem dX7_init_26 : decode cX7_init 26 = .ok (.aload_n 0, 1) := by decide +kernel
theorem dX7_init_27 : decode cX7_init 27 = .ok (.bipush 13, 2) := by decide +kernel
theorem dX7_init_29 : decode cX7_init 29 = .ok (.bipush 13, 2) := by decide +kernel
theorem dX7_init_31 : decode cX7_init 31 = .ok (.multianewarray 21 2, 4) := by decide +kernel
theorem dX7_init_35 : decode cX7_init 35 = .ok (.putfield 23, 3) := by decide +kernel
theorem dX7_init_38 : decode cX7_init 38 = .ok (.aload_n 0, 1) := by decide +kernel
theorem dX7_init_39 : decode cX7_init 39 = .ok (.bipush 24, 2) := by decide +kernel
theorem dX7_init_41 : decode cX7_init 41 = .ok (.newarray .int, 2) := by decide +kernel
theorem dX7_init_43 : decode cX7_init 43 = .ok (.putfield 26, 3) := by decide +kernel
theorem dX7_init_46 : decode cX7_init 46 = .ok (.aload_n 0, 1) := by decide +kernel
theorem dX7_init_47 : decode cX7_init 47 = .ok (.bipush 24, 2) := by decide +kernel
theorem dX7_init_49 : decode cX7_init 49 = .ok (.newarray .int, 2) := by decide +kernel
theorem dX7_init_51 : decode cX7_init 51 = .ok (.putfield 30, 3) := by decide +kernel
theorem dX7_init_54 : decode cX7_init 54 = .ok (.aload_n 0, 1) := by decide +kernel
theorem dX7_init_55 : decode cX7_init 55 = .ok (.iconst 0, 1) := by decide +kernel
theorem dX7_init_56 : decode cX7_init 56 = .ok (.putfield 33, 3) := by decide +kernel
theorem dX7_init_59 : decode cX7_init 59 = .ok (.aload_n 0, 1) := by decide +kernel
theorem dX7_init_60 : decode cX7_init 60 = .ok (.aload_n 1, 1) := by decide +kernel
theorem dX7_init_61 : decode cX7_init 61 = .ok (.putfield 37, 3) := by decide +kernel
theorem dX7_init_64 : decode cX7_init 64 = .ok (.return_, 1) := by decide +kernel
theorem dX7_measure_0 : decode cX7_measure 0 = .ok (.aload_n 0, 1) := by decide +kernel
theorem dX7_measure_1 : decode cX7_measure 1 = .ok (.getfield 12, 3) := by decide +kernel
theorem dX7_measure_4 : decode cX7_measure 4 = .ok (.aload_n 1, 1) := by decide +kernel
theorem dX7_measure_5 : decode cX7_measure 5 = .ok (.invokevirtual 41, 3) := by decide +kernel
theorem dX7_measure_8 : decode cX7_measure 8 = .ok (.aload_n 0, 1) := by decide +kernel
theorem dX7_measure_9 : decode cX7_measure 9 = .ok (.getfield 18, 3) := by decide +kernel
theorem dX7_measure_12 : decode cX7_measure 12 = .ok (.aload_n 2, 1) := by decide +kernel
theorem dX7_measure_13 : decode cX7_measure 13 = .ok (.invokevirtual 41, 3) := by decide +kernel
theorem dX7_measure_16 : decode cX7_measure 16 = .ok (.aload_n 0, 1) := by decide +kernel
theorem dX7_measure_17 : decode cX7_measure 17 = .ok (.invokevirtual 45, 3) := by decide +kernel
theorem dX7_measure_20 : decode cX7_measure 20 = .ok (.aload_n 0, 1) := by decide +kernel
theorem dX7_measure_21 : decode cX7_measure 21 = .ok (.aload_n 0, 1) := by decide +kernel
theorem dX7_measure_22 : decode cX7_measure 22 = .ok (.getfield 12, 3) := by decide +kernel
theorem dX7_measure_25 : decode cX7_measure 25 = .ok (.getfield 48, 3) := by decide +kernel
theorem dX7_measure_28 : decode cX7_measure 28 = .ok (.invokevirtual 51, 3) := by decide +kernel
theorem dX7_measure_31 : decode cX7_measure 31 = .ok (.ireturn, 1) := by decide +kernel
theorem dX7_measureMirrored_0 : decode cX7_measureMirrored 0 = .ok (.aload_n 0, 1) := by decide +kernel
theorem dX7_measureMirrored_1 : decode cX7_measureMirrored 1 = .ok (.getfield 12, 3) := by decide +kernel
theorem dX7_measureMirrored_4 : decode cX7_measureMirrored 4 = .ok (.aload_n 1, 1) := by decide +kernel
theorem dX7_measureMirrored_5 : decode cX7_measureMirrored 5 = .ok (.invokevirtual 55, 3) := by decide +kernel
theorem dX7_measureMirrored_8 : decode cX7_measureMirrored 8 = .ok (.aload_n 0, 1) := by decide +kernel
theorem dX7_measureMirrored_9 : decode cX7_measureMirrored 9 = .ok (.getfield 18, 3) := by decide +kernel
theorem dX7_measureMirrored_12 : decode cX7_measureMirrored 12 = .ok (.aload_n 2, 1) := by decide +kernel
theorem dX7_measureMirrored_13 : decode cX7_measureMirrored 13 = .ok (.invokevirtual 55, 3) := by decide +kernel
theorem dX7_measureMirrored_16 : decode cX7_measureMirrored 16 = .ok (.aload_n 0, 1) := by decide +kernel
theorem dX7_measureMirrored_17 : decode cX7_measureMirrored 17 = .ok (.invokevirtual 45, 3) := by decide +kernel
theorem dX7_measureMirrored_20 : decode cX7_measureMirrored 20 = .ok (.return_, 1) := by decide +kernel
theorem dX7_priceOfFirst_0 : decode cX7_priceOfFirst 0 = .ok (.iload_n 1, 1) := by decide +kernel
theorem dX7_priceOfFirst_1 : decode cX7_priceOfFirst 1 = .ok (.ifCond .lt 14, 3) := by decide +kernel
theorem dX7_priceOfFirst_4 : decode cX7_priceOfFirst 4 = .ok (.iload_n 1, 1) := by decide +kernel
theorem dX7_priceOfFirst_5 : decode cX7_priceOfFirst 5 = .ok (.aload_n 0, 1) := by decide +kernel
theorem dX7_priceOfFirst_6 : decode cX7_priceOfFirst 6 = .ok (.getfield 12, 3) := by decide +kernel
theorem dX7_priceOfFirst_9 : decode cX7_priceOfFirst 9 = .ok (.getfield 48, 3) := by decide +kernel
theorem dX7_priceOfFirst_12 : decode cX7_priceOfFirst 12 = .ok (.if_icmp .le 8, 3) := by decide +kernel
theorem dX7_priceOfFirst_15 : decode cX7_priceOfFirst 15 = .ok (.ldc 58, 2) := by decide +kernel
theorem dX7_priceOfFirst_17 : decode cX7_priceOfFirst 17 = .ok (.goto 17, 3) := by decide +kernel
theorem dX7_priceOfFirst_20 : decode cX7_priceOfFirst 20 = .ok (.aload_n 0, 1) := by decide +kernel
theorem dX7_priceOfFirst_21 : decode cX7_priceOfFirst 21 = .ok (.getfield 23, 3) := by decide +kernel
theorem dX7_priceOfFirst_24 : decode cX7_priceOfFirst 24 = .ok (.iload_n 1, 1) := by decide +kernel
theorem dX7_priceOfFirst_25 : decode cX7_priceOfFirst 25 = .ok (.aaload, 1) := by decide +kernel
theorem dX7_priceOfFirst_26 : decode cX7_priceOfFirst 26 = .ok (.aload_n 0, 1) := by decide +kernel
theorem dX7_priceOfFirst_27 : decode cX7_priceOfFirst 27 = .ok (.getfield 18, 3) := by decide +kernel
theorem dX7_priceOfFirst_30 : decode cX7_priceOfFirst 30 = .ok (.getfield 48, 3) := by decide +kernel
theorem dX7_priceOfFirst_33 : decode cX7_priceOfFirst 33 = .ok (.iaload, 1) := by decide +kernel
theorem dX7_priceOfFirst_34 : decode cX7_priceOfFirst 34 = .ok (.ireturn, 1) := by decide +kernel
theorem dX7_leastOfBeginnings_0 : decode cX7_leastOfBeginnings 0 = .ok (.ldc 58, 2) := by decide +kernel
theorem dX7_leastOfBeginnings_2 : decode cX7_leastOfBeginnings 2 = .ok (.istore_n 1, 1) := by decide +kernel
theorem dX7_leastOfBeginnings_3 : decode cX7_leastOfBeginnings 3 = .ok (.iconst 0, 1) := by decide +kernel
theorem dX7_leastOfBeginnings_4 : decode cX7_leastOfBeginnings 4 = .ok (.istore_n 2, 1) := by decide +kernel
theorem dX7_leastOfBeginnings_5 : decode cX7_leastOfBeginnings 5 = .ok (.iload_n 2, 1) := by decide +kernel
theorem dX7_leastOfBeginnings_6 : decode cX7_leastOfBeginnings 6 = .ok (.aload_n 0, 1) := by decide +kernel
theorem dX7_leastOfBeginnings_7 : decode cX7_leastOfBeginnings 7 = .ok (.getfield 18, 3) := by decide +kernel
theorem dX7_leastOfBeginnings_10 : decode cX7_leastOfBeginnings 10 = .ok (.getfield 48, 3) := by decide +kernel
theorem dX7_leastOfBeginnings_13 : decode cX7_leastOfBeginnings 13 = .ok (.if_icmp .gt 28, 3) := by decide +kernel
theorem dX7_leastOfBeginnings_16 : decode cX7_leastOfBeginnings 16 = .ok (.iload_n 1, 1) := by decide +kernel
theorem dX7_leastOfBeginnings_17 : decode cX7_leastOfBeginnings 17 = .ok (.aload_n 0, 1) := by decide +kernel
theorem dX7_leastOfBeginnings_18 : decode cX7_leastOfBeginnings 18 = .ok (.getfield 23, 3) := by decide +kernel
theorem dX7_leastOfBeginnings_21 : decode cX7_leastOfBeginnings 21 = .ok (.aload_n 0, 1) := by decide +kernel
theorem dX7_leastOfBeginnings_22 : decode cX7_leastOfBeginnings 22 = .ok (.getfield 12, 3) := by decide +kernel
theorem dX7_leastOfBeginnings_25 : decode cX7_leastOfBeginnings 25 = .ok (.getfield 48, 3) := by decide +kernel
theorem dX7_leastOfBeginnings_28 : decode cX7_leastOfBeginnings 28 = .ok (.aaload, 1) := by decide +kernel
theorem dX7_leastOfBeginnings_29 : decode cX7_leastOfBeginnings 29 = .ok (.iload_n 2, 1) := by decide +kernel
theorem dX7_leastOfBeginnings_30 : decode cX7_leastOfBeginnings 30 = .ok (.iaload, 1) := by decide +kernel
theorem dX7_leastOfBeginnings_31 : decode cX7_leastOfBeginnings 31 = .ok (.invokestatic 59, 3) := by decide +kernel
theorem dX7_leastOfBeginnings_34 : decode cX7_leastOfBeginnings 34 = .ok (.istore_n 1, 1) := by decide +kernel
theorem dX7_leastOfBeginnings_35 : decode cX7_leastOfBeginnings 35 = .ok (.iinc 2 1, 3) := by decide +kernel
theorem dX7_leastOfBeginnings_38 : decode cX7_leastOfBeginnings 38 = .ok (.goto (-33), 3) := by decide +kernel
theorem dX7_leastOfBeginnings_41 : decode cX7_leastOfBeginnings 41 = .ok (.iload_n 1, 1) := by decide +kernel
theorem dX7_leastOfBeginnings_42 : decode cX7_leastOfBeginnings 42 = .ok (.ireturn, 1) := by decide +kernel
theorem dX7_trace_0 : decode cX7_trace 0 = .ok (.aload_n 0, 1) := by decide +kernel
theorem dX7_trace_1 : decode cX7_trace 1 = .ok (.iconst 0, 1) := by decide +kernel
theorem dX7_trace_2 : decode cX7_trace 2 = .ok (.putfield 33, 3) := by decide +kernel
theorem dX7_trace_5 : decode cX7_trace 5 = .ok (.aload_n 0, 1) := by decide +kernel
theorem dX7_trace_6 : decode cX7_trace 6 = .ok (.getfield 12, 3) := by decide +kernel
theorem dX7_trace_9 : decode cX7_trace 9 = .ok (.getfield 48, 3) := by decide +kernel
theorem dX7_trace_12 : decode cX7_trace 12 = .ok (.istore_n 1, 1) := by decide +kernel
theorem dX7_trace_13 : decode cX7_trace 13 = .ok (.aload_n 0, 1) := by decide +kernel
theorem dX7_trace_14 : decode cX7_trace 14 = .ok (.getfield 18, 3) := by decide +kernel
theorem dX7_trace_17 : decode cX7_trace 17 = .ok (.getfield 48, 3) := by decide +kernel
theorem dX7_trace_20 : decode cX7_trace 20 = .ok (.istore_n 2, 1) := by decide +kernel
theorem dX7_trace_21 : decode cX7_trace 21 = .ok (.iconst 0, 1) := by decide +kernel
theorem dX7_trace_22 : decode cX7_trace 22 = .ok (.istore_n 3, 1) := by decide +kernel
theorem dX7_trace_23 : decode cX7_trace 23 = .ok (.iload_n 3, 1) := by decide +kernel
theorem dX7_trace_24 : decode cX7_trace 24 = .ok (.bipush 24, 2) := by decide +kernel
theorem dX7_trace_26 : decode cX7_trace 26 = .ok (.if_icmp .ge 169, 3) := by decide +kernel
theorem dX7_trace_29 : decode cX7_trace 29 = .ok (.iload_n 1, 1) := by decide +kernel
theorem dX7_trace_30 : decode cX7_trace 30 = .ok (.iload_n 2, 1) := by decide +kernel
theorem dX7_trace_31 : decode cX7_trace 31 = .ok (.iadd, 1) := by decide +kernel
theorem dX7_trace_32 : decode cX7_trace 32 = .ok (.ifCond .le 163, 3) := by decide +kernel
theorem dX7_trace_35 : decode cX7_trace 35 = .ok (.aload_n 0, 1) := by decide +kernel
theorem dX7_trace_36 : decode cX7_trace 36 = .ok (.getfield 23, 3) := by decide +kernel
theorem dX7_trace_39 : decode cX7_trace 39 = .ok (.iload_n 1, 1) := by decide +kernel
theorem dX7_trace_40 : decode cX7_trace 40 = .ok (.aaload, 1) := by decide +kernel
theorem dX7_trace_41 : decode cX7_trace 41 = .ok (.iload_n 2, 1) := by decide +kernel
theorem dX7_trace_42 : decode cX7_trace 42 = .ok (.iaload, 1) := by decide +kernel
theorem dX7_trace_43 : decode cX7_trace 43 = .ok (.istore 4, 2) := by decide +kernel
theorem dX7_trace_45 : decode cX7_trace 45 = .ok (.iload_n 1, 1) := by decide +kernel
theorem dX7_trace_46 : decode cX7_trace 46 = .ok (.ifCond .le 54, 3) := by decide +kernel
theorem dX7_trace_49 : decode cX7_trace 49 = .ok (.iload_n 2, 1) := by decide +kernel
theorem dX7_trace_50 : decode cX7_trace 50 = .ok (.ifCond .le 50, 3) := by decide +kernel
theorem dX7_trace_53 : decode cX7_trace 53 = .ok (.iload 4, 2) := by decide +kernel
theorem dX7_trace_55 : decode cX7_trace 55 = .ok (.aload_n 0, 1) := by decide +kernel
theorem dX7_trace_56 : decode cX7_trace 56 = .ok (.iload_n 1, 1) := by decide +kernel
theorem dX7_trace_57 : decode cX7_trace 57 = .ok (.iload_n 2, 1) := by decide +kernel
theorem dX7_trace_58 : decode cX7_trace 58 = .ok (.invokevirtual 65, 3) := by decide +kernel
theorem dX7_trace_61 : decode cX7_trace 61 = .ok (.if_icmp .ne 39, 3) := by decide +kernel
theorem dX7_trace_64 : decode cX7_trace 64 = .ok (.iinc 1 (-1), 3) := by decide +kernel
theorem dX7_trace_67 : decode cX7_trace 67 = .ok (.iinc 2 (-1), 3) := by decide +kernel
theorem dX7_trace_70 : decode cX7_trace 70 = .ok (.aload_n 0, 1) := by decide +kernel
theorem dX7_trace_71 : decode cX7_trace 71 = .ok (.getfield 12, 3) := by decide +kernel
theorem dX7_trace_74 : decode cX7_trace 74 = .ok (.getfield 68, 3) := by decide +kernel
theorem dX7_trace_77 : decode cX7_trace 77 = .ok (.iload_n 1, 1) := by decide +kernel
theorem dX7_trace_78 : decode cX7_trace 78 = .ok (.iaload, 1) := by decide +kernel
theorem dX7_trace_79 : decode cX7_trace 79 = .ok (.aload_n 0, 1) := by decide +kernel
theorem dX7_trace_80 : decode cX7_trace 80 = .ok (.getfield 18, 3) := by decide +kernel
theorem dX7_trace_83 : decode cX7_trace 83 = .ok (.getfield 68, 3) := by decide +kernel
theorem dX7_trace_86 : decode cX7_trace 86 = .ok (.iload_n 2, 1) := by decide +kernel
theorem dX7_trace_87 : decode cX7_trace 87 = .ok (.iaload, 1) := by decide +kernel
theorem dX7_trace_88 : decode cX7_trace 88 = .ok (.if_icmp .eq 101, 3) := by decide +kernel
theorem dX7_trace_91 : decode cX7_trace 91 = .ok (.aload_n 0, 1) := by decide +kernel
theorem dX7_trace_92 : decode cX7_trace 92 = .ok (.iconst 2, 1) := by decide +kernel
theorem dX7_trace_93 : decode cX7_trace 93 = .ok (.iload_n 1, 1) := by decide +kernel
theorem dX7_trace_94 : decode cX7_trace 94 = .ok (.invokevirtual 71, 3) := by decide +kernel
theorem dX7_trace_97 : decode cX7_trace 97 = .ok (.goto 92, 3) := by decide +kernel
theorem dX7_trace_100 : decode cX7_trace 100 = .ok (.aload_n 0, 1) := by decide +kernel
theorem dX7_trace_101 : decode cX7_trace 101 = .ok (.iload_n 1, 1) := by decide +kernel
theorem dX7_trace_102 : decode cX7_trace 102 = .ok (.iload_n 2, 1) := by decide +kernel
theorem dX7_trace_103 : decode cX7_trace 103 = .ok (.invokevirtual 75, 3) := by decide +kernel
theorem dX7_trace_106 : decode cX7_trace 106 = .ok (.ifCond .eq 29, 3) := by decide +kernel
theorem dX7_trace_109 : decode cX7_trace 109 = .ok (.iload 4, 2) := by decide +kernel
theorem dX7_trace_111 : decode cX7_trace 111 = .ok (.aload_n 0, 1) := by decide +kernel
theorem dX7_trace_112 : decode cX7_trace 112 = .ok (.iload_n 1, 1) := by decide +kernel
theorem dX7_trace_113 : decode cX7_trace 113 = .ok (.iload_n 2, 1) := by decide +kernel
theorem dX7_trace_114 : decode cX7_trace 114 = .ok (.invokevirtual 79, 3) := by decide +kernel
theorem dX7_trace_117 : decode cX7_trace 117 = .ok (.if_icmp .ne 18, 3) := by decide +kernel
theorem dX7_trace_120 : decode cX7_trace 120 = .ok (.iinc 1 (-2), 3) := by decide +kernel
theorem dX7_trace_123 : decode cX7_trace 123 = .ok (.iinc 2 (-2), 3) := by decide +kernel
theorem dX7_trace_126 : decode cX7_trace 126 = .ok (.aload_n 0, 1) := by decide +kernel
theorem dX7_trace_127 : decode cX7_trace 127 = .ok (.iconst 3, 1) := by decide +kernel
theorem dX7_trace_128 : decode cX7_trace 128 = .ok (.iload_n 1, 1) := by decide +kernel
theorem dX7_trace_129 : decode cX7_trace 129 = .ok (.invokevirtual 71, 3) := by decide +kernel
theorem dX7_trace_132 : decode cX7_trace 132 = .ok (.goto 57, 3) := by decide +kernel
theorem dX7_trace_135 : decode cX7_trace 135 = .ok (.iload_n 1, 1) := by decide +kernel
theorem dX7_trace_136 : decode cX7_trace 136 = .ok (.ifCond .le 40, 3) := by decide +kernel
theorem dX7_trace_139 : decode cX7_trace 139 = .ok (.iload 4, 2) := by decide +kernel
theorem dX7_trace_141 : decode cX7_trace 141 = .ok (.aload_n 0, 1) := by decide +kernel
theorem dX7_trace_142 : decode cX7_trace 142 = .ok (.getfield 23, 3) := by decide +kernel
theorem dX7_trace_145 : decode cX7_trace 145 = .ok (.iload_n 1, 1) := by decide +kernel
theorem dX7_trace_146 : decode cX7_trace 146 = .ok (.iconst 1, 1) := by decide +kernel
theorem dX7_trace_147 : decode cX7_trace 147 = .ok (.isub, 1) := by decide +kernel
theorem dX7_trace_148 : decode cX7_trace 148 = .ok (.aaload, 1) := by decide +kernel
theorem dX7_trace_149 : decode cX7_trace 149 = .ok (.iload_n 2, 1) := by decide +kernel
theorem dX7_trace_150 : decode cX7_trace 150 = .ok (.iaload, 1) := by decide +kernel
theorem dX7_trace_151 : decode cX7_trace 151 = .ok (.aload_n 0, 1) := by decide +kernel
theorem dX7_trace_152 : decode cX7_trace 152 = .ok (.getfield 37, 3) := by decide +kernel
theorem dX7_trace_155 : decode cX7_trace 155 = .ok (.getfield 82, 3) := by decide +kernel
theorem dX7_trace_158 : decode cX7_trace 158 = .ok (.iconst 1, 1) := by decide +kernel
theorem dX7_trace_159 : decode cX7_trace 159 = .ok (.iaload, 1) := by decide +kernel
theorem dX7_trace_160 : decode cX7_trace 160 = .ok (.iadd, 1) := by decide +kernel
theorem dX7_trace_161 : decode cX7_trace 161 = .ok (.if_icmp .ne 15, 3) := by decide +kernel
theorem dX7_trace_164 : decode cX7_trace 164 = .ok (.iinc 1 (-1), 3) := by decide +kernel
theorem dX7_trace_167 : decode cX7_trace 167 = .ok (.aload_n 0, 1) := by decide +kernel
theorem dX7_trace_168 : decode cX7_trace 168 = .ok (.iconst 1, 1) := by decide +kernel
theorem dX7_trace_169 : decode cX7_trace 169 = .ok (.iload_n 1, 1) := by decide +kernel
theorem dX7_trace_170 : decode cX7_trace 170 = .ok (.invokevirtual 71, 3) := by decide +kernel
theorem dX7_trace_173 : decode cX7_trace 173 = .ok (.goto 16, 3) := by decide +kernel
theorem dX7_trace_176 : decode cX7_trace 176 = .ok (.iload_n 2, 1) := by decide +kernel
theorem dX7_trace_177 : decode cX7_trace 177 = .ok (.ifCond .le 12, 3) := by decide +kernel
theorem dX7_trace_180 : decode cX7_trace 180 = .ok (.iinc 2 (-1), 3) := by decide +kernel
theorem dX7_trace_183 : decode cX7_trace 183 = .ok (.aload_n 0, 1) := by decide +kernel
theorem dX7_trace_184 : decode cX7_trace 184 = .ok (.iconst 0, 1) := by decide +kernel
theorem dX7_trace_185 : decode cX7_trace 185 = .ok (.iload_n 1, 1) := by decide +kernel
theorem dX7_trace_186 : decode cX7_trace 186 = .ok (.invokevirtual 71, 3) := by decide +kernel
theorem dX7_trace_189 : decode cX7_trace 189 = .ok (.iinc 3 1, 3) := by decide +kernel
theorem dX7_trace_192 : decode cX7_trace 192 = .ok (.goto (-169), 3) := by decide +kernel
theorem dX7_trace_195 : decode cX7_trace 195 = .ok (.return_, 1) := by decide +kernel
theorem dX7_kindOfEdit_0 : decode cX7_kindOfEdit 0 = .ok (.aload_n 0, 1) := by decide +kernel
theorem dX7_kindOfEdit_1 : decode cX7_kindOfEdit 1 = .ok (.getfield 26, 3) := by decide +kernel
theorem dX7_kindOfEdit_4 : decode cX7_kindOfEdit 4 = .ok (.aload_n 0, 1) := by decide +kernel
theorem dX7_kindOfEdit_5 : decode cX7_kindOfEdit 5 = .ok (.getfield 33, 3) := by decide +kernel
theorem dX7_kindOfEdit_8 : decode cX7_kindOfEdit 8 = .ok (.iconst 1, 1) := by decide +kernel
theorem dX7_kindOfEdit_9 : decode cX7_kindOfEdit 9 = .ok (.isub, 1) := by decide +kernel
theorem dX7_kindOfEdit_10 : decode cX7_kindOfEdit 10 = .ok (.iload_n 1, 1) := by decide +kernel
theorem dX7_kindOfEdit_11 : decode cX7_kindOfEdit 11 = .ok (.isub, 1) := by decide +kernel
theorem dX7_kindOfEdit_12 : decode cX7_kindOfEdit 12 = .ok (.iaload, 1) := by decide +kernel
theorem dX7_kindOfEdit_13 : decode cX7_kindOfEdit 13 = .ok (.ireturn, 1) := by decide +kernel
theorem dX7_placeOfEdit_0 : decode cX7_placeOfEdit 0 = .ok (.aload_n 0, 1) := by decide +kernel
theorem dX7_placeOfEdit_1 : decode cX7_placeOfEdit 1 = .ok (.getfield 30, 3) := by decide +kernel
theorem dX7_placeOfEdit_4 : decode cX7_placeOfEdit 4 = .ok (.aload_n 0, 1) := by decide +kernel
theorem dX7_placeOfEdit_5 : decode cX7_placeOfEdit 5 = .ok (.getfield 33, 3) := by decide +kernel
theorem dX7_placeOfEdit_8 : decode cX7_placeOfEdit 8 = .ok (.iconst 1, 1) := by decide +kernel
theorem dX7_placeOfEdit_9 : decode cX7_placeOfEdit 9 = .ok (.isub, 1) := by decide +kernel
theorem dX7_placeOfEdit_10 : decode cX7_placeOfEdit 10 = .ok (.iload_n 1, 1) := by decide +kernel
theorem dX7_placeOfEdit_11 : decode cX7_placeOfEdit 11 = .ok (.isub, 1) := by decide +kernel
theorem dX7_placeOfEdit_12 : decode cX7_placeOfEdit 12 = .ok (.iaload, 1) := by decide +kernel
theorem dX7_placeOfEdit_13 : decode cX7_placeOfEdit 13 = .ok (.ireturn, 1) := by decide +kernel
theorem dX7_note_0 : decode cX7_note 0 = .ok (.aload_n 0, 1) := by decide +kernel
theorem dX7_note_1 : decode cX7_note 1 = .ok (.getfield 26, 3) := by decide +kernel
theorem dX7_note_4 : decode cX7_note 4 = .ok (.aload_n 0, 1) := by decide +kernel
theorem dX7_note_5 : decode cX7_note 5 = .ok (.getfield 33, 3) := by decide +kernel
theorem dX7_note_8 : decode cX7_note 8 = .ok (.iload_n 1, 1) := by decide +kernel
theorem dX7_note_9 : decode cX7_note 9 = .ok (.iastore, 1) := by decide +kernel
theorem dX7_note_10 : decode cX7_note 10 = .ok (.aload_n 0, 1) := by decide +kernel
theorem dX7_note_11 : decode cX7_note 11 = .ok (.getfield 30, 3) := by decide +kernel
theorem dX7_note_14 : decode cX7_note 14 = .ok (.aload_n 0, 1) := by decide +kernel
theorem dX7_note_15 : decode cX7_note 15 = .ok (.getfield 33, 3) := by decide +kernel
theorem dX7_note_18 : decode cX7_note 18 = .ok (.iload_n 2, 1) := by decide +kernel
theorem dX7_note_19 : decode cX7_note 19 = .ok (.iastore, 1) := by decide +kernel
theorem dX7_note_20 : decode cX7_note 20 = .ok (.aload_n 0, 1) := by decide +kernel
theorem dX7_note_21 : decode cX7_note 21 = .ok (.dup, 1) := by decide +kernel
theorem dX7_note_22 : decode cX7_note 22 = .ok (.getfield 33, 3) := by decide +kernel
theorem dX7_note_25 : decode cX7_note 25 = .ok (.iconst 1, 1) := by decide +kernel
theorem dX7_note_26 : decode cX7_note 26 = .ok (.iadd, 1) := by decide +kernel
theorem dX7_note_27 : decode cX7_note 27 = .ok (.putfield 33, 3) := by decide +kernel
theorem dX7_note_30 : decode cX7_note 30 = .ok (.return_, 1) := by decide +kernel
theorem dX7_fill_0 : decode cX7_fill 0 = .ok (.aload_n 0, 1) := by decide +kernel
theorem dX7_fill_1 : decode cX7_fill 1 = .ok (.getfield 23, 3) := by decide +kernel
theorem dX7_fill_4 : decode cX7_fill 4 = .ok (.iconst 0, 1) := by decide +kernel
theorem dX7_fill_5 : decode cX7_fill 5 = .ok (.aaload, 1) := by decide +kernel
theorem dX7_fill_6 : decode cX7_fill 6 = .ok (.iconst 0, 1) := by decide +kernel
theorem dX7_fill_7 : decode cX7_fill 7 = .ok (.iconst 0, 1) := by decide +kernel
theorem dX7_fill_8 : decode cX7_fill 8 = .ok (.iastore, 1) := by decide +kernel
theorem dX7_fill_9 : decode cX7_fill 9 = .ok (.iconst 1, 1) := by decide +kernel
theorem dX7_fill_10 : decode cX7_fill 10 = .ok (.istore_n 1, 1) := by decide +kernel
theorem dX7_fill_11 : decode cX7_fill 11 = .ok (.iload_n 1, 1) := by decide +kernel
theorem dX7_fill_12 : decode cX7_fill 12 = .ok (.aload_n 0, 1) := by decide +kernel
theorem dX7_fill_13 : decode cX7_fill 13 = .ok (.getfield 18, 3) := by decide +kernel
theorem dX7_fill_16 : decode cX7_fill 16 = .ok (.getfield 48, 3) := by decide +kernel
theorem dX7_fill_19 : decode cX7_fill 19 = .ok (.if_icmp .gt 37, 3) := by decide +kernel
theorem dX7_fill_22 : decode cX7_fill 22 = .ok (.aload_n 0, 1) := by decide +kernel
theorem dX7_fill_23 : decode cX7_fill 23 = .ok (.getfield 23, 3) := by decide +kernel
theorem dX7_fill_26 : decode cX7_fill 26 = .ok (.iconst 0, 1) := by decide +kernel
theorem dX7_fill_27 : decode cX7_fill 27 = .ok (.aaload, 1) := by decide +kernel
theorem dX7_fill_28 : decode cX7_fill 28 = .ok (.iload_n 1, 1) := by decide +kernel
theorem dX7_fill_29 : decode cX7_fill 29 = .ok (.aload_n 0, 1) := by decide +kernel
theorem dX7_fill_30 : decode cX7_fill 30 = .ok (.getfield 23, 3) := by decide +kernel
theorem dX7_fill_33 : decode cX7_fill 33 = .ok (.iconst 0, 1) := by decide +kernel
theorem dX7_fill_34 : decode cX7_fill 34 = .ok (.aaload, 1) := by decide +kernel
theorem dX7_fill_35 : decode cX7_fill 35 = .ok (.iload_n 1, 1) := by decide +kernel
theorem dX7_fill_36 : decode cX7_fill 36 = .ok (.iconst 1, 1) := by decide +kernel
theorem dX7_fill_37 : decode cX7_fill 37 = .ok (.isub, 1) := by decide +kernel
theorem dX7_fill_38 : decode cX7_fill 38 = .ok (.iaload, 1) := by decide +kernel
theorem dX7_fill_39 : decode cX7_fill 39 = .ok (.aload_n 0, 1) := by decide +kernel
theorem dX7_fill_40 : decode cX7_fill 40 = .ok (.getfield 37, 3) := by decide +kernel
theorem dX7_fill_43 : decode cX7_fill 43 = .ok (.getfield 82, 3) := by decide +kernel
theorem dX7_fill_46 : decode cX7_fill 46 = .ok (.iconst 0, 1) := by decide +kernel
theorem dX7_fill_47 : decode cX7_fill 47 = .ok (.iaload, 1) := by decide +kernel
theorem dX7_fill_48 : decode cX7_fill 48 = .ok (.iadd, 1) := by decide +kernel
theorem dX7_fill_49 : decode cX7_fill 49 = .ok (.iastore, 1) := by decide +kernel
theorem dX7_fill_50 : decode cX7_fill 50 = .ok (.iinc 1 1, 3) := by decide +kernel
theorem dX7_fill_53 : decode cX7_fill 53 = .ok (.goto (-42), 3) := by decide +kernel
theorem dX7_fill_56 : decode cX7_fill 56 = .ok (.iconst 1, 1) := by decide +kernel
theorem dX7_fill_57 : decode cX7_fill 57 = .ok (.istore_n 1, 1) := by decide +kernel
theorem dX7_fill_58 : decode cX7_fill 58 = .ok (.iload_n 1, 1) := by decide +kernel
theorem dX7_fill_59 : decode cX7_fill 59 = .ok (.aload_n 0, 1) := by decide +kernel
theorem dX7_fill_60 : decode cX7_fill 60 = .ok (.getfield 12, 3) := by decide +kernel
theorem dX7_fill_63 : decode cX7_fill 63 = .ok (.getfield 48, 3) := by decide +kernel
theorem dX7_fill_66 : decode cX7_fill 66 = .ok (.if_icmp .gt 70, 3) := by decide +kernel
theorem dX7_fill_69 : decode cX7_fill 69 = .ok (.aload_n 0, 1) := by decide +kernel
theorem dX7_fill_70 : decode cX7_fill 70 = .ok (.getfield 23, 3) := by decide +kernel
theorem dX7_fill_73 : decode cX7_fill 73 = .ok (.iload_n 1, 1) := by decide +kernel
theorem dX7_fill_74 : decode cX7_fill 74 = .ok (.aaload, 1) := by decide +kernel
theorem dX7_fill_75 : decode cX7_fill 75 = .ok (.iconst 0, 1) := by decide +kernel
theorem dX7_fill_76 : decode cX7_fill 76 = .ok (.aload_n 0, 1) := by decide +kernel
theorem dX7_fill_77 : decode cX7_fill 77 = .ok (.getfield 23, 3) := by decide +kernel
theorem dX7_fill_80 : decode cX7_fill 80 = .ok (.iload_n 1, 1) := by decide +kernel
theorem dX7_fill_81 : decode cX7_fill 81 = .ok (.iconst 1, 1) := by decide +kernel
theorem dX7_fill_82 : decode cX7_fill 82 = .ok (.isub, 1) := by decide +kernel
theorem dX7_fill_83 : decode cX7_fill 83 = .ok (.aaload, 1) := by decide +kernel
theorem dX7_fill_84 : decode cX7_fill 84 = .ok (.iconst 0, 1) := by decide +kernel
theorem dX7_fill_85 : decode cX7_fill 85 = .ok (.iaload, 1) := by decide +kernel
theorem dX7_fill_86 : decode cX7_fill 86 = .ok (.aload_n 0, 1) := by decide +kernel
theorem dX7_fill_87 : decode cX7_fill 87 = .ok (.getfield 37, 3) := by decide +kernel
theorem dX7_fill_90 : decode cX7_fill 90 = .ok (.getfield 82, 3) := by decide +kernel
theorem dX7_fill_93 : decode cX7_fill 93 = .ok (.iconst 1, 1) := by decide +kernel
theorem dX7_fill_94 : decode cX7_fill 94 = .ok (.iaload, 1) := by decide +kernel
theorem dX7_fill_95 : decode cX7_fill 95 = .ok (.iadd, 1) := by decide +kernel
theorem dX7_fill_96 : decode cX7_fill 96 = .ok (.iastore, 1) := by decide +kernel
theorem dX7_fill_97 : decode cX7_fill 97 = .ok (.iconst 1, 1) := by decide +kernel
theorem dX7_fill_98 : decode cX7_fill 98 = .ok (.istore_n 2, 1) := by decide +kernel
theorem dX7_fill_99 : decode cX7_fill 99 = .ok (.iload_n 2, 1) := by decide +kernel
theorem dX7_fill_100 : decode cX7_fill 100 = .ok (.aload_n 0, 1) := by decide +kernel
theorem dX7_fill_101 : decode cX7_fill 101 = .ok (.getfield 18, 3) := by decide +kernel
theorem dX7_fill_104 : decode cX7_fill 104 = .ok (.getfield 48, 3) := by decide +kernel
theorem dX7_fill_107 : decode cX7_fill 107 = .ok (.if_icmp .gt 23, 3) := by decide +kernel
theorem dX7_fill_110 : decode cX7_fill 110 = .ok (.aload_n 0, 1) := by decide +kernel
theorem dX7_fill_111 : decode cX7_fill 111 = .ok (.getfield 23, 3) := by decide +kernel
theorem dX7_fill_114 : decode cX7_fill 114 = .ok (.iload_n 1, 1) := by decide +kernel
theorem dX7_fill_115 : decode cX7_fill 115 = .ok (.aaload, 1) := by decide +kernel
theorem dX7_fill_116 : decode cX7_fill 116 = .ok (.iload_n 2, 1) := by decide +kernel
theorem dX7_fill_117 : decode cX7_fill 117 = .ok (.aload_n 0, 1) := by decide +kernel
theorem dX7_fill_118 : decode cX7_fill 118 = .ok (.iload_n 1, 1) := by decide +kernel
theorem dX7_fill_119 : decode cX7_fill 119 = .ok (.iload_n 2, 1) := by decide +kernel
theorem dX7_fill_120 : decode cX7_fill 120 = .ok (.invokevirtual 87, 3) := by decide +kernel
theorem dX7_fill_123 : decode cX7_fill 123 = .ok (.iastore, 1) := by decide +kernel
theorem dX7_fill_124 : decode cX7_fill 124 = .ok (.iinc 2 1, 3) := by decide +kernel
theorem dX7_fill_127 : decode cX7_fill 127 = .ok (.goto (-28), 3) := by decide +kernel
theorem dX7_fill_130 : decode cX7_fill 130 = .ok (.iinc 1 1, 3) := by decide +kernel
theorem dX7_fill_133 : decode cX7_fill 133 = .ok (.goto (-75), 3) := by decide +kernel
theorem dX7_fill_136 : decode cX7_fill 136 = .ok (.return_, 1) := by decide +kernel
theorem dX7_cheapest_0 : decode cX7_cheapest 0 = .ok (.aload_n 0, 1) := by decide +kernel
theorem dX7_cheapest_1 : decode cX7_cheapest 1 = .ok (.iload_n 1, 1) := by decide +kernel
theorem dX7_cheapest_2 : decode cX7_cheapest 2 = .ok (.iload_n 2, 1) := by decide +kernel
theorem dX7_cheapest_3 : decode cX7_cheapest 3 = .ok (.invokevirtual 65, 3) := by decide +kernel
theorem dX7_cheapest_6 : decode cX7_cheapest 6 = .ok (.istore_n 3, 1) := by decide +kernel
theorem dX7_cheapest_7 : decode cX7_cheapest 7 = .ok (.iload_n 3, 1) := by decide +kernel
theorem dX7_cheapest_8 : decode cX7_cheapest 8 = .ok (.aload_n 0, 1) := by decide +kernel
theorem dX7_cheapest_9 : decode cX7_cheapest 9 = .ok (.getfield 23, 3) := by decide +kernel
theorem dX7_cheapest_12 : decode cX7_cheapest 12 = .ok (.iload_n 1, 1) := by decide +kernel
theorem dX7_cheapest_13 : decode cX7_cheapest 13 = .ok (.iconst 1, 1) := by decide +kernel
theorem dX7_cheapest_14 : decode cX7_cheapest 14 = .ok (.isub, 1) := by decide +kernel
theorem dX7_cheapest_15 : decode cX7_cheapest 15 = .ok (.aaload, 1) := by decide +kernel
theorem dX7_cheapest_16 : decode cX7_cheapest 16 = .ok (.iload_n 2, 1) := by decide +kernel
theorem dX7_cheapest_17 : decode cX7_cheapest 17 = .ok (.iaload, 1) := by decide +kernel
theorem dX7_cheapest_18 : decode cX7_cheapest 18 = .ok (.aload_n 0, 1) := by decide +kernel
theorem dX7_cheapest_19 : decode cX7_cheapest 19 = .ok (.getfield 37, 3) := by decide +kernel
theorem dX7_cheapest_22 : decode cX7_cheapest 22 = .ok (.getfield 82, 3) := by decide +kernel
theorem dX7_cheapest_25 : decode cX7_cheapest 25 = .ok (.iconst 1, 1) := by decide +kernel
theorem dX7_cheapest_26 : decode cX7_cheapest 26 = .ok (.iaload, 1) := by decide +kernel
theorem dX7_cheapest_27 : decode cX7_cheapest 27 = .ok (.iadd, 1) := by decide +kernel
theorem dX7_cheapest_28 : decode cX7_cheapest 28 = .ok (.invokestatic 59, 3) := by decide +kernel
theorem dX7_cheapest_31 : decode cX7_cheapest 31 = .ok (.istore_n 3, 1) := by decide +kernel
theorem dX7_cheapest_32 : decode cX7_cheapest 32 = .ok (.iload_n 3, 1) := by decide +kernel
theorem dX7_cheapest_33 : decode cX7_cheapest 33 = .ok (.aload_n 0, 1) := by decide +kernel
theorem dX7_cheapest_34 : decode cX7_cheapest 34 = .ok (.getfield 23, 3) := by decide +kernel
theorem dX7_cheapest_37 : decode cX7_cheapest 37 = .ok (.iload_n 1, 1) := by decide +kernel
theorem dX7_cheapest_38 : decode cX7_cheapest 38 = .ok (.aaload, 1) := by decide +kernel
theorem dX7_cheapest_39 : decode cX7_cheapest 39 = .ok (.iload_n 2, 1) := by decide +kernel
theorem dX7_cheapest_40 : decode cX7_cheapest 40 = .ok (.iconst 1, 1) := by decide +kernel
theorem dX7_cheapest_41 : decode cX7_cheapest 41 = .ok (.isub, 1) := by decide +kernel
theorem dX7_cheapest_42 : decode cX7_cheapest 42 = .ok (.iaload, 1) := by decide +kernel
theorem dX7_cheapest_43 : decode cX7_cheapest 43 = .ok (.aload_n 0, 1) := by decide +kernel
theorem dX7_cheapest_44 : decode cX7_cheapest 44 = .ok (.getfield 37, 3) := by decide +kernel
theorem dX7_cheapest_47 : decode cX7_cheapest 47 = .ok (.getfield 82, 3) := by decide +kernel
theorem dX7_cheapest_50 : decode cX7_cheapest 50 = .ok (.iconst 0, 1) := by decide +kernel
theorem dX7_cheapest_51 : decode cX7_cheapest 51 = .ok (.iaload, 1) := by decide +kernel
theorem dX7_cheapest_52 : decode cX7_cheapest 52 = .ok (.iadd, 1) := by decide +kernel
theorem dX7_cheapest_53 : decode cX7_cheapest 53 = .ok (.invokestatic 59, 3) := by decide +kernel
theorem dX7_cheapest_56 : decode cX7_cheapest 56 = .ok (.istore_n 3, 1) := by decide +kernel
theorem dX7_cheapest_57 : decode cX7_cheapest 57 = .ok (.aload_n 0, 1) := by decide +kernel
theorem dX7_cheapest_58 : decode cX7_cheapest 58 = .ok (.iload_n 1, 1) := by decide +kernel
theorem dX7_cheapest_59 : decode cX7_cheapest 59 = .ok (.iload_n 2, 1) := by decide +kernel
theorem dX7_cheapest_60 : decode cX7_cheapest 60 = .ok (.invokevirtual 75, 3) := by decide +kernel
theorem dX7_cheapest_63 : decode cX7_cheapest 63 = .ok (.ifCond .eq 16, 3) := by decide +kernel
theorem dX7_cheapest_66 : decode cX7_cheapest 66 = .ok (.iload_n 3, 1) := by decide +kernel
theorem dX7_cheapest_67 : decode cX7_cheapest 67 = .ok (.aload_n 0, 1) := by decide +kernel
theorem dX7_cheapest_68 : decode cX7_cheapest 68 = .ok (.iload_n 1, 1) := by decide +kernel
theorem dX7_cheapest_69 : decode cX7_cheapest 69 = .ok (.iload_n 2, 1) := by decide +kernel
theorem dX7_cheapest_70 : decode cX7_cheapest 70 = .ok (.invokevirtual 79, 3) := by decide +kernel
theorem dX7_cheapest_73 : decode cX7_cheapest 73 = .ok (.invokestatic 59, 3) := by decide +kernel
theorem dX7_cheapest_76 : decode cX7_cheapest 76 = .ok (.goto 4, 3) := by decide +kernel
theorem dX7_cheapest_79 : decode cX7_cheapest 79 = .ok (.iload_n 3, 1) := by decide +kernel
theorem dX7_cheapest_80 : decode cX7_cheapest 80 = .ok (.ireturn, 1) := by decide +kernel
theorem dX7_byLast_0 : decode cX7_byLast 0 = .ok (.aload_n 0, 1) := by decide +kernel
theorem dX7_byLast_1 : decode cX7_byLast 1 = .ok (.getfield 23, 3) := by decide +kernel
theorem dX7_byLast_4 : decode cX7_byLast 4 = .ok (.iload_n 1, 1) := by decide +kernel
theorem dX7_byLast_5 : decode cX7_byLast 5 = .ok (.iconst 1, 1) := by decide +kernel
theorem dX7_byLast_6 : decode cX7_byLast 6 = .ok (.isub, 1) := by decide +kernel
theorem dX7_byLast_7 : decode cX7_byLast 7 = .ok (.aaload, 1) := by decide +kernel
theorem dX7_byLast_8 : decode cX7_byLast 8 = .ok (.iload_n 2, 1) := by decide +kernel
theorem dX7_byLast_9 : decode cX7_byLast 9 = .ok (.iconst 1, 1) := by decide +kernel
theorem dX7_byLast_10 : decode cX7_byLast 10 = .ok (.isub, 1) := by decide +kernel
theorem dX7_byLast_11 : decode cX7_byLast 11 = .ok (.iaload, 1) := by decide +kernel
theorem dX7_byLast_12 : decode cX7_byLast 12 = .ok (.aload_n 0, 1) := by decide +kernel
theorem dX7_byLast_13 : decode cX7_byLast 13 = .ok (.getfield 37, 3) := by decide +kernel
theorem dX7_byLast_16 : decode cX7_byLast 16 = .ok (.aload_n 0, 1) := by decide +kernel
theorem dX7_byLast_17 : decode cX7_byLast 17 = .ok (.getfield 12, 3) := by decide +kernel
theorem dX7_byLast_20 : decode cX7_byLast 20 = .ok (.getfield 68, 3) := by decide +kernel
theorem dX7_byLast_23 : decode cX7_byLast 23 = .ok (.iload_n 1, 1) := by decide +kernel
theorem dX7_byLast_24 : decode cX7_byLast 24 = .ok (.iconst 1, 1) := by decide +kernel
theorem dX7_byLast_25 : decode cX7_byLast 25 = .ok (.isub, 1) := by decide +kernel
theorem dX7_byLast_26 : decode cX7_byLast 26 = .ok (.iaload, 1) := by decide +kernel
theorem dX7_byLast_27 : decode cX7_byLast 27 = .ok (.aload_n 0, 1) := by decide +kernel
theorem dX7_byLast_28 : decode cX7_byLast 28 = .ok (.getfield 18, 3) := by decide +kernel
theorem dX7_byLast_31 : decode cX7_byLast 31 = .ok (.getfield 68, 3) := by decide +kernel
theorem dX7_byLast_34 : decode cX7_byLast 34 = .ok (.iload_n 2, 1) := by decide +kernel
theorem dX7_byLast_35 : decode cX7_byLast 35 = .ok (.iconst 1, 1) := by decide +kernel
theorem dX7_byLast_36 : decode cX7_byLast 36 = .ok (.isub, 1) := by decide +kernel
theorem dX7_byLast_37 : decode cX7_byLast 37 = .ok (.iaload, 1) := by decide +kernel
theorem dX7_byLast_38 : decode cX7_byLast 38 = .ok (.invokevirtual 90, 3) := by decide +kernel
theorem dX7_byLast_41 : decode cX7_byLast 41 = .ok (.iadd, 1) := by decide +kernel
theorem dX7_byLast_42 : decode cX7_byLast 42 = .ok (.ireturn, 1) := by decide +kernel
theorem dX7_mayChange_0 : decode cX7_mayChange 0 = .ok (.iload_n 1, 1) := by decide +kernel
theorem dX7_mayChange_1 : decode cX7_mayChange 1 = .ok (.iconst 1, 1) := by decide +kernel
theorem dX7_mayChange_2 : decode cX7_mayChange 2 = .ok (.if_icmp .le 62, 3) := by decide +kernel
theorem dX7_mayChange_5 : decode cX7_mayChange 5 = .ok (.iload_n 2, 1) := by decide +kernel
theorem dX7_mayChange_6 : decode cX7_mayChange 6 = .ok (.iconst 1, 1) := by decide +kernel
theorem dX7_mayChange_7 : decode cX7_mayChange 7 = .ok (.if_icmp .le 57, 3) := by decide +kernel
theorem dX7_mayChange_10 : decode cX7_mayChange 10 = .ok (.aload_n 0, 1) := by decide +kernel
theorem dX7_mayChange_11 : decode cX7_mayChange 11 = .ok (.getfield 12, 3) := by decide +kernel
theorem dX7_mayChange_14 : decode cX7_mayChange 14 = .ok (.getfield 68, 3) := by decide +kernel
theorem dX7_mayChange_17 : decode cX7_mayChange 17 = .ok (.iload_n 1, 1) := by decide +kernel
theorem dX7_mayChange_18 : decode cX7_mayChange 18 = .ok (.iconst 2, 1) := by decide +kernel
theorem dX7_mayChange_19 : decode cX7_mayChange 19 = .ok (.isub, 1) := by decide +kernel
theorem dX7_mayChange_20 : decode cX7_mayChange 20 = .ok (.iaload, 1) := by decide +kernel
theorem dX7_mayChange_21 : decode cX7_mayChange 21 = .ok (.aload_n 0, 1) := by decide +kernel
theorem dX7_mayChange_22 : decode cX7_mayChange 22 = .ok (.getfield 18, 3) := by decide +kernel
theorem dX7_mayChange_25 : decode cX7_mayChange 25 = .ok (.getfield 68, 3) := by decide +kernel
theorem dX7_mayChange_28 : decode cX7_mayChange 28 = .ok (.iload_n 2, 1) := by decide +kernel
theorem dX7_mayChange_29 : decode cX7_mayChange 29 = .ok (.iconst 1, 1) := by decide +kernel
theorem dX7_mayChange_30 : decode cX7_mayChange 30 = .ok (.isub, 1) := by decide +kernel
theorem dX7_mayChange_31 : decode cX7_mayChange 31 = .ok (.iaload, 1) := by decide +kernel
theorem dX7_mayChange_32 : decode cX7_mayChange 32 = .ok (.if_icmp .ne 32, 3) := by decide +kernel
theorem dX7_mayChange_35 : decode cX7_mayChange 35 = .ok (.aload_n 0, 1) := by decide +kernel
theorem dX7_mayChange_36 : decode cX7_mayChange 36 = .ok (.getfield 12, 3) := by decide +kernel
theorem dX7_mayChange_39 : decode cX7_mayChange 39 = .ok (.getfield 68, 3) := by decide +kernel
theorem dX7_mayChange_42 : decode cX7_mayChange 42 = .ok (.iload_n 1, 1) := by decide +kernel
theorem dX7_mayChange_43 : decode cX7_mayChange 43 = .ok (.iconst 1, 1) := by decide +kernel
theorem dX7_mayChange_44 : decode cX7_mayChange 44 = .ok (.isub, 1) := by decide +kernel
theorem dX7_mayChange_45 : decode cX7_mayChange 45 = .ok (.iaload, 1) := by decide +kernel
theorem dX7_mayChange_46 : decode cX7_mayChange 46 = .ok (.aload_n 0, 1) := by decide +kernel
theorem dX7_mayChange_47 : decode cX7_mayChange 47 = .ok (.getfield 18, 3) := by decide +kernel
theorem dX7_mayChange_50 : decode cX7_mayChange 50 = .ok (.getfield 68, 3) := by decide +kernel
theorem dX7_mayChange_53 : decode cX7_mayChange 53 = .ok (.iload_n 2, 1) := by decide +kernel
theorem dX7_mayChange_54 : decode cX7_mayChange 54 = .ok (.iconst 2, 1) := by decide +kernel
theorem dX7_mayChange_55 : decode cX7_mayChange 55 = .ok (.isub, 1) := by decide +kernel
theorem dX7_mayChange_56 : decode cX7_mayChange 56 = .ok (.iaload, 1) := by decide +kernel
theorem dX7_mayChange_57 : decode cX7_mayChange 57 = .ok (.if_icmp .ne 7, 3) := by decide +kernel
theorem dX7_mayChange_60 : decode cX7_mayChange 60 = .ok (.iconst 1, 1) := by decide +kernel
theorem dX7_mayChange_61 : decode cX7_mayChange 61 = .ok (.goto 4, 3) := by decide +kernel
theorem dX7_mayChange_64 : decode cX7_mayChange 64 = .ok (.iconst 0, 1) := by decide +kernel
theorem dX7_mayChange_65 : decode cX7_mayChange 65 = .ok (.ireturn, 1) := by decide +kernel
theorem dX7_byChange_0 : decode cX7_byChange 0 = .ok (.aload_n 0, 1) := by decide +kernel
theorem dX7_byChange_1 : decode cX7_byChange 1 = .ok (.getfield 23, 3) := by decide +kernel
theorem dX7_byChange_4 : decode cX7_byChange 4 = .ok (.iload_n 1, 1) := by decide +kernel
theorem dX7_byChange_5 : decode cX7_byChange 5 = .ok (.iconst 2, 1) := by decide +kernel
theorem dX7_byChange_6 : decode cX7_byChange 6 = .ok (.isub, 1) := by decide +kernel
theorem dX7_byChange_7 : decode cX7_byChange 7 = .ok (.aaload, 1) := by decide +kernel
theorem dX7_byChange_8 : decode cX7_byChange 8 = .ok (.iload_n 2, 1) := by decide +kernel
theorem dX7_byChange_9 : decode cX7_byChange 9 = .ok (.iconst 2, 1) := by decide +kernel
theorem dX7_byChange_10 : decode cX7_byChange 10 = .ok (.isub, 1) := by decide +kernel
theorem dX7_byChange_11 : decode cX7_byChange 11 = .ok (.iaload, 1) := by decide +kernel
theorem dX7_byChange_12 : decode cX7_byChange 12 = .ok (.aload_n 0, 1) := by decide +kernel
theorem dX7_byChange_13 : decode cX7_byChange 13 = .ok (.getfield 37, 3) := by decide +kernel
theorem dX7_byChange_16 : decode cX7_byChange 16 = .ok (.getfield 82, 3) := by decide +kernel
theorem dX7_byChange_19 : decode cX7_byChange 19 = .ok (.iconst 3, 1) := by decide +kernel
theorem dX7_byChange_20 : decode cX7_byChange 20 = .ok (.iaload, 1) := by decide +kernel
theorem dX7_byChange_21 : decode cX7_byChange 21 = .ok (.iadd, 1) := by decide +kernel
theorem dX7_byChange_22 : decode cX7_byChange 22 = .ok (.ireturn, 1) := by decide +kernel
theorem dX8_init_0 : decode cX8_init 0 = .ok (.aload_n 0, 1) := by decide +kernel
theorem dX8_init_1 : decode cX8_init 1 = .ok (.invokespecial 3, 3) := by decide +kernel
theorem dX8_init_4 : decode cX8_init 4 = .ok (.aload_n 0, 1) := by decide +kernel
theorem dX8_init_5 : decode cX8_init 5 = .ok (.bipush 60, 2) := by decide +kernel
theorem dX8_init_7 : decode cX8_init 7 = .ok (.anewarray 9, 3) := by decide +kernel
theorem dX8_init_10 : decode cX8_init 10 = .ok (.putfield 11, 3) := by decide +kernel
theorem dX8_init_13 : decode cX8_init 13 = .ok (.aload_n 0, 1) := by decide +kernel
theorem dX8_init_14 : decode cX8_init 14 = .ok (.bipush 60, 2) := by decide +kernel
theorem dX8_init_16 : decode cX8_init 16 = .ok (.newarray .int, 2) := by decide +kernel
theorem dX8_init_18 : decode cX8_init 18 = .ok (.putfield 17, 3) := by decide +kernel
theorem dX8_init_21 : decode cX8_init 21 = .ok (.aload_n 0, 1) := by decide +kernel
theorem dX8_init_22 : decode cX8_init 22 = .ok (.bipush 60, 2) := by decide +kernel
theorem dX8_init_24 : decode cX8_init 24 = .ok (.newarray .int, 2) := by decide +kernel
theorem dX8_init_26 : decode cX8_init 26 = .ok (.putfield 21, 3) := by decide +kernel
theorem dX8_init_29 : decode cX8_init 29 = .ok (.aload_n 0, 1) := by decide +kernel
theorem dX8_init_30 : decode cX8_init 30 = .ok (.sipush 3600, 3) := by decide +kernel
theorem dX8_init_33 : decode cX8_init 33 = .ok (.newarray .boolean, 2) := by decide +kernel
theorem dX8_init_35 : decode cX8_init 35 = .ok (.putfield 24, 3) := by decide +kernel
theorem dX8_init_38 : decode cX8_init 38 = .ok (.aload_n 0, 1) := by decide +kernel
theorem dX8_init_39 : decode cX8_init 39 = .ok (.iconst 0, 1) := by decide +kernel
theorem dX8_init_40 : decode cX8_init 40 = .ok (.putfield 28, 3) := by decide +kernel
theorem dX8_init_43 : decode cX8_init 43 = .ok (.iconst 0, 1) := by decide +kernel
theorem dX8_init_44 : decode cX8_init 44 = .ok (.istore_n 1, 1) := by decide +kernel
theorem dX8_init_45 : decode cX8_init 45 = .ok (.iload_n 1, 1) := by decide +kernel
theorem dX8_init_46 : decode cX8_init 46 = .ok (.bipush 60, 2) := by decide +kernel
theorem dX8_init_48 : decode cX8_init 48 = .ok (.if_icmp .ge 22, 3) := by decide +kernel
theorem dX8_init_51 : decode cX8_init 51 = .ok (.aload_n 0, 1) := by decide +kernel
theorem dX8_init_52 : decode cX8_init 52 = .ok (.getfield 11, 3) := by decide +kernel
theorem dX8_init_55 : decode cX8_init 55 = .ok (.iload_n 1, 1) := by decide +kernel
theorem dX8_init_56 : decode cX8_init 56 = .ok (.new 9, 3) := by decide +kernel
theorem dX8_init_59 : decode cX8_init 59 = .ok (.dup, 1) := by decide +kernel
theorem dX8_init_60 : decode cX8_init 60 = .ok (.invokespecial 32, 3) := by decide +kernel
theorem dX8_init_63 : decode cX8_init 63 = .ok (.aastore, 1) := by decide +kernel
theorem dX8_init_64 : decode cX8_init 64 = .ok (.iinc 1 1, 3) := by decide +kernel
theorem dX8_init_67 : decode cX8_init 67 = .ok (.goto (-22), 3) := by decide +kernel
theorem dX8_init_70 : decode cX8_init 70 = .ok (.return_, 1) := by decide +kernel
theorem dX8_has_0 : decode cX8_has 0 = .ok (.iload_n 1, 1) := by decide +kernel
theorem dX8_has_1 : decode cX8_has 1 = .ok (.ifCond .lt 15, 3) := by decide +kernel
theorem dX8_has_4 : decode cX8_has 4 = .ok (.iload_n 1, 1) := by decide +kernel
theorem dX8_has_5 : decode cX8_has 5 = .ok (.aload_n 0, 1) := by decide +kernel
theorem dX8_has_6 : decode cX8_has 6 = .ok (.getfield 28, 3) := by decide +kernel
theorem dX8_has_9 : decode cX8_has 9 = .ok (.if_icmp .ge 7, 3) := by decide +kernel
theorem dX8_has_12 : decode cX8_has 12 = .ok (.iconst 1, 1) := by decide +kernel
theorem dX8_has_13 : decode cX8_has 13 = .ok (.goto 4, 3) := by decide +kernel
theorem dX8_has_16 : decode cX8_has 16 = .ok (.iconst 0, 1) := by decide +kernel
theorem dX8_has_17 : decode cX8_has 17 = .ok (.ireturn, 1) := by decide +kernel
theorem dX8_hasRow_0 : decode cX8_hasRow 0 = .ok (.iconst 0, 1) := by decide +kernel
theorem dX8_hasRow_1 : decode cX8_hasRow 1 = .ok (.istore_n 2, 1) := by decide +kernel
theorem dX8_hasRow_2 : decode cX8_hasRow 2 = .ok (.iload_n 2, 1) := by decide +kernel
theorem dX8_hasRow_3 : decode cX8_hasRow 3 = .ok (.aload_n 0, 1) := by decide +kernel
theorem dX8_hasRow_4 : decode cX8_hasRow 4 = .ok (.getfield 28, 3) := by decide +kernel
theorem dX8_hasRow_7 : decode cX8_hasRow 7 = .ok (.if_icmp .ge 24, 3) := by decide +kernel
theorem dX8_hasRow_10 : decode cX8_hasRow 10 = .ok (.aload_n 0, 1) := by decide +kernel
theorem dX8_hasRow_11 : decode cX8_hasRow 11 = .ok (.getfield 11, 3) := by decide +kernel
theorem dX8_hasRow_14 : decode cX8_hasRow 14 = .ok (.iload_n 2, 1) := by decide +kernel
theorem dX8_hasRow_15 : decode cX8_hasRow 15 = .ok (.aaload, 1) := by decide +kernel
theorem dX8_hasRow_16 : decode cX8_hasRow 16 = .ok (.aload_n 1, 1) := by decide +kernel
theorem dX8_hasRow_17 : decode cX8_hasRow 17 = .ok (.invokevirtual 33, 3) := by decide +kernel
theorem dX8_hasRow_20 : decode cX8_hasRow 20 = .ok (.ifCond .ne 5, 3) := by decide +kernel
theorem dX8_hasRow_23 : decode cX8_hasRow 23 = .ok (.iconst 1, 1) := by decide +kernel
theorem dX8_hasRow_24 : decode cX8_hasRow 24 = .ok (.ireturn, 1) := by decide +kernel
theorem dX8_hasRow_25 : decode cX8_hasRow 25 = .ok (.iinc 2 1, 3) := by decide +kernel
theorem dX8_hasRow_28 : decode cX8_hasRow 28 = .ok (.goto (-26), 3) := by decide +kernel
theorem dX8_hasRow_31 : decode cX8_hasRow 31 = .ok (.iconst 0, 1) := by decide +kernel
theorem dX8_hasRow_32 : decode cX8_hasRow 32 = .ok (.ireturn, 1) := by decide +kernel
theorem dX8_add_0 : decode cX8_add 0 = .ok (.aload_n 0, 1) := by decide +kernel
theorem dX8_add_1 : decode cX8_add 1 = .ok (.getfield 28, 3) := by decide +kernel
theorem dX8_add_4 : decode cX8_add 4 = .ok (.istore_n 3, 1) := by decide +kernel
theorem dX8_add_5 : decode cX8_add 5 = .ok (.aload_n 0, 1) := by decide +kernel
theorem dX8_add_6 : decode cX8_add 6 = .ok (.getfield 11, 3) := by decide +kernel
theorem dX8_add_9 : decode cX8_add 9 = .ok (.iload_n 3, 1) := by decide +kernel
theorem dX8_add_10 : decode cX8_add 10 = .ok (.aaload, 1) := by decide +kernel
theorem dX8_add_11 : decode cX8_add 11 = .ok (.aload_n 1, 1) := by decide +kernel
theorem dX8_add_12 : decode cX8_add 12 = .ok (.invokevirtual 37, 3) := by decide +kernel
theorem dX8_add_15 : decode cX8_add 15 = .ok (.aload_n 0, 1) := by decide +kernel
theorem dX8_add_16 : decode cX8_add 16 = .ok (.getfield 17, 3) := by decide +kernel
theorem dX8_add_19 : decode cX8_add 19 = .ok (.iload_n 3, 1) := by decide +kernel
theorem dX8_add_20 : decode cX8_add 20 = .ok (.iload_n 2, 1) := by decide +kernel
theorem dX8_add_21 : decode cX8_add 21 = .ok (.iastore, 1) := by decide +kernel
theorem dX8_add_22 : decode cX8_add 22 = .ok (.aload_n 0, 1) := by decide +kernel
theorem dX8_add_23 : decode cX8_add 23 = .ok (.getfield 28, 3) := by decide +kernel
theorem dX8_add_26 : decode cX8_add 26 = .ok (.istore 4, 2) := by decide +kernel
theorem dX8_add_28 : decode cX8_add 28 = .ok (.iload 4, 2) := by decide +kernel
theorem dX8_add_30 : decode cX8_add 30 = .ok (.ifCond .le 46, 3) := by decide +kernel
theorem dX8_add_33 : decode cX8_add 33 = .ok (.aload_n 1, 1) := by decide +kernel
theorem dX8_add_34 : decode cX8_add 34 = .ok (.aload_n 0, 1) := by decide +kernel
theorem dX8_add_35 : decode cX8_add 35 = .ok (.getfield 11, 3) := by decide +kernel
theorem dX8_add_38 : decode cX8_add 38 = .ok (.aload_n 0, 1) := by decide +kernel
theorem dX8_add_39 : decode cX8_add 39 = .ok (.getfield 21, 3) := by decide +kernel
theorem dX8_add_42 : decode cX8_add 42 = .ok (.iload 4, 2) := by decide +kernel
theorem dX8_add_44 : decode cX8_add 44 = .ok (.iconst 1, 1) := by decide +kernel
theorem dX8_add_45 : decode cX8_add 45 = .ok (.isub, 1) := by decide +kernel
theorem dX8_add_46 : decode cX8_add 46 = .ok (.iaload, 1) := by decide +kernel
theorem dX8_add_47 : decode cX8_add 47 = .ok (.aaload, 1) := by decide +kernel
theorem dX8_add_48 : decode cX8_add 48 = .ok (.invokevirtual 33, 3) := by decide +kernel
theorem dX8_add_51 : decode cX8_add 51 = .ok (.ifCond .ge 25, 3) := by decide +kernel
theorem dX8_add_54 : decode cX8_add 54 = .ok (.aload_n 0, 1) := by decide +kernel
theorem dX8_add_55 : decode cX8_add 55 = .ok (.getfield 21, 3) := by decide +kernel
theorem dX8_add_58 : decode cX8_add 58 = .ok (.iload 4, 2) := by decide +kernel
theorem dX8_add_60 : decode cX8_add 60 = .ok (.aload_n 0, 1) := by decide +kernel
theorem dX8_add_61 : decode cX8_add 61 = .ok (.getfield 21, 3) := by decide +kernel
theorem dX8_add_64 : decode cX8_add 64 = .ok (.iload 4, 2) := by decide +kernel
theorem dX8_add_66 : decode cX8_add 66 = .ok (.iconst 1, 1) := by decide +kernel
theorem dX8_add_67 : decode cX8_add 67 = .ok (.isub, 1) := by decide +kernel
theorem dX8_add_68 : decode cX8_add 68 = .ok (.iaload, 1) := by decide +kernel
theorem dX8_add_69 : decode cX8_add 69 = .ok (.iastore, 1) := by decide +kernel
theorem dX8_add_70 : decode cX8_add 70 = .ok (.iinc 4 (-1), 3) := by decide +kernel
theorem dX8_add_73 : decode cX8_add 73 = .ok (.goto (-45), 3) := by decide +kernel
theorem dX8_add_76 : decode cX8_add 76 = .ok (.aload_n 0, 1) := by decide +kernel
theorem dX8_add_77 : decode cX8_add 77 = .ok (.getfield 21, 3) := by decide +kernel
theorem dX8_add_80 : decode cX8_add 80 = .ok (.iload 4, 2) := by decide +kernel
theorem dX8_add_82 : decode cX8_add 82 = .ok (.iload_n 3, 1) := by decide +kernel
theorem dX8_add_83 : decode cX8_add 83 = .ok (.iastore, 1) := by decide +kernel
theorem dX8_add_84 : decode cX8_add 84 = .ok (.aload_n 0, 1) := by decide +kernel
theorem dX8_add_85 : decode cX8_add 85 = .ok (.dup, 1) := by decide +kernel
theorem dX8_add_86 : decode cX8_add 86 = .ok (.getfield 28, 3) := by decide +kernel
theorem dX8_add_89 : decode cX8_add 89 = .ok (.iconst 1, 1) := by decide +kernel
theorem dX8_add_90 : decode cX8_add 90 = .ok (.iadd, 1) := by decide +kernel
theorem dX8_add_91 : decode cX8_add 91 = .ok (.putfield 28, 3) := by decide +kernel
theorem dX8_add_94 : decode cX8_add 94 = .ok (.iload_n 3, 1) := by decide +kernel
theorem dX8_add_95 : decode cX8_add 95 = .ok (.ireturn, 1) := by decide +kernel
theorem dX8_rankOf_0 : decode cX8_rankOf 0 = .ok (.iconst 0, 1) := by decide +kernel
theorem dX8_rankOf_1 : decode cX8_rankOf 1 = .ok (.istore_n 2, 1) := by decide +kernel
theorem dX8_rankOf_2 : decode cX8_rankOf 2 = .ok (.iconst 0, 1) := by decide +kernel
theorem dX8_rankOf_3 : decode cX8_rankOf 3 = .ok (.istore_n 3, 1) := by decide +kernel
theorem dX8_rankOf_4 : decode cX8_rankOf 4 = .ok (.iload_n 3, 1) := by decide +kernel
theorem dX8_rankOf_5 : decode cX8_rankOf 5 = .ok (.aload_n 0, 1) := by decide +kernel
theorem dX8_rankOf_6 : decode cX8_rankOf 6 = .ok (.getfield 28, 3) := by decide +kernel
theorem dX8_rankOf_9 : decode cX8_rankOf 9 = .ok (.if_icmp .ge 22, 3) := by decide +kernel
theorem dX8_rankOf_12 : decode cX8_rankOf 12 = .ok (.aload_n 0, 1) := by decide +kernel
theorem dX8_rankOf_13 : decode cX8_rankOf 13 = .ok (.getfield 21, 3) := by decide +kernel
theorem dX8_rankOf_16 : decode cX8_rankOf 16 = .ok (.iload_n 3, 1) := by decide +kernel
theorem dX8_rankOf_17 : decode cX8_rankOf 17 = .ok (.iaload, 1) := by decide +kernel
theorem dX8_rankOf_18 : decode cX8_rankOf 18 = .ok (.iload_n 1, 1) := by decide +kernel
theorem dX8_rankOf_19 : decode cX8_rankOf 19 = .ok (.if_icmp .eq 12, 3) := by decide +kernel
theorem dX8_rankOf_22 : decode cX8_rankOf 22 = .ok (.iinc 2 1, 3) := by decide +kernel
theorem dX8_rankOf_25 : decode cX8_rankOf 25 = .ok (.iinc 3 1, 3) := by decide +kernel
theorem dX8_rankOf_28 : decode cX8_rankOf 28 = .ok (.goto (-24), 3) := by decide +kernel
theorem dX8_rankOf_31 : decode cX8_rankOf 31 = .ok (.iload_n 2, 1) := by decide +kernel
theorem dX8_rankOf_32 : decode cX8_rankOf 32 = .ok (.ireturn, 1) := by decide +kernel
theorem dX8_isPair_0 : decode cX8_isPair 0 = .ok (.aload_n 0, 1) := by decide +kernel
theorem dX8_isPair_1 : decode cX8_isPair 1 = .ok (.getfield 24, 3) := by decide +kernel
theorem dX8_isPair_4 : decode cX8_isPair 4 = .ok (.iload_n 1, 1) := by decide +kernel
theorem dX8_isPair_5 : decode cX8_isPair 5 = .ok (.bipush 60, 2) := by decide +kernel
theorem dX8_isPair_7 : decode cX8_isPair 7 = .ok (.imul, 1) := by decide +kernel
theorem dX8_isPair_8 : decode cX8_isPair 8 = .ok (.iload_n 2, 1) := by decide +kernel
theorem dX8_isPair_9 : decode cX8_isPair 9 = .ok (.iadd, 1) := by decide +kernel
theorem dX8_isPair_10 : decode cX8_isPair 10 = .ok (.baload, 1) := by decide +kernel
theorem dX8_isPair_11 : decode cX8_isPair 11 = .ok (.ireturn, 1) := by decide +kernel
theorem dX8_setPair_0 : decode cX8_setPair 0 = .ok (.aload_n 0, 1) := by decide +kernel
theorem dX8_setPair_1 : decode cX8_setPair 1 = .ok (.iload_n 1, 1) := by decide +kernel
theorem dX8_setPair_2 : decode cX8_setPair 2 = .ok (.iload_n 2, 1) := by decide +kernel
theorem dX8_setPair_3 : decode cX8_setPair 3 = .ok (.invokevirtual 41, 3) := by decide +kernel
theorem dX8_setPair_6 : decode cX8_setPair 6 = .ok (.istore 4, 2) := by decide +kernel
theorem dX8_setPair_8 : decode cX8_setPair 8 = .ok (.aload_n 0, 1) := by decide +kernel
theorem dX8_setPair_9 : decode cX8_setPair 9 = .ok (.getfield 24, 3) := by decide +kernel
theorem dX8_setPair_12 : decode cX8_setPair 12 = .ok (.iload_n 1, 1) := by decide +kernel
theorem dX8_setPair_13 : decode cX8_setPair 13 = .ok (.bipush 60, 2) := by decide +kernel
theorem dX8_setPair_15 : decode cX8_setPair 15 = .ok (.imul, 1) := by decide +kernel
theorem dX8_setPair_16 : decode cX8_setPair 16 = .ok (.iload_n 2, 1) := by decide +kernel
theorem dX8_setPair_17 : decode cX8_setPair 17 = .ok (.iadd, 1) := by decide +kernel
theorem dX8_setPair_18 : decode cX8_setPair 18 = .ok (.iload_n 3, 1) := by decide +kernel
theorem dX8_setPair_19 : decode cX8_setPair 19 = .ok (.bastore, 1) := by decide +kernel
theorem dX8_setPair_20 : decode cX8_setPair 20 = .ok (.iload 4, 2) := by decide +kernel
theorem dX8_setPair_22 : decode cX8_setPair 22 = .ok (.iload_n 3, 1) := by decide +kernel
theorem dX8_setPair_23 : decode cX8_setPair 23 = .ok (.if_icmp .eq 7, 3) := by decide +kernel
theorem dX8_setPair_26 : decode cX8_setPair 26 = .ok (.iconst 1, 1) := by decide +kernel
theorem dX8_setPair_27 : decode cX8_setPair 27 = .ok (.goto 4, 3) := by decide +kernel
theorem dX8_setPair_30 : decode cX8_setPair 30 = .ok (.iconst 0, 1) := by decide +kernel
theorem dX8_setPair_31 : decode cX8_setPair 31 = .ok (.ireturn, 1) := by decide +kernel
theorem dX9_init_0 : decode cX9_init 0 = .ok (.aload_n 0, 1) := by decide +kernel
theorem dX9_init_1 : decode cX9_init 1 = .ok (.invokespecial 1, 3) := by decide +kernel
theorem dX9_init_4 : decode cX9_init 4 = .ok (.aload_n 0, 1) := by decide +kernel
theorem dX9_init_5 : decode cX9_init 5 = .ok (.new 7, 3) := by decide +kernel
theorem dX9_init_8 : decode cX9_init 8 = .ok (.dup, 1) := by decide +kernel
theorem dX9_init_9 : decode cX9_init 9 = .ok (.invokespecial 9, 3) := by decide +kernel
theorem dX9_init_12 : decode cX9_init 12 = .ok (.putfield 10, 3) := by decide +kernel
theorem dX9_init_15 : decode cX9_init 15 = .ok (.aload_n 0, 1) := by decide +kernel
theorem dX9_init_16 : decode cX9_init 16 = .ok (.new 16, 3) := by decide +kernel
theorem dX9_init_19 : decode cX9_init 19 = .ok (.dup, 1) := by decide +kernel
theorem dX9_init_20 : decode cX9_init 20 = .ok (.invokespecial 18, 3) := by decide +kernel
theorem dX9_init_23 : decode cX9_init 23 = .ok (.putfield 19, 3) := by decide +kernel
theorem dX9_init_26 : decode cX9_init 26 = .ok (.aload_n 0, 1) := by decide +kernel
theorem dX9_init_27 : decode cX9_init 27 = .ok (.new 23, 3) := by decide +kernel
theorem dX9_init_30 : decode cX9_init 30 = .ok (.dup, 1) := by decide +kernel
theorem dX9_init_31 : decode cX9_init 31 = .ok (.invokespecial 25, 3) := by decide +kernel
theorem dX9_init_34 : decode cX9_init 34 = .ok (.putfield 26, 3) := by decide +kernel
theorem dX9_init_37 : decode cX9_init 37 = .ok (.aload_n 0, 1) := by decide +kernel
theorem dX9_init_38 : decode cX9_init 38 = .ok (.new 30, 3) := by decide +kernel
theorem dX9_init_41 : decode cX9_init 41 = .ok (.dup, 1) := by decide +kernel
theorem dX9_init_42 : decode cX9_init 42 = .ok (.invokespecial 32, 3) := by decide +kernel
theorem dX9_init_45 : decode cX9_init 45 = .ok (.putfield 33, 3) := by decide +kernel
theorem dX9_init_48 : decode cX9_init 48 = .ok (.aload_n 0, 1) := by decide +kernel
theorem dX9_init_49 : decode cX9_init 49 = .ok (.new 37, 3) := by decide +kernel
theorem dX9_init_52 : decode cX9_init 52 = .ok (.dup, 1) := by decide +kernel
theorem dX9_init_53 : decode cX9_init 53 = .ok (.aload_n 0, 1) := by decide +kernel
theorem dX9_init_54 : decode cX9_init 54 = .ok (.getfield 19, 3) := by decide +kernel
theorem dX9_init_57 : decode cX9_init 57 = .ok (.invokespecial 39, 3) := by decide +kernel
theorem dX9_init_60 : decode cX9_init 60 = .ok (.putfield 42, 3) := by decide +kernel
theorem dX9_init_63 : decode cX9_init 63 = .ok (.aload_n 0, 1) := by decide +kernel
theorem dX9_init_64 : decode cX9_init 64 = .ok (.new 46, 3) := by decide +kernel
theorem dX9_init_67 : decode cX9_init 67 = .ok (.dup, 1) := by decide +kernel
theorem dX9_init_68 : decode cX9_init 68 = .ok (.invokespecial 48, 3) := by decide +kernel
theorem dX9_init_71 : decode cX9_init 71 = .ok (.putfield 49, 3) := by decide +kernel
theorem dX9_init_74 : decode cX9_init 74 = .ok (.aload_n 0, 1) := by decide +kernel
theorem dX9_init_75 : decode cX9_init 75 = .ok (.new 53, 3) := by decide +kernel
theorem dX9_init_78 : decode cX9_init 78 = .ok (.dup, 1) := by decide +kernel
theorem dX9_init_79 : decode cX9_init 79 = .ok (.invokespecial 55, 3) := by decide +kernel
theorem dX9_init_82 : decode cX9_init 82 = .ok (.putfield 56, 3) := by decide +kernel
theorem dX9_init_85 : decode cX9_init 85 = .ok (.aload_n 0, 1) := by decide +kernel
theorem dX9_init_86 : decode cX9_init 86 = .ok (.new 60, 3) := by decide +kernel
theorem dX9_init_89 : decode cX9_init 89 = .ok (.dup, 1) := by decide +kernel
theorem dX9_init_90 : decode cX9_init 90 = .ok (.invokespecial 62, 3) := by decide +kernel
theorem dX9_init_93 : decode cX9_init 93 = .ok (.putfield 63, 3) := by decide +kernel
theorem dX9_init_96 : decode cX9_init 96 = .ok (.return_, 1) := by decide +kernel
theorem dX9_letter_0 : decode cX9_letter 0 = .ok (.iload_n 1, 1) := by decide +kernel
theorem dX9_letter_1 : decode cX9_letter 1 = .ok (.invokestatic 67, 3) := by decide +kernel
theorem dX9_letter_4 : decode cX9_letter 4 = .ok (.ifCond .ne 5, 3) := by decide +kernel
theorem dX9_letter_7 : decode cX9_letter 7 = .ok (.iconst (-1), 1) := by decide +kernel
theorem dX9_letter_8 : decode cX9_letter 8 = .ok (.ireturn, 1) := by decide +kernel
theorem dX9_letter_9 : decode cX9_letter 9 = .ok (.aload_n 0, 1) := by decide +kernel
theorem dX9_letter_10 : decode cX9_letter 10 = .ok (.getfield 10, 3) := by decide +kernel
theorem dX9_letter_13 : decode cX9_letter 13 = .ok (.iload_n 1, 1) := by decide +kernel
theorem dX9_letter_14 : decode cX9_letter 14 = .ok (.invokevirtual 71, 3) := by decide +kernel
theorem dX9_letter_17 : decode cX9_letter 17 = .ok (.ifCond .ne 6, 3) := by decide +kernel
theorem dX9_letter_20 : decode cX9_letter 20 = .ok (.bipush (-4), 2) := by decide +kernel
theorem dX9_letter_22 : decode cX9_letter 22 = .ok (.ireturn, 1) := by decide +kernel
theorem dX9_letter_23 : decode cX9_letter 23 = .ok (.aload_n 0, 1) := by decide +kernel
theorem dX9_letter_24 : decode cX9_letter 24 = .ok (.getfield 10, 3) := by decide +kernel
theorem dX9_letter_27 : decode cX9_letter 27 = .ok (.getfield 74, 3) := by decide +kernel
theorem dX9_letter_30 : decode cX9_letter 30 = .ok (.ireturn, 1) := by decide +kernel
theorem dX9_clear_0 : decode cX9_clear 0 = .ok (.aload_n 0, 1) := by decide +kernel
theorem dX9_clear_1 : decode cX9_clear 1 = .ok (.getfield 10, 3) := by decide +kernel
theorem dX9_clear_4 : decode cX9_clear 4 = .ok (.getfield 74, 3) := by decide +kernel
theorem dX9_clear_7 : decode cX9_clear 7 = .ok (.istore_n 1, 1) := by decide +kernel
theorem dX9_clear_8 : decode cX9_clear 8 = .ok (.aload_n 0, 1) := by decide +kernel
theorem dX9_clear_9 : decode cX9_clear 9 = .ok (.getfield 10, 3) := by decide +kernel
theorem dX9_clear_12 : decode cX9_clear 12 = .ok (.iconst 0, 1) := by decide +kernel
theorem dX9_clear_13 : decode cX9_clear 13 = .ok (.putfield 74, 3) := by decide +kernel
theorem dX9_clear_16 : decode cX9_clear 16 = .ok (.iload_n 1, 1) := by decide +kernel
theorem dX9_clear_17 : decode cX9_clear 17 = .ok (.ireturn, 1) := by decide +kernel
theorem dX9_word_0 : decode cX9_word 0 = .ok (.iload_n 1, 1) := by decide +kernel
theorem dX9_word_1 : decode cX9_word 1 = .ok (.invokestatic 78, 3) := by decide +kernel
theorem dX9_word_4 : decode cX9_word 4 = .ok (.ifCond .eq 13, 3) := by decide +kernel
theorem dX9_word_7 : decode cX9_word 7 = .ok (.aload_n 0, 1) := by decide +kernel
theorem dX9_word_8 : decode cX9_word 8 = .ok (.getfield 10, 3) := by decide +kernel
theorem dX9_word_11 : decode cX9_word 11 = .ok (.getfield 74, 3) := by decide +kernel
theorem dX9_word_14 : decode cX9_word 14 = .ok (.ifCond .ne 6, 3) := by decide +kernel
theorem dX9_word_17 : decode cX9_word 17 = .ok (.bipush (-2), 2) := by decide +kernel
theorem dX9_word_19 : decode cX9_word 19 = .ok (.ireturn, 1) := by decide +kernel
theorem dX9_word_20 : decode cX9_word 20 = .ok (.aload_n 0, 1) := by decide +kernel
theorem dX9_word_21 : decode cX9_word 21 = .ok (.getfield 26, 3) := by decide +kernel
theorem dX9_word_24 : decode cX9_word 24 = .ok (.aload_n 0, 1) := by decide +kernel
theorem dX9_word_25 : decode cX9_word 25 = .ok (.getfield 10, 3) := by decide +kernel
theorem dX9_word_28 : decode cX9_word 28 = .ok (.invokevirtual 81, 3) := by decide +kernel
theorem dX9_word_31 : decode cX9_word 31 = .ok (.ifCond .eq 6, 3) := by decide +kernel
theorem dX9_word_34 : decode cX9_word 34 = .ok (.bipush (-3), 2) := by decide +kernel
theorem dX9_word_36 : decode cX9_word 36 = .ok (.ireturn, 1) := by decide +kernel
theorem dX9_word_37 : decode cX9_word 37 = .ok (.aload_n 0, 1) := by decide +kernel
theorem dX9_word_38 : decode cX9_word 38 = .ok (.getfield 26, 3) := by decide +kernel
theorem dX9_word_41 : decode cX9_word 41 = .ok (.getfield 85, 3) := by decide +kernel
theorem dX9_word_44 : decode cX9_word 44 = .ok (.bipush 60, 2) := by decide +kernel
theorem dX9_word_46 : decode cX9_word 46 = .ok (.if_icmp .lt 6, 3) := by decide +kernel
theorem dX9_word_49 : decode cX9_word 49 = .ok (.bipush (-4), 2) := by decide +kernel
theorem dX9_word_51 : decode cX9_word 51 = .ok (.ireturn, 1) := by decide +kernel
theorem dX9_word_52 : decode cX9_word 52 = .ok (.aload_n 0, 1) := by decide +kernel
theorem dX9_word_53 : decode cX9_word 53 = .ok (.getfield 26, 3) := by decide +kernel
theorem dX9_word_56 : decode cX9_word 56 = .ok (.aload_n 0, 1) := by decide +kernel
theorem dX9_word_57 : decode cX9_word 57 = .ok (.getfield 10, 3) := by decide +kernel
theorem dX9_word_60 : decode cX9_word 60 = .ok (.iload_n 1, 1) := by decide +kernel
theorem dX9_word_61 : decode cX9_word 61 = .ok (.invokevirtual 88, 3) := by decide +kernel
theorem dX9_word_64 : decode cX9_word 64 = .ok (.ireturn, 1) := by decide +kernel
theorem dX9_count_0 : decode cX9_count 0 = .ok (.aload_n 0, 1) := by decide +kernel
theorem dX9_count_1 : decode cX9_count 1 = .ok (.getfield 26, 3) := by decide +kernel
theorem dX9_count_4 : decode cX9_count 4 = .ok (.iload_n 1, 1) := by decide +kernel
theorem dX9_count_5 : decode cX9_count 5 = .ok (.invokevirtual 91, 3) := by decide +kernel
theorem dX9_count_8 : decode cX9_count 8 = .ok (.ifCond .ne 5, 3) := by decide +kernel
theorem dX9_count_11 : decode cX9_count 11 = .ok (.iconst (-1), 1) := by decide +kernel
theorem dX9_count_12 : decode cX9_count 12 = .ok (.ireturn, 1) := by decide +kernel
theorem dX9_count_13 : decode cX9_count 13 = .ok (.iload_n 2, 1) := by decide +kernel
theorem dX9_count_14 : decode cX9_count 14 = .ok (.invokestatic 78, 3) := by decide +kernel
theorem dX9_count_17 : decode cX9_count 17 = .ok (.ifCond .ne 6, 3) := by decide +kernel
theorem dX9_count_20 : decode cX9_count 20 = .ok (.bipush (-2), 2) := by decide +kernel
theorem dX9_count_22 : decode cX9_count 22 = .ok (.ireturn, 1) := by decide +kernel
theorem dX9_count_23 : decode cX9_count 23 = .ok (.aload_n 0, 1) := by decide +kernel
theorem dX9_count_24 : decode cX9_count 24 = .ok (.getfield 26, 3) := by decide +kernel
theorem dX9_count_27 : decode cX9_count 27 = .ok (.getfield 94, 3) := by decide +kernel
theorem dX9_count_30 : decode cX9_count 30 = .ok (.iload_n 1, 1) := by decide +kernel
theorem dX9_count_31 : decode cX9_count 31 = .ok (.iaload, 1) := by decide +kernel
theorem dX9_count_32 : decode cX9_count 32 = .ok (.istore_n 3, 1) := by decide +kernel
theorem dX9_count_33 : decode cX9_count 33 = .ok (.aload_n 0, 1) := by decide +kernel
theorem dX9_count_34 : decode cX9_count 34 = .ok (.getfield 26, 3) := by decide +kernel
theorem dX9_count_37 : decode cX9_count 37 = .ok (.getfield 94, 3) := by decide +kernel
theorem dX9_count_40 : decode cX9_count 40 = .ok (.iload_n 1, 1) := by decide +kernel
theorem dX9_count_41 : decode cX9_count 41 = .ok (.iload_n 2, 1) := by decide +kernel
theorem dX9_count_42 : decode cX9_count 42 = .ok (.iastore, 1) := by decide +kernel
theorem dX9_count_43 : decode cX9_count 43 = .ok (.iload_n 3, 1) := by decide +kernel
theorem dX9_count_44 : decode cX9_count 44 = .ok (.ireturn, 1) := by decide +kernel
theorem dX9_at_0 : decode cX9_at 0 = .ok (.aload_n 0, 1) := by decide +kernel
theorem dX9_at_1 : decode cX9_at 1 = .ok (.getfield 26, 3) := by decide +kernel
theorem dX9_at_4 : decode cX9_at 4 = .ok (.iload_n 1, 1) := by decide +kernel
theorem dX9_at_5 : decode cX9_at 5 = .ok (.invokevirtual 91, 3) := by decide +kernel
theorem dX9_at_8 : decode cX9_at 8 = .ok (.ifCond .ne 5, 3) := by decide +kernel
theorem dX9_at_11 : decode cX9_at 11 = .ok (.iconst (-1), 1) := by decide +kernel
theorem dX9_at_12 : decode cX9_at 12 = .ok (.ireturn, 1) := by decide +kernel
theorem dX9_at_13 : decode cX9_at 13 = .ok (.aload_n 0, 1) := by decide +kernel
theorem dX9_at_14 : decode cX9_at 14 = .ok (.getfield 26, 3) := by decide +kernel
theorem dX9_at_17 : decode cX9_at 17 = .ok (.getfield 98, 3) := by decide +kernel
theorem dX9_at_20 : decode cX9_at 20 = .ok (.iload_n 1, 1) := by decide +kernel
theorem dX9_at_21 : decode cX9_at 21 = .ok (.aaload, 1) := by decide +kernel
theorem dX9_at_22 : decode cX9_at 22 = .ok (.astore_n 3, 1) := by decide +kernel
theorem dX9_at_23 : decode cX9_at 23 = .ok (.iload_n 2, 1) := by decide +kernel
theorem dX9_at_24 : decode cX9_at 24 = .ok (.iconst (-1), 1) := by decide +kernel
theorem dX9_at_25 : decode cX9_at 25 = .ok (.if_icmp .ne 12, 3) := by decide +kernel
theorem dX9_at_28 : decode cX9_at 28 = .ok (.aload_n 0, 1) := by decide +kernel
theorem dX9_at_29 : decode cX9_at 29 = .ok (.getfield 26, 3) := by decide +kernel
theorem dX9_at_32 : decode cX9_at 32 = .ok (.iload_n 1, 1) := by decide +kernel
theorem dX9_at_33 : decode cX9_at 33 = .ok (.invokevirtual 102, 3) := by decide +kernel
theorem dX9_at_36 : decode cX9_at 36 = .ok (.ireturn, 1) := by decide +kernel
theorem dX9_at_37 : decode cX9_at 37 = .ok (.iload_n 2, 1) := by decide +kernel
theorem dX9_at_38 : decode cX9_at 38 = .ok (.bipush (-2), 2) := by decide +kernel
theorem dX9_at_40 : decode cX9_at 40 = .ok (.if_icmp .ne 8, 3) := by decide +kernel
theorem dX9_at_43 : decode cX9_at 43 = .ok (.aload_n 3, 1) := by decide +kernel
theorem dX9_at_44 : decode cX9_at 44 = .ok (.getfield 74, 3) := by decide +kernel
theorem dX9_at_47 : decode cX9_at 47 = .ok (.ireturn, 1) := by decide +kernel
theorem dX9_at_48 : decode cX9_at 48 = .ok (.iload_n 2, 1) := by decide +kernel
theorem dX9_at_49 : decode cX9_at 49 = .ok (.ifCond .lt 11, 3) := by decide +kernel
theorem dX9_at_52 : decode cX9_at 52 = .ok (.iload_n 2, 1) := by decide +kernel
theorem dX9_at_53 : decode cX9_at 53 = .ok (.aload_n 3, 1) := by decide +kernel
theorem dX9_at_54 : decode cX9_at 54 = .ok (.getfield 74, 3) := by decide +kernel
theorem dX9_at_57 : decode cX9_at 57 = .ok (.if_icmp .lt 5, 3) := by decide +kernel
theorem dX9_at_60 : decode cX9_at 60 = .ok (.iconst (-1), 1) := by decide +kernel
theorem dX9_at_61 : decode cX9_at 61 = .ok (.ireturn, 1) := by decide +kernel
theorem dX9_at_62 : decode cX9_at 62 = .ok (.aload_n 3, 1) := by decide +kernel
theorem dX9_at_63 : decode cX9_at 63 = .ok (.getfield 106, 3) := by decide +kernel
theorem dX9_at_66 : decode cX9_at 66 = .ok (.iload_n 2, 1) := by decide +kernel
theorem dX9_at_67 : decode cX9_at 67 = .ok (.iaload, 1) := by decide +kernel
theorem dX9_at_68 : decode cX9_at 68 = .ok (.ireturn, 1) := by decide +kernel
theorem dX9_price_0 : decode cX9_price 0 = .ok (.iload_n 1, 1) := by decide +kernel
theorem dX9_price_1 : decode cX9_price 1 = .ok (.ifCond .lt 9, 3) := by decide +kernel
theorem dX9_price_4 : decode cX9_price 4 = .ok (.iload_n 1, 1) := by decide +kernel
theorem dX9_price_5 : decode cX9_price 5 = .ok (.bipush 6, 2) := by decide +kernel
theorem dX9_price_7 : decode cX9_price 7 = .ok (.if_icmp .lt 6, 3) := by decide +kernel
theorem dX9_price_10 : decode cX9_price 10 = .ok (.bipush (-2), 2) := by decide +kernel
theorem dX9_price_12 : decode cX9_price 12 = .ok (.ireturn, 1) := by decide +kernel
theorem dX9_price_13 : decode cX9_price 13 = .ok (.iload_n 1, 1) := by decide +kernel
theorem dX9_price_14 : decode cX9_price 14 = .ok (.iconst 4, 1) := by decide +kernel
theorem dX9_price_15 : decode cX9_price 15 = .ok (.if_icmp .eq 8, 3) := by decide +kernel
theorem dX9_price_18 : decode cX9_price 18 = .ok (.iload_n 1, 1) := by decide +kernel
theorem dX9_price_19 : decode cX9_price 19 = .ok (.iconst 5, 1) := by decide +kernel
theorem dX9_price_20 : decode cX9_price 20 = .ok (.if_icmp .ne 8, 3) := by decide +kernel
theorem dX9_price_23 : decode cX9_price 23 = .ok (.bipush 50, 2) := by decide +kernel
theorem dX9_price_25 : decode cX9_price 25 = .ok (.goto 5, 3) := by decide +kernel
theorem dX9_price_28 : decode cX9_price 28 = .ok (.bipush 9, 2) := by decide +kernel
theorem dX9_price_30 : decode cX9_price 30 = .ok (.istore_n 3, 1) := by decide +kernel
theorem dX9_price_31 : decode cX9_price 31 = .ok (.iload_n 2, 1) := by decide +kernel
theorem dX9_price_32 : decode cX9_price 32 = .ok (.ifCond .lt 8, 3) := by decide +kernel
theorem dX9_price_35 : decode cX9_price 35 = .ok (.iload_n 2, 1) := by decide +kernel
theorem dX9_price_36 : decode cX9_price 36 = .ok (.iload_n 3, 1) := by decide +kernel
theorem dX9_price_37 : decode cX9_price 37 = .ok (.if_icmp .le 6, 3) := by decide +kernel
theorem dX9_price_40 : decode cX9_price 40 = .ok (.bipush (-2), 2) := by decide +kernel
theorem dX9_price_42 : decode cX9_price 42 = .ok (.ireturn, 1) := by decide +kernel
theorem dX9_price_43 : decode cX9_price 43 = .ok (.aload_n 0, 1) := by decide +kernel
theorem dX9_price_44 : decode cX9_price 44 = .ok (.getfield 19, 3) := by decide +kernel
theorem dX9_price_47 : decode cX9_price 47 = .ok (.getfield 109, 3) := by decide +kernel
theorem dX9_price_50 : decode cX9_price 50 = .ok (.iload_n 1, 1) := by decide +kernel
theorem dX9_price_51 : decode cX9_price 51 = .ok (.iaload, 1) := by decide +kernel
theorem dX9_price_52 : decode cX9_price 52 = .ok (.istore 4, 2) := by decide +kernel
theorem dX9_price_54 : decode cX9_price 54 = .ok (.aload_n 0, 1) := by decide +kernel
theorem dX9_price_55 : decode cX9_price 55 = .ok (.getfield 19, 3) := by decide +kernel
theorem dX9_price_58 : decode cX9_price 58 = .ok (.getfield 109, 3) := by decide +kernel
theorem dX9_price_61 : decode cX9_price 61 = .ok (.iload_n 1, 1) := by decide +kernel
theorem dX9_price_62 : decode cX9_price 62 = .ok (.iload_n 2, 1) := by decide +kernel
theorem dX9_price_63 : decode cX9_price 63 = .ok (.iastore, 1) := by decide +kernel
theorem dX9_price_64 : decode cX9_price 64 = .ok (.iload 4, 2) := by decide +kernel
theorem dX9_price_66 : decode cX9_price 66 = .ok (.ireturn, 1) := by decide +kernel
theorem dX9_near_0 : decode cX9_near 0 = .ok (.iload_n 1, 1) := by decide +kernel
theorem dX9_near_1 : decode cX9_near 1 = .ok (.invokestatic 67, 3) := by decide +kernel
theorem dX9_near_4 : decode cX9_near 4 = .ok (.ifCond .eq 15, 3) := by decide +kernel
theorem dX9_near_7 : decode cX9_near 7 = .ok (.iload_n 2, 1) := by decide +kernel
theorem dX9_near_8 : decode cX9_near 8 = .ok (.invokestatic 67, 3) := by decide +kernel
theorem dX9_near_11 : decode cX9_near 11 = .ok (.ifCond .eq 8, 3) := by decide +kernel
theorem dX9_near_14 : decode cX9_near 14 = .ok (.iload_n 1, 1) := by decide +kernel
theorem dX9_near_15 : decode cX9_near 15 = .ok (.iload_n 2, 1) := by decide +kernel
theorem dX9_near_16 : decode cX9_near 16 = .ok (.if_icmp .ne 5, 3) := by decide +kernel
theorem dX9_near_19 : decode cX9_near 19 = .ok (.iconst (-1), 1) := by decide +kernel
theorem dX9_near_20 : decode cX9_near 20 = .ok (.ireturn, 1) := by decide +kernel
theorem dX9_near_21 : decode cX9_near 21 = .ok (.iload_n 3, 1) := by decide +kernel
theorem dX9_near_22 : decode cX9_near 22 = .ok (.iconst (-1), 1) := by decide +kernel
theorem dX9_near_23 : decode cX9_near 23 = .ok (.if_icmp .lt 9, 3) := by decide +kernel
theorem dX9_near_26 : decode cX9_near 26 = .ok (.iload_n 3, 1) := by decide +kernel
theorem dX9_near_27 : decode cX9_near 27 = .ok (.bipush 9, 2) := by decide +kernel
theorem dX9_near_29 : decode cX9_near 29 = .ok (.if_icmp .le 6, 3) := by decide +kernel
theorem dX9_near_32 : decode cX9_near 32 = .ok (.bipush (-2), 2) := by decide +kernel
theorem dX9_near_34 : decode cX9_near 34 = .ok (.ireturn, 1) := by decide +kernel
theorem dX9_near_35 : decode cX9_near 35 = .ok (.aload_n 0, 1) := by decide +kernel
theorem dX9_near_36 : decode cX9_near 36 = .ok (.getfield 19, 3) := by decide +kernel
theorem dX9_near_39 : decode cX9_near 39 = .ok (.getfield 112, 3) := by decide +kernel
theorem dX9_near_42 : decode cX9_near 42 = .ok (.iload_n 1, 1) := by decide +kernel
theorem dX9_near_43 : decode cX9_near 43 = .ok (.aaload, 1) := by decide +kernel
theorem dX9_near_44 : decode cX9_near 44 = .ok (.iload_n 2, 1) := by decide +kernel
theorem dX9_near_45 : decode cX9_near 45 = .ok (.iaload, 1) := by decide +kernel
theorem dX9_near_46 : decode cX9_near 46 = .ok (.istore 4, 2) := by decide +kernel
theorem dX9_near_48 : decode cX9_near 48 = .ok (.aload_n 0, 1) := by decide +kernel
theorem dX9_near_49 : decode cX9_near 49 = .ok (.getfield 19, 3) := by decide +kernel
theorem dX9_near_52 : decode cX9_near 52 = .ok (.getfield 112, 3) := by decide +kernel
theorem dX9_near_55 : decode cX9_near 55 = .ok (.iload_n 1, 1) := by decide +kernel
theorem dX9_near_56 : decode cX9_near 56 = .ok (.aaload, 1) := by decide +kernel
theorem dX9_near_57 : decode cX9_near 57 = .ok (.iload_n 2, 1) := by decide +kernel
theorem dX9_near_58 : decode cX9_near 58 = .ok (.iload_n 3, 1) := by decide +kernel
theorem dX9_near_59 : decode cX9_near 59 = .ok (.iastore, 1) := by decide +kernel
theorem dX9_near_60 : decode cX9_near 60 = .ok (.iload 4, 2) := by decide +kernel
theorem dX9_near_62 : decode cX9_near 62 = .ok (.iconst (-1), 1) := by decide +kernel
theorem dX9_near_63 : decode cX9_near 63 = .ok (.if_icmp .ne 8, 3) := by decide +kernel
theorem dX9_near_66 : decode cX9_near 66 = .ok (.bipush (-3), 2) := by decide +kernel
theorem dX9_near_68 : decode cX9_near 68 = .ok (.goto 5, 3) := by decide +kernel
theorem dX9_near_71 : decode cX9_near 71 = .ok (.iload 4, 2) := by decide +kernel
theorem dX9_near_73 : decode cX9_near 73 = .ok (.ireturn, 1) := by decide +kernel
theorem dX9_distance_0 : decode cX9_distance 0 = .ok (.aload_n 0, 1) := by decide +kernel
theorem dX9_distance_1 : decode cX9_distance 1 = .ok (.getfield 26, 3) := by decide +kernel
theorem dX9_distance_4 : decode cX9_distance 4 = .ok (.iload_n 1, 1) := by decide +kernel
theorem dX9_distance_5 : decode cX9_distance 5 = .ok (.invokevirtual 91, 3) := by decide +kernel
theorem dX9_distance_8 : decode cX9_distance 8 = .ok (.ifCond .ne 5, 3) := by decide +kernel
theorem dX9_distance_11 : decode cX9_distance 11 = .ok (.iconst (-1), 1) := by decide +kernel
theorem dX9_distance_12 : decode cX9_distance 12 = .ok (.ireturn, 1) := by decide +kernel
theorem dX9_distance_13 : decode cX9_distance 13 = .ok (.aload_n 0, 1) := by decide +kernel
theorem dX9_distance_14 : decode cX9_distance 14 = .ok (.iload_n 1, 1) := by decide +kernel
theorem dX9_distance_15 : decode cX9_distance 15 = .ok (.invokevirtual 116, 3) := by decide +kernel
theorem dX9_distance_18 : decode cX9_distance 18 = .ok (.ireturn, 1) := by decide +kernel
theorem dX9_begins_0 : decode cX9_begins 0 = .ok (.aload_n 0, 1) := by decide +kernel
theorem dX9_begins_1 : decode cX9_begins 1 = .ok (.getfield 26, 3) := by decide +kernel
theorem dX9_begins_4 : decode cX9_begins 4 = .ok (.iload_n 1, 1) := by decide +kernel
theorem dX9_begins_5 : decode cX9_begins 5 = .ok (.invokevirtual 91, 3) := by decide +kernel
theorem dX9_begins_8 : decode cX9_begins 8 = .ok (.ifCond .ne 5, 3) := by decide +kernel
theorem dX9_begins_11 : decode cX9_begins 11 = .ok (.iconst (-1), 1) := by decide +kernel
theorem dX9_begins_12 : decode cX9_begins 12 = .ok (.ireturn, 1) := by decide +kernel
theorem dX9_begins_13 : decode cX9_begins 13 = .ok (.aload_n 0, 1) := by decide +kernel
theorem dX9_begins_14 : decode cX9_begins 14 = .ok (.iload_n 1, 1) := by decide +kernel
theorem dX9_begins_15 : decode cX9_begins 15 = .ok (.invokevirtual 119, 3) := by decide +kernel
theorem dX9_begins_18 : decode cX9_begins 18 = .ok (.ireturn, 1) := by decide +kernel
theorem dX9_edit_0 : decode cX9_edit 0 = .ok (.aload_n 0, 1) := by decide +kernel
theorem dX9_edit_1 : decode cX9_edit 1 = .ok (.getfield 26, 3) := by decide +kernel
theorem dX9_edit_4 : decode cX9_edit 4 = .ok (.iload_n 1, 1) := by decide +kernel
theorem dX9_edit_5 : decode cX9_edit 5 = .ok (.invokevirtual 91, 3) := by decide +kernel
theorem dX9_edit_8 : decode cX9_edit 8 = .ok (.ifCond .ne 5, 3) := by decide +kernel
theorem dX9_edit_11 : decode cX9_edit 11 = .ok (.iconst (-1), 1) := by decide +kernel
theorem dX9_edit_12 : decode cX9_edit 12 = .ok (.ireturn, 1) := by decide +kernel
theorem dX9_edit_13 : decode cX9_edit 13 = .ok (.aload_n 0, 1) := by decide +kernel
theorem dX9_edit_14 : decode cX9_edit 14 = .ok (.iload_n 1, 1) := by decide +kernel
theorem dX9_edit_15 : decode cX9_edit 15 = .ok (.invokevirtual 122, 3) := by decide +kernel
theorem dX9_edit_18 : decode cX9_edit 18 = .ok (.iload_n 2, 1) := by decide +kernel
theorem dX9_edit_19 : decode cX9_edit 19 = .ok (.iconst (-1), 1) := by decide +kernel
theorem dX9_edit_20 : decode cX9_edit 20 = .ok (.if_icmp .ne 11, 3) := by decide +kernel
theorem dX9_edit_23 : decode cX9_edit 23 = .ok (.aload_n 0, 1) := by decide +kernel
theorem dX9_edit_24 : decode cX9_edit 24 = .ok (.getfield 42, 3) := by decide +kernel
theorem dX9_edit_27 : decode cX9_edit 27 = .ok (.getfield 126, 3) := by decide +kernel
theorem dX9_edit_30 : decode cX9_edit 30 = .ok (.ireturn, 1) := by decide +kernel
theorem dX9_edit_31 : decode cX9_edit 31 = .ok (.iload_n 2, 1) := by decide +kernel
theorem dX9_edit_32 : decode cX9_edit 32 = .ok (.ifCond .lt 14, 3) := by decide +kernel
theorem dX9_edit_35 : decode cX9_edit 35 = .ok (.iload_n 2, 1) := by decide +kernel
theorem dX9_edit_36 : decode cX9_edit 36 = .ok (.aload_n 0, 1) := by decide +kernel
theorem dX9_edit_37 : decode cX9_edit 37 = .ok (.getfield 42, 3) := by decide +kernel
theorem dX9_edit_40 : decode cX9_edit 40 = .ok (.getfield 126, 3) := by decide +kernel
theorem dX9_edit_43 : decode cX9_edit 43 = .ok (.if_icmp .lt 5, 3) := by decide +kernel
theorem dX9_edit_46 : decode cX9_edit 46 = .ok (.iconst (-1), 1) := by decide +kernel
theorem dX9_edit_47 : decode cX9_edit 47 = .ok (.ireturn, 1) := by decide +kernel
theorem dX9_edit_48 : decode cX9_edit 48 = .ok (.aload_n 0, 1) := by decide +kernel
theorem dX9_edit_49 : decode cX9_edit 49 = .ok (.getfield 42, 3) := by decide +kernel
theorem dX9_edit_52 : decode cX9_edit 52 = .ok (.iload_n 2, 1) := by decide +kernel
theorem dX9_edit_53 : decode cX9_edit 53 = .ok (.invokevirtual 129, 3) := by decide +kernel
theorem dX9_edit_56 : decode cX9_edit 56 = .ok (.ireturn, 1) := by decide +kernel
theorem dX9_place_0 : decode cX9_place 0 = .ok (.aload_n 0, 1) := by decide +kernel
theorem dX9_place_1 : decode cX9_place 1 = .ok (.getfield 26, 3) := by decide +kernel
theorem dX9_place_4 : decode cX9_place 4 = .ok (.iload_n 1, 1) := by decide +kernel
theorem dX9_place_5 : decode cX9_place 5 = .ok (.invokevirtual 91, 3) := by decide +kernel
theorem dX9_place_8 : decode cX9_place 8 = .ok (.ifCond .ne 5, 3) := by decide +kernel
theorem dX9_place_11 : decode cX9_place 11 = .ok (.iconst (-1), 1) := by decide +kernel
theorem dX9_place_12 : decode cX9_place 12 = .ok (.ireturn, 1) := by decide +kernel
theorem dX9_place_13 : decode cX9_place 13 = .ok (.aload_n 0, 1) := by decide +kernel
theorem dX9_place_14 : decode cX9_place 14 = .ok (.iload_n 1, 1) := by decide +kernel
theorem dX9_place_15 : decode cX9_place 15 = .ok (.invokevirtual 122, 3) := by decide +kernel
theorem dX9_place_18 : decode cX9_place 18 = .ok (.iload_n 2, 1) := by decide +kernel
theorem dX9_place_19 : decode cX9_place 19 = .ok (.ifCond .lt 14, 3) := by decide +kernel
theorem dX9_place_22 : decode cX9_place 22 = .ok (.iload_n 2, 1) := by decide +kernel
theorem dX9_place_23 : decode cX9_place 23 = .ok (.aload_n 0, 1) := by decide +kernel
theorem dX9_place_24 : decode cX9_place 24 = .ok (.getfield 42, 3) := by decide +kernel
theorem dX9_place_27 : decode cX9_place 27 = .ok (.getfield 126, 3) := by decide +kernel
theorem dX9_place_30 : decode cX9_place 30 = .ok (.if_icmp .lt 5, 3) := by decide +kernel
theorem dX9_place_33 : decode cX9_place 33 = .ok (.iconst (-1), 1) := by decide +kernel
theorem dX9_place_34 : decode cX9_place 34 = .ok (.ireturn, 1) := by decide +kernel
theorem dX9_place_35 : decode cX9_place 35 = .ok (.aload_n 0, 1) := by decide +kernel
theorem dX9_place_36 : decode cX9_place 36 = .ok (.getfield 42, 3) := by decide +kernel
theorem dX9_place_39 : decode cX9_place 39 = .ok (.iload_n 2, 1) := by decide +kernel
theorem dX9_place_40 : decode cX9_place 40 = .ok (.invokevirtual 132, 3) := by decide +kernel
theorem dX9_place_43 : decode cX9_place 43 = .ok (.ireturn, 1) := by decide +kernel
theorem dX9_suggest_0 : decode cX9_suggest 0 = .ok (.aload_n 0, 1) := by decide +kernel
theorem dX9_suggest_1 : decode cX9_suggest 1 = .ok (.iload_n 1, 1) := by decide +kernel
theorem dX9_suggest_2 : decode cX9_suggest 2 = .ok (.iconst 0, 1) := by decide +kernel
theorem dX9_suggest_3 : decode cX9_suggest 3 = .ok (.invokevirtual 135, 3) := by decide +kernel
theorem dX9_suggest_6 : decode cX9_suggest 6 = .ok (.ireturn, 1) := by decide +kernel
theorem dX9_suggestion_0 : decode cX9_suggestion 0 = .ok (.aload_n 0, 1) := by decide +kernel
theorem dX9_suggestion_1 : decode cX9_suggestion 1 = .ok (.iload_n 1, 1) := by decide +kernel
theorem dX9_suggestion_2 : decode cX9_suggestion 2 = .ok (.iload_n 2, 1) := by decide +kernel
theorem dX9_suggestion_3 : decode cX9_suggestion 3 = .ok (.iconst 0, 1) := by decide +kernel
theorem dX9_suggestion_4 : decode cX9_suggestion 4 = .ok (.invokevirtual 139, 3) := by decide +kernel
theorem dX9_suggestion_7 : decode cX9_suggestion 7 = .ok (.ireturn, 1) := by decide +kernel
theorem dX9_endings_0 : decode cX9_endings 0 = .ok (.aload_n 0, 1) := by decide +kernel
theorem dX9_endings_1 : decode cX9_endings 1 = .ok (.iload_n 1, 1) := by decide +kernel
theorem dX9_endings_2 : decode cX9_endings 2 = .ok (.iconst 1, 1) := by decide +kernel
theorem dX9_endings_3 : decode cX9_endings 3 = .ok (.invokevirtual 135, 3) := by decide +kernel
theorem dX9_endings_6 : decode cX9_endings 6 = .ok (.ireturn, 1) := by decide +kernel
theorem dX9_ending_0 : decode cX9_ending 0 = .ok (.aload_n 0, 1) := by decide +kernel
theorem dX9_ending_1 : decode cX9_ending 1 = .ok (.iload_n 1, 1) := by decide +kernel
theorem dX9_ending_2 : decode cX9_ending 2 = .ok (.iload_n 2, 1) := by decide +kernel
theorem dX9_ending_3 : decode cX9_ending 3 = .ok (.iconst 1, 1) := by decide +kernel
theorem dX9_ending_4 : decode cX9_ending 4 = .ok (.invokevirtual 139, 3) := by decide +kernel
theorem dX9_ending_7 : decode cX9_ending 7 = .ok (.ireturn, 1) := by decide +kernel
theorem dX9_parting_0 : decode cX9_parting 0 = .ok (.iload_n 1, 1) := by decide +kernel
theorem dX9_parting_1 : decode cX9_parting 1 = .ok (.ifCond .lt 8, 3) := by decide +kernel
theorem dX9_parting_4 : decode cX9_parting 4 = .ok (.iload_n 1, 1) := by decide +kernel
theorem dX9_parting_5 : decode cX9_parting 5 = .ok (.iconst 3, 1) := by decide +kernel
theorem dX9_parting_6 : decode cX9_parting 6 = .ok (.if_icmp .le 6, 3) := by decide +kernel
theorem dX9_parting_9 : decode cX9_parting 9 = .ok (.bipush (-2), 2) := by decide +kernel
theorem dX9_parting_11 : decode cX9_parting 11 = .ok (.ireturn, 1) := by decide +kernel
theorem dX9_parting_12 : decode cX9_parting 12 = .ok (.aload_n 0, 1) := by decide +kernel
theorem dX9_parting_13 : decode cX9_parting 13 = .ok (.getfield 26, 3) := by decide +kernel
theorem dX9_parting_16 : decode cX9_parting 16 = .ok (.getfield 85, 3) := by decide +kernel
theorem dX9_parting_19 : decode cX9_parting 19 = .ok (.ifCond .eq 14, 3) := by decide +kernel
theorem dX9_parting_22 : decode cX9_parting 22 = .ok (.aload_n 0, 1) := by decide +kernel
theorem dX9_parting_23 : decode cX9_parting 23 = .ok (.getfield 10, 3) := by decide +kernel
theorem dX9_parting_26 : decode cX9_parting 26 = .ok (.getfield 74, 3) := by decide +kernel
theorem dX9_parting_29 : decode cX9_parting 29 = .ok (.iconst 2, 1) := by decide +kernel
theorem dX9_parting_30 : decode cX9_parting 30 = .ok (.if_icmp .ge 6, 3) := by decide +kernel
theorem dX9_parting_33 : decode cX9_parting 33 = .ok (.bipush (-3), 2) := by decide +kernel
theorem dX9_parting_35 : decode cX9_parting 35 = .ok (.ireturn, 1) := by decide +kernel
theorem dX9_parting_36 : decode cX9_parting 36 = .ok (.aload_n 0, 1) := by decide +kernel
theorem dX9_parting_37 : decode cX9_parting 37 = .ok (.getfield 56, 3) := by decide +kernel
theorem dX9_parting_40 : decode cX9_parting 40 = .ok (.aload_n 0, 1) := by decide +kernel
theorem dX9_parting_41 : decode cX9_parting 41 = .ok (.getfield 10, 3) := by decide +kernel
theorem dX9_parting_44 : decode cX9_parting 44 = .ok (.aload_n 0, 1) := by decide +kernel
theorem dX9_parting_45 : decode cX9_parting 45 = .ok (.getfield 26, 3) := by decide +kernel
theorem dX9_parting_48 : decode cX9_parting 48 = .ok (.aload_n 0, 1) := by decide +kernel
theorem dX9_parting_49 : decode cX9_parting 49 = .ok (.getfield 42, 3) := by decide +kernel
theorem dX9_parting_52 : decode cX9_parting 52 = .ok (.aload_n 0, 1) := by decide +kernel
theorem dX9_parting_53 : decode cX9_parting 53 = .ok (.getfield 19, 3) := by decide +kernel
theorem dX9_parting_56 : decode cX9_parting 56 = .ok (.getfield 109, 3) := by decide +kernel
theorem dX9_parting_59 : decode cX9_parting 59 = .ok (.iconst 4, 1) := by decide +kernel
theorem dX9_parting_60 : decode cX9_parting 60 = .ok (.iaload, 1) := by decide +kernel
theorem dX9_parting_61 : decode cX9_parting 61 = .ok (.invokevirtual 143, 3) := by decide +kernel
theorem dX9_parting_64 : decode cX9_parting 64 = .ok (.iload_n 1, 1) := by decide +kernel
theorem dX9_parting_65 : decode cX9_parting 65 = .ok (.tableswitch 51 0 2 #[27, 35, 43], 27) := by decide +kernel
theorem dX9_parting_92 : decode cX9_parting 92 = .ok (.aload_n 0, 1) := by decide +kernel
theorem dX9_parting_93 : decode cX9_parting 93 = .ok (.getfield 56, 3) := by decide +kernel
theorem dX9_parting_96 : decode cX9_parting 96 = .ok (.getfield 147, 3) := by decide +kernel
theorem dX9_parting_99 : decode cX9_parting 99 = .ok (.ireturn, 1) := by decide +kernel
theorem dX9_parting_100 : decode cX9_parting 100 = .ok (.aload_n 0, 1) := by decide +kernel
theorem dX9_parting_101 : decode cX9_parting 101 = .ok (.getfield 56, 3) := by decide +kernel
theorem dX9_parting_104 : decode cX9_parting 104 = .ok (.getfield 150, 3) := by decide +kernel
theorem dX9_parting_107 : decode cX9_parting 107 = .ok (.ireturn, 1) := by decide +kernel
theorem dX9_parting_108 : decode cX9_parting 108 = .ok (.aload_n 0, 1) := by decide +kernel
theorem dX9_parting_109 : decode cX9_parting 109 = .ok (.getfield 56, 3) := by decide +kernel
theorem dX9_parting_112 : decode cX9_parting 112 = .ok (.getfield 153, 3) := by decide +kernel
theorem dX9_parting_115 : decode cX9_parting 115 = .ok (.ireturn, 1) := by decide +kernel
theorem dX9_parting_116 : decode cX9_parting 116 = .ok (.aload_n 0, 1) := by decide +kernel
theorem dX9_parting_117 : decode cX9_parting 117 = .ok (.getfield 56, 3) := by decide +kernel
theorem dX9_parting_120 : decode cX9_parting 120 = .ok (.getfield 156, 3) := by decide +kernel
theorem dX9_parting_123 : decode cX9_parting 123 = .ok (.ireturn, 1) := by decide +kernel
theorem dX9_token_0 : decode cX9_token 0 = .ok (.aload_n 0, 1) := by decide +kernel
theorem dX9_token_1 : decode cX9_token 1 = .ok (.getfield 10, 3) := by decide +kernel
theorem dX9_token_4 : decode cX9_token 4 = .ok (.getfield 74, 3) := by decide +kernel
theorem dX9_token_7 : decode cX9_token 7 = .ok (.ifCond .ne 6, 3) := by decide +kernel
theorem dX9_token_10 : decode cX9_token 10 = .ok (.bipush (-2), 2) := by decide +kernel
theorem dX9_token_12 : decode cX9_token 12 = .ok (.ireturn, 1) := by decide +kernel
theorem dX9_token_13 : decode cX9_token 13 = .ok (.aload_n 0, 1) := by decide +kernel
theorem dX9_token_14 : decode cX9_token 14 = .ok (.getfield 33, 3) := by decide +kernel
theorem dX9_token_17 : decode cX9_token 17 = .ok (.aload_n 0, 1) := by decide +kernel
theorem dX9_token_18 : decode cX9_token 18 = .ok (.getfield 10, 3) := by decide +kernel
theorem dX9_token_21 : decode cX9_token 21 = .ok (.invokevirtual 159, 3) := by decide +kernel
theorem dX9_token_24 : decode cX9_token 24 = .ok (.ifCond .ne 6, 3) := by decide +kernel
theorem dX9_token_27 : decode cX9_token 27 = .ok (.bipush (-4), 2) := by decide +kernel
theorem dX9_token_29 : decode cX9_token 29 = .ok (.ireturn, 1) := by decide +kernel
theorem dX9_token_30 : decode cX9_token 30 = .ok (.aload_n 0, 1) := by decide +kernel
theorem dX9_token_31 : decode cX9_token 31 = .ok (.getfield 10, 3) := by decide +kernel
theorem dX9_token_34 : decode cX9_token 34 = .ok (.iconst 0, 1) := by decide +kernel
theorem dX9_token_35 : decode cX9_token 35 = .ok (.putfield 74, 3) := by decide +kernel
theorem dX9_token_38 : decode cX9_token 38 = .ok (.aload_n 0, 1) := by decide +kernel
theorem dX9_token_39 : decode cX9_token 39 = .ok (.getfield 33, 3) := by decide +kernel
theorem dX9_token_42 : decode cX9_token 42 = .ok (.getfield 161, 3) := by decide +kernel
theorem dX9_token_45 : decode cX9_token 45 = .ok (.ireturn, 1) := by decide +kernel
theorem dX9_line_0 : decode cX9_line 0 = .ok (.aload_n 0, 1) := by decide +kernel
theorem dX9_line_1 : decode cX9_line 1 = .ok (.getfield 33, 3) := by decide +kernel
theorem dX9_line_4 : decode cX9_line 4 = .ok (.getfield 161, 3) := by decide +kernel
theorem dX9_line_7 : decode cX9_line 7 = .ok (.istore_n 1, 1) := by decide +kernel
theorem dX9_line_8 : decode cX9_line 8 = .ok (.aload_n 0, 1) := by decide +kernel
theorem dX9_line_9 : decode cX9_line 9 = .ok (.getfield 33, 3) := by decide +kernel
theorem dX9_line_12 : decode cX9_line 12 = .ok (.iconst 0, 1) := by decide +kernel
theorem dX9_line_13 : decode cX9_line 13 = .ok (.putfield 161, 3) := by decide +kernel
theorem dX9_line_16 : decode cX9_line 16 = .ok (.iload_n 1, 1) := by decide +kernel
theorem dX9_line_17 : decode cX9_line 17 = .ok (.ireturn, 1) := by decide +kernel
theorem dX9_pair_0 : decode cX9_pair 0 = .ok (.aload_n 0, 1) := by decide +kernel
theorem dX9_pair_1 : decode cX9_pair 1 = .ok (.getfield 26, 3) := by decide +kernel
theorem dX9_pair_4 : decode cX9_pair 4 = .ok (.iload_n 1, 1) := by decide +kernel
theorem dX9_pair_5 : decode cX9_pair 5 = .ok (.invokevirtual 91, 3) := by decide +kernel
theorem dX9_pair_8 : decode cX9_pair 8 = .ok (.ifCond .eq 14, 3) := by decide +kernel
theorem dX9_pair_11 : decode cX9_pair 11 = .ok (.aload_n 0, 1) := by decide +kernel
theorem dX9_pair_12 : decode cX9_pair 12 = .ok (.getfield 26, 3) := by decide +kernel
theorem dX9_pair_15 : decode cX9_pair 15 = .ok (.iload_n 2, 1) := by decide +kernel
theorem dX9_pair_16 : decode cX9_pair 16 = .ok (.invokevirtual 91, 3) := by decide +kernel
theorem dX9_pair_19 : decode cX9_pair 19 = .ok (.ifCond .ne 5, 3) := by decide +kernel
theorem dX9_pair_22 : decode cX9_pair 22 = .ok (.iconst (-1), 1) := by decide +kernel
theorem dX9_pair_23 : decode cX9_pair 23 = .ok (.ireturn, 1) := by decide +kernel
theorem dX9_pair_24 : decode cX9_pair 24 = .ok (.aload_n 0, 1) := by decide +kernel
theorem dX9_pair_25 : decode cX9_pair 25 = .ok (.getfield 26, 3) := by decide +kernel
theorem dX9_pair_28 : decode cX9_pair 28 = .ok (.iload_n 1, 1) := by decide +kernel
theorem dX9_pair_29 : decode cX9_pair 29 = .ok (.iload_n 2, 1) := by decide +kernel
theorem dX9_pair_30 : decode cX9_pair 30 = .ok (.iload_n 3, 1) := by decide +kernel
theorem dX9_pair_31 : decode cX9_pair 31 = .ok (.invokevirtual 162, 3) := by decide +kernel
theorem dX9_pair_34 : decode cX9_pair 34 = .ok (.ifCond .eq 7, 3) := by decide +kernel
theorem dX9_pair_37 : decode cX9_pair 37 = .ok (.iconst 1, 1) := by decide +kernel
theorem dX9_pair_38 : decode cX9_pair 38 = .ok (.goto 4, 3) := by decide +kernel
theorem dX9_pair_41 : decode cX9_pair 41 = .ok (.iconst 0, 1) := by decide +kernel
theorem dX9_pair_42 : decode cX9_pair 42 = .ok (.ireturn, 1) := by decide +kernel
theorem dX9_chosen_0 : decode cX9_chosen 0 = .ok (.iload_n 1, 1) := by decide +kernel
theorem dX9_chosen_1 : decode cX9_chosen 1 = .ok (.invokestatic 166, 3) := by decide +kernel
theorem dX9_chosen_4 : decode cX9_chosen 4 = .ok (.ifCond .ne 6, 3) := by decide +kernel
theorem dX9_chosen_7 : decode cX9_chosen 7 = .ok (.bipush (-2), 2) := by decide +kernel
theorem dX9_chosen_9 : decode cX9_chosen 9 = .ok (.ireturn, 1) := by decide +kernel
theorem dX9_chosen_10 : decode cX9_chosen 10 = .ok (.iload_n 2, 1) := by decide +kernel
theorem dX9_chosen_11 : decode cX9_chosen 11 = .ok (.iconst (-1), 1) := by decide +kernel
theorem dX9_chosen_12 : decode cX9_chosen 12 = .ok (.if_icmp .lt 14, 3) := by decide +kernel
theorem dX9_chosen_15 : decode cX9_chosen 15 = .ok (.iload_n 2, 1) := by decide +kernel
theorem dX9_chosen_16 : decode cX9_chosen 16 = .ok (.aload_n 0, 1) := by decide +kernel
theorem dX9_chosen_17 : decode cX9_chosen 17 = .ok (.getfield 33, 3) := by decide +kernel
theorem dX9_chosen_20 : decode cX9_chosen 20 = .ok (.getfield 161, 3) := by decide +kernel
theorem dX9_chosen_23 : decode cX9_chosen 23 = .ok (.if_icmp .lt 5, 3) := by decide +kernel
theorem dX9_chosen_26 : decode cX9_chosen 26 = .ok (.iconst (-1), 1) := by decide +kernel
theorem dX9_chosen_27 : decode cX9_chosen 27 = .ok (.ireturn, 1) := by decide +kernel
theorem dX9_chosen_28 : decode cX9_chosen 28 = .ok (.aload_n 0, 1) := by decide +kernel
theorem dX9_chosen_29 : decode cX9_chosen 29 = .ok (.getfield 63, 3) := by decide +kernel
theorem dX9_chosen_32 : decode cX9_chosen 32 = .ok (.aload_n 0, 1) := by decide +kernel
theorem dX9_chosen_33 : decode cX9_chosen 33 = .ok (.getfield 33, 3) := by decide +kernel
theorem dX9_chosen_36 : decode cX9_chosen 36 = .ok (.aload_n 0, 1) := by decide +kernel
theorem dX9_chosen_37 : decode cX9_chosen 37 = .ok (.getfield 26, 3) := by decide +kernel
theorem dX9_chosen_40 : decode cX9_chosen 40 = .ok (.aload_n 0, 1) := by decide +kernel
theorem dX9_chosen_41 : decode cX9_chosen 41 = .ok (.getfield 42, 3) := by decide +kernel
theorem dX9_chosen_44 : decode cX9_chosen 44 = .ok (.iload_n 1, 1) := by decide +kernel
theorem dX9_chosen_45 : decode cX9_chosen 45 = .ok (.invokevirtual 169, 3) := by decide +kernel
theorem dX9_chosen_48 : decode cX9_chosen 48 = .ok (.aload_n 0, 1) := by decide +kernel
theorem dX9_chosen_49 : decode cX9_chosen 49 = .ok (.getfield 63, 3) := by decide +kernel
theorem dX9_chosen_52 : decode cX9_chosen 52 = .ok (.aload_n 0, 1) := by decide +kernel
theorem dX9_chosen_53 : decode cX9_chosen 53 = .ok (.getfield 33, 3) := by decide +kernel
theorem dX9_chosen_56 : decode cX9_chosen 56 = .ok (.getfield 161, 3) := by decide +kernel
theorem dX9_chosen_59 : decode cX9_chosen 59 = .ok (.aload_n 0, 1) := by decide +kernel
theorem dX9_chosen_60 : decode cX9_chosen 60 = .ok (.getfield 26, 3) := by decide +kernel
theorem dX9_chosen_63 : decode cX9_chosen 63 = .ok (.aload_n 0, 1) := by decide +kernel
theorem dX9_chosen_64 : decode cX9_chosen 64 = .ok (.getfield 19, 3) := by decide +kernel
theorem dX9_chosen_67 : decode cX9_chosen 67 = .ok (.getfield 109, 3) := by decide +kernel
theorem dX9_chosen_70 : decode cX9_chosen 70 = .ok (.iconst 5, 1) := by decide +kernel
theorem dX9_chosen_71 : decode cX9_chosen 71 = .ok (.iaload, 1) := by decide +kernel
theorem dX9_chosen_72 : decode cX9_chosen 72 = .ok (.invokevirtual 173, 3) := by decide +kernel
theorem dX9_chosen_75 : decode cX9_chosen 75 = .ok (.istore_n 3, 1) := by decide +kernel
theorem dX9_chosen_76 : decode cX9_chosen 76 = .ok (.iload_n 3, 1) := by decide +kernel
theorem dX9_chosen_77 : decode cX9_chosen 77 = .ok (.ldc 177, 2) := by decide +kernel
theorem dX9_chosen_79 : decode cX9_chosen 79 = .ok (.if_icmp .lt 6, 3) := by decide +kernel
theorem dX9_chosen_82 : decode cX9_chosen 82 = .ok (.bipush (-3), 2) := by decide +kernel
theorem dX9_chosen_84 : decode cX9_chosen 84 = .ok (.ireturn, 1) := by decide +kernel
theorem dX9_chosen_85 : decode cX9_chosen 85 = .ok (.iload_n 2, 1) := by decide +kernel
theorem dX9_chosen_86 : decode cX9_chosen 86 = .ok (.iconst (-1), 1) := by decide +kernel
theorem dX9_chosen_87 : decode cX9_chosen 87 = .ok (.if_icmp .ne 7, 3) := by decide +kernel
theorem dX9_chosen_90 : decode cX9_chosen 90 = .ok (.iload_n 3, 1) := by decide +kernel
theorem dX9_chosen_91 : decode cX9_chosen 91 = .ok (.goto 12, 3) := by decide +kernel
theorem dX9_chosen_94 : decode cX9_chosen 94 = .ok (.aload_n 0, 1) := by decide +kernel
theorem dX9_chosen_95 : decode cX9_chosen 95 = .ok (.getfield 63, 3) := by decide +kernel
theorem dX9_chosen_98 : decode cX9_chosen 98 = .ok (.getfield 178, 3) := by decide +kernel
theorem dX9_chosen_101 : decode cX9_chosen 101 = .ok (.iload_n 2, 1) := by decide +kernel
theorem dX9_chosen_102 : decode cX9_chosen 102 = .ok (.iaload, 1) := by decide +kernel
theorem dX9_chosen_103 : decode cX9_chosen 103 = .ok (.ireturn, 1) := by decide +kernel
theorem dX9_share_0 : decode cX9_share 0 = .ok (.aload_n 0, 1) := by decide +kernel
theorem dX9_share_1 : decode cX9_share 1 = .ok (.getfield 26, 3) := by decide +kernel
theorem dX9_share_4 : decode cX9_share 4 = .ok (.iload_n 1, 1) := by decide +kernel
theorem dX9_share_5 : decode cX9_share 5 = .ok (.invokevirtual 91, 3) := by decide +kernel
theorem dX9_share_8 : decode cX9_share 8 = .ok (.ifCond .ne 5, 3) := by decide +kernel
theorem dX9_share_11 : decode cX9_share 11 = .ok (.iconst (-1), 1) := by decide +kernel
theorem dX9_share_12 : decode cX9_share 12 = .ok (.ireturn, 1) := by decide +kernel
theorem dX9_share_13 : decode cX9_share 13 = .ok (.aload_n 0, 1) := by decide +kernel
theorem dX9_share_14 : decode cX9_share 14 = .ok (.getfield 10, 3) := by decide +kernel
theorem dX9_share_17 : decode cX9_share 17 = .ok (.getfield 74, 3) := by decide +kernel
theorem dX9_share_20 : decode cX9_share 20 = .ok (.ifCond .ne 13, 3) := by decide +kernel
theorem dX9_share_23 : decode cX9_share 23 = .ok (.new 181, 3) := by decide +kernel
theorem dX9_share_26 : decode cX9_share 26 = .ok (.dup, 1) := by decide +kernel
theorem dX9_share_27 : decode cX9_share 27 = .ok (.ldc 183, 2) := by decide +kernel
theorem dX9_share_29 : decode cX9_share 29 = .ok (.invokespecial 185, 3) := by decide +kernel
theorem dX9_share_32 : decode cX9_share 32 = .ok (.athrow, 1) := by decide +kernel
theorem dX9_share_33 : decode cX9_share 33 = .ok (.sipush 1000, 3) := by decide +kernel
theorem dX9_share_36 : decode cX9_share 36 = .ok (.aload_n 0, 1) := by decide +kernel
theorem dX9_share_37 : decode cX9_share 37 = .ok (.iload_n 1, 1) := by decide +kernel
theorem dX9_share_38 : decode cX9_share 38 = .ok (.invokevirtual 116, 3) := by decide +kernel
theorem dX9_share_41 : decode cX9_share 41 = .ok (.imul, 1) := by decide +kernel
theorem dX9_share_42 : decode cX9_share 42 = .ok (.aload_n 0, 1) := by decide +kernel
theorem dX9_share_43 : decode cX9_share 43 = .ok (.getfield 10, 3) := by decide +kernel
theorem dX9_share_46 : decode cX9_share 46 = .ok (.getfield 74, 3) := by decide +kernel
theorem dX9_share_49 : decode cX9_share 49 = .ok (.idiv, 1) := by decide +kernel
theorem dX9_share_50 : decode cX9_share 50 = .ok (.ireturn, 1) := by decide +kernel
theorem dX9_isLetter_0 : decode cX9_isLetter 0 = .ok (.iload_n 0, 1) := by decide +kernel
theorem dX9_isLetter_1 : decode cX9_isLetter 1 = .ok (.ifCond .lt 13, 3) := by decide +kernel
theorem dX9_isLetter_4 : decode cX9_isLetter 4 = .ok (.iload_n 0, 1) := by decide +kernel
theorem dX9_isLetter_5 : decode cX9_isLetter 5 = .ok (.bipush 26, 2) := by decide +kernel
theorem dX9_isLetter_7 : decode cX9_isLetter 7 = .ok (.if_icmp .ge 7, 3) := by decide +kernel
theorem dX9_isLetter_10 : decode cX9_isLetter 10 = .ok (.iconst 1, 1) := by decide +kernel
theorem dX9_isLetter_11 : decode cX9_isLetter 11 = .ok (.goto 4, 3) := by decide +kernel
theorem dX9_isLetter_14 : decode cX9_isLetter 14 = .ok (.iconst 0, 1) := by decide +kernel
theorem dX9_isLetter_15 : decode cX9_isLetter 15 = .ok (.ireturn, 1) := by decide +kernel
theorem dX9_isCount_0 : decode cX9_isCount 0 = .ok (.iload_n 0, 1) := by decide +kernel
theorem dX9_isCount_1 : decode cX9_isCount 1 = .ok (.iconst 1, 1) := by decide +kernel
theorem dX9_isCount_2 : decode cX9_isCount 2 = .ok (.if_icmp .lt 14, 3) := by decide +kernel
theorem dX9_isCount_5 : decode cX9_isCount 5 = .ok (.iload_n 0, 1) := by decide +kernel
theorem dX9_isCount_6 : decode cX9_isCount 6 = .ok (.sipush 1000, 3) := by decide +kernel
theorem dX9_isCount_9 : decode cX9_isCount 9 = .ok (.if_icmp .gt 7, 3) := by decide +kernel
theorem dX9_isCount_12 : decode cX9_isCount 12 = .ok (.iconst 1, 1) := by decide +kernel
theorem dX9_isCount_13 : decode cX9_isCount 13 = .ok (.goto 4, 3) := by decide +kernel
theorem dX9_isCount_16 : decode cX9_isCount 16 = .ok (.iconst 0, 1) := by decide +kernel
theorem dX9_isCount_17 : decode cX9_isCount 17 = .ok (.ireturn, 1) := by decide +kernel
theorem dX9_isLimit_0 : decode cX9_isLimit 0 = .ok (.iload_n 0, 1) := by decide +kernel
theorem dX9_isLimit_1 : decode cX9_isLimit 1 = .ok (.ifCond .lt 13, 3) := by decide +kernel
theorem dX9_isLimit_4 : decode cX9_isLimit 4 = .ok (.iload_n 0, 1) := by decide +kernel
theorem dX9_isLimit_5 : decode cX9_isLimit 5 = .ok (.bipush 50, 2) := by decide +kernel
theorem dX9_isLimit_7 : decode cX9_isLimit 7 = .ok (.if_icmp .gt 7, 3) := by decide +kernel
theorem dX9_isLimit_10 : decode cX9_isLimit 10 = .ok (.iconst 1, 1) := by decide +kernel
theorem dX9_isLimit_11 : decode cX9_isLimit 11 = .ok (.goto 4, 3) := by decide +kernel
theorem dX9_isLimit_14 : decode cX9_isLimit 14 = .ok (.iconst 0, 1) := by decide +kernel
theorem dX9_isLimit_15 : decode cX9_isLimit 15 = .ok (.ireturn, 1) := by decide +kernel
theorem dX9_priceOfWord_0 : decode cX9_priceOfWord 0 = .ok (.aload_n 0, 1) := by decide +kernel
theorem dX9_priceOfWord_1 : decode cX9_priceOfWord 1 = .ok (.getfield 42, 3) := by decide +kernel
theorem dX9_priceOfWord_4 : decode cX9_priceOfWord 4 = .ok (.aload_n 0, 1) := by decide +kernel
theorem dX9_priceOfWord_5 : decode cX9_priceOfWord 5 = .ok (.getfield 10, 3) := by decide +kernel
theorem dX9_priceOfWord_8 : decode cX9_priceOfWord 8 = .ok (.aload_n 0, 1) := by decide +kernel
theorem dX9_priceOfWord_9 : decode cX9_priceOfWord 9 = .ok (.getfield 26, 3) := by decide +kernel
theorem dX9_priceOfWord_12 : decode cX9_priceOfWord 12 = .ok (.getfield 98, 3) := by decide +kernel
theorem dX9_priceOfWord_15 : decode cX9_priceOfWord 15 = .ok (.iload_n 1, 1) := by decide +kernel
theorem dX9_priceOfWord_16 : decode cX9_priceOfWord 16 = .ok (.aaload, 1) := by decide +kernel
theorem dX9_priceOfWord_17 : decode cX9_priceOfWord 17 = .ok (.invokevirtual 188, 3) := by decide +kernel
theorem dX9_priceOfWord_20 : decode cX9_priceOfWord 20 = .ok (.ireturn, 1) := by decide +kernel
theorem dX9_priceOfBeginning_0 : decode cX9_priceOfBeginning 0 = .ok (.aload_n 0, 1) := by decide +kernel
theorem dX9_priceOfBeginning_1 : decode cX9_priceOfBeginning 1 = .ok (.getfield 42, 3) := by decide +kernel
theorem dX9_priceOfBeginning_4 : decode cX9_priceOfBeginning 4 = .ok (.aload_n 0, 1) := by decide +kernel
theorem dX9_priceOfBeginning_5 : decode cX9_priceOfBeginning 5 = .ok (.getfield 10, 3) := by decide +kernel
theorem dX9_priceOfBeginning_8 : decode cX9_priceOfBeginning 8 = .ok (.aload_n 0, 1) := by decide +kernel
theorem dX9_priceOfBeginning_9 : decode cX9_priceOfBeginning 9 = .ok (.getfield 26, 3) := by decide +kernel
theorem dX9_priceOfBeginning_12 : decode cX9_priceOfBeginning 12 = .ok (.getfield 98, 3) := by decide +kernel
theorem dX9_priceOfBeginning_15 : decode cX9_priceOfBeginning 15 = .ok (.iload_n 1, 1) := by decide +kernel
theorem dX9_priceOfBeginning_16 : decode cX9_priceOfBeginning 16 = .ok (.aaload, 1) := by decide +kernel
theorem dX9_priceOfBeginning_17 : decode cX9_priceOfBeginning 17 = .ok (.invokevirtual 188, 3) := by decide +kernel
theorem dX9_priceOfBeginning_20 : decode cX9_priceOfBeginning 20 = .ok (.pop, 1) := by decide +kernel
theorem dX9_priceOfBeginning_21 : decode cX9_priceOfBeginning 21 = .ok (.aload_n 0, 1) := by decide +kernel
theorem dX9_priceOfBeginning_22 : decode cX9_priceOfBeginning 22 = .ok (.getfield 42, 3) := by decide +kernel
theorem dX9_priceOfBeginning_25 : decode cX9_priceOfBeginning 25 = .ok (.invokevirtual 191, 3) := by decide +kernel
theorem dX9_priceOfBeginning_28 : decode cX9_priceOfBeginning 28 = .ok (.ireturn, 1) := by decide +kernel
theorem dX9_findEdits_0 : decode cX9_findEdits 0 = .ok (.aload_n 0, 1) := by decide +kernel
theorem dX9_findEdits_1 : decode cX9_findEdits 1 = .ok (.getfield 42, 3) := by decide +kernel
theorem dX9_findEdits_4 : decode cX9_findEdits 4 = .ok (.aload_n 0, 1) := by decide +kernel
theorem dX9_findEdits_5 : decode cX9_findEdits 5 = .ok (.getfield 10, 3) := by decide +kernel
theorem dX9_findEdits_8 : decode cX9_findEdits 8 = .ok (.aload_n 0, 1) := by decide +kernel
theorem dX9_findEdits_9 : decode cX9_findEdits 9 = .ok (.getfield 26, 3) := by decide +kernel
theorem dX9_findEdits_12 : decode cX9_findEdits 12 = .ok (.getfield 98, 3) := by decide +kernel
theorem dX9_findEdits_15 : decode cX9_findEdits 15 = .ok (.iload_n 1, 1) := by decide +kernel
theorem dX9_findEdits_16 : decode cX9_findEdits 16 = .ok (.aaload, 1) := by decide +kernel
theorem dX9_findEdits_17 : decode cX9_findEdits 17 = .ok (.invokevirtual 188, 3) := by decide +kernel
theorem dX9_findEdits_20 : decode cX9_findEdits 20 = .ok (.pop, 1) := by decide +kernel
theorem dX9_findEdits_21 : decode cX9_findEdits 21 = .ok (.aload_n 0, 1) := by decide +kernel
theorem dX9_findEdits_22 : decode cX9_findEdits 22 = .ok (.getfield 42, 3) := by decide +kernel
theorem dX9_findEdits_25 : decode cX9_findEdits 25 = .ok (.invokevirtual 195, 3) := by decide +kernel
theorem dX9_findEdits_28 : decode cX9_findEdits 28 = .ok (.return_, 1) := by decide +kernel
theorem dX9_howMany_0 : decode cX9_howMany 0 = .ok (.iload_n 1, 1) := by decide +kernel
theorem dX9_howMany_1 : decode cX9_howMany 1 = .ok (.invokestatic 166, 3) := by decide +kernel
theorem dX9_howMany_4 : decode cX9_howMany 4 = .ok (.ifCond .ne 6, 3) := by decide +kernel
theorem dX9_howMany_7 : decode cX9_howMany 7 = .ok (.bipush (-2), 2) := by decide +kernel
theorem dX9_howMany_9 : decode cX9_howMany 9 = .ok (.ireturn, 1) := by decide +kernel
theorem dX9_howMany_10 : decode cX9_howMany 10 = .ok (.aload_n 0, 1) := by decide +kernel
theorem dX9_howMany_11 : decode cX9_howMany 11 = .ok (.iload_n 1, 1) := by decide +kernel
theorem dX9_howMany_12 : decode cX9_howMany 12 = .ok (.iload_n 2, 1) := by decide +kernel
theorem dX9_howMany_13 : decode cX9_howMany 13 = .ok (.invokevirtual 198, 3) := by decide +kernel
theorem dX9_howMany_16 : decode cX9_howMany 16 = .ok (.aload_n 0, 1) := by decide +kernel
theorem dX9_howMany_17 : decode cX9_howMany 17 = .ok (.getfield 49, 3) := by decide +kernel
theorem dX9_howMany_20 : decode cX9_howMany 20 = .ok (.getfield 202, 3) := by decide +kernel
theorem dX9_howMany_23 : decode cX9_howMany 23 = .ok (.ireturn, 1) := by decide +kernel
theorem dX9_rankedWord_0 : decode cX9_rankedWord 0 = .ok (.iload_n 1, 1) := by decide +kernel
theorem dX9_rankedWord_1 : decode cX9_rankedWord 1 = .ok (.invokestatic 166, 3) := by decide +kernel
theorem dX9_rankedWord_4 : decode cX9_rankedWord 4 = .ok (.ifCond .ne 6, 3) := by decide +kernel
theorem dX9_rankedWord_7 : decode cX9_rankedWord 7 = .ok (.bipush (-2), 2) := by decide +kernel
theorem dX9_rankedWord_9 : decode cX9_rankedWord 9 = .ok (.ireturn, 1) := by decide +kernel
theorem dX9_rankedWord_10 : decode cX9_rankedWord 10 = .ok (.aload_n 0, 1) := by decide +kernel
theorem dX9_rankedWord_11 : decode cX9_rankedWord 11 = .ok (.iload_n 1, 1) := by decide +kernel
theorem dX9_rankedWord_12 : decode cX9_rankedWord 12 = .ok (.iload_n 3, 1) := by decide +kernel
theorem dX9_rankedWord_13 : decode cX9_rankedWord 13 = .ok (.invokevirtual 198, 3) := by decide +kernel
theorem dX9_rankedWord_16 : decode cX9_rankedWord 16 = .ok (.iload_n 2, 1) := by decide +kernel
theorem dX9_rankedWord_17 : decode cX9_rankedWord 17 = .ok (.ifCond .lt 14, 3) := by decide +kernel
theorem dX9_rankedWord_20 : decode cX9_rankedWord 20 = .ok (.iload_n 2, 1) := by decide +kernel
theorem dX9_rankedWord_21 : decode cX9_rankedWord 21 = .ok (.aload_n 0, 1) := by decide +kernel
theorem dX9_rankedWord_22 : decode cX9_rankedWord 22 = .ok (.getfield 49, 3) := by decide +kernel
theorem dX9_rankedWord_25 : decode cX9_rankedWord 25 = .ok (.getfield 202, 3) := by decide +kernel
theorem dX9_rankedWord_28 : decode cX9_rankedWord 28 = .ok (.if_icmp .lt 5, 3) := by decide +kernel
theorem dX9_rankedWord_31 : decode cX9_rankedWord 31 = .ok (.iconst (-1), 1) := by decide +kernel
theorem dX9_rankedWord_32 : decode cX9_rankedWord 32 = .ok (.ireturn, 1) := by decide +kernel
theorem dX9_rankedWord_33 : decode cX9_rankedWord 33 = .ok (.aload_n 0, 1) := by decide +kernel
theorem dX9_rankedWord_34 : decode cX9_rankedWord 34 = .ok (.getfield 49, 3) := by decide +kernel
theorem dX9_rankedWord_37 : decode cX9_rankedWord 37 = .ok (.getfield 203, 3) := by decide +kernel
theorem dX9_rankedWord_40 : decode cX9_rankedWord 40 = .ok (.iload_n 2, 1) := by decide +kernel
theorem dX9_rankedWord_41 : decode cX9_rankedWord 41 = .ok (.iaload, 1) := by decide +kernel
theorem dX9_rankedWord_42 : decode cX9_rankedWord 42 = .ok (.ireturn, 1) := by decide +kernel
theorem dX9_rankWords_0 : decode cX9_rankWords 0 = .ok (.aload_n 0, 1) := by decide +kernel
theorem dX9_rankWords_1 : decode cX9_rankWords 1 = .ok (.getfield 49, 3) := by decide +kernel
theorem dX9_rankWords_4 : decode cX9_rankWords 4 = .ok (.iconst 0, 1) := by decide +kernel
theorem dX9_rankWords_5 : decode cX9_rankWords 5 = .ok (.putfield 202, 3) := by decide +kernel
theorem dX9_rankWords_8 : decode cX9_rankWords 8 = .ok (.iconst 0, 1) := by decide +kernel
theorem dX9_rankWords_9 : decode cX9_rankWords 9 = .ok (.istore_n 3, 1) := by decide +kernel
theorem dX9_rankWords_10 : decode cX9_rankWords 10 = .ok (.iload_n 3, 1) := by decide +kernel
theorem dX9_rankWords_11 : decode cX9_rankWords 11 = .ok (.aload_n 0, 1) := by decide +kernel
theorem dX9_rankWords_12 : decode cX9_rankWords 12 = .ok (.getfield 26, 3) := by decide +kernel
theorem dX9_rankWords_15 : decode cX9_rankWords 15 = .ok (.getfield 85, 3) := by decide +kernel
theorem dX9_rankWords_18 : decode cX9_rankWords 18 = .ok (.if_icmp .ge 68, 3) := by decide +kernel
theorem dX9_rankWords_21 : decode cX9_rankWords 21 = .ok (.aload_n 0, 1) := by decide +kernel
theorem dX9_rankWords_22 : decode cX9_rankWords 22 = .ok (.getfield 26, 3) := by decide +kernel
theorem dX9_rankWords_25 : decode cX9_rankWords 25 = .ok (.getfield 206, 3) := by decide +kernel
theorem dX9_rankWords_28 : decode cX9_rankWords 28 = .ok (.iload_n 3, 1) := by decide +kernel
theorem dX9_rankWords_29 : decode cX9_rankWords 29 = .ok (.iaload, 1) := by decide +kernel
theorem dX9_rankWords_30 : decode cX9_rankWords 30 = .ok (.istore 4, 2) := by decide +kernel
theorem dX9_rankWords_32 : decode cX9_rankWords 32 = .ok (.iload_n 2, 1) := by decide +kernel
theorem dX9_rankWords_33 : decode cX9_rankWords 33 = .ok (.ifCond .eq 12, 3) := by decide +kernel
theorem dX9_rankWords_36 : decode cX9_rankWords 36 = .ok (.aload_n 0, 1) := by decide +kernel
theorem dX9_rankWords_37 : decode cX9_rankWords 37 = .ok (.iload 4, 2) := by decide +kernel
theorem dX9_rankWords_39 : decode cX9_rankWords 39 = .ok (.invokevirtual 119, 3) := by decide +kernel
theorem dX9_rankWords_42 : decode cX9_rankWords 42 = .ok (.goto 9, 3) := by decide +kernel
theorem dX9_rankWords_45 : decode cX9_rankWords 45 = .ok (.aload_n 0, 1) := by decide +kernel
theorem dX9_rankWords_46 : decode cX9_rankWords 46 = .ok (.iload 4, 2) := by decide +kernel
theorem dX9_rankWords_48 : decode cX9_rankWords 48 = .ok (.invokevirtual 116, 3) := by decide +kernel
theorem dX9_rankWords_51 : decode cX9_rankWords 51 = .ok (.istore 5, 2) := by decide +kernel
theorem dX9_rankWords_53 : decode cX9_rankWords 53 = .ok (.iload 5, 2) := by decide +kernel
theorem dX9_rankWords_55 : decode cX9_rankWords 55 = .ok (.iload_n 1, 1) := by decide +kernel
theorem dX9_rankWords_56 : decode cX9_rankWords 56 = .ok (.if_icmp .gt 24, 3) := by decide +kernel
theorem dX9_rankWords_59 : decode cX9_rankWords 59 = .ok (.aload_n 0, 1) := by decide +kernel
theorem dX9_rankWords_60 : decode cX9_rankWords 60 = .ok (.getfield 49, 3) := by decide +kernel
theorem dX9_rankWords_63 : decode cX9_rankWords 63 = .ok (.iload 4, 2) := by decide +kernel
theorem dX9_rankWords_65 : decode cX9_rankWords 65 = .ok (.iload 5, 2) := by decide +kernel
theorem dX9_rankWords_67 : decode cX9_rankWords 67 = .ok (.aload_n 0, 1) := by decide +kernel
theorem dX9_rankWords_68 : decode cX9_rankWords 68 = .ok (.getfield 26, 3) := by decide +kernel
theorem dX9_rankWords_71 : decode cX9_rankWords 71 = .ok (.getfield 94, 3) := by decide +kernel
theorem dX9_rankWords_74 : decode cX9_rankWords 74 = .ok (.iload 4, 2) := by decide +kernel
theorem dX9_rankWords_76 : decode cX9_rankWords 76 = .ok (.iaload, 1) := by decide +kernel
theorem dX9_rankWords_77 : decode cX9_rankWords 77 = .ok (.invokevirtual 209, 3) := by decide +kernel
theorem dX9_rankWords_80 : decode cX9_rankWords 80 = .ok (.iinc 3 1, 3) := by decide +kernel
theorem dX9_rankWords_83 : decode cX9_rankWords 83 = .ok (.goto (-73), 3) := by decide +kernel
theorem dX9_rankWords_86 : decode cX9_rankWords 86 = .ok (.return_, 1) := by decide +kernel
end
section
theorem dX10_init_0 : decode cX10_init 0 = .ok (.aload_n 0, 1) := by decide +kernel
theorem dX10_init_1 : decode cX10_init 1 = .ok (.invokespecial 1, 3) := by decide +kernel
theorem dX10_init_4 : decode cX10_init 4 = .ok (.aload_n 0, 1) := by decide +kernel
theorem dX10_init_5 : decode cX10_init 5 = .ok (.bipush 12, 2) := by decide +kernel
theorem dX10_init_7 : decode cX10_init 7 = .ok (.newarray .int, 2) := by decide +kernel
theorem dX10_init_9 : decode cX10_init 9 = .ok (.putfield 7, 3) := by decide +kernel
theorem dX10_init_12 : decode cX10_init 12 = .ok (.aload_n 0, 1) := by decide +kernel
theorem dX10_init_13 : decode cX10_init 13 = .ok (.bipush 60, 2) := by decide +kernel
theorem dX10_init_15 : decode cX10_init 15 = .ok (.newarray .int, 2) := by decide +kernel
theorem dX10_init_17 : decode cX10_init 17 = .ok (.putfield 13, 3) := by decide +kernel
theorem dX10_init_20 : decode cX10_init 20 = .ok (.aload_n 0, 1) := by decide +kernel
theorem dX10_init_21 : decode cX10_init 21 = .ok (.sipush 720, 3) := by decide +kernel
theorem dX10_init_24 : decode cX10_init 24 = .ok (.newarray .int, 2) := by decide +kernel
theorem dX10_init_26 : decode cX10_init 26 = .ok (.putfield 16, 3) := by decide +kernel
theorem dX10_init_29 : decode cX10_init 29 = .ok (.aload_n 0, 1) := by decide +kernel
theorem dX10_init_30 : decode cX10_init 30 = .ok (.bipush 60, 2) := by decide +kernel
theorem dX10_init_32 : decode cX10_init 32 = .ok (.newarray .int, 2) := by decide +kernel
theorem dX10_init_34 : decode cX10_init 34 = .ok (.putfield 19, 3) := by decide +kernel
theorem dX10_init_37 : decode cX10_init 37 = .ok (.aload_n 0, 1) := by decide +kernel
theorem dX10_init_38 : decode cX10_init 38 = .ok (.bipush 6, 2) := by decide +kernel
theorem dX10_init_40 : decode cX10_init 40 = .ok (.newarray .int, 2) := by decide +kernel
theorem dX10_init_42 : decode cX10_init 42 = .ok (.putfield 22, 3) := by decide +kernel
theorem dX10_init_45 : decode cX10_init 45 = .ok (.aload_n 0, 1) := by decide +kernel
theorem dX10_init_46 : decode cX10_init 46 = .ok (.sipush 676, 3) := by decide +kernel
theorem dX10_init_49 : decode cX10_init 49 = .ok (.newarray .int, 2) := by decide +kernel
theorem dX10_init_51 : decode cX10_init 51 = .ok (.putfield 25, 3) := by decide +kernel
theorem dX10_init_54 : decode cX10_init 54 = .ok (.aload_n 0, 1) := by decide +kernel
theorem dX10_init_55 : decode cX10_init 55 = .ok (.bipush 6, 2) := by decide +kernel
theorem dX10_init_57 : decode cX10_init 57 = .ok (.newarray .int, 2) := by decide +kernel
theorem dX10_init_59 : decode cX10_init 59 = .ok (.putfield 28, 3) := by decide +kernel
theorem dX10_init_62 : decode cX10_init 62 = .ok (.aload_n 0, 1) := by decide +kernel
theorem dX10_init_63 : decode cX10_init 63 = .ok (.bipush 72, 2) := by decide +kernel
theorem dX10_init_65 : decode cX10_init 65 = .ok (.newarray .int, 2) := by decide +kernel
theorem dX10_init_67 : decode cX10_init 67 = .ok (.putfield 31, 3) := by decide +kernel
theorem dX10_init_70 : decode cX10_init 70 = .ok (.aload_n 0, 1) := by decide +kernel
theorem dX10_init_71 : decode cX10_init 71 = .ok (.sipush 3600, 3) := by decide +kernel
theorem dX10_init_74 : decode cX10_init 74 = .ok (.newarray .boolean, 2) := by decide +kernel
theorem dX10_init_76 : decode cX10_init 76 = .ok (.putfield 34, 3) := by decide +kernel
theorem dX10_init_79 : decode cX10_init 79 = .ok (.aload_n 0, 1) := by decide +kernel
theorem dX10_init_80 : decode cX10_init 80 = .ok (.sipush 169, 3) := by decide +kernel
theorem dX10_init_83 : decode cX10_init 83 = .ok (.newarray .int, 2) := by decide +kernel
theorem dX10_init_85 : decode cX10_init 85 = .ok (.putfield 38, 3) := by decide +kernel
theorem dX10_init_88 : decode cX10_init 88 = .ok (.aload_n 0, 1) := by decide +kernel
theorem dX10_init_89 : decode cX10_init 89 = .ok (.bipush 12, 2) := by decide +kernel
theorem dX10_init_91 : decode cX10_init 91 = .ok (.newarray .int, 2) := by decide +kernel
theorem dX10_init_93 : decode cX10_init 93 = .ok (.putfield 41, 3) := by decide +kernel
theorem dX10_init_96 : decode cX10_init 96 = .ok (.aload_n 0, 1) := by decide +kernel
theorem dX10_init_97 : decode cX10_init 97 = .ok (.bipush 24, 2) := by decide +kernel
theorem dX10_init_99 : decode cX10_init 99 = .ok (.newarray .int, 2) := by decide +kernel
theorem dX10_init_101 : decode cX10_init 101 = .ok (.putfield 44, 3) := by decide +kernel
theorem dX10_init_104 : decode cX10_init 104 = .ok (.aload_n 0, 1) := by decide +kernel
theorem dX10_init_105 : decode cX10_init 105 = .ok (.bipush 24, 2) := by decide +kernel
theorem dX10_init_107 : decode cX10_init 107 = .ok (.newarray .int, 2) := by decide +kernel
theorem dX10_init_109 : decode cX10_init 109 = .ok (.putfield 47, 3) := by decide +kernel
theorem dX10_init_112 : decode cX10_init 112 = .ok (.aload_n 0, 1) := by decide +kernel
theorem dX10_init_113 : decode cX10_init 113 = .ok (.bipush 60, 2) := by decide +kernel
theorem dX10_init_115 : decode cX10_init 115 = .ok (.newarray .int, 2) := by decide +kernel
theorem dX10_init_117 : decode cX10_init 117 = .ok (.putfield 50, 3) := by decide +kernel
theorem dX10_init_120 : decode cX10_init 120 = .ok (.aload_n 0, 1) := by decide +kernel
theorem dX10_init_121 : decode cX10_init 121 = .ok (.bipush 60, 2) := by decide +kernel
theorem dX10_init_123 : decode cX10_init 123 = .ok (.newarray .int, 2) := by decide +kernel
theorem dX10_init_125 : decode cX10_init 125 = .ok (.putfield 53, 3) := by decide +kernel
theorem dX10_init_128 : decode cX10_init 128 = .ok (.aload_n 0, 1) := by decide +kernel
theorem dX10_init_129 : decode cX10_init 129 = .ok (.sipush 360, 3) := by decide +kernel
theorem dX10_init_132 : decode cX10_init 132 = .ok (.newarray .int, 2) := by decide +kernel
theorem dX10_init_134 : decode cX10_init 134 = .ok (.putfield 56, 3) := by decide +kernel
theorem dX10_init_137 : decode cX10_init 137 = .ok (.aload_n 0, 1) := by decide +kernel
theorem dX10_init_138 : decode cX10_init 138 = .ok (.sipush 360, 3) := by decide +kernel
theorem dX10_init_141 : decode cX10_init 141 = .ok (.newarray .int, 2) := by decide +kernel
theorem dX10_init_143 : decode cX10_init 143 = .ok (.putfield 59, 3) := by decide +kernel
theorem dX10_init_146 : decode cX10_init 146 = .ok (.aload_n 0, 1) := by decide +kernel
theorem dX10_init_147 : decode cX10_init 147 = .ok (.getfield 22, 3) := by decide +kernel
theorem dX10_init_150 : decode cX10_init 150 = .ok (.iconst 0, 1) := by decide +kernel
theorem dX10_init_151 : decode cX10_init 151 = .ok (.iconst 2, 1) := by decide +kernel
theorem dX10_init_152 : decode cX10_init 152 = .ok (.iastore, 1) := by decide +kernel
theorem dX10_init_153 : decode cX10_init 153 = .ok (.aload_n 0, 1) := by decide +kernel
theorem dX10_init_154 : decode cX10_init 154 = .ok (.getfield 22, 3) := by decide +kernel
theorem dX10_init_157 : decode cX10_init 157 = .ok (.iconst 1, 1) := by decide +kernel
theorem dX10_init_158 : decode cX10_init 158 = .ok (.iconst 2, 1) := by decide +kernel
theorem dX10_init_159 : decode cX10_init 159 = .ok (.iastore, 1) := by decide +kernel
theorem dX10_init_160 : decode cX10_init 160 = .ok (.aload_n 0, 1) := by decide +kernel
theorem dX10_init_161 : decode cX10_init 161 = .ok (.getfield 22, 3) := by decide +kernel
theorem dX10_init_164 : decode cX10_init 164 = .ok (.iconst 2, 1) := by decide +kernel
theorem dX10_init_165 : decode cX10_init 165 = .ok (.iconst 3, 1) := by decide +kernel
theorem dX10_init_166 : decode cX10_init 166 = .ok (.iastore, 1) := by decide +kernel
theorem dX10_init_167 : decode cX10_init 167 = .ok (.aload_n 0, 1) := by decide +kernel
theorem dX10_init_168 : decode cX10_init 168 = .ok (.getfield 22, 3) := by decide +kernel
theorem dX10_init_171 : decode cX10_init 171 = .ok (.iconst 3, 1) := by decide +kernel
theorem dX10_init_172 : decode cX10_init 172 = .ok (.iconst 1, 1) := by decide +kernel
theorem dX10_init_173 : decode cX10_init 173 = .ok (.iastore, 1) := by decide +kernel
theorem dX10_init_174 : decode cX10_init 174 = .ok (.aload_n 0, 1) := by decide +kernel
theorem dX10_init_175 : decode cX10_init 175 = .ok (.getfield 22, 3) := by decide +kernel
theorem dX10_init_178 : decode cX10_init 178 = .ok (.iconst 4, 1) := by decide +kernel
theorem dX10_init_179 : decode cX10_init 179 = .ok (.iconst 5, 1) := by decide +kernel
theorem dX10_init_180 : decode cX10_init 180 = .ok (.iastore, 1) := by decide +kernel
theorem dX10_init_181 : decode cX10_init 181 = .ok (.aload_n 0, 1) := by decide +kernel
theorem dX10_init_182 : decode cX10_init 182 = .ok (.getfield 22, 3) := by decide +kernel
theorem dX10_init_185 : decode cX10_init 185 = .ok (.iconst 5, 1) := by decide +kernel
theorem dX10_init_186 : decode cX10_init 186 = .ok (.iconst 4, 1) := by decide +kernel
theorem dX10_init_187 : decode cX10_init 187 = .ok (.iastore, 1) := by decide +kernel
theorem dX10_init_188 : decode cX10_init 188 = .ok (.return_, 1) := by decide +kernel
theorem dX10_thrown_0 : decode cX10_thrown 0 = .ok (.aload_n 0, 1) := by decide +kernel
theorem dX10_thrown_1 : decode cX10_thrown 1 = .ok (.getfield 62, 3) := by decide +kernel
theorem dX10_thrown_4 : decode cX10_thrown 4 = .ok (.ireturn, 1) := by decide +kernel
theorem dX10_in_0 : decode cX10_in 0 = .ok (.iload_n 0, 1) := by decide +kernel
theorem dX10_in_1 : decode cX10_in 1 = .ok (.iload_n 1, 1) := by decide +kernel
theorem dX10_in_2 : decode cX10_in 2 = .ok (.if_icmp .lt 12, 3) := by decide +kernel
theorem dX10_in_5 : decode cX10_in 5 = .ok (.iload_n 0, 1) := by decide +kernel
theorem dX10_in_6 : decode cX10_in 6 = .ok (.iload_n 2, 1) := by decide +kernel
theorem dX10_in_7 : decode cX10_in 7 = .ok (.if_icmp .gt 7, 3) := by decide +kernel
theorem dX10_in_10 : decode cX10_in 10 = .ok (.iconst 1, 1) := by decide +kernel
theorem dX10_in_11 : decode cX10_in 11 = .ok (.goto 4, 3) := by decide +kernel
theorem dX10_in_14 : decode cX10_in 14 = .ok (.iconst 0, 1) := by decide +kernel
theorem dX10_in_15 : decode cX10_in 15 = .ok (.ireturn, 1) := by decide +kernel
theorem dX10_isWord_0 : decode cX10_isWord 0 = .ok (.iload_n 1, 1) := by decide +kernel
theorem dX10_isWord_1 : decode cX10_isWord 1 = .ok (.iconst 0, 1) := by decide +kernel
theorem dX10_isWord_2 : decode cX10_isWord 2 = .ok (.aload_n 0, 1) := by decide +kernel
theorem dX10_isWord_3 : decode cX10_isWord 3 = .ok (.getfield 66, 3) := by decide +kernel
theorem dX10_isWord_6 : decode cX10_isWord 6 = .ok (.iconst 1, 1) := by decide +kernel
theorem dX10_isWord_7 : decode cX10_isWord 7 = .ok (.isub, 1) := by decide +kernel
theorem dX10_isWord_8 : decode cX10_isWord 8 = .ok (.invokestatic 69, 3) := by decide +kernel
theorem dX10_isWord_11 : decode cX10_isWord 11 = .ok (.ireturn, 1) := by decide +kernel
theorem dX10_letter_0 : decode cX10_letter 0 = .ok (.aload_n 0, 1) := by decide +kernel
theorem dX10_letter_1 : decode cX10_letter 1 = .ok (.iconst 0, 1) := by decide +kernel
theorem dX10_letter_2 : decode cX10_letter 2 = .ok (.putfield 62, 3) := by decide +kernel
theorem dX10_letter_5 : decode cX10_letter 5 = .ok (.iload_n 1, 1) := by decide +kernel
theorem dX10_letter_6 : decode cX10_letter 6 = .ok (.iconst 0, 1) := by decide +kernel
theorem dX10_letter_7 : decode cX10_letter 7 = .ok (.bipush 25, 2) := by decide +kernel
theorem dX10_letter_9 : decode cX10_letter 9 = .ok (.invokestatic 69, 3) := by decide +kernel
theorem dX10_letter_12 : decode cX10_letter 12 = .ok (.ifCond .ne 5, 3) := by decide +kernel
theorem dX10_letter_15 : decode cX10_letter 15 = .ok (.iconst (-1), 1) := by decide +kernel
theorem dX10_letter_16 : decode cX10_letter 16 = .ok (.ireturn, 1) := by decide +kernel
theorem dX10_letter_17 : decode cX10_letter 17 = .ok (.aload_n 0, 1) := by decide +kernel
theorem dX10_letter_18 : decode cX10_letter 18 = .ok (.getfield 73, 3) := by decide +kernel
theorem dX10_letter_21 : decode cX10_letter 21 = .ok (.bipush 12, 2) := by decide +kernel
theorem dX10_letter_23 : decode cX10_letter 23 = .ok (.if_icmp .ne 6, 3) := by decide +kernel
theorem dX10_letter_26 : decode cX10_letter 26 = .ok (.bipush (-4), 2) := by decide +kernel
theorem dX10_letter_28 : decode cX10_letter 28 = .ok (.ireturn, 1) := by decide +kernel
theorem dX10_letter_29 : decode cX10_letter 29 = .ok (.aload_n 0, 1) := by decide +kernel
theorem dX10_letter_30 : decode cX10_letter 30 = .ok (.getfield 7, 3) := by decide +kernel
theorem dX10_letter_33 : decode cX10_letter 33 = .ok (.aload_n 0, 1) := by decide +kernel
theorem dX10_letter_34 : decode cX10_letter 34 = .ok (.getfield 73, 3) := by decide +kernel
theorem dX10_letter_37 : decode cX10_letter 37 = .ok (.iload_n 1, 1) := by decide +kernel
theorem dX10_letter_38 : decode cX10_letter 38 = .ok (.iastore, 1) := by decide +kernel
theorem dX10_letter_39 : decode cX10_letter 39 = .ok (.aload_n 0, 1) := by decide +kernel
theorem dX10_letter_40 : decode cX10_letter 40 = .ok (.dup, 1) := by decide +kernel
theorem dX10_letter_41 : decode cX10_letter 41 = .ok (.getfield 73, 3) := by decide +kernel
theorem dX10_letter_44 : decode cX10_letter 44 = .ok (.iconst 1, 1) := by decide +kernel
theorem dX10_letter_45 : decode cX10_letter 45 = .ok (.iadd, 1) := by decide +kernel
theorem dX10_letter_46 : decode cX10_letter 46 = .ok (.putfield 73, 3) := by decide +kernel
theorem dX10_letter_49 : decode cX10_letter 49 = .ok (.aload_n 0, 1) := by decide +kernel
theorem dX10_letter_50 : decode cX10_letter 50 = .ok (.getfield 73, 3) := by decide +kernel
theorem dX10_letter_53 : decode cX10_letter 53 = .ok (.ireturn, 1) := by decide +kernel
theorem dX10_clear_0 : decode cX10_clear 0 = .ok (.aload_n 0, 1) := by decide +kernel
theorem dX10_clear_1 : decode cX10_clear 1 = .ok (.iconst 0, 1) := by decide +kernel
theorem dX10_clear_2 : decode cX10_clear 2 = .ok (.putfield 62, 3) := by decide +kernel
theorem dX10_clear_5 : decode cX10_clear 5 = .ok (.aload_n 0, 1) := by decide +kernel
theorem dX10_clear_6 : decode cX10_clear 6 = .ok (.getfield 73, 3) := by decide +kernel
theorem dX10_clear_9 : decode cX10_clear 9 = .ok (.istore_n 1, 1) := by decide +kernel
theorem dX10_clear_10 : decode cX10_clear 10 = .ok (.aload_n 0, 1) := by decide +kernel
theorem dX10_clear_11 : decode cX10_clear 11 = .ok (.iconst 0, 1) := by decide +kernel
theorem dX10_clear_12 : decode cX10_clear 12 = .ok (.putfield 73, 3) := by decide +kernel
theorem dX10_clear_15 : decode cX10_clear 15 = .ok (.iload_n 1, 1) := by decide +kernel
theorem dX10_clear_16 : decode cX10_clear 16 = .ok (.ireturn, 1) := by decide +kernel
theorem dX10_word_0 : decode cX10_word 0 = .ok (.aload_n 0, 1) := by decide +kernel
theorem dX10_word_1 : decode cX10_word 1 = .ok (.iconst 0, 1) := by decide +kernel
theorem dX10_word_2 : decode cX10_word 2 = .ok (.putfield 62, 3) := by decide +kernel
theorem dX10_word_5 : decode cX10_word 5 = .ok (.iload_n 1, 1) := by decide +kernel
theorem dX10_word_6 : decode cX10_word 6 = .ok (.iconst 1, 1) := by decide +kernel
theorem dX10_word_7 : decode cX10_word 7 = .ok (.sipush 1000, 3) := by decide +kernel
theorem dX10_word_10 : decode cX10_word 10 = .ok (.invokestatic 69, 3) := by decide +kernel
theorem dX10_word_13 : decode cX10_word 13 = .ok (.ifCond .eq 10, 3) := by decide +kernel
theorem dX10_word_16 : decode cX10_word 16 = .ok (.aload_n 0, 1) := by decide +kernel
theorem dX10_word_17 : decode cX10_word 17 = .ok (.getfield 73, 3) := by decide +kernel
theorem dX10_word_20 : decode cX10_word 20 = .ok (.ifCond .ne 6, 3) := by decide +kernel
theorem dX10_word_23 : decode cX10_word 23 = .ok (.bipush (-2), 2) := by decide +kernel
theorem dX10_word_25 : decode cX10_word 25 = .ok (.ireturn, 1) := by decide +kernel
theorem dX10_word_26 : decode cX10_word 26 = .ok (.iconst 0, 1) := by decide +kernel
theorem dX10_word_27 : decode cX10_word 27 = .ok (.istore_n 2, 1) := by decide +kernel
theorem dX10_word_28 : decode cX10_word 28 = .ok (.iload_n 2, 1) := by decide +kernel
theorem dX10_word_29 : decode cX10_word 29 = .ok (.aload_n 0, 1) := by decide +kernel
theorem dX10_word_30 : decode cX10_word 30 = .ok (.getfield 66, 3) := by decide +kernel
theorem dX10_word_33 : decode cX10_word 33 = .ok (.if_icmp .ge 85, 3) := by decide +kernel
theorem dX10_word_36 : decode cX10_word 36 = .ok (.aload_n 0, 1) := by decide +kernel
theorem dX10_word_37 : decode cX10_word 37 = .ok (.getfield 13, 3) := by decide +kernel
theorem dX10_word_40 : decode cX10_word 40 = .ok (.iload_n 2, 1) := by decide +kernel
theorem dX10_word_41 : decode cX10_word 41 = .ok (.iaload, 1) := by decide +kernel
theorem dX10_word_42 : decode cX10_word 42 = .ok (.aload_n 0, 1) := by decide +kernel
theorem dX10_word_43 : decode cX10_word 43 = .ok (.getfield 73, 3) := by decide +kernel
theorem dX10_word_46 : decode cX10_word 46 = .ok (.if_icmp .ne 7, 3) := by decide +kernel
theorem dX10_word_49 : decode cX10_word 49 = .ok (.iconst 1, 1) := by decide +kernel
theorem dX10_word_50 : decode cX10_word 50 = .ok (.goto 4, 3) := by decide +kernel
theorem dX10_word_53 : decode cX10_word 53 = .ok (.iconst 0, 1) := by decide +kernel
theorem dX10_word_54 : decode cX10_word 54 = .ok (.istore_n 3, 1) := by decide +kernel
theorem dX10_word_55 : decode cX10_word 55 = .ok (.iconst 0, 1) := by decide +kernel
theorem dX10_word_56 : decode cX10_word 56 = .ok (.istore 4, 2) := by decide +kernel
theorem dX10_word_58 : decode cX10_word 58 = .ok (.iload 4, 2) := by decide +kernel
theorem dX10_word_60 : decode cX10_word 60 = .ok (.aload_n 0, 1) := by decide +kernel
theorem dX10_word_61 : decode cX10_word 61 = .ok (.getfield 73, 3) := by decide +kernel
theorem dX10_word_64 : decode cX10_word 64 = .ok (.if_icmp .ge 41, 3) := by decide +kernel
theorem dX10_word_67 : decode cX10_word 67 = .ok (.iload_n 3, 1) := by decide +kernel
theorem dX10_word_68 : decode cX10_word 68 = .ok (.ifCond .eq 37, 3) := by decide +kernel
theorem dX10_word_71 : decode cX10_word 71 = .ok (.aload_n 0, 1) := by decide +kernel
theorem dX10_word_72 : decode cX10_word 72 = .ok (.getfield 16, 3) := by decide +kernel
theorem dX10_word_75 : decode cX10_word 75 = .ok (.bipush 12, 2) := by decide +kernel
theorem dX10_word_77 : decode cX10_word 77 = .ok (.iload_n 2, 1) := by decide +kernel
theorem dX10_word_78 : decode cX10_word 78 = .ok (.imul, 1) := by decide +kernel
theorem dX10_word_79 : decode cX10_word 79 = .ok (.iload 4, 2) := by decide +kernel
theorem dX10_word_81 : decode cX10_word 81 = .ok (.iadd, 1) := by decide +kernel
theorem dX10_word_82 : decode cX10_word 82 = .ok (.iaload, 1) := by decide +kernel
theorem dX10_word_83 : decode cX10_word 83 = .ok (.aload_n 0, 1) := by decide +kernel
theorem dX10_word_84 : decode cX10_word 84 = .ok (.getfield 7, 3) := by decide +kernel
theorem dX10_word_87 : decode cX10_word 87 = .ok (.iload 4, 2) := by decide +kernel
theorem dX10_word_89 : decode cX10_word 89 = .ok (.iaload, 1) := by decide +kernel
theorem dX10_word_90 : decode cX10_word 90 = .ok (.if_icmp .ne 7, 3) := by decide +kernel
theorem dX10_word_93 : decode cX10_word 93 = .ok (.iconst 1, 1) := by decide +kernel
theorem dX10_word_94 : decode cX10_word 94 = .ok (.goto 4, 3) := by decide +kernel
theorem dX10_word_97 : decode cX10_word 97 = .ok (.iconst 0, 1) := by decide +kernel
theorem dX10_word_98 : decode cX10_word 98 = .ok (.istore_n 3, 1) := by decide +kernel
theorem dX10_word_99 : decode cX10_word 99 = .ok (.iinc 4 1, 3) := by decide +kernel
theorem dX10_word_102 : decode cX10_word 102 = .ok (.goto (-44), 3) := by decide +kernel
theorem dX10_word_105 : decode cX10_word 105 = .ok (.iload_n 3, 1) := by decide +kernel
theorem dX10_word_106 : decode cX10_word 106 = .ok (.ifCond .eq 6, 3) := by decide +kernel
theorem dX10_word_109 : decode cX10_word 109 = .ok (.bipush (-3), 2) := by decide +kernel
theorem dX10_word_111 : decode cX10_word 111 = .ok (.ireturn, 1) := by decide +kernel
theorem dX10_word_112 : decode cX10_word 112 = .ok (.iinc 2 1, 3) := by decide +kernel
theorem dX10_word_115 : decode cX10_word 115 = .ok (.goto (-87), 3) := by decide +kernel
theorem dX10_word_118 : decode cX10_word 118 = .ok (.aload_n 0, 1) := by decide +kernel
theorem dX10_word_119 : decode cX10_word 119 = .ok (.getfield 66, 3) := by decide +kernel
theorem dX10_word_122 : decode cX10_word 122 = .ok (.bipush 60, 2) := by decide +kernel
theorem dX10_word_124 : decode cX10_word 124 = .ok (.if_icmp .ne 6, 3) := by decide +kernel
theorem dX10_word_127 : decode cX10_word 127 = .ok (.bipush (-4), 2) := by decide +kernel
theorem dX10_word_129 : decode cX10_word 129 = .ok (.ireturn, 1) := by decide +kernel
theorem dX10_word_130 : decode cX10_word 130 = .ok (.aload_n 0, 1) := by decide +kernel
theorem dX10_word_131 : decode cX10_word 131 = .ok (.getfield 13, 3) := by decide +kernel
theorem dX10_word_134 : decode cX10_word 134 = .ok (.aload_n 0, 1) := by decide +kernel
theorem dX10_word_135 : decode cX10_word 135 = .ok (.getfield 66, 3) := by decide +kernel
theorem dX10_word_138 : decode cX10_word 138 = .ok (.aload_n 0, 1) := by decide +kernel
theorem dX10_word_139 : decode cX10_word 139 = .ok (.getfield 73, 3) := by decide +kernel
theorem dX10_word_142 : decode cX10_word 142 = .ok (.iastore, 1) := by decide +kernel
theorem dX10_word_143 : decode cX10_word 143 = .ok (.iconst 0, 1) := by decide +kernel
theorem dX10_word_144 : decode cX10_word 144 = .ok (.istore_n 2, 1) := by decide +kernel
theorem dX10_word_145 : decode cX10_word 145 = .ok (.iload_n 2, 1) := by decide +kernel
theorem dX10_word_146 : decode cX10_word 146 = .ok (.aload_n 0, 1) := by decide +kernel
theorem dX10_word_147 : decode cX10_word 147 = .ok (.getfield 73, 3) := by decide +kernel
theorem dX10_word_150 : decode cX10_word 150 = .ok (.if_icmp .ge 29, 3) := by decide +kernel
theorem dX10_word_153 : decode cX10_word 153 = .ok (.aload_n 0, 1) := by decide +kernel
theorem dX10_word_154 : decode cX10_word 154 = .ok (.getfield 16, 3) := by decide +kernel
theorem dX10_word_157 : decode cX10_word 157 = .ok (.bipush 12, 2) := by decide +kernel
theorem dX10_word_159 : decode cX10_word 159 = .ok (.aload_n 0, 1) := by decide +kernel
theorem dX10_word_160 : decode cX10_word 160 = .ok (.getfield 66, 3) := by decide +kernel
theorem dX10_word_163 : decode cX10_word 163 = .ok (.imul, 1) := by decide +kernel
theorem dX10_word_164 : decode cX10_word 164 = .ok (.iload_n 2, 1) := by decide +kernel
theorem dX10_word_165 : decode cX10_word 165 = .ok (.iadd, 1) := by decide +kernel
theorem dX10_word_166 : decode cX10_word 166 = .ok (.aload_n 0, 1) := by decide +kernel
theorem dX10_word_167 : decode cX10_word 167 = .ok (.getfield 7, 3) := by decide +kernel
theorem dX10_word_170 : decode cX10_word 170 = .ok (.iload_n 2, 1) := by decide +kernel
theorem dX10_word_171 : decode cX10_word 171 = .ok (.iaload, 1) := by decide +kernel
theorem dX10_word_172 : decode cX10_word 172 = .ok (.iastore, 1) := by decide +kernel
theorem dX10_word_173 : decode cX10_word 173 = .ok (.iinc 2 1, 3) := by decide +kernel
theorem dX10_word_176 : decode cX10_word 176 = .ok (.goto (-31), 3) := by decide +kernel
theorem dX10_word_179 : decode cX10_word 179 = .ok (.aload_n 0, 1) := by decide +kernel
theorem dX10_word_180 : decode cX10_word 180 = .ok (.getfield 19, 3) := by decide +kernel
theorem dX10_word_183 : decode cX10_word 183 = .ok (.aload_n 0, 1) := by decide +kernel
theorem dX10_word_184 : decode cX10_word 184 = .ok (.getfield 66, 3) := by decide +kernel
theorem dX10_word_187 : decode cX10_word 187 = .ok (.iload_n 1, 1) := by decide +kernel
theorem dX10_word_188 : decode cX10_word 188 = .ok (.iastore, 1) := by decide +kernel
theorem dX10_word_189 : decode cX10_word 189 = .ok (.aload_n 0, 1) := by decide +kernel
theorem dX10_word_190 : decode cX10_word 190 = .ok (.dup, 1) := by decide +kernel
theorem dX10_word_191 : decode cX10_word 191 = .ok (.getfield 66, 3) := by decide +kernel
theorem dX10_word_194 : decode cX10_word 194 = .ok (.iconst 1, 1) := by decide +kernel
theorem dX10_word_195 : decode cX10_word 195 = .ok (.iadd, 1) := by decide +kernel
theorem dX10_word_196 : decode cX10_word 196 = .ok (.putfield 66, 3) := by decide +kernel
theorem dX10_word_199 : decode cX10_word 199 = .ok (.aload_n 0, 1) := by decide +kernel
theorem dX10_word_200 : decode cX10_word 200 = .ok (.getfield 66, 3) := by decide +kernel
theorem dX10_word_203 : decode cX10_word 203 = .ok (.iconst 1, 1) := by decide +kernel
theorem dX10_word_204 : decode cX10_word 204 = .ok (.isub, 1) := by decide +kernel
theorem dX10_word_205 : decode cX10_word 205 = .ok (.ireturn, 1) := by decide +kernel
theorem dX10_count_0 : decode cX10_count 0 = .ok (.aload_n 0, 1) := by decide +kernel
theorem dX10_count_1 : decode cX10_count 1 = .ok (.iconst 0, 1) := by decide +kernel
theorem dX10_count_2 : decode cX10_count 2 = .ok (.putfield 62, 3) := by decide +kernel
theorem dX10_count_5 : decode cX10_count 5 = .ok (.aload_n 0, 1) := by decide +kernel
theorem dX10_count_6 : decode cX10_count 6 = .ok (.iload_n 1, 1) := by decide +kernel
theorem dX10_count_7 : decode cX10_count 7 = .ok (.invokevirtual 76, 3) := by decide +kernel
theorem dX10_count_10 : decode cX10_count 10 = .ok (.ifCond .ne 5, 3) := by decide +kernel
theorem dX10_count_13 : decode cX10_count 13 = .ok (.iconst (-1), 1) := by decide +kernel
theorem dX10_count_14 : decode cX10_count 14 = .ok (.ireturn, 1) := by decide +kernel
theorem dX10_count_15 : decode cX10_count 15 = .ok (.iload_n 2, 1) := by decide +kernel
theorem dX10_count_16 : decode cX10_count 16 = .ok (.iconst 1, 1) := by decide +kernel
theorem dX10_count_17 : decode cX10_count 17 = .ok (.sipush 1000, 3) := by decide +kernel
theorem dX10_count_20 : decode cX10_count 20 = .ok (.invokestatic 69, 3) := by decide +kernel
theorem dX10_count_23 : decode cX10_count 23 = .ok (.ifCond .ne 6, 3) := by decide +kernel
theorem dX10_count_26 : decode cX10_count 26 = .ok (.bipush (-2), 2) := by decide +kernel
theorem dX10_count_28 : decode cX10_count 28 = .ok (.ireturn, 1) := by decide +kernel
theorem dX10_count_29 : decode cX10_count 29 = .ok (.aload_n 0, 1) := by decide +kernel
theorem dX10_count_30 : decode cX10_count 30 = .ok (.getfield 19, 3) := by decide +kernel
theorem dX10_count_33 : decode cX10_count 33 = .ok (.iload_n 1, 1) := by decide +kernel
theorem dX10_count_34 : decode cX10_count 34 = .ok (.iaload, 1) := by decide +kernel
theorem dX10_count_35 : decode cX10_count 35 = .ok (.istore_n 3, 1) := by decide +kernel
theorem dX10_count_36 : decode cX10_count 36 = .ok (.aload_n 0, 1) := by decide +kernel
theorem dX10_count_37 : decode cX10_count 37 = .ok (.getfield 19, 3) := by decide +kernel
theorem dX10_count_40 : decode cX10_count 40 = .ok (.iload_n 1, 1) := by decide +kernel
theorem dX10_count_41 : decode cX10_count 41 = .ok (.iload_n 2, 1) := by decide +kernel
theorem dX10_count_42 : decode cX10_count 42 = .ok (.iastore, 1) := by decide +kernel
theorem dX10_count_43 : decode cX10_count 43 = .ok (.iload_n 3, 1) := by decide +kernel
theorem dX10_count_44 : decode cX10_count 44 = .ok (.ireturn, 1) := by decide +kernel
theorem dX10_isAhead_0 : decode cX10_isAhead 0 = .ok (.iconst 0, 1) := by decide +kernel
theorem dX10_isAhead_1 : decode cX10_isAhead 1 = .ok (.istore_n 3, 1) := by decide +kernel
theorem dX10_isAhead_2 : decode cX10_isAhead 2 = .ok (.iload_n 3, 1) := by decide +kernel
theorem dX10_isAhead_3 : decode cX10_isAhead 3 = .ok (.aload_n 0, 1) := by decide +kernel
theorem dX10_isAhead_4 : decode cX10_isAhead 4 = .ok (.getfield 13, 3) := by decide +kernel
theorem dX10_isAhead_7 : decode cX10_isAhead 7 = .ok (.iload_n 1, 1) := by decide +kernel
theorem dX10_isAhead_8 : decode cX10_isAhead 8 = .ok (.iaload, 1) := by decide +kernel
theorem dX10_isAhead_9 : decode cX10_isAhead 9 = .ok (.if_icmp .ge 44, 3) := by decide +kernel
theorem dX10_isAhead_12 : decode cX10_isAhead 12 = .ok (.iload_n 3, 1) := by decide +kernel
theorem dX10_isAhead_13 : decode cX10_isAhead 13 = .ok (.aload_n 0, 1) := by decide +kernel
theorem dX10_isAhead_14 : decode cX10_isAhead 14 = .ok (.getfield 13, 3) := by decide +kernel
theorem dX10_isAhead_17 : decode cX10_isAhead 17 = .ok (.iload_n 2, 1) := by decide +kernel
theorem dX10_isAhead_18 : decode cX10_isAhead 18 = .ok (.iaload, 1) := by decide +kernel
theorem dX10_isAhead_19 : decode cX10_isAhead 19 = .ok (.if_icmp .ge 34, 3) := by decide +kernel
theorem dX10_isAhead_22 : decode cX10_isAhead 22 = .ok (.aload_n 0, 1) := by decide +kernel
theorem dX10_isAhead_23 : decode cX10_isAhead 23 = .ok (.getfield 16, 3) := by decide +kernel
theorem dX10_isAhead_26 : decode cX10_isAhead 26 = .ok (.bipush 12, 2) := by decide +kernel
theorem dX10_isAhead_28 : decode cX10_isAhead 28 = .ok (.iload_n 1, 1) := by decide +kernel
theorem dX10_isAhead_29 : decode cX10_isAhead 29 = .ok (.imul, 1) := by decide +kernel
theorem dX10_isAhead_30 : decode cX10_isAhead 30 = .ok (.iload_n 3, 1) := by decide +kernel
theorem dX10_isAhead_31 : decode cX10_isAhead 31 = .ok (.iadd, 1) := by decide +kernel
theorem dX10_isAhead_32 : decode cX10_isAhead 32 = .ok (.iaload, 1) := by decide +kernel
theorem dX10_isAhead_33 : decode cX10_isAhead 33 = .ok (.aload_n 0, 1) := by decide +kernel
theorem dX10_isAhead_34 : decode cX10_isAhead 34 = .ok (.getfield 16, 3) := by decide +kernel
theorem dX10_isAhead_37 : decode cX10_isAhead 37 = .ok (.bipush 12, 2) := by decide +kernel
theorem dX10_isAhead_39 : decode cX10_isAhead 39 = .ok (.iload_n 2, 1) := by decide +kernel
theorem dX10_isAhead_40 : decode cX10_isAhead 40 = .ok (.imul, 1) := by decide +kernel
theorem dX10_isAhead_41 : decode cX10_isAhead 41 = .ok (.iload_n 3, 1) := by decide +kernel
theorem dX10_isAhead_42 : decode cX10_isAhead 42 = .ok (.iadd, 1) := by decide +kernel
theorem dX10_isAhead_43 : decode cX10_isAhead 43 = .ok (.iaload, 1) := by decide +kernel
theorem dX10_isAhead_44 : decode cX10_isAhead 44 = .ok (.if_icmp .ne 9, 3) := by decide +kernel
theorem dX10_isAhead_47 : decode cX10_isAhead 47 = .ok (.iinc 3 1, 3) := by decide +kernel
theorem dX10_isAhead_50 : decode cX10_isAhead 50 = .ok (.goto (-48), 3) := by decide +kernel
theorem dX10_isAhead_53 : decode cX10_isAhead 53 = .ok (.iload_n 3, 1) := by decide +kernel
theorem dX10_isAhead_54 : decode cX10_isAhead 54 = .ok (.aload_n 0, 1) := by decide +kernel
theorem dX10_isAhead_55 : decode cX10_isAhead 55 = .ok (.getfield 13, 3) := by decide +kernel
theorem dX10_isAhead_58 : decode cX10_isAhead 58 = .ok (.iload_n 1, 1) := by decide +kernel
theorem dX10_isAhead_59 : decode cX10_isAhead 59 = .ok (.iaload, 1) := by decide +kernel
theorem dX10_isAhead_60 : decode cX10_isAhead 60 = .ok (.if_icmp .eq 13, 3) := by decide +kernel
theorem dX10_isAhead_63 : decode cX10_isAhead 63 = .ok (.iload_n 3, 1) := by decide +kernel
theorem dX10_isAhead_64 : decode cX10_isAhead 64 = .ok (.aload_n 0, 1) := by decide +kernel
theorem dX10_isAhead_65 : decode cX10_isAhead 65 = .ok (.getfield 13, 3) := by decide +kernel
theorem dX10_isAhead_68 : decode cX10_isAhead 68 = .ok (.iload_n 2, 1) := by decide +kernel
theorem dX10_isAhead_69 : decode cX10_isAhead 69 = .ok (.iaload, 1) := by decide +kernel
theorem dX10_isAhead_70 : decode cX10_isAhead 70 = .ok (.if_icmp .ne 29, 3) := by decide +kernel
theorem dX10_isAhead_73 : decode cX10_isAhead 73 = .ok (.iload_n 3, 1) := by decide +kernel
theorem dX10_isAhead_74 : decode cX10_isAhead 74 = .ok (.aload_n 0, 1) := by decide +kernel
theorem dX10_isAhead_75 : decode cX10_isAhead 75 = .ok (.getfield 13, 3) := by decide +kernel
theorem dX10_isAhead_78 : decode cX10_isAhead 78 = .ok (.iload_n 1, 1) := by decide +kernel
theorem dX10_isAhead_79 : decode cX10_isAhead 79 = .ok (.iaload, 1) := by decide +kernel
theorem dX10_isAhead_80 : decode cX10_isAhead 80 = .ok (.if_icmp .ne 17, 3) := by decide +kernel
theorem dX10_isAhead_83 : decode cX10_isAhead 83 = .ok (.iload_n 3, 1) := by decide +kernel
theorem dX10_isAhead_84 : decode cX10_isAhead 84 = .ok (.aload_n 0, 1) := by decide +kernel
theorem dX10_isAhead_85 : decode cX10_isAhead 85 = .ok (.getfield 13, 3) := by decide +kernel
theorem dX10_isAhead_88 : decode cX10_isAhead 88 = .ok (.iload_n 2, 1) := by decide +kernel
theorem dX10_isAhead_89 : decode cX10_isAhead 89 = .ok (.iaload, 1) := by decide +kernel
theorem dX10_isAhead_90 : decode cX10_isAhead 90 = .ok (.if_icmp .ge 7, 3) := by decide +kernel
theorem dX10_isAhead_93 : decode cX10_isAhead 93 = .ok (.iconst 1, 1) := by decide +kernel
theorem dX10_isAhead_94 : decode cX10_isAhead 94 = .ok (.goto 4, 3) := by decide +kernel
theorem dX10_isAhead_97 : decode cX10_isAhead 97 = .ok (.iconst 0, 1) := by decide +kernel
theorem dX10_isAhead_98 : decode cX10_isAhead 98 = .ok (.ireturn, 1) := by decide +kernel
theorem dX10_isAhead_99 : decode cX10_isAhead 99 = .ok (.aload_n 0, 1) := by decide +kernel
theorem dX10_isAhead_100 : decode cX10_isAhead 100 = .ok (.getfield 16, 3) := by decide +kernel
theorem dX10_isAhead_103 : decode cX10_isAhead 103 = .ok (.bipush 12, 2) := by decide +kernel
theorem dX10_isAhead_105 : decode cX10_isAhead 105 = .ok (.iload_n 1, 1) := by decide +kernel
theorem dX10_isAhead_106 : decode cX10_isAhead 106 = .ok (.imul, 1) := by decide +kernel
theorem dX10_isAhead_107 : decode cX10_isAhead 107 = .ok (.iload_n 3, 1) := by decide +kernel
theorem dX10_isAhead_108 : decode cX10_isAhead 108 = .ok (.iadd, 1) := by decide +kernel
theorem dX10_isAhead_109 : decode cX10_isAhead 109 = .ok (.iaload, 1) := by decide +kernel
theorem dX10_isAhead_110 : decode cX10_isAhead 110 = .ok (.aload_n 0, 1) := by decide +kernel
theorem dX10_isAhead_111 : decode cX10_isAhead 111 = .ok (.getfield 16, 3) := by decide +kernel
theorem dX10_isAhead_114 : decode cX10_isAhead 114 = .ok (.bipush 12, 2) := by decide +kernel
theorem dX10_isAhead_116 : decode cX10_isAhead 116 = .ok (.iload_n 2, 1) := by decide +kernel
theorem dX10_isAhead_117 : decode cX10_isAhead 117 = .ok (.imul, 1) := by decide +kernel
theorem dX10_isAhead_118 : decode cX10_isAhead 118 = .ok (.iload_n 3, 1) := by decide +kernel
theorem dX10_isAhead_119 : decode cX10_isAhead 119 = .ok (.iadd, 1) := by decide +kernel
theorem dX10_isAhead_120 : decode cX10_isAhead 120 = .ok (.iaload, 1) := by decide +kernel
theorem dX10_isAhead_121 : decode cX10_isAhead 121 = .ok (.if_icmp .ge 7, 3) := by decide +kernel
theorem dX10_isAhead_124 : decode cX10_isAhead 124 = .ok (.iconst 1, 1) := by decide +kernel
theorem dX10_isAhead_125 : decode cX10_isAhead 125 = .ok (.goto 4, 3) := by decide +kernel
theorem dX10_isAhead_128 : decode cX10_isAhead 128 = .ok (.iconst 0, 1) := by decide +kernel
theorem dX10_isAhead_129 : decode cX10_isAhead 129 = .ok (.ireturn, 1) := by decide +kernel
theorem dX10_rank_0 : decode cX10_rank 0 = .ok (.iconst 0, 1) := by decide +kernel
theorem dX10_rank_1 : decode cX10_rank 1 = .ok (.istore_n 2, 1) := by decide +kernel
theorem dX10_rank_2 : decode cX10_rank 2 = .ok (.iconst 0, 1) := by decide +kernel
theorem dX10_rank_3 : decode cX10_rank 3 = .ok (.istore_n 3, 1) := by decide +kernel
theorem dX10_rank_4 : decode cX10_rank 4 = .ok (.iload_n 3, 1) := by decide +kernel
theorem dX10_rank_5 : decode cX10_rank 5 = .ok (.aload_n 0, 1) := by decide +kernel
theorem dX10_rank_6 : decode cX10_rank 6 = .ok (.getfield 66, 3) := by decide +kernel
theorem dX10_rank_9 : decode cX10_rank 9 = .ok (.if_icmp .ge 26, 3) := by decide +kernel
theorem dX10_rank_12 : decode cX10_rank 12 = .ok (.iload_n 2, 1) := by decide +kernel
theorem dX10_rank_13 : decode cX10_rank 13 = .ok (.aload_n 0, 1) := by decide +kernel
theorem dX10_rank_14 : decode cX10_rank 14 = .ok (.iload_n 3, 1) := by decide +kernel
theorem dX10_rank_15 : decode cX10_rank 15 = .ok (.iload_n 1, 1) := by decide +kernel
theorem dX10_rank_16 : decode cX10_rank 16 = .ok (.invokevirtual 80, 3) := by decide +kernel
theorem dX10_rank_19 : decode cX10_rank 19 = .ok (.ifCond .eq 7, 3) := by decide +kernel
theorem dX10_rank_22 : decode cX10_rank 22 = .ok (.iconst 1, 1) := by decide +kernel
theorem dX10_rank_23 : decode cX10_rank 23 = .ok (.goto 4, 3) := by decide +kernel
theorem dX10_rank_26 : decode cX10_rank 26 = .ok (.iconst 0, 1) := by decide +kernel
theorem dX10_rank_27 : decode cX10_rank 27 = .ok (.iadd, 1) := by decide +kernel
theorem dX10_rank_28 : decode cX10_rank 28 = .ok (.istore_n 2, 1) := by decide +kernel
theorem dX10_rank_29 : decode cX10_rank 29 = .ok (.iinc 3 1, 3) := by decide +kernel
theorem dX10_rank_32 : decode cX10_rank 32 = .ok (.goto (-28), 3) := by decide +kernel
theorem dX10_rank_35 : decode cX10_rank 35 = .ok (.iload_n 2, 1) := by decide +kernel
theorem dX10_rank_36 : decode cX10_rank 36 = .ok (.ireturn, 1) := by decide +kernel
theorem dX10_at_0 : decode cX10_at 0 = .ok (.aload_n 0, 1) := by decide +kernel
theorem dX10_at_1 : decode cX10_at 1 = .ok (.iconst 0, 1) := by decide +kernel
theorem dX10_at_2 : decode cX10_at 2 = .ok (.putfield 62, 3) := by decide +kernel
theorem dX10_at_5 : decode cX10_at 5 = .ok (.aload_n 0, 1) := by decide +kernel
theorem dX10_at_6 : decode cX10_at 6 = .ok (.iload_n 1, 1) := by decide +kernel
theorem dX10_at_7 : decode cX10_at 7 = .ok (.invokevirtual 76, 3) := by decide +kernel
theorem dX10_at_10 : decode cX10_at 10 = .ok (.ifCond .eq 20, 3) := by decide +kernel
theorem dX10_at_13 : decode cX10_at 13 = .ok (.iload_n 2, 1) := by decide +kernel
theorem dX10_at_14 : decode cX10_at 14 = .ok (.bipush (-2), 2) := by decide +kernel
theorem dX10_at_16 : decode cX10_at 16 = .ok (.aload_n 0, 1) := by decide +kernel
theorem dX10_at_17 : decode cX10_at 17 = .ok (.getfield 13, 3) := by decide +kernel
theorem dX10_at_20 : decode cX10_at 20 = .ok (.iload_n 1, 1) := by decide +kernel
theorem dX10_at_21 : decode cX10_at 21 = .ok (.iaload, 1) := by decide +kernel
theorem dX10_at_22 : decode cX10_at 22 = .ok (.iconst 1, 1) := by decide +kernel
theorem dX10_at_23 : decode cX10_at 23 = .ok (.isub, 1) := by decide +kernel
theorem dX10_at_24 : decode cX10_at 24 = .ok (.invokestatic 69, 3) := by decide +kernel
theorem dX10_at_27 : decode cX10_at 27 = .ok (.ifCond .ne 5, 3) := by decide +kernel
theorem dX10_at_30 : decode cX10_at 30 = .ok (.iconst (-1), 1) := by decide +kernel
theorem dX10_at_31 : decode cX10_at 31 = .ok (.ireturn, 1) := by decide +kernel
theorem dX10_at_32 : decode cX10_at 32 = .ok (.iload_n 2, 1) := by decide +kernel
theorem dX10_at_33 : decode cX10_at 33 = .ok (.bipush (-2), 2) := by decide +kernel
theorem dX10_at_35 : decode cX10_at 35 = .ok (.if_icmp .ne 12, 3) := by decide +kernel
theorem dX10_at_38 : decode cX10_at 38 = .ok (.aload_n 0, 1) := by decide +kernel
theorem dX10_at_39 : decode cX10_at 39 = .ok (.getfield 13, 3) := by decide +kernel
theorem dX10_at_42 : decode cX10_at 42 = .ok (.iload_n 1, 1) := by decide +kernel
theorem dX10_at_43 : decode cX10_at 43 = .ok (.iaload, 1) := by decide +kernel
theorem dX10_at_44 : decode cX10_at 44 = .ok (.goto 27, 3) := by decide +kernel
theorem dX10_at_47 : decode cX10_at 47 = .ok (.iload_n 2, 1) := by decide +kernel
theorem dX10_at_48 : decode cX10_at 48 = .ok (.iconst (-1), 1) := by decide +kernel
theorem dX10_at_49 : decode cX10_at 49 = .ok (.if_icmp .ne 11, 3) := by decide +kernel
theorem dX10_at_52 : decode cX10_at 52 = .ok (.aload_n 0, 1) := by decide +kernel
theorem dX10_at_53 : decode cX10_at 53 = .ok (.iload_n 1, 1) := by decide +kernel
theorem dX10_at_54 : decode cX10_at 54 = .ok (.invokevirtual 84, 3) := by decide +kernel
theorem dX10_at_57 : decode cX10_at 57 = .ok (.goto 14, 3) := by decide +kernel
theorem dX10_at_60 : decode cX10_at 60 = .ok (.aload_n 0, 1) := by decide +kernel
theorem dX10_at_61 : decode cX10_at 61 = .ok (.getfield 16, 3) := by decide +kernel
theorem dX10_at_64 : decode cX10_at 64 = .ok (.bipush 12, 2) := by decide +kernel
theorem dX10_at_66 : decode cX10_at 66 = .ok (.iload_n 1, 1) := by decide +kernel
theorem dX10_at_67 : decode cX10_at 67 = .ok (.imul, 1) := by decide +kernel
theorem dX10_at_68 : decode cX10_at 68 = .ok (.iload_n 2, 1) := by decide +kernel
theorem dX10_at_69 : decode cX10_at 69 = .ok (.iadd, 1) := by decide +kernel
theorem dX10_at_70 : decode cX10_at 70 = .ok (.iaload, 1) := by decide +kernel
theorem dX10_at_71 : decode cX10_at 71 = .ok (.ireturn, 1) := by decide +kernel
theorem dX10_price_0 : decode cX10_price 0 = .ok (.aload_n 0, 1) := by decide +kernel
theorem dX10_price_1 : decode cX10_price 1 = .ok (.iconst 0, 1) := by decide +kernel
theorem dX10_price_2 : decode cX10_price 2 = .ok (.putfield 62, 3) := by decide +kernel
theorem dX10_price_5 : decode cX10_price 5 = .ok (.iload_n 1, 1) := by decide +kernel
theorem dX10_price_6 : decode cX10_price 6 = .ok (.iconst 0, 1) := by decide +kernel
theorem dX10_price_7 : decode cX10_price 7 = .ok (.iconst 5, 1) := by decide +kernel
theorem dX10_price_8 : decode cX10_price 8 = .ok (.invokestatic 69, 3) := by decide +kernel
theorem dX10_price_11 : decode cX10_price 11 = .ok (.ifCond .eq 23, 3) := by decide +kernel
theorem dX10_price_14 : decode cX10_price 14 = .ok (.iload_n 2, 1) := by decide +kernel
theorem dX10_price_15 : decode cX10_price 15 = .ok (.iconst 0, 1) := by decide +kernel
theorem dX10_price_16 : decode cX10_price 16 = .ok (.iload_n 1, 1) := by decide +kernel
theorem dX10_price_17 : decode cX10_price 17 = .ok (.iconst 4, 1) := by decide +kernel
theorem dX10_price_18 : decode cX10_price 18 = .ok (.if_icmp .ge 8, 3) := by decide +kernel
theorem dX10_price_21 : decode cX10_price 21 = .ok (.bipush 9, 2) := by decide +kernel
theorem dX10_price_23 : decode cX10_price 23 = .ok (.goto 5, 3) := by decide +kernel
theorem dX10_price_26 : decode cX10_price 26 = .ok (.bipush 50, 2) := by decide +kernel
theorem dX10_price_28 : decode cX10_price 28 = .ok (.invokestatic 69, 3) := by decide +kernel
theorem dX10_price_31 : decode cX10_price 31 = .ok (.ifCond .ne 6, 3) := by decide +kernel
theorem dX10_price_34 : decode cX10_price 34 = .ok (.bipush (-2), 2) := by decide +kernel
theorem dX10_price_36 : decode cX10_price 36 = .ok (.ireturn, 1) := by decide +kernel
theorem dX10_price_37 : decode cX10_price 37 = .ok (.aload_n 0, 1) := by decide +kernel
theorem dX10_price_38 : decode cX10_price 38 = .ok (.getfield 22, 3) := by decide +kernel
theorem dX10_price_41 : decode cX10_price 41 = .ok (.iload_n 1, 1) := by decide +kernel
theorem dX10_price_42 : decode cX10_price 42 = .ok (.iaload, 1) := by decide +kernel
theorem dX10_price_43 : decode cX10_price 43 = .ok (.istore_n 3, 1) := by decide +kernel
theorem dX10_price_44 : decode cX10_price 44 = .ok (.aload_n 0, 1) := by decide +kernel
theorem dX10_price_45 : decode cX10_price 45 = .ok (.getfield 22, 3) := by decide +kernel
theorem dX10_price_48 : decode cX10_price 48 = .ok (.iload_n 1, 1) := by decide +kernel
theorem dX10_price_49 : decode cX10_price 49 = .ok (.iload_n 2, 1) := by decide +kernel
theorem dX10_price_50 : decode cX10_price 50 = .ok (.iastore, 1) := by decide +kernel
theorem dX10_price_51 : decode cX10_price 51 = .ok (.iload_n 3, 1) := by decide +kernel
theorem dX10_price_52 : decode cX10_price 52 = .ok (.ireturn, 1) := by decide +kernel
theorem dX10_near_0 : decode cX10_near 0 = .ok (.aload_n 0, 1) := by decide +kernel
theorem dX10_near_1 : decode cX10_near 1 = .ok (.iconst 0, 1) := by decide +kernel
theorem dX10_near_2 : decode cX10_near 2 = .ok (.putfield 62, 3) := by decide +kernel
theorem dX10_near_5 : decode cX10_near 5 = .ok (.iload_n 1, 1) := by decide +kernel
theorem dX10_near_6 : decode cX10_near 6 = .ok (.iconst 0, 1) := by decide +kernel
theorem dX10_near_7 : decode cX10_near 7 = .ok (.bipush 25, 2) := by decide +kernel
theorem dX10_near_9 : decode cX10_near 9 = .ok (.invokestatic 69, 3) := by decide +kernel
theorem dX10_near_12 : decode cX10_near 12 = .ok (.ifCond .eq 18, 3) := by decide +kernel
theorem dX10_near_15 : decode cX10_near 15 = .ok (.iload_n 2, 1) := by decide +kernel
theorem dX10_near_16 : decode cX10_near 16 = .ok (.iconst 0, 1) := by decide +kernel
theorem dX10_near_17 : decode cX10_near 17 = .ok (.bipush 25, 2) := by decide +kernel
theorem dX10_near_19 : decode cX10_near 19 = .ok (.invokestatic 69, 3) := by decide +kernel
theorem dX10_near_22 : decode cX10_near 22 = .ok (.ifCond .eq 8, 3) := by decide +kernel
theorem dX10_near_25 : decode cX10_near 25 = .ok (.iload_n 1, 1) := by decide +kernel
theorem dX10_near_26 : decode cX10_near 26 = .ok (.iload_n 2, 1) := by decide +kernel
theorem dX10_near_27 : decode cX10_near 27 = .ok (.if_icmp .ne 5, 3) := by decide +kernel
theorem dX10_near_30 : decode cX10_near 30 = .ok (.iconst (-1), 1) := by decide +kernel
theorem dX10_near_31 : decode cX10_near 31 = .ok (.ireturn, 1) := by decide +kernel
theorem dX10_near_32 : decode cX10_near 32 = .ok (.iload_n 3, 1) := by decide +kernel
theorem dX10_near_33 : decode cX10_near 33 = .ok (.iconst (-1), 1) := by decide +kernel
theorem dX10_near_34 : decode cX10_near 34 = .ok (.bipush 9, 2) := by decide +kernel
theorem dX10_near_36 : decode cX10_near 36 = .ok (.invokestatic 69, 3) := by decide +kernel
theorem dX10_near_39 : decode cX10_near 39 = .ok (.ifCond .ne 6, 3) := by decide +kernel
theorem dX10_near_42 : decode cX10_near 42 = .ok (.bipush (-2), 2) := by decide +kernel
theorem dX10_near_44 : decode cX10_near 44 = .ok (.ireturn, 1) := by decide +kernel
theorem dX10_near_45 : decode cX10_near 45 = .ok (.aload_n 0, 1) := by decide +kernel
theorem dX10_near_46 : decode cX10_near 46 = .ok (.getfield 25, 3) := by decide +kernel
theorem dX10_near_49 : decode cX10_near 49 = .ok (.bipush 26, 2) := by decide +kernel
theorem dX10_near_51 : decode cX10_near 51 = .ok (.iload_n 1, 1) := by decide +kernel
theorem dX10_near_52 : decode cX10_near 52 = .ok (.imul, 1) := by decide +kernel
theorem dX10_near_53 : decode cX10_near 53 = .ok (.iload_n 2, 1) := by decide +kernel
theorem dX10_near_54 : decode cX10_near 54 = .ok (.iadd, 1) := by decide +kernel
theorem dX10_near_55 : decode cX10_near 55 = .ok (.iaload, 1) := by decide +kernel
theorem dX10_near_56 : decode cX10_near 56 = .ok (.istore 4, 2) := by decide +kernel
theorem dX10_near_58 : decode cX10_near 58 = .ok (.aload_n 0, 1) := by decide +kernel
theorem dX10_near_59 : decode cX10_near 59 = .ok (.getfield 25, 3) := by decide +kernel
theorem dX10_near_62 : decode cX10_near 62 = .ok (.bipush 26, 2) := by decide +kernel
theorem dX10_near_64 : decode cX10_near 64 = .ok (.iload_n 1, 1) := by decide +kernel
theorem dX10_near_65 : decode cX10_near 65 = .ok (.imul, 1) := by decide +kernel
theorem dX10_near_66 : decode cX10_near 66 = .ok (.iload_n 2, 1) := by decide +kernel
theorem dX10_near_67 : decode cX10_near 67 = .ok (.iadd, 1) := by decide +kernel
theorem dX10_near_68 : decode cX10_near 68 = .ok (.iload_n 3, 1) := by decide +kernel
theorem dX10_near_69 : decode cX10_near 69 = .ok (.iconst 1, 1) := by decide +kernel
theorem dX10_near_70 : decode cX10_near 70 = .ok (.iadd, 1) := by decide +kernel
theorem dX10_near_71 : decode cX10_near 71 = .ok (.iastore, 1) := by decide +kernel
theorem dX10_near_72 : decode cX10_near 72 = .ok (.iload 4, 2) := by decide +kernel
theorem dX10_near_74 : decode cX10_near 74 = .ok (.ifCond .ne 8, 3) := by decide +kernel
theorem dX10_near_77 : decode cX10_near 77 = .ok (.bipush (-3), 2) := by decide +kernel
theorem dX10_near_79 : decode cX10_near 79 = .ok (.goto 7, 3) := by decide +kernel
theorem dX10_near_82 : decode cX10_near 82 = .ok (.iload 4, 2) := by decide +kernel
theorem dX10_near_84 : decode cX10_near 84 = .ok (.iconst 1, 1) := by decide +kernel
theorem dX10_near_85 : decode cX10_near 85 = .ok (.isub, 1) := by decide +kernel
theorem dX10_near_86 : decode cX10_near 86 = .ok (.ireturn, 1) := by decide +kernel
theorem dX10_takeTyped_0 : decode cX10_takeTyped 0 = .ok (.aload_n 0, 1) := by decide +kernel
theorem dX10_takeTyped_1 : decode cX10_takeTyped 1 = .ok (.iload_n 2, 1) := by decide +kernel
theorem dX10_takeTyped_2 : decode cX10_takeTyped 2 = .ok (.iload_n 1, 1) := by decide +kernel
theorem dX10_takeTyped_3 : decode cX10_takeTyped 3 = .ok (.isub, 1) := by decide +kernel
theorem dX10_takeTyped_4 : decode cX10_takeTyped 4 = .ok (.putfield 88, 3) := by decide +kernel
theorem dX10_takeTyped_7 : decode cX10_takeTyped 7 = .ok (.iload_n 1, 1) := by decide +kernel
theorem dX10_takeTyped_8 : decode cX10_takeTyped 8 = .ok (.istore_n 3, 1) := by decide +kernel
theorem dX10_takeTyped_9 : decode cX10_takeTyped 9 = .ok (.iload_n 3, 1) := by decide +kernel
theorem dX10_takeTyped_10 : decode cX10_takeTyped 10 = .ok (.iload_n 2, 1) := by decide +kernel
theorem dX10_takeTyped_11 : decode cX10_takeTyped 11 = .ok (.if_icmp .ge 23, 3) := by decide +kernel
theorem dX10_takeTyped_14 : decode cX10_takeTyped 14 = .ok (.aload_n 0, 1) := by decide +kernel
theorem dX10_takeTyped_15 : decode cX10_takeTyped 15 = .ok (.getfield 41, 3) := by decide +kernel
theorem dX10_takeTyped_18 : decode cX10_takeTyped 18 = .ok (.iload_n 3, 1) := by decide +kernel
theorem dX10_takeTyped_19 : decode cX10_takeTyped 19 = .ok (.iload_n 1, 1) := by decide +kernel
theorem dX10_takeTyped_20 : decode cX10_takeTyped 20 = .ok (.isub, 1) := by decide +kernel
theorem dX10_takeTyped_21 : decode cX10_takeTyped 21 = .ok (.aload_n 0, 1) := by decide +kernel
theorem dX10_takeTyped_22 : decode cX10_takeTyped 22 = .ok (.getfield 7, 3) := by decide +kernel
theorem dX10_takeTyped_25 : decode cX10_takeTyped 25 = .ok (.iload_n 3, 1) := by decide +kernel
theorem dX10_takeTyped_26 : decode cX10_takeTyped 26 = .ok (.iaload, 1) := by decide +kernel
theorem dX10_takeTyped_27 : decode cX10_takeTyped 27 = .ok (.iastore, 1) := by decide +kernel
theorem dX10_takeTyped_28 : decode cX10_takeTyped 28 = .ok (.iinc 3 1, 3) := by decide +kernel
theorem dX10_takeTyped_31 : decode cX10_takeTyped 31 = .ok (.goto (-22), 3) := by decide +kernel
theorem dX10_takeTyped_34 : decode cX10_takeTyped 34 = .ok (.return_, 1) := by decide +kernel
theorem dX10_becomes_0 : decode cX10_becomes 0 = .ok (.aload_n 0, 1) := by decide +kernel
theorem dX10_becomes_1 : decode cX10_becomes 1 = .ok (.getfield 25, 3) := by decide +kernel
theorem dX10_becomes_4 : decode cX10_becomes 4 = .ok (.bipush 26, 2) := by decide +kernel
theorem dX10_becomes_6 : decode cX10_becomes 6 = .ok (.iload_n 1, 1) := by decide +kernel
theorem dX10_becomes_7 : decode cX10_becomes 7 = .ok (.imul, 1) := by decide +kernel
theorem dX10_becomes_8 : decode cX10_becomes 8 = .ok (.iload_n 2, 1) := by decide +kernel
theorem dX10_becomes_9 : decode cX10_becomes 9 = .ok (.iadd, 1) := by decide +kernel
theorem dX10_becomes_10 : decode cX10_becomes 10 = .ok (.iaload, 1) := by decide +kernel
theorem dX10_becomes_11 : decode cX10_becomes 11 = .ok (.istore_n 3, 1) := by decide +kernel
theorem dX10_becomes_12 : decode cX10_becomes 12 = .ok (.iload_n 3, 1) := by decide +kernel
theorem dX10_becomes_13 : decode cX10_becomes 13 = .ok (.ifCond .le 9, 3) := by decide +kernel
theorem dX10_becomes_16 : decode cX10_becomes 16 = .ok (.iload_n 3, 1) := by decide +kernel
theorem dX10_becomes_17 : decode cX10_becomes 17 = .ok (.iconst 1, 1) := by decide +kernel
theorem dX10_becomes_18 : decode cX10_becomes 18 = .ok (.isub, 1) := by decide +kernel
theorem dX10_becomes_19 : decode cX10_becomes 19 = .ok (.goto 9, 3) := by decide +kernel
theorem dX10_becomes_22 : decode cX10_becomes 22 = .ok (.aload_n 0, 1) := by decide +kernel
theorem dX10_becomes_23 : decode cX10_becomes 23 = .ok (.getfield 22, 3) := by decide +kernel
theorem dX10_becomes_26 : decode cX10_becomes 26 = .ok (.iconst 2, 1) := by decide +kernel
theorem dX10_becomes_27 : decode cX10_becomes 27 = .ok (.iaload, 1) := by decide +kernel
theorem dX10_becomes_28 : decode cX10_becomes 28 = .ok (.ireturn, 1) := by decide +kernel
theorem dX10_isTurned_0 : decode cX10_isTurned 0 = .ok (.iload_n 2, 1) := by decide +kernel
theorem dX10_isTurned_1 : decode cX10_isTurned 1 = .ok (.iconst 1, 1) := by decide +kernel
theorem dX10_isTurned_2 : decode cX10_isTurned 2 = .ok (.if_icmp .le 60, 3) := by decide +kernel
theorem dX10_isTurned_5 : decode cX10_isTurned 5 = .ok (.iload_n 3, 1) := by decide +kernel
theorem dX10_isTurned_6 : decode cX10_isTurned 6 = .ok (.iconst 1, 1) := by decide +kernel
theorem dX10_isTurned_7 : decode cX10_isTurned 7 = .ok (.if_icmp .le 55, 3) := by decide +kernel
theorem dX10_isTurned_10 : decode cX10_isTurned 10 = .ok (.aload_n 0, 1) := by decide +kernel
theorem dX10_isTurned_11 : decode cX10_isTurned 11 = .ok (.getfield 41, 3) := by decide +kernel
theorem dX10_isTurned_14 : decode cX10_isTurned 14 = .ok (.iload_n 2, 1) := by decide +kernel
theorem dX10_isTurned_15 : decode cX10_isTurned 15 = .ok (.iconst 2, 1) := by decide +kernel
theorem dX10_isTurned_16 : decode cX10_isTurned 16 = .ok (.isub, 1) := by decide +kernel
theorem dX10_isTurned_17 : decode cX10_isTurned 17 = .ok (.iaload, 1) := by decide +kernel
theorem dX10_isTurned_18 : decode cX10_isTurned 18 = .ok (.aload_n 0, 1) := by decide +kernel
theorem dX10_isTurned_19 : decode cX10_isTurned 19 = .ok (.getfield 16, 3) := by decide +kernel
theorem dX10_isTurned_22 : decode cX10_isTurned 22 = .ok (.bipush 12, 2) := by decide +kernel
theorem dX10_isTurned_24 : decode cX10_isTurned 24 = .ok (.iload_n 1, 1) := by decide +kernel
theorem dX10_isTurned_25 : decode cX10_isTurned 25 = .ok (.imul, 1) := by decide +kernel
theorem dX10_isTurned_26 : decode cX10_isTurned 26 = .ok (.iload_n 3, 1) := by decide +kernel
theorem dX10_isTurned_27 : decode cX10_isTurned 27 = .ok (.iadd, 1) := by decide +kernel
theorem dX10_isTurned_28 : decode cX10_isTurned 28 = .ok (.iconst 1, 1) := by decide +kernel
theorem dX10_isTurned_29 : decode cX10_isTurned 29 = .ok (.isub, 1) := by decide +kernel
theorem dX10_isTurned_30 : decode cX10_isTurned 30 = .ok (.iaload, 1) := by decide +kernel
theorem dX10_isTurned_31 : decode cX10_isTurned 31 = .ok (.if_icmp .ne 31, 3) := by decide +kernel
theorem dX10_isTurned_34 : decode cX10_isTurned 34 = .ok (.aload_n 0, 1) := by decide +kernel
theorem dX10_isTurned_35 : decode cX10_isTurned 35 = .ok (.getfield 41, 3) := by decide +kernel
theorem dX10_isTurned_38 : decode cX10_isTurned 38 = .ok (.iload_n 2, 1) := by decide +kernel
theorem dX10_isTurned_39 : decode cX10_isTurned 39 = .ok (.iconst 1, 1) := by decide +kernel
theorem dX10_isTurned_40 : decode cX10_isTurned 40 = .ok (.isub, 1) := by decide +kernel
theorem dX10_isTurned_41 : decode cX10_isTurned 41 = .ok (.iaload, 1) := by decide +kernel
theorem dX10_isTurned_42 : decode cX10_isTurned 42 = .ok (.aload_n 0, 1) := by decide +kernel
theorem dX10_isTurned_43 : decode cX10_isTurned 43 = .ok (.getfield 16, 3) := by decide +kernel
theorem dX10_isTurned_46 : decode cX10_isTurned 46 = .ok (.bipush 12, 2) := by decide +kernel
theorem dX10_isTurned_48 : decode cX10_isTurned 48 = .ok (.iload_n 1, 1) := by decide +kernel
theorem dX10_isTurned_49 : decode cX10_isTurned 49 = .ok (.imul, 1) := by decide +kernel
theorem dX10_isTurned_50 : decode cX10_isTurned 50 = .ok (.iload_n 3, 1) := by decide +kernel
theorem dX10_isTurned_51 : decode cX10_isTurned 51 = .ok (.iadd, 1) := by decide +kernel
theorem dX10_isTurned_52 : decode cX10_isTurned 52 = .ok (.iconst 2, 1) := by decide +kernel
theorem dX10_isTurned_53 : decode cX10_isTurned 53 = .ok (.isub, 1) := by decide +kernel
theorem dX10_isTurned_54 : decode cX10_isTurned 54 = .ok (.iaload, 1) := by decide +kernel
theorem dX10_isTurned_55 : decode cX10_isTurned 55 = .ok (.if_icmp .ne 7, 3) := by decide +kernel
theorem dX10_isTurned_58 : decode cX10_isTurned 58 = .ok (.iconst 1, 1) := by decide +kernel
theorem dX10_isTurned_59 : decode cX10_isTurned 59 = .ok (.goto 4, 3) := by decide +kernel
theorem dX10_isTurned_62 : decode cX10_isTurned 62 = .ok (.iconst 0, 1) := by decide +kernel
theorem dX10_isTurned_63 : decode cX10_isTurned 63 = .ok (.ireturn, 1) := by decide +kernel
theorem dX10_fill_0 : decode cX10_fill 0 = .ok (.iconst 0, 1) := by decide +kernel
theorem dX10_fill_1 : decode cX10_fill 1 = .ok (.istore_n 2, 1) := by decide +kernel
theorem dX10_fill_2 : decode cX10_fill 2 = .ok (.iload_n 2, 1) := by decide +kernel
theorem dX10_fill_3 : decode cX10_fill 3 = .ok (.aload_n 0, 1) := by decide +kernel
theorem dX10_fill_4 : decode cX10_fill 4 = .ok (.getfield 88, 3) := by decide +kernel
theorem dX10_fill_7 : decode cX10_fill 7 = .ok (.if_icmp .gt 276, 3) := by decide +kernel
theorem dX10_fill_10 : decode cX10_fill 10 = .ok (.iconst 0, 1) := by decide +kernel
theorem dX10_fill_11 : decode cX10_fill 11 = .ok (.istore_n 3, 1) := by decide +kernel
theorem dX10_fill_12 : decode cX10_fill 12 = .ok (.iload_n 3, 1) := by decide +kernel
theorem dX10_fill_13 : decode cX10_fill 13 = .ok (.aload_n 0, 1) := by decide +kernel
theorem dX10_fill_14 : decode cX10_fill 14 = .ok (.getfield 13, 3) := by decide +kernel
theorem dX10_fill_17 : decode cX10_fill 17 = .ok (.iload_n 1, 1) := by decide +kernel
theorem dX10_fill_18 : decode cX10_fill 18 = .ok (.iaload, 1) := by decide +kernel
theorem dX10_fill_19 : decode cX10_fill 19 = .ok (.if_icmp .gt 258, 3) := by decide +kernel
theorem dX10_fill_22 : decode cX10_fill 22 = .ok (.iload_n 2, 1) := by decide +kernel
theorem dX10_fill_23 : decode cX10_fill 23 = .ok (.ifCond .ne 11, 3) := by decide +kernel
theorem dX10_fill_26 : decode cX10_fill 26 = .ok (.iload_n 3, 1) := by decide +kernel
theorem dX10_fill_27 : decode cX10_fill 27 = .ok (.ifCond .ne 7, 3) := by decide +kernel
theorem dX10_fill_30 : decode cX10_fill 30 = .ok (.iconst 0, 1) := by decide +kernel
theorem dX10_fill_31 : decode cX10_fill 31 = .ok (.goto 5, 3) := by decide +kernel
theorem dX10_fill_34 : decode cX10_fill 34 = .ok (.ldc 91, 2) := by decide +kernel
theorem dX10_fill_36 : decode cX10_fill 36 = .ok (.istore 4, 2) := by decide +kernel
theorem dX10_fill_38 : decode cX10_fill 38 = .ok (.iload_n 2, 1) := by decide +kernel
theorem dX10_fill_39 : decode cX10_fill 39 = .ok (.ifCond .le 41, 3) := by decide +kernel
theorem dX10_fill_42 : decode cX10_fill 42 = .ok (.aload_n 0, 1) := by decide +kernel
theorem dX10_fill_43 : decode cX10_fill 43 = .ok (.getfield 38, 3) := by decide +kernel
theorem dX10_fill_46 : decode cX10_fill 46 = .ok (.bipush 13, 2) := by decide +kernel
theorem dX10_fill_48 : decode cX10_fill 48 = .ok (.iload_n 2, 1) := by decide +kernel
theorem dX10_fill_49 : decode cX10_fill 49 = .ok (.iconst 1, 1) := by decide +kernel
theorem dX10_fill_50 : decode cX10_fill 50 = .ok (.isub, 1) := by decide +kernel
theorem dX10_fill_51 : decode cX10_fill 51 = .ok (.imul, 1) := by decide +kernel
theorem dX10_fill_52 : decode cX10_fill 52 = .ok (.iload_n 3, 1) := by decide +kernel
theorem dX10_fill_53 : decode cX10_fill 53 = .ok (.iadd, 1) := by decide +kernel
theorem dX10_fill_54 : decode cX10_fill 54 = .ok (.iaload, 1) := by decide +kernel
theorem dX10_fill_55 : decode cX10_fill 55 = .ok (.aload_n 0, 1) := by decide +kernel
theorem dX10_fill_56 : decode cX10_fill 56 = .ok (.getfield 22, 3) := by decide +kernel
theorem dX10_fill_59 : decode cX10_fill 59 = .ok (.iconst 1, 1) := by decide +kernel
theorem dX10_fill_60 : decode cX10_fill 60 = .ok (.iaload, 1) := by decide +kernel
theorem dX10_fill_61 : decode cX10_fill 61 = .ok (.iadd, 1) := by decide +kernel
theorem dX10_fill_62 : decode cX10_fill 62 = .ok (.istore 5, 2) := by decide +kernel
theorem dX10_fill_64 : decode cX10_fill 64 = .ok (.iload 5, 2) := by decide +kernel
theorem dX10_fill_66 : decode cX10_fill 66 = .ok (.iload 4, 2) := by decide +kernel
theorem dX10_fill_68 : decode cX10_fill 68 = .ok (.if_icmp .ge 8, 3) := by decide +kernel
theorem dX10_fill_71 : decode cX10_fill 71 = .ok (.iload 5, 2) := by decide +kernel
theorem dX10_fill_73 : decode cX10_fill 73 = .ok (.goto 5, 3) := by decide +kernel
theorem dX10_fill_76 : decode cX10_fill 76 = .ok (.iload 4, 2) := by decide +kernel
theorem dX10_fill_78 : decode cX10_fill 78 = .ok (.istore 4, 2) := by decide +kernel
theorem dX10_fill_80 : decode cX10_fill 80 = .ok (.iload_n 3, 1) := by decide +kernel
theorem dX10_fill_81 : decode cX10_fill 81 = .ok (.ifCond .le 41, 3) := by decide +kernel
theorem dX10_fill_84 : decode cX10_fill 84 = .ok (.aload_n 0, 1) := by decide +kernel
theorem dX10_fill_85 : decode cX10_fill 85 = .ok (.getfield 38, 3) := by decide +kernel
theorem dX10_fill_88 : decode cX10_fill 88 = .ok (.bipush 13, 2) := by decide +kernel
theorem dX10_fill_90 : decode cX10_fill 90 = .ok (.iload_n 2, 1) := by decide +kernel
theorem dX10_fill_91 : decode cX10_fill 91 = .ok (.imul, 1) := by decide +kernel
theorem dX10_fill_92 : decode cX10_fill 92 = .ok (.iload_n 3, 1) := by decide +kernel
theorem dX10_fill_93 : decode cX10_fill 93 = .ok (.iadd, 1) := by decide +kernel
theorem dX10_fill_94 : decode cX10_fill 94 = .ok (.iconst 1, 1) := by decide +kernel
theorem dX10_fill_95 : decode cX10_fill 95 = .ok (.isub, 1) := by decide +kernel
theorem dX10_fill_96 : decode cX10_fill 96 = .ok (.iaload, 1) := by decide +kernel
theorem dX10_fill_97 : decode cX10_fill 97 = .ok (.aload_n 0, 1) := by decide +kernel
theorem dX10_fill_98 : decode cX10_fill 98 = .ok (.getfield 22, 3) := by decide +kernel
theorem dX10_fill_101 : decode cX10_fill 101 = .ok (.iconst 0, 1) := by decide +kernel
theorem dX10_fill_102 : decode cX10_fill 102 = .ok (.iaload, 1) := by decide +kernel
theorem dX10_fill_103 : decode cX10_fill 103 = .ok (.iadd, 1) := by decide +kernel
theorem dX10_fill_104 : decode cX10_fill 104 = .ok (.istore 5, 2) := by decide +kernel
theorem dX10_fill_106 : decode cX10_fill 106 = .ok (.iload 5, 2) := by decide +kernel
theorem dX10_fill_108 : decode cX10_fill 108 = .ok (.iload 4, 2) := by decide +kernel
theorem dX10_fill_110 : decode cX10_fill 110 = .ok (.if_icmp .ge 8, 3) := by decide +kernel
theorem dX10_fill_113 : decode cX10_fill 113 = .ok (.iload 5, 2) := by decide +kernel
theorem dX10_fill_115 : decode cX10_fill 115 = .ok (.goto 5, 3) := by decide +kernel
theorem dX10_fill_118 : decode cX10_fill 118 = .ok (.iload 4, 2) := by decide +kernel
theorem dX10_fill_120 : decode cX10_fill 120 = .ok (.istore 4, 2) := by decide +kernel
theorem dX10_fill_122 : decode cX10_fill 122 = .ok (.iload_n 2, 1) := by decide +kernel
theorem dX10_fill_123 : decode cX10_fill 123 = .ok (.ifCond .le 85, 3) := by decide +kernel
theorem dX10_fill_126 : decode cX10_fill 126 = .ok (.iload_n 3, 1) := by decide +kernel
theorem dX10_fill_127 : decode cX10_fill 127 = .ok (.ifCond .le 81, 3) := by decide +kernel
theorem dX10_fill_130 : decode cX10_fill 130 = .ok (.aload_n 0, 1) := by decide +kernel
theorem dX10_fill_131 : decode cX10_fill 131 = .ok (.getfield 41, 3) := by decide +kernel
theorem dX10_fill_134 : decode cX10_fill 134 = .ok (.iload_n 2, 1) := by decide +kernel
theorem dX10_fill_135 : decode cX10_fill 135 = .ok (.iconst 1, 1) := by decide +kernel
theorem dX10_fill_136 : decode cX10_fill 136 = .ok (.isub, 1) := by decide +kernel
theorem dX10_fill_137 : decode cX10_fill 137 = .ok (.iaload, 1) := by decide +kernel
theorem dX10_fill_138 : decode cX10_fill 138 = .ok (.istore 5, 2) := by decide +kernel
theorem dX10_fill_140 : decode cX10_fill 140 = .ok (.aload_n 0, 1) := by decide +kernel
theorem dX10_fill_141 : decode cX10_fill 141 = .ok (.getfield 16, 3) := by decide +kernel
theorem dX10_fill_144 : decode cX10_fill 144 = .ok (.bipush 12, 2) := by decide +kernel
theorem dX10_fill_146 : decode cX10_fill 146 = .ok (.iload_n 1, 1) := by decide +kernel
theorem dX10_fill_147 : decode cX10_fill 147 = .ok (.imul, 1) := by decide +kernel
theorem dX10_fill_148 : decode cX10_fill 148 = .ok (.iload_n 3, 1) := by decide +kernel
theorem dX10_fill_149 : decode cX10_fill 149 = .ok (.iadd, 1) := by decide +kernel
theorem dX10_fill_150 : decode cX10_fill 150 = .ok (.iconst 1, 1) := by decide +kernel
theorem dX10_fill_151 : decode cX10_fill 151 = .ok (.isub, 1) := by decide +kernel
theorem dX10_fill_152 : decode cX10_fill 152 = .ok (.iaload, 1) := by decide +kernel
theorem dX10_fill_153 : decode cX10_fill 153 = .ok (.istore 6, 2) := by decide +kernel
theorem dX10_fill_155 : decode cX10_fill 155 = .ok (.aload_n 0, 1) := by decide +kernel
theorem dX10_fill_156 : decode cX10_fill 156 = .ok (.getfield 38, 3) := by decide +kernel
theorem dX10_fill_159 : decode cX10_fill 159 = .ok (.bipush 13, 2) := by decide +kernel
theorem dX10_fill_161 : decode cX10_fill 161 = .ok (.iload_n 2, 1) := by decide +kernel
theorem dX10_fill_162 : decode cX10_fill 162 = .ok (.iconst 1, 1) := by decide +kernel
theorem dX10_fill_163 : decode cX10_fill 163 = .ok (.isub, 1) := by decide +kernel
theorem dX10_fill_164 : decode cX10_fill 164 = .ok (.imul, 1) := by decide +kernel
theorem dX10_fill_165 : decode cX10_fill 165 = .ok (.iload_n 3, 1) := by decide +kernel
theorem dX10_fill_166 : decode cX10_fill 166 = .ok (.iadd, 1) := by decide +kernel
theorem dX10_fill_167 : decode cX10_fill 167 = .ok (.iconst 1, 1) := by decide +kernel
theorem dX10_fill_168 : decode cX10_fill 168 = .ok (.isub, 1) := by decide +kernel
theorem dX10_fill_169 : decode cX10_fill 169 = .ok (.iaload, 1) := by decide +kernel
theorem dX10_fill_170 : decode cX10_fill 170 = .ok (.iload 5, 2) := by decide +kernel
theorem dX10_fill_172 : decode cX10_fill 172 = .ok (.iload 6, 2) := by decide +kernel
theorem dX10_fill_174 : decode cX10_fill 174 = .ok (.if_icmp .ne 7, 3) := by decide +kernel
theorem dX10_fill_177 : decode cX10_fill 177 = .ok (.iconst 0, 1) := by decide +kernel
theorem dX10_fill_178 : decode cX10_fill 178 = .ok (.goto 11, 3) := by decide +kernel
theorem dX10_fill_181 : decode cX10_fill 181 = .ok (.aload_n 0, 1) := by decide +kernel
theorem dX10_fill_182 : decode cX10_fill 182 = .ok (.iload 5, 2) := by decide +kernel
theorem dX10_fill_184 : decode cX10_fill 184 = .ok (.iload 6, 2) := by decide +kernel
theorem dX10_fill_186 : decode cX10_fill 186 = .ok (.invokevirtual 92, 3) := by decide +kernel
theorem dX10_fill_189 : decode cX10_fill 189 = .ok (.iadd, 1) := by decide +kernel
theorem dX10_fill_190 : decode cX10_fill 190 = .ok (.istore 7, 2) := by decide +kernel
theorem dX10_fill_192 : decode cX10_fill 192 = .ok (.iload 7, 2) := by decide +kernel
theorem dX10_fill_194 : decode cX10_fill 194 = .ok (.iload 4, 2) := by decide +kernel
theorem dX10_fill_196 : decode cX10_fill 196 = .ok (.if_icmp .ge 8, 3) := by decide +kernel
theorem dX10_fill_199 : decode cX10_fill 199 = .ok (.iload 7, 2) := by decide +kernel
theorem dX10_fill_201 : decode cX10_fill 201 = .ok (.goto 5, 3) := by decide +kernel
theorem dX10_fill_204 : decode cX10_fill 204 = .ok (.iload 4, 2) := by decide +kernel
theorem dX10_fill_206 : decode cX10_fill 206 = .ok (.istore 4, 2) := by decide +kernel
theorem dX10_fill_208 : decode cX10_fill 208 = .ok (.aload_n 0, 1) := by decide +kernel
theorem dX10_fill_209 : decode cX10_fill 209 = .ok (.iload_n 1, 1) := by decide +kernel
theorem dX10_fill_210 : decode cX10_fill 210 = .ok (.iload_n 2, 1) := by decide +kernel
theorem dX10_fill_211 : decode cX10_fill 211 = .ok (.iload_n 3, 1) := by decide +kernel
theorem dX10_fill_212 : decode cX10_fill 212 = .ok (.invokevirtual 96, 3) := by decide +kernel
theorem dX10_fill_215 : decode cX10_fill 215 = .ok (.ifCond .eq 43, 3) := by decide +kernel
theorem dX10_fill_218 : decode cX10_fill 218 = .ok (.aload_n 0, 1) := by decide +kernel
theorem dX10_fill_219 : decode cX10_fill 219 = .ok (.getfield 38, 3) := by decide +kernel
theorem dX10_fill_222 : decode cX10_fill 222 = .ok (.bipush 13, 2) := by decide +kernel
theorem dX10_fill_224 : decode cX10_fill 224 = .ok (.iload_n 2, 1) := by decide +kernel
theorem dX10_fill_225 : decode cX10_fill 225 = .ok (.iconst 2, 1) := by decide +kernel
theorem dX10_fill_226 : decode cX10_fill 226 = .ok (.isub, 1) := by decide +kernel
theorem dX10_fill_227 : decode cX10_fill 227 = .ok (.imul, 1) := by decide +kernel
theorem dX10_fill_228 : decode cX10_fill 228 = .ok (.iload_n 3, 1) := by decide +kernel
theorem dX10_fill_229 : decode cX10_fill 229 = .ok (.iadd, 1) := by decide +kernel
theorem dX10_fill_230 : decode cX10_fill 230 = .ok (.iconst 2, 1) := by decide +kernel
theorem dX10_fill_231 : decode cX10_fill 231 = .ok (.isub, 1) := by decide +kernel
theorem dX10_fill_232 : decode cX10_fill 232 = .ok (.iaload, 1) := by decide +kernel
theorem dX10_fill_233 : decode cX10_fill 233 = .ok (.aload_n 0, 1) := by decide +kernel
theorem dX10_fill_234 : decode cX10_fill 234 = .ok (.getfield 22, 3) := by decide +kernel
theorem dX10_fill_237 : decode cX10_fill 237 = .ok (.iconst 3, 1) := by decide +kernel
theorem dX10_fill_238 : decode cX10_fill 238 = .ok (.iaload, 1) := by decide +kernel
theorem dX10_fill_239 : decode cX10_fill 239 = .ok (.iadd, 1) := by decide +kernel
theorem dX10_fill_240 : decode cX10_fill 240 = .ok (.istore 5, 2) := by decide +kernel
theorem dX10_fill_242 : decode cX10_fill 242 = .ok (.iload 5, 2) := by decide +kernel
theorem dX10_fill_244 : decode cX10_fill 244 = .ok (.iload 4, 2) := by decide +kernel
theorem dX10_fill_246 : decode cX10_fill 246 = .ok (.if_icmp .ge 8, 3) := by decide +kernel
theorem dX10_fill_249 : decode cX10_fill 249 = .ok (.iload 5, 2) := by decide +kernel
theorem dX10_fill_251 : decode cX10_fill 251 = .ok (.goto 5, 3) := by decide +kernel
theorem dX10_fill_254 : decode cX10_fill 254 = .ok (.iload 4, 2) := by decide +kernel
theorem dX10_fill_256 : decode cX10_fill 256 = .ok (.istore 4, 2) := by decide +kernel
theorem dX10_fill_258 : decode cX10_fill 258 = .ok (.aload_n 0, 1) := by decide +kernel
theorem dX10_fill_259 : decode cX10_fill 259 = .ok (.getfield 38, 3) := by decide +kernel
theorem dX10_fill_262 : decode cX10_fill 262 = .ok (.bipush 13, 2) := by decide +kernel
theorem dX10_fill_264 : decode cX10_fill 264 = .ok (.iload_n 2, 1) := by decide +kernel
theorem dX10_fill_265 : decode cX10_fill 265 = .ok (.imul, 1) := by decide +kernel
theorem dX10_fill_266 : decode cX10_fill 266 = .ok (.iload_n 3, 1) := by decide +kernel
theorem dX10_fill_267 : decode cX10_fill 267 = .ok (.iadd, 1) := by decide +kernel
theorem dX10_fill_268 : decode cX10_fill 268 = .ok (.iload 4, 2) := by decide +kernel
theorem dX10_fill_270 : decode cX10_fill 270 = .ok (.iastore, 1) := by decide +kernel
theorem dX10_fill_271 : decode cX10_fill 271 = .ok (.iinc 3 1, 3) := by decide +kernel
theorem dX10_fill_274 : decode cX10_fill 274 = .ok (.goto (-262), 3) := by decide +kernel
theorem dX10_fill_277 : decode cX10_fill 277 = .ok (.iinc 2 1, 3) := by decide +kernel
theorem dX10_fill_280 : decode cX10_fill 280 = .ok (.goto (-278), 3) := by decide +kernel
theorem dX10_fill_283 : decode cX10_fill 283 = .ok (.aload_n 0, 1) := by decide +kernel
theorem dX10_fill_284 : decode cX10_fill 284 = .ok (.getfield 38, 3) := by decide +kernel
theorem dX10_fill_287 : decode cX10_fill 287 = .ok (.bipush 13, 2) := by decide +kernel
theorem dX10_fill_289 : decode cX10_fill 289 = .ok (.aload_n 0, 1) := by decide +kernel
theorem dX10_fill_290 : decode cX10_fill 290 = .ok (.getfield 88, 3) := by decide +kernel
theorem dX10_fill_293 : decode cX10_fill 293 = .ok (.imul, 1) := by decide +kernel
theorem dX10_fill_294 : decode cX10_fill 294 = .ok (.aload_n 0, 1) := by decide +kernel
theorem dX10_fill_295 : decode cX10_fill 295 = .ok (.getfield 13, 3) := by decide +kernel
theorem dX10_fill_298 : decode cX10_fill 298 = .ok (.iload_n 1, 1) := by decide +kernel
theorem dX10_fill_299 : decode cX10_fill 299 = .ok (.iaload, 1) := by decide +kernel
theorem dX10_fill_300 : decode cX10_fill 300 = .ok (.iadd, 1) := by decide +kernel
theorem dX10_fill_301 : decode cX10_fill 301 = .ok (.iaload, 1) := by decide +kernel
theorem dX10_fill_302 : decode cX10_fill 302 = .ok (.ireturn, 1) := by decide +kernel
theorem dX10_beginsBy_0 : decode cX10_beginsBy 0 = .ok (.aload_n 0, 1) := by decide +kernel
theorem dX10_beginsBy_1 : decode cX10_beginsBy 1 = .ok (.iload_n 1, 1) := by decide +kernel
theorem dX10_beginsBy_2 : decode cX10_beginsBy 2 = .ok (.invokevirtual 99, 3) := by decide +kernel
theorem dX10_beginsBy_5 : decode cX10_beginsBy 5 = .ok (.istore_n 2, 1) := by decide +kernel
theorem dX10_beginsBy_6 : decode cX10_beginsBy 6 = .ok (.iconst 0, 1) := by decide +kernel
theorem dX10_beginsBy_7 : decode cX10_beginsBy 7 = .ok (.istore_n 3, 1) := by decide +kernel
theorem dX10_beginsBy_8 : decode cX10_beginsBy 8 = .ok (.iload_n 3, 1) := by decide +kernel
theorem dX10_beginsBy_9 : decode cX10_beginsBy 9 = .ok (.aload_n 0, 1) := by decide +kernel
theorem dX10_beginsBy_10 : decode cX10_beginsBy 10 = .ok (.getfield 13, 3) := by decide +kernel
theorem dX10_beginsBy_13 : decode cX10_beginsBy 13 = .ok (.iload_n 1, 1) := by decide +kernel
theorem dX10_beginsBy_14 : decode cX10_beginsBy 14 = .ok (.iaload, 1) := by decide +kernel
theorem dX10_beginsBy_15 : decode cX10_beginsBy 15 = .ok (.if_icmp .gt 38, 3) := by decide +kernel
theorem dX10_beginsBy_18 : decode cX10_beginsBy 18 = .ok (.aload_n 0, 1) := by decide +kernel
theorem dX10_beginsBy_19 : decode cX10_beginsBy 19 = .ok (.getfield 38, 3) := by decide +kernel
theorem dX10_beginsBy_22 : decode cX10_beginsBy 22 = .ok (.bipush 13, 2) := by decide +kernel
theorem dX10_beginsBy_24 : decode cX10_beginsBy 24 = .ok (.aload_n 0, 1) := by decide +kernel
theorem dX10_beginsBy_25 : decode cX10_beginsBy 25 = .ok (.getfield 88, 3) := by decide +kernel
theorem dX10_beginsBy_28 : decode cX10_beginsBy 28 = .ok (.imul, 1) := by decide +kernel
theorem dX10_beginsBy_29 : decode cX10_beginsBy 29 = .ok (.iload_n 3, 1) := by decide +kernel
theorem dX10_beginsBy_30 : decode cX10_beginsBy 30 = .ok (.iadd, 1) := by decide +kernel
theorem dX10_beginsBy_31 : decode cX10_beginsBy 31 = .ok (.iaload, 1) := by decide +kernel
theorem dX10_beginsBy_32 : decode cX10_beginsBy 32 = .ok (.istore 4, 2) := by decide +kernel
theorem dX10_beginsBy_34 : decode cX10_beginsBy 34 = .ok (.iload 4, 2) := by decide +kernel
theorem dX10_beginsBy_36 : decode cX10_beginsBy 36 = .ok (.iload_n 2, 1) := by decide +kernel
theorem dX10_beginsBy_37 : decode cX10_beginsBy 37 = .ok (.if_icmp .ge 8, 3) := by decide +kernel
theorem dX10_beginsBy_40 : decode cX10_beginsBy 40 = .ok (.iload 4, 2) := by decide +kernel
theorem dX10_beginsBy_42 : decode cX10_beginsBy 42 = .ok (.goto 4, 3) := by decide +kernel
theorem dX10_beginsBy_45 : decode cX10_beginsBy 45 = .ok (.iload_n 2, 1) := by decide +kernel
theorem dX10_beginsBy_46 : decode cX10_beginsBy 46 = .ok (.istore_n 2, 1) := by decide +kernel
theorem dX10_beginsBy_47 : decode cX10_beginsBy 47 = .ok (.iinc 3 1, 3) := by decide +kernel
theorem dX10_beginsBy_50 : decode cX10_beginsBy 50 = .ok (.goto (-42), 3) := by decide +kernel
theorem dX10_beginsBy_53 : decode cX10_beginsBy 53 = .ok (.iload_n 2, 1) := by decide +kernel
theorem dX10_beginsBy_54 : decode cX10_beginsBy 54 = .ok (.ireturn, 1) := by decide +kernel
theorem dX10_distance_0 : decode cX10_distance 0 = .ok (.aload_n 0, 1) := by decide +kernel
theorem dX10_distance_1 : decode cX10_distance 1 = .ok (.iconst 0, 1) := by decide +kernel
theorem dX10_distance_2 : decode cX10_distance 2 = .ok (.putfield 62, 3) := by decide +kernel
theorem dX10_distance_5 : decode cX10_distance 5 = .ok (.aload_n 0, 1) := by decide +kernel
theorem dX10_distance_6 : decode cX10_distance 6 = .ok (.iload_n 1, 1) := by decide +kernel
theorem dX10_distance_7 : decode cX10_distance 7 = .ok (.invokevirtual 76, 3) := by decide +kernel
theorem dX10_distance_10 : decode cX10_distance 10 = .ok (.ifCond .ne 5, 3) := by decide +kernel
theorem dX10_distance_13 : decode cX10_distance 13 = .ok (.iconst (-1), 1) := by decide +kernel
theorem dX10_distance_14 : decode cX10_distance 14 = .ok (.ireturn, 1) := by decide +kernel
theorem dX10_distance_15 : decode cX10_distance 15 = .ok (.aload_n 0, 1) := by decide +kernel
theorem dX10_distance_16 : decode cX10_distance 16 = .ok (.iconst 0, 1) := by decide +kernel
theorem dX10_distance_17 : decode cX10_distance 17 = .ok (.aload_n 0, 1) := by decide +kernel
theorem dX10_distance_18 : decode cX10_distance 18 = .ok (.getfield 73, 3) := by decide +kernel
theorem dX10_distance_21 : decode cX10_distance 21 = .ok (.invokevirtual 102, 3) := by decide +kernel
theorem dX10_distance_24 : decode cX10_distance 24 = .ok (.aload_n 0, 1) := by decide +kernel
theorem dX10_distance_25 : decode cX10_distance 25 = .ok (.iload_n 1, 1) := by decide +kernel
theorem dX10_distance_26 : decode cX10_distance 26 = .ok (.invokevirtual 99, 3) := by decide +kernel
theorem dX10_distance_29 : decode cX10_distance 29 = .ok (.ireturn, 1) := by decide +kernel
theorem dX10_begins_0 : decode cX10_begins 0 = .ok (.aload_n 0, 1) := by decide +kernel
theorem dX10_begins_1 : decode cX10_begins 1 = .ok (.iconst 0, 1) := by decide +kernel
theorem dX10_begins_2 : decode cX10_begins 2 = .ok (.putfield 62, 3) := by decide +kernel
theorem dX10_begins_5 : decode cX10_begins 5 = .ok (.aload_n 0, 1) := by decide +kernel
theorem dX10_begins_6 : decode cX10_begins 6 = .ok (.iload_n 1, 1) := by decide +kernel
theorem dX10_begins_7 : decode cX10_begins 7 = .ok (.invokevirtual 76, 3) := by decide +kernel
theorem dX10_begins_10 : decode cX10_begins 10 = .ok (.ifCond .ne 5, 3) := by decide +kernel
theorem dX10_begins_13 : decode cX10_begins 13 = .ok (.iconst (-1), 1) := by decide +kernel
theorem dX10_begins_14 : decode cX10_begins 14 = .ok (.ireturn, 1) := by decide +kernel
theorem dX10_begins_15 : decode cX10_begins 15 = .ok (.aload_n 0, 1) := by decide +kernel
theorem dX10_begins_16 : decode cX10_begins 16 = .ok (.iconst 0, 1) := by decide +kernel
theorem dX10_begins_17 : decode cX10_begins 17 = .ok (.aload_n 0, 1) := by decide +kernel
theorem dX10_begins_18 : decode cX10_begins 18 = .ok (.getfield 73, 3) := by decide +kernel
theorem dX10_begins_21 : decode cX10_begins 21 = .ok (.invokevirtual 102, 3) := by decide +kernel
theorem dX10_begins_24 : decode cX10_begins 24 = .ok (.aload_n 0, 1) := by decide +kernel
theorem dX10_begins_25 : decode cX10_begins 25 = .ok (.iload_n 1, 1) := by decide +kernel
theorem dX10_begins_26 : decode cX10_begins 26 = .ok (.invokevirtual 106, 3) := by decide +kernel
theorem dX10_begins_29 : decode cX10_begins 29 = .ok (.ireturn, 1) := by decide +kernel
theorem dX10_note_0 : decode cX10_note 0 = .ok (.aload_n 0, 1) := by decide +kernel
theorem dX10_note_1 : decode cX10_note 1 = .ok (.getfield 44, 3) := by decide +kernel
theorem dX10_note_4 : decode cX10_note 4 = .ok (.aload_n 0, 1) := by decide +kernel
theorem dX10_note_5 : decode cX10_note 5 = .ok (.getfield 109, 3) := by decide +kernel
theorem dX10_note_8 : decode cX10_note 8 = .ok (.iload_n 1, 1) := by decide +kernel
theorem dX10_note_9 : decode cX10_note 9 = .ok (.iastore, 1) := by decide +kernel
theorem dX10_note_10 : decode cX10_note 10 = .ok (.aload_n 0, 1) := by decide +kernel
theorem dX10_note_11 : decode cX10_note 11 = .ok (.getfield 47, 3) := by decide +kernel
theorem dX10_note_14 : decode cX10_note 14 = .ok (.aload_n 0, 1) := by decide +kernel
theorem dX10_note_15 : decode cX10_note 15 = .ok (.getfield 109, 3) := by decide +kernel
theorem dX10_note_18 : decode cX10_note 18 = .ok (.iload_n 2, 1) := by decide +kernel
theorem dX10_note_19 : decode cX10_note 19 = .ok (.iastore, 1) := by decide +kernel
theorem dX10_note_20 : decode cX10_note 20 = .ok (.aload_n 0, 1) := by decide +kernel
theorem dX10_note_21 : decode cX10_note 21 = .ok (.dup, 1) := by decide +kernel
theorem dX10_note_22 : decode cX10_note 22 = .ok (.getfield 109, 3) := by decide +kernel
theorem dX10_note_25 : decode cX10_note 25 = .ok (.iconst 1, 1) := by decide +kernel
theorem dX10_note_26 : decode cX10_note 26 = .ok (.iadd, 1) := by decide +kernel
theorem dX10_note_27 : decode cX10_note 27 = .ok (.putfield 109, 3) := by decide +kernel
theorem dX10_note_30 : decode cX10_note 30 = .ok (.return_, 1) := by decide +kernel
theorem dX10_find_0 : decode cX10_find 0 = .ok (.aload_n 0, 1) := by decide +kernel
theorem dX10_find_1 : decode cX10_find 1 = .ok (.iconst 0, 1) := by decide +kernel
theorem dX10_find_2 : decode cX10_find 2 = .ok (.aload_n 0, 1) := by decide +kernel
theorem dX10_find_3 : decode cX10_find 3 = .ok (.getfield 73, 3) := by decide +kernel
theorem dX10_find_6 : decode cX10_find 6 = .ok (.invokevirtual 102, 3) := by decide +kernel
theorem dX10_find_9 : decode cX10_find 9 = .ok (.aload_n 0, 1) := by decide +kernel
theorem dX10_find_10 : decode cX10_find 10 = .ok (.iload_n 1, 1) := by decide +kernel
theorem dX10_find_11 : decode cX10_find 11 = .ok (.invokevirtual 99, 3) := by decide +kernel
theorem dX10_find_14 : decode cX10_find 14 = .ok (.istore_n 2, 1) := by decide +kernel
theorem dX10_find_15 : decode cX10_find 15 = .ok (.aload_n 0, 1) := by decide +kernel
theorem dX10_find_16 : decode cX10_find 16 = .ok (.iconst 0, 1) := by decide +kernel
theorem dX10_find_17 : decode cX10_find 17 = .ok (.putfield 109, 3) := by decide +kernel
theorem dX10_find_20 : decode cX10_find 20 = .ok (.aload_n 0, 1) := by decide +kernel
theorem dX10_find_21 : decode cX10_find 21 = .ok (.getfield 88, 3) := by decide +kernel
theorem dX10_find_24 : decode cX10_find 24 = .ok (.istore_n 3, 1) := by decide +kernel
theorem dX10_find_25 : decode cX10_find 25 = .ok (.aload_n 0, 1) := by decide +kernel
theorem dX10_find_26 : decode cX10_find 26 = .ok (.getfield 13, 3) := by decide +kernel
theorem dX10_find_29 : decode cX10_find 29 = .ok (.iload_n 1, 1) := by decide +kernel
theorem dX10_find_30 : decode cX10_find 30 = .ok (.iaload, 1) := by decide +kernel
theorem dX10_find_31 : decode cX10_find 31 = .ok (.istore 4, 2) := by decide +kernel
theorem dX10_find_33 : decode cX10_find 33 = .ok (.iload_n 3, 1) := by decide +kernel
theorem dX10_find_34 : decode cX10_find 34 = .ok (.ifCond .gt 8, 3) := by decide +kernel
theorem dX10_find_37 : decode cX10_find 37 = .ok (.iload 4, 2) := by decide +kernel
theorem dX10_find_39 : decode cX10_find 39 = .ok (.ifCond .le 272, 3) := by decide +kernel
theorem dX10_find_42 : decode cX10_find 42 = .ok (.aload_n 0, 1) := by decide +kernel
theorem dX10_find_43 : decode cX10_find 43 = .ok (.getfield 38, 3) := by decide +kernel
theorem dX10_find_46 : decode cX10_find 46 = .ok (.bipush 13, 2) := by decide +kernel
theorem dX10_find_48 : decode cX10_find 48 = .ok (.iload_n 3, 1) := by decide +kernel
theorem dX10_find_49 : decode cX10_find 49 = .ok (.imul, 1) := by decide +kernel
theorem dX10_find_50 : decode cX10_find 50 = .ok (.iload 4, 2) := by decide +kernel
theorem dX10_find_52 : decode cX10_find 52 = .ok (.iadd, 1) := by decide +kernel
theorem dX10_find_53 : decode cX10_find 53 = .ok (.iaload, 1) := by decide +kernel
theorem dX10_find_54 : decode cX10_find 54 = .ok (.istore_n 2, 1) := by decide +kernel
theorem dX10_find_55 : decode cX10_find 55 = .ok (.iload_n 3, 1) := by decide +kernel
theorem dX10_find_56 : decode cX10_find 56 = .ok (.ifCond .le 14, 3) := by decide +kernel
theorem dX10_find_59 : decode cX10_find 59 = .ok (.aload_n 0, 1) := by decide +kernel
theorem dX10_find_60 : decode cX10_find 60 = .ok (.getfield 41, 3) := by decide +kernel
theorem dX10_find_63 : decode cX10_find 63 = .ok (.iload_n 3, 1) := by decide +kernel
theorem dX10_find_64 : decode cX10_find 64 = .ok (.iconst 1, 1) := by decide +kernel
theorem dX10_find_65 : decode cX10_find 65 = .ok (.isub, 1) := by decide +kernel
theorem dX10_find_66 : decode cX10_find 66 = .ok (.iaload, 1) := by decide +kernel
theorem dX10_find_67 : decode cX10_find 67 = .ok (.goto 4, 3) := by decide +kernel
theorem dX10_find_70 : decode cX10_find 70 = .ok (.iconst (-1), 1) := by decide +kernel
theorem dX10_find_71 : decode cX10_find 71 = .ok (.istore 5, 2) := by decide +kernel
theorem dX10_find_73 : decode cX10_find 73 = .ok (.iload 4, 2) := by decide +kernel
theorem dX10_find_75 : decode cX10_find 75 = .ok (.ifCond .le 20, 3) := by decide +kernel
theorem dX10_find_78 : decode cX10_find 78 = .ok (.aload_n 0, 1) := by decide +kernel
theorem dX10_find_79 : decode cX10_find 79 = .ok (.getfield 16, 3) := by decide +kernel
theorem dX10_find_82 : decode cX10_find 82 = .ok (.bipush 12, 2) := by decide +kernel
theorem dX10_find_84 : decode cX10_find 84 = .ok (.iload_n 1, 1) := by decide +kernel
theorem dX10_find_85 : decode cX10_find 85 = .ok (.imul, 1) := by decide +kernel
theorem dX10_find_86 : decode cX10_find 86 = .ok (.iload 4, 2) := by decide +kernel
theorem dX10_find_88 : decode cX10_find 88 = .ok (.iadd, 1) := by decide +kernel
theorem dX10_find_89 : decode cX10_find 89 = .ok (.iconst 1, 1) := by decide +kernel
theorem dX10_find_90 : decode cX10_find 90 = .ok (.isub, 1) := by decide +kernel
theorem dX10_find_91 : decode cX10_find 91 = .ok (.iaload, 1) := by decide +kernel
theorem dX10_find_92 : decode cX10_find 92 = .ok (.goto 5, 3) := by decide +kernel
theorem dX10_find_95 : decode cX10_find 95 = .ok (.bipush (-2), 2) := by decide +kernel
theorem dX10_find_97 : decode cX10_find 97 = .ok (.istore 6, 2) := by decide +kernel
theorem dX10_find_99 : decode cX10_find 99 = .ok (.iload_n 3, 1) := by decide +kernel
theorem dX10_find_100 : decode cX10_find 100 = .ok (.ifCond .le 27, 3) := by decide +kernel
theorem dX10_find_103 : decode cX10_find 103 = .ok (.iload 4, 2) := by decide +kernel
theorem dX10_find_105 : decode cX10_find 105 = .ok (.ifCond .le 22, 3) := by decide +kernel
theorem dX10_find_108 : decode cX10_find 108 = .ok (.aload_n 0, 1) := by decide +kernel
theorem dX10_find_109 : decode cX10_find 109 = .ok (.getfield 38, 3) := by decide +kernel
theorem dX10_find_112 : decode cX10_find 112 = .ok (.bipush 13, 2) := by decide +kernel
theorem dX10_find_114 : decode cX10_find 114 = .ok (.iload_n 3, 1) := by decide +kernel
theorem dX10_find_115 : decode cX10_find 115 = .ok (.iconst 1, 1) := by decide +kernel
theorem dX10_find_116 : decode cX10_find 116 = .ok (.isub, 1) := by decide +kernel
theorem dX10_find_117 : decode cX10_find 117 = .ok (.imul, 1) := by decide +kernel
theorem dX10_find_118 : decode cX10_find 118 = .ok (.iload 4, 2) := by decide +kernel
theorem dX10_find_120 : decode cX10_find 120 = .ok (.iadd, 1) := by decide +kernel
theorem dX10_find_121 : decode cX10_find 121 = .ok (.iconst 1, 1) := by decide +kernel
theorem dX10_find_122 : decode cX10_find 122 = .ok (.isub, 1) := by decide +kernel
theorem dX10_find_123 : decode cX10_find 123 = .ok (.iaload, 1) := by decide +kernel
theorem dX10_find_124 : decode cX10_find 124 = .ok (.goto 5, 3) := by decide +kernel
theorem dX10_find_127 : decode cX10_find 127 = .ok (.ldc 91, 2) := by decide +kernel
theorem dX10_find_129 : decode cX10_find 129 = .ok (.istore 7, 2) := by decide +kernel
theorem dX10_find_131 : decode cX10_find 131 = .ok (.iload 5, 2) := by decide +kernel
theorem dX10_find_133 : decode cX10_find 133 = .ok (.iload 6, 2) := by decide +kernel
theorem dX10_find_135 : decode cX10_find 135 = .ok (.if_icmp .ne 18, 3) := by decide +kernel
theorem dX10_find_138 : decode cX10_find 138 = .ok (.iload 7, 2) := by decide +kernel
theorem dX10_find_140 : decode cX10_find 140 = .ok (.iload_n 2, 1) := by decide +kernel
theorem dX10_find_141 : decode cX10_find 141 = .ok (.if_icmp .ne 12, 3) := by decide +kernel
theorem dX10_find_144 : decode cX10_find 144 = .ok (.iinc 3 (-1), 3) := by decide +kernel
theorem dX10_find_147 : decode cX10_find 147 = .ok (.iinc 4 (-1), 3) := by decide +kernel
theorem dX10_find_150 : decode cX10_find 150 = .ok (.goto 158, 3) := by decide +kernel
theorem dX10_find_153 : decode cX10_find 153 = .ok (.iload_n 3, 1) := by decide +kernel
theorem dX10_find_154 : decode cX10_find 154 = .ok (.ifCond .le 47, 3) := by decide +kernel
theorem dX10_find_157 : decode cX10_find 157 = .ok (.iload 4, 2) := by decide +kernel
theorem dX10_find_159 : decode cX10_find 159 = .ok (.ifCond .le 42, 3) := by decide +kernel
theorem dX10_find_162 : decode cX10_find 162 = .ok (.iload 5, 2) := by decide +kernel
theorem dX10_find_164 : decode cX10_find 164 = .ok (.iload 6, 2) := by decide +kernel
theorem dX10_find_166 : decode cX10_find 166 = .ok (.if_icmp .eq 35, 3) := by decide +kernel
theorem dX10_find_169 : decode cX10_find 169 = .ok (.iload 7, 2) := by decide +kernel
theorem dX10_find_171 : decode cX10_find 171 = .ok (.aload_n 0, 1) := by decide +kernel
theorem dX10_find_172 : decode cX10_find 172 = .ok (.iload 5, 2) := by decide +kernel
theorem dX10_find_174 : decode cX10_find 174 = .ok (.iload 6, 2) := by decide +kernel
theorem dX10_find_176 : decode cX10_find 176 = .ok (.invokevirtual 92, 3) := by decide +kernel
theorem dX10_find_179 : decode cX10_find 179 = .ok (.iadd, 1) := by decide +kernel
theorem dX10_find_180 : decode cX10_find 180 = .ok (.iload_n 2, 1) := by decide +kernel
theorem dX10_find_181 : decode cX10_find 181 = .ok (.if_icmp .ne 20, 3) := by decide +kernel
theorem dX10_find_184 : decode cX10_find 184 = .ok (.aload_n 0, 1) := by decide +kernel
theorem dX10_find_185 : decode cX10_find 185 = .ok (.iconst 2, 1) := by decide +kernel
theorem dX10_find_186 : decode cX10_find 186 = .ok (.iload_n 3, 1) := by decide +kernel
theorem dX10_find_187 : decode cX10_find 187 = .ok (.iconst 1, 1) := by decide +kernel
theorem dX10_find_188 : decode cX10_find 188 = .ok (.isub, 1) := by decide +kernel
theorem dX10_find_189 : decode cX10_find 189 = .ok (.invokevirtual 112, 3) := by decide +kernel
theorem dX10_find_192 : decode cX10_find 192 = .ok (.iinc 3 (-1), 3) := by decide +kernel
theorem dX10_find_195 : decode cX10_find 195 = .ok (.iinc 4 (-1), 3) := by decide +kernel
theorem dX10_find_198 : decode cX10_find 198 = .ok (.goto 110, 3) := by decide +kernel
theorem dX10_find_201 : decode cX10_find 201 = .ok (.aload_n 0, 1) := by decide +kernel
theorem dX10_find_202 : decode cX10_find 202 = .ok (.iload_n 1, 1) := by decide +kernel
theorem dX10_find_203 : decode cX10_find 203 = .ok (.iload_n 3, 1) := by decide +kernel
theorem dX10_find_204 : decode cX10_find 204 = .ok (.iload 4, 2) := by decide +kernel
theorem dX10_find_206 : decode cX10_find 206 = .ok (.invokevirtual 96, 3) := by decide +kernel
theorem dX10_find_209 : decode cX10_find 209 = .ok (.ifCond .eq 47, 3) := by decide +kernel
theorem dX10_find_212 : decode cX10_find 212 = .ok (.aload_n 0, 1) := by decide +kernel
theorem dX10_find_213 : decode cX10_find 213 = .ok (.getfield 38, 3) := by decide +kernel
theorem dX10_find_216 : decode cX10_find 216 = .ok (.bipush 13, 2) := by decide +kernel
theorem dX10_find_218 : decode cX10_find 218 = .ok (.iload_n 3, 1) := by decide +kernel
theorem dX10_find_219 : decode cX10_find 219 = .ok (.iconst 2, 1) := by decide +kernel
theorem dX10_find_220 : decode cX10_find 220 = .ok (.isub, 1) := by decide +kernel
theorem dX10_find_221 : decode cX10_find 221 = .ok (.imul, 1) := by decide +kernel
theorem dX10_find_222 : decode cX10_find 222 = .ok (.iload 4, 2) := by decide +kernel
theorem dX10_find_224 : decode cX10_find 224 = .ok (.iadd, 1) := by decide +kernel
theorem dX10_find_225 : decode cX10_find 225 = .ok (.iconst 2, 1) := by decide +kernel
theorem dX10_find_226 : decode cX10_find 226 = .ok (.isub, 1) := by decide +kernel
theorem dX10_find_227 : decode cX10_find 227 = .ok (.iaload, 1) := by decide +kernel
theorem dX10_find_228 : decode cX10_find 228 = .ok (.aload_n 0, 1) := by decide +kernel
theorem dX10_find_229 : decode cX10_find 229 = .ok (.getfield 22, 3) := by decide +kernel
theorem dX10_find_232 : decode cX10_find 232 = .ok (.iconst 3, 1) := by decide +kernel
theorem dX10_find_233 : decode cX10_find 233 = .ok (.iaload, 1) := by decide +kernel
theorem dX10_find_234 : decode cX10_find 234 = .ok (.iadd, 1) := by decide +kernel
theorem dX10_find_235 : decode cX10_find 235 = .ok (.iload_n 2, 1) := by decide +kernel
theorem dX10_find_236 : decode cX10_find 236 = .ok (.if_icmp .ne 20, 3) := by decide +kernel
theorem dX10_find_239 : decode cX10_find 239 = .ok (.aload_n 0, 1) := by decide +kernel
theorem dX10_find_240 : decode cX10_find 240 = .ok (.iconst 3, 1) := by decide +kernel
theorem dX10_find_241 : decode cX10_find 241 = .ok (.iload_n 3, 1) := by decide +kernel
theorem dX10_find_242 : decode cX10_find 242 = .ok (.iconst 2, 1) := by decide +kernel
theorem dX10_find_243 : decode cX10_find 243 = .ok (.isub, 1) := by decide +kernel
theorem dX10_find_244 : decode cX10_find 244 = .ok (.invokevirtual 112, 3) := by decide +kernel
theorem dX10_find_247 : decode cX10_find 247 = .ok (.iinc 3 (-2), 3) := by decide +kernel
theorem dX10_find_250 : decode cX10_find 250 = .ok (.iinc 4 (-2), 3) := by decide +kernel
theorem dX10_find_253 : decode cX10_find 253 = .ok (.goto 55, 3) := by decide +kernel
theorem dX10_find_256 : decode cX10_find 256 = .ok (.iload_n 3, 1) := by decide +kernel
theorem dX10_find_257 : decode cX10_find 257 = .ok (.ifCond .le 42, 3) := by decide +kernel
theorem dX10_find_260 : decode cX10_find 260 = .ok (.aload_n 0, 1) := by decide +kernel
theorem dX10_find_261 : decode cX10_find 261 = .ok (.getfield 38, 3) := by decide +kernel
theorem dX10_find_264 : decode cX10_find 264 = .ok (.bipush 13, 2) := by decide +kernel
theorem dX10_find_266 : decode cX10_find 266 = .ok (.iload_n 3, 1) := by decide +kernel
theorem dX10_find_267 : decode cX10_find 267 = .ok (.iconst 1, 1) := by decide +kernel
theorem dX10_find_268 : decode cX10_find 268 = .ok (.isub, 1) := by decide +kernel
theorem dX10_find_269 : decode cX10_find 269 = .ok (.imul, 1) := by decide +kernel
theorem dX10_find_270 : decode cX10_find 270 = .ok (.iload 4, 2) := by decide +kernel
theorem dX10_find_272 : decode cX10_find 272 = .ok (.iadd, 1) := by decide +kernel
theorem dX10_find_273 : decode cX10_find 273 = .ok (.iaload, 1) := by decide +kernel
theorem dX10_find_274 : decode cX10_find 274 = .ok (.aload_n 0, 1) := by decide +kernel
theorem dX10_find_275 : decode cX10_find 275 = .ok (.getfield 22, 3) := by decide +kernel
theorem dX10_find_278 : decode cX10_find 278 = .ok (.iconst 1, 1) := by decide +kernel
theorem dX10_find_279 : decode cX10_find 279 = .ok (.iaload, 1) := by decide +kernel
theorem dX10_find_280 : decode cX10_find 280 = .ok (.iadd, 1) := by decide +kernel
theorem dX10_find_281 : decode cX10_find 281 = .ok (.iload_n 2, 1) := by decide +kernel
theorem dX10_find_282 : decode cX10_find 282 = .ok (.if_icmp .ne 17, 3) := by decide +kernel
theorem dX10_find_285 : decode cX10_find 285 = .ok (.aload_n 0, 1) := by decide +kernel
theorem dX10_find_286 : decode cX10_find 286 = .ok (.iconst 1, 1) := by decide +kernel
theorem dX10_find_287 : decode cX10_find 287 = .ok (.iload_n 3, 1) := by decide +kernel
theorem dX10_find_288 : decode cX10_find 288 = .ok (.iconst 1, 1) := by decide +kernel
theorem dX10_find_289 : decode cX10_find 289 = .ok (.isub, 1) := by decide +kernel
theorem dX10_find_290 : decode cX10_find 290 = .ok (.invokevirtual 112, 3) := by decide +kernel
theorem dX10_find_293 : decode cX10_find 293 = .ok (.iinc 3 (-1), 3) := by decide +kernel
theorem dX10_find_296 : decode cX10_find 296 = .ok (.goto 12, 3) := by decide +kernel
theorem dX10_find_299 : decode cX10_find 299 = .ok (.aload_n 0, 1) := by decide +kernel
theorem dX10_find_300 : decode cX10_find 300 = .ok (.iconst 0, 1) := by decide +kernel
theorem dX10_find_301 : decode cX10_find 301 = .ok (.iload_n 3, 1) := by decide +kernel
theorem dX10_find_302 : decode cX10_find 302 = .ok (.invokevirtual 112, 3) := by decide +kernel
theorem dX10_find_305 : decode cX10_find 305 = .ok (.iinc 4 (-1), 3) := by decide +kernel
theorem dX10_find_308 : decode cX10_find 308 = .ok (.goto (-275), 3) := by decide +kernel
theorem dX10_find_311 : decode cX10_find 311 = .ok (.return_, 1) := by decide +kernel
theorem dX10_edit_0 : decode cX10_edit 0 = .ok (.aload_n 0, 1) := by decide +kernel
theorem dX10_edit_1 : decode cX10_edit 1 = .ok (.iconst 0, 1) := by decide +kernel
theorem dX10_edit_2 : decode cX10_edit 2 = .ok (.putfield 62, 3) := by decide +kernel
theorem dX10_edit_5 : decode cX10_edit 5 = .ok (.aload_n 0, 1) := by decide +kernel
theorem dX10_edit_6 : decode cX10_edit 6 = .ok (.iload_n 1, 1) := by decide +kernel
theorem dX10_edit_7 : decode cX10_edit 7 = .ok (.invokevirtual 76, 3) := by decide +kernel
theorem dX10_edit_10 : decode cX10_edit 10 = .ok (.ifCond .ne 5, 3) := by decide +kernel
theorem dX10_edit_13 : decode cX10_edit 13 = .ok (.iconst (-1), 1) := by decide +kernel
theorem dX10_edit_14 : decode cX10_edit 14 = .ok (.ireturn, 1) := by decide +kernel
theorem dX10_edit_15 : decode cX10_edit 15 = .ok (.aload_n 0, 1) := by decide +kernel
theorem dX10_edit_16 : decode cX10_edit 16 = .ok (.iload_n 1, 1) := by decide +kernel
theorem dX10_edit_17 : decode cX10_edit 17 = .ok (.invokevirtual 115, 3) := by decide +kernel
theorem dX10_edit_20 : decode cX10_edit 20 = .ok (.iload_n 2, 1) := by decide +kernel
theorem dX10_edit_21 : decode cX10_edit 21 = .ok (.iconst (-1), 1) := by decide +kernel
theorem dX10_edit_22 : decode cX10_edit 22 = .ok (.if_icmp .ne 10, 3) := by decide +kernel
theorem dX10_edit_25 : decode cX10_edit 25 = .ok (.aload_n 0, 1) := by decide +kernel
theorem dX10_edit_26 : decode cX10_edit 26 = .ok (.getfield 109, 3) := by decide +kernel
theorem dX10_edit_29 : decode cX10_edit 29 = .ok (.goto 34, 3) := by decide +kernel
theorem dX10_edit_32 : decode cX10_edit 32 = .ok (.iload_n 2, 1) := by decide +kernel
theorem dX10_edit_33 : decode cX10_edit 33 = .ok (.iconst 0, 1) := by decide +kernel
theorem dX10_edit_34 : decode cX10_edit 34 = .ok (.aload_n 0, 1) := by decide +kernel
theorem dX10_edit_35 : decode cX10_edit 35 = .ok (.getfield 109, 3) := by decide +kernel
theorem dX10_edit_38 : decode cX10_edit 38 = .ok (.iconst 1, 1) := by decide +kernel
theorem dX10_edit_39 : decode cX10_edit 39 = .ok (.isub, 1) := by decide +kernel
theorem dX10_edit_40 : decode cX10_edit 40 = .ok (.invokestatic 69, 3) := by decide +kernel
theorem dX10_edit_43 : decode cX10_edit 43 = .ok (.ifCond .eq 19, 3) := by decide +kernel
theorem dX10_edit_46 : decode cX10_edit 46 = .ok (.aload_n 0, 1) := by decide +kernel
theorem dX10_edit_47 : decode cX10_edit 47 = .ok (.getfield 44, 3) := by decide +kernel
theorem dX10_edit_50 : decode cX10_edit 50 = .ok (.aload_n 0, 1) := by decide +kernel
theorem dX10_edit_51 : decode cX10_edit 51 = .ok (.getfield 109, 3) := by decide +kernel
theorem dX10_edit_54 : decode cX10_edit 54 = .ok (.iconst 1, 1) := by decide +kernel
theorem dX10_edit_55 : decode cX10_edit 55 = .ok (.isub, 1) := by decide +kernel
theorem dX10_edit_56 : decode cX10_edit 56 = .ok (.iload_n 2, 1) := by decide +kernel
theorem dX10_edit_57 : decode cX10_edit 57 = .ok (.isub, 1) := by decide +kernel
theorem dX10_edit_58 : decode cX10_edit 58 = .ok (.iaload, 1) := by decide +kernel
theorem dX10_edit_59 : decode cX10_edit 59 = .ok (.goto 4, 3) := by decide +kernel
theorem dX10_edit_62 : decode cX10_edit 62 = .ok (.iconst (-1), 1) := by decide +kernel
theorem dX10_edit_63 : decode cX10_edit 63 = .ok (.ireturn, 1) := by decide +kernel
theorem dX10_place_0 : decode cX10_place 0 = .ok (.aload_n 0, 1) := by decide +kernel
theorem dX10_place_1 : decode cX10_place 1 = .ok (.iconst 0, 1) := by decide +kernel
theorem dX10_place_2 : decode cX10_place 2 = .ok (.putfield 62, 3) := by decide +kernel
theorem dX10_place_5 : decode cX10_place 5 = .ok (.aload_n 0, 1) := by decide +kernel
theorem dX10_place_6 : decode cX10_place 6 = .ok (.iload_n 1, 1) := by decide +kernel
theorem dX10_place_7 : decode cX10_place 7 = .ok (.invokevirtual 76, 3) := by decide +kernel
theorem dX10_place_10 : decode cX10_place 10 = .ok (.ifCond .ne 5, 3) := by decide +kernel
theorem dX10_place_13 : decode cX10_place 13 = .ok (.iconst (-1), 1) := by decide +kernel
theorem dX10_place_14 : decode cX10_place 14 = .ok (.ireturn, 1) := by decide +kernel
theorem dX10_place_15 : decode cX10_place 15 = .ok (.aload_n 0, 1) := by decide +kernel
theorem dX10_place_16 : decode cX10_place 16 = .ok (.iload_n 1, 1) := by decide +kernel
theorem dX10_place_17 : decode cX10_place 17 = .ok (.invokevirtual 115, 3) := by decide +kernel
theorem dX10_place_20 : decode cX10_place 20 = .ok (.iload_n 2, 1) := by decide +kernel
theorem dX10_place_21 : decode cX10_place 21 = .ok (.iconst 0, 1) := by decide +kernel
theorem dX10_place_22 : decode cX10_place 22 = .ok (.aload_n 0, 1) := by decide +kernel
theorem dX10_place_23 : decode cX10_place 23 = .ok (.getfield 109, 3) := by decide +kernel
theorem dX10_place_26 : decode cX10_place 26 = .ok (.iconst 1, 1) := by decide +kernel
theorem dX10_place_27 : decode cX10_place 27 = .ok (.isub, 1) := by decide +kernel
theorem dX10_place_28 : decode cX10_place 28 = .ok (.invokestatic 69, 3) := by decide +kernel
theorem dX10_place_31 : decode cX10_place 31 = .ok (.ifCond .eq 19, 3) := by decide +kernel
theorem dX10_place_34 : decode cX10_place 34 = .ok (.aload_n 0, 1) := by decide +kernel
theorem dX10_place_35 : decode cX10_place 35 = .ok (.getfield 47, 3) := by decide +kernel
theorem dX10_place_38 : decode cX10_place 38 = .ok (.aload_n 0, 1) := by decide +kernel
theorem dX10_place_39 : decode cX10_place 39 = .ok (.getfield 109, 3) := by decide +kernel
theorem dX10_place_42 : decode cX10_place 42 = .ok (.iconst 1, 1) := by decide +kernel
theorem dX10_place_43 : decode cX10_place 43 = .ok (.isub, 1) := by decide +kernel
theorem dX10_place_44 : decode cX10_place 44 = .ok (.iload_n 2, 1) := by decide +kernel
theorem dX10_place_45 : decode cX10_place 45 = .ok (.isub, 1) := by decide +kernel
theorem dX10_place_46 : decode cX10_place 46 = .ok (.iaload, 1) := by decide +kernel
theorem dX10_place_47 : decode cX10_place 47 = .ok (.goto 4, 3) := by decide +kernel
theorem dX10_place_50 : decode cX10_place 50 = .ok (.iconst (-1), 1) := by decide +kernel
theorem dX10_place_51 : decode cX10_place 51 = .ok (.ireturn, 1) := by decide +kernel
theorem dX10_look_0 : decode cX10_look 0 = .ok (.aload_n 0, 1) := by decide +kernel
theorem dX10_look_1 : decode cX10_look 1 = .ok (.iconst 0, 1) := by decide +kernel
theorem dX10_look_2 : decode cX10_look 2 = .ok (.aload_n 0, 1) := by decide +kernel
theorem dX10_look_3 : decode cX10_look 3 = .ok (.getfield 73, 3) := by decide +kernel
theorem dX10_look_6 : decode cX10_look 6 = .ok (.invokevirtual 102, 3) := by decide +kernel
theorem dX10_look_9 : decode cX10_look 9 = .ok (.aload_n 0, 1) := by decide +kernel
theorem dX10_look_10 : decode cX10_look 10 = .ok (.iconst 0, 1) := by decide +kernel
theorem dX10_look_11 : decode cX10_look 11 = .ok (.putfield 119, 3) := by decide +kernel
theorem dX10_look_14 : decode cX10_look 14 = .ok (.iconst 0, 1) := by decide +kernel
theorem dX10_look_15 : decode cX10_look 15 = .ok (.istore_n 3, 1) := by decide +kernel
theorem dX10_look_16 : decode cX10_look 16 = .ok (.iload_n 3, 1) := by decide +kernel
theorem dX10_look_17 : decode cX10_look 17 = .ok (.aload_n 0, 1) := by decide +kernel
theorem dX10_look_18 : decode cX10_look 18 = .ok (.getfield 66, 3) := by decide +kernel
theorem dX10_look_21 : decode cX10_look 21 = .ok (.if_icmp .ge 141, 3) := by decide +kernel
theorem dX10_look_24 : decode cX10_look 24 = .ok (.iload_n 2, 1) := by decide +kernel
theorem dX10_look_25 : decode cX10_look 25 = .ok (.ifCond .eq 11, 3) := by decide +kernel
theorem dX10_look_28 : decode cX10_look 28 = .ok (.aload_n 0, 1) := by decide +kernel
theorem dX10_look_29 : decode cX10_look 29 = .ok (.iload_n 3, 1) := by decide +kernel
theorem dX10_look_30 : decode cX10_look 30 = .ok (.invokevirtual 106, 3) := by decide +kernel
theorem dX10_look_33 : decode cX10_look 33 = .ok (.goto 8, 3) := by decide +kernel
theorem dX10_look_36 : decode cX10_look 36 = .ok (.aload_n 0, 1) := by decide +kernel
theorem dX10_look_37 : decode cX10_look 37 = .ok (.iload_n 3, 1) := by decide +kernel
theorem dX10_look_38 : decode cX10_look 38 = .ok (.invokevirtual 99, 3) := by decide +kernel
theorem dX10_look_41 : decode cX10_look 41 = .ok (.istore 4, 2) := by decide +kernel
theorem dX10_look_43 : decode cX10_look 43 = .ok (.iload 4, 2) := by decide +kernel
theorem dX10_look_45 : decode cX10_look 45 = .ok (.iload_n 1, 1) := by decide +kernel
theorem dX10_look_46 : decode cX10_look 46 = .ok (.if_icmp .le 6, 3) := by decide +kernel
theorem dX10_look_49 : decode cX10_look 49 = .ok (.goto 107, 3) := by decide +kernel
theorem dX10_look_52 : decode cX10_look 52 = .ok (.aload_n 0, 1) := by decide +kernel
theorem dX10_look_53 : decode cX10_look 53 = .ok (.getfield 119, 3) := by decide +kernel
theorem dX10_look_56 : decode cX10_look 56 = .ok (.istore 5, 2) := by decide +kernel
theorem dX10_look_58 : decode cX10_look 58 = .ok (.iload 5, 2) := by decide +kernel
theorem dX10_look_60 : decode cX10_look 60 = .ok (.ifCond .le 69, 3) := by decide +kernel
theorem dX10_look_63 : decode cX10_look 63 = .ok (.aload_n 0, 1) := by decide +kernel
theorem dX10_look_64 : decode cX10_look 64 = .ok (.iload_n 3, 1) := by decide +kernel
theorem dX10_look_65 : decode cX10_look 65 = .ok (.iload 4, 2) := by decide +kernel
theorem dX10_look_67 : decode cX10_look 67 = .ok (.aload_n 0, 1) := by decide +kernel
theorem dX10_look_68 : decode cX10_look 68 = .ok (.getfield 50, 3) := by decide +kernel
theorem dX10_look_71 : decode cX10_look 71 = .ok (.iload 5, 2) := by decide +kernel
theorem dX10_look_73 : decode cX10_look 73 = .ok (.iconst 1, 1) := by decide +kernel
theorem dX10_look_74 : decode cX10_look 74 = .ok (.isub, 1) := by decide +kernel
theorem dX10_look_75 : decode cX10_look 75 = .ok (.iaload, 1) := by decide +kernel
theorem dX10_look_76 : decode cX10_look 76 = .ok (.aload_n 0, 1) := by decide +kernel
theorem dX10_look_77 : decode cX10_look 77 = .ok (.getfield 53, 3) := by decide +kernel
theorem dX10_look_80 : decode cX10_look 80 = .ok (.iload 5, 2) := by decide +kernel
theorem dX10_look_82 : decode cX10_look 82 = .ok (.iconst 1, 1) := by decide +kernel
theorem dX10_look_83 : decode cX10_look 83 = .ok (.isub, 1) := by decide +kernel
theorem dX10_look_84 : decode cX10_look 84 = .ok (.iaload, 1) := by decide +kernel
theorem dX10_look_85 : decode cX10_look 85 = .ok (.invokevirtual 122, 3) := by decide +kernel
theorem dX10_look_88 : decode cX10_look 88 = .ok (.ifCond .eq 41, 3) := by decide +kernel
theorem dX10_look_91 : decode cX10_look 91 = .ok (.aload_n 0, 1) := by decide +kernel
theorem dX10_look_92 : decode cX10_look 92 = .ok (.getfield 50, 3) := by decide +kernel
theorem dX10_look_95 : decode cX10_look 95 = .ok (.iload 5, 2) := by decide +kernel
theorem dX10_look_97 : decode cX10_look 97 = .ok (.aload_n 0, 1) := by decide +kernel
theorem dX10_look_98 : decode cX10_look 98 = .ok (.getfield 50, 3) := by decide +kernel
theorem dX10_look_101 : decode cX10_look 101 = .ok (.iload 5, 2) := by decide +kernel
theorem dX10_look_103 : decode cX10_look 103 = .ok (.iconst 1, 1) := by decide +kernel
theorem dX10_look_104 : decode cX10_look 104 = .ok (.isub, 1) := by decide +kernel
theorem dX10_look_105 : decode cX10_look 105 = .ok (.iaload, 1) := by decide +kernel
theorem dX10_look_106 : decode cX10_look 106 = .ok (.iastore, 1) := by decide +kernel
theorem dX10_look_107 : decode cX10_look 107 = .ok (.aload_n 0, 1) := by decide +kernel
theorem dX10_look_108 : decode cX10_look 108 = .ok (.getfield 53, 3) := by decide +kernel
theorem dX10_look_111 : decode cX10_look 111 = .ok (.iload 5, 2) := by decide +kernel
theorem dX10_look_113 : decode cX10_look 113 = .ok (.aload_n 0, 1) := by decide +kernel
theorem dX10_look_114 : decode cX10_look 114 = .ok (.getfield 53, 3) := by decide +kernel
theorem dX10_look_117 : decode cX10_look 117 = .ok (.iload 5, 2) := by decide +kernel
theorem dX10_look_119 : decode cX10_look 119 = .ok (.iconst 1, 1) := by decide +kernel
theorem dX10_look_120 : decode cX10_look 120 = .ok (.isub, 1) := by decide +kernel
theorem dX10_look_121 : decode cX10_look 121 = .ok (.iaload, 1) := by decide +kernel
theorem dX10_look_122 : decode cX10_look 122 = .ok (.iastore, 1) := by decide +kernel
theorem dX10_look_123 : decode cX10_look 123 = .ok (.iinc 5 (-1), 3) := by decide +kernel
theorem dX10_look_126 : decode cX10_look 126 = .ok (.goto (-68), 3) := by decide +kernel
theorem dX10_look_129 : decode cX10_look 129 = .ok (.aload_n 0, 1) := by decide +kernel
theorem dX10_look_130 : decode cX10_look 130 = .ok (.getfield 50, 3) := by decide +kernel
theorem dX10_look_133 : decode cX10_look 133 = .ok (.iload 5, 2) := by decide +kernel
theorem dX10_look_135 : decode cX10_look 135 = .ok (.iload_n 3, 1) := by decide +kernel
theorem dX10_look_136 : decode cX10_look 136 = .ok (.iastore, 1) := by decide +kernel
theorem dX10_look_137 : decode cX10_look 137 = .ok (.aload_n 0, 1) := by decide +kernel
theorem dX10_look_138 : decode cX10_look 138 = .ok (.getfield 53, 3) := by decide +kernel
theorem dX10_look_141 : decode cX10_look 141 = .ok (.iload 5, 2) := by decide +kernel
theorem dX10_look_143 : decode cX10_look 143 = .ok (.iload 4, 2) := by decide +kernel
theorem dX10_look_145 : decode cX10_look 145 = .ok (.iastore, 1) := by decide +kernel
theorem dX10_look_146 : decode cX10_look 146 = .ok (.aload_n 0, 1) := by decide +kernel
theorem dX10_look_147 : decode cX10_look 147 = .ok (.dup, 1) := by decide +kernel
theorem dX10_look_148 : decode cX10_look 148 = .ok (.getfield 119, 3) := by decide +kernel
theorem dX10_look_151 : decode cX10_look 151 = .ok (.iconst 1, 1) := by decide +kernel
theorem dX10_look_152 : decode cX10_look 152 = .ok (.iadd, 1) := by decide +kernel
theorem dX10_look_153 : decode cX10_look 153 = .ok (.putfield 119, 3) := by decide +kernel
theorem dX10_look_156 : decode cX10_look 156 = .ok (.iinc 3 1, 3) := by decide +kernel
theorem dX10_look_159 : decode cX10_look 159 = .ok (.goto (-143), 3) := by decide +kernel
theorem dX10_look_162 : decode cX10_look 162 = .ok (.return_, 1) := by decide +kernel
theorem dX10_isBefore_0 : decode cX10_isBefore 0 = .ok (.iload_n 2, 1) := by decide +kernel
theorem dX10_isBefore_1 : decode cX10_isBefore 1 = .ok (.iload 4, 2) := by decide +kernel
theorem dX10_isBefore_3 : decode cX10_isBefore 3 = .ok (.if_icmp .eq 15, 3) := by decide +kernel
theorem dX10_isBefore_6 : decode cX10_isBefore 6 = .ok (.iload_n 2, 1) := by decide +kernel
theorem dX10_isBefore_7 : decode cX10_isBefore 7 = .ok (.iload 4, 2) := by decide +kernel
theorem dX10_isBefore_9 : decode cX10_isBefore 9 = .ok (.if_icmp .ge 7, 3) := by decide +kernel
theorem dX10_isBefore_12 : decode cX10_isBefore 12 = .ok (.iconst 1, 1) := by decide +kernel
theorem dX10_isBefore_13 : decode cX10_isBefore 13 = .ok (.goto 4, 3) := by decide +kernel
theorem dX10_isBefore_16 : decode cX10_isBefore 16 = .ok (.iconst 0, 1) := by decide +kernel
theorem dX10_isBefore_17 : decode cX10_isBefore 17 = .ok (.ireturn, 1) := by decide +kernel
theorem dX10_isBefore_18 : decode cX10_isBefore 18 = .ok (.aload_n 0, 1) := by decide +kernel
theorem dX10_isBefore_19 : decode cX10_isBefore 19 = .ok (.getfield 19, 3) := by decide +kernel
theorem dX10_isBefore_22 : decode cX10_isBefore 22 = .ok (.iload_n 1, 1) := by decide +kernel
theorem dX10_isBefore_23 : decode cX10_isBefore 23 = .ok (.iaload, 1) := by decide +kernel
theorem dX10_isBefore_24 : decode cX10_isBefore 24 = .ok (.aload_n 0, 1) := by decide +kernel
theorem dX10_isBefore_25 : decode cX10_isBefore 25 = .ok (.getfield 19, 3) := by decide +kernel
theorem dX10_isBefore_28 : decode cX10_isBefore 28 = .ok (.iload_n 3, 1) := by decide +kernel
theorem dX10_isBefore_29 : decode cX10_isBefore 29 = .ok (.iaload, 1) := by decide +kernel
theorem dX10_isBefore_30 : decode cX10_isBefore 30 = .ok (.if_icmp .eq 26, 3) := by decide +kernel
theorem dX10_isBefore_33 : decode cX10_isBefore 33 = .ok (.aload_n 0, 1) := by decide +kernel
theorem dX10_isBefore_34 : decode cX10_isBefore 34 = .ok (.getfield 19, 3) := by decide +kernel
theorem dX10_isBefore_37 : decode cX10_isBefore 37 = .ok (.iload_n 1, 1) := by decide +kernel
theorem dX10_isBefore_38 : decode cX10_isBefore 38 = .ok (.iaload, 1) := by decide +kernel
theorem dX10_isBefore_39 : decode cX10_isBefore 39 = .ok (.aload_n 0, 1) := by decide +kernel
theorem dX10_isBefore_40 : decode cX10_isBefore 40 = .ok (.getfield 19, 3) := by decide +kernel
theorem dX10_isBefore_43 : decode cX10_isBefore 43 = .ok (.iload_n 3, 1) := by decide +kernel
theorem dX10_isBefore_44 : decode cX10_isBefore 44 = .ok (.iaload, 1) := by decide +kernel
theorem dX10_isBefore_45 : decode cX10_isBefore 45 = .ok (.if_icmp .le 7, 3) := by decide +kernel
theorem dX10_isBefore_48 : decode cX10_isBefore 48 = .ok (.iconst 1, 1) := by decide +kernel
theorem dX10_isBefore_49 : decode cX10_isBefore 49 = .ok (.goto 13, 3) := by decide +kernel
theorem dX10_isBefore_52 : decode cX10_isBefore 52 = .ok (.iconst 0, 1) := by decide +kernel
theorem dX10_isBefore_53 : decode cX10_isBefore 53 = .ok (.goto 9, 3) := by decide +kernel
theorem dX10_isBefore_56 : decode cX10_isBefore 56 = .ok (.aload_n 0, 1) := by decide +kernel
theorem dX10_isBefore_57 : decode cX10_isBefore 57 = .ok (.iload_n 1, 1) := by decide +kernel
theorem dX10_isBefore_58 : decode cX10_isBefore 58 = .ok (.iload_n 3, 1) := by decide +kernel
theorem dX10_isBefore_59 : decode cX10_isBefore 59 = .ok (.invokevirtual 80, 3) := by decide +kernel
theorem dX10_isBefore_62 : decode cX10_isBefore 62 = .ok (.ireturn, 1) := by decide +kernel
theorem dX10_suggest_0 : decode cX10_suggest 0 = .ok (.aload_n 0, 1) := by decide +kernel
theorem dX10_suggest_1 : decode cX10_suggest 1 = .ok (.iconst 0, 1) := by decide +kernel
theorem dX10_suggest_2 : decode cX10_suggest 2 = .ok (.putfield 62, 3) := by decide +kernel
theorem dX10_suggest_5 : decode cX10_suggest 5 = .ok (.iload_n 1, 1) := by decide +kernel
theorem dX10_suggest_6 : decode cX10_suggest 6 = .ok (.iconst 0, 1) := by decide +kernel
theorem dX10_suggest_7 : decode cX10_suggest 7 = .ok (.bipush 50, 2) := by decide +kernel
theorem dX10_suggest_9 : decode cX10_suggest 9 = .ok (.invokestatic 69, 3) := by decide +kernel
theorem dX10_suggest_12 : decode cX10_suggest 12 = .ok (.ifCond .ne 6, 3) := by decide +kernel
theorem dX10_suggest_15 : decode cX10_suggest 15 = .ok (.bipush (-2), 2) := by decide +kernel
theorem dX10_suggest_17 : decode cX10_suggest 17 = .ok (.ireturn, 1) := by decide +kernel
theorem dX10_suggest_18 : decode cX10_suggest 18 = .ok (.aload_n 0, 1) := by decide +kernel
theorem dX10_suggest_19 : decode cX10_suggest 19 = .ok (.iload_n 1, 1) := by decide +kernel
theorem dX10_suggest_20 : decode cX10_suggest 20 = .ok (.iconst 0, 1) := by decide +kernel
theorem dX10_suggest_21 : decode cX10_suggest 21 = .ok (.invokevirtual 126, 3) := by decide +kernel
theorem dX10_suggest_24 : decode cX10_suggest 24 = .ok (.aload_n 0, 1) := by decide +kernel
theorem dX10_suggest_25 : decode cX10_suggest 25 = .ok (.getfield 119, 3) := by decide +kernel
theorem dX10_suggest_28 : decode cX10_suggest 28 = .ok (.ireturn, 1) := by decide +kernel
theorem dX10_suggestion_0 : decode cX10_suggestion 0 = .ok (.aload_n 0, 1) := by decide +kernel
theorem dX10_suggestion_1 : decode cX10_suggestion 1 = .ok (.iconst 0, 1) := by decide +kernel
theorem dX10_suggestion_2 : decode cX10_suggestion 2 = .ok (.putfield 62, 3) := by decide +kernel
theorem dX10_suggestion_5 : decode cX10_suggestion 5 = .ok (.iload_n 1, 1) := by decide +kernel
theorem dX10_suggestion_6 : decode cX10_suggestion 6 = .ok (.iconst 0, 1) := by decide +kernel
theorem dX10_suggestion_7 : decode cX10_suggestion 7 = .ok (.bipush 50, 2) := by decide +kernel
theorem dX10_suggestion_9 : decode cX10_suggestion 9 = .ok (.invokestatic 69, 3) := by decide +kernel
theorem dX10_suggestion_12 : decode cX10_suggestion 12 = .ok (.ifCond .ne 6, 3) := by decide +kernel
theorem dX10_suggestion_15 : decode cX10_suggestion 15 = .ok (.bipush (-2), 2) := by decide +kernel
theorem dX10_suggestion_17 : decode cX10_suggestion 17 = .ok (.ireturn, 1) := by decide +kernel
theorem dX10_suggestion_18 : decode cX10_suggestion 18 = .ok (.aload_n 0, 1) := by decide +kernel
theorem dX10_suggestion_19 : decode cX10_suggestion 19 = .ok (.iload_n 1, 1) := by decide +kernel
theorem dX10_suggestion_20 : decode cX10_suggestion 20 = .ok (.iconst 0, 1) := by decide +kernel
theorem dX10_suggestion_21 : decode cX10_suggestion 21 = .ok (.invokevirtual 126, 3) := by decide +kernel
theorem dX10_suggestion_24 : decode cX10_suggestion 24 = .ok (.iload_n 2, 1) := by decide +kernel
theorem dX10_suggestion_25 : decode cX10_suggestion 25 = .ok (.iconst 0, 1) := by decide +kernel
theorem dX10_suggestion_26 : decode cX10_suggestion 26 = .ok (.aload_n 0, 1) := by decide +kernel
theorem dX10_suggestion_27 : decode cX10_suggestion 27 = .ok (.getfield 119, 3) := by decide +kernel
theorem dX10_suggestion_30 : decode cX10_suggestion 30 = .ok (.iconst 1, 1) := by decide +kernel
theorem dX10_suggestion_31 : decode cX10_suggestion 31 = .ok (.isub, 1) := by decide +kernel
theorem dX10_suggestion_32 : decode cX10_suggestion 32 = .ok (.invokestatic 69, 3) := by decide +kernel
theorem dX10_suggestion_35 : decode cX10_suggestion 35 = .ok (.ifCond .eq 12, 3) := by decide +kernel
theorem dX10_suggestion_38 : decode cX10_suggestion 38 = .ok (.aload_n 0, 1) := by decide +kernel
theorem dX10_suggestion_39 : decode cX10_suggestion 39 = .ok (.getfield 50, 3) := by decide +kernel
theorem dX10_suggestion_42 : decode cX10_suggestion 42 = .ok (.iload_n 2, 1) := by decide +kernel
theorem dX10_suggestion_43 : decode cX10_suggestion 43 = .ok (.iaload, 1) := by decide +kernel
theorem dX10_suggestion_44 : decode cX10_suggestion 44 = .ok (.goto 4, 3) := by decide +kernel
theorem dX10_suggestion_47 : decode cX10_suggestion 47 = .ok (.iconst (-1), 1) := by decide +kernel
theorem dX10_suggestion_48 : decode cX10_suggestion 48 = .ok (.ireturn, 1) := by decide +kernel
theorem dX10_endings_0 : decode cX10_endings 0 = .ok (.aload_n 0, 1) := by decide +kernel
theorem dX10_endings_1 : decode cX10_endings 1 = .ok (.iconst 0, 1) := by decide +kernel
theorem dX10_endings_2 : decode cX10_endings 2 = .ok (.putfield 62, 3) := by decide +kernel
theorem dX10_endings_5 : decode cX10_endings 5 = .ok (.iload_n 1, 1) := by decide +kernel
theorem dX10_endings_6 : decode cX10_endings 6 = .ok (.iconst 0, 1) := by decide +kernel
theorem dX10_endings_7 : decode cX10_endings 7 = .ok (.bipush 50, 2) := by decide +kernel
theorem dX10_endings_9 : decode cX10_endings 9 = .ok (.invokestatic 69, 3) := by decide +kernel
theorem dX10_endings_12 : decode cX10_endings 12 = .ok (.ifCond .ne 6, 3) := by decide +kernel
theorem dX10_endings_15 : decode cX10_endings 15 = .ok (.bipush (-2), 2) := by decide +kernel
theorem dX10_endings_17 : decode cX10_endings 17 = .ok (.ireturn, 1) := by decide +kernel
theorem dX10_endings_18 : decode cX10_endings 18 = .ok (.aload_n 0, 1) := by decide +kernel
theorem dX10_endings_19 : decode cX10_endings 19 = .ok (.iload_n 1, 1) := by decide +kernel
theorem dX10_endings_20 : decode cX10_endings 20 = .ok (.iconst 1, 1) := by decide +kernel
theorem dX10_endings_21 : decode cX10_endings 21 = .ok (.invokevirtual 126, 3) := by decide +kernel
theorem dX10_endings_24 : decode cX10_endings 24 = .ok (.aload_n 0, 1) := by decide +kernel
theorem dX10_endings_25 : decode cX10_endings 25 = .ok (.getfield 119, 3) := by decide +kernel
theorem dX10_endings_28 : decode cX10_endings 28 = .ok (.ireturn, 1) := by decide +kernel
theorem dX10_ending_0 : decode cX10_ending 0 = .ok (.aload_n 0, 1) := by decide +kernel
theorem dX10_ending_1 : decode cX10_ending 1 = .ok (.iconst 0, 1) := by decide +kernel
theorem dX10_ending_2 : decode cX10_ending 2 = .ok (.putfield 62, 3) := by decide +kernel
theorem dX10_ending_5 : decode cX10_ending 5 = .ok (.iload_n 1, 1) := by decide +kernel
theorem dX10_ending_6 : decode cX10_ending 6 = .ok (.iconst 0, 1) := by decide +kernel
theorem dX10_ending_7 : decode cX10_ending 7 = .ok (.bipush 50, 2) := by decide +kernel
theorem dX10_ending_9 : decode cX10_ending 9 = .ok (.invokestatic 69, 3) := by decide +kernel
theorem dX10_ending_12 : decode cX10_ending 12 = .ok (.ifCond .ne 6, 3) := by decide +kernel
theorem dX10_ending_15 : decode cX10_ending 15 = .ok (.bipush (-2), 2) := by decide +kernel
theorem dX10_ending_17 : decode cX10_ending 17 = .ok (.ireturn, 1) := by decide +kernel
theorem dX10_ending_18 : decode cX10_ending 18 = .ok (.aload_n 0, 1) := by decide +kernel
theorem dX10_ending_19 : decode cX10_ending 19 = .ok (.iload_n 1, 1) := by decide +kernel
theorem dX10_ending_20 : decode cX10_ending 20 = .ok (.iconst 1, 1) := by decide +kernel
theorem dX10_ending_21 : decode cX10_ending 21 = .ok (.invokevirtual 126, 3) := by decide +kernel
theorem dX10_ending_24 : decode cX10_ending 24 = .ok (.iload_n 2, 1) := by decide +kernel
theorem dX10_ending_25 : decode cX10_ending 25 = .ok (.iconst 0, 1) := by decide +kernel
theorem dX10_ending_26 : decode cX10_ending 26 = .ok (.aload_n 0, 1) := by decide +kernel
theorem dX10_ending_27 : decode cX10_ending 27 = .ok (.getfield 119, 3) := by decide +kernel
theorem dX10_ending_30 : decode cX10_ending 30 = .ok (.iconst 1, 1) := by decide +kernel
theorem dX10_ending_31 : decode cX10_ending 31 = .ok (.isub, 1) := by decide +kernel
theorem dX10_ending_32 : decode cX10_ending 32 = .ok (.invokestatic 69, 3) := by decide +kernel
theorem dX10_ending_35 : decode cX10_ending 35 = .ok (.ifCond .eq 12, 3) := by decide +kernel
theorem dX10_ending_38 : decode cX10_ending 38 = .ok (.aload_n 0, 1) := by decide +kernel
theorem dX10_ending_39 : decode cX10_ending 39 = .ok (.getfield 50, 3) := by decide +kernel
theorem dX10_ending_42 : decode cX10_ending 42 = .ok (.iload_n 2, 1) := by decide +kernel
theorem dX10_ending_43 : decode cX10_ending 43 = .ok (.iaload, 1) := by decide +kernel
theorem dX10_ending_44 : decode cX10_ending 44 = .ok (.goto 4, 3) := by decide +kernel
theorem dX10_ending_47 : decode cX10_ending 47 = .ok (.iconst (-1), 1) := by decide +kernel
theorem dX10_ending_48 : decode cX10_ending 48 = .ok (.ireturn, 1) := by decide +kernel
theorem dX10_side_0 : decode cX10_side 0 = .ok (.aload_n 0, 1) := by decide +kernel
theorem dX10_side_1 : decode cX10_side 1 = .ok (.iload_n 1, 1) := by decide +kernel
theorem dX10_side_2 : decode cX10_side 2 = .ok (.iload_n 2, 1) := by decide +kernel
theorem dX10_side_3 : decode cX10_side 3 = .ok (.invokevirtual 102, 3) := by decide +kernel
theorem dX10_side_6 : decode cX10_side 6 = .ok (.iconst (-1), 1) := by decide +kernel
theorem dX10_side_7 : decode cX10_side 7 = .ok (.istore_n 3, 1) := by decide +kernel
theorem dX10_side_8 : decode cX10_side 8 = .ok (.iconst 0, 1) := by decide +kernel
theorem dX10_side_9 : decode cX10_side 9 = .ok (.istore 4, 2) := by decide +kernel
theorem dX10_side_11 : decode cX10_side 11 = .ok (.iload 4, 2) := by decide +kernel
theorem dX10_side_13 : decode cX10_side 13 = .ok (.aload_n 0, 1) := by decide +kernel
theorem dX10_side_14 : decode cX10_side 14 = .ok (.getfield 66, 3) := by decide +kernel
theorem dX10_side_17 : decode cX10_side 17 = .ok (.if_icmp .ge 55, 3) := by decide +kernel
theorem dX10_side_20 : decode cX10_side 20 = .ok (.aload_n 0, 1) := by decide +kernel
theorem dX10_side_21 : decode cX10_side 21 = .ok (.iload 4, 2) := by decide +kernel
theorem dX10_side_23 : decode cX10_side 23 = .ok (.invokevirtual 99, 3) := by decide +kernel
theorem dX10_side_26 : decode cX10_side 26 = .ok (.istore 5, 2) := by decide +kernel
theorem dX10_side_28 : decode cX10_side 28 = .ok (.iload_n 3, 1) := by decide +kernel
theorem dX10_side_29 : decode cX10_side 29 = .ok (.ifCond .lt 28, 3) := by decide +kernel
theorem dX10_side_32 : decode cX10_side 32 = .ok (.iload 5, 2) := by decide +kernel
theorem dX10_side_34 : decode cX10_side 34 = .ok (.iload_n 3, 1) := by decide +kernel
theorem dX10_side_35 : decode cX10_side 35 = .ok (.if_icmp .lt 22, 3) := by decide +kernel
theorem dX10_side_38 : decode cX10_side 38 = .ok (.iload 5, 2) := by decide +kernel
theorem dX10_side_40 : decode cX10_side 40 = .ok (.iload_n 3, 1) := by decide +kernel
theorem dX10_side_41 : decode cX10_side 41 = .ok (.if_icmp .ne 25, 3) := by decide +kernel
theorem dX10_side_44 : decode cX10_side 44 = .ok (.aload_n 0, 1) := by decide +kernel
theorem dX10_side_45 : decode cX10_side 45 = .ok (.iload 4, 2) := by decide +kernel
theorem dX10_side_47 : decode cX10_side 47 = .ok (.aload_n 0, 1) := by decide +kernel
theorem dX10_side_48 : decode cX10_side 48 = .ok (.getfield 130, 3) := by decide +kernel
theorem dX10_side_51 : decode cX10_side 51 = .ok (.invokevirtual 80, 3) := by decide +kernel
theorem dX10_side_54 : decode cX10_side 54 = .ok (.ifCond .eq 12, 3) := by decide +kernel
theorem dX10_side_57 : decode cX10_side 57 = .ok (.iload 5, 2) := by decide +kernel
theorem dX10_side_59 : decode cX10_side 59 = .ok (.istore_n 3, 1) := by decide +kernel
theorem dX10_side_60 : decode cX10_side 60 = .ok (.aload_n 0, 1) := by decide +kernel
theorem dX10_side_61 : decode cX10_side 61 = .ok (.iload 4, 2) := by decide +kernel
theorem dX10_side_63 : decode cX10_side 63 = .ok (.putfield 130, 3) := by decide +kernel
theorem dX10_side_66 : decode cX10_side 66 = .ok (.iinc 4 1, 3) := by decide +kernel
theorem dX10_side_69 : decode cX10_side 69 = .ok (.goto (-58), 3) := by decide +kernel
theorem dX10_side_72 : decode cX10_side 72 = .ok (.iload_n 3, 1) := by decide +kernel
theorem dX10_side_73 : decode cX10_side 73 = .ok (.ireturn, 1) := by decide +kernel
theorem dX10_parting_0 : decode cX10_parting 0 = .ok (.aload_n 0, 1) := by decide +kernel
theorem dX10_parting_1 : decode cX10_parting 1 = .ok (.iconst 0, 1) := by decide +kernel
theorem dX10_parting_2 : decode cX10_parting 2 = .ok (.putfield 62, 3) := by decide +kernel
theorem dX10_parting_5 : decode cX10_parting 5 = .ok (.iload_n 1, 1) := by decide +kernel
theorem dX10_parting_6 : decode cX10_parting 6 = .ok (.iconst 0, 1) := by decide +kernel
theorem dX10_parting_7 : decode cX10_parting 7 = .ok (.iconst 3, 1) := by decide +kernel
theorem dX10_parting_8 : decode cX10_parting 8 = .ok (.invokestatic 69, 3) := by decide +kernel
theorem dX10_parting_11 : decode cX10_parting 11 = .ok (.ifCond .ne 6, 3) := by decide +kernel
theorem dX10_parting_14 : decode cX10_parting 14 = .ok (.bipush (-2), 2) := by decide +kernel
theorem dX10_parting_16 : decode cX10_parting 16 = .ok (.ireturn, 1) := by decide +kernel
theorem dX10_parting_17 : decode cX10_parting 17 = .ok (.aload_n 0, 1) := by decide +kernel
theorem dX10_parting_18 : decode cX10_parting 18 = .ok (.getfield 66, 3) := by decide +kernel
theorem dX10_parting_21 : decode cX10_parting 21 = .ok (.ifCond .eq 11, 3) := by decide +kernel
theorem dX10_parting_24 : decode cX10_parting 24 = .ok (.aload_n 0, 1) := by decide +kernel
theorem dX10_parting_25 : decode cX10_parting 25 = .ok (.getfield 73, 3) := by decide +kernel
theorem dX10_parting_28 : decode cX10_parting 28 = .ok (.iconst 2, 1) := by decide +kernel
theorem dX10_parting_29 : decode cX10_parting 29 = .ok (.if_icmp .ge 6, 3) := by decide +kernel
theorem dX10_parting_32 : decode cX10_parting 32 = .ok (.bipush (-3), 2) := by decide +kernel
theorem dX10_parting_34 : decode cX10_parting 34 = .ok (.ireturn, 1) := by decide +kernel
theorem dX10_parting_35 : decode cX10_parting 35 = .ok (.iconst (-1), 1) := by decide +kernel
theorem dX10_parting_36 : decode cX10_parting 36 = .ok (.istore_n 2, 1) := by decide +kernel
theorem dX10_parting_37 : decode cX10_parting 37 = .ok (.iconst 0, 1) := by decide +kernel
theorem dX10_parting_38 : decode cX10_parting 38 = .ok (.istore_n 3, 1) := by decide +kernel
theorem dX10_parting_39 : decode cX10_parting 39 = .ok (.iconst 0, 1) := by decide +kernel
theorem dX10_parting_40 : decode cX10_parting 40 = .ok (.istore 4, 2) := by decide +kernel
theorem dX10_parting_42 : decode cX10_parting 42 = .ok (.iconst 0, 1) := by decide +kernel
theorem dX10_parting_43 : decode cX10_parting 43 = .ok (.istore 5, 2) := by decide +kernel
theorem dX10_parting_45 : decode cX10_parting 45 = .ok (.iconst 1, 1) := by decide +kernel
theorem dX10_parting_46 : decode cX10_parting 46 = .ok (.istore 6, 2) := by decide +kernel
theorem dX10_parting_48 : decode cX10_parting 48 = .ok (.iload 6, 2) := by decide +kernel
theorem dX10_parting_50 : decode cX10_parting 50 = .ok (.aload_n 0, 1) := by decide +kernel
theorem dX10_parting_51 : decode cX10_parting 51 = .ok (.getfield 73, 3) := by decide +kernel
theorem dX10_parting_54 : decode cX10_parting 54 = .ok (.if_icmp .ge 82, 3) := by decide +kernel
theorem dX10_parting_57 : decode cX10_parting 57 = .ok (.aload_n 0, 1) := by decide +kernel
theorem dX10_parting_58 : decode cX10_parting 58 = .ok (.iconst 0, 1) := by decide +kernel
theorem dX10_parting_59 : decode cX10_parting 59 = .ok (.iload 6, 2) := by decide +kernel
theorem dX10_parting_61 : decode cX10_parting 61 = .ok (.invokevirtual 133, 3) := by decide +kernel
theorem dX10_parting_64 : decode cX10_parting 64 = .ok (.istore 7, 2) := by decide +kernel
theorem dX10_parting_66 : decode cX10_parting 66 = .ok (.aload_n 0, 1) := by decide +kernel
theorem dX10_parting_67 : decode cX10_parting 67 = .ok (.getfield 130, 3) := by decide +kernel
theorem dX10_parting_70 : decode cX10_parting 70 = .ok (.istore 8, 2) := by decide +kernel
theorem dX10_parting_72 : decode cX10_parting 72 = .ok (.aload_n 0, 1) := by decide +kernel
theorem dX10_parting_73 : decode cX10_parting 73 = .ok (.iload 6, 2) := by decide +kernel
theorem dX10_parting_75 : decode cX10_parting 75 = .ok (.aload_n 0, 1) := by decide +kernel
theorem dX10_parting_76 : decode cX10_parting 76 = .ok (.getfield 73, 3) := by decide +kernel
theorem dX10_parting_79 : decode cX10_parting 79 = .ok (.invokevirtual 133, 3) := by decide +kernel
theorem dX10_parting_82 : decode cX10_parting 82 = .ok (.istore 9, 2) := by decide +kernel
theorem dX10_parting_84 : decode cX10_parting 84 = .ok (.iload_n 2, 1) := by decide +kernel
theorem dX10_parting_85 : decode cX10_parting 85 = .ok (.ifCond .lt 19, 3) := by decide +kernel
theorem dX10_parting_88 : decode cX10_parting 88 = .ok (.iload 7, 2) := by decide +kernel
theorem dX10_parting_90 : decode cX10_parting 90 = .ok (.iload 9, 2) := by decide +kernel
theorem dX10_parting_92 : decode cX10_parting 92 = .ok (.iadd, 1) := by decide +kernel
theorem dX10_parting_93 : decode cX10_parting 93 = .ok (.aload_n 0, 1) := by decide +kernel
theorem dX10_parting_94 : decode cX10_parting 94 = .ok (.getfield 22, 3) := by decide +kernel
theorem dX10_parting_97 : decode cX10_parting 97 = .ok (.iconst 4, 1) := by decide +kernel
theorem dX10_parting_98 : decode cX10_parting 98 = .ok (.iaload, 1) := by decide +kernel
theorem dX10_parting_99 : decode cX10_parting 99 = .ok (.iadd, 1) := by decide +kernel
theorem dX10_parting_100 : decode cX10_parting 100 = .ok (.iload_n 2, 1) := by decide +kernel
theorem dX10_parting_101 : decode cX10_parting 101 = .ok (.if_icmp .ge 29, 3) := by decide +kernel
theorem dX10_parting_104 : decode cX10_parting 104 = .ok (.iload 7, 2) := by decide +kernel
theorem dX10_parting_106 : decode cX10_parting 106 = .ok (.iload 9, 2) := by decide +kernel
theorem dX10_parting_108 : decode cX10_parting 108 = .ok (.iadd, 1) := by decide +kernel
theorem dX10_parting_109 : decode cX10_parting 109 = .ok (.aload_n 0, 1) := by decide +kernel
theorem dX10_parting_110 : decode cX10_parting 110 = .ok (.getfield 22, 3) := by decide +kernel
theorem dX10_parting_113 : decode cX10_parting 113 = .ok (.iconst 4, 1) := by decide +kernel
theorem dX10_parting_114 : decode cX10_parting 114 = .ok (.iaload, 1) := by decide +kernel
theorem dX10_parting_115 : decode cX10_parting 115 = .ok (.iadd, 1) := by decide +kernel
theorem dX10_parting_116 : decode cX10_parting 116 = .ok (.istore_n 2, 1) := by decide +kernel
theorem dX10_parting_117 : decode cX10_parting 117 = .ok (.iload 6, 2) := by decide +kernel
theorem dX10_parting_119 : decode cX10_parting 119 = .ok (.istore_n 3, 1) := by decide +kernel
theorem dX10_parting_120 : decode cX10_parting 120 = .ok (.iload 8, 2) := by decide +kernel
theorem dX10_parting_122 : decode cX10_parting 122 = .ok (.istore 4, 2) := by decide +kernel
theorem dX10_parting_124 : decode cX10_parting 124 = .ok (.aload_n 0, 1) := by decide +kernel
theorem dX10_parting_125 : decode cX10_parting 125 = .ok (.getfield 130, 3) := by decide +kernel
theorem dX10_parting_128 : decode cX10_parting 128 = .ok (.istore 5, 2) := by decide +kernel
theorem dX10_parting_130 : decode cX10_parting 130 = .ok (.iinc 6 1, 3) := by decide +kernel
theorem dX10_parting_133 : decode cX10_parting 133 = .ok (.goto (-85), 3) := by decide +kernel
theorem dX10_parting_136 : decode cX10_parting 136 = .ok (.iload_n 1, 1) := by decide +kernel
theorem dX10_parting_137 : decode cX10_parting 137 = .ok (.ifCond .ne 7, 3) := by decide +kernel
theorem dX10_parting_140 : decode cX10_parting 140 = .ok (.iload_n 2, 1) := by decide +kernel
theorem dX10_parting_141 : decode cX10_parting 141 = .ok (.goto 24, 3) := by decide +kernel
theorem dX10_parting_144 : decode cX10_parting 144 = .ok (.iload_n 1, 1) := by decide +kernel
theorem dX10_parting_145 : decode cX10_parting 145 = .ok (.iconst 1, 1) := by decide +kernel
theorem dX10_parting_146 : decode cX10_parting 146 = .ok (.if_icmp .ne 7, 3) := by decide +kernel
theorem dX10_parting_149 : decode cX10_parting 149 = .ok (.iload_n 3, 1) := by decide +kernel
theorem dX10_parting_150 : decode cX10_parting 150 = .ok (.goto 15, 3) := by decide +kernel
theorem dX10_parting_153 : decode cX10_parting 153 = .ok (.iload_n 1, 1) := by decide +kernel
theorem dX10_parting_154 : decode cX10_parting 154 = .ok (.iconst 2, 1) := by decide +kernel
theorem dX10_parting_155 : decode cX10_parting 155 = .ok (.if_icmp .ne 8, 3) := by decide +kernel
theorem dX10_parting_158 : decode cX10_parting 158 = .ok (.iload 4, 2) := by decide +kernel
theorem dX10_parting_160 : decode cX10_parting 160 = .ok (.goto 5, 3) := by decide +kernel
theorem dX10_parting_163 : decode cX10_parting 163 = .ok (.iload 5, 2) := by decide +kernel
theorem dX10_parting_165 : decode cX10_parting 165 = .ok (.ireturn, 1) := by decide +kernel
theorem dX10_token_0 : decode cX10_token 0 = .ok (.aload_n 0, 1) := by decide +kernel
theorem dX10_token_1 : decode cX10_token 1 = .ok (.iconst 0, 1) := by decide +kernel
theorem dX10_token_2 : decode cX10_token 2 = .ok (.putfield 62, 3) := by decide +kernel
theorem dX10_token_5 : decode cX10_token 5 = .ok (.aload_n 0, 1) := by decide +kernel
theorem dX10_token_6 : decode cX10_token 6 = .ok (.getfield 73, 3) := by decide +kernel
theorem dX10_token_9 : decode cX10_token 9 = .ok (.ifCond .ne 6, 3) := by decide +kernel
theorem dX10_token_12 : decode cX10_token 12 = .ok (.bipush (-2), 2) := by decide +kernel
theorem dX10_token_14 : decode cX10_token 14 = .ok (.ireturn, 1) := by decide +kernel
theorem dX10_token_15 : decode cX10_token 15 = .ok (.aload_n 0, 1) := by decide +kernel
theorem dX10_token_16 : decode cX10_token 16 = .ok (.getfield 136, 3) := by decide +kernel
theorem dX10_token_19 : decode cX10_token 19 = .ok (.bipush 6, 2) := by decide +kernel
theorem dX10_token_21 : decode cX10_token 21 = .ok (.if_icmp .ne 6, 3) := by decide +kernel
theorem dX10_token_24 : decode cX10_token 24 = .ok (.bipush (-4), 2) := by decide +kernel
theorem dX10_token_26 : decode cX10_token 26 = .ok (.ireturn, 1) := by decide +kernel
theorem dX10_token_27 : decode cX10_token 27 = .ok (.aload_n 0, 1) := by decide +kernel
theorem dX10_token_28 : decode cX10_token 28 = .ok (.getfield 28, 3) := by decide +kernel
theorem dX10_token_31 : decode cX10_token 31 = .ok (.aload_n 0, 1) := by decide +kernel
theorem dX10_token_32 : decode cX10_token 32 = .ok (.getfield 136, 3) := by decide +kernel
theorem dX10_token_35 : decode cX10_token 35 = .ok (.aload_n 0, 1) := by decide +kernel
theorem dX10_token_36 : decode cX10_token 36 = .ok (.getfield 73, 3) := by decide +kernel
theorem dX10_token_39 : decode cX10_token 39 = .ok (.iastore, 1) := by decide +kernel
theorem dX10_token_40 : decode cX10_token 40 = .ok (.iconst 0, 1) := by decide +kernel
theorem dX10_token_41 : decode cX10_token 41 = .ok (.istore_n 1, 1) := by decide +kernel
theorem dX10_token_42 : decode cX10_token 42 = .ok (.iload_n 1, 1) := by decide +kernel
theorem dX10_token_43 : decode cX10_token 43 = .ok (.aload_n 0, 1) := by decide +kernel
theorem dX10_token_44 : decode cX10_token 44 = .ok (.getfield 73, 3) := by decide +kernel
theorem dX10_token_47 : decode cX10_token 47 = .ok (.if_icmp .ge 29, 3) := by decide +kernel
theorem dX10_token_50 : decode cX10_token 50 = .ok (.aload_n 0, 1) := by decide +kernel
theorem dX10_token_51 : decode cX10_token 51 = .ok (.getfield 31, 3) := by decide +kernel
theorem dX10_token_54 : decode cX10_token 54 = .ok (.bipush 12, 2) := by decide +kernel
theorem dX10_token_56 : decode cX10_token 56 = .ok (.aload_n 0, 1) := by decide +kernel
theorem dX10_token_57 : decode cX10_token 57 = .ok (.getfield 136, 3) := by decide +kernel
theorem dX10_token_60 : decode cX10_token 60 = .ok (.imul, 1) := by decide +kernel
theorem dX10_token_61 : decode cX10_token 61 = .ok (.iload_n 1, 1) := by decide +kernel
theorem dX10_token_62 : decode cX10_token 62 = .ok (.iadd, 1) := by decide +kernel
theorem dX10_token_63 : decode cX10_token 63 = .ok (.aload_n 0, 1) := by decide +kernel
theorem dX10_token_64 : decode cX10_token 64 = .ok (.getfield 7, 3) := by decide +kernel
theorem dX10_token_67 : decode cX10_token 67 = .ok (.iload_n 1, 1) := by decide +kernel
theorem dX10_token_68 : decode cX10_token 68 = .ok (.iaload, 1) := by decide +kernel
theorem dX10_token_69 : decode cX10_token 69 = .ok (.iastore, 1) := by decide +kernel
theorem dX10_token_70 : decode cX10_token 70 = .ok (.iinc 1 1, 3) := by decide +kernel
theorem dX10_token_73 : decode cX10_token 73 = .ok (.goto (-31), 3) := by decide +kernel
theorem dX10_token_76 : decode cX10_token 76 = .ok (.aload_n 0, 1) := by decide +kernel
theorem dX10_token_77 : decode cX10_token 77 = .ok (.dup, 1) := by decide +kernel
theorem dX10_token_78 : decode cX10_token 78 = .ok (.getfield 136, 3) := by decide +kernel
theorem dX10_token_81 : decode cX10_token 81 = .ok (.iconst 1, 1) := by decide +kernel
theorem dX10_token_82 : decode cX10_token 82 = .ok (.iadd, 1) := by decide +kernel
theorem dX10_token_83 : decode cX10_token 83 = .ok (.putfield 136, 3) := by decide +kernel
theorem dX10_token_86 : decode cX10_token 86 = .ok (.aload_n 0, 1) := by decide +kernel
theorem dX10_token_87 : decode cX10_token 87 = .ok (.iconst 0, 1) := by decide +kernel
theorem dX10_token_88 : decode cX10_token 88 = .ok (.putfield 73, 3) := by decide +kernel
theorem dX10_token_91 : decode cX10_token 91 = .ok (.aload_n 0, 1) := by decide +kernel
theorem dX10_token_92 : decode cX10_token 92 = .ok (.getfield 136, 3) := by decide +kernel
theorem dX10_token_95 : decode cX10_token 95 = .ok (.ireturn, 1) := by decide +kernel
theorem dX10_line_0 : decode cX10_line 0 = .ok (.aload_n 0, 1) := by decide +kernel
theorem dX10_line_1 : decode cX10_line 1 = .ok (.iconst 0, 1) := by decide +kernel
theorem dX10_line_2 : decode cX10_line 2 = .ok (.putfield 62, 3) := by decide +kernel
theorem dX10_line_5 : decode cX10_line 5 = .ok (.aload_n 0, 1) := by decide +kernel
theorem dX10_line_6 : decode cX10_line 6 = .ok (.getfield 136, 3) := by decide +kernel
theorem dX10_line_9 : decode cX10_line 9 = .ok (.istore_n 1, 1) := by decide +kernel
theorem dX10_line_10 : decode cX10_line 10 = .ok (.aload_n 0, 1) := by decide +kernel
theorem dX10_line_11 : decode cX10_line 11 = .ok (.iconst 0, 1) := by decide +kernel
theorem dX10_line_12 : decode cX10_line 12 = .ok (.putfield 136, 3) := by decide +kernel
theorem dX10_line_15 : decode cX10_line 15 = .ok (.iload_n 1, 1) := by decide +kernel
theorem dX10_line_16 : decode cX10_line 16 = .ok (.ireturn, 1) := by decide +kernel
theorem dX10_pair_0 : decode cX10_pair 0 = .ok (.aload_n 0, 1) := by decide +kernel
theorem dX10_pair_1 : decode cX10_pair 1 = .ok (.iconst 0, 1) := by decide +kernel
theorem dX10_pair_2 : decode cX10_pair 2 = .ok (.putfield 62, 3) := by decide +kernel
theorem dX10_pair_5 : decode cX10_pair 5 = .ok (.aload_n 0, 1) := by decide +kernel
theorem dX10_pair_6 : decode cX10_pair 6 = .ok (.iload_n 1, 1) := by decide +kernel
theorem dX10_pair_7 : decode cX10_pair 7 = .ok (.invokevirtual 76, 3) := by decide +kernel
theorem dX10_pair_10 : decode cX10_pair 10 = .ok (.ifCond .eq 11, 3) := by decide +kernel
theorem dX10_pair_13 : decode cX10_pair 13 = .ok (.aload_n 0, 1) := by decide +kernel
theorem dX10_pair_14 : decode cX10_pair 14 = .ok (.iload_n 2, 1) := by decide +kernel
theorem dX10_pair_15 : decode cX10_pair 15 = .ok (.invokevirtual 76, 3) := by decide +kernel
theorem dX10_pair_18 : decode cX10_pair 18 = .ok (.ifCond .ne 5, 3) := by decide +kernel
theorem dX10_pair_21 : decode cX10_pair 21 = .ok (.iconst (-1), 1) := by decide +kernel
theorem dX10_pair_22 : decode cX10_pair 22 = .ok (.ireturn, 1) := by decide +kernel
theorem dX10_pair_23 : decode cX10_pair 23 = .ok (.aload_n 0, 1) := by decide +kernel
theorem dX10_pair_24 : decode cX10_pair 24 = .ok (.getfield 34, 3) := by decide +kernel
theorem dX10_pair_27 : decode cX10_pair 27 = .ok (.bipush 60, 2) := by decide +kernel
theorem dX10_pair_29 : decode cX10_pair 29 = .ok (.iload_n 1, 1) := by decide +kernel
theorem dX10_pair_30 : decode cX10_pair 30 = .ok (.imul, 1) := by decide +kernel
theorem dX10_pair_31 : decode cX10_pair 31 = .ok (.iload_n 2, 1) := by decide +kernel
theorem dX10_pair_32 : decode cX10_pair 32 = .ok (.iadd, 1) := by decide +kernel
theorem dX10_pair_33 : decode cX10_pair 33 = .ok (.baload, 1) := by decide +kernel
theorem dX10_pair_34 : decode cX10_pair 34 = .ok (.istore 4, 2) := by decide +kernel
theorem dX10_pair_36 : decode cX10_pair 36 = .ok (.aload_n 0, 1) := by decide +kernel
theorem dX10_pair_37 : decode cX10_pair 37 = .ok (.getfield 34, 3) := by decide +kernel
theorem dX10_pair_40 : decode cX10_pair 40 = .ok (.bipush 60, 2) := by decide +kernel
theorem dX10_pair_42 : decode cX10_pair 42 = .ok (.iload_n 1, 1) := by decide +kernel
theorem dX10_pair_43 : decode cX10_pair 43 = .ok (.imul, 1) := by decide +kernel
theorem dX10_pair_44 : decode cX10_pair 44 = .ok (.iload_n 2, 1) := by decide +kernel
theorem dX10_pair_45 : decode cX10_pair 45 = .ok (.iadd, 1) := by decide +kernel
theorem dX10_pair_46 : decode cX10_pair 46 = .ok (.iload_n 3, 1) := by decide +kernel
theorem dX10_pair_47 : decode cX10_pair 47 = .ok (.bastore, 1) := by decide +kernel
theorem dX10_pair_48 : decode cX10_pair 48 = .ok (.iload 4, 2) := by decide +kernel
theorem dX10_pair_50 : decode cX10_pair 50 = .ok (.iload_n 3, 1) := by decide +kernel
theorem dX10_pair_51 : decode cX10_pair 51 = .ok (.if_icmp .eq 7, 3) := by decide +kernel
theorem dX10_pair_54 : decode cX10_pair 54 = .ok (.iconst 1, 1) := by decide +kernel
theorem dX10_pair_55 : decode cX10_pair 55 = .ok (.goto 4, 3) := by decide +kernel
theorem dX10_pair_58 : decode cX10_pair 58 = .ok (.iconst 0, 1) := by decide +kernel
theorem dX10_pair_59 : decode cX10_pair 59 = .ok (.ireturn, 1) := by decide +kernel
theorem dX10_nextTo_0 : decode cX10_nextTo 0 = .ok (.aload_n 0, 1) := by decide +kernel
theorem dX10_nextTo_1 : decode cX10_nextTo 1 = .ok (.getfield 34, 3) := by decide +kernel
theorem dX10_nextTo_4 : decode cX10_nextTo 4 = .ok (.bipush 60, 2) := by decide +kernel
theorem dX10_nextTo_6 : decode cX10_nextTo 6 = .ok (.iload_n 1, 1) := by decide +kernel
theorem dX10_nextTo_7 : decode cX10_nextTo 7 = .ok (.imul, 1) := by decide +kernel
theorem dX10_nextTo_8 : decode cX10_nextTo 8 = .ok (.iload_n 2, 1) := by decide +kernel
theorem dX10_nextTo_9 : decode cX10_nextTo 9 = .ok (.iadd, 1) := by decide +kernel
theorem dX10_nextTo_10 : decode cX10_nextTo 10 = .ok (.baload, 1) := by decide +kernel
theorem dX10_nextTo_11 : decode cX10_nextTo 11 = .ok (.ifCond .eq 7, 3) := by decide +kernel
theorem dX10_nextTo_14 : decode cX10_nextTo 14 = .ok (.iconst 0, 1) := by decide +kernel
theorem dX10_nextTo_15 : decode cX10_nextTo 15 = .ok (.goto 9, 3) := by decide +kernel
theorem dX10_nextTo_18 : decode cX10_nextTo 18 = .ok (.aload_n 0, 1) := by decide +kernel
theorem dX10_nextTo_19 : decode cX10_nextTo 19 = .ok (.getfield 22, 3) := by decide +kernel
theorem dX10_nextTo_22 : decode cX10_nextTo 22 = .ok (.iconst 5, 1) := by decide +kernel
theorem dX10_nextTo_23 : decode cX10_nextTo 23 = .ok (.iaload, 1) := by decide +kernel
theorem dX10_nextTo_24 : decode cX10_nextTo 24 = .ok (.ireturn, 1) := by decide +kernel
theorem dX10_chosen_0 : decode cX10_chosen 0 = .ok (.aload_n 0, 1) := by decide +kernel
theorem dX10_chosen_1 : decode cX10_chosen 1 = .ok (.iconst 0, 1) := by decide +kernel
theorem dX10_chosen_2 : decode cX10_chosen 2 = .ok (.putfield 62, 3) := by decide +kernel
theorem dX10_chosen_5 : decode cX10_chosen 5 = .ok (.iload_n 1, 1) := by decide +kernel
theorem dX10_chosen_6 : decode cX10_chosen 6 = .ok (.iconst 0, 1) := by decide +kernel
theorem dX10_chosen_7 : decode cX10_chosen 7 = .ok (.bipush 50, 2) := by decide +kernel
theorem dX10_chosen_9 : decode cX10_chosen 9 = .ok (.invokestatic 69, 3) := by decide +kernel
theorem dX10_chosen_12 : decode cX10_chosen 12 = .ok (.ifCond .ne 6, 3) := by decide +kernel
theorem dX10_chosen_15 : decode cX10_chosen 15 = .ok (.bipush (-2), 2) := by decide +kernel
theorem dX10_chosen_17 : decode cX10_chosen 17 = .ok (.ireturn, 1) := by decide +kernel
theorem dX10_chosen_18 : decode cX10_chosen 18 = .ok (.iload_n 2, 1) := by decide +kernel
theorem dX10_chosen_19 : decode cX10_chosen 19 = .ok (.iconst (-1), 1) := by decide +kernel
theorem dX10_chosen_20 : decode cX10_chosen 20 = .ok (.aload_n 0, 1) := by decide +kernel
theorem dX10_chosen_21 : decode cX10_chosen 21 = .ok (.getfield 136, 3) := by decide +kernel
theorem dX10_chosen_24 : decode cX10_chosen 24 = .ok (.iconst 1, 1) := by decide +kernel
theorem dX10_chosen_25 : decode cX10_chosen 25 = .ok (.isub, 1) := by decide +kernel
theorem dX10_chosen_26 : decode cX10_chosen 26 = .ok (.invokestatic 69, 3) := by decide +kernel
theorem dX10_chosen_29 : decode cX10_chosen 29 = .ok (.ifCond .ne 5, 3) := by decide +kernel
theorem dX10_chosen_32 : decode cX10_chosen 32 = .ok (.iconst (-1), 1) := by decide +kernel
theorem dX10_chosen_33 : decode cX10_chosen 33 = .ok (.ireturn, 1) := by decide +kernel
theorem dX10_chosen_34 : decode cX10_chosen 34 = .ok (.aload_n 0, 1) := by decide +kernel
theorem dX10_chosen_35 : decode cX10_chosen 35 = .ok (.getfield 136, 3) := by decide +kernel
theorem dX10_chosen_38 : decode cX10_chosen 38 = .ok (.ifCond .ne 6, 3) := by decide +kernel
theorem dX10_chosen_41 : decode cX10_chosen 41 = .ok (.bipush (-3), 2) := by decide +kernel
theorem dX10_chosen_43 : decode cX10_chosen 43 = .ok (.ireturn, 1) := by decide +kernel
theorem dX10_chosen_44 : decode cX10_chosen 44 = .ok (.aload_n 0, 1) := by decide +kernel
theorem dX10_chosen_45 : decode cX10_chosen 45 = .ok (.getfield 136, 3) := by decide +kernel
theorem dX10_chosen_48 : decode cX10_chosen 48 = .ok (.iconst 1, 1) := by decide +kernel
theorem dX10_chosen_49 : decode cX10_chosen 49 = .ok (.isub, 1) := by decide +kernel
theorem dX10_chosen_50 : decode cX10_chosen 50 = .ok (.istore_n 3, 1) := by decide +kernel
theorem dX10_chosen_51 : decode cX10_chosen 51 = .ok (.iload_n 3, 1) := by decide +kernel
theorem dX10_chosen_52 : decode cX10_chosen 52 = .ok (.ifCond .lt 245, 3) := by decide +kernel
theorem dX10_chosen_55 : decode cX10_chosen 55 = .ok (.aload_n 0, 1) := by decide +kernel
theorem dX10_chosen_56 : decode cX10_chosen 56 = .ok (.aload_n 0, 1) := by decide +kernel
theorem dX10_chosen_57 : decode cX10_chosen 57 = .ok (.getfield 28, 3) := by decide +kernel
theorem dX10_chosen_60 : decode cX10_chosen 60 = .ok (.iload_n 3, 1) := by decide +kernel
theorem dX10_chosen_61 : decode cX10_chosen 61 = .ok (.iaload, 1) := by decide +kernel
theorem dX10_chosen_62 : decode cX10_chosen 62 = .ok (.putfield 88, 3) := by decide +kernel
theorem dX10_chosen_65 : decode cX10_chosen 65 = .ok (.iconst 0, 1) := by decide +kernel
theorem dX10_chosen_66 : decode cX10_chosen 66 = .ok (.istore 4, 2) := by decide +kernel
theorem dX10_chosen_68 : decode cX10_chosen 68 = .ok (.iload 4, 2) := by decide +kernel
theorem dX10_chosen_70 : decode cX10_chosen 70 = .ok (.aload_n 0, 1) := by decide +kernel
theorem dX10_chosen_71 : decode cX10_chosen 71 = .ok (.getfield 88, 3) := by decide +kernel
theorem dX10_chosen_74 : decode cX10_chosen 74 = .ok (.if_icmp .ge 28, 3) := by decide +kernel
theorem dX10_chosen_77 : decode cX10_chosen 77 = .ok (.aload_n 0, 1) := by decide +kernel
theorem dX10_chosen_78 : decode cX10_chosen 78 = .ok (.getfield 41, 3) := by decide +kernel
theorem dX10_chosen_81 : decode cX10_chosen 81 = .ok (.iload 4, 2) := by decide +kernel
theorem dX10_chosen_83 : decode cX10_chosen 83 = .ok (.aload_n 0, 1) := by decide +kernel
theorem dX10_chosen_84 : decode cX10_chosen 84 = .ok (.getfield 31, 3) := by decide +kernel
theorem dX10_chosen_87 : decode cX10_chosen 87 = .ok (.bipush 12, 2) := by decide +kernel
theorem dX10_chosen_89 : decode cX10_chosen 89 = .ok (.iload_n 3, 1) := by decide +kernel
theorem dX10_chosen_90 : decode cX10_chosen 90 = .ok (.imul, 1) := by decide +kernel
theorem dX10_chosen_91 : decode cX10_chosen 91 = .ok (.iload 4, 2) := by decide +kernel
theorem dX10_chosen_93 : decode cX10_chosen 93 = .ok (.iadd, 1) := by decide +kernel
theorem dX10_chosen_94 : decode cX10_chosen 94 = .ok (.iaload, 1) := by decide +kernel
theorem dX10_chosen_95 : decode cX10_chosen 95 = .ok (.iastore, 1) := by decide +kernel
theorem dX10_chosen_96 : decode cX10_chosen 96 = .ok (.iinc 4 1, 3) := by decide +kernel
theorem dX10_chosen_99 : decode cX10_chosen 99 = .ok (.goto (-31), 3) := by decide +kernel
theorem dX10_chosen_102 : decode cX10_chosen 102 = .ok (.iconst 0, 1) := by decide +kernel
theorem dX10_chosen_103 : decode cX10_chosen 103 = .ok (.istore 4, 2) := by decide +kernel
theorem dX10_chosen_105 : decode cX10_chosen 105 = .ok (.iload 4, 2) := by decide +kernel
theorem dX10_chosen_107 : decode cX10_chosen 107 = .ok (.aload_n 0, 1) := by decide +kernel
theorem dX10_chosen_108 : decode cX10_chosen 108 = .ok (.getfield 66, 3) := by decide +kernel
theorem dX10_chosen_111 : decode cX10_chosen 111 = .ok (.if_icmp .ge 180, 3) := by decide +kernel
theorem dX10_chosen_114 : decode cX10_chosen 114 = .ok (.aload_n 0, 1) := by decide +kernel
theorem dX10_chosen_115 : decode cX10_chosen 115 = .ok (.iload 4, 2) := by decide +kernel
theorem dX10_chosen_117 : decode cX10_chosen 117 = .ok (.invokevirtual 99, 3) := by decide +kernel
theorem dX10_chosen_120 : decode cX10_chosen 120 = .ok (.istore 5, 2) := by decide +kernel
theorem dX10_chosen_122 : decode cX10_chosen 122 = .ok (.iload_n 3, 1) := by decide +kernel
theorem dX10_chosen_123 : decode cX10_chosen 123 = .ok (.aload_n 0, 1) := by decide +kernel
theorem dX10_chosen_124 : decode cX10_chosen 124 = .ok (.getfield 136, 3) := by decide +kernel
theorem dX10_chosen_127 : decode cX10_chosen 127 = .ok (.iconst 1, 1) := by decide +kernel
theorem dX10_chosen_128 : decode cX10_chosen 128 = .ok (.isub, 1) := by decide +kernel
theorem dX10_chosen_129 : decode cX10_chosen 129 = .ok (.if_icmp .ne 7, 3) := by decide +kernel
theorem dX10_chosen_132 : decode cX10_chosen 132 = .ok (.iconst 0, 1) := by decide +kernel
theorem dX10_chosen_133 : decode cX10_chosen 133 = .ok (.goto 4, 3) := by decide +kernel
theorem dX10_chosen_136 : decode cX10_chosen 136 = .ok (.iconst (-1), 1) := by decide +kernel
theorem dX10_chosen_137 : decode cX10_chosen 137 = .ok (.istore 6, 2) := by decide +kernel
theorem dX10_chosen_139 : decode cX10_chosen 139 = .ok (.iconst 0, 1) := by decide +kernel
theorem dX10_chosen_140 : decode cX10_chosen 140 = .ok (.istore 7, 2) := by decide +kernel
theorem dX10_chosen_142 : decode cX10_chosen 142 = .ok (.iload 7, 2) := by decide +kernel
theorem dX10_chosen_144 : decode cX10_chosen 144 = .ok (.aload_n 0, 1) := by decide +kernel
theorem dX10_chosen_145 : decode cX10_chosen 145 = .ok (.getfield 66, 3) := by decide +kernel
theorem dX10_chosen_148 : decode cX10_chosen 148 = .ok (.if_icmp .ge 91, 3) := by decide +kernel
theorem dX10_chosen_151 : decode cX10_chosen 151 = .ok (.iload_n 3, 1) := by decide +kernel
theorem dX10_chosen_152 : decode cX10_chosen 152 = .ok (.aload_n 0, 1) := by decide +kernel
theorem dX10_chosen_153 : decode cX10_chosen 153 = .ok (.getfield 136, 3) := by decide +kernel
theorem dX10_chosen_156 : decode cX10_chosen 156 = .ok (.iconst 1, 1) := by decide +kernel
theorem dX10_chosen_157 : decode cX10_chosen 157 = .ok (.isub, 1) := by decide +kernel
theorem dX10_chosen_158 : decode cX10_chosen 158 = .ok (.if_icmp .ge 81, 3) := by decide +kernel
theorem dX10_chosen_161 : decode cX10_chosen 161 = .ok (.aload_n 0, 1) := by decide +kernel
theorem dX10_chosen_162 : decode cX10_chosen 162 = .ok (.getfield 59, 3) := by decide +kernel
theorem dX10_chosen_165 : decode cX10_chosen 165 = .ok (.bipush 60, 2) := by decide +kernel
theorem dX10_chosen_167 : decode cX10_chosen 167 = .ok (.iload_n 3, 1) := by decide +kernel
theorem dX10_chosen_168 : decode cX10_chosen 168 = .ok (.iconst 1, 1) := by decide +kernel
theorem dX10_chosen_169 : decode cX10_chosen 169 = .ok (.iadd, 1) := by decide +kernel
theorem dX10_chosen_170 : decode cX10_chosen 170 = .ok (.imul, 1) := by decide +kernel
theorem dX10_chosen_171 : decode cX10_chosen 171 = .ok (.iload 7, 2) := by decide +kernel
theorem dX10_chosen_173 : decode cX10_chosen 173 = .ok (.iadd, 1) := by decide +kernel
theorem dX10_chosen_174 : decode cX10_chosen 174 = .ok (.iaload, 1) := by decide +kernel
theorem dX10_chosen_175 : decode cX10_chosen 175 = .ok (.ifCond .ge 7, 3) := by decide +kernel
theorem dX10_chosen_178 : decode cX10_chosen 178 = .ok (.iconst (-1), 1) := by decide +kernel
theorem dX10_chosen_179 : decode cX10_chosen 179 = .ok (.goto 26, 3) := by decide +kernel
theorem dX10_chosen_182 : decode cX10_chosen 182 = .ok (.aload_n 0, 1) := by decide +kernel
theorem dX10_chosen_183 : decode cX10_chosen 183 = .ok (.getfield 59, 3) := by decide +kernel
theorem dX10_chosen_186 : decode cX10_chosen 186 = .ok (.bipush 60, 2) := by decide +kernel
theorem dX10_chosen_188 : decode cX10_chosen 188 = .ok (.iload_n 3, 1) := by decide +kernel
theorem dX10_chosen_189 : decode cX10_chosen 189 = .ok (.iconst 1, 1) := by decide +kernel
theorem dX10_chosen_190 : decode cX10_chosen 190 = .ok (.iadd, 1) := by decide +kernel
theorem dX10_chosen_191 : decode cX10_chosen 191 = .ok (.imul, 1) := by decide +kernel
theorem dX10_chosen_192 : decode cX10_chosen 192 = .ok (.iload 7, 2) := by decide +kernel
theorem dX10_chosen_194 : decode cX10_chosen 194 = .ok (.iadd, 1) := by decide +kernel
theorem dX10_chosen_195 : decode cX10_chosen 195 = .ok (.iaload, 1) := by decide +kernel
theorem dX10_chosen_196 : decode cX10_chosen 196 = .ok (.aload_n 0, 1) := by decide +kernel
theorem dX10_chosen_197 : decode cX10_chosen 197 = .ok (.iload 4, 2) := by decide +kernel
theorem dX10_chosen_199 : decode cX10_chosen 199 = .ok (.iload 7, 2) := by decide +kernel
theorem dX10_chosen_201 : decode cX10_chosen 201 = .ok (.invokevirtual 139, 3) := by decide +kernel
theorem dX10_chosen_204 : decode cX10_chosen 204 = .ok (.iadd, 1) := by decide +kernel
theorem dX10_chosen_205 : decode cX10_chosen 205 = .ok (.istore 8, 2) := by decide +kernel
theorem dX10_chosen_207 : decode cX10_chosen 207 = .ok (.iload 8, 2) := by decide +kernel
theorem dX10_chosen_209 : decode cX10_chosen 209 = .ok (.ifCond .lt 20, 3) := by decide +kernel
theorem dX10_chosen_212 : decode cX10_chosen 212 = .ok (.iload 6, 2) := by decide +kernel
theorem dX10_chosen_214 : decode cX10_chosen 214 = .ok (.ifCond .lt 10, 3) := by decide +kernel
theorem dX10_chosen_217 : decode cX10_chosen 217 = .ok (.iload 8, 2) := by decide +kernel
theorem dX10_chosen_219 : decode cX10_chosen 219 = .ok (.iload 6, 2) := by decide +kernel
theorem dX10_chosen_221 : decode cX10_chosen 221 = .ok (.if_icmp .ge 8, 3) := by decide +kernel
theorem dX10_chosen_224 : decode cX10_chosen 224 = .ok (.iload 8, 2) := by decide +kernel
theorem dX10_chosen_226 : decode cX10_chosen 226 = .ok (.goto 5, 3) := by decide +kernel
theorem dX10_chosen_229 : decode cX10_chosen 229 = .ok (.iload 6, 2) := by decide +kernel
theorem dX10_chosen_231 : decode cX10_chosen 231 = .ok (.istore 6, 2) := by decide +kernel
theorem dX10_chosen_233 : decode cX10_chosen 233 = .ok (.iinc 7 1, 3) := by decide +kernel
theorem dX10_chosen_236 : decode cX10_chosen 236 = .ok (.goto (-94), 3) := by decide +kernel
theorem dX10_chosen_239 : decode cX10_chosen 239 = .ok (.aload_n 0, 1) := by decide +kernel
theorem dX10_chosen_240 : decode cX10_chosen 240 = .ok (.getfield 56, 3) := by decide +kernel
theorem dX10_chosen_243 : decode cX10_chosen 243 = .ok (.bipush 60, 2) := by decide +kernel
theorem dX10_chosen_245 : decode cX10_chosen 245 = .ok (.iload_n 3, 1) := by decide +kernel
theorem dX10_chosen_246 : decode cX10_chosen 246 = .ok (.imul, 1) := by decide +kernel
theorem dX10_chosen_247 : decode cX10_chosen 247 = .ok (.iload 4, 2) := by decide +kernel
theorem dX10_chosen_249 : decode cX10_chosen 249 = .ok (.iadd, 1) := by decide +kernel
theorem dX10_chosen_250 : decode cX10_chosen 250 = .ok (.iload 5, 2) := by decide +kernel
theorem dX10_chosen_252 : decode cX10_chosen 252 = .ok (.iastore, 1) := by decide +kernel
theorem dX10_chosen_253 : decode cX10_chosen 253 = .ok (.aload_n 0, 1) := by decide +kernel
theorem dX10_chosen_254 : decode cX10_chosen 254 = .ok (.getfield 59, 3) := by decide +kernel
theorem dX10_chosen_257 : decode cX10_chosen 257 = .ok (.bipush 60, 2) := by decide +kernel
theorem dX10_chosen_259 : decode cX10_chosen 259 = .ok (.iload_n 3, 1) := by decide +kernel
theorem dX10_chosen_260 : decode cX10_chosen 260 = .ok (.imul, 1) := by decide +kernel
theorem dX10_chosen_261 : decode cX10_chosen 261 = .ok (.iload 4, 2) := by decide +kernel
theorem dX10_chosen_263 : decode cX10_chosen 263 = .ok (.iadd, 1) := by decide +kernel
theorem dX10_chosen_264 : decode cX10_chosen 264 = .ok (.iload 5, 2) := by decide +kernel
theorem dX10_chosen_266 : decode cX10_chosen 266 = .ok (.iload_n 1, 1) := by decide +kernel
theorem dX10_chosen_267 : decode cX10_chosen 267 = .ok (.if_icmp .gt 8, 3) := by decide +kernel
theorem dX10_chosen_270 : decode cX10_chosen 270 = .ok (.iload 6, 2) := by decide +kernel
theorem dX10_chosen_272 : decode cX10_chosen 272 = .ok (.ifCond .ge 7, 3) := by decide +kernel
theorem dX10_chosen_275 : decode cX10_chosen 275 = .ok (.iconst (-1), 1) := by decide +kernel
theorem dX10_chosen_276 : decode cX10_chosen 276 = .ok (.goto 8, 3) := by decide +kernel
theorem dX10_chosen_279 : decode cX10_chosen 279 = .ok (.iload 5, 2) := by decide +kernel
theorem dX10_chosen_281 : decode cX10_chosen 281 = .ok (.iload 6, 2) := by decide +kernel
theorem dX10_chosen_283 : decode cX10_chosen 283 = .ok (.iadd, 1) := by decide +kernel
theorem dX10_chosen_284 : decode cX10_chosen 284 = .ok (.iastore, 1) := by decide +kernel
theorem dX10_chosen_285 : decode cX10_chosen 285 = .ok (.iinc 4 1, 3) := by decide +kernel
theorem dX10_chosen_288 : decode cX10_chosen 288 = .ok (.goto (-183), 3) := by decide +kernel
theorem dX10_chosen_291 : decode cX10_chosen 291 = .ok (.iinc 3 (-1), 3) := by decide +kernel
theorem dX10_chosen_294 : decode cX10_chosen 294 = .ok (.goto (-243), 3) := by decide +kernel
theorem dX10_chosen_297 : decode cX10_chosen 297 = .ok (.iconst (-1), 1) := by decide +kernel
theorem dX10_chosen_298 : decode cX10_chosen 298 = .ok (.istore_n 3, 1) := by decide +kernel
theorem dX10_chosen_299 : decode cX10_chosen 299 = .ok (.iconst (-1), 1) := by decide +kernel
theorem dX10_chosen_300 : decode cX10_chosen 300 = .ok (.istore 4, 2) := by decide +kernel
theorem dX10_chosen_302 : decode cX10_chosen 302 = .ok (.iconst 0, 1) := by decide +kernel
theorem dX10_chosen_303 : decode cX10_chosen 303 = .ok (.istore 5, 2) := by decide +kernel
theorem dX10_chosen_305 : decode cX10_chosen 305 = .ok (.iload 5, 2) := by decide +kernel
theorem dX10_chosen_307 : decode cX10_chosen 307 = .ok (.aload_n 0, 1) := by decide +kernel
theorem dX10_chosen_308 : decode cX10_chosen 308 = .ok (.getfield 66, 3) := by decide +kernel
theorem dX10_chosen_311 : decode cX10_chosen 311 = .ok (.if_icmp .ge 50, 3) := by decide +kernel
theorem dX10_chosen_314 : decode cX10_chosen 314 = .ok (.aload_n 0, 1) := by decide +kernel
theorem dX10_chosen_315 : decode cX10_chosen 315 = .ok (.getfield 59, 3) := by decide +kernel
theorem dX10_chosen_318 : decode cX10_chosen 318 = .ok (.iload 5, 2) := by decide +kernel
theorem dX10_chosen_320 : decode cX10_chosen 320 = .ok (.iaload, 1) := by decide +kernel
theorem dX10_chosen_321 : decode cX10_chosen 321 = .ok (.ifCond .lt 30, 3) := by decide +kernel
theorem dX10_chosen_324 : decode cX10_chosen 324 = .ok (.iload 4, 2) := by decide +kernel
theorem dX10_chosen_326 : decode cX10_chosen 326 = .ok (.ifCond .lt 15, 3) := by decide +kernel
theorem dX10_chosen_329 : decode cX10_chosen 329 = .ok (.aload_n 0, 1) := by decide +kernel
theorem dX10_chosen_330 : decode cX10_chosen 330 = .ok (.getfield 59, 3) := by decide +kernel
theorem dX10_chosen_333 : decode cX10_chosen 333 = .ok (.iload 5, 2) := by decide +kernel
theorem dX10_chosen_335 : decode cX10_chosen 335 = .ok (.iaload, 1) := by decide +kernel
theorem dX10_chosen_336 : decode cX10_chosen 336 = .ok (.iload 4, 2) := by decide +kernel
theorem dX10_chosen_338 : decode cX10_chosen 338 = .ok (.if_icmp .ge 13, 3) := by decide +kernel
theorem dX10_chosen_341 : decode cX10_chosen 341 = .ok (.aload_n 0, 1) := by decide +kernel
theorem dX10_chosen_342 : decode cX10_chosen 342 = .ok (.getfield 59, 3) := by decide +kernel
theorem dX10_chosen_345 : decode cX10_chosen 345 = .ok (.iload 5, 2) := by decide +kernel
theorem dX10_chosen_347 : decode cX10_chosen 347 = .ok (.iaload, 1) := by decide +kernel
theorem dX10_chosen_348 : decode cX10_chosen 348 = .ok (.goto 5, 3) := by decide +kernel
theorem dX10_chosen_351 : decode cX10_chosen 351 = .ok (.iload 4, 2) := by decide +kernel
theorem dX10_chosen_353 : decode cX10_chosen 353 = .ok (.istore 4, 2) := by decide +kernel
theorem dX10_chosen_355 : decode cX10_chosen 355 = .ok (.iinc 5 1, 3) := by decide +kernel
theorem dX10_chosen_358 : decode cX10_chosen 358 = .ok (.goto (-53), 3) := by decide +kernel
theorem dX10_chosen_361 : decode cX10_chosen 361 = .ok (.iload 4, 2) := by decide +kernel
theorem dX10_chosen_363 : decode cX10_chosen 363 = .ok (.ifCond .lt 7, 3) := by decide +kernel
theorem dX10_chosen_366 : decode cX10_chosen 366 = .ok (.iload_n 2, 1) := by decide +kernel
theorem dX10_chosen_367 : decode cX10_chosen 367 = .ok (.ifCond .ge 16, 3) := by decide +kernel
theorem dX10_chosen_370 : decode cX10_chosen 370 = .ok (.iload 4, 2) := by decide +kernel
theorem dX10_chosen_372 : decode cX10_chosen 372 = .ok (.ifCond .ge 8, 3) := by decide +kernel
theorem dX10_chosen_375 : decode cX10_chosen 375 = .ok (.bipush (-3), 2) := by decide +kernel
theorem dX10_chosen_377 : decode cX10_chosen 377 = .ok (.goto 5, 3) := by decide +kernel
theorem dX10_chosen_380 : decode cX10_chosen 380 = .ok (.iload 4, 2) := by decide +kernel
theorem dX10_chosen_382 : decode cX10_chosen 382 = .ok (.ireturn, 1) := by decide +kernel
theorem dX10_chosen_383 : decode cX10_chosen 383 = .ok (.iconst 0, 1) := by decide +kernel
theorem dX10_chosen_384 : decode cX10_chosen 384 = .ok (.istore 5, 2) := by decide +kernel
theorem dX10_chosen_386 : decode cX10_chosen 386 = .ok (.iload 5, 2) := by decide +kernel
theorem dX10_chosen_388 : decode cX10_chosen 388 = .ok (.iload_n 2, 1) := by decide +kernel
theorem dX10_chosen_389 : decode cX10_chosen 389 = .ok (.if_icmp .gt 143, 3) := by decide +kernel
theorem dX10_chosen_392 : decode cX10_chosen 392 = .ok (.iconst (-1), 1) := by decide +kernel
theorem dX10_chosen_393 : decode cX10_chosen 393 = .ok (.istore 6, 2) := by decide +kernel
theorem dX10_chosen_395 : decode cX10_chosen 395 = .ok (.iconst 0, 1) := by decide +kernel
theorem dX10_chosen_396 : decode cX10_chosen 396 = .ok (.istore 7, 2) := by decide +kernel
theorem dX10_chosen_398 : decode cX10_chosen 398 = .ok (.iload 7, 2) := by decide +kernel
theorem dX10_chosen_400 : decode cX10_chosen 400 = .ok (.aload_n 0, 1) := by decide +kernel
theorem dX10_chosen_401 : decode cX10_chosen 401 = .ok (.getfield 66, 3) := by decide +kernel
theorem dX10_chosen_404 : decode cX10_chosen 404 = .ok (.if_icmp .ge 84, 3) := by decide +kernel
theorem dX10_chosen_407 : decode cX10_chosen 407 = .ok (.iload 5, 2) := by decide +kernel
theorem dX10_chosen_409 : decode cX10_chosen 409 = .ok (.ifCond .ne 7, 3) := by decide +kernel
theorem dX10_chosen_412 : decode cX10_chosen 412 = .ok (.iconst 0, 1) := by decide +kernel
theorem dX10_chosen_413 : decode cX10_chosen 413 = .ok (.goto 10, 3) := by decide +kernel
theorem dX10_chosen_416 : decode cX10_chosen 416 = .ok (.aload_n 0, 1) := by decide +kernel
theorem dX10_chosen_417 : decode cX10_chosen 417 = .ok (.iload_n 3, 1) := by decide +kernel
theorem dX10_chosen_418 : decode cX10_chosen 418 = .ok (.iload 7, 2) := by decide +kernel
theorem dX10_chosen_420 : decode cX10_chosen 420 = .ok (.invokevirtual 139, 3) := by decide +kernel
theorem dX10_chosen_423 : decode cX10_chosen 423 = .ok (.istore 8, 2) := by decide +kernel
theorem dX10_chosen_425 : decode cX10_chosen 425 = .ok (.aload_n 0, 1) := by decide +kernel
theorem dX10_chosen_426 : decode cX10_chosen 426 = .ok (.getfield 59, 3) := by decide +kernel
theorem dX10_chosen_429 : decode cX10_chosen 429 = .ok (.bipush 60, 2) := by decide +kernel
theorem dX10_chosen_431 : decode cX10_chosen 431 = .ok (.iload 5, 2) := by decide +kernel
theorem dX10_chosen_433 : decode cX10_chosen 433 = .ok (.imul, 1) := by decide +kernel
theorem dX10_chosen_434 : decode cX10_chosen 434 = .ok (.iload 7, 2) := by decide +kernel
theorem dX10_chosen_436 : decode cX10_chosen 436 = .ok (.iadd, 1) := by decide +kernel
theorem dX10_chosen_437 : decode cX10_chosen 437 = .ok (.iaload, 1) := by decide +kernel
theorem dX10_chosen_438 : decode cX10_chosen 438 = .ok (.ifCond .lt 44, 3) := by decide +kernel
theorem dX10_chosen_441 : decode cX10_chosen 441 = .ok (.aload_n 0, 1) := by decide +kernel
theorem dX10_chosen_442 : decode cX10_chosen 442 = .ok (.getfield 59, 3) := by decide +kernel
theorem dX10_chosen_445 : decode cX10_chosen 445 = .ok (.bipush 60, 2) := by decide +kernel
theorem dX10_chosen_447 : decode cX10_chosen 447 = .ok (.iload 5, 2) := by decide +kernel
theorem dX10_chosen_449 : decode cX10_chosen 449 = .ok (.imul, 1) := by decide +kernel
theorem dX10_chosen_450 : decode cX10_chosen 450 = .ok (.iload 7, 2) := by decide +kernel
theorem dX10_chosen_452 : decode cX10_chosen 452 = .ok (.iadd, 1) := by decide +kernel
theorem dX10_chosen_453 : decode cX10_chosen 453 = .ok (.iaload, 1) := by decide +kernel
theorem dX10_chosen_454 : decode cX10_chosen 454 = .ok (.iload 8, 2) := by decide +kernel
theorem dX10_chosen_456 : decode cX10_chosen 456 = .ok (.iadd, 1) := by decide +kernel
theorem dX10_chosen_457 : decode cX10_chosen 457 = .ok (.iload 4, 2) := by decide +kernel
theorem dX10_chosen_459 : decode cX10_chosen 459 = .ok (.if_icmp .ne 23, 3) := by decide +kernel
theorem dX10_chosen_462 : decode cX10_chosen 462 = .ok (.iload 6, 2) := by decide +kernel
theorem dX10_chosen_464 : decode cX10_chosen 464 = .ok (.ifCond .lt 14, 3) := by decide +kernel
theorem dX10_chosen_467 : decode cX10_chosen 467 = .ok (.aload_n 0, 1) := by decide +kernel
theorem dX10_chosen_468 : decode cX10_chosen 468 = .ok (.iload 7, 2) := by decide +kernel
theorem dX10_chosen_470 : decode cX10_chosen 470 = .ok (.iload 6, 2) := by decide +kernel
theorem dX10_chosen_472 : decode cX10_chosen 472 = .ok (.invokevirtual 80, 3) := by decide +kernel
theorem dX10_chosen_475 : decode cX10_chosen 475 = .ok (.ifCond .eq 7, 3) := by decide +kernel
theorem dX10_chosen_478 : decode cX10_chosen 478 = .ok (.iload 7, 2) := by decide +kernel
theorem dX10_chosen_480 : decode cX10_chosen 480 = .ok (.istore 6, 2) := by decide +kernel
theorem dX10_chosen_482 : decode cX10_chosen 482 = .ok (.iinc 7 1, 3) := by decide +kernel
theorem dX10_chosen_485 : decode cX10_chosen 485 = .ok (.goto (-87), 3) := by decide +kernel
theorem dX10_chosen_488 : decode cX10_chosen 488 = .ok (.iload 4, 2) := by decide +kernel
theorem dX10_chosen_490 : decode cX10_chosen 490 = .ok (.iload 5, 2) := by decide +kernel
theorem dX10_chosen_492 : decode cX10_chosen 492 = .ok (.ifCond .ne 7, 3) := by decide +kernel
theorem dX10_chosen_495 : decode cX10_chosen 495 = .ok (.iconst 0, 1) := by decide +kernel
theorem dX10_chosen_496 : decode cX10_chosen 496 = .ok (.goto 10, 3) := by decide +kernel
theorem dX10_chosen_499 : decode cX10_chosen 499 = .ok (.aload_n 0, 1) := by decide +kernel
theorem dX10_chosen_500 : decode cX10_chosen 500 = .ok (.iload_n 3, 1) := by decide +kernel
theorem dX10_chosen_501 : decode cX10_chosen 501 = .ok (.iload 6, 2) := by decide +kernel
theorem dX10_chosen_503 : decode cX10_chosen 503 = .ok (.invokevirtual 139, 3) := by decide +kernel
theorem dX10_chosen_506 : decode cX10_chosen 506 = .ok (.aload_n 0, 1) := by decide +kernel
theorem dX10_chosen_507 : decode cX10_chosen 507 = .ok (.getfield 56, 3) := by decide +kernel
theorem dX10_chosen_510 : decode cX10_chosen 510 = .ok (.bipush 60, 2) := by decide +kernel
theorem dX10_chosen_512 : decode cX10_chosen 512 = .ok (.iload 5, 2) := by decide +kernel
theorem dX10_chosen_514 : decode cX10_chosen 514 = .ok (.imul, 1) := by decide +kernel
theorem dX10_chosen_515 : decode cX10_chosen 515 = .ok (.iload 6, 2) := by decide +kernel
theorem dX10_chosen_517 : decode cX10_chosen 517 = .ok (.iadd, 1) := by decide +kernel
theorem dX10_chosen_518 : decode cX10_chosen 518 = .ok (.iaload, 1) := by decide +kernel
theorem dX10_chosen_519 : decode cX10_chosen 519 = .ok (.iadd, 1) := by decide +kernel
theorem dX10_chosen_520 : decode cX10_chosen 520 = .ok (.isub, 1) := by decide +kernel
theorem dX10_chosen_521 : decode cX10_chosen 521 = .ok (.istore 4, 2) := by decide +kernel
theorem dX10_chosen_523 : decode cX10_chosen 523 = .ok (.iload 6, 2) := by decide +kernel
theorem dX10_chosen_525 : decode cX10_chosen 525 = .ok (.istore_n 3, 1) := by decide +kernel
theorem dX10_chosen_526 : decode cX10_chosen 526 = .ok (.iinc 5 1, 3) := by decide +kernel
theorem dX10_chosen_529 : decode cX10_chosen 529 = .ok (.goto (-143), 3) := by decide +kernel
theorem dX10_chosen_532 : decode cX10_chosen 532 = .ok (.iload_n 3, 1) := by decide +kernel
theorem dX10_chosen_533 : decode cX10_chosen 533 = .ok (.ireturn, 1) := by decide +kernel
theorem dX10_share_0 : decode cX10_share 0 = .ok (.aload_n 0, 1) := by decide +kernel
theorem dX10_share_1 : decode cX10_share 1 = .ok (.iconst 0, 1) := by decide +kernel
theorem dX10_share_2 : decode cX10_share 2 = .ok (.putfield 62, 3) := by decide +kernel
theorem dX10_share_5 : decode cX10_share 5 = .ok (.aload_n 0, 1) := by decide +kernel
theorem dX10_share_6 : decode cX10_share 6 = .ok (.iload_n 1, 1) := by decide +kernel
theorem dX10_share_7 : decode cX10_share 7 = .ok (.invokevirtual 76, 3) := by decide +kernel
theorem dX10_share_10 : decode cX10_share 10 = .ok (.ifCond .ne 5, 3) := by decide +kernel
theorem dX10_share_13 : decode cX10_share 13 = .ok (.iconst (-1), 1) := by decide +kernel
theorem dX10_share_14 : decode cX10_share 14 = .ok (.ireturn, 1) := by decide +kernel
theorem dX10_share_15 : decode cX10_share 15 = .ok (.aload_n 0, 1) := by decide +kernel
theorem dX10_share_16 : decode cX10_share 16 = .ok (.getfield 73, 3) := by decide +kernel
theorem dX10_share_19 : decode cX10_share 19 = .ok (.ifCond .ne 10, 3) := by decide +kernel
theorem dX10_share_22 : decode cX10_share 22 = .ok (.aload_n 0, 1) := by decide +kernel
theorem dX10_share_23 : decode cX10_share 23 = .ok (.iconst 1, 1) := by decide +kernel
theorem dX10_share_24 : decode cX10_share 24 = .ok (.putfield 62, 3) := by decide +kernel
theorem dX10_share_27 : decode cX10_share 27 = .ok (.iconst 0, 1) := by decide +kernel
theorem dX10_share_28 : decode cX10_share 28 = .ok (.ireturn, 1) := by decide +kernel
theorem dX10_share_29 : decode cX10_share 29 = .ok (.aload_n 0, 1) := by decide +kernel
theorem dX10_share_30 : decode cX10_share 30 = .ok (.iconst 0, 1) := by decide +kernel
theorem dX10_share_31 : decode cX10_share 31 = .ok (.aload_n 0, 1) := by decide +kernel
theorem dX10_share_32 : decode cX10_share 32 = .ok (.getfield 73, 3) := by decide +kernel
theorem dX10_share_35 : decode cX10_share 35 = .ok (.invokevirtual 102, 3) := by decide +kernel
theorem dX10_share_38 : decode cX10_share 38 = .ok (.sipush 1000, 3) := by decide +kernel
theorem dX10_share_41 : decode cX10_share 41 = .ok (.aload_n 0, 1) := by decide +kernel
theorem dX10_share_42 : decode cX10_share 42 = .ok (.iload_n 1, 1) := by decide +kernel
theorem dX10_share_43 : decode cX10_share 43 = .ok (.invokevirtual 99, 3) := by decide +kernel
theorem dX10_share_46 : decode cX10_share 46 = .ok (.imul, 1) := by decide +kernel
theorem dX10_share_47 : decode cX10_share 47 = .ok (.aload_n 0, 1) := by decide +kernel
theorem dX10_share_48 : decode cX10_share 48 = .ok (.getfield 73, 3) := by decide +kernel
theorem dX10_share_51 : decode cX10_share 51 = .ok (.idiv, 1) := by decide +kernel
theorem dX10_share_52 : decode cX10_share 52 = .ok (.ireturn, 1) := by decide +kernel
end
section
theorem dJ9_min_7cf53_0 : decode cJ9_min_7cf53 0 = .ok (.iload_n 0, 1) := by decide +kernel
theorem dJ9_min_7cf53_1 : decode cJ9_min_7cf53 1 = .ok (.iload_n 1, 1) := by decide +kernel
theorem dJ9_min_7cf53_2 : decode cJ9_min_7cf53 2 = .ok (.if_icmp .gt 7, 3) := by decide +kernel
theorem dJ9_min_7cf53_5 : decode cJ9_min_7cf53 5 = .ok (.iload_n 0, 1) := by decide +kernel
theorem dJ9_min_7cf53_6 : decode cJ9_min_7cf53 6 = .ok (.goto 4, 3) := by decide +kernel
theorem dJ9_min_7cf53_9 : decode cJ9_min_7cf53 9 = .ok (.iload_n 1, 1) := by decide +kernel
theorem dJ9_min_7cf53_10 : decode cJ9_min_7cf53 10 = .ok (.ireturn, 1) := by decide +kernel
theorem dJ7_fill_53178_0 : decode cJ7_fill_53178 0 = .ok (.iconst 0, 1) := by decide +kernel
theorem dJ7_fill_53178_1 : decode cJ7_fill_53178 1 = .ok (.istore_n 2, 1) := by decide +kernel
theorem dJ7_fill_53178_2 : decode cJ7_fill_53178 2 = .ok (.aload_n 0, 1) := by decide +kernel
theorem dJ7_fill_53178_3 : decode cJ7_fill_53178 3 = .ok (.arraylength, 1) := by decide +kernel
theorem dJ7_fill_53178_4 : decode cJ7_fill_53178 4 = .ok (.istore_n 3, 1) := by decide +kernel
theorem dJ7_fill_53178_5 : decode cJ7_fill_53178 5 = .ok (.iload_n 2, 1) := by decide +kernel
theorem dJ7_fill_53178_6 : decode cJ7_fill_53178 6 = .ok (.iload_n 3, 1) := by decide +kernel
theorem dJ7_fill_53178_7 : decode cJ7_fill_53178 7 = .ok (.if_icmp .ge 13, 3) := by decide +kernel
theorem dJ7_fill_53178_10 : decode cJ7_fill_53178 10 = .ok (.aload_n 0, 1) := by decide +kernel
theorem dJ7_fill_53178_11 : decode cJ7_fill_53178 11 = .ok (.iload_n 2, 1) := by decide +kernel
theorem dJ7_fill_53178_12 : decode cJ7_fill_53178 12 = .ok (.iload_n 1, 1) := by decide +kernel
theorem dJ7_fill_53178_13 : decode cJ7_fill_53178 13 = .ok (.iastore, 1) := by decide +kernel
theorem dJ7_fill_53178_14 : decode cJ7_fill_53178 14 = .ok (.iinc 2 1, 3) := by decide +kernel
theorem dJ7_fill_53178_17 : decode cJ7_fill_53178 17 = .ok (.goto (-12), 3) := by decide +kernel
theorem dJ7_fill_53178_20 : decode cJ7_fill_53178 20 = .ok (.return_, 1) := by decide +kernel
theorem dL_share_0 : decode cL_share 0 = .ok (.aload_n 2, 1) := by decide +kernel
theorem dL_share_1 : decode cL_share 1 = .ok (.iconst 0, 1) := by decide +kernel
theorem dL_share_2 : decode cL_share 2 = .ok (.aload_n 0, 1) := by decide +kernel
theorem dL_share_3 : decode cL_share 3 = .ok (.iload_n 1, 1) := by decide +kernel
theorem dL_share_4 : decode cL_share 4 = .ok (.invokevirtual 7, 3) := by decide +kernel
theorem dL_share_7 : decode cL_share 7 = .ok (.i2l, 1) := by decide +kernel
theorem dL_share_8 : decode cL_share 8 = .ok (.lastore, 1) := by decide +kernel
theorem dL_share_9 : decode cL_share 9 = .ok (.goto 6, 3) := by decide +kernel
theorem dL_share_12 : decode cL_share 12 = .ok (.astore_n 3, 1) := by decide +kernel
theorem dL_share_13 : decode cL_share 13 = .ok (.iconst 1, 1) := by decide +kernel
theorem dL_share_14 : decode cL_share 14 = .ok (.ireturn, 1) := by decide +kernel
theorem dL_share_15 : decode cL_share 15 = .ok (.iconst 0, 1) := by decide +kernel
theorem dL_share_16 : decode cL_share 16 = .ok (.ireturn, 1) := by decide +kernel
theorem dL_law_0 : decode cL_law 0 = .ok (.new 8, 3) := by decide +kernel
theorem dL_law_3 : decode cL_law 3 = .ok (.dup, 1) := by decide +kernel
theorem dL_law_4 : decode cL_law 4 = .ok (.invokespecial 15, 3) := by decide +kernel
theorem dL_law_7 : decode cL_law 7 = .ok (.astore_n 1, 1) := by decide +kernel
theorem dL_law_8 : decode cL_law 8 = .ok (.new 16, 3) := by decide +kernel
theorem dL_law_11 : decode cL_law 11 = .ok (.dup, 1) := by decide +kernel
theorem dL_law_12 : decode cL_law 12 = .ok (.invokespecial 18, 3) := by decide +kernel
theorem dL_law_15 : decode cL_law 15 = .ok (.astore_n 2, 1) := by decide +kernel
theorem dL_law_16 : decode cL_law 16 = .ok (.iconst 1, 1) := by decide +kernel
theorem dL_law_17 : decode cL_law 17 = .ok (.newarray .long, 2) := by decide +kernel
theorem dL_law_19 : decode cL_law 19 = .ok (.astore_n 3, 1) := by decide +kernel
theorem dL_law_20 : decode cL_law 20 = .ok (.iconst 0, 1) := by decide +kernel
theorem dL_law_21 : decode cL_law 21 = .ok (.istore 4, 2) := by decide +kernel
theorem dL_law_23 : decode cL_law 23 = .ok (.iload 4, 2) := by decide +kernel
theorem dL_law_25 : decode cL_law 25 = .ok (.aload_n 0, 1) := by decide +kernel
theorem dL_law_26 : decode cL_law 26 = .ok (.arraylength, 1) := by decide +kernel
theorem dL_law_27 : decode cL_law 27 = .ok (.iconst 4, 1) := by decide +kernel
theorem dL_law_28 : decode cL_law 28 = .ok (.isub, 1) := by decide +kernel
theorem dL_law_29 : decode cL_law 29 = .ok (.if_icmp .gt 793, 3) := by decide +kernel
theorem dL_law_32 : decode cL_law 32 = .ok (.aload_n 0, 1) := by decide +kernel
theorem dL_law_33 : decode cL_law 33 = .ok (.iload 4, 2) := by decide +kernel
theorem dL_law_35 : decode cL_law 35 = .ok (.iaload, 1) := by decide +kernel
theorem dL_law_36 : decode cL_law 36 = .ok (.bipush 31, 2) := by decide +kernel
theorem dL_law_38 : decode cL_law 38 = .ok (.iand, 1) := by decide +kernel
theorem dL_law_39 : decode cL_law 39 = .ok (.tableswitch 777 0 20 #[97, 122, 135, 160, 197, 234, 271, 320, 345, 370, 407, 444, 469, 506, 531, 568, 593, 606, 619, 684, 721], 97) := by decide +kernel
theorem dL_law_136 : decode cL_law 136 = .ok (.aload_n 1, 1) := by decide +kernel
theorem dL_law_137 : decode cL_law 137 = .ok (.aload_n 0, 1) := by decide +kernel
theorem dL_law_138 : decode cL_law 138 = .ok (.iload 4, 2) := by decide +kernel
theorem dL_law_140 : decode cL_law 140 = .ok (.iconst 1, 1) := by decide +kernel
theorem dL_law_141 : decode cL_law 141 = .ok (.iadd, 1) := by decide +kernel
theorem dL_law_142 : decode cL_law 142 = .ok (.iaload, 1) := by decide +kernel
theorem dL_law_143 : decode cL_law 143 = .ok (.invokevirtual 19, 3) := by decide +kernel
theorem dL_law_146 : decode cL_law 146 = .ok (.aload_n 2, 1) := by decide +kernel
theorem dL_law_147 : decode cL_law 147 = .ok (.aload_n 0, 1) := by decide +kernel
theorem dL_law_148 : decode cL_law 148 = .ok (.iload 4, 2) := by decide +kernel
theorem dL_law_150 : decode cL_law 150 = .ok (.iconst 1, 1) := by decide +kernel
theorem dL_law_151 : decode cL_law 151 = .ok (.iadd, 1) := by decide +kernel
theorem dL_law_152 : decode cL_law 152 = .ok (.iaload, 1) := by decide +kernel
theorem dL_law_153 : decode cL_law 153 = .ok (.invokevirtual 22, 3) := by decide +kernel
theorem dL_law_156 : decode cL_law 156 = .ok (.if_icmp .eq 660, 3) := by decide +kernel
theorem dL_law_159 : decode cL_law 159 = .ok (.iconst 0, 1) := by decide +kernel
theorem dL_law_160 : decode cL_law 160 = .ok (.ireturn, 1) := by decide +kernel
theorem dL_law_161 : decode cL_law 161 = .ok (.aload_n 1, 1) := by decide +kernel
theorem dL_law_162 : decode cL_law 162 = .ok (.invokevirtual 23, 3) := by decide +kernel
theorem dL_law_165 : decode cL_law 165 = .ok (.aload_n 2, 1) := by decide +kernel
theorem dL_law_166 : decode cL_law 166 = .ok (.invokevirtual 27, 3) := by decide +kernel
theorem dL_law_169 : decode cL_law 169 = .ok (.if_icmp .eq 647, 3) := by decide +kernel
theorem dL_law_172 : decode cL_law 172 = .ok (.iconst 0, 1) := by decide +kernel
theorem dL_law_173 : decode cL_law 173 = .ok (.ireturn, 1) := by decide +kernel
theorem dL_law_174 : decode cL_law 174 = .ok (.aload_n 1, 1) := by decide +kernel
theorem dL_law_175 : decode cL_law 175 = .ok (.aload_n 0, 1) := by decide +kernel
theorem dL_law_176 : decode cL_law 176 = .ok (.iload 4, 2) := by decide +kernel
theorem dL_law_178 : decode cL_law 178 = .ok (.iconst 1, 1) := by decide +kernel
theorem dL_law_179 : decode cL_law 179 = .ok (.iadd, 1) := by decide +kernel
theorem dL_law_180 : decode cL_law 180 = .ok (.iaload, 1) := by decide +kernel
theorem dL_law_181 : decode cL_law 181 = .ok (.invokevirtual 28, 3) := by decide +kernel
theorem dL_law_184 : decode cL_law 184 = .ok (.aload_n 2, 1) := by decide +kernel
theorem dL_law_185 : decode cL_law 185 = .ok (.aload_n 0, 1) := by decide +kernel
theorem dL_law_186 : decode cL_law 186 = .ok (.iload 4, 2) := by decide +kernel
theorem dL_law_188 : decode cL_law 188 = .ok (.iconst 1, 1) := by decide +kernel
theorem dL_law_189 : decode cL_law 189 = .ok (.iadd, 1) := by decide +kernel
theorem dL_law_190 : decode cL_law 190 = .ok (.iaload, 1) := by decide +kernel
theorem dL_law_191 : decode cL_law 191 = .ok (.invokevirtual 31, 3) := by decide +kernel
theorem dL_law_194 : decode cL_law 194 = .ok (.if_icmp .eq 622, 3) := by decide +kernel
theorem dL_law_197 : decode cL_law 197 = .ok (.iconst 0, 1) := by decide +kernel
theorem dL_law_198 : decode cL_law 198 = .ok (.ireturn, 1) := by decide +kernel
theorem dL_law_199 : decode cL_law 199 = .ok (.aload_n 1, 1) := by decide +kernel
theorem dL_law_200 : decode cL_law 200 = .ok (.aload_n 0, 1) := by decide +kernel
theorem dL_law_201 : decode cL_law 201 = .ok (.iload 4, 2) := by decide +kernel
theorem dL_law_203 : decode cL_law 203 = .ok (.iconst 1, 1) := by decide +kernel
theorem dL_law_204 : decode cL_law 204 = .ok (.iadd, 1) := by decide +kernel
theorem dL_law_205 : decode cL_law 205 = .ok (.iaload, 1) := by decide +kernel
theorem dL_law_206 : decode cL_law 206 = .ok (.aload_n 0, 1) := by decide +kernel
theorem dL_law_207 : decode cL_law 207 = .ok (.iload 4, 2) := by decide +kernel
theorem dL_law_209 : decode cL_law 209 = .ok (.iconst 2, 1) := by decide +kernel
theorem dL_law_210 : decode cL_law 210 = .ok (.iadd, 1) := by decide +kernel
theorem dL_law_211 : decode cL_law 211 = .ok (.iaload, 1) := by decide +kernel
theorem dL_law_212 : decode cL_law 212 = .ok (.invokevirtual 32, 3) := by decide +kernel
theorem dL_law_215 : decode cL_law 215 = .ok (.aload_n 2, 1) := by decide +kernel
theorem dL_law_216 : decode cL_law 216 = .ok (.aload_n 0, 1) := by decide +kernel
theorem dL_law_217 : decode cL_law 217 = .ok (.iload 4, 2) := by decide +kernel
theorem dL_law_219 : decode cL_law 219 = .ok (.iconst 1, 1) := by decide +kernel
theorem dL_law_220 : decode cL_law 220 = .ok (.iadd, 1) := by decide +kernel
theorem dL_law_221 : decode cL_law 221 = .ok (.iaload, 1) := by decide +kernel
theorem dL_law_222 : decode cL_law 222 = .ok (.aload_n 0, 1) := by decide +kernel
theorem dL_law_223 : decode cL_law 223 = .ok (.iload 4, 2) := by decide +kernel
theorem dL_law_225 : decode cL_law 225 = .ok (.iconst 2, 1) := by decide +kernel
theorem dL_law_226 : decode cL_law 226 = .ok (.iadd, 1) := by decide +kernel
theorem dL_law_227 : decode cL_law 227 = .ok (.iaload, 1) := by decide +kernel
theorem dL_law_228 : decode cL_law 228 = .ok (.invokevirtual 36, 3) := by decide +kernel
theorem dL_law_231 : decode cL_law 231 = .ok (.if_icmp .eq 585, 3) := by decide +kernel
theorem dL_law_234 : decode cL_law 234 = .ok (.iconst 0, 1) := by decide +kernel
theorem dL_law_235 : decode cL_law 235 = .ok (.ireturn, 1) := by decide +kernel
theorem dL_law_236 : decode cL_law 236 = .ok (.aload_n 1, 1) := by decide +kernel
theorem dL_law_237 : decode cL_law 237 = .ok (.aload_n 0, 1) := by decide +kernel
theorem dL_law_238 : decode cL_law 238 = .ok (.iload 4, 2) := by decide +kernel
theorem dL_law_240 : decode cL_law 240 = .ok (.iconst 1, 1) := by decide +kernel
theorem dL_law_241 : decode cL_law 241 = .ok (.iadd, 1) := by decide +kernel
theorem dL_law_242 : decode cL_law 242 = .ok (.iaload, 1) := by decide +kernel
theorem dL_law_243 : decode cL_law 243 = .ok (.aload_n 0, 1) := by decide +kernel
theorem dL_law_244 : decode cL_law 244 = .ok (.iload 4, 2) := by decide +kernel
theorem dL_law_246 : decode cL_law 246 = .ok (.iconst 2, 1) := by decide +kernel
theorem dL_law_247 : decode cL_law 247 = .ok (.iadd, 1) := by decide +kernel
theorem dL_law_248 : decode cL_law 248 = .ok (.iaload, 1) := by decide +kernel
theorem dL_law_249 : decode cL_law 249 = .ok (.invokevirtual 37, 3) := by decide +kernel
theorem dL_law_252 : decode cL_law 252 = .ok (.aload_n 2, 1) := by decide +kernel
theorem dL_law_253 : decode cL_law 253 = .ok (.aload_n 0, 1) := by decide +kernel
theorem dL_law_254 : decode cL_law 254 = .ok (.iload 4, 2) := by decide +kernel
theorem dL_law_256 : decode cL_law 256 = .ok (.iconst 1, 1) := by decide +kernel
theorem dL_law_257 : decode cL_law 257 = .ok (.iadd, 1) := by decide +kernel
theorem dL_law_258 : decode cL_law 258 = .ok (.iaload, 1) := by decide +kernel
theorem dL_law_259 : decode cL_law 259 = .ok (.aload_n 0, 1) := by decide +kernel
theorem dL_law_260 : decode cL_law 260 = .ok (.iload 4, 2) := by decide +kernel
theorem dL_law_262 : decode cL_law 262 = .ok (.iconst 2, 1) := by decide +kernel
theorem dL_law_263 : decode cL_law 263 = .ok (.iadd, 1) := by decide +kernel
theorem dL_law_264 : decode cL_law 264 = .ok (.iaload, 1) := by decide +kernel
theorem dL_law_265 : decode cL_law 265 = .ok (.invokevirtual 40, 3) := by decide +kernel
theorem dL_law_268 : decode cL_law 268 = .ok (.if_icmp .eq 548, 3) := by decide +kernel
theorem dL_law_271 : decode cL_law 271 = .ok (.iconst 0, 1) := by decide +kernel
theorem dL_law_272 : decode cL_law 272 = .ok (.ireturn, 1) := by decide +kernel
theorem dL_law_273 : decode cL_law 273 = .ok (.aload_n 1, 1) := by decide +kernel
theorem dL_law_274 : decode cL_law 274 = .ok (.aload_n 0, 1) := by decide +kernel
theorem dL_law_275 : decode cL_law 275 = .ok (.iload 4, 2) := by decide +kernel
theorem dL_law_277 : decode cL_law 277 = .ok (.iconst 1, 1) := by decide +kernel
theorem dL_law_278 : decode cL_law 278 = .ok (.iadd, 1) := by decide +kernel
theorem dL_law_279 : decode cL_law 279 = .ok (.iaload, 1) := by decide +kernel
theorem dL_law_280 : decode cL_law 280 = .ok (.aload_n 0, 1) := by decide +kernel
theorem dL_law_281 : decode cL_law 281 = .ok (.iload 4, 2) := by decide +kernel
theorem dL_law_283 : decode cL_law 283 = .ok (.iconst 2, 1) := by decide +kernel
theorem dL_law_284 : decode cL_law 284 = .ok (.iadd, 1) := by decide +kernel
theorem dL_law_285 : decode cL_law 285 = .ok (.iaload, 1) := by decide +kernel
theorem dL_law_286 : decode cL_law 286 = .ok (.invokevirtual 41, 3) := by decide +kernel
theorem dL_law_289 : decode cL_law 289 = .ok (.aload_n 2, 1) := by decide +kernel
theorem dL_law_290 : decode cL_law 290 = .ok (.aload_n 0, 1) := by decide +kernel
theorem dL_law_291 : decode cL_law 291 = .ok (.iload 4, 2) := by decide +kernel
theorem dL_law_293 : decode cL_law 293 = .ok (.iconst 1, 1) := by decide +kernel
theorem dL_law_294 : decode cL_law 294 = .ok (.iadd, 1) := by decide +kernel
theorem dL_law_295 : decode cL_law 295 = .ok (.iaload, 1) := by decide +kernel
theorem dL_law_296 : decode cL_law 296 = .ok (.aload_n 0, 1) := by decide +kernel
theorem dL_law_297 : decode cL_law 297 = .ok (.iload 4, 2) := by decide +kernel
theorem dL_law_299 : decode cL_law 299 = .ok (.iconst 2, 1) := by decide +kernel
theorem dL_law_300 : decode cL_law 300 = .ok (.iadd, 1) := by decide +kernel
theorem dL_law_301 : decode cL_law 301 = .ok (.iaload, 1) := by decide +kernel
theorem dL_law_302 : decode cL_law 302 = .ok (.invokevirtual 44, 3) := by decide +kernel
theorem dL_law_305 : decode cL_law 305 = .ok (.if_icmp .eq 511, 3) := by decide +kernel
theorem dL_law_308 : decode cL_law 308 = .ok (.iconst 0, 1) := by decide +kernel
theorem dL_law_309 : decode cL_law 309 = .ok (.ireturn, 1) := by decide +kernel
theorem dL_law_310 : decode cL_law 310 = .ok (.aload_n 1, 1) := by decide +kernel
theorem dL_law_311 : decode cL_law 311 = .ok (.aload_n 0, 1) := by decide +kernel
theorem dL_law_312 : decode cL_law 312 = .ok (.iload 4, 2) := by decide +kernel
theorem dL_law_314 : decode cL_law 314 = .ok (.iconst 1, 1) := by decide +kernel
theorem dL_law_315 : decode cL_law 315 = .ok (.iadd, 1) := by decide +kernel
theorem dL_law_316 : decode cL_law 316 = .ok (.iaload, 1) := by decide +kernel
theorem dL_law_317 : decode cL_law 317 = .ok (.aload_n 0, 1) := by decide +kernel
theorem dL_law_318 : decode cL_law 318 = .ok (.iload 4, 2) := by decide +kernel
theorem dL_law_320 : decode cL_law 320 = .ok (.iconst 2, 1) := by decide +kernel
theorem dL_law_321 : decode cL_law 321 = .ok (.iadd, 1) := by decide +kernel
theorem dL_law_322 : decode cL_law 322 = .ok (.iaload, 1) := by decide +kernel
theorem dL_law_323 : decode cL_law 323 = .ok (.aload_n 0, 1) := by decide +kernel
theorem dL_law_324 : decode cL_law 324 = .ok (.iload 4, 2) := by decide +kernel
theorem dL_law_326 : decode cL_law 326 = .ok (.iconst 3, 1) := by decide +kernel
theorem dL_law_327 : decode cL_law 327 = .ok (.iadd, 1) := by decide +kernel
theorem dL_law_328 : decode cL_law 328 = .ok (.iaload, 1) := by decide +kernel
theorem dL_law_329 : decode cL_law 329 = .ok (.invokevirtual 45, 3) := by decide +kernel
theorem dL_law_332 : decode cL_law 332 = .ok (.aload_n 2, 1) := by decide +kernel
theorem dL_law_333 : decode cL_law 333 = .ok (.aload_n 0, 1) := by decide +kernel
theorem dL_law_334 : decode cL_law 334 = .ok (.iload 4, 2) := by decide +kernel
theorem dL_law_336 : decode cL_law 336 = .ok (.iconst 1, 1) := by decide +kernel
theorem dL_law_337 : decode cL_law 337 = .ok (.iadd, 1) := by decide +kernel
theorem dL_law_338 : decode cL_law 338 = .ok (.iaload, 1) := by decide +kernel
theorem dL_law_339 : decode cL_law 339 = .ok (.aload_n 0, 1) := by decide +kernel
theorem dL_law_340 : decode cL_law 340 = .ok (.iload 4, 2) := by decide +kernel
theorem dL_law_342 : decode cL_law 342 = .ok (.iconst 2, 1) := by decide +kernel
theorem dL_law_343 : decode cL_law 343 = .ok (.iadd, 1) := by decide +kernel
theorem dL_law_344 : decode cL_law 344 = .ok (.iaload, 1) := by decide +kernel
theorem dL_law_345 : decode cL_law 345 = .ok (.aload_n 0, 1) := by decide +kernel
theorem dL_law_346 : decode cL_law 346 = .ok (.iload 4, 2) := by decide +kernel
theorem dL_law_348 : decode cL_law 348 = .ok (.iconst 3, 1) := by decide +kernel
theorem dL_law_349 : decode cL_law 349 = .ok (.iadd, 1) := by decide +kernel
theorem dL_law_350 : decode cL_law 350 = .ok (.iaload, 1) := by decide +kernel
theorem dL_law_351 : decode cL_law 351 = .ok (.invokevirtual 49, 3) := by decide +kernel
theorem dL_law_354 : decode cL_law 354 = .ok (.if_icmp .eq 462, 3) := by decide +kernel
theorem dL_law_357 : decode cL_law 357 = .ok (.iconst 0, 1) := by decide +kernel
theorem dL_law_358 : decode cL_law 358 = .ok (.ireturn, 1) := by decide +kernel
theorem dL_law_359 : decode cL_law 359 = .ok (.aload_n 1, 1) := by decide +kernel
theorem dL_law_360 : decode cL_law 360 = .ok (.aload_n 0, 1) := by decide +kernel
theorem dL_law_361 : decode cL_law 361 = .ok (.iload 4, 2) := by decide +kernel
theorem dL_law_363 : decode cL_law 363 = .ok (.iconst 1, 1) := by decide +kernel
theorem dL_law_364 : decode cL_law 364 = .ok (.iadd, 1) := by decide +kernel
theorem dL_law_365 : decode cL_law 365 = .ok (.iaload, 1) := by decide +kernel
theorem dL_law_366 : decode cL_law 366 = .ok (.invokevirtual 50, 3) := by decide +kernel
theorem dL_law_369 : decode cL_law 369 = .ok (.aload_n 2, 1) := by decide +kernel
theorem dL_law_370 : decode cL_law 370 = .ok (.aload_n 0, 1) := by decide +kernel
theorem dL_law_371 : decode cL_law 371 = .ok (.iload 4, 2) := by decide +kernel
theorem dL_law_373 : decode cL_law 373 = .ok (.iconst 1, 1) := by decide +kernel
theorem dL_law_374 : decode cL_law 374 = .ok (.iadd, 1) := by decide +kernel
theorem dL_law_375 : decode cL_law 375 = .ok (.iaload, 1) := by decide +kernel
theorem dL_law_376 : decode cL_law 376 = .ok (.invokevirtual 53, 3) := by decide +kernel
theorem dL_law_379 : decode cL_law 379 = .ok (.if_icmp .eq 437, 3) := by decide +kernel
theorem dL_law_382 : decode cL_law 382 = .ok (.iconst 0, 1) := by decide +kernel
theorem dL_law_383 : decode cL_law 383 = .ok (.ireturn, 1) := by decide +kernel
theorem dL_law_384 : decode cL_law 384 = .ok (.aload_n 1, 1) := by decide +kernel
theorem dL_law_385 : decode cL_law 385 = .ok (.aload_n 0, 1) := by decide +kernel
theorem dL_law_386 : decode cL_law 386 = .ok (.iload 4, 2) := by decide +kernel
theorem dL_law_388 : decode cL_law 388 = .ok (.iconst 1, 1) := by decide +kernel
theorem dL_law_389 : decode cL_law 389 = .ok (.iadd, 1) := by decide +kernel
theorem dL_law_390 : decode cL_law 390 = .ok (.iaload, 1) := by decide +kernel
theorem dL_law_391 : decode cL_law 391 = .ok (.invokevirtual 54, 3) := by decide +kernel
theorem dL_law_394 : decode cL_law 394 = .ok (.aload_n 2, 1) := by decide +kernel
theorem dL_law_395 : decode cL_law 395 = .ok (.aload_n 0, 1) := by decide +kernel
theorem dL_law_396 : decode cL_law 396 = .ok (.iload 4, 2) := by decide +kernel
theorem dL_law_398 : decode cL_law 398 = .ok (.iconst 1, 1) := by decide +kernel
theorem dL_law_399 : decode cL_law 399 = .ok (.iadd, 1) := by decide +kernel
theorem dL_law_400 : decode cL_law 400 = .ok (.iaload, 1) := by decide +kernel
theorem dL_law_401 : decode cL_law 401 = .ok (.invokevirtual 57, 3) := by decide +kernel
theorem dL_law_404 : decode cL_law 404 = .ok (.if_icmp .eq 412, 3) := by decide +kernel
theorem dL_law_407 : decode cL_law 407 = .ok (.iconst 0, 1) := by decide +kernel
theorem dL_law_408 : decode cL_law 408 = .ok (.ireturn, 1) := by decide +kernel
theorem dL_law_409 : decode cL_law 409 = .ok (.aload_n 1, 1) := by decide +kernel
theorem dL_law_410 : decode cL_law 410 = .ok (.aload_n 0, 1) := by decide +kernel
theorem dL_law_411 : decode cL_law 411 = .ok (.iload 4, 2) := by decide +kernel
theorem dL_law_413 : decode cL_law 413 = .ok (.iconst 1, 1) := by decide +kernel
theorem dL_law_414 : decode cL_law 414 = .ok (.iadd, 1) := by decide +kernel
theorem dL_law_415 : decode cL_law 415 = .ok (.iaload, 1) := by decide +kernel
theorem dL_law_416 : decode cL_law 416 = .ok (.aload_n 0, 1) := by decide +kernel
theorem dL_law_417 : decode cL_law 417 = .ok (.iload 4, 2) := by decide +kernel
theorem dL_law_419 : decode cL_law 419 = .ok (.iconst 2, 1) := by decide +kernel
theorem dL_law_420 : decode cL_law 420 = .ok (.iadd, 1) := by decide +kernel
theorem dL_law_421 : decode cL_law 421 = .ok (.iaload, 1) := by decide +kernel
theorem dL_law_422 : decode cL_law 422 = .ok (.invokevirtual 58, 3) := by decide +kernel
theorem dL_law_425 : decode cL_law 425 = .ok (.aload_n 2, 1) := by decide +kernel
theorem dL_law_426 : decode cL_law 426 = .ok (.aload_n 0, 1) := by decide +kernel
theorem dL_law_427 : decode cL_law 427 = .ok (.iload 4, 2) := by decide +kernel
theorem dL_law_429 : decode cL_law 429 = .ok (.iconst 1, 1) := by decide +kernel
theorem dL_law_430 : decode cL_law 430 = .ok (.iadd, 1) := by decide +kernel
theorem dL_law_431 : decode cL_law 431 = .ok (.iaload, 1) := by decide +kernel
theorem dL_law_432 : decode cL_law 432 = .ok (.aload_n 0, 1) := by decide +kernel
theorem dL_law_433 : decode cL_law 433 = .ok (.iload 4, 2) := by decide +kernel
theorem dL_law_435 : decode cL_law 435 = .ok (.iconst 2, 1) := by decide +kernel
theorem dL_law_436 : decode cL_law 436 = .ok (.iadd, 1) := by decide +kernel
theorem dL_law_437 : decode cL_law 437 = .ok (.iaload, 1) := by decide +kernel
theorem dL_law_438 : decode cL_law 438 = .ok (.invokevirtual 61, 3) := by decide +kernel
theorem dL_law_441 : decode cL_law 441 = .ok (.if_icmp .eq 375, 3) := by decide +kernel
theorem dL_law_444 : decode cL_law 444 = .ok (.iconst 0, 1) := by decide +kernel
theorem dL_law_445 : decode cL_law 445 = .ok (.ireturn, 1) := by decide +kernel
theorem dL_law_446 : decode cL_law 446 = .ok (.aload_n 1, 1) := by decide +kernel
theorem dL_law_447 : decode cL_law 447 = .ok (.aload_n 0, 1) := by decide +kernel
theorem dL_law_448 : decode cL_law 448 = .ok (.iload 4, 2) := by decide +kernel
theorem dL_law_450 : decode cL_law 450 = .ok (.iconst 1, 1) := by decide +kernel
theorem dL_law_451 : decode cL_law 451 = .ok (.iadd, 1) := by decide +kernel
theorem dL_law_452 : decode cL_law 452 = .ok (.iaload, 1) := by decide +kernel
theorem dL_law_453 : decode cL_law 453 = .ok (.aload_n 0, 1) := by decide +kernel
theorem dL_law_454 : decode cL_law 454 = .ok (.iload 4, 2) := by decide +kernel
theorem dL_law_456 : decode cL_law 456 = .ok (.iconst 2, 1) := by decide +kernel
theorem dL_law_457 : decode cL_law 457 = .ok (.iadd, 1) := by decide +kernel
theorem dL_law_458 : decode cL_law 458 = .ok (.iaload, 1) := by decide +kernel
theorem dL_law_459 : decode cL_law 459 = .ok (.invokevirtual 62, 3) := by decide +kernel
theorem dL_law_462 : decode cL_law 462 = .ok (.aload_n 2, 1) := by decide +kernel
theorem dL_law_463 : decode cL_law 463 = .ok (.aload_n 0, 1) := by decide +kernel
theorem dL_law_464 : decode cL_law 464 = .ok (.iload 4, 2) := by decide +kernel
theorem dL_law_466 : decode cL_law 466 = .ok (.iconst 1, 1) := by decide +kernel
theorem dL_law_467 : decode cL_law 467 = .ok (.iadd, 1) := by decide +kernel
theorem dL_law_468 : decode cL_law 468 = .ok (.iaload, 1) := by decide +kernel
theorem dL_law_469 : decode cL_law 469 = .ok (.aload_n 0, 1) := by decide +kernel
theorem dL_law_470 : decode cL_law 470 = .ok (.iload 4, 2) := by decide +kernel
theorem dL_law_472 : decode cL_law 472 = .ok (.iconst 2, 1) := by decide +kernel
theorem dL_law_473 : decode cL_law 473 = .ok (.iadd, 1) := by decide +kernel
theorem dL_law_474 : decode cL_law 474 = .ok (.iaload, 1) := by decide +kernel
theorem dL_law_475 : decode cL_law 475 = .ok (.invokevirtual 65, 3) := by decide +kernel
theorem dL_law_478 : decode cL_law 478 = .ok (.if_icmp .eq 338, 3) := by decide +kernel
theorem dL_law_481 : decode cL_law 481 = .ok (.iconst 0, 1) := by decide +kernel
theorem dL_law_482 : decode cL_law 482 = .ok (.ireturn, 1) := by decide +kernel
theorem dL_law_483 : decode cL_law 483 = .ok (.aload_n 1, 1) := by decide +kernel
theorem dL_law_484 : decode cL_law 484 = .ok (.aload_n 0, 1) := by decide +kernel
theorem dL_law_485 : decode cL_law 485 = .ok (.iload 4, 2) := by decide +kernel
theorem dL_law_487 : decode cL_law 487 = .ok (.iconst 1, 1) := by decide +kernel
theorem dL_law_488 : decode cL_law 488 = .ok (.iadd, 1) := by decide +kernel
theorem dL_law_489 : decode cL_law 489 = .ok (.iaload, 1) := by decide +kernel
theorem dL_law_490 : decode cL_law 490 = .ok (.invokevirtual 66, 3) := by decide +kernel
theorem dL_law_493 : decode cL_law 493 = .ok (.aload_n 2, 1) := by decide +kernel
theorem dL_law_494 : decode cL_law 494 = .ok (.aload_n 0, 1) := by decide +kernel
theorem dL_law_495 : decode cL_law 495 = .ok (.iload 4, 2) := by decide +kernel
theorem dL_law_497 : decode cL_law 497 = .ok (.iconst 1, 1) := by decide +kernel
theorem dL_law_498 : decode cL_law 498 = .ok (.iadd, 1) := by decide +kernel
theorem dL_law_499 : decode cL_law 499 = .ok (.iaload, 1) := by decide +kernel
theorem dL_law_500 : decode cL_law 500 = .ok (.invokevirtual 69, 3) := by decide +kernel
theorem dL_law_503 : decode cL_law 503 = .ok (.if_icmp .eq 313, 3) := by decide +kernel
theorem dL_law_506 : decode cL_law 506 = .ok (.iconst 0, 1) := by decide +kernel
theorem dL_law_507 : decode cL_law 507 = .ok (.ireturn, 1) := by decide +kernel
theorem dL_law_508 : decode cL_law 508 = .ok (.aload_n 1, 1) := by decide +kernel
theorem dL_law_509 : decode cL_law 509 = .ok (.aload_n 0, 1) := by decide +kernel
theorem dL_law_510 : decode cL_law 510 = .ok (.iload 4, 2) := by decide +kernel
theorem dL_law_512 : decode cL_law 512 = .ok (.iconst 1, 1) := by decide +kernel
theorem dL_law_513 : decode cL_law 513 = .ok (.iadd, 1) := by decide +kernel
theorem dL_law_514 : decode cL_law 514 = .ok (.iaload, 1) := by decide +kernel
theorem dL_law_515 : decode cL_law 515 = .ok (.aload_n 0, 1) := by decide +kernel
theorem dL_law_516 : decode cL_law 516 = .ok (.iload 4, 2) := by decide +kernel
theorem dL_law_518 : decode cL_law 518 = .ok (.iconst 2, 1) := by decide +kernel
theorem dL_law_519 : decode cL_law 519 = .ok (.iadd, 1) := by decide +kernel
theorem dL_law_520 : decode cL_law 520 = .ok (.iaload, 1) := by decide +kernel
theorem dL_law_521 : decode cL_law 521 = .ok (.invokevirtual 70, 3) := by decide +kernel
theorem dL_law_524 : decode cL_law 524 = .ok (.aload_n 2, 1) := by decide +kernel
theorem dL_law_525 : decode cL_law 525 = .ok (.aload_n 0, 1) := by decide +kernel
theorem dL_law_526 : decode cL_law 526 = .ok (.iload 4, 2) := by decide +kernel
theorem dL_law_528 : decode cL_law 528 = .ok (.iconst 1, 1) := by decide +kernel
theorem dL_law_529 : decode cL_law 529 = .ok (.iadd, 1) := by decide +kernel
theorem dL_law_530 : decode cL_law 530 = .ok (.iaload, 1) := by decide +kernel
theorem dL_law_531 : decode cL_law 531 = .ok (.aload_n 0, 1) := by decide +kernel
theorem dL_law_532 : decode cL_law 532 = .ok (.iload 4, 2) := by decide +kernel
theorem dL_law_534 : decode cL_law 534 = .ok (.iconst 2, 1) := by decide +kernel
theorem dL_law_535 : decode cL_law 535 = .ok (.iadd, 1) := by decide +kernel
theorem dL_law_536 : decode cL_law 536 = .ok (.iaload, 1) := by decide +kernel
theorem dL_law_537 : decode cL_law 537 = .ok (.invokevirtual 73, 3) := by decide +kernel
theorem dL_law_540 : decode cL_law 540 = .ok (.if_icmp .eq 276, 3) := by decide +kernel
theorem dL_law_543 : decode cL_law 543 = .ok (.iconst 0, 1) := by decide +kernel
theorem dL_law_544 : decode cL_law 544 = .ok (.ireturn, 1) := by decide +kernel
theorem dL_law_545 : decode cL_law 545 = .ok (.aload_n 1, 1) := by decide +kernel
theorem dL_law_546 : decode cL_law 546 = .ok (.aload_n 0, 1) := by decide +kernel
theorem dL_law_547 : decode cL_law 547 = .ok (.iload 4, 2) := by decide +kernel
theorem dL_law_549 : decode cL_law 549 = .ok (.iconst 1, 1) := by decide +kernel
theorem dL_law_550 : decode cL_law 550 = .ok (.iadd, 1) := by decide +kernel
theorem dL_law_551 : decode cL_law 551 = .ok (.iaload, 1) := by decide +kernel
theorem dL_law_552 : decode cL_law 552 = .ok (.invokevirtual 74, 3) := by decide +kernel
theorem dL_law_555 : decode cL_law 555 = .ok (.aload_n 2, 1) := by decide +kernel
theorem dL_law_556 : decode cL_law 556 = .ok (.aload_n 0, 1) := by decide +kernel
theorem dL_law_557 : decode cL_law 557 = .ok (.iload 4, 2) := by decide +kernel
theorem dL_law_559 : decode cL_law 559 = .ok (.iconst 1, 1) := by decide +kernel
theorem dL_law_560 : decode cL_law 560 = .ok (.iadd, 1) := by decide +kernel
theorem dL_law_561 : decode cL_law 561 = .ok (.iaload, 1) := by decide +kernel
theorem dL_law_562 : decode cL_law 562 = .ok (.invokevirtual 77, 3) := by decide +kernel
theorem dL_law_565 : decode cL_law 565 = .ok (.if_icmp .eq 251, 3) := by decide +kernel
theorem dL_law_568 : decode cL_law 568 = .ok (.iconst 0, 1) := by decide +kernel
theorem dL_law_569 : decode cL_law 569 = .ok (.ireturn, 1) := by decide +kernel
theorem dL_law_570 : decode cL_law 570 = .ok (.aload_n 1, 1) := by decide +kernel
theorem dL_law_571 : decode cL_law 571 = .ok (.aload_n 0, 1) := by decide +kernel
theorem dL_law_572 : decode cL_law 572 = .ok (.iload 4, 2) := by decide +kernel
theorem dL_law_574 : decode cL_law 574 = .ok (.iconst 1, 1) := by decide +kernel
theorem dL_law_575 : decode cL_law 575 = .ok (.iadd, 1) := by decide +kernel
theorem dL_law_576 : decode cL_law 576 = .ok (.iaload, 1) := by decide +kernel
theorem dL_law_577 : decode cL_law 577 = .ok (.aload_n 0, 1) := by decide +kernel
theorem dL_law_578 : decode cL_law 578 = .ok (.iload 4, 2) := by decide +kernel
theorem dL_law_580 : decode cL_law 580 = .ok (.iconst 2, 1) := by decide +kernel
theorem dL_law_581 : decode cL_law 581 = .ok (.iadd, 1) := by decide +kernel
theorem dL_law_582 : decode cL_law 582 = .ok (.iaload, 1) := by decide +kernel
theorem dL_law_583 : decode cL_law 583 = .ok (.invokevirtual 78, 3) := by decide +kernel
theorem dL_law_586 : decode cL_law 586 = .ok (.aload_n 2, 1) := by decide +kernel
theorem dL_law_587 : decode cL_law 587 = .ok (.aload_n 0, 1) := by decide +kernel
theorem dL_law_588 : decode cL_law 588 = .ok (.iload 4, 2) := by decide +kernel
theorem dL_law_590 : decode cL_law 590 = .ok (.iconst 1, 1) := by decide +kernel
theorem dL_law_591 : decode cL_law 591 = .ok (.iadd, 1) := by decide +kernel
theorem dL_law_592 : decode cL_law 592 = .ok (.iaload, 1) := by decide +kernel
theorem dL_law_593 : decode cL_law 593 = .ok (.aload_n 0, 1) := by decide +kernel
theorem dL_law_594 : decode cL_law 594 = .ok (.iload 4, 2) := by decide +kernel
theorem dL_law_596 : decode cL_law 596 = .ok (.iconst 2, 1) := by decide +kernel
theorem dL_law_597 : decode cL_law 597 = .ok (.iadd, 1) := by decide +kernel
theorem dL_law_598 : decode cL_law 598 = .ok (.iaload, 1) := by decide +kernel
theorem dL_law_599 : decode cL_law 599 = .ok (.invokevirtual 81, 3) := by decide +kernel
theorem dL_law_602 : decode cL_law 602 = .ok (.if_icmp .eq 214, 3) := by decide +kernel
theorem dL_law_605 : decode cL_law 605 = .ok (.iconst 0, 1) := by decide +kernel
theorem dL_law_606 : decode cL_law 606 = .ok (.ireturn, 1) := by decide +kernel
theorem dL_law_607 : decode cL_law 607 = .ok (.aload_n 1, 1) := by decide +kernel
theorem dL_law_608 : decode cL_law 608 = .ok (.aload_n 0, 1) := by decide +kernel
theorem dL_law_609 : decode cL_law 609 = .ok (.iload 4, 2) := by decide +kernel
theorem dL_law_611 : decode cL_law 611 = .ok (.iconst 1, 1) := by decide +kernel
theorem dL_law_612 : decode cL_law 612 = .ok (.iadd, 1) := by decide +kernel
theorem dL_law_613 : decode cL_law 613 = .ok (.iaload, 1) := by decide +kernel
theorem dL_law_614 : decode cL_law 614 = .ok (.invokevirtual 82, 3) := by decide +kernel
theorem dL_law_617 : decode cL_law 617 = .ok (.aload_n 2, 1) := by decide +kernel
theorem dL_law_618 : decode cL_law 618 = .ok (.aload_n 0, 1) := by decide +kernel
theorem dL_law_619 : decode cL_law 619 = .ok (.iload 4, 2) := by decide +kernel
theorem dL_law_621 : decode cL_law 621 = .ok (.iconst 1, 1) := by decide +kernel
theorem dL_law_622 : decode cL_law 622 = .ok (.iadd, 1) := by decide +kernel
theorem dL_law_623 : decode cL_law 623 = .ok (.iaload, 1) := by decide +kernel
theorem dL_law_624 : decode cL_law 624 = .ok (.invokevirtual 85, 3) := by decide +kernel
theorem dL_law_627 : decode cL_law 627 = .ok (.if_icmp .eq 189, 3) := by decide +kernel
theorem dL_law_630 : decode cL_law 630 = .ok (.iconst 0, 1) := by decide +kernel
theorem dL_law_631 : decode cL_law 631 = .ok (.ireturn, 1) := by decide +kernel
theorem dL_law_632 : decode cL_law 632 = .ok (.aload_n 1, 1) := by decide +kernel
theorem dL_law_633 : decode cL_law 633 = .ok (.invokevirtual 86, 3) := by decide +kernel
theorem dL_law_636 : decode cL_law 636 = .ok (.aload_n 2, 1) := by decide +kernel
theorem dL_law_637 : decode cL_law 637 = .ok (.invokevirtual 89, 3) := by decide +kernel
theorem dL_law_640 : decode cL_law 640 = .ok (.if_icmp .eq 176, 3) := by decide +kernel
theorem dL_law_643 : decode cL_law 643 = .ok (.iconst 0, 1) := by decide +kernel
theorem dL_law_644 : decode cL_law 644 = .ok (.ireturn, 1) := by decide +kernel
theorem dL_law_645 : decode cL_law 645 = .ok (.aload_n 1, 1) := by decide +kernel
theorem dL_law_646 : decode cL_law 646 = .ok (.invokevirtual 90, 3) := by decide +kernel
theorem dL_law_649 : decode cL_law 649 = .ok (.aload_n 2, 1) := by decide +kernel
theorem dL_law_650 : decode cL_law 650 = .ok (.invokevirtual 93, 3) := by decide +kernel
theorem dL_law_653 : decode cL_law 653 = .ok (.if_icmp .eq 163, 3) := by decide +kernel
theorem dL_law_656 : decode cL_law 656 = .ok (.iconst 0, 1) := by decide +kernel
theorem dL_law_657 : decode cL_law 657 = .ok (.ireturn, 1) := by decide +kernel
theorem dL_law_658 : decode cL_law 658 = .ok (.aload_n 1, 1) := by decide +kernel
theorem dL_law_659 : decode cL_law 659 = .ok (.aload_n 0, 1) := by decide +kernel
theorem dL_law_660 : decode cL_law 660 = .ok (.iload 4, 2) := by decide +kernel
theorem dL_law_662 : decode cL_law 662 = .ok (.iconst 1, 1) := by decide +kernel
theorem dL_law_663 : decode cL_law 663 = .ok (.iadd, 1) := by decide +kernel
theorem dL_law_664 : decode cL_law 664 = .ok (.iaload, 1) := by decide +kernel
theorem dL_law_665 : decode cL_law 665 = .ok (.aload_n 0, 1) := by decide +kernel
theorem dL_law_666 : decode cL_law 666 = .ok (.iload 4, 2) := by decide +kernel
theorem dL_law_668 : decode cL_law 668 = .ok (.iconst 2, 1) := by decide +kernel
theorem dL_law_669 : decode cL_law 669 = .ok (.iadd, 1) := by decide +kernel
theorem dL_law_670 : decode cL_law 670 = .ok (.iaload, 1) := by decide +kernel
theorem dL_law_671 : decode cL_law 671 = .ok (.aload_n 0, 1) := by decide +kernel
theorem dL_law_672 : decode cL_law 672 = .ok (.iload 4, 2) := by decide +kernel
theorem dL_law_674 : decode cL_law 674 = .ok (.iconst 3, 1) := by decide +kernel
theorem dL_law_675 : decode cL_law 675 = .ok (.iadd, 1) := by decide +kernel
theorem dL_law_676 : decode cL_law 676 = .ok (.iaload, 1) := by decide +kernel
theorem dL_law_677 : decode cL_law 677 = .ok (.ifCond .eq 7, 3) := by decide +kernel
theorem dL_law_680 : decode cL_law 680 = .ok (.iconst 1, 1) := by decide +kernel
theorem dL_law_681 : decode cL_law 681 = .ok (.goto 4, 3) := by decide +kernel
theorem dL_law_684 : decode cL_law 684 = .ok (.iconst 0, 1) := by decide +kernel
theorem dL_law_685 : decode cL_law 685 = .ok (.invokevirtual 94, 3) := by decide +kernel
theorem dL_law_688 : decode cL_law 688 = .ok (.aload_n 2, 1) := by decide +kernel
theorem dL_law_689 : decode cL_law 689 = .ok (.aload_n 0, 1) := by decide +kernel
theorem dL_law_690 : decode cL_law 690 = .ok (.iload 4, 2) := by decide +kernel
theorem dL_law_692 : decode cL_law 692 = .ok (.iconst 1, 1) := by decide +kernel
theorem dL_law_693 : decode cL_law 693 = .ok (.iadd, 1) := by decide +kernel
theorem dL_law_694 : decode cL_law 694 = .ok (.iaload, 1) := by decide +kernel
theorem dL_law_695 : decode cL_law 695 = .ok (.aload_n 0, 1) := by decide +kernel
theorem dL_law_696 : decode cL_law 696 = .ok (.iload 4, 2) := by decide +kernel
theorem dL_law_698 : decode cL_law 698 = .ok (.iconst 2, 1) := by decide +kernel
theorem dL_law_699 : decode cL_law 699 = .ok (.iadd, 1) := by decide +kernel
theorem dL_law_700 : decode cL_law 700 = .ok (.iaload, 1) := by decide +kernel
theorem dL_law_701 : decode cL_law 701 = .ok (.aload_n 0, 1) := by decide +kernel
theorem dL_law_702 : decode cL_law 702 = .ok (.iload 4, 2) := by decide +kernel
theorem dL_law_704 : decode cL_law 704 = .ok (.iconst 3, 1) := by decide +kernel
theorem dL_law_705 : decode cL_law 705 = .ok (.iadd, 1) := by decide +kernel
theorem dL_law_706 : decode cL_law 706 = .ok (.iaload, 1) := by decide +kernel
theorem dL_law_707 : decode cL_law 707 = .ok (.ifCond .eq 7, 3) := by decide +kernel
theorem dL_law_710 : decode cL_law 710 = .ok (.iconst 1, 1) := by decide +kernel
theorem dL_law_711 : decode cL_law 711 = .ok (.goto 4, 3) := by decide +kernel
theorem dL_law_714 : decode cL_law 714 = .ok (.iconst 0, 1) := by decide +kernel
theorem dL_law_715 : decode cL_law 715 = .ok (.invokevirtual 98, 3) := by decide +kernel
theorem dL_law_718 : decode cL_law 718 = .ok (.if_icmp .eq 98, 3) := by decide +kernel
theorem dL_law_721 : decode cL_law 721 = .ok (.iconst 0, 1) := by decide +kernel
theorem dL_law_722 : decode cL_law 722 = .ok (.ireturn, 1) := by decide +kernel
theorem dL_law_723 : decode cL_law 723 = .ok (.aload_n 1, 1) := by decide +kernel
theorem dL_law_724 : decode cL_law 724 = .ok (.aload_n 0, 1) := by decide +kernel
theorem dL_law_725 : decode cL_law 725 = .ok (.iload 4, 2) := by decide +kernel
theorem dL_law_727 : decode cL_law 727 = .ok (.iconst 1, 1) := by decide +kernel
theorem dL_law_728 : decode cL_law 728 = .ok (.iadd, 1) := by decide +kernel
theorem dL_law_729 : decode cL_law 729 = .ok (.iaload, 1) := by decide +kernel
theorem dL_law_730 : decode cL_law 730 = .ok (.aload_n 0, 1) := by decide +kernel
theorem dL_law_731 : decode cL_law 731 = .ok (.iload 4, 2) := by decide +kernel
theorem dL_law_733 : decode cL_law 733 = .ok (.iconst 2, 1) := by decide +kernel
theorem dL_law_734 : decode cL_law 734 = .ok (.iadd, 1) := by decide +kernel
theorem dL_law_735 : decode cL_law 735 = .ok (.iaload, 1) := by decide +kernel
theorem dL_law_736 : decode cL_law 736 = .ok (.invokevirtual 99, 3) := by decide +kernel
theorem dL_law_739 : decode cL_law 739 = .ok (.aload_n 2, 1) := by decide +kernel
theorem dL_law_740 : decode cL_law 740 = .ok (.aload_n 0, 1) := by decide +kernel
theorem dL_law_741 : decode cL_law 741 = .ok (.iload 4, 2) := by decide +kernel
theorem dL_law_743 : decode cL_law 743 = .ok (.iconst 1, 1) := by decide +kernel
theorem dL_law_744 : decode cL_law 744 = .ok (.iadd, 1) := by decide +kernel
theorem dL_law_745 : decode cL_law 745 = .ok (.iaload, 1) := by decide +kernel
theorem dL_law_746 : decode cL_law 746 = .ok (.aload_n 0, 1) := by decide +kernel
theorem dL_law_747 : decode cL_law 747 = .ok (.iload 4, 2) := by decide +kernel
theorem dL_law_749 : decode cL_law 749 = .ok (.iconst 2, 1) := by decide +kernel
theorem dL_law_750 : decode cL_law 750 = .ok (.iadd, 1) := by decide +kernel
theorem dL_law_751 : decode cL_law 751 = .ok (.iaload, 1) := by decide +kernel
theorem dL_law_752 : decode cL_law 752 = .ok (.invokevirtual 102, 3) := by decide +kernel
theorem dL_law_755 : decode cL_law 755 = .ok (.if_icmp .eq 61, 3) := by decide +kernel
theorem dL_law_758 : decode cL_law 758 = .ok (.iconst 0, 1) := by decide +kernel
theorem dL_law_759 : decode cL_law 759 = .ok (.ireturn, 1) := by decide +kernel
theorem dL_law_760 : decode cL_law 760 = .ok (.aload_n 1, 1) := by decide +kernel
theorem dL_law_761 : decode cL_law 761 = .ok (.aload_n 0, 1) := by decide +kernel
theorem dL_law_762 : decode cL_law 762 = .ok (.iload 4, 2) := by decide +kernel
theorem dL_law_764 : decode cL_law 764 = .ok (.iconst 1, 1) := by decide +kernel
theorem dL_law_765 : decode cL_law 765 = .ok (.iadd, 1) := by decide +kernel
theorem dL_law_766 : decode cL_law 766 = .ok (.iaload, 1) := by decide +kernel
theorem dL_law_767 : decode cL_law 767 = .ok (.aload_n 3, 1) := by decide +kernel
theorem dL_law_768 : decode cL_law 768 = .ok (.invokestatic 103, 3) := by decide +kernel
theorem dL_law_771 : decode cL_law 771 = .ok (.istore 5, 2) := by decide +kernel
theorem dL_law_773 : decode cL_law 773 = .ok (.aload_n 2, 1) := by decide +kernel
theorem dL_law_774 : decode cL_law 774 = .ok (.aload_n 0, 1) := by decide +kernel
theorem dL_law_775 : decode cL_law 775 = .ok (.iload 4, 2) := by decide +kernel
theorem dL_law_777 : decode cL_law 777 = .ok (.iconst 1, 1) := by decide +kernel
theorem dL_law_778 : decode cL_law 778 = .ok (.iadd, 1) := by decide +kernel
theorem dL_law_779 : decode cL_law 779 = .ok (.iaload, 1) := by decide +kernel
theorem dL_law_780 : decode cL_law 780 = .ok (.invokevirtual 108, 3) := by decide +kernel
theorem dL_law_783 : decode cL_law 783 = .ok (.istore 6, 2) := by decide +kernel
theorem dL_law_785 : decode cL_law 785 = .ok (.aload_n 2, 1) := by decide +kernel
theorem dL_law_786 : decode cL_law 786 = .ok (.invokevirtual 109, 3) := by decide +kernel
theorem dL_law_789 : decode cL_law 789 = .ok (.iload 5, 2) := by decide +kernel
theorem dL_law_791 : decode cL_law 791 = .ok (.if_icmp .eq 5, 3) := by decide +kernel
theorem dL_law_794 : decode cL_law 794 = .ok (.iconst 0, 1) := by decide +kernel
theorem dL_law_795 : decode cL_law 795 = .ok (.ireturn, 1) := by decide +kernel
theorem dL_law_796 : decode cL_law 796 = .ok (.iload 5, 2) := by decide +kernel
theorem dL_law_798 : decode cL_law 798 = .ok (.ifCond .ne 15, 3) := by decide +kernel
theorem dL_law_801 : decode cL_law 801 = .ok (.aload_n 3, 1) := by decide +kernel
theorem dL_law_802 : decode cL_law 802 = .ok (.iconst 0, 1) := by decide +kernel
theorem dL_law_803 : decode cL_law 803 = .ok (.laload, 1) := by decide +kernel
theorem dL_law_804 : decode cL_law 804 = .ok (.iload 6, 2) := by decide +kernel
theorem dL_law_806 : decode cL_law 806 = .ok (.i2l, 1) := by decide +kernel
theorem dL_law_807 : decode cL_law 807 = .ok (.lcmp, 1) := by decide +kernel
theorem dL_law_808 : decode cL_law 808 = .ok (.ifCond .eq 5, 3) := by decide +kernel
theorem dL_law_811 : decode cL_law 811 = .ok (.iconst 0, 1) := by decide +kernel
theorem dL_law_812 : decode cL_law 812 = .ok (.ireturn, 1) := by decide +kernel
theorem dL_law_813 : decode cL_law 813 = .ok (.goto 3, 3) := by decide +kernel
theorem dL_law_816 : decode cL_law 816 = .ok (.iinc 4 4, 3) := by decide +kernel
theorem dL_law_819 : decode cL_law 819 = .ok (.goto (-796), 3) := by decide +kernel
theorem dL_law_822 : decode cL_law 822 = .ok (.iconst 1, 1) := by decide +kernel
theorem dL_law_823 : decode cL_law 823 = .ok (.ireturn, 1) := by decide +kernel
end
