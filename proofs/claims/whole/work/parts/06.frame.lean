/-- the tables' words that last -/
def ec_tb : List Cond := lw_tbl.filter goodWord
/-- the links to the private constructors -/
def ec_nest : List Cond := [(Jvm.Cond.methodLinkNest "SuggestSpell" (9 : Nat) ({ cls := "SuggestSpell$Row", name := "<init>", desc := "()V" } : Jvm.MethodName) "SuggestSpell"), (Jvm.Cond.methodLinkNest "SuggestSpell$Words" (32 : Nat) ({ cls := "SuggestSpell$Row", name := "<init>", desc := "()V" } : Jvm.MethodName) "SuggestSpell"), (Jvm.Cond.methodLinkNest "SuggestSpell$Line" (21 : Nat) ({ cls := "SuggestSpell$Row", name := "<init>", desc := "()V" } : Jvm.MethodName) "SuggestSpell"), (Jvm.Cond.methodLinkNest "SuggestSpell$Table" (11 : Nat) ({ cls := "SuggestSpell$Row", name := "<init>", desc := "()V" } : Jvm.MethodName) "SuggestSpell"), (Jvm.Cond.methodLinkNest "SuggestSpell" (48 : Nat) ({ cls := "SuggestSpell$Ranking", name := "<init>", desc := "()V" } : Jvm.MethodName) "SuggestSpell"), (Jvm.Cond.methodLinkNest "SuggestSpell" (55 : Nat) ({ cls := "SuggestSpell$Parting", name := "<init>", desc := "()V" } : Jvm.MethodName) "SuggestSpell"), (Jvm.Cond.methodLinkNest "SuggestSpell$Parting" (11 : Nat) ({ cls := "SuggestSpell$Side", name := "<init>", desc := "()V" } : Jvm.MethodName) "SuggestSpell"), (Jvm.Cond.methodLinkNest "SuggestSpell" (62 : Nat) ({ cls := "SuggestSpell$Choice", name := "<init>", desc := "()V" } : Jvm.MethodName) "SuggestSpell")]
def ec_tys : List FieldType := [.int, .boolean, .long, .object "SuggestSpell$Row", .array .int]
theorem ec_in {w : Cond} (i : Nat) (h : tables_1[i]? = some w) (hg : goodWord w = true) : w ∈ ec_tb := List.mem_filter.mpr ⟨List.mem_append_right _ (List.mem_of_getElem? h), hg⟩
theorem ec_inS {w : Cond} (i : Nat) (h : (k2_sels lw_privs)[i]? = some w) (hg : goodWord w = true) : w ∈ ec_tb := List.mem_filter.mpr ⟨List.mem_append_left _ (List.mem_of_getElem? h), hg⟩
theorem ec_good (ws : List Cond) (h : ∀ w ∈ ws, w ∈ ec_tb) : GoodIn ec_tb ws := fun w hw => ⟨h w hw, good_of_word (List.mem_filter.mp (h w hw)).2⟩
/-! THE SMALL MACHINE: a judgement over the machine in which the heap is a picture (a function from addresses to cells), the locals a list, and all that is the same for every method (tables' words, classes, room) is hidden. Every row below is a row of the kit, said in these words. -/
abbrev ec_C : Type := (FieldType × vp_A) ⊕ (Nat × List Value)
/-- a picture of the heap: its size, and the cells that are ours -/
abbrev ec_H : Type := Nat × (Nat → Option ec_C)
/-- a method: its name, its bytes, its locals, what it answers -/
abbrev ec_M : Type := MethodName × ByteArray × Nat × Option FieldType
def ec_at (D : va_G) (kA : FieldType → ClassId) (a : Nat) (c : ec_C) (H : Heap) : Prop := match c with
  | .inl x => H[a]? = some (vp_cell (kA x.1) x.2)
  | .inr o => ∃ r : vw_C, vwCl[o.1]? = some r ∧ t_OB a (D.1 o.1) r.2.2 (D.2 o.1) H (vp_V o.2)
def ec_P (D : va_G) (kA : FieldType → ClassId) (B : Nat) (h : ec_H) (H : Heap) : Prop := H.size = h.1 ∧ ∀ (a : Nat) (c : ec_C), h.2 a = some c → B ≤ a ∧ ec_at D kA a c H
/-- what the tables say of an array class: its component -/
def ec_RA (U : State) (cA : ClassId) (ty : FieldType) : Prop := ArrOfT U cA ty ∧ ∃ (kC : Class) (comp : ClassId), U.vm.classes[cA]? = some kC ∧ kC.kind = .array comp ty
/-- rows of ints may be made into a row of rows -/
def ec_AOA (U : State) : Prop := (Cond.arrayOver (.array .int)).before #[] U = true
theorem ec_AOA.moved {u U : State} (hvm : u.vm.Alike U.vm) (h : ec_AOA u) : ec_AOA U := by
  obtain ⟨comp, c, k, h1, h2, h3, h4, h5⟩ := arrayOverA_spec h
  obtain ⟨k', hk', he⟩ := hvm.2.2 _ _ h3
  have hi : (U.vm.classes.findIdx? fun (x : Class) => match x.kind with | .array component _ => component == comp | _ => false) = some c := by
    refine (va_idx_bare U.vm comp).symm.trans ?_
    first | rw [hvm.bare_eq] | rw [← hvm.bare_eq]
    exact (va_idx_bare u.vm comp).trans h2
  have hkind : k'.kind = .array comp (.array .int) := by rw [he]; exact h4
  have f1 : U.vm.findClass (FieldType.array .int).toString = some comp := by rw [hvm.findClass]; exact h1
  have f2 : U.vm.findClass ("[" ++ (FieldType.array .int).toString) = some c := by rw [hvm.findClass]; exact h5
  unfold ec_AOA Cond.before Cond.holds
  simp only [Cond.value]
  rw [f1, Option.bind_some]
  refine (congrArg (fun o : Option Nat => (o.bind (fun c => (U.vm.classes[c]?).map fun (k : Class) => match k.kind with | .array _ ty => decide (ty = FieldType.array .int) && decide (U.vm.findClass ("[" ++ (FieldType.array .int).toString) = some c) | _ => false) == some true)) hi).trans ?_
  simp [hk', hkind, f2]
def ec_K (D : va_G) (kA : FieldType → ClassId) (U : State) : Prop := va_K D vwCl [] U ∧ (∀ ty ∈ ec_tys, ec_RA U (kA ty) ty ∧ U.vm.findClass ("[" ++ ty.toString) = some (kA ty)) ∧ (∀ w ∈ ec_nest, va_Nw w U) ∧ va_AO "SuggestSpell$Row" U ∧ ec_AOA U
def ec_lv (L : List (Option Value)) : List (Nat × Value) := L.zipIdx.filterMap (fun q => q.1.map (fun v => (q.2, v)))
def ec_W (l : Launch) (D : va_G) (kA : FieldType → ClassId) (B : Nat) (X : State → Prop) (R : Room) (Z : Array Value → State → List Frame → State → Prop) (M : ec_M) (uc us pc : Nat) (L : List (Option Value)) (st : List Value) (h : ec_H) : Prop :=
  ∀ (p : Program) (e : Env) (s : State) (m : MethodId) (args : Array Value) (below : List Frame) (meth : Method) (c : Code) (H : Heap) (locs : List Loc) (ls : Array Slot),
    p.tables.exec = Jvm.exec → c.code = M.2.1 → meth.sig.returnType = M.2.2.2 → c.maxLocals = M.2.2.1 → s.vm.findClass M.1.cls = some m.cls → (∀ w ∈ ec_tb, w.before args s = true) → meth.locks = false → meth.name = M.1.name → ec_K D kA s → X s → B ≤ s.heap.size →
    ec_P D kA B h H → va_S (fun q => B ≤ q) s.heap H locs → lv_has ls M.2.2.1 (ec_lv L) → W p l e R s m args below meth c H locs uc us (Z args s below) (F0 m pc ls st)
theorem ec_lv_mem {L : List (Option Value)} {i : Nat} {v : Value} (h : L[i]? = some (some v)) : (i, v) ∈ ec_lv L := by
  refine List.mem_filterMap.mpr ⟨(some v, i), ?_, rfl⟩
  rw [List.mem_zipIdx_iff_getElem?]
  exact h
theorem ec_lv_of {L : List (Option Value)} {q : Nat × Value} (h : q ∈ ec_lv L) : L[q.1]? = some (some q.2) := by
  obtain ⟨x, h1, h2⟩ := List.mem_filterMap.mp h
  rw [List.mem_zipIdx_iff_getElem?] at h1
  obtain ⟨o, i⟩ := x
  cases o with
  | none => cases h2
  | some v => cases h2; exact h1
theorem ec_ld {ls : Array Slot} {n : Nat} {L : List (Option Value)} (h : lv_has ls n (ec_lv L)) {i : Nat} {v : Value} (hl : L[i]? = some (some v)) : ls[i]? = some (.val v) := h.2.2 (i, v) (ec_lv_mem hl)
/-- no long stands just ahead -/
def ec_c1 (L : List (Option Value)) (i : Nat) : Bool := match i with
  | 0 => true
  | j + 1 => match L[j]? with
    | some (some v) => v.category == 1
    | _ => true
theorem ec_st {ls : Array Slot} {n : Nat} {L : List (Option Value)} {i : Nat} {v : Value} (h : lv_has ls n ((i, v) :: (ec_lv L).filter (fun q => !(q.1 == i) && !(q.1 + 1 == i && q.2.category == 2)))) (hc : ec_c1 L i = true) : lv_has ls n (ec_lv (L.set i (some v))) := by
  refine ⟨h.1, h.2.1, fun q hq => h.2.2 q ?_⟩
  have h1 := ec_lv_of hq
  rw [List.getElem?_set] at h1
  split at h1
  next e =>
    split at h1
    · obtain ⟨q1, q2⟩ := q
      simp only at e h1
      subst e
      cases h1
      exact List.mem_cons_self
    · cases h1
  next e =>
    refine List.mem_cons_of_mem _ (List.mem_filter.mpr ⟨?_, ?_⟩)
    · obtain ⟨q1, q2⟩ := q
      exact ec_lv_mem h1
    · have n1 : ¬ q.1 = i := fun z => e z.symm
      have n2 : ¬ (q.1 + 1 = i ∧ q.2.category = 2) := by
        rintro ⟨z1, z2⟩
        subst z1
        simp only [ec_c1, h1] at hc
        rw [z2] at hc
        cases hc
      simp only [Bool.and_eq_true, Bool.not_eq_true', beq_eq_false_iff_ne, ne_eq, n1, not_false_eq_true, true_and]
      rw [Bool.and_eq_false_iff]
      by_cases z1 : q.1 + 1 = i
      · exact Or.inr (by simpa using fun z2 => n2 ⟨z1, z2⟩)
      · exact Or.inl (by simpa using z1)

theorem ec_K.same {D : va_G} {kA : FieldType → ClassId} {u U : State} (h : u.vm = U.vm) (hK : ec_K D kA u) : ec_K D kA U := by
  obtain ⟨h1, h2, h3, h4, h4b⟩ := hK
  have ha : u.vm.Alike U.vm := by rw [h]; exact Vm.Alike.refl _
  refine ⟨va_K.moved ha h1, fun ty ht => ?_, fun w hw => ?_, va_AO.moved ha h4, ec_AOA.moved ha h4b⟩
  · obtain ⟨⟨a1, kC, comp, a2, a3⟩, a4⟩ := h2 ty ht
    exact ⟨⟨arrOfT_moved ha a1, kC, comp, by rw [← h]; exact a2, a3⟩, by rw [← h]; exact a4⟩
  · refine va_Nw.same ?_ h (h3 w hw)
    revert w
    unfold ec_nest
    simp [Cond.onTables]
theorem ec_K.warm {D : va_G} {kA : FieldType → ClassId} {s U : State} (hW : s.WarmedH U.vm) (hK : ec_K D kA s) : ec_K D kA U := by
  obtain ⟨h1, h2, h3, h4, h4b⟩ := hK
  have ha : s.vm.Alike U.vm := hW.alike
  refine ⟨va_K.moved ha h1, fun ty ht => ?_, fun w hw => ?_, va_AO.moved ha h4, ec_AOA.moved ha h4b⟩
  · obtain ⟨⟨a1, kC, comp, a2, a3⟩, a4⟩ := h2 ty ht
    obtain ⟨k', hk', he⟩ := ha.2.2 _ _ a2
    exact ⟨⟨arrOfT_moved ha a1, k', comp, hk', by rw [he]; exact a3⟩, by rw [ha.findClass]; exact a4⟩
  · have h5 := h3 w hw
    revert h5
    revert w
    unfold ec_nest
    simp only [List.mem_cons, List.not_mem_nil, or_false]
    rintro w (rfl | rfl | rfl | rfl | rfl | rfl | rfl | rfl) h5 <;> exact va_Nw.warmM hW h5
