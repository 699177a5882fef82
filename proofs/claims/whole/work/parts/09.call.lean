section ECN
variable {l : Launch} {D : va_G} {kA : FieldType → ClassId} {B : Nat} {X : State → Prop} {R : Room} {Z : Array Value → State → List Frame → State → Prop} {M : ec_M} {uc us pc : Nat} {L : List (Option Value)} {st : List Value} {h : ec_H}
/-! new cells -/
theorem e_newa {at9 : ArrayType} {ty : FieldType} {n : Int32} {N : Nat} {a0 : vp_A} (hd : decode M.2.1 pc = .ok (.newarray at9, 2)) (hty : newarray.typeOf at9 = ty) (hw : Cond.arrayClass ty ∈ ec_tb) (ht : ty ∈ ec_tys) (ha : ∀ cA : ClassId, vp_cell cA a0 = arrV cA N (fun _ => defaultValue ty)) (hn : ¬ n < 0) (hN : n.toNatClampNeg = N) (hby : N * componentBytes ty ≤ 536870912) (hc : uc + 1 ≤ R.cells) (hs : us + N ≤ R.slots) (hB9 : B ≤ h.1)
    (kk : ec_W l D kA B X R Z M (uc + 1) (us + N) (pc + 2) L (.ref h.1 :: st) (ec_add h (.inl (ty, a0)))) : ec_W l D kA B X R Z M uc us pc L (.int n :: st) h := by
  intro p e s m args below meth c H locs ls hx hb hr hml hown hts hlk hnm hK hX hB hP hS hl
  subst hty
  refine va_newaK hx hb (hts _ hw) rfl hd rfl hn hN hby hc hs hP.1 fun H1 cA e1 z1 o1 hAr hNm => ?_
  have hcA : cA = kA (newarray.typeOf at9) := Option.some.inj (hNm.symm.trans (hK.2.1 _ ht).2)
  refine kk p e s m args below meth c H1 locs ls hx hb hr hml hown hts hlk hnm hK hX hB (ec_P_add hP hB9 ?_ (by rw [z1, hP.1]) (fun q hq => o1 q (by rw [← hP.1]; exact hq))) (ec_S_add hS (by rw [z1, hP.1]) (fun q hq => o1 q (by rw [← hP.1]; exact hq))) hl
  show H1[h.1]? = some (vp_cell _ _)
  rw [ha, ← hcA]
  exact e1
theorem e_anew {idx : Nat} {C : String} {n : Int32} {N : Nat} (hd : decode M.2.1 pc = .ok (.anewarray idx, 3)) (hC : C = "SuggestSpell$Row") (hw : Cond.classLink M.1.cls idx C ∈ ec_tb) (hn : ¬ n < 0) (hN : n.toNatClampNeg = N) (hby : N * 4 ≤ 536870912) (hc : uc + 1 ≤ R.cells) (hs : us + N ≤ R.slots) (hB9 : B ≤ h.1)
    (kk : ec_W l D kA B X R Z M (uc + 1) (us + N) (pc + 3) L (.ref h.1 :: st) (ec_add h (.inl (.object C, N, .inr (.inr (.inr (.inr (fun _ => none)))))))) : ec_W l D kA B X R Z M uc us pc L (.int n :: st) h := by
  intro p e s m args below meth c H locs ls hx hb hr hml hown hts hlk hnm hK hX hB hP hS hl
  subst hN
  subst hC
  refine W.anew hx hb hown (hts _ hw) (va_AO.use hK.2.2.2.1) rfl hd rfl hn hby hc hs fun cA kC comp f1 f2 f3 f4 => ?_
  have hcA : cA = kA (.object "SuggestSpell$Row") := Option.some.inj (f1.symm.trans (hK.2.1 _ (by decide)).2)
  generalize hH1 : H.push ({ cls := cA, slots := Array.replicate n.toNatClampNeg .null, vm := .none } : Cell) = H1
  have z1 : H1.size = H.size + 1 := by rw [← hH1, Array.size_push]
  have e1 : H1[H.size]? = some (arrV cA n.toNatClampNeg (fun _ => .null)) := by rw [← hH1, Array.getElem?_push_size, ← arrV_new]
  have o1 : ∀ q : Nat, q < H.size → H1[q]? = H[q]? := fun q hq => by rw [← hH1, Array.getElem?_push, if_neg (Nat.ne_of_lt hq)]
  have k9 := kk p e s m args below meth c H1 locs ls hx hb hr hml hown hts hlk hnm hK hX hB (ec_P_add hP hB9 (by
    show H1[h.1]? = some (vp_cell _ _)
    rw [vp_cell_q, ← hcA, ← hP.1]
    exact e1) z1 o1) (ec_S_add hS z1 o1) hl
  rw [← hP.1] at k9
  exact k9
/-- a class of which objects are made -/
def ec_cn (own : String) (idx ci N : Nat) (fs : List Value) : Prop := ∃ (C : String) (T : u_T) (ty : Nat → FieldType), vwCl[ci]? = some (C, T, N) ∧ (∀ w ∈ u_ws C T N, w ∈ ec_tb) ∧ (∀ k, k < N → parseFieldDescriptor (T k).2.2.1 = some (ty k)) ∧ (∀ j, j < N → defaultValue (ty j) = vp_V fs j) ∧ Cond.classLink own idx C ∈ ec_tb ∧ Cond.instantiable C N ∈ ec_tb ∧ Cond.initialized C ∈ ec_tb
theorem e_new {idx ci N : Nat} {fs : List Value} (hf : ec_cn M.1.cls idx ci N fs) (hd : decode M.2.1 pc = .ok (.new idx, 3)) (hc : uc + 1 ≤ R.cells) (hs : us + N ≤ R.slots) (hB9 : B ≤ h.1)
    (kk : ec_W l D kA B X R Z M (uc + 1) (us + N) (pc + 3) L (.ref h.1 :: st) (ec_add h (.inr (ci, fs)))) : ec_W l D kA B X R Z M uc us pc L st h := by
  intro p e s m args below meth c H locs ls hx hb hr hml hown hts hlk hnm hK hX hB hP hS hl
  obtain ⟨C, T, ty, hcl, hin, hty, hfs, w1, w2, w3⟩ := hf
  have hKn := hK.1.1 ci _ hcl
  refine W.newcK hx hb hown (hts _ w1) (hts _ w2) (hts _ w3) rfl hd hc hs hKn.2.1 hP.1 fun H1 kC hkC e1 z1 o1 => ?_
  exact kk p e s m args below meth c H1 locs ls hx hb hr hml hown hts hlk hnm hK hX hB (ec_P_add hP hB9 ⟨_, hcl, (u_born ty hts hin hKn hkC e1 hty).to hfs⟩ (by rw [z1, hP.1]) (fun q hq => o1 q (by rw [← hP.1]; exact hq))) (ec_S_add hS (by rw [z1, hP.1]) (fun q hq => o1 q (by rw [← hP.1]; exact hq))) hl
/-! ends -/
def ec_Q (D : va_G) (kA : FieldType → ClassId) (B : Nat) (Q : Option Value → ec_H → Prop) : Array Value → State → Outcome → State → Prop := fun _ st oc t => (∃ (v : Option Value) (h1 : ec_H), oc = .returned v ∧ Q v h1 ∧ ec_P D kA B h1 t.heap) ∧ va_F (fun q => B ≤ q) st t
def ec_Z (D : va_G) (kA : FieldType → ClassId) (B : Nat) (Q : Option Value → ec_H → Prop) (mc ms : Nat) : Array Value → State → List Frame → State → Prop := fun args s below => MQ below (ec_Q D kA B Q) args s mc ms (fun q => B ≤ q)
variable {Q : Option Value → ec_H → Prop} {mc ms : Nat}
theorem e_iret {v : Int32} (hd : decode M.2.1 pc = .ok (.ireturn, 1)) (hr9 : M.2.2.2 = some .int) (h1 : uc ≤ mc) (h2 : us ≤ ms) (hq : Q (some (.int v)) h) : ec_W l D kA B X R (ec_Z D kA B Q mc ms) M uc us pc L [.int v] h := by
  intro p e s m args below meth c H locs ls hx hb hr hml hown hts hlk hnm hK hX hB hP hS hl
  refine W.widen h1 h2 ?_
  exact W.iret hx hb (hr.trans hr9) (fun t ht hW => ⟨⟨_, h, rfl, hq, by rw [ht]; exact hP⟩, hS.F ht⟩) hS.2.2 hd hlk
theorem e_zret {v : Int32} (hd : decode M.2.1 pc = .ok (.ireturn, 1)) (hr9 : M.2.2.2 = some .boolean) (hn : narrow .boolean (.int v) = .int v) (h1 : uc ≤ mc) (h2 : us ≤ ms) (hq : Q (some (.int v)) h) : ec_W l D kA B X R (ec_Z D kA B Q mc ms) M uc us pc L [.int v] h := by
  intro p e s m args below meth c H locs ls hx hb hr hml hown hts hlk hnm hK hX hB hP hS hl
  refine W.widen h1 h2 ?_
  exact W.zret hx hb (hr.trans hr9) hn (fun t ht hW => ⟨⟨_, h, rfl, hq, by rw [ht]; exact hP⟩, hS.F ht⟩) hS.2.2 hd hlk
theorem e_vret (hd : decode M.2.1 pc = .ok (.return_, 1)) (hr9 : M.2.2.2 = none) (h1 : uc ≤ mc) (h2 : us ≤ ms) (hq : Q none h) : ec_W l D kA B X R (ec_Z D kA B Q mc ms) M uc us pc L [] h := by
  intro p e s m args below meth c H locs ls hx hb hr hml hown hts hlk hnm hK hX hB hP hS hl
  refine W.widen h1 h2 ?_
  exact W.vret hx hb (hr.trans hr9) (fun t ht hW => ⟨⟨_, h, rfl, hq, by rw [ht]; exact hP⟩, hS.F ht⟩) hS.2.2 hd hlk
/-! a method's contract, and its call -/
abbrev ec_room (f lo mc ms : Nat) : Room := { frames := f, cells := mc, slots := ms, locals := lo }
def ec_L0 (M : ec_M) (as : List Value) : List (Option Value) := as.map some ++ List.replicate (M.2.2.1 - as.length) none
def ec_F (l : Launch) (D : va_G) (kA : FieldType → ClassId) (B : Nat) (f lo mc ms : Nat) (M : ec_M) (as : List Value) (h : ec_H) (Q : Option Value → ec_H → Prop) : Prop := ec_W l D kA B (fun _ => True) (ec_room f lo mc ms) (ec_Z D kA B Q mc ms) M 0 0 0 (ec_L0 M as) [] h
theorem ec_args : ∀ (as : List Value) (i : Nat), (∀ v ∈ as, v.category = 1) → ∀ q : Nat × Value, (∃ k, as[k]? = some q.2 ∧ q.1 = i + k) → q ∈ lv_args i as
  | [], i, _, q, ⟨k, h1, _⟩ => by simp at h1
  | v :: vs, i, hc, q, ⟨k, h1, h2⟩ => by
    have hv : ¬ v.category = 2 := by rw [hc v List.mem_cons_self]; decide
    simp only [lv_args, if_neg hv]
    cases k with
    | zero =>
      simp only [List.getElem?_cons_zero, Option.some.injEq] at h1
      obtain ⟨q1, q2⟩ := q
      simp only at h1 h2
      subst h1
      rw [h2]
      exact List.mem_cons_self
    | succ k =>
      refine List.mem_cons_of_mem _ (ec_args vs (i + 1) (fun w hw => hc w (List.mem_cons_of_mem _ hw)) q ⟨k, by simpa using h1, by omega⟩)
theorem ec_sl : ∀ (as : List Value), (∀ v ∈ as, v.category = 1) → (lg_sl as).length = as.length
  | [], _ => rfl
  | v :: vs, hc => by
    have hv : ¬ v.category = 2 := by rw [hc v List.mem_cons_self]; decide
    have := ec_sl vs (fun w hw => hc w (List.mem_cons_of_mem _ hw))
    simp only [lg_sl, List.flatMap_cons, if_neg hv, List.length_append, List.length_cons, List.length_nil] at this ⊢
    omega
theorem ec_entry {as : List Value} {n : Nat} (hc : ∀ v ∈ as, v.category = 1) (hlen : as.length ≤ n) : lv_has ((lg_sl as ++ List.replicate (n - (lg_sl as).length) Slot.unset).toArray) n (ec_lv (as.map some ++ List.replicate (n - as.length) none)) := by
  have h1 := lv_entry as (n := n) (by rw [ec_sl as hc]; exact hlen)
  refine ⟨h1.1, h1.2.1, fun q hq => h1.2.2 q ?_⟩
  have h2 := ec_lv_of hq
  refine ec_args as 0 hc q ⟨q.1, ?_, by omega⟩
  by_cases hlt : q.1 < as.length
  · rw [List.getElem?_append_left (by simpa using hlt), List.getElem?_map] at h2
    cases h3 : as[q.1]? with
    | none => rw [h3] at h2; cases h2
    | some v => rw [h3] at h2; cases h2; rfl
  · rw [List.getElem?_append_right (by simpa using hlt)] at h2
    have := List.eq_of_mem_replicate (List.mem_of_getElem? h2)
    cases this
abbrev ec_ws (M : ec_M) : List Cond := Cond.code M.1 M.2.1 M.2.2.1 M.2.2.2 :: ec_tb
abbrev ec_Pc (D : va_G) (kA : FieldType → ClassId) (B : Nat) (as : List Value) (h : ec_H) : Array Value → State → Prop := va_Pc as (fun U => ec_P D kA B h U.heap ∧ ec_K D kA U ∧ B ≤ U.heap.size)
theorem ec_met {M : ec_M} {as : List Value} {f lo : Nat} (hM : plainName M.1.cls = true) (hc : ∀ v ∈ as, v.category = 1) (hlen : as.length ≤ M.2.2.1) (hF : ec_F l D kA B f lo mc ms M as h Q) : Met l M.1 (ec_ws M) (ec_room f lo mc ms) (ec_Pc D kA B as h) (ec_Q D kA B Q) mc ms (fun q => B ≤ q) := by
  refine Met.ofW (cc := M.2.1) (maxL := M.2.2.1) (ret := M.2.2.2) hM rfl ?_
  intro p e s m args below meth c s₁ Bd hml hv
  obtain ⟨rfl, hP, hK, hB⟩ := hv
  have hts := atoms_spec (ws := ec_ws M) Bd.pre
  rw [lg_entry_eq]
  exact hF p e s m _ below meth c s.heap [] _ Bd.exec Bd.bytes Bd.returns hml (findClass_of_methodNamed Bd.named) (fun w hw => hts w (List.mem_cons_of_mem _ hw)) Bd.notSynchronized (name_of_methodNamed Bd.named Bd.method).1 hK trivial hB hP va_S.rf (ec_entry hc hlen)
theorem ec_blind {as : List Value} : FrameBlind (ec_Pc D kA B as h) := fun a U g mk q => by
  obtain ⟨q0, q1, q2, q3⟩ := q
  exact ⟨q0, q1, ec_K.same (u := U) (U := U.calling g mk a) rfl q2, q3⟩
theorem ec_go {as rest : List Value} {st0 : List Value} {p : Program} {e : Env} {s : State} {m : MethodId} {args : Array Value} {below : List Frame} {meth : Method} {c : Code} {H : Heap} {locs : List Loc} {ls : Array Slot} {av : Array Value}
    (hr : va_Run p l e R s m args below meth c H locs uc us mc ms (F0 m pc ls st0) rest (ec_Q D kA B Q av) (fun q => B ≤ q)) (hS : va_S (fun q => B ≤ q) s.heap H locs)
    (kk : ∀ (v : Option Value) (h1 : ec_H) (H1 : Heap) (locs1 : List Loc), Q v h1 → ec_P D kA B h1 H1 → va_S (fun q => B ≤ q) s.heap H1 locs1 → W p l e R s m args below meth c H1 locs1 (uc + mc) (us + ms) (Z args s below) (F0 m (pc + 3) ls (v.toList ++ rest))) : W p l e R s m args below meth c H locs uc us (Z args s below) (F0 m pc ls st0) := by
  intro T hT X9
  obtain ⟨v, st₀, t, T', L9, h0, X', hL, e1, e2, ⟨⟨v', h1, hv, hq, hP1⟩, hz, hk⟩, stp⟩ := hr T hT X9
  cases hv
  rw [h0] at hz hk
  obtain ⟨t2, a1, b1⟩ := kk v h1 T'.heap (locs ++ L9) hq (by rw [e1]; exact hP1) ⟨Nat.le_trans hS.1 (by rw [e1]; exact hz), fun q g1 g2 => by rw [e1, hk q (Nat.lt_of_lt_of_le g1 hS.1) g2]; exact hS.2.1 q g1 g2, fun q hq => by
      rcases List.mem_append.mp hq with h | h
      · exact hS.2.2 q h
      · exact hL q h⟩ T' rfl X'
  exact ⟨t2, stp t2 a1, b1⟩
/-- the words of a call -/
def ec_cb (own : String) (idx : Nat) (M' : ec_M) (n : Nat) : Prop := Cond.methodLink own idx M'.1 ∈ ec_tb ∧ Cond.initialized M'.1.cls ∈ ec_tb ∧ Cond.code M'.1 M'.2.1 M'.2.2.1 M'.2.2.2 ∈ ec_tb ∧ plainName M'.1.cls = true ∧ (M'.1.cls ≠ "java/lang/invoke/MethodHandle" ∧ M'.1.cls ≠ "java/lang/invoke/VarHandle" ∧ (parseMethodDescriptor M'.1.desc).map (fun d => d.parameters.length) = some n)
def ec_cV (own : String) (idx : Nat) (M' : ec_M) (n ci : Nat) : Prop := ec_cb own idx M' n ∧ Cond.instanceMethod M'.1 ∈ ec_tb ∧ Cond.selects M'.1.cls M'.1 M'.1 ∈ ec_tb ∧ ∃ (T : u_T) (N : Nat), vwCl[ci]? = some (M'.1.cls, T, N)
def ec_cS (own : String) (idx : Nat) (M' : ec_M) (n : Nat) : Prop := ec_cb own idx M' n ∧ Cond.static M'.1 ∈ ec_tb
def ec_cI (own : String) (idx : Nat) (M' : ec_M) (n : Nat) : Prop := ec_cb own idx M' n ∧ Cond.instanceMethod M'.1 ∈ ec_tb ∧ M'.1.name = "<init>" ∧ M'.2.2.2 = none
theorem e_callV {idx : Nat} {M' : ec_M} {n ci b f lo mc ms : Nat} {As rest fs : List Value} (hc : ec_cV M.1.cls idx M' n ci) (hd : decode M.2.1 pc = .ok (.invokevirtual idx, 3)) (hb9 : h.2 b = some (.inr (ci, fs))) (hst : st = As.reverse ++ .ref b :: rest) (hn : As.length = n) (hca : ∀ v ∈ As, v.category = 1) (hle : As.length + 1 ≤ M'.2.2.1) (hcat : (rest.map fun v => v.category).sum ≤ 8)
    (hR : f + 1 ≤ R.frames ∧ 8 + (M'.2.2.1 + 11) + lo ≤ R.locals) (hR2 : uc + mc ≤ R.cells ∧ us + ms ≤ R.slots) {Q : Option Value → ec_H → Prop} (hF : ec_F l D kA B f lo mc ms M' (.ref b :: As) h Q)
    (kk : ∀ (v : Option Value) (h1 : ec_H), Q v h1 → ec_W l D kA B X R Z M (uc + mc) (us + ms) (pc + 3) L (v.toList ++ rest) h1) : ec_W l D kA B X R Z M uc us pc L st h := by
  intro p e s m args below meth c H locs ls hx hb hr hml hown hts hlk hnm hK hX hB hP hS hl
  subst hst
  obtain ⟨⟨w1, w2, w3, hpl, hdd⟩, w4, w5, T, N, hcl⟩ := hc
  have hM := ec_met (l := l) (D := D) (kA := kA) (B := B) (h := h) (Q := Q) hpl (fun v hv => by rcases List.mem_cons.mp hv with rfl | hv; rfl; exact hca v hv) (by simpa using hle) hF
  have hG : GoodIn ec_tb (wsV M.1.cls idx M'.1.cls M'.1 (ec_ws M')) := ec_good _ (fun w hw => by
    simp only [wsV, List.mem_append, List.mem_cons, List.not_mem_nil, or_false] at hw
    rcases hw with (rfl | rfl | rfl | rfl) | rfl | hw <;> assumption)
  obtain ⟨r, h1, cell, g1, g2, g3, -⟩ := (hP.2 b _ hb9).2
  have hr' : r = (M'.1.cls, T, N) := Option.some.inj (h1.symm.trans hcl)
  have hrun := va_runV (p := p) (e := e) (below := below) (meth := meth) (H := H) (locs := locs) (cells := uc) (slots := us) (As := As) (rest := rest) (b := b) (C := M'.1.cls) (g := F0 m pc ls (As.reverse ++ .ref b :: rest)) ⟨hx, hb, hml, hown, hts⟩ hM (cwV (R := R) n hts hG rfl rfl rfl ⟨rfl, hdd⟩ hR)
    ⟨ec_blind, ⟨cell, g1, by rw [g3]; rfl, by rw [g2]; exact (hK.1.1 ci _ hcl).2.1⟩, fun U hU hW => ⟨rfl, by rw [hU]; exact hP, ec_K.warm hW hK, by rw [hU]; exact Nat.le_trans hB hS.1⟩⟩ rfl hn hl.1 rfl (lv_room hcat) hd hR2
  exact ec_go (as := As) hrun hS (fun v h1 H1 locs1 hq hP1 hS1 => kk v h1 hq p e s m args below meth c H1 locs1 ls hx hb hr hml hown hts hlk hnm hK hX hB hP1 hS1 hl)
theorem e_callS {idx : Nat} {M' : ec_M} {n f lo mc ms : Nat} {As rest : List Value} (hc : ec_cS M.1.cls idx M' n) (hd : decode M.2.1 pc = .ok (.invokestatic idx, 3)) (hst : st = As.reverse ++ rest) (hn : As.length = n) (hca : ∀ v ∈ As, v.category = 1) (hle : As.length ≤ M'.2.2.1) (hcat : (rest.map fun v => v.category).sum ≤ 8)
    (hR : f + 1 ≤ R.frames ∧ 8 + (M'.2.2.1 + 11) + lo ≤ R.locals) (hR2 : uc + mc ≤ R.cells ∧ us + ms ≤ R.slots) {Q : Option Value → ec_H → Prop} (hF : ec_F l D kA B f lo mc ms M' As h Q)
    (kk : ∀ (v : Option Value) (h1 : ec_H), Q v h1 → ec_W l D kA B X R Z M (uc + mc) (us + ms) (pc + 3) L (v.toList ++ rest) h1) : ec_W l D kA B X R Z M uc us pc L st h := by
  intro p e s m args below meth c H locs ls hx hb hr hml hown hts hlk hnm hK hX hB hP hS hl
  subst hst
  obtain ⟨⟨w1, w2, w3, hpl, hdd⟩, w4⟩ := hc
  have hM := ec_met (l := l) (D := D) (kA := kA) (B := B) (h := h) (Q := Q) hpl hca hle hF
  have hG : GoodIn ec_tb (va_wsS M.1.cls idx M'.1 (ec_ws M')) := ec_good _ (fun w hw => by
    simp only [va_wsS, List.mem_append, List.mem_cons, List.not_mem_nil, or_false] at hw
    rcases hw with (rfl | rfl | rfl) | rfl | hw <;> assumption)
  have hrun := va_runS (p := p) (e := e) (below := below) (meth := meth) (H := H) (locs := locs) (cells := uc) (slots := us) (As := As) (rest := rest) (g := F0 m pc ls (As.reverse ++ rest)) ⟨hx, hb, hml, hown, hts⟩ hM (va_cwS (R := R) n hts hG rfl rfl rfl hdd hR)
    ⟨ec_blind, fun U hU hW => ⟨rfl, by rw [hU]; exact hP, ec_K.warm hW hK, by rw [hU]; exact Nat.le_trans hB hS.1⟩⟩ rfl hn hl.1 rfl (lv_room hcat) hd hR2
  exact ec_go (as := As) hrun hS (fun v h1 H1 locs1 hq hP1 hS1 => kk v h1 hq p e s m args below meth c H1 locs1 ls hx hb hr hml hown hts hlk hnm hK hX hB hP1 hS1 hl)
theorem e_callI {idx : Nat} {M' : ec_M} {n b f lo mc ms : Nat} {As rest : List Value} (hc : ec_cI M.1.cls idx M' n) (hd : decode M.2.1 pc = .ok (.invokespecial idx, 3)) (hst : st = As.reverse ++ .ref b :: rest) (hn : As.length = n) (hca : ∀ v ∈ As, v.category = 1) (hle : As.length + 1 ≤ M'.2.2.1) (hcat : (rest.map fun v => v.category).sum ≤ 8)
    (hR : f + 1 ≤ R.frames ∧ 8 + (M'.2.2.1 + 11) + lo ≤ R.locals) (hR2 : uc + mc ≤ R.cells ∧ us + ms ≤ R.slots) {Q : Option Value → ec_H → Prop} (hF : ec_F l D kA B f lo mc ms M' (.ref b :: As) h Q)
    (kk : ∀ (v : Option Value) (h1 : ec_H), Q v h1 → ec_W l D kA B X R Z M (uc + mc) (us + ms) (pc + 3) L (v.toList ++ rest) h1) : ec_W l D kA B X R Z M uc us pc L st h := by
  intro p e s m args below meth c H locs ls hx hb hr hml hown hts hlk hnm hK hX hB hP hS hl
  subst hst
  obtain ⟨⟨w1, w2, w3, hpl, hdd⟩, w4, hy1, hret⟩ := hc
  have hM := ec_met (l := l) (D := D) (kA := kA) (B := B) (h := h) (Q := Q) hpl (fun v hv => by rcases List.mem_cons.mp hv with rfl | hv; rfl; exact hca v hv) (by simpa using hle) hF
  have hG : GoodIn ec_tb (ec_ws M') := ec_good _ (fun w hw => by
    rcases List.mem_cons.mp hw with rfl | hw <;> assumption)
  have hrun := va_runI (p := p) (e := e) (below := below) (meth := meth) (H := H) (locs := locs) (cells := uc) (slots := us) (As := As) (rest := rest) (b := b) (g := F0 m pc ls (As.reverse ++ .ref b :: rest)) ⟨hx, hb, hml, hown, hts⟩ hM (cwI (R := R) n hts hG (by rw [← hret]) rfl rfl (hts _ w2) (hts _ w1) (hts _ w4) hy1 hdd hR)
    ⟨ec_blind, fun U hU hW => ⟨rfl, by rw [hU]; exact hP, ec_K.warm hW hK, by rw [hU]; exact Nat.le_trans hB hS.1⟩⟩ rfl hn hl.1 rfl (lv_room hcat) hd hR2
  exact ec_go (as := As) hrun hS (fun v h1 H1 locs1 hq hP1 hS1 => kk v h1 hq p e s m args below meth c H1 locs1 ls hx hb hr hml hown hts hlk hnm hK hX hB hP1 hS1 hl)
/-- a private constructor of a nest mate -/
def ec_cN (own : String) (idx : Nat) (M' : ec_M) (n : Nat) (host : String) : Prop := Cond.methodLinkNest own idx M'.1 host ∈ ec_nest ∧ Cond.initialized M'.1.cls ∈ ec_tb ∧ Cond.code M'.1 M'.2.1 M'.2.2.1 M'.2.2.2 ∈ ec_tb ∧ plainName M'.1.cls = true ∧ (M'.1.cls ≠ "java/lang/invoke/MethodHandle" ∧ M'.1.cls ≠ "java/lang/invoke/VarHandle" ∧ (parseMethodDescriptor M'.1.desc).map (fun d => d.parameters.length) = some n) ∧ Cond.instanceMethod M'.1 ∈ ec_tb ∧ M'.1.name = "<init>" ∧ M'.2.2.2 = none
theorem e_callN {idx : Nat} {M' : ec_M} {n b f lo mc ms : Nat} {As rest : List Value} (host : String) (hc : ec_cN M.1.cls idx M' n host) (hd : decode M.2.1 pc = .ok (.invokespecial idx, 3)) (hst : st = As.reverse ++ .ref b :: rest) (hn : As.length = n) (hca : ∀ v ∈ As, v.category = 1) (hle : As.length + 1 ≤ M'.2.2.1) (hcat : (rest.map fun v => v.category).sum ≤ 8)
    (hR : f + 1 ≤ R.frames ∧ 8 + (M'.2.2.1 + 11) + lo ≤ R.locals) (hR2 : uc + mc ≤ R.cells ∧ us + ms ≤ R.slots) {Q : Option Value → ec_H → Prop} (hF : ec_F l D kA B f lo mc ms M' (.ref b :: As) h Q)
    (kk : ∀ (v : Option Value) (h1 : ec_H), Q v h1 → ec_W l D kA B X R Z M (uc + mc) (us + ms) (pc + 3) L (v.toList ++ rest) h1) : ec_W l D kA B X R Z M uc us pc L st h := by
  intro p e s m args below meth c H locs ls hx hb hr hml hown hts hlk hnm hK hX hB hP hS hl
  subst hst
  obtain ⟨w1, w2, w3, hpl, hdd, w4, hy1, hret⟩ := hc
  have hM := ec_met (l := l) (D := D) (kA := kA) (B := B) (h := h) (Q := Q) hpl (fun v hv => by rcases List.mem_cons.mp hv with rfl | hv; rfl; exact hca v hv) (by simpa using hle) hF
  have hG : GoodIn ec_tb (ec_ws M') := ec_good _ (fun w hw => by
    rcases List.mem_cons.mp hw with rfl | hw <;> assumption)
  have hrun := va_runIN (p := p) (e := e) (below := below) (meth := meth) (H := H) (locs := locs) (cells := uc) (slots := us) (As := As) (rest := rest) (b := b) (g := F0 m pc ls (As.reverse ++ .ref b :: rest)) ⟨hx, hb, hml, hown, hts⟩ hM ⟨va_cnB (R := R) (args := args) n hts hG (by rw [← hret]) rfl rfl (hK.2.2.1 _ w1) (hts _ w2) hdd hR, hy1, hts _ w4⟩
    ⟨ec_blind, fun U hU hW => ⟨rfl, by rw [hU]; exact hP, ec_K.warm hW hK, by rw [hU]; exact Nat.le_trans hB hS.1⟩⟩ rfl hn hl.1 rfl (lv_room hcat) hd hR2
  exact ec_go (as := As) hrun hS (fun v h1 H1 locs1 hq hP1 hS1 => kk v h1 hq p e s m args below meth c H1 locs1 ls hx hb hr hml hown hts hlk hnm hK hX hB hP1 hS1 hl)
theorem e_obj {idx a : Nat} (hd : decode M.2.1 pc = .ok (.invokespecial idx, 3)) (w1 : Cond.methodLink M.1.cls idx objectInit ∈ ec_tb) (w2 : Cond.instanceMethod objectInit ∈ ec_tb) (w3 : Cond.code objectInit ⟨#[0xb1]⟩ 1 none ∈ ec_tb) (hf : 1 ≤ R.frames) (hlo : (st.map fun v => v.category).sum + 12 ≤ R.locals) (kk : ec_W l D kA B X R Z M uc us (pc + 3) L st h) : ec_W l D kA B X R Z M uc us pc L (.ref a :: st) h := by
  intro p e s m args below meth c H locs ls hx hb hr hml hown hts hlk hnm hK hX hB hP hS hl
  exact W.objInit hx hb hown (hts _ w1) (hts _ w2) (hts _ w3) rfl (by rw [hml]; exact hl.1) rfl hd hf (by show 2 * 0 + _ + 12 ≤ _; omega) (kk p e s m args below meth c H locs ls hx hb hr hml hown hts hlk hnm hK hX hB hP hS hl)
theorem e_min {idx : Nat} {x y v : Int32} (hd : decode M.2.1 pc = .ok (.invokestatic idx, 3)) (w1 : Cond.methodLink M.1.cls idx Lib.Math.min.name ∈ ec_tb) (w2 : Cond.static Lib.Math.min.name ∈ ec_tb) (w3 : Cond.initialized "java/lang/Math" ∈ ec_tb) (w4 : Cond.code Lib.Math.min.name Lib.Math.min.code 2 (some .int) ∈ ec_tb) (hf : 1 ≤ R.frames) (hlo : (st.map fun v => v.category).sum + 13 ≤ R.locals) (hc : uc ≤ R.cells) (hs : us ≤ R.slots) (hv : (if y < x then y else x) = v) (kk : ec_W l D kA B X R Z M uc us (pc + 3) L (.int v :: st) h) : ec_W l D kA B X R Z M uc us pc L (.int y :: .int x :: st) h := by
  intro p e s m args below meth c H locs ls hx hb hr hml hown hts hlk hnm hK hX hB hP hS hl
  subst hv
  exact va_mmin hx hb (by rw [hml]; exact hl.1.symm) hown (hts _ w1) (hts _ w2) (hts _ w3) (hts _ w4) hf hlo hc hs hd (kk p e s m args below meth c H locs ls hx hb hr hml hown hts hlk hnm hK hX hB hP hS hl)
end ECN
