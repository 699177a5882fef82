/-! THE LAW: its own rules, and its end -/
def R_law : String := "SuggestSpellLaw"
def lw_P (b : Addr) (xs : List Int32) (args : Array Value) (s : State) : Prop := args = #[.ref b] ∧ s.IntsAt b xs ∧ xs.length ≤ 2048 ∧ (Jvm.Cond.and given_1 narrow_1).before args s = true
def lw_Q (_ : Array Value) (s : State) (o : Outcome) (t : State) : Prop := o = .returned (some (.int 1)) ∧ Framed s o t [] 601024 7293034
def lw_Z (below : List Frame) (a : Array Value) (s : State) : State → Prop := fun t => ∃ o, t.status = .running ∧ Ended t below o ∧ lw_Q a s o t
/-- the law's own end, with 1 on the stack, nothing written that was there before, its room as the claim has it -/
theorem lw_ret {p : Program} {l : Launch} {e : Env} {s : State} {m : MethodId} {args : Array Value} {below : List Frame} {meth : Method} {c : Code} (hx : p.tables.exec = Jvm.exec) (hb : c.code = code) (hr : meth.sig.returnType = ret) (hlocks : meth.locks = false) {pc : Nat} {H : Heap} {ls : Array Slot} (hdg : decode code pc = .ok (.ireturn, 1)) : W p l e room_1 s m args below meth c H [] 601024 7293034 (lw_Z below args s) (F0 m pc ls [.int 1]) := by
  intro T hT X
  obtain ⟨fs, hret, hrun, hended, hW, hframe⟩ := X.leave (v := some (.int 1)) (hlocks := hlocks) (fun h => by rw [hr] at h; cases h)
  have hmeth' : T.vm.method? m = some meth := X.method'
  refine ⟨T.setFrames fs, ?_, .returned (some (.int 1)), hrun, hended, rfl, ⟨_, rfl⟩, hW, hframe⟩
  jvm_step X.here [X.here.top, hx, hb, hdg, hmeth', hr, ret, narrow_b1]
  (try refine ⟨rfl, ?_⟩); (try refine ⟨rfl, ?_⟩)
  first | (intro acts; rw [hret _ acts rfl rfl rfl]) | rw [hret _ _ rfl rfl rfl]
  exact Steps.refl _
/-- what holds at the law's entry -/
def lw_At (p : Program) (s : State) (m : MethodId) (meth : Method) (c : Code) (b L : Nat) (xs : Nat → Int32) : Prop :=
  p.tables.exec = Jvm.exec ∧ c.code = code ∧ meth.sig.returnType = ret ∧ c.maxLocals = 7 ∧ s.vm.findClass R_law = some m.cls ∧ (∀ w ∈ lw_tbl, w.before #[Value.ref b] s = true) ∧ va_X b L xs s s.heap ∧ b < s.heap.size ∧ meth.locks = false ∧ (Jvm.Cond.and given_1 narrow_1).before #[Value.ref b] s = true ∧ meth.name = "law"
/-- what the walk keeps of the start: the throw's needs, the script -/
def lwX (B sa b L : Nat) (xs : Nat → Int32) (s : State) : Prop := ec_TH B sa s ∧ va_X b L xs s s.heap ∧ b < B ∧ s.heap.size ≤ B
abbrev lwZ : Array Value → State → List Frame → State → Prop := fun args s below => lw_Z below args s
section LRU
variable {l : Launch} {D : va_G} {kA : FieldType → ClassId} {B : Nat} {X : State → Prop} {R : Room} {Z : Array Value → State → List Frame → State → Prop} {M : ec_M} {uc us pc : Nat} {L : List (Option Value)} {st : List Value} {h : ec_H} {sa b N : Nat} {xs : Nat → Int32}
theorem e_sld {n : Nat} {i : Int32} (hXs : ∀ s, X s → va_X b N xs s s.heap ∧ b < B ∧ N ≤ 2048) (hd : decode M.2.1 pc = .ok (.iaload, 1)) (hi : i = nI n) (hn : n < N) (hN : n < 2 ^ 30) (kk : ec_W l D kA B X R Z M uc us (pc + 1) L (.int (xs n) :: st) h) : ec_W l D kA B X R Z M uc us pc L (.int i :: .ref b :: st) h := by
  intro p e s m args below meth c H locs ls hx hb hr hml hown hts hlk hnm hK hX hB hP hS hl
  obtain ⟨h1, h2, h3⟩ := hXs s hX
  subst hi
  refine va_sld hx hb h1 (Nat.lt_of_lt_of_le h2 hB) (Nat.not_le.mpr h2) hS (vp_in_nI hn (by omega)) hd ?_
  rw [nI_clamp (by omega)]
  exact kk p e s m args below meth c H locs ls hx hb hr hml hown hts hlk hnm hK hX hB hP hS hl
theorem e_slen (hXs : ∀ s, X s → va_X b N xs s s.heap ∧ b < B ∧ N ≤ 2048) (hd : decode M.2.1 pc = .ok (.arraylength, 1)) (kk : ec_W l D kA B X R Z M uc us (pc + 1) L (.int (nI N) :: st) h) : ec_W l D kA B X R Z M uc us pc L (.ref b :: st) h := by
  intro p e s m args below meth c H locs ls hx hb hr hml hown hts hlk hnm hK hX hB hP hS hl
  obtain ⟨h1, h2, h3⟩ := hXs s hX
  exact va_slen hx hb h1 (Nat.lt_of_lt_of_le h2 hB) (Nat.not_le.mpr h2) hS hd (kk p e s m args below meth c H locs ls hx hb hr hml hown hts hlk hnm hK hX hB hP hS hl)
theorem e_tabOut {dflt lo hi : Int} {offs : Array Int} {len : Nat} {x : Int32} (tgt : Nat) (hd : decode M.2.1 pc = .ok (.tableswitch dflt lo hi offs, len)) (h1 : x.toInt < lo ∨ hi < x.toInt) (ht : (pc : Int) + dflt = (tgt : Int)) (kk : ec_W l D kA B X R Z M uc us tgt L st h) : ec_W l D kA B X R Z M uc us pc L (.int x :: st) h := by
  intro p e s m args below meth c H locs ls hx hb hr hml hown hts hlk hnm hK hX hB hP hS hl
  exact lv_tableOut hx hb hd h1 ht (kk p e s m args below meth c H locs ls hx hb hr hml hown hts hlk hnm hK hX hB hP hS hl)
theorem e_tabIn {dflt lo hi off : Int} {offs : Array Int} {len : Nat} {x : Int32} (tgt : Nat) (hd : decode M.2.1 pc = .ok (.tableswitch dflt lo hi offs, len)) (h1 : ¬ x.toInt < lo) (h2 : ¬ hi < x.toInt) (ho : offs[(x.toInt - lo).toNat]? = some off) (ht : (pc : Int) + off = (tgt : Int)) (kk : ec_W l D kA B X R Z M uc us tgt L st h) : ec_W l D kA B X R Z M uc us pc L (.int x :: st) h := by
  intro p e s m args below meth c H locs ls hx hb hr hml hown hts hlk hnm hK hX hB hP hS hl
  exact lv_tableIn hx hb hd h1 h2 ho ht (kk p e s m args below meth c H locs ls hx hb hr hml hown hts hlk hnm hK hX hB hP hS hl)
theorem e_lawend (hc : uc ≤ 601024) (hs : us ≤ 7293034) (hX0 : ∀ s, X s → s.heap.size ≤ B) (hd : decode code pc = .ok (.ireturn, 1)) : ec_W l D kA B X room_1 lwZ mL_law uc us pc L [.int 1] h := by
  intro p e s m args below meth c H locs ls hx hb hr hml hown hts hlk hnm hK hX hB hP hS hl
  refine va_forget (fun q hq => Nat.le_trans (hX0 s hX) (hS.2.2 q hq)) ?_
  refine W.widen hc hs ?_
  exact lw_ret hx hb hr hlk hd
theorem le4 {i n : Nat} (hi : i ≤ 3000) (hn : n ≤ 2048) (h : ¬ (nI n - nI 4 < nI i)) : i + 4 ≤ n := by
  rcases Nat.lt_or_ge n 4 with h4 | h4
  · exfalso
    refine h ?_
    have h0 : nI n - nI 4 < 0 := by
      have : ∀ k : Fin 4, nI k.1 - nI 4 < 0 := by decide
      exact this ⟨n, h4⟩
    have h1 : (0 : Int32) ≤ nI i := (nI_leI (a := 0) (by decide) (by omega)).mpr (Nat.zero_le _)
    exact Int32.lt_of_lt_of_le h0 h1
  · rw [pk_sub h4] at h
    have := (nI_leI (by omega) (by omega)).mp (Int32.not_lt.mp h)
    omega
end LRU
