/-! CONSTRUCTORS: heaps that grow -/
section CON
variable {l : Launch} {D : va_G} {kA : FieldType → ClassId} {B : Nat} {X : State → Prop} {R : Room} {Z : Array Value → State → List Frame → State → Prop} {M : ec_M} {uc us pc : Nat} {L : List (Option Value)} {st : List Value} {h : ec_H}
theorem e_weak {h' : ec_H} (h1 : h'.1 = h.1) (h2 : ∀ b c, h'.2 b = some c → h.2 b = some c) (kk : ec_W l D kA B X R Z M uc us pc L st h') : ec_W l D kA B X R Z M uc us pc L st h := by
  intro p e s m args below meth c H locs ls hx hb hr hml hown hts hlk hnm hK hX hB hP hS hl
  exact kk p e s m args below meth c H locs ls hx hb hr hml hown hts hlk hnm hK hX hB ⟨by rw [h1]; exact hP.1, fun a c hc => hP.2 a c (h2 a c hc)⟩ hS hl
theorem e_aast {a v n : Nat} {f : Nat → Option Nat} {i : Int32} {fs : List Value} (hd : decode M.2.1 pc = .ok (.aastore, 1)) (hc : h.2 a = some (.inl (.object "SuggestSpell$Row", n, .inr (.inr (.inr (.inr f)))))) (hv : h.2 v = some (.inr (5, fs))) (hin : vp_in i n) (kk : ec_W l D kA B X R Z M uc us (pc + 1) L st (ec_up h a (.inl (.object "SuggestSpell$Row", n, .inr (.inr (.inr (.inr (va_up f i.toNatClampNeg (some v)))))))) ) : ec_W l D kA B X R Z M uc us pc L (.ref v :: .int i :: .ref a :: st) h := by
  intro p e s m args below meth c H locs ls hx hb hr hml hown hts hlk hnm hK hX hB hP hS hl
  have hlt : i.toNatClampNeg < n := Nat.not_le.mp fun q => hin (Or.inr q)
  have h0 : ¬ i < 0 := fun q => hin (Or.inl q)
  obtain ⟨hBa, hat⟩ := hP.2 a _ hc
  obtain ⟨-, r', hr', cellV, g1, g2, g3, -⟩ := hP.2 v _ hv
  have hcls := (hK.1.1 5 (RX5, TX5, 2) rfl).2
  obtain ⟨comp, cA, kC, k1, -, k3, k4, k5⟩ := Cond.arrayOver_spec (va_AO.use (A := #[]) hK.2.2.2.1)
  have hcA : cA = kA (.object "SuggestSpell$Row") := Option.some.inj (k5.symm.trans (hK.2.1 (.object "SuggestSpell$Row") (by decide)).2)
  subst hcA
  have hcomp : comp = D.1 5 := Option.some.inj (k1.symm.trans hcls.1)
  subst hcomp
  obtain ⟨kR, hkR, -⟩ := hcls.2
  refine W.aast hx hb hat (fun q h => by cases h) (fun h => by cases h) k3 k4 rfl hkR ⟨h0, by show _ < (arrV _ _ _).slots.size; rw [arrV_size]; exact hlt⟩ g1 (fun q h => by rw [g3] at h; cases h) (by rw [g2]; exact hkR) (by rw [g2]; exact va_assign hcls) rfl rfl hd fun H1 e1 z oq => ?_
  refine kk p e s m args below meth c H1 _ ls hx hb hr hml hown hts hlk hnm hK hX hB (ec_P_up hP hBa ?_ z oq) (hS.put z oq hBa) hl
  show H1[a]? = some (vp_cell _ _)
  rw [e1]
  rw [vp_cell_q, vp_cell_q, arrV_store]
  congr 2
  funext q
  by_cases hq : q = i.toNatClampNeg
  · subst hq
    simp [updV, va_up, va_rf]
  · simp [updV, va_up, hq]
/-- the row of rows -/
abbrev ec_oc (z N : Nat) : ec_C := .inl (.array .int, N, .inr (.inr (.inr (.inr (fun i => if i < N then some (z + 1 + i) else none)))))
abbrev ec_ic (K : Nat) : ec_C := .inl (.int, K, .inl (fun _ => 0))
def ec_mn (h : ec_H) (N K : Nat) : ec_H := (h.1 + 1 + N, fun b => if b = h.1 then some (ec_oc h.1 N) else if h.1 < b ∧ b < h.1 + 1 + N then some (ec_ic K) else h.2 b)
theorem ec_outer (c : ClassId) (N h0 : Nat) : ∀ i : Nat, Jvm.Free.Multi.outerC c N h0 i = arrV c N (fun j => va_rf (if j < i then some (h0 + 1 + j) else none))
  | 0 => by
    show ({ cls := c, slots := Array.replicate N .null, vm := .none } : Cell) = _
    rw [arrV_new]
    refine congrArg (arrV c N) (funext fun j => ?_)
    simp [va_rf]
  | i + 1 => by
    show (Jvm.Free.Multi.outerC c N h0 i).setSlot i (.ref (h0 + 1 + i)) = _
    rw [ec_outer c N h0 i, arrV_store]
    refine congrArg (arrV c N) (funext fun j => ?_)
    by_cases e : j = i
    · subst e
      simp [updV, va_rf]
    · by_cases h : j < i
      · simp [updV, e, h, Nat.lt_succ_of_lt h]
      · simp [updV, e, h, show ¬ j < i + 1 by omega]
theorem e_mna {idx N K : Nat} {n k : Int32} (hd : decode M.2.1 pc = .ok (.multianewarray idx 2, 4)) (hw : Cond.classLink M.1.cls idx ("[" ++ (FieldType.array .int).toString) ∈ ec_tb) (hwa : Cond.arrayClass .int ∈ ec_tb) (hn : ¬ n < 0) (hk : ¬ k < 0) (hN : n.toNatClampNeg = N) (hK9 : k.toNatClampNeg = K) (hb1 : N * 4 ≤ 536870912) (hb2 : K * 4 ≤ 536870912) (hc : uc + (1 + N) ≤ R.cells) (hs : us + (N + N * K) ≤ R.slots) (hB9 : B ≤ h.1)
    (kk : ec_W l D kA B X R Z M (uc + 1 + N) (us + N + N * K) (pc + 4) L (.ref h.1 :: st) (ec_mn h N K)) : ec_W l D kA B X R Z M uc us pc L (.int k :: .int n :: st) h := by
  intro p e s m args below meth c H locs ls hx hb hr hml hown hts hlk hnm hK hX hB hP hS hl
  subst hN
  subst hK9
  intro T hT Xs
  obtain ⟨vm₁, cA, comp, -, fA, fC, hO, -, X', step⟩ := Xs.multianewarray2F hx hown (hts _ hw) hK.2.2.2.2 (hts _ hwa) (g := F0 m pc ls (.int k :: .int n :: st)) rfl (by rw [hb]; exact hd) rfl hn hk hb1 hb2 (by omega) rfl rfl hc hs
  have hcA : cA = kA (.array .int) := Option.some.inj (fA.symm.trans (hK.2.1 (.array .int) (by decide)).2)
  have hcC : comp = kA .int := Option.some.inj (fC.symm.trans (hK.2.1 .int (by decide)).2)
  subst hcA
  subst hcC
  generalize hF : Jvm.Free.Multi.fill (T.setVm vm₁) (kA (.array .int)) (kA .int) n.toNatClampNeg k.toNatClampNeg (defaultValue .int) n.toNatClampNeg = F at X' step
  have hTh : (T.setVm vm₁).heap = H := hT
  obtain ⟨f1, f2, -, -⟩ := Jvm.Free.Multi.fill_facts (T.setVm vm₁) (kA (.array .int)) (kA .int) n.toNatClampNeg k.toNatClampNeg (defaultValue .int) n.toNatClampNeg
  rw [hF, hTh] at f1 f2
  have hold : ∀ x : Nat, x < H.size → F.heap[x]? = H[x]? := fun x hx => by
    have := Jvm.Free.Multi.fill_old (T.setVm vm₁) (kA (.array .int)) (kA .int) n.toNatClampNeg k.toNatClampNeg (defaultValue .int) (a := x) (by rw [hTh]; exact hx) n.toNatClampNeg
    rw [hF, hTh] at this
    exact this
  have hz : ∀ c : ClassId, Jvm.Free.Multi.innerC c k.toNatClampNeg (defaultValue .int) = vp_cell c (k.toNatClampNeg, .inl (fun _ => 0)) := fun c => by
    rw [vp_cell_i]
    show ({ cls := c, slots := Array.replicate k.toNatClampNeg (.int 0), vm := .none } : Cell) = _
    rw [arrV_new]
  have hrow : ∀ j : Nat, j < n.toNatClampNeg → F.heap[H.size + 1 + j]? = some (vp_cell (kA .int) (k.toNatClampNeg, .inl (fun _ => 0))) := fun j hj => by
    have := Jvm.Free.Multi.fill_inner (T.setVm vm₁) (kA (.array .int)) (kA .int) n.toNatClampNeg k.toNatClampNeg (defaultValue .int) n.toNatClampNeg j hj
    rw [hF, hTh, hz] at this
    exact this
  have hout : Jvm.Free.Multi.outerC (kA (.array .int)) n.toNatClampNeg H.size n.toNatClampNeg = vp_cell (kA (.array .int)) (n.toNatClampNeg, .inr (.inr (.inr (.inr (fun i => if i < n.toNatClampNeg then some (H.size + 1 + i) else none))))) := by
    rw [vp_cell_q]
    exact ec_outer (kA (.array .int)) n.toNatClampNeg H.size n.toNatClampNeg
  rw [hout] at f2
  have hsz := hP.1
  obtain ⟨t, a1, b1⟩ := kk p e s m args below meth c F.heap locs ls hx hb hr hml hown hts hlk hnm hK hX hB ⟨by rw [f1, hsz]; rfl, fun a c9 ha => by
      unfold ec_mn at ha
      dsimp only at ha
      split at ha
      next e => cases ha; subst e; rw [← hsz]; exact ⟨by rw [hsz]; exact hB9, f2⟩
      next e =>
        split at ha
        next e2 =>
          cases ha
          refine ⟨by omega, ?_⟩
          have := hrow (a - H.size - 1) (by omega)
          rw [show H.size + 1 + (a - H.size - 1) = a by omega] at this
          exact this
        next e2 =>
          have h9 := hP.2 a c9 ha
          exact ⟨h9.1, ec_at_kept h9.2 (hold a (ec_at_lt h9.2))⟩⟩ ⟨by rw [f1]; have := hS.1; omega, fun x h1 h2 => (hold x (Nat.lt_of_lt_of_le h1 hS.1)).trans (hS.2.1 x h1 h2), hS.2.2⟩ hl F rfl X'
  refine ⟨t, step t ?_, b1⟩
  have e9 : T.heap.size = h.1 := by rw [hT]; exact hP.1
  rw [e9]
  exact a1
/-- a heap with new cells, and one of the old ones as it is now -/
def ec_x (h : ec_H) (cs : List ec_C) (a : Nat) (c : ec_C) : ec_H := (h.1 + cs.length, fun b => if b = a then some c else if b < h.1 then h.2 b else cs[b - h.1]?)
variable {cs cs' : List ec_C} {a : Nat} {c : ec_C}
theorem ec_x_a : (ec_x h cs a c).2 a = some c := if_pos rfl
theorem ec_x_k (ha : a < h.1) {k : Nat} : (ec_x h cs a c).2 (h.1 + k) = cs[k]? := by
  show (if h.1 + k = a then some c else if h.1 + k < h.1 then h.2 (h.1 + k) else cs[h.1 + k - h.1]?) = _
  rw [if_neg (by omega), if_neg (by omega), Nat.add_sub_cancel_left]
theorem ec_x_o {b : Nat} (hb : b < h.1) (hne : b ≠ a) : (ec_x h cs a c).2 b = h.2 b := by
  show (if b = a then some c else if b < h.1 then h.2 b else cs[b - h.1]?) = _
  rw [if_neg hne, if_pos hb]
theorem ec_x_add (ha : a < h.1) (d : ec_C) : ec_add (ec_x h cs a c) d = ec_x h (cs ++ [d]) a c := by
  unfold ec_add ec_x
  refine Prod.ext (by simp; omega) (funext fun b => ?_)
  dsimp only
  by_cases e : b = h.1 + cs.length
  · rw [if_pos e, if_neg (by omega), if_neg (by omega), e, Nat.add_sub_cancel_left]
    simp
  · rw [if_neg e]
    by_cases e2 : b = a
    · rw [if_pos e2, if_pos e2]
    · rw [if_neg e2, if_neg e2]
      by_cases e3 : b < h.1
      · rw [if_pos e3, if_pos e3]
      · rw [if_neg e3, if_neg e3]
        by_cases e4 : b - h.1 < cs.length
        · rw [List.getElem?_append_left e4]
        · rw [List.getElem?_eq_none (by omega), List.getElem?_eq_none (by simp; omega)]
theorem ec_x_upa (c' : ec_C) : ec_up (ec_x h cs a c) a c' = ec_x h cs a c' := by
  unfold ec_up ec_x
  refine Prod.ext rfl (funext fun b => ?_)
  dsimp only
  by_cases e : b = a
  · rw [if_pos e, if_pos e]
  · rw [if_neg e, if_neg e, if_neg e]
theorem ec_x_upk (ha : a < h.1) {k : Nat} (hk : k < cs.length) (d : ec_C) : ec_up (ec_x h cs a c) (h.1 + k) d = ec_x h (cs.set k d) a c := by
  unfold ec_up ec_x
  refine Prod.ext (by simp) (funext fun b => ?_)
  dsimp only
  by_cases e : b = h.1 + k
  · rw [if_pos e, if_neg (by omega), if_neg (by omega), e, Nat.add_sub_cancel_left, List.getElem?_set_self hk]
  · rw [if_neg e]
    by_cases e2 : b = a
    · rw [if_pos e2, if_pos e2]
    · rw [if_neg e2, if_neg e2]
      by_cases e3 : b < h.1
      · rw [if_pos e3, if_pos e3]
      · rw [if_neg e3, if_neg e3, List.getElem?_set_ne (by omega)]
theorem ec_x_sub (ha : a < h.1) {k : Nat} (hk : k < cs.length) (d : ec_C) : ec_x (ec_x h cs a c) cs' (h.1 + k) d = ec_x h (cs.set k d ++ cs') a c := by
  have e0 := ec_x_upk (cs := cs) (c := c) ha hk d
  unfold ec_x
  refine Prod.ext (by simp; omega) (funext fun b => ?_)
  dsimp only
  by_cases e : b = h.1 + k
  · rw [if_pos e, if_neg (by omega), if_neg (by omega), e, Nat.add_sub_cancel_left, List.getElem?_append_left (by simp; omega), List.getElem?_set_self hk]
  · rw [if_neg e]
    by_cases e2 : b = a
    · rw [if_pos (show b < h.1 + cs.length by omega), if_pos e2, if_pos e2]
    · by_cases e3 : b < h.1
      · rw [if_pos (show b < h.1 + cs.length by omega), if_neg e2, if_neg e2, if_pos e3, if_pos e3]
      · by_cases e4 : b < h.1 + cs.length
        · rw [if_pos e4, if_neg e2, if_neg e2, if_neg e3, if_neg e3, List.getElem?_append_left (by simp; omega), List.getElem?_set_ne (by omega)]
        · rw [if_neg e4, if_neg e2, if_neg e3, List.getElem?_append_right (by simp; omega)]
          congr 1
          simp
          omega
theorem ec_x_mn (ha : a < h.1) (N K : Nat) : ec_mn (ec_x h cs a c) N K = ec_x h (cs ++ ec_oc (h.1 + cs.length) N :: List.replicate N (ec_ic K)) a c := by
  unfold ec_mn
  refine Prod.ext (by show h.1 + cs.length + 1 + N = h.1 + (cs ++ _ :: _).length; simp; omega) (funext fun b => ?_)
  show (if b = h.1 + cs.length then some (ec_oc (h.1 + cs.length) N) else if h.1 + cs.length < b ∧ b < h.1 + cs.length + 1 + N then some (ec_ic K) else (if b = a then some c else if b < h.1 then h.2 b else cs[b - h.1]?)) = (if b = a then some c else if b < h.1 then h.2 b else (cs ++ ec_oc (h.1 + cs.length) N :: List.replicate N (ec_ic K))[b - h.1]?)
  by_cases e : b = h.1 + cs.length
  · rw [if_pos e, if_neg (by omega), if_neg (by omega), e, Nat.add_sub_cancel_left]
    simp
  · rw [if_neg e]
    by_cases e2 : h.1 + cs.length < b ∧ b < h.1 + cs.length + 1 + N
    · rw [if_pos e2, if_neg (by omega), if_neg (by omega), List.getElem?_append_right (by omega)]
      obtain ⟨q, hq⟩ : ∃ q, b - h.1 - cs.length = q + 1 := ⟨b - h.1 - cs.length - 1, by omega⟩
      rw [hq, List.getElem?_cons_succ, List.getElem?_replicate, if_pos (by omega)]
    · rw [if_neg e2]
      by_cases e3 : b = a
      · rw [if_pos e3, if_pos e3]
      · rw [if_neg e3, if_neg e3]
        by_cases e4 : b < h.1
        · rw [if_pos e4, if_pos e4]
        · rw [if_neg e4, if_neg e4]
          by_cases e5 : b - h.1 < cs.length
          · rw [List.getElem?_append_left e5]
          · rw [List.getElem?_eq_none (by omega), List.getElem?_eq_none (by simp; omega)]
/-! the rules over such heaps -/
theorem x_start (hc : h.2 a = some c) (kk : ec_W l D kA B X R Z M uc us pc L st (ec_x h [] a c)) : ec_W l D kA B X R Z M uc us pc L st h := by
  refine e_weak (h' := ec_x h [] a c) rfl (fun b d hb => ?_) kk
  change (if b = a then some c else if b < h.1 then h.2 b else ([] : List ec_C)[b - h.1]?) = some d at hb
  split at hb
  next e => subst e; cases hb; exact hc
  next e =>
    split at hb
    next => exact hb
    next => simp at hb
theorem x_newa {at9 : ArrayType} {ty : FieldType} {n : Int32} {N q : Nat} {a0 : vp_A} (ha : a < h.1) (hd : decode M.2.1 pc = .ok (.newarray at9, 2)) (hty : newarray.typeOf at9 = ty) (hw : Cond.arrayClass ty ∈ ec_tb) (ht : ty ∈ ec_tys) (ha9 : ∀ cA : ClassId, vp_cell cA a0 = arrV cA N (fun _ => defaultValue ty)) (hn : ¬ n < 0) (hN : n.toNatClampNeg = N) (hby : N * componentBytes ty ≤ 536870912) (hc : uc + 1 ≤ R.cells) (hs : us + N ≤ R.slots) (hB9 : B ≤ h.1) (hq : cs.length = q) (hcs : cs ++ [.inl (ty, a0)] = cs')
    (kk : ec_W l D kA B X R Z M (uc + 1) (us + N) (pc + 2) L (.ref (h.1 + q) :: st) (ec_x h cs' a c)) : ec_W l D kA B X R Z M uc us pc L (.int n :: st) (ec_x h cs a c) := by
  subst hcs
  subst hq
  refine e_newa hd hty hw ht ha9 hn hN hby hc hs (Nat.le_trans hB9 (Nat.le_add_right _ _)) ?_
  rw [ec_x_add ha]
  exact kk
theorem x_anew {idx N q : Nat} {n : Int32} (ha : a < h.1) (hd : decode M.2.1 pc = .ok (.anewarray idx, 3)) (hw : Cond.classLink M.1.cls idx "SuggestSpell$Row" ∈ ec_tb) (hn : ¬ n < 0) (hN : n.toNatClampNeg = N) (hby : N * 4 ≤ 536870912) (hc : uc + 1 ≤ R.cells) (hs : us + N ≤ R.slots) (hB9 : B ≤ h.1) (hq : cs.length = q) (hcs : cs ++ [.inl (.object "SuggestSpell$Row", N, .inr (.inr (.inr (.inr (fun _ => none)))))] = cs')
    (kk : ec_W l D kA B X R Z M (uc + 1) (us + N) (pc + 3) L (.ref (h.1 + q) :: st) (ec_x h cs' a c)) : ec_W l D kA B X R Z M uc us pc L (.int n :: st) (ec_x h cs a c) := by
  subst hcs
  subst hq
  refine e_anew hd rfl hw hn hN hby hc hs (Nat.le_trans hB9 (Nat.le_add_right _ _)) ?_
  rw [ec_x_add ha]
  exact kk
theorem x_new {idx ci N q : Nat} {fs : List Value} (ha : a < h.1) (hf : ec_cn M.1.cls idx ci N fs) (hd : decode M.2.1 pc = .ok (.new idx, 3)) (hc : uc + 1 ≤ R.cells) (hs : us + N ≤ R.slots) (hB9 : B ≤ h.1) (hq : cs.length = q) (hcs : cs ++ [.inr (ci, fs)] = cs')
    (kk : ec_W l D kA B X R Z M (uc + 1) (us + N) (pc + 3) L (.ref (h.1 + q) :: st) (ec_x h cs' a c)) : ec_W l D kA B X R Z M uc us pc L st (ec_x h cs a c) := by
  subst hcs
  subst hq
  refine e_new hf hd hc hs (Nat.le_trans hB9 (Nat.le_add_right _ _)) ?_
  rw [ec_x_add ha]
  exact kk
theorem x_mna {idx N K q : Nat} {n k : Int32} (ha : a < h.1) (hd : decode M.2.1 pc = .ok (.multianewarray idx 2, 4)) (hw : Cond.classLink M.1.cls idx ("[" ++ (FieldType.array .int).toString) ∈ ec_tb) (hn : ¬ n < 0) (hk : ¬ k < 0) (hN : n.toNatClampNeg = N) (hK9 : k.toNatClampNeg = K) (hb1 : N * 4 ≤ 536870912) (hb2 : K * 4 ≤ 536870912) (hc : uc + (1 + N) ≤ R.cells) (hs : us + (N + N * K) ≤ R.slots) (hB9 : B ≤ h.1) (hq : cs.length = q) (hcs : cs ++ ec_oc (h.1 + q) N :: List.replicate N (ec_ic K) = cs')
    (kk : ec_W l D kA B X R Z M (uc + 1 + N) (us + N + N * K) (pc + 4) L (.ref (h.1 + q) :: st) (ec_x h cs' a c)) : ec_W l D kA B X R Z M uc us pc L (.int k :: .int n :: st) (ec_x h cs a c) := by
  subst hcs
  subst hq
  refine e_mna hd hw wa_int hn hk hN hK9 hb1 hb2 hc hs (Nat.le_trans hB9 (Nat.le_add_right _ _)) ?_
  rw [ec_x_mn ha]
  exact kk
theorem x_put {idx : Nat} {fs fs' : List Value} {v : Value} {ty : FieldType} (ci k : Nat) (fin : Bool) (hf : ec_fp M.1.cls idx ci k fin ty) (hfi : fin = true → M.1.name = "<init>") (hd : decode M.2.1 pc = .ok (.putfield idx, 3)) (hn : narrow ty v = v) (hfit : fits ty v = true) (hlt : k < fs.length) (hfs : fs.set k v = fs') (kk : ec_W l D kA B X R Z M uc us (pc + 3) L st (ec_x h cs a (.inr (ci, fs')))) : ec_W l D kA B X R Z M uc us pc L (v :: .ref a :: st) (ec_x h cs a (.inr (ci, fs))) := by
  subst hfs
  refine e_put ci k fin hf hfi hd ec_x_a hn hfit hlt ?_
  rw [ec_x_upa]
  exact kk
theorem x_get {idx : Nat} {fs : List Value} {v : Value} (ci k : Nat) (hf : ec_fl M.1.cls idx ci k) (hd : decode M.2.1 pc = .ok (.getfield idx, 3)) (hv : fs[k]? = some v) (kk : ec_W l D kA B X R Z M uc us (pc + 3) L (v :: st) (ec_x h cs a (.inr (ci, fs)))) : ec_W l D kA B X R Z M uc us pc L (.ref a :: st) (ec_x h cs a (.inr (ci, fs))) := e_get ci k hf hd ec_x_a hv kk
theorem x_iast {q n N : Nat} {f : Nat → Int32} {i x : Int32} (ha : a < h.1) (hd : decode M.2.1 pc = .ok (.iastore, 1)) (hc : cs[q]? = some (.inl (.int, N, .inl f))) (hi : i = nI n) (hn : n < N) (hN : N < 2 ^ 31) (hcs : cs.set q (.inl (.int, N, .inl (upd f n x))) = cs') (kk : ec_W l D kA B X R Z M uc us (pc + 1) L st (ec_x h cs' a c)) : ec_W l D kA B X R Z M uc us pc L (.int x :: .int i :: .ref (h.1 + q) :: st) (ec_x h cs a c) := by
  subst hcs
  subst hi
  refine e_iast hd ((ec_x_k ha).trans hc) (vp_in_nI hn hN) ?_
  rw [nI_clamp (by omega), ec_x_upk ha (List.getElem?_eq_some_iff.mp hc).1]
  exact kk
theorem x_aast {q v n N : Nat} {f : Nat → Option Nat} {i : Int32} {fs : List Value} (ha : a < h.1) (hd : decode M.2.1 pc = .ok (.aastore, 1)) (hc : cs[q]? = some (.inl (.object "SuggestSpell$Row", N, .inr (.inr (.inr (.inr f)))))) (hv : cs[v]? = some (.inr (5, fs))) (hi : i = nI n) (hn : n < N) (hN : N < 2 ^ 31) (hcs : cs.set q (.inl (.object "SuggestSpell$Row", N, .inr (.inr (.inr (.inr (va_up f n (some (h.1 + v)))))))) = cs') (kk : ec_W l D kA B X R Z M uc us (pc + 1) L st (ec_x h cs' a c)) : ec_W l D kA B X R Z M uc us pc L (.ref (h.1 + v) :: .int i :: .ref (h.1 + q) :: st) (ec_x h cs a c) := by
  subst hcs
  subst hi
  refine e_aast hd ((ec_x_k ha).trans hc) ((ec_x_k ha).trans hv) (vp_in_nI hn hN) ?_
  rw [nI_clamp (by omega), ec_x_upk ha (List.getElem?_eq_some_iff.mp hc).1]
  exact kk
/-- a constructor's contract: the object as it is then, and the new cells -/
def ec_FI (l : Launch) (D : va_G) (kA : FieldType → ClassId) (B : Nat) (f lo mc ms : Nat) (M : ec_M) (as : List Value) (h : ec_H) (a : Nat) (cs : List ec_C) (c : ec_C) : Prop := ec_F l D kA B f lo mc ms M (.ref a :: as) h (fun v h1 => v = none ∧ h1 = ec_x h cs a c)
/-- a constructor is called for the newest but n of the cells -/
theorem x_callI {idx : Nat} {M' : ec_M} {n q f lo mc ms : Nat} {As rest : List Value} {cs1 : List ec_C} {c1 : ec_C} (ha : a < h.1) (hc : ec_cI M.1.cls idx M' n) (hd : decode M.2.1 pc = .ok (.invokespecial idx, 3)) (hq : q < cs.length) (hst : st = As.reverse ++ .ref (h.1 + q) :: rest) (hn : As.length = n) (hca : ∀ v ∈ As, v.category = 1) (hle : As.length + 1 ≤ M'.2.2.1) (hcat : (rest.map fun v => v.category).sum ≤ 8)
    (hR : f + 1 ≤ R.frames ∧ 8 + (M'.2.2.1 + 11) + lo ≤ R.locals) (hR2 : uc + mc ≤ R.cells ∧ us + ms ≤ R.slots) (hF : ec_FI l D kA B f lo mc ms M' As (ec_x h cs a c) (h.1 + q) cs1 c1) (hcs : cs.set q c1 ++ cs1 = cs')
    (kk : ec_W l D kA B X R Z M (uc + mc) (us + ms) (pc + 3) L rest (ec_x h cs' a c)) : ec_W l D kA B X R Z M uc us pc L st (ec_x h cs a c) := by
  subst hcs
  refine e_callI hc hd hst hn hca hle hcat hR hR2 hF (fun v h1 hp => ?_)
  obtain ⟨rfl, rfl⟩ := hp
  rw [ec_x_sub ha hq]
  exact kk
theorem x_callN {idx : Nat} {M' : ec_M} {n q f lo mc ms : Nat} {As rest : List Value} {cs1 : List ec_C} {c1 : ec_C} (ha : a < h.1) (host : String) (hc : ec_cN M.1.cls idx M' n host) (hd : decode M.2.1 pc = .ok (.invokespecial idx, 3)) (hq : q < cs.length) (hst : st = As.reverse ++ .ref (h.1 + q) :: rest) (hn : As.length = n) (hca : ∀ v ∈ As, v.category = 1) (hle : As.length + 1 ≤ M'.2.2.1) (hcat : (rest.map fun v => v.category).sum ≤ 8)
    (hR : f + 1 ≤ R.frames ∧ 8 + (M'.2.2.1 + 11) + lo ≤ R.locals) (hR2 : uc + mc ≤ R.cells ∧ us + ms ≤ R.slots) (hF : ec_FI l D kA B f lo mc ms M' As (ec_x h cs a c) (h.1 + q) cs1 c1) (hcs : cs.set q c1 ++ cs1 = cs')
    (kk : ec_W l D kA B X R Z M (uc + mc) (us + ms) (pc + 3) L rest (ec_x h cs' a c)) : ec_W l D kA B X R Z M uc us pc L st (ec_x h cs a c) := by
  subst hcs
  refine e_callN host hc hd hst hn hca hle hcat hR hR2 hF (fun v h1 hp => ?_)
  obtain ⟨rfl, rfl⟩ := hp
  rw [ec_x_sub ha hq]
  exact kk
end CON
